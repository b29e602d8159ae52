/-! ===== the model, its rounds ===== -/
theorem jf_w_r (N : jf_B) {r r' : Nat} (j : Nat) (x : Int32) (hn : r' ≠ r) : jf_w N r j x r' = N r' := by simp [jf_w, va_up, hn]
theorem jf_w_s (N : jf_B) (r j : Nat) (x : Int32) : jf_w N r j x r j = x := by simp [jf_w, va_up, upd]
theorem jf_w_n (N : jf_B) {r r' j k : Nat} (x : Int32) (hn : ¬ (r' = r ∧ k = j)) : jf_w N r j x r' k = N r' k := by
  by_cases q : r' = r
  · subst q
    have : k ≠ j := fun z => hn ⟨rfl, z⟩
    simp [jf_w, va_up, upd, this]
  · simp [jf_w, va_up, q]
theorem jf_it_row {σ : Type} {f : Nat → σ → σ} {α : Type} (g : σ → α) (hf : ∀ i s, g (f i s) = g s) (s : σ) : ∀ n, g (jf_it f s n) = g s
  | 0 => rfl
  | n + 1 => by
    show g (f n (jf_it f s n)) = g s
    rw [hf, jf_it_row g hf s n]
theorem jk_lay_r (M : jf_B) (a c : Nat) (k : Int32) {r : Nat} (hr : r ≠ 1) : jk_lay M a c k r = M r := by unfold jk_lay; rw [jf_w_r _ _ _ hr, jf_w_r _ _ _ hr]
def jk_clr1 (i : Nat) (M : jf_B) : jf_B := jf_w (jf_w M 1 (24 + i) (-6)) 1 (88 + i) (nI 0)
theorem jk_clr1_r (i : Nat) (M : jf_B) {r : Nat} (hr : r ≠ 1) : jk_clr1 i M r = M r := by unfold jk_clr1; rw [jf_w_r _ _ _ hr, jf_w_r _ _ _ hr]
def jk_netS (i : Nat) (M : jf_B) : jf_B := jk_lay M (jk_let M (3 * i)).toNatClampNeg (jk_let M (3 * i + 1)).toNatClampNeg (M 4 (3 * i + 2) - nI 48)
theorem jk_netS_r (i : Nat) (M : jf_B) {r : Nat} (hr : r ≠ 1) : jk_netS i M r = M r := by unfold jk_netS; rw [jk_lay_r _ _ _ _ hr]
def jk_netM (M : jf_B) (i : Nat) : jf_B := jf_it jk_netS (jf_it jk_clr1 M 64) i
theorem jk_netM_r (M : jf_B) (i : Nat) {r : Nat} (hr : r ≠ 1) : jk_netM M i r = M r := by
  unfold jk_netM
  rw [jf_it_row (fun m => m r) (fun i m => jk_netS_r i m hr), jf_it_row (fun m => m r) (fun i m => jk_clr1_r i m hr)]
theorem jk_netM_s (M : jf_B) (i : Nat) : jk_netM M (i + 1) = jk_netS i (jk_netM M i) := rfl
theorem jk_netM_0 (M : jf_B) : jk_netM M 0 = jf_it jk_clr1 M 64 := rfl
theorem jk_let_c {M M' : jf_B} (h : M' 4 = M 4) (k : Nat) : jk_let M' k = jk_let M k := by unfold jk_let; rw [h]
theorem jk_ffd_none {M : jf_B} {n : Nat} (hn : n ≤ 40) : ∀ {d i : Nat}, i + d = n → jk_ffd M n d i < 0 → n % 3 = 0 ∧ ∀ k, i ≤ k → k < n → jk_stand M k = true
  | 0, i, hd, h => by
    unfold jk_ffd at h
    split at h
    · next c =>
      refine ⟨?_, fun k h1 h2 => by omega⟩
      have := (nI_eq (a := n % 3) (b := 0) (by omega) (by decide)).mp c
      exact this
    · exact absurd h (nI_pos (by omega))
  | d + 1, i, hd, h => by
    unfold jk_ffd at h
    split at h
    · next c =>
      obtain ⟨h1, h2⟩ := jk_ffd_none hn (d := d) (i := i + 1) (by omega) h
      refine ⟨h1, fun k h3 h4 => ?_⟩
      by_cases q : k = i
      · rw [q]; exact c
      · exact h2 k (by omega) h4
    · exact absurd h (nI_pos (by omega))
theorem jk_ff_none {M : jf_B} {n : Nat} (hn : n ≤ 40) (h : jk_ff M n < 0) : n % 3 = 0 ∧ ∀ k, k < n → jk_stand M k = true := by
  obtain ⟨h1, h2⟩ := jk_ffd_none hn (by omega) h
  exact ⟨h1, fun k hk => h2 k (by omega) hk⟩
theorem jk_let_of {M : jf_B} {k : Nat} (h : ¬ jk_let M k < 0) : ∃ a, a < 8 ∧ jk_let M k = nI a := by
  unfold jk_let at h ⊢
  split at h
  · next c =>
    rw [if_pos c]
    obtain ⟨j, h1, h2, e⟩ := jf_within_lo (by decide) (by decide) c
    exact ⟨j - 97, by omega, by rw [e, pk_sub h1]⟩
  · exact absurd (by decide) h
theorem jk_stand_n0 {M : jf_B} {i : Nat} (h : jk_stand M (3 * i) = true) : ∃ a, a < 8 ∧ jk_let M (3 * i) = nI a := by
  rw [jk_stand_0 (by omega)] at h
  split at h
  · cases h
  · next c => exact jk_let_of c
theorem jk_stand_n1 {M : jf_B} {i : Nat} (h : jk_stand M (3 * i + 1) = true) : ∃ a, a < 8 ∧ jk_let M (3 * i + 1) = nI a := by
  rw [jk_stand_1] at h
  unfold jk_new at h
  split at h
  · cases h
  · next c => exact jk_let_of c
def jk_net (n : Nat) (M : jf_B) : Int32 × jf_B := if jk_ff M n < 0 then (nI (jk_cnt (jf_w (jk_netM M (n / 3)) 0 4 (nI 0)) 64), jf_w (jk_netM M (n / 3)) 0 4 (nI 0)) else (-7, M)
set_option maxHeartbeats 1000000 in
set_option maxRecDepth 100000 in
theorem jc_X3_net (E : jp_E) (l : Launch) {h : jp_H} {M : jf_B} {L : jf_L} {n : Nat} (hn : M 0 4 = nI n) (h40 : n ≤ 40) : jc_M E l yX3_net wsX3_net ({ frames := 5, cells := 0, slots := 0, locals := 110 } : Room) [.ref (E.2.1 7 0)] (jp_u h 7 M L) (jp_R (some (.int (jk_net n M).1)) (jp_u h 7 (jk_net n M).2 L)) := by
  refine jc_of (cc := cX3_net) (maxL := 2) (ret := some .int) (own := RX3) (lv := [(0, _)]) (by decide) rfl rfl (Nat.le_of_ble_eq_true rfl) rfl (fun X cx => ?_)
  have inX3 : ∀ w ∈ u_ws RX3 TX3 11, w ∈ wsX3_net := by decide +kernel
  have f7 : Cond.fieldLink RX3 7 "JobSpreadModel" "state" "[I" ∈ wsX3_net := by decide +kernel
  have f20 : Cond.fieldLink RX3 20 "JobSpreadModel" "pad" "[I" ∈ wsX3_net := by decide +kernel
  have f60 : Cond.fieldLink RX3 60 "JobSpreadModel" "said" "I" ∈ wsX3_net := by decide +kernel
  refine jg_aload_n cx dX3_net_0 rfl ?_
  refine jg_callVi cx (n := 0) (jc_X3_fault E l hn h40) gX3_net_X3_fault rfl ⟨rfl, rfl⟩ ⟨(Nat.le_of_ble_eq_true rfl), (Nat.le_of_ble_eq_true rfl)⟩ (by decide +kernel) jp_mo_o rfl rfl rfl (Nat.le_of_ble_eq_true rfl) dX3_net_1 ?_
  refine jg_if_lt cx (tgt := 10) dX3_net_4 (by decide) (fun c4 => ?_) (fun c4 => ?_)
  · obtain ⟨hn3, hst⟩ := jk_ff_none h40 c4
    obtain ⟨m, rfl⟩ : ∃ m, n = 3 * m := ⟨n / 3, by omega⟩
    refine jg_iconst cx (v := nI 0) dX3_net_10 (by decide) ?_
    refine jg_istore_n cx (lv' := [(0, _), (1, _)]) dX3_net_11 (by decide) rfl ?_
    have lp12 : ∀ (d12 j : Nat), j + d12 = 64 → X 12 [(0, .ref (E.2.1 7 0)), (1, .int (nI j))] [] (jp_u h 7 (jf_it jk_clr1 M j) L) := by
      intro d12
      induction d12 with
      | zero =>
        intro j  hr12 
        obtain rfl : j = 64 := by omega
        refine jg_iload_n cx dX3_net_12 rfl ?_
        refine jg_bipush cx (v := nI 64) dX3_net_13 (by decide) ?_
        refine jg_icmpN_ge cx (tgt := 45) dX3_net_15 (by decide) (by omega) (by omega) (fun c15 => ?_) (fun c15 => ?_)
        · refine jg_iconst cx (v := nI 0) dX3_net_45 (by decide) ?_
          refine jg_istore_n cx (lv' := [(0, _), (1, _)]) dX3_net_46 (by decide) rfl ?_
          have lp47 : ∀ (d47 i : Nat), i + d47 = m → X 47 [(0, .ref (E.2.1 7 0)), (1, .int (nI (3 * i)))] [] (jp_u h 7 (jk_netM M i) L) := by
            intro d47
            induction d47 with
            | zero =>
              intro i  hr47 
              refine jg_iload_n cx dX3_net_47 rfl ?_
              refine jg_aload_n cx dX3_net_48 rfl ?_
              refine jg_getU cx jp_mo_o rfl inX3 4 (by decide) f60 rfl dX3_net_49 ?_
              rw [jk_netM_r M i (by decide), hn]
              refine jg_icmpN_ge cx (tgt := 88) dX3_net_52 (by decide) (by omega) (by omega) (fun c52 => ?_) (fun c52 => ?_)
              · refine jg_aload_n cx dX3_net_88 rfl ?_
                refine jg_iconst cx (v := nI 0) dX3_net_89 (by decide) ?_
                refine jg_putU cx jp_mo_o rfl inX3 tyX3 tyX3_ok nmX3 4 (by decide) f60 rfl (by decide +kernel) (Nat.le_of_ble_eq_true rfl) (jp_put3_4 _ _ _) dX3_net_90 ?_
                refine jg_aload_n cx dX3_net_93 rfl ?_
                refine jg_callVi cx (n := 0) (jc_X3_edges E l) gX3_net_X3_edges rfl ⟨rfl, rfl⟩ ⟨(Nat.le_of_ble_eq_true rfl), (Nat.le_of_ble_eq_true rfl)⟩ (by decide +kernel) jp_mo_o rfl rfl rfl (Nat.le_of_ble_eq_true rfl) dX3_net_94 ?_
                exact jg_iret cx dX3_net_97 (⟨by unfold jk_net; rw [if_pos c4, show 3 * m / 3 = i by omega], by unfold jk_net; rw [if_pos c4, show 3 * m / 3 = i by omega]⟩)
              · exact absurd hr47 (by omega)
            | succ d47 ih47 =>
              intro i  hr47 
              refine jg_iload_n cx dX3_net_47 rfl ?_
              refine jg_aload_n cx dX3_net_48 rfl ?_
              refine jg_getU cx jp_mo_o rfl inX3 4 (by decide) f60 rfl dX3_net_49 ?_
              rw [jk_netM_r M i (by decide), hn]
              refine jg_icmpN_ge cx (tgt := 88) dX3_net_52 (by decide) (by omega) (by omega) (fun c52 => ?_) (fun c52 => ?_)
              · exact absurd hr47 (by omega)
              · refine jg_aload_n cx dX3_net_55 rfl ?_
                refine jg_aload_n cx dX3_net_56 rfl ?_
                refine jg_iload_n cx dX3_net_57 rfl ?_
                refine jg_callVi cx (n := 1) (jc_X3_letter E l (by omega)) gX3_net_X3_letter rfl ⟨rfl, rfl⟩ ⟨(Nat.le_of_ble_eq_true rfl), (Nat.le_of_ble_eq_true rfl)⟩ (by decide +kernel) jp_mo_o rfl rfl rfl (Nat.le_of_ble_eq_true rfl) dX3_net_58 ?_
                refine jg_aload_n cx dX3_net_61 rfl ?_
                refine jg_iload_n cx dX3_net_62 rfl ?_
                refine jg_iconst cx (v := nI 1) dX3_net_63 (by decide) ?_
                refine jg_iaddN cx dX3_net_64 ?_
                refine jg_callVi cx (n := 1) (jc_X3_letter E l (by omega)) gX3_net_X3_letter rfl ⟨rfl, rfl⟩ ⟨(Nat.le_of_ble_eq_true rfl), (Nat.le_of_ble_eq_true rfl)⟩ (by decide +kernel) jp_mo_o rfl rfl rfl (Nat.le_of_ble_eq_true rfl) dX3_net_65 ?_
                refine jg_aload_n cx dX3_net_68 rfl ?_
                refine jg_get cx jp_mo_o rfl inX3 3 (by decide) f20 rfl dX3_net_69 ?_
                refine jg_iload_n cx dX3_net_72 rfl ?_
                refine jg_iconst cx (v := nI 2) dX3_net_73 (by decide) ?_
                refine jg_iaddN cx dX3_net_74 ?_
                refine jg_ialdU cx dX3_net_75 (jp_mo_4) rfl (by omega) ?_
                refine jg_bipush cx (v := nI 48) dX3_net_76 (by decide) ?_
                refine jg_isub cx dX3_net_78 ?_
                obtain ⟨a, ha, ea⟩ := jk_stand_n0 (hst (3 * i) (by omega))
                obtain ⟨c, hc, ec⟩ := jk_stand_n1 (hst (3 * i + 1) (by omega))
                have e4 : jk_netM M i 4 = M 4 := jk_netM_r M i (by decide)
                have ea1 : jk_let (jk_netM M i) (3 * i) = nI a := (jk_let_c e4 _).trans ea
                have ec1 : jk_let (jk_netM M i) (3 * i + 1) = nI c := (jk_let_c e4 _).trans ec
                have ea2 : (jk_let (jk_netM M i) (3 * i)).toNatClampNeg = a := by rw [ea1]; exact nI_clamp (by omega)
                have ec2 : (jk_let (jk_netM M i) (3 * i + 1)).toNatClampNeg = c := by rw [ec1]; exact nI_clamp (by omega)
                rw [ea1, ec1]
                refine jg_callVv cx (n := 3) (jc_X3_lay E l (by omega) (by omega)) gX3_net_X3_lay rfl ⟨rfl, rfl⟩ ⟨(Nat.le_of_ble_eq_true rfl), (Nat.le_of_ble_eq_true rfl)⟩ (by decide +kernel) jp_mo_o rfl rfl rfl (Nat.le_of_ble_eq_true rfl) dX3_net_79 ?_
                refine jg_iincN cx (d := 3) (lv' := [(0, _), (1, _)]) dX3_net_82 rfl (by decide) (by decide) rfl ?_
                refine jg_goto cx (tgt := 47) dX3_net_85 (by decide) ?_
                exact jg_to (ih47 (i + 1)  (by omega) ) rfl rfl (by simp only [jk_netM_s, jk_netS, ea2, ec2])
          exact jg_to (lp47 m 0  (by omega) ) rfl rfl (by first | with_reducible rfl | (simp only [jk_netM_0, if_pos c4, ↓reduceIte, Bool.false_eq_true, Bool.true_eq_false, reduceCtorEq, eq_self, if_true, if_false, Bool.not_true, Bool.not_false]; first | done | rfl))
        · exact absurd hr12 (by omega)
      | succ d12 ih12 =>
        intro j  hr12 
        refine jg_iload_n cx dX3_net_12 rfl ?_
        refine jg_bipush cx (v := nI 64) dX3_net_13 (by decide) ?_
        refine jg_icmpN_ge cx (tgt := 45) dX3_net_15 (by decide) (by omega) (by omega) (fun c15 => ?_) (fun c15 => ?_)
        · exact absurd hr12 (by omega)
        · refine jg_aload_n cx dX3_net_18 rfl ?_
          refine jg_get cx jp_mo_o rfl inX3 0 (by decide) f7 rfl dX3_net_19 ?_
          refine jg_bipush cx (v := nI 24) dX3_net_22 (by decide) ?_
          refine jg_iload_n cx dX3_net_24 rfl ?_
          refine jg_iaddN cx dX3_net_25 ?_
          refine jg_bipush cx (v := (-6)) dX3_net_26 (by decide) ?_
          refine jg_iastU cx dX3_net_28 (jp_mo_1) rfl (by omega) ?_
          refine jg_aload_n cx dX3_net_29 rfl ?_
          refine jg_get cx jp_mo_o rfl inX3 0 (by decide) f7 rfl dX3_net_30 ?_
          refine jg_bipush cx (v := nI 88) dX3_net_33 (by decide) ?_
          refine jg_iload_n cx dX3_net_35 rfl ?_
          refine jg_iaddN cx dX3_net_36 ?_
          refine jg_iconst cx (v := nI 0) dX3_net_37 (by decide) ?_
          refine jg_iastU cx dX3_net_38 (jp_mo_1) rfl (by omega) ?_
          refine jg_iincN cx (d := 1) (lv' := [(0, _), (1, _)]) dX3_net_39 rfl (by decide) (by decide) rfl ?_
          refine jg_goto cx (tgt := 12) dX3_net_42 (by decide) ?_
          exact jg_to (ih12 (j + 1)  (by omega) ) rfl rfl rfl
    exact jg_to (lp12 64 0  (by omega) ) rfl rfl rfl
  · refine jg_bipush cx (v := (-7)) dX3_net_7 (by decide) ?_
    exact jg_iret cx dX3_net_9 (⟨by unfold jk_net; rw [if_neg c4], by unfold jk_net; rw [if_neg c4]⟩)
def jk_jobs (x : Int32) (M : jf_B) : Int32 := if jf_within x (nI 0) (nI 7) then M 1 (8 + x.toNatClampNeg) + nI 10000 else -1
set_option maxHeartbeats 1000000 in
set_option maxRecDepth 100000 in
theorem jc_X3_jobs (E : jp_E) (l : Launch) {h : jp_H} {M : jf_B} {L : jf_L} {x : Int32} : jc_M E l yX3_jobs wsX3_jobs ({ frames := 2, cells := 0, slots := 0, locals := 42 } : Room) [.ref (E.2.1 7 0), .int x] (jp_u h 7 M L) (jp_R (some (.int (jk_jobs x M))) (jp_u h 7 (M) L)) := by
  refine jc_of (cc := cX3_jobs) (maxL := 2) (ret := some .int) (own := RX3) (lv := [(0, _), (1, _)]) (by decide) rfl rfl (Nat.le_of_ble_eq_true rfl) rfl (fun X cx => ?_)
  have inX3 : ∀ w ∈ u_ws RX3 TX3 11, w ∈ wsX3_jobs := by decide +kernel
  have f7 : Cond.fieldLink RX3 7 "JobSpreadModel" "state" "[I" ∈ wsX3_jobs := by decide +kernel
  refine jg_iload_n cx dX3_jobs_0 rfl ?_
  refine jg_callSi cx (n := 1) (jc_X3_isNode E l) gX3_jobs_X3_isNode rfl ⟨rfl, rfl⟩ ⟨(Nat.le_of_ble_eq_true rfl), (Nat.le_of_ble_eq_true rfl)⟩ (by decide +kernel) rfl rfl (Nat.le_of_ble_eq_true rfl) dX3_jobs_1 ?_
  refine jg_ifb_eq cx (tgt := 23) dX3_jobs_4 (by decide) (fun c4 => ?_) (fun c4 => ?_)
  · refine jg_iconst cx (v := (-1)) dX3_jobs_23 (by decide) ?_
    exact jg_iret cx dX3_jobs_24 (⟨by first | (simp only [jk_jobs, c4, ei, ↓reduceIte]; done) | (simp only [jk_jobs, c4, ↓reduceIte, Bool.false_eq_true]; done), rfl⟩)
  · obtain ⟨i, hi, rfl⟩ := jf_node_of c4
    have ei : (nI i).toNatClampNeg = i := nI_clamp (by omega)
    refine jg_aload_n cx dX3_jobs_7 rfl ?_
    refine jg_get cx jp_mo_o rfl inX3 0 (by decide) f7 rfl dX3_jobs_8 ?_
    refine jg_bipush cx (v := nI 8) dX3_jobs_11 (by decide) ?_
    refine jg_iload_n cx dX3_jobs_13 rfl ?_
    refine jg_iaddN cx dX3_jobs_14 ?_
    refine jg_ialdU cx dX3_jobs_15 (jp_mo_1) rfl (by omega) ?_
    refine jg_sipush cx (v := nI 10000) dX3_jobs_16 (by decide) ?_
    refine jg_iadd cx dX3_jobs_19 ?_
    refine jg_goto cx (tgt := 24) dX3_jobs_20 (by decide) ?_
    exact jg_iret cx dX3_jobs_24 (⟨by first | (simp only [jk_jobs, c4, ei, ↓reduceIte]; done) | (simp only [jk_jobs, c4, ↓reduceIte, Bool.false_eq_true]; done), rfl⟩)
def jk_sl (M : jf_B) (i : Nat) : Nat := jk_deg M i 8 + 1
theorem jk_sl_ne (M : jf_B) (i : Nat) : ¬ nI (jk_deg M i 8 + 1) = 0 := nI_ne0 (by omega) (by have := jk_deg_le M i 8; omega)
def jk_rlo (M : jf_B) (i : Nat) : Int32 := jf_rem (M 1 (16 + i)) (nI (jk_deg M i 8 + 1))
def jk_told (x w : Int32) (M : jf_B) : Int32 :=
  if jf_within x (nI 0) (nI 7) then
    (if jf_within w (nI 10) (nI 17) then (if jk_edge M x.toNatClampNeg (w.toNatClampNeg - 10) then M 1 (24 + jf_spot x.toNatClampNeg (w.toNatClampNeg - 10)) else -6)
    else (if w = nI 0 then M 1 (0 + x.toNatClampNeg) else if w = nI 1 then nI (jk_deg M x.toNatClampNeg 8) else if w = nI 2 then jk_rlo M x.toNatClampNeg else -2))
  else -1
set_option maxHeartbeats 1000000 in
set_option maxRecDepth 100000 in
theorem jc_X3_told (E : jp_E) (l : Launch) {h : jp_H} {M : jf_B} {L : jf_L} {x w : Int32} : jc_M E l yX3_told wsX3_told ({ frames := 3, cells := 0, slots := 0, locals := 66 } : Room) [.ref (E.2.1 7 0), .int x, .int w] (jp_u h 7 M L) (jp_R (some (.int (jk_told x w M))) (jp_u h 7 (M) L)) := by
  refine jc_of (cc := cX3_told) (maxL := 3) (ret := some .int) (own := RX3) (lv := [(0, _), (1, _), (2, _)]) (by decide) rfl rfl (Nat.le_of_ble_eq_true rfl) rfl (fun X cx => ?_)
  have inX3 : ∀ w ∈ u_ws RX3 TX3 11, w ∈ wsX3_told := by decide +kernel
  have f7 : Cond.fieldLink RX3 7 "JobSpreadModel" "state" "[I" ∈ wsX3_told := by decide +kernel
  refine jg_iload_n cx dX3_told_0 rfl ?_
  refine jg_callSi cx (n := 1) (jc_X3_isNode E l) gX3_told_X3_isNode rfl ⟨rfl, rfl⟩ ⟨(Nat.le_of_ble_eq_true rfl), (Nat.le_of_ble_eq_true rfl)⟩ (by decide +kernel) rfl rfl (Nat.le_of_ble_eq_true rfl) dX3_told_1 ?_
  refine jg_ifb_ne cx (tgt := 9) dX3_told_4 (by decide) (fun c4 => ?_) (fun c4 => ?_)
  · obtain ⟨i, hi, rfl⟩ := jf_node_of c4
    have ei : (nI i).toNatClampNeg = i := nI_clamp (by omega)
    refine jg_iload_n cx dX3_told_9 rfl ?_
    refine jg_bipush cx (v := nI 10) dX3_told_10 (by decide) ?_
    refine jg_bipush cx (v := nI 17) dX3_told_12 (by decide) ?_
    refine jg_callSi cx (n := 3) (jc_X3_in E l) gX3_told_X3_in rfl ⟨rfl, rfl⟩ ⟨(Nat.le_of_ble_eq_true rfl), (Nat.le_of_ble_eq_true rfl)⟩ (by decide +kernel) rfl rfl (Nat.le_of_ble_eq_true rfl) dX3_told_14 ?_
    refine jg_ifb_eq cx (tgt := 54) dX3_told_17 (by decide) (fun c17 => ?_) (fun c17 => ?_)
    · refine jg_iload_n cx dX3_told_54 rfl ?_
      rcases Classical.em (w = nI 0) with q0 | q0
      · subst q0
        refine jg_tableIn cx (off := 25) (tgt := 80) dX3_told_55 (by decide) (by decide) (by decide) (by decide) ?_
        refine jg_aload_n cx dX3_told_80 rfl ?_
        refine jg_get cx jp_mo_o rfl inX3 0 (by decide) f7 rfl dX3_told_81 ?_
        refine jg_iconst cx (v := nI 0) dX3_told_84 (by decide) ?_
        refine jg_iload_n cx dX3_told_85 rfl ?_
        refine jg_iaddN cx dX3_told_86 ?_
        refine jg_ialdU cx dX3_told_87 (jp_mo_1) rfl (by omega) ?_
        exact jg_iret cx dX3_told_88 (⟨(by first | with_reducible rfl | (simp only [jk_told, ei, c4, c17, ↓reduceIte, Bool.false_eq_true, Bool.true_eq_false, reduceCtorEq, eq_self, if_true, if_false, Bool.not_true, Bool.not_false]; first | done | rfl)), rfl⟩)
      · rcases Classical.em (w = nI 1) with q1 | q1
        · subst q1
          refine jg_tableIn cx (off := 34) (tgt := 89) dX3_told_55 (by decide) (by decide) (by decide) (by decide) ?_
          refine jg_aload_n cx dX3_told_89 rfl ?_
          refine jg_iload_n cx dX3_told_90 rfl ?_
          refine jg_callVi cx (n := 1) (jc_X3_edgesOf E l (by omega)) gX3_told_X3_edgesOf rfl ⟨rfl, rfl⟩ ⟨(Nat.le_of_ble_eq_true rfl), (Nat.le_of_ble_eq_true rfl)⟩ (by decide +kernel) jp_mo_o rfl rfl rfl (Nat.le_of_ble_eq_true rfl) dX3_told_91 ?_
          exact jg_iret cx dX3_told_94 (⟨by simp only [jk_told, c4, c17, ei, ↓reduceIte, Bool.false_eq_true, if_neg (show ¬ nI 1 = nI 0 by decide)], rfl⟩)
        · rcases Classical.em (w = nI 2) with q2 | q2
          · subst q2
            refine jg_tableIn cx (off := 40) (tgt := 95) dX3_told_55 (by decide) (by decide) (by decide) (by decide) ?_
            refine jg_aload_n cx dX3_told_95 rfl ?_
            refine jg_get cx jp_mo_o rfl inX3 0 (by decide) f7 rfl dX3_told_96 ?_
            refine jg_bipush cx (v := nI 16) dX3_told_99 (by decide) ?_
            refine jg_iload_n cx dX3_told_101 rfl ?_
            refine jg_iaddN cx dX3_told_102 ?_
            refine jg_ialdU cx dX3_told_103 (jp_mo_1) rfl (by omega) ?_
            refine jg_aload_n cx dX3_told_104 rfl ?_
            refine jg_iload_n cx dX3_told_105 rfl ?_
            refine jg_callVi cx (n := 1) (jc_X3_edgesOf E l (by omega)) gX3_told_X3_edgesOf rfl ⟨rfl, rfl⟩ ⟨(Nat.le_of_ble_eq_true rfl), (Nat.le_of_ble_eq_true rfl)⟩ (by decide +kernel) jp_mo_o rfl rfl rfl (Nat.le_of_ble_eq_true rfl) dX3_told_106 ?_
            refine jg_iconst cx (v := nI 1) dX3_told_109 (by decide) ?_
            refine jg_iaddN cx dX3_told_110 ?_
            refine jg_irem cx dX3_told_111 (jk_sl_ne M i) ?_
            exact jg_iret cx dX3_told_112 (⟨by simp only [jk_told, jk_rlo, c4, c17, ei, ↓reduceIte, Bool.false_eq_true, if_neg (show ¬ nI 2 = nI 0 by decide), if_neg (show ¬ nI 2 = nI 1 by decide)], rfl⟩)
          · refine jg_tableOut cx (tgt := 113) dX3_told_55 (jf_out w 2 (by decide) (jf_lt3 (P := True) q0 q1 q2)) (by decide) ?_
            refine jg_bipush cx (v := (-2)) dX3_told_113 (by decide) ?_
            exact jg_iret cx dX3_told_115 (⟨by simp only [jk_told, c4, c17, ei, ↓reduceIte, Bool.false_eq_true, if_neg q0, if_neg q1, if_neg q2], rfl⟩)
    · obtain ⟨j, hj1, hj2, rfl⟩ := jf_within_lo (by decide) (by decide) c17
      have ej : (nI j).toNatClampNeg = j := nI_clamp (by omega)
      refine jg_aload_n cx dX3_told_20 rfl ?_
      refine jg_iload_n cx dX3_told_21 rfl ?_
      refine jg_iload_n cx dX3_told_22 rfl ?_
      refine jg_bipush cx (v := nI 10) dX3_told_23 (by decide) ?_
      refine jg_isubN cx dX3_told_25 (by omega) ?_
      refine jg_callVi cx (n := 2) (jc_X3_isEdge E l (by omega) (by omega)) gX3_told_X3_isEdge rfl ⟨rfl, rfl⟩ ⟨(Nat.le_of_ble_eq_true rfl), (Nat.le_of_ble_eq_true rfl)⟩ (by decide +kernel) jp_mo_o rfl rfl rfl (Nat.le_of_ble_eq_true rfl) dX3_told_26 ?_
      refine jg_ifb_eq cx (tgt := 51) dX3_told_29 (by decide) (fun c29 => ?_) (fun c29 => ?_)
      · refine jg_bipush cx (v := (-6)) dX3_told_51 (by decide) ?_
        exact jg_iret cx dX3_told_53 (⟨(by first | with_reducible rfl | (simp only [jk_told, ei, ej, c4, c17, c29, ↓reduceIte, Bool.false_eq_true, Bool.true_eq_false, reduceCtorEq, eq_self, if_true, if_false, Bool.not_true, Bool.not_false]; first | done | rfl)), rfl⟩)
      · refine jg_aload_n cx dX3_told_32 rfl ?_
        refine jg_get cx jp_mo_o rfl inX3 0 (by decide) f7 rfl dX3_told_33 ?_
        refine jg_bipush cx (v := nI 24) dX3_told_36 (by decide) ?_
        refine jg_iload_n cx dX3_told_38 rfl ?_
        refine jg_iload_n cx dX3_told_39 rfl ?_
        refine jg_bipush cx (v := nI 10) dX3_told_40 (by decide) ?_
        refine jg_isubN cx dX3_told_42 (by omega) ?_
        refine jg_callSi cx (n := 2) (jc_X3_pairN E l (by omega) (by omega)) gX3_told_X3_pair rfl ⟨rfl, rfl⟩ ⟨(Nat.le_of_ble_eq_true rfl), (Nat.le_of_ble_eq_true rfl)⟩ (by decide +kernel) rfl rfl (Nat.le_of_ble_eq_true rfl) dX3_told_43 ?_
        refine jg_iaddN cx dX3_told_46 ?_
        refine jg_ialdU cx dX3_told_47 (jp_mo_1) rfl (by have := jf_spot_lt (a := i) (c := j - 10) (by omega) (by omega); omega) ?_
        refine jg_goto cx (tgt := 53) dX3_told_48 (by decide) ?_
        exact jg_iret cx dX3_told_53 (⟨(by first | with_reducible rfl | (simp only [jk_told, ei, ej, c4, c17, c29, ↓reduceIte, Bool.false_eq_true, Bool.true_eq_false, reduceCtorEq, eq_self, if_true, if_false, Bool.not_true, Bool.not_false]; first | done | rfl)), rfl⟩)
  · refine jg_iconst cx (v := (-1)) dX3_told_7 (by decide) ?_
    exact jg_iret cx dX3_told_8 (⟨(by first | with_reducible rfl | (simp only [jk_told, c4, ↓reduceIte, Bool.false_eq_true, Bool.true_eq_false, reduceCtorEq, eq_self, if_true, if_false, Bool.not_true, Bool.not_false]; first | done | rfl)), rfl⟩)
def jk_carry (x y : Int32) (M : jf_B) : Int32 :=
  if jf_within x (nI 0) (nI 7) then
    (if jf_within y (nI 0) (nI 7) then
      (if x = y then -2 else
        (if jk_edge M x.toNatClampNeg y.toNatClampNeg then M 1 (88 + jf_spot x.toNatClampNeg y.toNatClampNeg) + nI 10000 else -6))
    else -1)
  else -1
set_option maxHeartbeats 1000000 in
set_option maxRecDepth 100000 in
theorem jc_X3_carry (E : jp_E) (l : Launch) {h : jp_H} {M : jf_B} {L : jf_L} {x y : Int32} : jc_M E l yX3_carry wsX3_carry ({ frames := 2, cells := 0, slots := 0, locals := 43 } : Room) [.ref (E.2.1 7 0), .int x, .int y] (jp_u h 7 M L) (jp_R (some (.int (jk_carry x y M))) (jp_u h 7 (M) L)) := by
  refine jc_of (cc := cX3_carry) (maxL := 3) (ret := some .int) (own := RX3) (lv := [(0, _), (1, _), (2, _)]) (by decide) rfl rfl (Nat.le_of_ble_eq_true rfl) rfl (fun X cx => ?_)
  have inX3 : ∀ w ∈ u_ws RX3 TX3 11, w ∈ wsX3_carry := by decide +kernel
  have f7 : Cond.fieldLink RX3 7 "JobSpreadModel" "state" "[I" ∈ wsX3_carry := by decide +kernel
  refine jg_iload_n cx dX3_carry_0 rfl ?_
  refine jg_callSi cx (n := 1) (jc_X3_isNode E l) gX3_carry_X3_isNode rfl ⟨rfl, rfl⟩ ⟨(Nat.le_of_ble_eq_true rfl), (Nat.le_of_ble_eq_true rfl)⟩ (by decide +kernel) rfl rfl (Nat.le_of_ble_eq_true rfl) dX3_carry_1 ?_
  refine jg_ifb_eq cx (tgt := 14) dX3_carry_4 (by decide) (fun c4 => ?_) (fun c4 => ?_)
  · refine jg_iconst cx (v := (-1)) dX3_carry_14 (by decide) ?_
    exact jg_iret cx dX3_carry_15 (⟨(by first | with_reducible rfl | (simp only [jk_carry, c4, ↓reduceIte, Bool.false_eq_true, Bool.true_eq_false, reduceCtorEq, eq_self, if_true, if_false, Bool.not_true, Bool.not_false]; first | done | rfl)), rfl⟩)
  · obtain ⟨a, ha, rfl⟩ := jf_node_of c4
    have ea : (nI a).toNatClampNeg = a := nI_clamp (by omega)
    refine jg_iload_n cx dX3_carry_7 rfl ?_
    refine jg_callSi cx (n := 1) (jc_X3_isNode E l) gX3_carry_X3_isNode rfl ⟨rfl, rfl⟩ ⟨(Nat.le_of_ble_eq_true rfl), (Nat.le_of_ble_eq_true rfl)⟩ (by decide +kernel) rfl rfl (Nat.le_of_ble_eq_true rfl) dX3_carry_8 ?_
    refine jg_ifb_ne cx (tgt := 16) dX3_carry_11 (by decide) (fun c11 => ?_) (fun c11 => ?_)
    · obtain ⟨c, hc, rfl⟩ := jf_node_of c11
      have ec : (nI c).toNatClampNeg = c := nI_clamp (by omega)
      refine jg_iload_n cx dX3_carry_16 rfl ?_
      refine jg_iload_n cx dX3_carry_17 rfl ?_
      refine jg_icmp_ne cx (tgt := 24) dX3_carry_18 (by decide) (fun c18 => ?_) (fun c18 => ?_)
      · refine jg_aload_n cx dX3_carry_24 rfl ?_
        refine jg_iload_n cx dX3_carry_25 rfl ?_
        refine jg_iload_n cx dX3_carry_26 rfl ?_
        refine jg_callVi cx (n := 2) (jc_X3_isEdge E l (by omega) (by omega)) gX3_carry_X3_isEdge rfl ⟨rfl, rfl⟩ ⟨(Nat.le_of_ble_eq_true rfl), (Nat.le_of_ble_eq_true rfl)⟩ (by decide +kernel) jp_mo_o rfl rfl rfl (Nat.le_of_ble_eq_true rfl) dX3_carry_27 ?_
        refine jg_ifb_eq cx (tgt := 53) dX3_carry_30 (by decide) (fun c30 => ?_) (fun c30 => ?_)
        · refine jg_bipush cx (v := (-6)) dX3_carry_53 (by decide) ?_
          exact jg_iret cx dX3_carry_55 (⟨(by first | with_reducible rfl | (simp only [jk_carry, ea, ec, c4, c11, if_neg c18, c30, ↓reduceIte, Bool.false_eq_true, Bool.true_eq_false, reduceCtorEq, eq_self, if_true, if_false, Bool.not_true, Bool.not_false]; first | done | rfl)), rfl⟩)
        · refine jg_aload_n cx dX3_carry_33 rfl ?_
          refine jg_get cx jp_mo_o rfl inX3 0 (by decide) f7 rfl dX3_carry_34 ?_
          refine jg_bipush cx (v := nI 88) dX3_carry_37 (by decide) ?_
          refine jg_iload_n cx dX3_carry_39 rfl ?_
          refine jg_iload_n cx dX3_carry_40 rfl ?_
          refine jg_callSi cx (n := 2) (jc_X3_pairN E l (by omega) (by omega)) gX3_carry_X3_pair rfl ⟨rfl, rfl⟩ ⟨(Nat.le_of_ble_eq_true rfl), (Nat.le_of_ble_eq_true rfl)⟩ (by decide +kernel) rfl rfl (Nat.le_of_ble_eq_true rfl) dX3_carry_41 ?_
          refine jg_iaddN cx dX3_carry_44 ?_
          refine jg_ialdU cx dX3_carry_45 (jp_mo_1) rfl (by have := jf_spot_lt (a := a) (c := c) (by omega) (by omega); omega) ?_
          refine jg_sipush cx (v := nI 10000) dX3_carry_46 (by decide) ?_
          refine jg_iadd cx dX3_carry_49 ?_
          refine jg_goto cx (tgt := 55) dX3_carry_50 (by decide) ?_
          exact jg_iret cx dX3_carry_55 (⟨(by first | with_reducible rfl | (simp only [jk_carry, ea, ec, c4, c11, if_neg c18, c30, ↓reduceIte, Bool.false_eq_true, Bool.true_eq_false, reduceCtorEq, eq_self, if_true, if_false, Bool.not_true, Bool.not_false]; first | done | rfl)), rfl⟩)
      · refine jg_bipush cx (v := (-2)) dX3_carry_21 (by decide) ?_
        exact jg_iret cx dX3_carry_23 (⟨(by first | with_reducible rfl | (simp only [jk_carry, c4, c11, if_pos c18, ↓reduceIte, Bool.false_eq_true, Bool.true_eq_false, reduceCtorEq, eq_self, if_true, if_false, Bool.not_true, Bool.not_false]; first | done | rfl)), rfl⟩)
    · refine jg_iconst cx (v := (-1)) dX3_carry_14 (by decide) ?_
      exact jg_iret cx dX3_carry_15 (⟨(by first | with_reducible rfl | (simp only [jk_carry, c4, c11, ↓reduceIte, Bool.false_eq_true, Bool.true_eq_false, reduceCtorEq, eq_self, if_true, if_false, Bool.not_true, Bool.not_false]; first | done | rfl)), rfl⟩)
def jk_most (M : jf_B) : Nat → Nat
  | 0 => 0
  | i + 1 => if jk_deg M i 8 ≤ jk_most M i then jk_most M i else jk_deg M i 8
theorem jk_most_le (M : jf_B) : ∀ i, jk_most M i ≤ 8
  | 0 => Nat.zero_le 8
  | i + 1 => by
    unfold jk_most
    have := jk_most_le M i
    have := jk_deg_le M i 8
    split <;> omega
def jk_meas (M : jf_B) : Nat := 4 * (1 + jk_most M 8)
set_option maxHeartbeats 1000000 in
set_option maxRecDepth 100000 in
theorem jc_X3_measure (E : jp_E) (l : Launch) {h : jp_H} {M : jf_B} {L : jf_L}  : jc_M E l yX3_measure wsX3_measure ({ frames := 3, cells := 0, slots := 0, locals := 66 } : Room) [.ref (E.2.1 7 0)] (jp_u h 7 M L) (jp_R (some (.int (nI (jk_meas M)))) (jp_u h 7 (M) L)) := by
  refine jc_of (cc := cX3_measure) (maxL := 3) (ret := some .int) (own := RX3) (lv := [(0, _)]) (by decide) rfl rfl (Nat.le_of_ble_eq_true rfl) rfl (fun X cx => ?_)
  refine jg_iconst cx (v := nI 0) dX3_measure_0 (by decide) ?_
  refine jg_istore_n cx (lv' := [(0, _), (1, _)]) dX3_measure_1 (by decide) rfl ?_
  refine jg_iconst cx (v := nI 0) dX3_measure_2 (by decide) ?_
  refine jg_istore_n cx (lv' := [(0, _), (1, _), (2, _)]) dX3_measure_3 (by decide) rfl ?_
  have lp4 : ∀ (d4 i : Nat), i + d4 = 8 → X 4 [(0, .ref (E.2.1 7 0)), (1, .int (nI (jk_most M i))), (2, .int (nI i))] [] (jp_u h 7 M L) := by
    intro d4
    induction d4 with
    | zero =>
      intro i  hr4 
      obtain rfl : i = 8 := by omega
      refine jg_iload_n cx dX3_measure_4 rfl ?_
      refine jg_bipush cx (v := nI 8) dX3_measure_5 (by decide) ?_
      refine jg_icmpN_ge cx (tgt := 35) dX3_measure_7 (by decide) (by omega) (by omega) (fun c7 => ?_) (fun c7 => ?_)
      · refine jg_iconst cx (v := nI 4) dX3_measure_35 (by decide) ?_
        refine jg_iconst cx (v := nI 1) dX3_measure_36 (by decide) ?_
        refine jg_iload_n cx dX3_measure_37 rfl ?_
        refine jg_iaddN cx dX3_measure_38 ?_
        refine jg_imulN cx dX3_measure_39 ?_
        exact jg_iret cx dX3_measure_40 (⟨rfl, rfl⟩)
      · exact absurd hr4 (by omega)
    | succ d4 ih4 =>
      intro i  hr4 
      refine jg_iload_n cx dX3_measure_4 rfl ?_
      refine jg_bipush cx (v := nI 8) dX3_measure_5 (by decide) ?_
      refine jg_icmpN_ge cx (tgt := 35) dX3_measure_7 (by decide) (by omega) (by omega) (fun c7 => ?_) (fun c7 => ?_)
      · exact absurd hr4 (by omega)
      · refine jg_aload_n cx dX3_measure_10 rfl ?_
        refine jg_iload_n cx dX3_measure_11 rfl ?_
        refine jg_callVi cx (n := 1) (jc_X3_edgesOf E l (by omega)) gX3_measure_X3_edgesOf rfl ⟨rfl, rfl⟩ ⟨(Nat.le_of_ble_eq_true rfl), (Nat.le_of_ble_eq_true rfl)⟩ (by decide +kernel) jp_mo_o rfl rfl rfl (Nat.le_of_ble_eq_true rfl) dX3_measure_12 ?_
        refine jg_iload_n cx dX3_measure_15 rfl ?_
        refine jg_icmpN_le cx (tgt := 27) dX3_measure_16 (by decide) (by have := jk_deg_le M i 8; omega) (by have := jk_most_le M i; omega) (fun c16 => ?_) (fun c16 => ?_)
        · refine jg_iload_n cx dX3_measure_27 rfl ?_
          refine jg_istore_n cx (lv' := [(0, _), (1, _), (2, _)]) dX3_measure_28 (by decide) rfl ?_
          refine jg_iincN cx (d := 1) (lv' := [(0, _), (1, _), (2, _)]) dX3_measure_29 rfl (by decide) (by decide) rfl ?_
          refine jg_goto cx (tgt := 4) dX3_measure_32 (by decide) ?_
          exact jg_to (ih4 (i + 1)  (by omega) ) (by first | with_reducible rfl | (simp only [jk_most, if_pos c16, ↓reduceIte, Bool.false_eq_true, Bool.true_eq_false, reduceCtorEq, eq_self, if_true, if_false, Bool.not_true, Bool.not_false]; first | done | rfl)) (by first | with_reducible rfl | (simp only [jk_most, if_pos c16, ↓reduceIte, Bool.false_eq_true, Bool.true_eq_false, reduceCtorEq, eq_self, if_true, if_false, Bool.not_true, Bool.not_false]; first | done | rfl)) (by first | with_reducible rfl | (simp only [jk_most, if_pos c16, ↓reduceIte, Bool.false_eq_true, Bool.true_eq_false, reduceCtorEq, eq_self, if_true, if_false, Bool.not_true, Bool.not_false]; first | done | rfl))
        · have c16 : ¬ jk_deg M i 8 ≤ jk_most M i := by omega
          refine jg_aload_n cx dX3_measure_19 rfl ?_
          refine jg_iload_n cx dX3_measure_20 rfl ?_
          refine jg_callVi cx (n := 1) (jc_X3_edgesOf E l (by omega)) gX3_measure_X3_edgesOf rfl ⟨rfl, rfl⟩ ⟨(Nat.le_of_ble_eq_true rfl), (Nat.le_of_ble_eq_true rfl)⟩ (by decide +kernel) jp_mo_o rfl rfl rfl (Nat.le_of_ble_eq_true rfl) dX3_measure_21 ?_
          refine jg_goto cx (tgt := 28) dX3_measure_24 (by decide) ?_
          refine jg_istore_n cx (lv' := [(0, _), (1, _), (2, _)]) dX3_measure_28 (by decide) rfl ?_
          refine jg_iincN cx (d := 1) (lv' := [(0, _), (1, _), (2, _)]) dX3_measure_29 rfl (by decide) (by decide) rfl ?_
          refine jg_goto cx (tgt := 4) dX3_measure_32 (by decide) ?_
          exact jg_to (ih4 (i + 1)  (by omega) ) (by first | with_reducible rfl | (simp only [jk_most, if_neg c16, ↓reduceIte, Bool.false_eq_true, Bool.true_eq_false, reduceCtorEq, eq_self, if_true, if_false, Bool.not_true, Bool.not_false]; first | done | rfl)) (by first | with_reducible rfl | (simp only [jk_most, if_neg c16, ↓reduceIte, Bool.false_eq_true, Bool.true_eq_false, reduceCtorEq, eq_self, if_true, if_false, Bool.not_true, Bool.not_false]; first | done | rfl)) (by first | with_reducible rfl | (simp only [jk_most, if_neg c16, ↓reduceIte, Bool.false_eq_true, Bool.true_eq_false, reduceCtorEq, eq_self, if_true, if_false, Bool.not_true, Bool.not_false]; first | done | rfl))
  exact jg_to (lp4 8 0  (by omega) ) rfl rfl rfl
def jk_great (M : jf_B) : Nat → Int32
  | 0 => nI 0
  | i + 1 => if M 1 (24 + i) ≤ jk_great M i then jk_great M i else M 1 (24 + i)
def jk_col (M : jf_B) : Int32 := nI 1 + jk_great M 64
theorem jk_great_ge (M : jf_B) : ∀ n, 0 ≤ jk_great M n
  | 0 => by show (0 : Int32) ≤ nI 0; decide
  | n + 1 => by
    unfold jk_great
    have := jk_great_ge M n
    split
    · exact this
    · next q => exact Int32.le_of_lt (Int32.lt_of_le_of_lt this (Int32.not_le.mp q))
theorem jk_col_ne (M : jf_B) : ¬ jk_col M = 0 := by
  unfold jk_col
  intro e
  rw [Int32.add_comm] at e
  have e2 : jk_great M 64 = -1 := by
    have := congrArg (· - nI 1) e
    simp only [Int32.add_sub_cancel] at this
    rw [this]
    decide
  have := jk_great_ge M 64
  rw [e2] at this
  exact absurd this (by decide)
set_option maxHeartbeats 1000000 in
set_option maxRecDepth 100000 in
theorem jc_X3_colours (E : jp_E) (l : Launch) {h : jp_H} {M : jf_B} {L : jf_L}  : jc_M E l yX3_colours wsX3_colours ({ frames := 0, cells := 0, slots := 0, locals := 0 } : Room) [.ref (E.2.1 7 0)] (jp_u h 7 M L) (jp_R (some (.int (jk_col M))) (jp_u h 7 (M) L)) := by
  refine jc_of (cc := cX3_colours) (maxL := 3) (ret := some .int) (own := RX3) (lv := [(0, _)]) (by decide) rfl rfl (Nat.le_of_ble_eq_true rfl) rfl (fun X cx => ?_)
  have inX3 : ∀ w ∈ u_ws RX3 TX3 11, w ∈ wsX3_colours := by decide +kernel
  have f7 : Cond.fieldLink RX3 7 "JobSpreadModel" "state" "[I" ∈ wsX3_colours := by decide +kernel
  refine jg_iconst cx (v := nI 0) dX3_colours_0 (by decide) ?_
  refine jg_istore_n cx (lv' := [(0, _), (1, _)]) dX3_colours_1 (by decide) rfl ?_
  refine jg_iconst cx (v := nI 0) dX3_colours_2 (by decide) ?_
  refine jg_istore_n cx (lv' := [(0, _), (1, _), (2, _)]) dX3_colours_3 (by decide) rfl ?_
  have lp4 : ∀ (d4 i : Nat), i + d4 = 64 → X 4 [(0, .ref (E.2.1 7 0)), (1, .int (jk_great M i)), (2, .int (nI i))] [] (jp_u h 7 M L) := by
    intro d4
    induction d4 with
    | zero =>
      intro i  hr4 
      obtain rfl : i = 64 := by omega
      refine jg_iload_n cx dX3_colours_4 rfl ?_
      refine jg_bipush cx (v := nI 64) dX3_colours_5 (by decide) ?_
      refine jg_icmpN_ge cx (tgt := 43) dX3_colours_7 (by decide) (by omega) (by omega) (fun c7 => ?_) (fun c7 => ?_)
      · refine jg_iconst cx (v := nI 1) dX3_colours_43 (by decide) ?_
        refine jg_iload_n cx dX3_colours_44 rfl ?_
        refine jg_iadd cx dX3_colours_45 ?_
        exact jg_iret cx dX3_colours_46 (⟨rfl, rfl⟩)
      · exact absurd hr4 (by omega)
    | succ d4 ih4 =>
      intro i  hr4 
      refine jg_iload_n cx dX3_colours_4 rfl ?_
      refine jg_bipush cx (v := nI 64) dX3_colours_5 (by decide) ?_
      refine jg_icmpN_ge cx (tgt := 43) dX3_colours_7 (by decide) (by omega) (by omega) (fun c7 => ?_) (fun c7 => ?_)
      · exact absurd hr4 (by omega)
      · refine jg_aload_n cx dX3_colours_10 rfl ?_
        refine jg_get cx jp_mo_o rfl inX3 0 (by decide) f7 rfl dX3_colours_11 ?_
        refine jg_bipush cx (v := nI 24) dX3_colours_14 (by decide) ?_
        refine jg_iload_n cx dX3_colours_16 rfl ?_
        refine jg_iaddN cx dX3_colours_17 ?_
        refine jg_ialdU cx dX3_colours_18 (jp_mo_1) rfl (by omega) ?_
        refine jg_iload_n cx dX3_colours_19 rfl ?_
        refine jg_icmp_le cx (tgt := 35) dX3_colours_20 (by decide) (fun c20 => ?_) (fun c20 => ?_)
        · refine jg_iload_n cx dX3_colours_35 rfl ?_
          refine jg_istore_n cx (lv' := [(0, _), (1, _), (2, _)]) dX3_colours_36 (by decide) rfl ?_
          refine jg_iincN cx (d := 1) (lv' := [(0, _), (1, _), (2, _)]) dX3_colours_37 rfl (by decide) (by decide) rfl ?_
          refine jg_goto cx (tgt := 4) dX3_colours_40 (by decide) ?_
          exact jg_to (ih4 (i + 1)  (by omega) ) (by first | with_reducible rfl | (simp only [jk_great, if_pos c20, ↓reduceIte, Bool.false_eq_true, Bool.true_eq_false, reduceCtorEq, eq_self, if_true, if_false, Bool.not_true, Bool.not_false]; first | done | rfl)) (by first | with_reducible rfl | (simp only [jk_great, if_pos c20, ↓reduceIte, Bool.false_eq_true, Bool.true_eq_false, reduceCtorEq, eq_self, if_true, if_false, Bool.not_true, Bool.not_false]; first | done | rfl)) (by first | with_reducible rfl | (simp only [jk_great, if_pos c20, ↓reduceIte, Bool.false_eq_true, Bool.true_eq_false, reduceCtorEq, eq_self, if_true, if_false, Bool.not_true, Bool.not_false]; first | done | rfl))
        · refine jg_aload_n cx dX3_colours_23 rfl ?_
          refine jg_get cx jp_mo_o rfl inX3 0 (by decide) f7 rfl dX3_colours_24 ?_
          refine jg_bipush cx (v := nI 24) dX3_colours_27 (by decide) ?_
          refine jg_iload_n cx dX3_colours_29 rfl ?_
          refine jg_iaddN cx dX3_colours_30 ?_
          refine jg_ialdU cx dX3_colours_31 (jp_mo_1) rfl (by omega) ?_
          refine jg_goto cx (tgt := 36) dX3_colours_32 (by decide) ?_
          refine jg_istore_n cx (lv' := [(0, _), (1, _), (2, _)]) dX3_colours_36 (by decide) rfl ?_
          refine jg_iincN cx (d := 1) (lv' := [(0, _), (1, _), (2, _)]) dX3_colours_37 rfl (by decide) (by decide) rfl ?_
          refine jg_goto cx (tgt := 4) dX3_colours_40 (by decide) ?_
          exact jg_to (ih4 (i + 1)  (by omega) ) (by first | with_reducible rfl | (simp only [jk_great, if_neg c20, ↓reduceIte, Bool.false_eq_true, Bool.true_eq_false, reduceCtorEq, eq_self, if_true, if_false, Bool.not_true, Bool.not_false]; first | done | rfl)) (by first | with_reducible rfl | (simp only [jk_great, if_neg c20, ↓reduceIte, Bool.false_eq_true, Bool.true_eq_false, reduceCtorEq, eq_self, if_true, if_false, Bool.not_true, Bool.not_false]; first | done | rfl)) (by first | with_reducible rfl | (simp only [jk_great, if_neg c20, ↓reduceIte, Bool.false_eq_true, Bool.true_eq_false, reduceCtorEq, eq_self, if_true, if_false, Bool.not_true, Bool.not_false]; first | done | rfl))
  exact jg_to (lp4 64 0  (by omega) ) rfl rfl rfl
def jk_ln1 (n : Nat) (M : jf_B) : jf_B := jf_w M 5 n (M 1 (8 + n))
def jk_tn1 (n : Nat) (M : jf_B) : jf_B := jf_w M 1 (8 + n) (M 5 n)
def jk_ln (M : jf_B) : jf_B := jf_it jk_ln1 M 8
def jk_tn (M : jf_B) : jf_B := jf_it jk_tn1 M 8
set_option maxHeartbeats 1000000 in
set_option maxRecDepth 100000 in
theorem jc_X3_layNext (E : jp_E) (l : Launch) {h : jp_H} {M : jf_B} {L : jf_L}  : jc_M E l yX3_layNext wsX3_layNext ({ frames := 0, cells := 0, slots := 0, locals := 0 } : Room) [.ref (E.2.1 7 0)] (jp_u h 7 M L) (jp_R none (jp_u h 7 (jk_ln M) L)) := by
  refine jc_of (cc := cX3_layNext) (maxL := 2) (ret := none) (own := RX3) (lv := [(0, _)]) (by decide) rfl rfl (Nat.le_of_ble_eq_true rfl) rfl (fun X cx => ?_)
  have inX3 : ∀ w ∈ u_ws RX3 TX3 11, w ∈ wsX3_layNext := by decide +kernel
  have f7 : Cond.fieldLink RX3 7 "JobSpreadModel" "state" "[I" ∈ wsX3_layNext := by decide +kernel
  have f23 : Cond.fieldLink RX3 23 "JobSpreadModel" "next" "[I" ∈ wsX3_layNext := by decide +kernel
  refine jg_iconst cx (v := nI 0) dX3_layNext_0 (by decide) ?_
  refine jg_istore_n cx (lv' := [(0, _), (1, _)]) dX3_layNext_1 (by decide) rfl ?_
  have lp2 : ∀ (d2 i : Nat), i + d2 = 8 → X 2 [(0, .ref (E.2.1 7 0)), (1, .int (nI i))] [] (jp_u h 7 (jf_it jk_ln1 M i) L) := by
    intro d2
    induction d2 with
    | zero =>
      intro i  hr2 
      obtain rfl : i = 8 := by omega
      refine jg_iload_n cx dX3_layNext_2 rfl ?_
      refine jg_bipush cx (v := nI 8) dX3_layNext_3 (by decide) ?_
      refine jg_icmpN_ge cx (tgt := 29) dX3_layNext_5 (by decide) (by omega) (by omega) (fun c5 => ?_) (fun c5 => ?_)
      · exact jg_vret cx dX3_layNext_29 (⟨rfl, (by first | with_reducible rfl | (simp only [jk_ln, ↓reduceIte, Bool.false_eq_true, Bool.true_eq_false, reduceCtorEq, eq_self, if_true, if_false, Bool.not_true, Bool.not_false]; first | done | rfl))⟩)
      · exact absurd hr2 (by omega)
    | succ d2 ih2 =>
      intro i  hr2 
      refine jg_iload_n cx dX3_layNext_2 rfl ?_
      refine jg_bipush cx (v := nI 8) dX3_layNext_3 (by decide) ?_
      refine jg_icmpN_ge cx (tgt := 29) dX3_layNext_5 (by decide) (by omega) (by omega) (fun c5 => ?_) (fun c5 => ?_)
      · exact absurd hr2 (by omega)
      · refine jg_aload_n cx dX3_layNext_8 rfl ?_
        refine jg_get cx jp_mo_o rfl inX3 5 (by decide) f23 rfl dX3_layNext_9 ?_
        refine jg_iload_n cx dX3_layNext_12 rfl ?_
        refine jg_aload_n cx dX3_layNext_13 rfl ?_
        refine jg_get cx jp_mo_o rfl inX3 0 (by decide) f7 rfl dX3_layNext_14 ?_
        refine jg_bipush cx (v := nI 8) dX3_layNext_17 (by decide) ?_
        refine jg_iload_n cx dX3_layNext_19 rfl ?_
        refine jg_iaddN cx dX3_layNext_20 ?_
        refine jg_ialdU cx dX3_layNext_21 (jp_mo_1) rfl (by omega) ?_
        refine jg_iastU cx dX3_layNext_22 (jp_mo_5) rfl (by omega) ?_
        refine jg_iincN cx (d := 1) (lv' := [(0, _), (1, _)]) dX3_layNext_23 rfl (by decide) (by decide) rfl ?_
        refine jg_goto cx (tgt := 2) dX3_layNext_26 (by decide) ?_
        exact jg_to (ih2 (i + 1)  (by omega) ) rfl rfl rfl
  exact jg_to (lp2 8 0  (by omega) ) rfl rfl rfl
set_option maxHeartbeats 1000000 in
set_option maxRecDepth 100000 in
theorem jc_X3_takeNext (E : jp_E) (l : Launch) {h : jp_H} {M : jf_B} {L : jf_L}  : jc_M E l yX3_takeNext wsX3_takeNext ({ frames := 0, cells := 0, slots := 0, locals := 0 } : Room) [.ref (E.2.1 7 0)] (jp_u h 7 M L) (jp_R none (jp_u h 7 (jk_tn M) L)) := by
  refine jc_of (cc := cX3_takeNext) (maxL := 2) (ret := none) (own := RX3) (lv := [(0, _)]) (by decide) rfl rfl (Nat.le_of_ble_eq_true rfl) rfl (fun X cx => ?_)
  have inX3 : ∀ w ∈ u_ws RX3 TX3 11, w ∈ wsX3_takeNext := by decide +kernel
  have f7 : Cond.fieldLink RX3 7 "JobSpreadModel" "state" "[I" ∈ wsX3_takeNext := by decide +kernel
  have f23 : Cond.fieldLink RX3 23 "JobSpreadModel" "next" "[I" ∈ wsX3_takeNext := by decide +kernel
  refine jg_iconst cx (v := nI 0) dX3_takeNext_0 (by decide) ?_
  refine jg_istore_n cx (lv' := [(0, _), (1, _)]) dX3_takeNext_1 (by decide) rfl ?_
  have lp2 : ∀ (d2 i : Nat), i + d2 = 8 → X 2 [(0, .ref (E.2.1 7 0)), (1, .int (nI i))] [] (jp_u h 7 (jf_it jk_tn1 M i) L) := by
    intro d2
    induction d2 with
    | zero =>
      intro i  hr2 
      obtain rfl : i = 8 := by omega
      refine jg_iload_n cx dX3_takeNext_2 rfl ?_
      refine jg_bipush cx (v := nI 8) dX3_takeNext_3 (by decide) ?_
      refine jg_icmpN_ge cx (tgt := 29) dX3_takeNext_5 (by decide) (by omega) (by omega) (fun c5 => ?_) (fun c5 => ?_)
      · exact jg_vret cx dX3_takeNext_29 (⟨rfl, (by first | with_reducible rfl | (simp only [jk_tn, ↓reduceIte, Bool.false_eq_true, Bool.true_eq_false, reduceCtorEq, eq_self, if_true, if_false, Bool.not_true, Bool.not_false]; first | done | rfl))⟩)
      · exact absurd hr2 (by omega)
    | succ d2 ih2 =>
      intro i  hr2 
      refine jg_iload_n cx dX3_takeNext_2 rfl ?_
      refine jg_bipush cx (v := nI 8) dX3_takeNext_3 (by decide) ?_
      refine jg_icmpN_ge cx (tgt := 29) dX3_takeNext_5 (by decide) (by omega) (by omega) (fun c5 => ?_) (fun c5 => ?_)
      · exact absurd hr2 (by omega)
      · refine jg_aload_n cx dX3_takeNext_8 rfl ?_
        refine jg_get cx jp_mo_o rfl inX3 0 (by decide) f7 rfl dX3_takeNext_9 ?_
        refine jg_bipush cx (v := nI 8) dX3_takeNext_12 (by decide) ?_
        refine jg_iload_n cx dX3_takeNext_14 rfl ?_
        refine jg_iaddN cx dX3_takeNext_15 ?_
        refine jg_aload_n cx dX3_takeNext_16 rfl ?_
        refine jg_get cx jp_mo_o rfl inX3 5 (by decide) f23 rfl dX3_takeNext_17 ?_
        refine jg_iload_n cx dX3_takeNext_20 rfl ?_
        refine jg_ialdU cx dX3_takeNext_21 (jp_mo_5) rfl (by omega) ?_
        refine jg_iastU cx dX3_takeNext_22 (jp_mo_1) rfl (by omega) ?_
        refine jg_iincN cx (d := 1) (lv' := [(0, _), (1, _)]) dX3_takeNext_23 rfl (by decide) (by decide) rfl ?_
        refine jg_goto cx (tgt := 2) dX3_takeNext_26 (by decide) ?_
        exact jg_to (ih2 (i + 1)  (by omega) ) rfl rfl rfl
  exact jg_to (lp2 8 0  (by omega) ) rfl rfl rfl
def jk_want (M : jf_B) (i : Nat) : Int32 := M 1 (88 + i) + M 1 (8 + i / 8) * M 1 (0 + i % 8) - M 1 (8 + i % 8) * M 1 (0 + i / 8)
def jk_absI (x : Int32) : Int32 := if 0 ≤ x then x else -x
def jk_flA (me : Int32) (i : Nat) (M : jf_B) : jf_B :=
  let go := jk_want M i / me
  let M1 := jf_w M 1 (88 + i) (jk_want M i - me * go)
  let M2 := jf_w M1 5 (i / 8) (M1 5 (i / 8) - go)
  jf_w M2 5 (i % 8) (M2 5 (i % 8) + go)
def jk_flS (me : Int32) (i : Nat) (S : jf_B × Int32) : jf_B × Int32 := if S.1 1 (24 + i) < 0 then S else (jk_flA me i S.1, S.2 + jk_absI (jk_want S.1 i / me))
def jk_flT (M : jf_B) (i : Nat) : jf_B × Int32 := jf_it (jk_flS (nI (jk_meas M))) (jk_ln M, nI 0) i
theorem jk_flT_s (M : jf_B) (i : Nat) : jk_flT M (i + 1) = jk_flS (nI (jk_meas M)) i (jk_flT M i) := rfl
def jk_flow (M : jf_B) : jf_B × Int32 := (jk_tn (jk_flT M 64).1, (jk_flT M 64).2)
theorem jk_meas_ne (M : jf_B) : ¬ nI (jk_meas M) = 0 := nI_ne0 (by unfold jk_meas; omega) (by unfold jk_meas; have := jk_most_le M 8; omega)
set_option maxHeartbeats 1000000 in
set_option maxRecDepth 100000 in
theorem jc_X3_flow (E : jp_E) (l : Launch) {h : jp_H} {M : jf_B} {L : jf_L}  : jc_M E l yX3_flow wsX3_flow ({ frames := 4, cells := 0, slots := 0, locals := 88 } : Room) [.ref (E.2.1 7 0)] (jp_u h 7 M L) (jp_R (some (.int ((jk_flow M).2))) (jp_u h 7 ((jk_flow M).1) L)) := by
  refine jc_of (cc := cX3_flow) (maxL := 8) (ret := some .int) (own := RX3) (lv := [(0, _)]) (by decide) rfl rfl (Nat.le_of_ble_eq_true rfl) rfl (fun X cx => ?_)
  have inX3 : ∀ w ∈ u_ws RX3 TX3 11, w ∈ wsX3_flow := by decide +kernel
  have f7 : Cond.fieldLink RX3 7 "JobSpreadModel" "state" "[I" ∈ wsX3_flow := by decide +kernel
  have f23 : Cond.fieldLink RX3 23 "JobSpreadModel" "next" "[I" ∈ wsX3_flow := by decide +kernel
  refine jg_aload_n cx dX3_flow_0 rfl ?_
  refine jg_callVi cx (n := 0) (jc_X3_measure E l) gX3_flow_X3_measure rfl ⟨rfl, rfl⟩ ⟨(Nat.le_of_ble_eq_true rfl), (Nat.le_of_ble_eq_true rfl)⟩ (by decide +kernel) jp_mo_o rfl rfl rfl (Nat.le_of_ble_eq_true rfl) dX3_flow_1 ?_
  refine jg_istore_n cx (lv' := [(0, _), (1, _)]) dX3_flow_4 (by decide) rfl ?_
  refine jg_iconst cx (v := nI 0) dX3_flow_5 (by decide) ?_
  refine jg_istore_n cx (lv' := [(0, _), (1, _), (2, _)]) dX3_flow_6 (by decide) rfl ?_
  refine jg_aload_n cx dX3_flow_7 rfl ?_
  refine jg_callVv cx (n := 0) (jc_X3_layNext E l) gX3_flow_X3_layNext rfl ⟨rfl, rfl⟩ ⟨(Nat.le_of_ble_eq_true rfl), (Nat.le_of_ble_eq_true rfl)⟩ (by decide +kernel) jp_mo_o rfl rfl rfl (Nat.le_of_ble_eq_true rfl) dX3_flow_8 ?_
  refine jg_iconst cx (v := nI 0) dX3_flow_11 (by decide) ?_
  refine jg_istore_n cx (lv' := [(0, _), (1, _), (2, _), (3, _)]) dX3_flow_12 (by decide) rfl ?_
  have lp13 : ∀ (d13 i : Nat), i + d13 = 64 → X 13 [(0, .ref (E.2.1 7 0)), (1, .int (nI (jk_meas M))), (2, .int (jk_flT M i).2), (3, .int (nI i))] [] (jp_u h 7 (jk_flT M i).1 L) := by
    intro d13
    induction d13 with
    | zero =>
      intro i  hr13 
      obtain rfl : i = 64 := by omega
      refine jg_iload_n cx dX3_flow_13 rfl ?_
      refine jg_bipush cx (v := nI 64) dX3_flow_14 (by decide) ?_
      refine jg_icmpN_ge cx (tgt := 164) dX3_flow_16 (by decide) (by omega) (by omega) (fun c16 => ?_) (fun c16 => ?_)
      · refine jg_aload_n cx dX3_flow_164 rfl ?_
        refine jg_callVv cx (n := 0) (jc_X3_takeNext E l) gX3_flow_X3_takeNext rfl ⟨rfl, rfl⟩ ⟨(Nat.le_of_ble_eq_true rfl), (Nat.le_of_ble_eq_true rfl)⟩ (by decide +kernel) jp_mo_o rfl rfl rfl (Nat.le_of_ble_eq_true rfl) dX3_flow_165 ?_
        refine jg_iload_n cx dX3_flow_168 rfl ?_
        exact jg_iret cx dX3_flow_169 (⟨(by first | with_reducible rfl | (simp only [jk_flow, ↓reduceIte, Bool.false_eq_true, Bool.true_eq_false, reduceCtorEq, eq_self, if_true, if_false, Bool.not_true, Bool.not_false]; first | done | rfl)), (by first | with_reducible rfl | (simp only [jk_flow, ↓reduceIte, Bool.false_eq_true, Bool.true_eq_false, reduceCtorEq, eq_self, if_true, if_false, Bool.not_true, Bool.not_false]; first | done | rfl))⟩)
      · exact absurd hr13 (by omega)
    | succ d13 ih13 =>
      intro i  hr13 
      refine jg_iload_n cx dX3_flow_13 rfl ?_
      refine jg_bipush cx (v := nI 64) dX3_flow_14 (by decide) ?_
      refine jg_icmpN_ge cx (tgt := 164) dX3_flow_16 (by decide) (by omega) (by omega) (fun c16 => ?_) (fun c16 => ?_)
      · exact absurd hr13 (by omega)
      · refine jg_aload_n cx dX3_flow_19 rfl ?_
        refine jg_get cx jp_mo_o rfl inX3 0 (by decide) f7 rfl dX3_flow_20 ?_
        refine jg_bipush cx (v := nI 24) dX3_flow_23 (by decide) ?_
        refine jg_iload_n cx dX3_flow_25 rfl ?_
        refine jg_iaddN cx dX3_flow_26 ?_
        refine jg_ialdU cx dX3_flow_27 (jp_mo_1) rfl (by omega) ?_
        refine jg_if_lt cx (tgt := 158) dX3_flow_28 (by decide) (fun c28 => ?_) (fun c28 => ?_)
        · refine jg_iincN cx (d := 1) (lv' := [(0, _), (1, _), (2, _), (3, _)]) dX3_flow_158 rfl (by decide) (by decide) rfl ?_
          refine jg_goto cx (tgt := 13) dX3_flow_161 (by decide) ?_
          exact jg_to (ih13 (i + 1)  (by omega) ) (by first | with_reducible rfl | (simp only [jk_flT_s, jk_flS, jk_flA, jk_absI, if_pos c28, ↓reduceIte, Bool.false_eq_true, Bool.true_eq_false, reduceCtorEq, eq_self, if_true, if_false, Bool.not_true, Bool.not_false]; first | done | rfl)) (by first | with_reducible rfl | (simp only [jk_flT_s, jk_flS, jk_flA, jk_absI, if_pos c28, ↓reduceIte, Bool.false_eq_true, Bool.true_eq_false, reduceCtorEq, eq_self, if_true, if_false, Bool.not_true, Bool.not_false]; first | done | rfl)) (by first | with_reducible rfl | (simp only [jk_flT_s, jk_flS, jk_flA, jk_absI, if_pos c28, ↓reduceIte, Bool.false_eq_true, Bool.true_eq_false, reduceCtorEq, eq_self, if_true, if_false, Bool.not_true, Bool.not_false]; first | done | rfl))
        · refine jg_iload_n cx dX3_flow_31 rfl ?_
          refine jg_bipush cx (v := nI 8) dX3_flow_32 (by decide) ?_
          refine jg_idivN cx dX3_flow_34 (by omega) (by omega) (by omega) ?_
          refine jg_istore cx (lv' := [(0, _), (1, _), (2, _), (3, _), (4, _)]) dX3_flow_35 (by decide) rfl ?_
          refine jg_iload_n cx dX3_flow_37 rfl ?_
          refine jg_bipush cx (v := nI 8) dX3_flow_38 (by decide) ?_
          refine jg_iremN cx dX3_flow_40 (by omega) (by omega) (by omega) ?_
          refine jg_istore cx (lv' := [(0, _), (1, _), (2, _), (3, _), (4, _), (5, _)]) dX3_flow_41 (by decide) rfl ?_
          refine jg_aload_n cx dX3_flow_43 rfl ?_
          refine jg_get cx jp_mo_o rfl inX3 0 (by decide) f7 rfl dX3_flow_44 ?_
          refine jg_bipush cx (v := nI 88) dX3_flow_47 (by decide) ?_
          refine jg_iload_n cx dX3_flow_49 rfl ?_
          refine jg_iaddN cx dX3_flow_50 ?_
          refine jg_ialdU cx dX3_flow_51 (jp_mo_1) rfl (by omega) ?_
          refine jg_aload_n cx dX3_flow_52 rfl ?_
          refine jg_get cx jp_mo_o rfl inX3 0 (by decide) f7 rfl dX3_flow_53 ?_
          refine jg_bipush cx (v := nI 8) dX3_flow_56 (by decide) ?_
          refine jg_iload cx dX3_flow_58 rfl ?_
          refine jg_iaddN cx dX3_flow_60 ?_
          refine jg_ialdU cx dX3_flow_61 (jp_mo_1) rfl (by omega) ?_
          refine jg_aload_n cx dX3_flow_62 rfl ?_
          refine jg_get cx jp_mo_o rfl inX3 0 (by decide) f7 rfl dX3_flow_63 ?_
          refine jg_iconst cx (v := nI 0) dX3_flow_66 (by decide) ?_
          refine jg_iload cx dX3_flow_67 rfl ?_
          refine jg_iaddN cx dX3_flow_69 ?_
          refine jg_ialdU cx dX3_flow_70 (jp_mo_1) rfl (by omega) ?_
          refine jg_imul cx dX3_flow_71 ?_
          refine jg_iadd cx dX3_flow_72 ?_
          refine jg_aload_n cx dX3_flow_73 rfl ?_
          refine jg_get cx jp_mo_o rfl inX3 0 (by decide) f7 rfl dX3_flow_74 ?_
          refine jg_bipush cx (v := nI 8) dX3_flow_77 (by decide) ?_
          refine jg_iload cx dX3_flow_79 rfl ?_
          refine jg_iaddN cx dX3_flow_81 ?_
          refine jg_ialdU cx dX3_flow_82 (jp_mo_1) rfl (by omega) ?_
          refine jg_aload_n cx dX3_flow_83 rfl ?_
          refine jg_get cx jp_mo_o rfl inX3 0 (by decide) f7 rfl dX3_flow_84 ?_
          refine jg_iconst cx (v := nI 0) dX3_flow_87 (by decide) ?_
          refine jg_iload cx dX3_flow_88 rfl ?_
          refine jg_iaddN cx dX3_flow_90 ?_
          refine jg_ialdU cx dX3_flow_91 (jp_mo_1) rfl (by omega) ?_
          refine jg_imul cx dX3_flow_92 ?_
          refine jg_isub cx dX3_flow_93 ?_
          rw [show (jk_flT M i).1 1 (88 + i) + (jk_flT M i).1 1 (8 + i / 8) * (jk_flT M i).1 1 (0 + i % 8) - (jk_flT M i).1 1 (8 + i % 8) * (jk_flT M i).1 1 (0 + i / 8) = jk_want (jk_flT M i).1 i from rfl]
          refine jg_istore cx (lv' := [(0, _), (1, _), (2, _), (3, _), (4, _), (5, _), (6, _)]) dX3_flow_94 (by decide) rfl ?_
          refine jg_iload cx dX3_flow_96 rfl ?_
          refine jg_iload_n cx dX3_flow_98 rfl ?_
          refine jg_idiv cx dX3_flow_99 (jk_meas_ne M) ?_
          refine jg_istore cx (lv' := [(0, _), (1, _), (2, _), (3, _), (4, _), (5, _), (6, _), (7, _)]) dX3_flow_100 (by decide) rfl ?_
          refine jg_aload_n cx dX3_flow_102 rfl ?_
          refine jg_get cx jp_mo_o rfl inX3 0 (by decide) f7 rfl dX3_flow_103 ?_
          refine jg_bipush cx (v := nI 88) dX3_flow_106 (by decide) ?_
          refine jg_iload_n cx dX3_flow_108 rfl ?_
          refine jg_iaddN cx dX3_flow_109 ?_
          refine jg_iload cx dX3_flow_110 rfl ?_
          refine jg_iload_n cx dX3_flow_112 rfl ?_
          refine jg_iload cx dX3_flow_113 rfl ?_
          refine jg_imul cx dX3_flow_115 ?_
          refine jg_isub cx dX3_flow_116 ?_
          refine jg_iastU cx dX3_flow_117 (jp_mo_1) rfl (by omega) ?_
          refine jg_aload_n cx dX3_flow_118 rfl ?_
          refine jg_get cx jp_mo_o rfl inX3 5 (by decide) f23 rfl dX3_flow_119 ?_
          refine jg_iload cx dX3_flow_122 rfl ?_
          refine jg_dup2 cx dX3_flow_124 rfl rfl ?_
          refine jg_ialdU cx dX3_flow_125 (jp_mo_5) rfl (by omega) ?_
          refine jg_iload cx dX3_flow_126 rfl ?_
          refine jg_isub cx dX3_flow_128 ?_
          refine jg_iastU cx dX3_flow_129 (jp_mo_5) rfl (by omega) ?_
          refine jg_aload_n cx dX3_flow_130 rfl ?_
          refine jg_get cx jp_mo_o rfl inX3 5 (by decide) f23 rfl dX3_flow_131 ?_
          refine jg_iload cx dX3_flow_134 rfl ?_
          refine jg_dup2 cx dX3_flow_136 rfl rfl ?_
          refine jg_ialdU cx dX3_flow_137 (jp_mo_5) rfl (by omega) ?_
          refine jg_iload cx dX3_flow_138 rfl ?_
          refine jg_iadd cx dX3_flow_140 ?_
          refine jg_iastU cx dX3_flow_141 (jp_mo_5) rfl (by omega) ?_
          refine jg_iload_n cx dX3_flow_142 rfl ?_
          refine jg_iload cx dX3_flow_143 rfl ?_
          refine jg_if_ge cx (tgt := 154) dX3_flow_145 (by decide) (fun c145 => ?_) (fun c145 => ?_)
          · refine jg_iload cx dX3_flow_154 rfl ?_
            refine jg_iadd cx dX3_flow_156 ?_
            refine jg_istore_n cx (lv' := [(0, _), (1, _), (2, _), (3, _), (4, _), (5, _), (6, _), (7, _)]) dX3_flow_157 (by decide) rfl ?_
            refine jg_iincN cx (d := 1) (lv' := [(0, _), (1, _), (2, _), (3, _), (4, _), (5, _), (6, _), (7, _)]) dX3_flow_158 rfl (by decide) (by decide) rfl ?_
            refine jg_goto cx (tgt := 13) dX3_flow_161 (by decide) ?_
            refine jg_sub cx (lv' := [(0, _), (1, _), (2, _), (3, _)]) [0, 1, 2, 3] rfl ?_
            exact jg_to (ih13 (i + 1)  (by omega) ) (by first | with_reducible rfl | (simp only [jk_flT_s, jk_flS, jk_flA, jk_absI, if_neg c28, if_pos c145, ↓reduceIte, Bool.false_eq_true, Bool.true_eq_false, reduceCtorEq, eq_self, if_true, if_false, Bool.not_true, Bool.not_false]; first | done | rfl)) (by first | with_reducible rfl | (simp only [jk_flT_s, jk_flS, jk_flA, jk_absI, if_neg c28, if_pos c145, ↓reduceIte, Bool.false_eq_true, Bool.true_eq_false, reduceCtorEq, eq_self, if_true, if_false, Bool.not_true, Bool.not_false]; first | done | rfl)) (by first | with_reducible rfl | (simp only [jk_flT_s, jk_flS, jk_flA, jk_absI, if_neg c28, if_pos c145, ↓reduceIte, Bool.false_eq_true, Bool.true_eq_false, reduceCtorEq, eq_self, if_true, if_false, Bool.not_true, Bool.not_false]; first | done | rfl))
          · refine jg_iload cx dX3_flow_148 rfl ?_
            refine jg_ineg cx dX3_flow_150 ?_
            refine jg_goto cx (tgt := 156) dX3_flow_151 (by decide) ?_
            refine jg_iadd cx dX3_flow_156 ?_
            refine jg_istore_n cx (lv' := [(0, _), (1, _), (2, _), (3, _), (4, _), (5, _), (6, _), (7, _)]) dX3_flow_157 (by decide) rfl ?_
            refine jg_iincN cx (d := 1) (lv' := [(0, _), (1, _), (2, _), (3, _), (4, _), (5, _), (6, _), (7, _)]) dX3_flow_158 rfl (by decide) (by decide) rfl ?_
            refine jg_goto cx (tgt := 13) dX3_flow_161 (by decide) ?_
            refine jg_sub cx (lv' := [(0, _), (1, _), (2, _), (3, _)]) [0, 1, 2, 3] rfl ?_
            exact jg_to (ih13 (i + 1)  (by omega) ) (by first | with_reducible rfl | (simp only [jk_flT_s, jk_flS, jk_flA, jk_absI, if_neg c28, if_neg c145, ↓reduceIte, Bool.false_eq_true, Bool.true_eq_false, reduceCtorEq, eq_self, if_true, if_false, Bool.not_true, Bool.not_false]; first | done | rfl)) (by first | with_reducible rfl | (simp only [jk_flT_s, jk_flS, jk_flA, jk_absI, if_neg c28, if_neg c145, ↓reduceIte, Bool.false_eq_true, Bool.true_eq_false, reduceCtorEq, eq_self, if_true, if_false, Bool.not_true, Bool.not_false]; first | done | rfl)) (by first | with_reducible rfl | (simp only [jk_flT_s, jk_flS, jk_flA, jk_absI, if_neg c28, if_neg c145, ↓reduceIte, Bool.false_eq_true, Bool.true_eq_false, reduceCtorEq, eq_self, if_true, if_false, Bool.not_true, Bool.not_false]; first | done | rfl))
  exact jg_to (lp13 64 0  (by omega) ) rfl rfl rfl
def jk_down (x y : Int32) : Int32 := if 0 ≤ x then x / y else if x / y * y = x then x / y else x / y - nI 1
set_option maxHeartbeats 1000000 in
set_option maxRecDepth 100000 in
theorem jc_X3_down (E : jp_E) (l : Launch) {h : jp_H} {x y : Int32} (hy : ¬ y = 0) : jc_M E l yX3_down wsX3_down ({ frames := 0, cells := 0, slots := 0, locals := 0 } : Room) [.int x, .int y] h (jp_R (some (.int (jk_down x y))) h) := by
  refine jc_of (cc := cX3_down) (maxL := 3) (ret := some .int) (own := RX3) (lv := [(0, _), (1, _)]) (by decide) rfl rfl (Nat.le_of_ble_eq_true rfl) rfl (fun X cx => ?_)
  refine jg_iload_n cx dX3_down_0 rfl ?_
  refine jg_iload_n cx dX3_down_1 rfl ?_
  refine jg_idiv cx dX3_down_2 (by assumption) ?_
  refine jg_istore_n cx (lv' := [(0, _), (1, _), (2, _)]) dX3_down_3 (by decide) rfl ?_
  refine jg_iload_n cx dX3_down_4 rfl ?_
  refine jg_if_ge cx (tgt := 21) dX3_down_5 (by decide) (fun c5 => ?_) (fun c5 => ?_)
  · refine jg_iload_n cx dX3_down_21 rfl ?_
    exact jg_iret cx dX3_down_22 (⟨(by first | with_reducible rfl | (simp only [jk_down, if_pos c5, ↓reduceIte, Bool.false_eq_true, Bool.true_eq_false, reduceCtorEq, eq_self, if_true, if_false, Bool.not_true, Bool.not_false]; first | done | rfl)), rfl⟩)
  · refine jg_iload_n cx dX3_down_8 rfl ?_
    refine jg_iload_n cx dX3_down_9 rfl ?_
    refine jg_imul cx dX3_down_10 ?_
    refine jg_iload_n cx dX3_down_11 rfl ?_
    refine jg_icmp_eq cx (tgt := 21) dX3_down_12 (by decide) (fun c12 => ?_) (fun c12 => ?_)
    · refine jg_iload_n cx dX3_down_21 rfl ?_
      exact jg_iret cx dX3_down_22 (⟨(by first | with_reducible rfl | (simp only [jk_down, if_neg c5, if_pos c12, ↓reduceIte, Bool.false_eq_true, Bool.true_eq_false, reduceCtorEq, eq_self, if_true, if_false, Bool.not_true, Bool.not_false]; first | done | rfl)), rfl⟩)
    · refine jg_iload_n cx dX3_down_15 rfl ?_
      refine jg_iconst cx (v := nI 1) dX3_down_16 (by decide) ?_
      refine jg_isub cx dX3_down_17 ?_
      refine jg_goto cx (tgt := 22) dX3_down_18 (by decide) ?_
      exact jg_iret cx dX3_down_22 (⟨(by first | with_reducible rfl | (simp only [jk_down, if_neg c5, if_neg c12, ↓reduceIte, Bool.false_eq_true, Bool.true_eq_false, reduceCtorEq, eq_self, if_true, if_false, Bool.not_true, Bool.not_false]; first | done | rfl)), rfl⟩)
def jk_ev1 (M : jf_B) (a c : Nat) : Int32 := jk_down (M 1 (0 + a) * (M 1 (8 + a) + M 1 (8 + c))) (M 1 (0 + a) + M 1 (0 + c))
def jk_ev2 (M : jf_B) (a c : Nat) : Int32 := jk_down (M 1 (0 + c) * (M 1 (8 + a) + M 1 (8 + c))) (M 1 (0 + a) + M 1 (0 + c))
def jk_evL (M : jf_B) (a c : Nat) : Int32 := M 1 (8 + a) + M 1 (8 + c) - jk_ev1 M a c - jk_ev2 M a c
def jk_evF (M : jf_B) (a c : Nat) : Int32 := if jk_evL M a c ≤ 0 then jk_ev1 M a c + nI 0 else if M 1 (8 + a) < M 1 (8 + c) then jk_ev1 M a c + nI 0 else jk_ev1 M a c + jk_evL M a c
def jk_evM (M : jf_B) (a c : Nat) : jf_B := jf_w (jf_w M 1 (8 + a) (jk_evF M a c)) 1 (8 + c) (M 1 (8 + a) + M 1 (8 + c) - jk_evF M a c)
def jk_evR (M : jf_B) (a c : Nat) : Int32 := if M 1 (8 + a) ≤ jk_evF M a c then jk_evF M a c - M 1 (8 + a) else M 1 (8 + a) - jk_evF M a c
set_option maxHeartbeats 1000000 in
set_option maxRecDepth 100000 in
theorem jc_X3_even (E : jp_E) (l : Launch) {h : jp_H} {M : jf_B} {L : jf_L} {a c : Nat} (ha : a < 8) (hc : c < 8) (hs : ¬ M 1 (0 + a) + M 1 (0 + c) = 0) : jc_M E l yX3_even wsX3_even ({ frames := 1, cells := 0, slots := 0, locals := 22 } : Room) [.ref (E.2.1 7 0), .int (nI a), .int (nI c)] (jp_u h 7 M L) (jp_R (some (.int (jk_evR M a c))) (jp_u h 7 (jk_evM M a c) L)) := by
  refine jc_of (cc := cX3_even) (maxL := 10) (ret := some .int) (own := RX3) (lv := [(0, _), (1, _), (2, _)]) (by decide) rfl rfl (Nat.le_of_ble_eq_true rfl) rfl (fun X cx => ?_)
  have inX3 : ∀ w ∈ u_ws RX3 TX3 11, w ∈ wsX3_even := by decide +kernel
  have f7 : Cond.fieldLink RX3 7 "JobSpreadModel" "state" "[I" ∈ wsX3_even := by decide +kernel
  refine jg_aload_n cx dX3_even_0 rfl ?_
  refine jg_get cx jp_mo_o rfl inX3 0 (by decide) f7 rfl dX3_even_1 ?_
  refine jg_bipush cx (v := nI 8) dX3_even_4 (by decide) ?_
  refine jg_iload_n cx dX3_even_6 rfl ?_
  refine jg_iaddN cx dX3_even_7 ?_
  refine jg_ialdU cx dX3_even_8 (jp_mo_1) rfl (by omega) ?_
  refine jg_istore_n cx (lv' := [(0, _), (1, _), (2, _), (3, _)]) dX3_even_9 (by decide) rfl ?_
  refine jg_aload_n cx dX3_even_10 rfl ?_
  refine jg_get cx jp_mo_o rfl inX3 0 (by decide) f7 rfl dX3_even_11 ?_
  refine jg_bipush cx (v := nI 8) dX3_even_14 (by decide) ?_
  refine jg_iload_n cx dX3_even_16 rfl ?_
  refine jg_iaddN cx dX3_even_17 ?_
  refine jg_ialdU cx dX3_even_18 (jp_mo_1) rfl (by omega) ?_
  refine jg_istore cx (lv' := [(0, _), (1, _), (2, _), (3, _), (4, _)]) dX3_even_19 (by decide) rfl ?_
  refine jg_iload_n cx dX3_even_21 rfl ?_
  refine jg_iload cx dX3_even_22 rfl ?_
  refine jg_iadd cx dX3_even_24 ?_
  refine jg_istore cx (lv' := [(0, _), (1, _), (2, _), (3, _), (4, _), (5, _)]) dX3_even_25 (by decide) rfl ?_
  refine jg_aload_n cx dX3_even_27 rfl ?_
  refine jg_get cx jp_mo_o rfl inX3 0 (by decide) f7 rfl dX3_even_28 ?_
  refine jg_iconst cx (v := nI 0) dX3_even_31 (by decide) ?_
  refine jg_iload_n cx dX3_even_32 rfl ?_
  refine jg_iaddN cx dX3_even_33 ?_
  refine jg_ialdU cx dX3_even_34 (jp_mo_1) rfl (by omega) ?_
  refine jg_aload_n cx dX3_even_35 rfl ?_
  refine jg_get cx jp_mo_o rfl inX3 0 (by decide) f7 rfl dX3_even_36 ?_
  refine jg_iconst cx (v := nI 0) dX3_even_39 (by decide) ?_
  refine jg_iload_n cx dX3_even_40 rfl ?_
  refine jg_iaddN cx dX3_even_41 ?_
  refine jg_ialdU cx dX3_even_42 (jp_mo_1) rfl (by omega) ?_
  refine jg_iadd cx dX3_even_43 ?_
  refine jg_istore cx (lv' := [(0, _), (1, _), (2, _), (3, _), (4, _), (5, _), (6, _)]) dX3_even_44 (by decide) rfl ?_
  refine jg_aload_n cx dX3_even_46 rfl ?_
  refine jg_get cx jp_mo_o rfl inX3 0 (by decide) f7 rfl dX3_even_47 ?_
  refine jg_iconst cx (v := nI 0) dX3_even_50 (by decide) ?_
  refine jg_iload_n cx dX3_even_51 rfl ?_
  refine jg_iaddN cx dX3_even_52 ?_
  refine jg_ialdU cx dX3_even_53 (jp_mo_1) rfl (by omega) ?_
  refine jg_iload cx dX3_even_54 rfl ?_
  refine jg_imul cx dX3_even_56 ?_
  refine jg_iload cx dX3_even_57 rfl ?_
  refine jg_callSi cx (n := 2) (jc_X3_down E l hs) gX3_even_X3_down rfl ⟨rfl, rfl⟩ ⟨(Nat.le_of_ble_eq_true rfl), (Nat.le_of_ble_eq_true rfl)⟩ (by decide +kernel) rfl rfl (Nat.le_of_ble_eq_true rfl) dX3_even_59 ?_
  change X _ _ (.int (jk_ev1 M a c) :: []) _
  refine jg_istore cx (lv' := [(0, _), (1, _), (2, _), (3, _), (4, _), (5, _), (6, _), (7, _)]) dX3_even_62 (by decide) rfl ?_
  refine jg_aload_n cx dX3_even_64 rfl ?_
  refine jg_get cx jp_mo_o rfl inX3 0 (by decide) f7 rfl dX3_even_65 ?_
  refine jg_iconst cx (v := nI 0) dX3_even_68 (by decide) ?_
  refine jg_iload_n cx dX3_even_69 rfl ?_
  refine jg_iaddN cx dX3_even_70 ?_
  refine jg_ialdU cx dX3_even_71 (jp_mo_1) rfl (by omega) ?_
  refine jg_iload cx dX3_even_72 rfl ?_
  refine jg_imul cx dX3_even_74 ?_
  refine jg_iload cx dX3_even_75 rfl ?_
  refine jg_callSi cx (n := 2) (jc_X3_down E l hs) gX3_even_X3_down rfl ⟨rfl, rfl⟩ ⟨(Nat.le_of_ble_eq_true rfl), (Nat.le_of_ble_eq_true rfl)⟩ (by decide +kernel) rfl rfl (Nat.le_of_ble_eq_true rfl) dX3_even_77 ?_
  change X _ _ (.int (jk_ev2 M a c) :: []) _
  refine jg_istore cx (lv' := [(0, _), (1, _), (2, _), (3, _), (4, _), (5, _), (6, _), (7, _), (8, _)]) dX3_even_80 (by decide) rfl ?_
  refine jg_iload cx dX3_even_82 rfl ?_
  refine jg_iload cx dX3_even_84 rfl ?_
  refine jg_isub cx dX3_even_86 ?_
  refine jg_iload cx dX3_even_87 rfl ?_
  refine jg_isub cx dX3_even_89 ?_
  change X _ _ (.int (jk_evL M a c) :: []) _
  refine jg_istore cx (lv' := [(0, _), (1, _), (2, _), (3, _), (4, _), (5, _), (6, _), (7, _), (8, _), (9, _)]) dX3_even_90 (by decide) rfl ?_
  refine jg_iload cx dX3_even_92 rfl ?_
  refine jg_iload cx dX3_even_94 rfl ?_
  refine jg_if_le cx (tgt := 110) dX3_even_96 (by decide) (fun c96 => ?_) (fun c96 => ?_)
  · have eF : jk_evF M a c = jk_ev1 M a c + nI 0 := by simp only [jk_evF, if_pos c96]
    refine jg_iconst cx (v := nI 0) dX3_even_110 (by decide) ?_
    refine jg_iadd cx dX3_even_111 ?_
    refine jg_istore cx (lv' := [(0, _), (1, _), (2, _), (3, _), (4, _), (5, _), (6, _), (7, _), (8, _), (9, _)]) dX3_even_112 (by decide) rfl ?_
    refine jg_aload_n cx dX3_even_114 rfl ?_
    refine jg_get cx jp_mo_o rfl inX3 0 (by decide) f7 rfl dX3_even_115 ?_
    refine jg_bipush cx (v := nI 8) dX3_even_118 (by decide) ?_
    refine jg_iload_n cx dX3_even_120 rfl ?_
    refine jg_iaddN cx dX3_even_121 ?_
    refine jg_iload cx dX3_even_122 rfl ?_
    refine jg_iastU cx dX3_even_124 (jp_mo_1) rfl (by omega) ?_
    refine jg_aload_n cx dX3_even_125 rfl ?_
    refine jg_get cx jp_mo_o rfl inX3 0 (by decide) f7 rfl dX3_even_126 ?_
    refine jg_bipush cx (v := nI 8) dX3_even_129 (by decide) ?_
    refine jg_iload_n cx dX3_even_131 rfl ?_
    refine jg_iaddN cx dX3_even_132 ?_
    refine jg_iload cx dX3_even_133 rfl ?_
    refine jg_iload cx dX3_even_135 rfl ?_
    refine jg_isub cx dX3_even_137 ?_
    refine jg_iastU cx dX3_even_138 (jp_mo_1) rfl (by omega) ?_
    refine jg_iload cx dX3_even_139 rfl ?_
    refine jg_iload_n cx dX3_even_141 rfl ?_
    refine jg_icmp_ge cx (tgt := 152) dX3_even_142 (by decide) (fun c142 => ?_) (fun c142 => ?_)
    · rw [← eF] at c142
      refine jg_iload cx dX3_even_152 rfl ?_
      refine jg_iload_n cx dX3_even_154 rfl ?_
      refine jg_isub cx dX3_even_155 ?_
      exact jg_iret cx dX3_even_156 (⟨by rw [← eF]; unfold jk_evR; first | rw [if_pos c142] | rw [if_neg c142], by simp only [jk_evM, eF]⟩)
    · rw [← eF] at c142
      refine jg_iload_n cx dX3_even_145 rfl ?_
      refine jg_iload cx dX3_even_146 rfl ?_
      refine jg_isub cx dX3_even_148 ?_
      refine jg_goto cx (tgt := 156) dX3_even_149 (by decide) ?_
      exact jg_iret cx dX3_even_156 (⟨by rw [← eF]; unfold jk_evR; first | rw [if_pos c142] | rw [if_neg c142], by simp only [jk_evM, eF]⟩)
  · refine jg_iload_n cx dX3_even_99 rfl ?_
    refine jg_iload cx dX3_even_100 rfl ?_
    refine jg_icmp_lt cx (tgt := 110) dX3_even_102 (by decide) (fun c102 => ?_) (fun c102 => ?_)
    · have eF : jk_evF M a c = jk_ev1 M a c + nI 0 := by simp only [jk_evF, if_neg c96, if_pos c102]
      refine jg_iconst cx (v := nI 0) dX3_even_110 (by decide) ?_
      refine jg_iadd cx dX3_even_111 ?_
      refine jg_istore cx (lv' := [(0, _), (1, _), (2, _), (3, _), (4, _), (5, _), (6, _), (7, _), (8, _), (9, _)]) dX3_even_112 (by decide) rfl ?_
      refine jg_aload_n cx dX3_even_114 rfl ?_
      refine jg_get cx jp_mo_o rfl inX3 0 (by decide) f7 rfl dX3_even_115 ?_
      refine jg_bipush cx (v := nI 8) dX3_even_118 (by decide) ?_
      refine jg_iload_n cx dX3_even_120 rfl ?_
      refine jg_iaddN cx dX3_even_121 ?_
      refine jg_iload cx dX3_even_122 rfl ?_
      refine jg_iastU cx dX3_even_124 (jp_mo_1) rfl (by omega) ?_
      refine jg_aload_n cx dX3_even_125 rfl ?_
      refine jg_get cx jp_mo_o rfl inX3 0 (by decide) f7 rfl dX3_even_126 ?_
      refine jg_bipush cx (v := nI 8) dX3_even_129 (by decide) ?_
      refine jg_iload_n cx dX3_even_131 rfl ?_
      refine jg_iaddN cx dX3_even_132 ?_
      refine jg_iload cx dX3_even_133 rfl ?_
      refine jg_iload cx dX3_even_135 rfl ?_
      refine jg_isub cx dX3_even_137 ?_
      refine jg_iastU cx dX3_even_138 (jp_mo_1) rfl (by omega) ?_
      refine jg_iload cx dX3_even_139 rfl ?_
      refine jg_iload_n cx dX3_even_141 rfl ?_
      refine jg_icmp_ge cx (tgt := 152) dX3_even_142 (by decide) (fun c142 => ?_) (fun c142 => ?_)
      · rw [← eF] at c142
        refine jg_iload cx dX3_even_152 rfl ?_
        refine jg_iload_n cx dX3_even_154 rfl ?_
        refine jg_isub cx dX3_even_155 ?_
        exact jg_iret cx dX3_even_156 (⟨by rw [← eF]; unfold jk_evR; first | rw [if_pos c142] | rw [if_neg c142], by simp only [jk_evM, eF]⟩)
      · rw [← eF] at c142
        refine jg_iload_n cx dX3_even_145 rfl ?_
        refine jg_iload cx dX3_even_146 rfl ?_
        refine jg_isub cx dX3_even_148 ?_
        refine jg_goto cx (tgt := 156) dX3_even_149 (by decide) ?_
        exact jg_iret cx dX3_even_156 (⟨by rw [← eF]; unfold jk_evR; first | rw [if_pos c142] | rw [if_neg c142], by simp only [jk_evM, eF]⟩)
    · have eF : jk_evF M a c = jk_ev1 M a c + jk_evL M a c := by simp only [jk_evF, if_neg c96, if_neg c102]
      refine jg_iload cx dX3_even_105 rfl ?_
      refine jg_goto cx (tgt := 111) dX3_even_107 (by decide) ?_
      refine jg_iadd cx dX3_even_111 ?_
      refine jg_istore cx (lv' := [(0, _), (1, _), (2, _), (3, _), (4, _), (5, _), (6, _), (7, _), (8, _), (9, _)]) dX3_even_112 (by decide) rfl ?_
      refine jg_aload_n cx dX3_even_114 rfl ?_
      refine jg_get cx jp_mo_o rfl inX3 0 (by decide) f7 rfl dX3_even_115 ?_
      refine jg_bipush cx (v := nI 8) dX3_even_118 (by decide) ?_
      refine jg_iload_n cx dX3_even_120 rfl ?_
      refine jg_iaddN cx dX3_even_121 ?_
      refine jg_iload cx dX3_even_122 rfl ?_
      refine jg_iastU cx dX3_even_124 (jp_mo_1) rfl (by omega) ?_
      refine jg_aload_n cx dX3_even_125 rfl ?_
      refine jg_get cx jp_mo_o rfl inX3 0 (by decide) f7 rfl dX3_even_126 ?_
      refine jg_bipush cx (v := nI 8) dX3_even_129 (by decide) ?_
      refine jg_iload_n cx dX3_even_131 rfl ?_
      refine jg_iaddN cx dX3_even_132 ?_
      refine jg_iload cx dX3_even_133 rfl ?_
      refine jg_iload cx dX3_even_135 rfl ?_
      refine jg_isub cx dX3_even_137 ?_
      refine jg_iastU cx dX3_even_138 (jp_mo_1) rfl (by omega) ?_
      refine jg_iload cx dX3_even_139 rfl ?_
      refine jg_iload_n cx dX3_even_141 rfl ?_
      refine jg_icmp_ge cx (tgt := 152) dX3_even_142 (by decide) (fun c142 => ?_) (fun c142 => ?_)
      · rw [← eF] at c142
        refine jg_iload cx dX3_even_152 rfl ?_
        refine jg_iload_n cx dX3_even_154 rfl ?_
        refine jg_isub cx dX3_even_155 ?_
        exact jg_iret cx dX3_even_156 (⟨by rw [← eF]; unfold jk_evR; first | rw [if_pos c142] | rw [if_neg c142], by simp only [jk_evM, eF]⟩)
      · rw [← eF] at c142
        refine jg_iload_n cx dX3_even_145 rfl ?_
        refine jg_iload cx dX3_even_146 rfl ?_
        refine jg_isub cx dX3_even_148 ?_
        refine jg_goto cx (tgt := 156) dX3_even_149 (by decide) ?_
        exact jg_iret cx dX3_even_156 (⟨by rw [← eF]; unfold jk_evR; first | rw [if_pos c142] | rw [if_neg c142], by simp only [jk_evM, eF]⟩)
