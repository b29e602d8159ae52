/-! ===== each call, both sides: edges, signs ===== -/
theorem jl_bv {E : jp_E} {l : Launch} {y2 : MethodName} {ws2 : List Cond} {rm2 : Room} {as2 : List Value} {y3 : MethodName} {ws3 : List Cond} {rm3 : Room} {as3 : List Value} {c : Nat} {h z z' : jp_H} {v v' : Int32} {h1 : jp_H} {M' : jf_B} {L' : jf_L} (a : jc_M E l y2 ws2 rm2 as2 z (jp_R (some (.int v)) h1)) (ez : z = h) (b : jc_M E l y3 ws3 rm3 as3 z' (jp_R (some (.int v')) (jp_u h1 7 M' L'))) (ez' : z' = h1) (e : v = v') (r : jr (c + 50) (jp_u h1 7 M' L').1) : jl_I E l y2 ws2 rm2 as2 y3 ws3 rm3 as3 c h := by
  subst ez ez' e
  exact ⟨v, _, _, a, b, r⟩
theorem jl_bL {E : jp_E} {l : Launch} {y2 : MethodName} {ws2 : List Cond} {rm2 : Room} {as2 : List Value} {y3 : MethodName} {ws3 : List Cond} {rm3 : Room} {as3 : List Value} {c : Nat} {h z z' : jp_H} {v v' : Int64} {h1 : jp_H} {M' : jf_B} {L' : jf_L} (a : jc_M E l y2 ws2 rm2 as2 z (jp_R (some (.long v)) h1)) (ez : z = h) (b : jc_M E l y3 ws3 rm3 as3 z' (jp_R (some (.long v')) (jp_u h1 7 M' L'))) (ez' : z' = h1) (e : v = v') (r : jr (c + 50) (jp_u h1 7 M' L').1) : jl_L E l y2 ws2 rm2 as2 y3 ws3 rm3 as3 c h := by
  subst ez ez' e
  exact ⟨v, _, _, a, b, r⟩
theorem jr_b2 {c : Nat} {h : jp_H} (hr : jr c h.1) {N' M' : jf_B} (L2 L' : jf_L) (hR : jm_R N' M') (hI : jm_I (c + 50) M') (hM : ∀ r, r ≠ 1 → r ≠ 5 → M' r = h.1 7 r) : jr (c + 50) (jp_u (jp_u h 2 N' L2) 7 M' L').1 := by
  refine jr_mk (Nat.le_add_right c 50) hr _ ?_ hI ?_ ?_ ?_ (fun b hb k hk => ?_) ?_ (fun k hk => by rw [hM 2 (by decide) (by decide)]) (hM 3 (by decide) (by decide))
  · rw [jp_u_1]; exact hR
  · rw [jp_u_n1 _ _ _ (by decide)]
  · rw [jp_u_n1 _ _ _ (by decide)]
  · rw [jp_u_n1 _ _ _ (by decide)]
  · rw [jp_u_n1 _ _ _ (by omega)]; exact hr.2.2.1 b (by omega) k hk
  · obtain ⟨n, p1, p2, p3, p4⟩ := hr.2.2.2.1
    refine ⟨n, ?_, ?_, p3, fun k hk => ?_⟩
    · rw [jp_u_n1 _ _ _ (by decide)]; exact p1
    · rw [hM 0 (by decide) (by decide)]; exact p2
    · rw [jp_u_n1 _ _ _ (by decide), hM 4 (by decide) (by decide)]; exact p4 k hk
theorem jm_withinM {k : Int32} : jf_within k (-1) (nI 3) = true ↔ -1 ≤ k.toInt ∧ k.toInt ≤ 3 := by
  unfold jf_within
  have m1 : ((-1 : Int32)).toInt = -1 := by decide
  have e1 : (k < -1) ↔ k.toInt < -1 := by rw [Int32.lt_iff_toInt_lt, m1]
  have e2 : (nI 3 < k) ↔ (3 : Int) < k.toInt := by rw [Int32.lt_iff_toInt_lt, nI_toInt (by decide)]; exact Iff.rfl
  by_cases q1 : k < -1
  · rw [if_pos q1]
    have := e1.mp q1
    exact ⟨fun h => absurd h (by decide), fun h => absurd h (by omega)⟩
  · rw [if_neg q1]
    have := mt e1.mpr q1
    by_cases q2 : nI 3 < k
    · rw [if_pos q2]
      have := e2.mp q2
      exact ⟨fun h => absurd h (by decide), fun h => absurd h (by omega)⟩
    · rw [if_neg q2]
      have := mt e2.mpr q2
      exact ⟨fun _ => by omega, fun _ => rfl⟩
theorem jl_edge (E : jp_E) (l : Launch) {c : Nat} {h : jp_H} (hr : jr c h.1) (x y k : Int32) : jl_I E l yX2_edge wsX2_edge ({ frames := 4, cells := 0, slots := 0, locals := 88 } : Room) [.ref (E.2.1 0 0), .int x, .int y, .int k] yX3_edge wsX3_edge ({ frames := 2, cells := 0, slots := 0, locals := 44 } : Room) [.ref (E.2.1 7 0), .int x, .int y, .int k] c h := by
  by_cases q1 : jf_within x (nI 0) (nI 7) = true
  · by_cases q2 : jf_within y (nI 0) (nI 7) = true
    · by_cases q3 : x = y
      · exact jl_br (-2) h (h.1 7) (jc_X2_edge E l) (by unfold jF_edge; rw [if_pos q1, if_pos q2, if_pos q3]) (jc_X3_edge E l) (by unfold jk_edgeF; rw [if_pos q1, if_pos q2, if_pos q3]) (jr_id hr)
      · by_cases q4 : jf_within k (-1) (nI 3) = true
        · obtain ⟨i, hi, ex⟩ := jf_node_of q1
          obtain ⟨j, hj, ey⟩ := jf_node_of q2
          have ei : x.toNatClampNeg = i := by rw [ex]; exact nI_clamp (by omega)
          have ej : y.toNatClampNeg = j := by rw [ey]; exact nI_clamp (by omega)
          have hij : i ≠ j := fun z => q3 (by rw [ex, ey, z])
          have w := jm_withinM.mp q4
          have hs := jf_spot_lt hi hj
          have h12 := hr.2.1.2.2.2.2.1
          have hle := jm_I_le (Nat.le_add_right c 50) hr.2.1
          by_cases q5 : k = -1
          · have kn : k < 0 := by rw [q5]; decide
            have el : jk_lay (h.1 7) i j k = jm_pl (h.1 7) (jf_spot i j) (-6) := by
              unfold jk_lay jm_pl
              rw [if_neg (Int32.not_le.mpr kn)]
            have R' := jm_lift hr.1 hr.2.1 hi hj hij
            have cn := jm_cnt_pl64 (h.1 7) hs (-6)
            rw [if_pos jm_neg6] at cn
            refine jl_br (jf_lift (h.1 2) i j 0 7) (jp_u h 2 (jf_lift (h.1 2) i j) (h.2 2)) (jm_pl (h.1 7) (jf_spot i j) (-6)) (jc_X2_edge E l) (by unfold jF_edge; rw [if_pos q1, if_pos q2, if_neg q3, if_pos q4, if_pos q5, ei, ej, jp_u_1]) (jc_X3_edge E l) (by unfold jk_edgeF; rw [if_pos q1, if_pos q2, if_neg q3, if_pos q4, if_pos kn, ei, ej, jp_u_n1 _ _ _ (by decide), el, R'.1.2.2.2]) ?_
            exact jr_b2 hr _ _ R' (jm_pl_I hle hs (jm_spot_lt2 hi hj hij) (Or.inl rfl) (by omega)) (fun r hr1 _ => jm_pl_r _ _ _ hr1)
          · have kz : 0 ≤ k.toInt ∧ k.toInt ≤ 3 := by
              refine ⟨?_, w.2⟩
              by_cases z : k.toInt = -1
              · exact absurd (Int32.toInt_inj.mp (by rw [z]; decide)) q5
              · omega
            have kn : ¬ k < 0 := jm_nneg kz.1
            have el : jk_lay (h.1 7) i j k = jm_pl (h.1 7) (jf_spot i j) k := by
              unfold jk_lay jm_pl
              rw [if_pos (jm_ge0.mpr kz.1)]
            have R' := jm_lay hr.1 hr.2.1 hi hj hij kz
            have cn := jm_cnt_pl64 (h.1 7) hs k
            rw [if_neg kn] at cn
            have ed := jm_joins hr.1.1 hr.2.1.1 hi hj
            have done : jk_cnt (jm_pl (h.1 7) (jf_spot i j) k) 64 ≤ 12 → jr (c + 50) (jp_u (jp_u h 2 (jf_lay (h.1 2) i j k) (h.2 2)) 7 (jm_pl (h.1 7) (jf_spot i j) k) ((jp_u h 2 (jf_lay (h.1 2) i j k) (h.2 2)).2 7)).1 := fun hE => jr_b2 hr _ _ R' (jm_pl_I hle hs (jm_spot_lt2 hi hj hij) (Or.inr kz) hE) (fun r hr1 _ => jm_pl_r _ _ _ hr1)
            by_cases q6 : jk_edge (h.1 7) i j = true
            · refine jl_br (jf_lay (h.1 2) i j k 0 7) (jp_u h 2 (jf_lay (h.1 2) i j k) (h.2 2)) (jm_pl (h.1 7) (jf_spot i j) k) (jc_X2_edge E l) (by unfold jF_edge; rw [if_pos q1, if_pos q2, if_neg q3, if_pos q4, if_neg q5, ei, ej, ed, if_pos q6, jp_u_1]) (jc_X3_edge E l) (by unfold jk_edgeF; rw [if_pos q1, if_pos q2, if_neg q3, if_pos q4, if_neg kn, ei, ej, jp_u_n1 _ _ _ (by decide), if_pos q6, el, R'.1.2.2.2]) (done ?_)
              have : jm_wt (h.1 7) (jf_spot i j) = 1 := by
                unfold jk_edge at q6
                rw [if_neg hij] at q6
                unfold jm_wt
                split
                · next z => rw [if_pos z] at q6; exact absurd q6 (by decide)
                · rfl
              omega
            · have e7 := hr.1.1.2.2.2
              by_cases q7 : jk_cnt (h.1 7) 64 = 12
              · exact jl_br (-4) h (h.1 7) (jc_X2_edge E l) (by unfold jF_edge; rw [if_pos q1, if_pos q2, if_neg q3, if_pos q4, if_neg q5, ei, ej, ed, if_neg q6, if_neg (by rw [e7, q7]; decide)]) (jc_X3_edge E l) (by unfold jk_edgeF; rw [if_pos q1, if_pos q2, if_neg q3, if_pos q4, if_neg kn, ei, ej, if_neg q6, if_pos q7]) (jr_id hr)
              · refine jl_br (jf_lay (h.1 2) i j k 0 7) (jp_u h 2 (jf_lay (h.1 2) i j k) (h.2 2)) (jm_pl (h.1 7) (jf_spot i j) k) (jc_X2_edge E l) (by unfold jF_edge; rw [if_pos q1, if_pos q2, if_neg q3, if_pos q4, if_neg q5, ei, ej, ed, if_neg q6, if_pos (by rw [e7, nI_ltI (by omega) (by decide)]; omega), jp_u_1]) (jc_X3_edge E l) (by unfold jk_edgeF; rw [if_pos q1, if_pos q2, if_neg q3, if_pos q4, if_neg kn, ei, ej, jp_u_n1 _ _ _ (by decide), if_neg q6, if_neg q7, el, R'.1.2.2.2]) (done (by omega))
        · exact jl_br (-2) h (h.1 7) (jc_X2_edge E l) (by unfold jF_edge; rw [if_pos q1, if_pos q2, if_neg q3, if_neg q4]) (jc_X3_edge E l) (by unfold jk_edgeF; rw [if_pos q1, if_pos q2, if_neg q3, if_neg q4]) (jr_id hr)
    · exact jl_br (-1) h (h.1 7) (jc_X2_edge E l) (by unfold jF_edge; rw [if_pos q1, if_neg q2]) (jc_X3_edge E l) (by unfold jk_edgeF; rw [if_pos q1, if_neg q2]) (jr_id hr)
  · exact jl_br (-1) h (h.1 7) (jc_X2_edge E l) (by unfold jF_edge; rw [if_neg q1]) (jc_X3_edge E l) (by unfold jk_edgeF; rw [if_neg q1]) (jr_id hr)
/-- the pad alone -/
theorem jr_b1 {c : Nat} {h : jp_H} (hr : jr c h.1) {P' M' : jf_B} (L1 L' : jf_L) {n : Nat} (hP : jm_P P' M' n) (hM : ∀ r, r ≠ 0 → r ≠ 4 → M' r = h.1 7 r) : jr (c + 50) (jp_u (jp_u h 1 P' L1) 7 M' L').1 := by
  have z : ∀ j, j < 153 → M' 1 j = h.1 7 1 j := fun j _ => by rw [hM 1 (by decide) (by decide)]
  refine jr_mk (Nat.le_add_right c 50) hr _ ?_ (jm_I_le (Nat.le_add_right c 50) (jm_I_c z hr.2.1)) ?_ ?_ ?_ (fun b hb k hk => ?_) ⟨n, ?_⟩ (fun k hk => by rw [hM 2 (by decide) (by decide)]) (hM 3 (by decide) (by decide))
  · rw [jp_u_n1 _ _ _ (by decide)]; exact jm_R_c z hr.1
  · rw [jp_u_n1 _ _ _ (by decide)]
  · rw [jp_u_n1 _ _ _ (by decide)]
  · rw [jp_u_n1 _ _ _ (by decide)]
  · rw [jp_u_n1 _ _ _ (by omega)]; exact hr.2.2.1 b (by omega) k hk
  · rw [jp_u_1]; exact hP
theorem jl_say (E : jp_E) (l : Launch) {c : Nat} {h : jp_H} (hr : jr c h.1) (sg : Int32) : jl_I E l yX2_say wsX2_say ({ frames := 1, cells := 0, slots := 0, locals := 22 } : Room) [.ref (E.2.1 0 0), .int sg] yX3_say wsX3_say ({ frames := 1, cells := 0, slots := 0, locals := 22 } : Room) [.ref (E.2.1 7 0), .int sg] c h := by
  obtain ⟨n, p1, p2, p3, p4⟩ := hr.2.2.2.1
  by_cases q1 : jf_within sg (nI 33) (nI 126) = true
  · by_cases q2 : n < 40
    · have w := (jm_within (by decide) (by decide)).mp q1
      have e7 : (jp_u h 1 (jf_add (h.1 1) n sg) (h.2 1)).1 7 = h.1 7 := jp_u_n1 _ _ _ (by decide)
      have v1 : jf_add (h.1 1) n sg 0 1 = nI (n + 1) := by
        unfold jf_add
        rw [jf_w_s, jf_w_r _ _ _ (by decide), p1, nI_add]
      have v2 : jf_w (h.1 7) 4 n sg 0 4 + nI 1 = nI (n + 1) := by rw [jf_w_r _ _ _ (by decide), p2, nI_add]
      refine jl_br (nI (n + 1)) (jp_u h 1 (jf_add (h.1 1) n sg) (h.2 1)) (jf_w (jf_w (h.1 7) 4 n sg) 0 4 (nI (n + 1))) (jc_X2_say E l p1 p3) (by unfold jF_say; rw [if_pos q1, if_pos q2, jp_u_1, v1]) (jc_X3_say E l (n := n) (by rw [e7]; exact p2) p3) (by unfold jk_say; rw [if_pos q1, if_neg (by omega), e7, v2, jf_w_s]) ?_
      refine jr_b1 hr _ _ (n := n + 1) ⟨v1, by rw [jf_w_s], by omega, fun i hi => ?_⟩ (fun r h0 h4 => by rw [jf_w_r _ _ _ h0, jf_w_r _ _ _ h4])
      have e1 : jf_add (h.1 1) n sg 1 i = if i = n then sg else h.1 1 1 i := by
        unfold jf_add
        rw [jf_w_r _ _ _ (by decide), jf_w_if]
        exact jm_if (by omega)
      have e2 : jf_w (jf_w (h.1 7) 4 n sg) 0 4 (nI (n + 1)) 4 i = if i = n then sg else h.1 7 4 i := by
        rw [jf_w_r _ _ _ (by decide), jf_w_if]
        exact jm_if (by omega)
      rw [e1, e2]
      by_cases z : i = n
      · rw [if_pos z, if_pos z]
        exact ⟨rfl, by omega, by omega⟩
      · rw [if_neg z, if_neg z]
        exact p4 i hi
    · exact jl_br (-4) h (h.1 7) (jc_X2_say E l p1 p3) (by unfold jF_say; rw [if_pos q1, if_neg q2]) (jc_X3_say E l p2 p3) (by unfold jk_say; rw [if_pos q1, if_pos (by omega)]) (jr_id hr)
  · exact jl_br (-2) h (h.1 7) (jc_X2_say E l p1 p3) (by unfold jF_say; rw [if_neg q1]) (jc_X3_say E l p2 p3) (by unfold jk_say; rw [if_neg q1]) (jr_id hr)
theorem jr_s_u (h : jp_H) (b r j : Nat) (x : Int32) : jp_s h b r j x = jp_u h b (jf_w (h.1 b) r j x) (h.2 b) := by
  have := jp_u_s h b (h.1 b) (h.2 b) r j x
  rw [jp_u_self] at this
  exact this
theorem jl_wipe (E : jp_E) (l : Launch) {c : Nat} {h : jp_H} (hr : jr c h.1) : jl_I E l yX2_wipe wsX2_wipe ({ frames := 0, cells := 0, slots := 0, locals := 0 } : Room) [.ref (E.2.1 0 0)] yX3_wipe wsX3_wipe ({ frames := 0, cells := 0, slots := 0, locals := 0 } : Room) [.ref (E.2.1 7 0)] c h := by
  obtain ⟨n, p1, p2, p3, p4⟩ := hr.2.2.2.1
  refine jl_bv (jc_X2_wipe E l) rfl (jc_X3_wipe E l (h := jp_s h 1 0 1 (nI 0)) (M := (jp_s h 1 0 1 (nI 0)).1 7) (L := (jp_s h 1 0 1 (nI 0)).2 7)) (jp_u_self _ 7) ?_ ?_
  · show h.1 1 0 1 = (jp_s h 1 0 1 (nI 0)).1 7 0 4
    rw [jp_s_n _ _ _ _ (by decide), p1, p2]
  · dsimp only
    rw [jp_s_n _ _ _ _ (by decide), jr_s_u]
    refine jr_b1 hr _ _ (n := 0) ⟨by rw [jf_w_s], by rw [jf_w_s], by omega, fun i hi => ?_⟩ (fun r h0 h4 => jf_w_r _ _ _ h0)
    rw [jf_w_r _ _ _ (by decide), jf_w_r _ _ _ (by decide)]
    exact p4 i hi
theorem jl_fault (E : jp_E) (l : Launch) {c : Nat} {h : jp_H} (hr : jr c h.1) : jl_I E l yX2_fault wsX2_fault ({ frames := 4, cells := 0, slots := 0, locals := 86 } : Room) [.ref (E.2.1 0 0)] yX3_fault wsX3_fault ({ frames := 4, cells := 0, slots := 0, locals := 89 } : Room) [.ref (E.2.1 7 0)] c h := by
  obtain ⟨n, hP⟩ := hr.2.2.2.1
  exact jl_bv (jc_X2_fault E l hP.1 hP.2.2.1) rfl (jc_X3_fault E l (h := h) (M := h.1 7) (L := h.2 7) hP.2.1 hP.2.2.1) (jp_u_self _ 7) (jm_ff hP) (jr_id hr)
theorem jl_net (E : jp_E) (l : Launch) {c : Nat} {h : jp_H} (hr : jr c h.1) : jl_I E l yX2_net wsX2_net ({ frames := 4, cells := 0, slots := 0, locals := 88 } : Room) [.ref (E.2.1 0 0)] yX3_net wsX3_net ({ frames := 5, cells := 0, slots := 0, locals := 110 } : Room) [.ref (E.2.1 7 0)] c h := by
  obtain ⟨n, hP⟩ := hr.2.2.2.1
  have eff := jm_ff hP
  have e6 := jm_ff6 (h.1 7) hP.2.2.1
  have A := jc_X2_net_h E l (h := h) hP.1 hP.2.2.1
  by_cases q : jk_ff (h.1 7) n = -6
  · rw [if_pos (by rw [eff]; exact q), if_pos (by rw [eff]; exact q)] at A
    have e7 : (jp_u (jp_s h 1 0 1 (nI 0)) 2 (jf_net (h.1 1) n (h.1 2)) (h.2 2)).1 7 = h.1 7 := by rw [jp_u_n1 _ _ _ (by decide), jp_s_n _ _ _ _ (by decide)]
    obtain ⟨g1, g2⟩ := jf_ff_none hP.2.2.1 (by rw [eff]; exact q)
    obtain ⟨b1, b2, b3, b4⟩ := jm_netL hP hr.1 hr.2.1 g1 g2 (n / 3) (Nat.le_refl _)
    have eN : jf_net (h.1 1) n (h.1 2) = jf_it (jf_netS (h.1 1)) (jf_liftAll (h.1 2)) (n / 3) := by unfold jf_net; rfl
    rw [← eN] at b1
    generalize hN' : jf_net (h.1 1) n (h.1 2) = N' at *
    have zz : ∀ j, j < 153 → jf_w (jk_netM (h.1 7) (n / 3)) 0 4 (nI 0) 1 j = jk_netM (h.1 7) (n / 3) 1 j := fun j _ => by rw [jf_w_r _ _ _ (by decide)]
    refine jl_bv A rfl (jc_X3_net E l (h := jp_u (jp_s h 1 0 1 (nI 0)) 2 N' (h.2 2)) (M := (jp_u (jp_s h 1 0 1 (nI 0)) 2 N' (h.2 2)).1 7) (L := (jp_u (jp_s h 1 0 1 (nI 0)) 2 N' (h.2 2)).2 7) (n := n) (by rw [e7]; exact hP.2.1) hP.2.2.1) (jp_u_self _ 7) ?_ ?_
    · rw [e7]
      unfold jk_net
      rw [if_pos (e6.mp q)]
      dsimp only
      rw [jk_cnt_c (M := jk_netM (h.1 7) (n / 3)) (fun j hj => zz _ (by omega)) 64 (Nat.le_refl 64)]
      exact b1.1.2.2.2
    · rw [e7]
      unfold jk_net
      rw [if_pos (e6.mp q)]
      dsimp only
      refine jr_mk (Nat.le_add_right c 50) hr _ ?_ (jm_I_le (Nat.le_add_right c 50) (jm_I_c zz b2)) ?_ ?_ ?_ (fun b hb k hk => ?_) ⟨0, ?_⟩ (fun k hk => by rw [jf_w_r _ _ _ (by decide), b3 2 (by decide)]) (by rw [jf_w_r _ _ _ (by decide), b3 3 (by decide)])
      · rw [jp_u_1]; exact jm_R_c zz b1
      · rw [jp_u_n1 _ _ _ (by decide), jp_s_n _ _ _ _ (by decide)]
      · rw [jp_u_n1 _ _ _ (by decide), jp_s_n _ _ _ _ (by decide)]
      · rw [jp_u_n1 _ _ _ (by decide), jp_s_n _ _ _ _ (by decide)]
      · rw [jp_u_n1 _ _ _ (by omega), jp_s_n _ _ _ _ (by omega)]; exact hr.2.2.1 b (by omega) k hk
      · rw [jp_u_n1 _ _ _ (by decide), jp_s_1]
        refine ⟨by rw [jf_w_s], by rw [jf_w_s], by omega, fun i hi => ?_⟩
        rw [jf_w_r _ _ _ (by decide), jf_w_r _ _ _ (by decide), b3 4 (by decide)]
        exact hP.2.2.2 i hi
  · rw [if_neg (by rw [eff]; exact q), if_neg (by rw [eff]; exact q)] at A
    refine jl_bv A rfl (jc_X3_net E l (h := h) (M := h.1 7) (L := h.2 7) hP.2.1 hP.2.2.1) (jp_u_self _ 7) ?_ ?_
    · unfold jk_net
      rw [if_neg (fun z => q (e6.mpr z))]
    · unfold jk_net
      rw [if_neg (fun z => q (e6.mpr z))]
      exact jr_id hr
