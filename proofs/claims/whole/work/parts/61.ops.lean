/-! ===== each call, both sides ===== -/
def jl_I (E : jp_E) (l : Launch) (y2 : MethodName) (ws2 : List Cond) (rm2 : Room) (as2 : List Value) (y3 : MethodName) (ws3 : List Cond) (rm3 : Room) (as3 : List Value) (c : Nat) (h : jp_H) : Prop :=
  ∃ (v : Int32) (h1 h2 : jp_H), jc_M E l y2 ws2 rm2 as2 h (jp_R (some (.int v)) h1) ∧ jc_M E l y3 ws3 rm3 as3 h1 (jp_R (some (.int v)) h2) ∧ jr (c + 50) h2.1
def jl_L (E : jp_E) (l : Launch) (y2 : MethodName) (ws2 : List Cond) (rm2 : Room) (as2 : List Value) (y3 : MethodName) (ws3 : List Cond) (rm3 : Room) (as3 : List Value) (c : Nat) (h : jp_H) : Prop :=
  ∃ (v : Int64) (h1 h2 : jp_H), jc_M E l y2 ws2 rm2 as2 h (jp_R (some (.long v)) h1) ∧ jc_M E l y3 ws3 rm3 as3 h1 (jp_R (some (.long v)) h2) ∧ jr (c + 50) h2.1
theorem jl_br {E : jp_E} {l : Launch} {y2 : MethodName} {ws2 : List Cond} {rm2 : Room} {as2 : List Value} {y3 : MethodName} {ws3 : List Cond} {rm3 : Room} {as3 : List Value} {c : Nat} {h : jp_H} {F : Int32 × jp_H} {K : Int32 × jf_B} (v : Int32) (h1 : jp_H) (M' : jf_B) (a : jc_M E l y2 ws2 rm2 as2 h (jp_R (some (.int F.1)) F.2)) (eF : F = (v, h1)) (b : jc_M E l y3 ws3 rm3 as3 (jp_u h1 7 (h1.1 7) (h1.2 7)) (jp_R (some (.int K.1)) (jp_u h1 7 K.2 (h1.2 7)))) (eK : K = (v, M')) (r : jr (c + 50) (jp_u h1 7 M' (h1.2 7)).1) : jl_I E l y2 ws2 rm2 as2 y3 ws3 rm3 as3 c h := by
  subst eF eK
  refine ⟨v, h1, jp_u h1 7 M' (h1.2 7), a, ?_, r⟩
  have e := jp_u_self h1 7
  generalize hx : jp_u h1 7 (h1.1 7) (h1.2 7) = z at b e
  subst e
  exact b
theorem jl_node (E : jp_E) (l : Launch) {c : Nat} {h : jp_H} (hr : jr c h.1) (x s j : Int32) : jl_I E l yX2_node wsX2_node ({ frames := 2, cells := 0, slots := 0, locals := 42 } : Room) [.ref (E.2.1 0 0), .int x, .int s, .int j] yX3_node wsX3_node ({ frames := 2, cells := 0, slots := 0, locals := 42 } : Room) [.ref (E.2.1 7 0), .int x, .int s, .int j] c h := by
  by_cases q1 : jf_within x (nI 0) (nI 7) = true
  · by_cases q2 : jf_within s (nI 1) (nI 4) = true
    · by_cases q3 : jf_within j (nI 0) (nI 999) = true
      · have e7 : (jp_s (jp_s h 2 1 x.toNatClampNeg s) 2 2 x.toNatClampNeg j).1 7 = h.1 7 := by rw [jp_s_n _ _ _ _ (by decide), jp_s_n _ _ _ _ (by decide)]
        obtain ⟨i, hi, ex⟩ := jf_node_of q1
        have ei : x.toNatClampNeg = i := by rw [ex]; exact nI_clamp (by omega)
        refine jl_br (h.1 2 2 x.toNatClampNeg + nI 10000) (jp_s (jp_s h 2 1 x.toNatClampNeg s) 2 2 x.toNatClampNeg j) (jf_w (jf_w (h.1 7) 1 (0 + x.toNatClampNeg) s) 1 (8 + x.toNatClampNeg) j) (jc_X2_node E l) (by unfold jF_node; rw [if_pos q1, if_pos q2, if_pos q3]) (jc_X3_node E l) (by unfold jk_node; rw [if_pos q1, if_pos q2, if_pos q3, e7, ei, hr.1.2.1 i hi]) ?_
        rw [ei]
        have w2 := (jm_within (by decide) (by decide)).mp q2
        have w3 := (jm_within (by decide) (by decide)).mp q3
        refine jr_mk (Nat.le_add_right c 50) hr _ ?_ (jr_cN hr.2.1 hi (by omega) (by omega)) ?_ ?_ ?_ (fun b hb k hk => ?_) ?_ (fun k hk => by rw [jf_w_r _ _ _ (by decide), jf_w_r _ _ _ (by decide)]) (by rw [jf_w_r _ _ _ (by decide), jf_w_r _ _ _ (by decide)])
        · rw [jp_s_1, jp_s_1]
          exact jr_cR hr.1 hi s j
        · rw [jp_s_n _ _ _ _ (by decide), jp_s_n _ _ _ _ (by decide)]
        · rw [jp_s_n _ _ _ _ (by decide), jp_s_n _ _ _ _ (by decide)]
        · rw [jp_s_n _ _ _ _ (by decide), jp_s_n _ _ _ _ (by decide)]
        · rw [jp_s_n _ _ _ _ (by omega), jp_s_n _ _ _ _ (by omega)]
          exact hr.2.2.1 b (by omega) k hk
        · obtain ⟨n, p1, p2, p3, p4⟩ := hr.2.2.2.1
          refine ⟨n, ?_, ?_, p3, fun k hk => ?_⟩
          · rw [jp_s_n _ _ _ _ (by decide), jp_s_n _ _ _ _ (by decide)]; exact p1
          · rw [jf_w_r _ _ _ (by decide), jf_w_r _ _ _ (by decide)]; exact p2
          · rw [jp_s_n _ _ _ _ (by decide), jp_s_n _ _ _ _ (by decide), jf_w_r _ _ _ (by decide), jf_w_r _ _ _ (by decide)]; exact p4 k hk
      · exact jl_br (-2) h (h.1 7) (jc_X2_node E l) (by unfold jF_node; rw [if_pos q1, if_pos q2, if_neg q3]) (jc_X3_node E l) (by unfold jk_node; rw [if_pos q1, if_pos q2, if_neg q3]) (jr_id hr)
    · exact jl_br (-2) h (h.1 7) (jc_X2_node E l) (by unfold jF_node; rw [if_pos q1, if_neg q2]) (jc_X3_node E l) (by unfold jk_node; rw [if_pos q1, if_neg q2]) (jr_id hr)
  · exact jl_br (-1) h (h.1 7) (jc_X2_node E l) (by unfold jF_node; rw [if_neg q1]) (jc_X3_node E l) (by unfold jk_node; rw [if_neg q1]) (jr_id hr)
