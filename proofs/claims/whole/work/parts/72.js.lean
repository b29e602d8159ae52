/-! ===== the constructors of the model and of JobSpread ===== -/
def jn_mod0 : va_E := .inr (3, [.null, .null, .null, .null, .int 0, .null, .int 0, .int 0, .null, .null, .null])
def jn_modW (q : ClassId × ClassId × ClassId) (a : Nat) (b : Nat → Nat) (f : Nat → Int32) : va_W := [(a, .inr (3, [.ref (b 1), .ref (b 2), .ref (b 3), .ref (b 4), .int 0, .ref (b 5), .int 0, .int 0, .ref (b 6), .ref (b 7), .ref (b 8)])), (b 1, .inl (q.1, 153, .inl f)), (b 2, .inl (q.1, 459, .inl (fun _ => 0))), (b 3, .inl (q.2.2, 2, .inl (fun _ => 0))), (b 4, .inl (q.1, 40, .inl (fun _ => 0))), (b 5, .inl (q.1, 8, .inl (fun _ => 0))), (b 6, .inl (q.2.1, 8, .inr (.inl (fun _ => 0)))), (b 7, .inl (q.2.1, 8, .inr (.inl (fun _ => 0)))), (b 8, .inl (q.1, 24381, .inl (fun _ => 0)))]
def jn_modF (f : Nat → Int32) : Prop := (∀ i, i < 8 → f i = 1) ∧ (∀ j, j < 64 → f (24 + j) = -6) ∧ ∀ i, (8 ≤ i ∧ i < 24) ∨ 88 ≤ i → f i = 0
def jn_modP (q : ClassId × ClassId × ClassId) (a : Nat) (w : va_W) : Prop := ∃ (b : Nat → Nat) (f : Nat → Int32), w = jn_modW q a b f ∧ jn_modF f
def jn_b8 (a1 a2 a3 a4 a5 a6 a7 a8 : Nat) : Nat → Nat := fun k => match k with
  | 1 => a1
  | 2 => a2
  | 3 => a3
  | 4 => a4
  | 5 => a5
  | 6 => a6
  | 7 => a7
  | _ => a8
set_option maxHeartbeats 1000000 in
set_option maxRecDepth 100000 in
theorem jn_X3_init (G : va_G) (q : ClassId × ClassId × ClassId) (l : Launch) (a : Nat) : jn_M G q l yX3_init wsX3_init ({ frames := 1, cells := 8, slots := 25059, locals := 12 } : Room) a [(a, jn_mod0)] (jn_modP q a) 8 25059 := by
  refine jn_of (cc := cX3_init) (maxL := 2) (own := RX3) (by decide) rfl rfl rfl (Nat.le_of_ble_eq_true rfl) (fun A X cx => ?_)
  have inX3 : ∀ w ∈ u_ws RX3 TX3 11, w ∈ wsX3_init := by decide +kernel
  unfold jn_mod0
  refine jn_aload_n cx dX3_init_0 rfl ?_
  refine jn_objInit cx (by decide +kernel) (by decide +kernel) (by decide +kernel) (Nat.le_of_ble_eq_true rfl) (Nat.le_of_ble_eq_true rfl) dX3_init_1 ?_
  refine jn_aload_n cx dX3_init_4 rfl ?_
  refine jn_sipush cx (v := nI 153) dX3_init_5 (by decide) ?_
  refine jn_newi cx (n := 153) dX3_init_8 (by decide +kernel) (by decide) (Nat.le_of_ble_eq_true rfl) (Nat.le_of_ble_eq_true rfl) (Nat.le_of_ble_eq_true rfl) (fun a1 => ?_)
  refine jn_putF cx 0 (ci := 3) rfl rfl inX3 tyX3 tyX3_ok nmX3 0 (by decide) (by decide +kernel) rfl rfl (tyX3_ok 0 (by decide)) rfl rfl (Nat.le_of_ble_eq_true rfl) rfl dX3_init_10 ?_
  refine jn_aload_n cx dX3_init_13 rfl ?_
  refine jn_sipush cx (v := nI 459) dX3_init_14 (by decide) ?_
  refine jn_newi cx (n := 459) dX3_init_17 (by decide +kernel) (by decide) (Nat.le_of_ble_eq_true rfl) (Nat.le_of_ble_eq_true rfl) (Nat.le_of_ble_eq_true rfl) (fun a2 => ?_)
  refine jn_putF cx 0 (ci := 3) rfl rfl inX3 tyX3 tyX3_ok nmX3 1 (by decide) (by decide +kernel) rfl rfl (tyX3_ok 1 (by decide)) rfl rfl (Nat.le_of_ble_eq_true rfl) rfl dX3_init_19 ?_
  refine jn_aload_n cx dX3_init_22 rfl ?_
  refine jn_iconst cx (v := nI 2) dX3_init_23 (by decide) ?_
  refine jn_newz cx (n := 2) dX3_init_24 (by decide +kernel) (by decide) (Nat.le_of_ble_eq_true rfl) (Nat.le_of_ble_eq_true rfl) (Nat.le_of_ble_eq_true rfl) (fun a3 => ?_)
  refine jn_putF cx 0 (ci := 3) rfl rfl inX3 tyX3 tyX3_ok nmX3 2 (by decide) (by decide +kernel) rfl rfl (tyX3_ok 2 (by decide)) rfl rfl (Nat.le_of_ble_eq_true rfl) rfl dX3_init_26 ?_
  refine jn_aload_n cx dX3_init_29 rfl ?_
  refine jn_bipush cx (v := nI 40) dX3_init_30 (by decide) ?_
  refine jn_newi cx (n := 40) dX3_init_32 (by decide +kernel) (by decide) (Nat.le_of_ble_eq_true rfl) (Nat.le_of_ble_eq_true rfl) (Nat.le_of_ble_eq_true rfl) (fun a4 => ?_)
  refine jn_putF cx 0 (ci := 3) rfl rfl inX3 tyX3 tyX3_ok nmX3 3 (by decide) (by decide +kernel) rfl rfl (tyX3_ok 3 (by decide)) rfl rfl (Nat.le_of_ble_eq_true rfl) rfl dX3_init_34 ?_
  refine jn_aload_n cx dX3_init_37 rfl ?_
  refine jn_bipush cx (v := nI 8) dX3_init_38 (by decide) ?_
  refine jn_newi cx (n := 8) dX3_init_40 (by decide +kernel) (by decide) (Nat.le_of_ble_eq_true rfl) (Nat.le_of_ble_eq_true rfl) (Nat.le_of_ble_eq_true rfl) (fun a5 => ?_)
  refine jn_putF cx 0 (ci := 3) rfl rfl inX3 tyX3 tyX3_ok nmX3 5 (by decide) (by decide +kernel) rfl rfl (tyX3_ok 5 (by decide)) rfl rfl (Nat.le_of_ble_eq_true rfl) rfl dX3_init_42 ?_
  refine jn_aload_n cx dX3_init_45 rfl ?_
  refine jn_bipush cx (v := nI 8) dX3_init_46 (by decide) ?_
  refine jn_newl cx (n := 8) dX3_init_48 (by decide +kernel) (by decide) (Nat.le_of_ble_eq_true rfl) (Nat.le_of_ble_eq_true rfl) (Nat.le_of_ble_eq_true rfl) (fun a6 => ?_)
  refine jn_putF cx 0 (ci := 3) rfl rfl inX3 tyX3 tyX3_ok nmX3 8 (by decide) (by decide +kernel) rfl rfl (tyX3_ok 8 (by decide)) rfl rfl (Nat.le_of_ble_eq_true rfl) rfl dX3_init_50 ?_
  refine jn_aload_n cx dX3_init_53 rfl ?_
  refine jn_bipush cx (v := nI 8) dX3_init_54 (by decide) ?_
  refine jn_newl cx (n := 8) dX3_init_56 (by decide +kernel) (by decide) (Nat.le_of_ble_eq_true rfl) (Nat.le_of_ble_eq_true rfl) (Nat.le_of_ble_eq_true rfl) (fun a7 => ?_)
  refine jn_putF cx 0 (ci := 3) rfl rfl inX3 tyX3 tyX3_ok nmX3 9 (by decide) (by decide +kernel) rfl rfl (tyX3_ok 9 (by decide)) rfl rfl (Nat.le_of_ble_eq_true rfl) rfl dX3_init_58 ?_
  refine jn_aload_n cx dX3_init_61 rfl ?_
  refine jn_sipush cx (v := nI 24381) dX3_init_62 (by decide) ?_
  refine jn_newi cx (n := 24381) dX3_init_65 (by decide +kernel) (by decide) (Nat.le_of_ble_eq_true rfl) (Nat.le_of_ble_eq_true rfl) (Nat.le_of_ble_eq_true rfl) (fun a8 => ?_)
  refine jn_putF cx 0 (ci := 3) rfl rfl inX3 tyX3 tyX3_ok nmX3 10 (by decide) (by decide +kernel) rfl rfl (tyX3_ok 10 (by decide)) rfl rfl (Nat.le_of_ble_eq_true rfl) rfl dX3_init_67 ?_
  refine jn_iconst cx (v := nI 0) dX3_init_70 (by decide) ?_
  refine jn_istore_n cx (lv' := [(0, .ref a), (1, .int (nI 0))]) dX3_init_71 (by decide) rfl ?_
  have lp2 : ∀ (d i : Nat) (f : Nat → Int32), i + d = 64 → (∀ k, k < 8 → f k = 1) → (∀ k, k < i → f (24 + k) = -6) → (∀ k, (8 ≤ k ∧ k < 24) ∨ 88 ≤ k → f k = 0) → X 95 [(0, .ref a), (1, .int (nI i))] [] (jn_modW q a (jn_b8 a1 a2 a3 a4 a5 a6 a7 a8) f) 8 25059 := by
    intro d
    induction d with
    | zero =>
      intro i f hi hf hg hz
      refine jn_iload_n cx dX3_init_95 rfl ?_
      refine jn_bipush cx (v := nI 64) dX3_init_96 (by decide) ?_
      refine jn_icmpN_ge cx (tgt := 118) dX3_init_98 (by decide) (by omega) (by decide) (fun _ => ?_) (fun z => absurd z (by omega))
      exact jn_ret cx dX3_init_118 ⟨_, f, rfl, hf, fun j hj => hg j (by omega), hz⟩
    | succ d ih =>
      intro i f hi hf hg hz
      refine jn_iload_n cx dX3_init_95 rfl ?_
      refine jn_bipush cx (v := nI 64) dX3_init_96 (by decide) ?_
      refine jn_icmpN_ge cx (tgt := 118) dX3_init_98 (by decide) (by omega) (by decide) (fun z => absurd z (by omega)) (fun _ => ?_)
      refine jn_aload_n cx dX3_init_101 rfl ?_
      refine jn_get cx 0 (ci := 3) rfl rfl inX3 0 (by decide) (by decide +kernel) rfl dX3_init_102 ?_
      refine jn_bipush cx (v := nI 24) dX3_init_105 (by decide) ?_
      refine jn_iload_n cx dX3_init_107 rfl ?_
      refine jn_iaddN cx dX3_init_108 ?_
      refine jn_bipush cx (v := -6) dX3_init_109 (by decide) ?_
      refine jn_iast cx 1 (n := 153) rfl (by omega) (by decide) rfl dX3_init_111 ?_
      refine jn_iincN cx (d := 1) (lv' := [(0, .ref a), (1, .int (nI (i + 1)))]) dX3_init_112 rfl (by decide) (by decide) rfl ?_
      refine jn_goto cx (tgt := 95) dX3_init_115 (by decide) ?_
      refine ih (i + 1) (upd f (24 + i) (-6)) (by omega) (fun k hk => ?_) (fun k hk => ?_) (fun k hk => ?_)
      · simp only [upd, show ¬ k = 24 + i by omega, if_false]; exact hf k hk
      · by_cases z : k = i
        · rw [z]; simp [upd]
        · simp only [upd, show ¬ 24 + k = 24 + i by omega, if_false]; exact hg k (by omega)
      · simp only [upd, show ¬ k = 24 + i by omega, if_false]; exact hz k hk
  have lp1 : ∀ (d i : Nat) (f : Nat → Int32), i + d = 8 → (∀ k, k < i → f k = 1) → (∀ k, (8 ≤ k ∧ k < 24) ∨ 88 ≤ k → f k = 0) → X 72 [(0, .ref a), (1, .int (nI i))] [] (jn_modW q a (jn_b8 a1 a2 a3 a4 a5 a6 a7 a8) f) 8 25059 := by
    intro d
    induction d with
    | zero =>
      intro i f hi hf hz
      refine jn_iload_n cx dX3_init_72 rfl ?_
      refine jn_bipush cx (v := nI 8) dX3_init_73 (by decide) ?_
      refine jn_icmpN_ge cx (tgt := 93) dX3_init_75 (by decide) (by omega) (by decide) (fun _ => ?_) (fun z => absurd z (by omega))
      refine jn_iconst cx (v := nI 0) dX3_init_93 (by decide) ?_
      refine jn_istore_n cx (lv' := [(0, .ref a), (1, .int (nI 0))]) dX3_init_94 (by decide) rfl ?_
      exact lp2 64 0 f (by omega) (fun k hk => hf k (by omega)) (fun k hk => absurd hk (by omega)) hz
    | succ d ih =>
      intro i f hi hf hz
      refine jn_iload_n cx dX3_init_72 rfl ?_
      refine jn_bipush cx (v := nI 8) dX3_init_73 (by decide) ?_
      refine jn_icmpN_ge cx (tgt := 93) dX3_init_75 (by decide) (by omega) (by decide) (fun z => absurd z (by omega)) (fun _ => ?_)
      refine jn_aload_n cx dX3_init_78 rfl ?_
      refine jn_get cx 0 (ci := 3) rfl rfl inX3 0 (by decide) (by decide +kernel) rfl dX3_init_79 ?_
      refine jn_iconst cx (v := nI 0) dX3_init_82 (by decide) ?_
      refine jn_iload_n cx dX3_init_83 rfl ?_
      refine jn_iaddN cx dX3_init_84 ?_
      refine jn_iconst cx (v := 1) dX3_init_85 (by decide) ?_
      refine jn_iast cx 1 (n := 153) rfl (by omega) (by decide) rfl dX3_init_86 ?_
      refine jn_iincN cx (d := 1) (lv' := [(0, .ref a), (1, .int (nI (i + 1)))]) dX3_init_87 rfl (by decide) (by decide) rfl ?_
      refine jn_goto cx (tgt := 72) dX3_init_90 (by decide) ?_
      refine ih (i + 1) (upd f (0 + i) 1) (by omega) (fun k hk => ?_) (fun k hk => ?_)
      · by_cases z : k = i
        · rw [z]; simp [upd]
        · simp only [upd, show ¬ k = 0 + i by omega, if_false]; exact hf k (by omega)
      · simp only [upd, show ¬ k = 0 + i by omega, if_false]; exact hz k hk
  exact lp1 8 0 (fun _ => 0) (by omega) (fun k hk => absurd hk (by omega)) (fun _ _ => rfl)
def jn_js0 : va_E := .inr (2, [.null, .null, .null, .null, .int 0, .null, .null, .null, .null])
def jn_jsW (q : ClassId × ClassId × ClassId) (a : Nat) (ad : Nat → Nat → Nat) (f g : Nat → Nat → Int32) : va_W := (a, .inr (2, [.ref (ad 1 0), .ref (ad 2 0), .ref (ad 3 0), .ref (ad 4 0), .int 0, .ref (ad 5 0), .ref (ad 6 0), .ref (ad 0 1), .ref (ad 0 2)])) :: (((((((jn_padW q (ad 1 0) (ad 1 1) ++ jn_netW q (ad 2 0) (ad 2) (f 2) (g 2)) ++ jn_netW q (ad 3 0) (ad 3) (f 3) (g 3)) ++ jn_netW q (ad 4 0) (ad 4) (f 4) (g 4)) ++ jn_netW q (ad 5 0) (ad 5) (f 5) (g 5)) ++ jn_netW q (ad 6 0) (ad 6) (f 6) (g 6)) ++ [(ad 0 1, .inl (q.2.1, 8, .inr (.inl (fun _ => 0))))]) ++ [(ad 0 2, .inl (q.2.1, 8, .inr (.inl (fun _ => 0))))])
def jn_jsP (q : ClassId × ClassId × ClassId) (a : Nat) (w : va_W) : Prop := ∃ (ad : Nat → Nat → Nat) (f g : Nat → Nat → Int32), w = jn_jsW q a ad f g ∧ (∀ b, 2 ≤ b → b ≤ 6 → ∀ i, i < 8 → f b i = 1) ∧ ∀ b, 2 ≤ b → b ≤ 6 → ∀ j, j < 64 → g b j = -1
def jn_a0 (x : Nat) (b : Nat → Nat) : Nat → Nat := fun r => match r with
  | 0 => x
  | r + 1 => b (r + 1)
def jn_ad (ap ap1 n2 n3 n4 n5 n6 l1 l2 : Nat) (b2 b3 b4 b5 b6 : Nat → Nat) : Nat → Nat → Nat := fun b => match b with
  | 0 => fun r => match r with
    | 1 => l1
    | _ => l2
  | 1 => fun r => match r with
    | 0 => ap
    | _ => ap1
  | 2 => jn_a0 n2 b2
  | 3 => jn_a0 n3 b3
  | 4 => jn_a0 n4 b4
  | 5 => jn_a0 n5 b5
  | _ => jn_a0 n6 b6
def jn_fn (f2 f3 f4 f5 f6 : Nat → Int32) : Nat → Nat → Int32 := fun b => match b with
  | 2 => f2
  | 3 => f3
  | 4 => f4
  | 5 => f5
  | _ => f6
theorem jn_fn_all {P : (Nat → Int32) → Prop} {f2 f3 f4 f5 f6 : Nat → Int32} (h2 : P f2) (h3 : P f3) (h4 : P f4) (h5 : P f5) (h6 : P f6) : ∀ b, 2 ≤ b → b ≤ 6 → P (jn_fn f2 f3 f4 f5 f6 b) := by
  intro b hb hb2
  rcases (show b = 2 ∨ b = 3 ∨ b = 4 ∨ b = 5 ∨ b = 6 by omega) with e | e | e | e | e <;> subst e
  · exact h2
  · exact h3
  · exact h4
  · exact h5
  · exact h6
set_option maxHeartbeats 1000000 in
set_option maxRecDepth 100000 in
theorem jn_X2_init (G : va_G) (q : ClassId × ClassId × ClassId) (l : Launch) (a : Nat) : jn_M G q l yX2_init wsX2_init ({ frames := 2, cells := 44, slots := 943, locals := 33 } : Room) a [(a, jn_js0)] (jn_jsP q a) 44 943 := by
  refine jn_of (cc := cX2_init) (maxL := 1) (own := RX2) (by decide) rfl rfl rfl (Nat.le_of_ble_eq_true rfl) (fun A X cx => ?_)
  have inX2 : ∀ w ∈ u_ws RX2 TX2 9, w ∈ wsX2_init := by decide +kernel
  have inX1 : ∀ w ∈ u_ws RX1 TX1 2, w ∈ wsX2_init := by decide +kernel
  have inX0 : ∀ w ∈ u_ws RX0 TX0 9, w ∈ wsX2_init := by decide +kernel
  unfold jn_js0
  refine jn_aload_n cx dX2_init_0 rfl ?_
  refine jn_objInit cx (by decide +kernel) (by decide +kernel) (by decide +kernel) (Nat.le_of_ble_eq_true rfl) (Nat.le_of_ble_eq_true rfl) dX2_init_1 ?_
  refine jn_aload_n cx dX2_init_4 rfl ?_
  refine jn_new cx (ci := 1) [.null, .int 0] rfl inX1 tyX1 tyX1_ok (by decide +kernel) (by decide +kernel) (by decide +kernel) (fun j hj => by rcases (show j = 0 ∨ j = 1 by omega) with rfl | rfl <;> rfl) (Nat.le_of_ble_eq_true rfl) (Nat.le_of_ble_eq_true rfl) dX2_init_5 (fun ap => ?_)
  refine jn_dup cx dX2_init_8 rfl ?_
  refine jn_call cx (jn_X1_init G q l ap) gX2_init_X1_init_n9 (by decide +kernel) (by decide +kernel) (by decide +kernel) rfl ⟨rfl, rfl⟩ ⟨(Nat.le_of_ble_eq_true rfl), (Nat.le_of_ble_eq_true rfl)⟩ (by decide +kernel) rfl (Nat.le_of_ble_eq_true rfl) ⟨(Nat.le_of_ble_eq_true rfl), (Nat.le_of_ble_eq_true rfl)⟩ dX2_init_9 (fun w1 hw1 => ?_)
  obtain ⟨ap1, rfl⟩ := hw1
  refine jn_putF cx 0 (ci := 2) (ws' := (a, .inr (2, [.ref ap, .null, .null, .null, .int 0, .null, .null, .null, .null])) :: (jn_padW q ap ap1)) rfl rfl inX2 tyX2 tyX2_ok nmX2 0 (by decide) (by decide +kernel) rfl rfl (tyX2_ok 0 (by decide)) rfl rfl (Nat.le_of_ble_eq_true rfl) rfl dX2_init_12 ?_
  refine jn_aload_n cx dX2_init_15 rfl ?_
  refine jn_new cx (ci := 0) [.null, .null, .null, .null, .null, .null, .null, .int 0, .int 0] rfl inX0 tyX0 tyX0_ok (by decide +kernel) (by decide +kernel) (by decide +kernel) (fun j hj => by rcases (show j = 0 ∨ j = 1 ∨ j = 2 ∨ j = 3 ∨ j = 4 ∨ j = 5 ∨ j = 6 ∨ j = 7 ∨ j = 8 by omega) with rfl | rfl | rfl | rfl | rfl | rfl | rfl | rfl | rfl <;> rfl) (Nat.le_of_ble_eq_true rfl) (Nat.le_of_ble_eq_true rfl) dX2_init_16 (fun n2 => ?_)
  refine jn_dup cx dX2_init_19 rfl ?_
  refine jn_call cx (jn_X0_init G q l n2) gX2_init_X0_init_n18 (by decide +kernel) (by decide +kernel) (by decide +kernel) rfl ⟨rfl, rfl⟩ ⟨(Nat.le_of_ble_eq_true rfl), (Nat.le_of_ble_eq_true rfl)⟩ (by decide +kernel) rfl (Nat.le_of_ble_eq_true rfl) ⟨(Nat.le_of_ble_eq_true rfl), (Nat.le_of_ble_eq_true rfl)⟩ dX2_init_20 (fun w1 hw1 => ?_)
  obtain ⟨b2, f2, g2, rfl, hf2, hg2⟩ := hw1
  refine jn_putF cx 0 (ci := 2) (ws' := (a, .inr (2, [.ref ap, .ref n2, .null, .null, .int 0, .null, .null, .null, .null])) :: (jn_padW q ap ap1 ++ jn_netW q n2 b2 f2 g2)) rfl rfl inX2 tyX2 tyX2_ok nmX2 1 (by decide) (by decide +kernel) rfl rfl (tyX2_ok 1 (by decide)) rfl rfl (Nat.le_of_ble_eq_true rfl) rfl dX2_init_23 ?_
  refine jn_aload_n cx dX2_init_26 rfl ?_
  refine jn_new cx (ci := 0) [.null, .null, .null, .null, .null, .null, .null, .int 0, .int 0] rfl inX0 tyX0 tyX0_ok (by decide +kernel) (by decide +kernel) (by decide +kernel) (fun j hj => by rcases (show j = 0 ∨ j = 1 ∨ j = 2 ∨ j = 3 ∨ j = 4 ∨ j = 5 ∨ j = 6 ∨ j = 7 ∨ j = 8 by omega) with rfl | rfl | rfl | rfl | rfl | rfl | rfl | rfl | rfl <;> rfl) (Nat.le_of_ble_eq_true rfl) (Nat.le_of_ble_eq_true rfl) dX2_init_27 (fun n3 => ?_)
  refine jn_dup cx dX2_init_30 rfl ?_
  refine jn_call cx (jn_X0_init G q l n3) gX2_init_X0_init_n18 (by decide +kernel) (by decide +kernel) (by decide +kernel) rfl ⟨rfl, rfl⟩ ⟨(Nat.le_of_ble_eq_true rfl), (Nat.le_of_ble_eq_true rfl)⟩ (by decide +kernel) rfl (Nat.le_of_ble_eq_true rfl) ⟨(Nat.le_of_ble_eq_true rfl), (Nat.le_of_ble_eq_true rfl)⟩ dX2_init_31 (fun w1 hw1 => ?_)
  obtain ⟨b3, f3, g3, rfl, hf3, hg3⟩ := hw1
  refine jn_putF cx 0 (ci := 2) (ws' := (a, .inr (2, [.ref ap, .ref n2, .ref n3, .null, .int 0, .null, .null, .null, .null])) :: ((jn_padW q ap ap1 ++ jn_netW q n2 b2 f2 g2) ++ jn_netW q n3 b3 f3 g3)) rfl rfl inX2 tyX2 tyX2_ok nmX2 2 (by decide) (by decide +kernel) rfl rfl (tyX2_ok 2 (by decide)) rfl rfl (Nat.le_of_ble_eq_true rfl) rfl dX2_init_34 ?_
  refine jn_aload_n cx dX2_init_37 rfl ?_
  refine jn_new cx (ci := 0) [.null, .null, .null, .null, .null, .null, .null, .int 0, .int 0] rfl inX0 tyX0 tyX0_ok (by decide +kernel) (by decide +kernel) (by decide +kernel) (fun j hj => by rcases (show j = 0 ∨ j = 1 ∨ j = 2 ∨ j = 3 ∨ j = 4 ∨ j = 5 ∨ j = 6 ∨ j = 7 ∨ j = 8 by omega) with rfl | rfl | rfl | rfl | rfl | rfl | rfl | rfl | rfl <;> rfl) (Nat.le_of_ble_eq_true rfl) (Nat.le_of_ble_eq_true rfl) dX2_init_38 (fun n4 => ?_)
  refine jn_dup cx dX2_init_41 rfl ?_
  refine jn_call cx (jn_X0_init G q l n4) gX2_init_X0_init_n18 (by decide +kernel) (by decide +kernel) (by decide +kernel) rfl ⟨rfl, rfl⟩ ⟨(Nat.le_of_ble_eq_true rfl), (Nat.le_of_ble_eq_true rfl)⟩ (by decide +kernel) rfl (Nat.le_of_ble_eq_true rfl) ⟨(Nat.le_of_ble_eq_true rfl), (Nat.le_of_ble_eq_true rfl)⟩ dX2_init_42 (fun w1 hw1 => ?_)
  obtain ⟨b4, f4, g4, rfl, hf4, hg4⟩ := hw1
  refine jn_putF cx 0 (ci := 2) (ws' := (a, .inr (2, [.ref ap, .ref n2, .ref n3, .ref n4, .int 0, .null, .null, .null, .null])) :: (((jn_padW q ap ap1 ++ jn_netW q n2 b2 f2 g2) ++ jn_netW q n3 b3 f3 g3) ++ jn_netW q n4 b4 f4 g4)) rfl rfl inX2 tyX2 tyX2_ok nmX2 3 (by decide) (by decide +kernel) rfl rfl (tyX2_ok 3 (by decide)) rfl rfl (Nat.le_of_ble_eq_true rfl) rfl dX2_init_45 ?_
  refine jn_aload_n cx dX2_init_48 rfl ?_
  refine jn_iconst cx (v := 0) dX2_init_49 (by decide) ?_
  refine jn_put cx 0 (ci := 2) (ws' := (a, .inr (2, [.ref ap, .ref n2, .ref n3, .ref n4, .int 0, .null, .null, .null, .null])) :: (((jn_padW q ap ap1 ++ jn_netW q n2 b2 f2 g2) ++ jn_netW q n3 b3 f3 g3) ++ jn_netW q n4 b4 f4 g4)) rfl rfl inX2 tyX2 tyX2_ok nmX2 4 (by decide) (by decide +kernel) rfl (tyX2_ok 4 (by decide)) (Nat.le_of_ble_eq_true rfl) rfl dX2_init_50 ?_
  refine jn_aload_n cx dX2_init_53 rfl ?_
  refine jn_new cx (ci := 0) [.null, .null, .null, .null, .null, .null, .null, .int 0, .int 0] rfl inX0 tyX0 tyX0_ok (by decide +kernel) (by decide +kernel) (by decide +kernel) (fun j hj => by rcases (show j = 0 ∨ j = 1 ∨ j = 2 ∨ j = 3 ∨ j = 4 ∨ j = 5 ∨ j = 6 ∨ j = 7 ∨ j = 8 by omega) with rfl | rfl | rfl | rfl | rfl | rfl | rfl | rfl | rfl <;> rfl) (Nat.le_of_ble_eq_true rfl) (Nat.le_of_ble_eq_true rfl) dX2_init_54 (fun n5 => ?_)
  refine jn_dup cx dX2_init_57 rfl ?_
  refine jn_call cx (jn_X0_init G q l n5) gX2_init_X0_init_n18 (by decide +kernel) (by decide +kernel) (by decide +kernel) rfl ⟨rfl, rfl⟩ ⟨(Nat.le_of_ble_eq_true rfl), (Nat.le_of_ble_eq_true rfl)⟩ (by decide +kernel) rfl (Nat.le_of_ble_eq_true rfl) ⟨(Nat.le_of_ble_eq_true rfl), (Nat.le_of_ble_eq_true rfl)⟩ dX2_init_58 (fun w1 hw1 => ?_)
  obtain ⟨b5, f5, g5, rfl, hf5, hg5⟩ := hw1
  refine jn_putF cx 0 (ci := 2) (ws' := (a, .inr (2, [.ref ap, .ref n2, .ref n3, .ref n4, .int 0, .ref n5, .null, .null, .null])) :: ((((jn_padW q ap ap1 ++ jn_netW q n2 b2 f2 g2) ++ jn_netW q n3 b3 f3 g3) ++ jn_netW q n4 b4 f4 g4) ++ jn_netW q n5 b5 f5 g5)) rfl rfl inX2 tyX2 tyX2_ok nmX2 5 (by decide) (by decide +kernel) rfl rfl (tyX2_ok 5 (by decide)) rfl rfl (Nat.le_of_ble_eq_true rfl) rfl dX2_init_61 ?_
  refine jn_aload_n cx dX2_init_64 rfl ?_
  refine jn_new cx (ci := 0) [.null, .null, .null, .null, .null, .null, .null, .int 0, .int 0] rfl inX0 tyX0 tyX0_ok (by decide +kernel) (by decide +kernel) (by decide +kernel) (fun j hj => by rcases (show j = 0 ∨ j = 1 ∨ j = 2 ∨ j = 3 ∨ j = 4 ∨ j = 5 ∨ j = 6 ∨ j = 7 ∨ j = 8 by omega) with rfl | rfl | rfl | rfl | rfl | rfl | rfl | rfl | rfl <;> rfl) (Nat.le_of_ble_eq_true rfl) (Nat.le_of_ble_eq_true rfl) dX2_init_65 (fun n6 => ?_)
  refine jn_dup cx dX2_init_68 rfl ?_
  refine jn_call cx (jn_X0_init G q l n6) gX2_init_X0_init_n18 (by decide +kernel) (by decide +kernel) (by decide +kernel) rfl ⟨rfl, rfl⟩ ⟨(Nat.le_of_ble_eq_true rfl), (Nat.le_of_ble_eq_true rfl)⟩ (by decide +kernel) rfl (Nat.le_of_ble_eq_true rfl) ⟨(Nat.le_of_ble_eq_true rfl), (Nat.le_of_ble_eq_true rfl)⟩ dX2_init_69 (fun w1 hw1 => ?_)
  obtain ⟨b6, f6, g6, rfl, hf6, hg6⟩ := hw1
  refine jn_putF cx 0 (ci := 2) (ws' := (a, .inr (2, [.ref ap, .ref n2, .ref n3, .ref n4, .int 0, .ref n5, .ref n6, .null, .null])) :: (((((jn_padW q ap ap1 ++ jn_netW q n2 b2 f2 g2) ++ jn_netW q n3 b3 f3 g3) ++ jn_netW q n4 b4 f4 g4) ++ jn_netW q n5 b5 f5 g5) ++ jn_netW q n6 b6 f6 g6)) rfl rfl inX2 tyX2 tyX2_ok nmX2 6 (by decide) (by decide +kernel) rfl rfl (tyX2_ok 6 (by decide)) rfl rfl (Nat.le_of_ble_eq_true rfl) rfl dX2_init_72 ?_
  refine jn_aload_n cx dX2_init_75 rfl ?_
  refine jn_bipush cx (v := nI 8) dX2_init_76 (by decide) ?_
  refine jn_newl cx (n := 8) dX2_init_78 (by decide +kernel) (by decide) (Nat.le_of_ble_eq_true rfl) (Nat.le_of_ble_eq_true rfl) (Nat.le_of_ble_eq_true rfl) (fun l1 => ?_)
  refine jn_putF cx 0 (ci := 2) (ws' := (a, .inr (2, [.ref ap, .ref n2, .ref n3, .ref n4, .int 0, .ref n5, .ref n6, .ref l1, .null])) :: ((((((jn_padW q ap ap1 ++ jn_netW q n2 b2 f2 g2) ++ jn_netW q n3 b3 f3 g3) ++ jn_netW q n4 b4 f4 g4) ++ jn_netW q n5 b5 f5 g5) ++ jn_netW q n6 b6 f6 g6) ++ [(l1, .inl (q.2.1, 8, .inr (.inl (fun _ => 0))))])) rfl rfl inX2 tyX2 tyX2_ok nmX2 7 (by decide) (by decide +kernel) rfl rfl (tyX2_ok 7 (by decide)) rfl rfl (Nat.le_of_ble_eq_true rfl) rfl dX2_init_80 ?_
  refine jn_aload_n cx dX2_init_83 rfl ?_
  refine jn_bipush cx (v := nI 8) dX2_init_84 (by decide) ?_
  refine jn_newl cx (n := 8) dX2_init_86 (by decide +kernel) (by decide) (Nat.le_of_ble_eq_true rfl) (Nat.le_of_ble_eq_true rfl) (Nat.le_of_ble_eq_true rfl) (fun l2 => ?_)
  refine jn_putF cx 0 (ci := 2) (ws' := (a, .inr (2, [.ref ap, .ref n2, .ref n3, .ref n4, .int 0, .ref n5, .ref n6, .ref l1, .ref l2])) :: (((((((jn_padW q ap ap1 ++ jn_netW q n2 b2 f2 g2) ++ jn_netW q n3 b3 f3 g3) ++ jn_netW q n4 b4 f4 g4) ++ jn_netW q n5 b5 f5 g5) ++ jn_netW q n6 b6 f6 g6) ++ [(l1, .inl (q.2.1, 8, .inr (.inl (fun _ => 0))))]) ++ [(l2, .inl (q.2.1, 8, .inr (.inl (fun _ => 0))))])) rfl rfl inX2 tyX2 tyX2_ok nmX2 8 (by decide) (by decide +kernel) rfl rfl (tyX2_ok 8 (by decide)) rfl rfl (Nat.le_of_ble_eq_true rfl) rfl dX2_init_88 ?_
  exact jn_ret cx dX2_init_91 ⟨jn_ad ap ap1 n2 n3 n4 n5 n6 l1 l2 b2 b3 b4 b5 b6, jn_fn f2 f3 f4 f5 f6, jn_fn g2 g3 g4 g5 g6, rfl, jn_fn_all (P := fun z => ∀ i, i < 8 → z i = 1) hf2 hf3 hf4 hf5 hf6, jn_fn_all (P := fun z => ∀ j, j < 64 → z j = -1) hg2 hg3 hg4 hg5 hg6⟩
