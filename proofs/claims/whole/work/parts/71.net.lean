/-! ===== the constructors of Pad and Net ===== -/
def jn_pad0 : va_E := .inr (1, [.null, .int 0])
def jn_padW (q : ClassId × ClassId × ClassId) (a a1 : Nat) : va_W := [(a, .inr (1, [.ref a1, .int 0])), (a1, .inl (q.1, 40, .inl (fun _ => 0)))]
set_option maxHeartbeats 1000000 in
set_option maxRecDepth 100000 in
theorem jn_X1_init (G : va_G) (q : ClassId × ClassId × ClassId) (l : Launch) (a : Nat) : jn_M G q l yX1_init wsX1_init ({ frames := 1, cells := 1, slots := 40, locals := 12 } : Room) a [(a, jn_pad0)] (fun w => ∃ a1, w = jn_padW q a a1) 1 40 := by
  refine jn_of (cc := cX1_init) (maxL := 1) (own := RX1) (by decide) rfl rfl rfl (Nat.le_of_ble_eq_true rfl) (fun A X cx => ?_)
  have inX1 : ∀ w ∈ u_ws RX1 TX1 2, w ∈ wsX1_init := by decide +kernel
  unfold jn_pad0
  refine jn_aload_n cx dX1_init_0 rfl ?_
  refine jn_objInit cx (by decide +kernel) (by decide +kernel) (by decide +kernel) (Nat.le_of_ble_eq_true rfl) (Nat.le_of_ble_eq_true rfl) dX1_init_1 ?_
  refine jn_aload_n cx dX1_init_4 rfl ?_
  refine jn_bipush cx (v := nI 40) dX1_init_5 (by decide) ?_
  refine jn_newi cx (n := 40) dX1_init_7 (by decide +kernel) (by decide) (Nat.le_of_ble_eq_true rfl) (Nat.le_of_ble_eq_true rfl) (Nat.le_of_ble_eq_true rfl) (fun a1 => ?_)
  refine jn_putF cx 0 (ci := 1) rfl rfl inX1 tyX1 tyX1_ok nmX1 0 (by decide) (by decide +kernel) rfl rfl (tyX1_ok 0 (by decide)) rfl rfl (Nat.le_of_ble_eq_true rfl) rfl dX1_init_9 ?_
  refine jn_aload_n cx dX1_init_12 rfl ?_
  refine jn_iconst cx (v := 0) dX1_init_13 (by decide) ?_
  refine jn_put cx 0 (ci := 1) rfl rfl inX1 tyX1 tyX1_ok nmX1 1 (by decide) (by decide +kernel) rfl (tyX1_ok 1 (by decide)) (Nat.le_of_ble_eq_true rfl) rfl dX1_init_14 ?_
  exact jn_ret cx dX1_init_17 ⟨a1, rfl⟩
def jn_net0 : va_E := .inr (0, [.null, .null, .null, .null, .null, .null, .null, .int 0, .int 0])
def jn_netW (q : ClassId × ClassId × ClassId) (a : Nat) (b : Nat → Nat) (f g : Nat → Int32) : va_W := [(a, .inr (0, [.ref (b 1), .ref (b 2), .ref (b 3), .ref (b 4), .ref (b 5), .ref (b 6), .ref (b 7), .int 0, .int 0])), (b 1, .inl (q.1, 8, .inl f)), (b 2, .inl (q.1, 8, .inl (fun _ => 0))), (b 3, .inl (q.1, 8, .inl (fun _ => 0))), (b 4, .inl (q.1, 8, .inl (fun _ => 0))), (b 5, .inl (q.1, 64, .inl g)), (b 6, .inl (q.1, 64, .inl (fun _ => 0))), (b 7, .inl (q.1, 8, .inl (fun _ => 0)))]
def jn_netP (q : ClassId × ClassId × ClassId) (a : Nat) (w : va_W) : Prop := ∃ (b : Nat → Nat) (f g : Nat → Int32), w = jn_netW q a b f g ∧ (∀ i, i < 8 → f i = 1) ∧ ∀ j, j < 64 → g j = -1
def jn_b (a1 a2 a3 a4 a5 a6 a7 : Nat) : Nat → Nat := fun k => match k with
  | 1 => a1
  | 2 => a2
  | 3 => a3
  | 4 => a4
  | 5 => a5
  | 6 => a6
  | _ => a7
set_option maxHeartbeats 1000000 in
set_option maxRecDepth 100000 in
theorem jn_X0_init (G : va_G) (q : ClassId × ClassId × ClassId) (l : Launch) (a : Nat) : jn_M G q l yX0_init wsX0_init ({ frames := 1, cells := 7, slots := 168, locals := 12 } : Room) a [(a, jn_net0)] (jn_netP q a) 7 168 := by
  refine jn_of (cc := cX0_init) (maxL := 2) (own := RX0) (by decide) rfl rfl rfl (Nat.le_of_ble_eq_true rfl) (fun A X cx => ?_)
  have inX0 : ∀ w ∈ u_ws RX0 TX0 9, w ∈ wsX0_init := by decide +kernel
  unfold jn_net0
  refine jn_aload_n cx dX0_init_0 rfl ?_
  refine jn_objInit cx (by decide +kernel) (by decide +kernel) (by decide +kernel) (Nat.le_of_ble_eq_true rfl) (Nat.le_of_ble_eq_true rfl) dX0_init_1 ?_
  refine jn_aload_n cx dX0_init_4 rfl ?_
  refine jn_bipush cx (v := nI 8) dX0_init_5 (by decide) ?_
  refine jn_newi cx (n := 8) dX0_init_7 (by decide +kernel) (by decide) (Nat.le_of_ble_eq_true rfl) (Nat.le_of_ble_eq_true rfl) (Nat.le_of_ble_eq_true rfl) (fun a1 => ?_)
  refine jn_putF cx 0 (ci := 0) rfl rfl inX0 tyX0 tyX0_ok nmX0 0 (by decide) (by decide +kernel) rfl rfl (tyX0_ok 0 (by decide)) rfl rfl (Nat.le_of_ble_eq_true rfl) rfl dX0_init_9 ?_
  refine jn_aload_n cx dX0_init_12 rfl ?_
  refine jn_bipush cx (v := nI 8) dX0_init_13 (by decide) ?_
  refine jn_newi cx (n := 8) dX0_init_15 (by decide +kernel) (by decide) (Nat.le_of_ble_eq_true rfl) (Nat.le_of_ble_eq_true rfl) (Nat.le_of_ble_eq_true rfl) (fun a2 => ?_)
  refine jn_putF cx 0 (ci := 0) rfl rfl inX0 tyX0 tyX0_ok nmX0 1 (by decide) (by decide +kernel) rfl rfl (tyX0_ok 1 (by decide)) rfl rfl (Nat.le_of_ble_eq_true rfl) rfl dX0_init_17 ?_
  refine jn_aload_n cx dX0_init_20 rfl ?_
  refine jn_bipush cx (v := nI 8) dX0_init_21 (by decide) ?_
  refine jn_newi cx (n := 8) dX0_init_23 (by decide +kernel) (by decide) (Nat.le_of_ble_eq_true rfl) (Nat.le_of_ble_eq_true rfl) (Nat.le_of_ble_eq_true rfl) (fun a3 => ?_)
  refine jn_putF cx 0 (ci := 0) rfl rfl inX0 tyX0 tyX0_ok nmX0 2 (by decide) (by decide +kernel) rfl rfl (tyX0_ok 2 (by decide)) rfl rfl (Nat.le_of_ble_eq_true rfl) rfl dX0_init_25 ?_
  refine jn_aload_n cx dX0_init_28 rfl ?_
  refine jn_bipush cx (v := nI 8) dX0_init_29 (by decide) ?_
  refine jn_newi cx (n := 8) dX0_init_31 (by decide +kernel) (by decide) (Nat.le_of_ble_eq_true rfl) (Nat.le_of_ble_eq_true rfl) (Nat.le_of_ble_eq_true rfl) (fun a4 => ?_)
  refine jn_putF cx 0 (ci := 0) rfl rfl inX0 tyX0 tyX0_ok nmX0 3 (by decide) (by decide +kernel) rfl rfl (tyX0_ok 3 (by decide)) rfl rfl (Nat.le_of_ble_eq_true rfl) rfl dX0_init_33 ?_
  refine jn_aload_n cx dX0_init_36 rfl ?_
  refine jn_bipush cx (v := nI 64) dX0_init_37 (by decide) ?_
  refine jn_newi cx (n := 64) dX0_init_39 (by decide +kernel) (by decide) (Nat.le_of_ble_eq_true rfl) (Nat.le_of_ble_eq_true rfl) (Nat.le_of_ble_eq_true rfl) (fun a5 => ?_)
  refine jn_putF cx 0 (ci := 0) rfl rfl inX0 tyX0 tyX0_ok nmX0 4 (by decide) (by decide +kernel) rfl rfl (tyX0_ok 4 (by decide)) rfl rfl (Nat.le_of_ble_eq_true rfl) rfl dX0_init_41 ?_
  refine jn_aload_n cx dX0_init_44 rfl ?_
  refine jn_bipush cx (v := nI 64) dX0_init_45 (by decide) ?_
  refine jn_newi cx (n := 64) dX0_init_47 (by decide +kernel) (by decide) (Nat.le_of_ble_eq_true rfl) (Nat.le_of_ble_eq_true rfl) (Nat.le_of_ble_eq_true rfl) (fun a6 => ?_)
  refine jn_putF cx 0 (ci := 0) rfl rfl inX0 tyX0 tyX0_ok nmX0 5 (by decide) (by decide +kernel) rfl rfl (tyX0_ok 5 (by decide)) rfl rfl (Nat.le_of_ble_eq_true rfl) rfl dX0_init_49 ?_
  refine jn_aload_n cx dX0_init_52 rfl ?_
  refine jn_bipush cx (v := nI 8) dX0_init_53 (by decide) ?_
  refine jn_newi cx (n := 8) dX0_init_55 (by decide +kernel) (by decide) (Nat.le_of_ble_eq_true rfl) (Nat.le_of_ble_eq_true rfl) (Nat.le_of_ble_eq_true rfl) (fun a7 => ?_)
  refine jn_putF cx 0 (ci := 0) rfl rfl inX0 tyX0 tyX0_ok nmX0 6 (by decide) (by decide +kernel) rfl rfl (tyX0_ok 6 (by decide)) rfl rfl (Nat.le_of_ble_eq_true rfl) rfl dX0_init_57 ?_
  refine jn_aload_n cx dX0_init_60 rfl ?_
  refine jn_iconst cx (v := 0) dX0_init_61 (by decide) ?_
  refine jn_put cx 0 (ci := 0) rfl rfl inX0 tyX0 tyX0_ok nmX0 7 (by decide) (by decide +kernel) rfl (tyX0_ok 7 (by decide)) (Nat.le_of_ble_eq_true rfl) rfl dX0_init_62 ?_
  refine jn_aload_n cx dX0_init_65 rfl ?_
  refine jn_iconst cx (v := 0) dX0_init_66 (by decide) ?_
  refine jn_put cx 0 (ci := 0) rfl rfl inX0 tyX0 tyX0_ok nmX0 8 (by decide) (by decide +kernel) rfl (tyX0_ok 8 (by decide)) (Nat.le_of_ble_eq_true rfl) rfl dX0_init_67 ?_
  refine jn_iconst cx (v := nI 0) dX0_init_70 (by decide) ?_
  refine jn_istore_n cx (lv' := [(0, .ref a), (1, .int (nI 0))]) dX0_init_71 (by decide) rfl ?_
  have lp2 : ∀ (d i : Nat) (f g : Nat → Int32), i + d = 64 → (∀ k, k < 8 → f k = 1) → (∀ k, k < i → g k = -1) → X 93 [(0, .ref a), (1, .int (nI i))] [] (jn_netW q a (jn_b a1 a2 a3 a4 a5 a6 a7) f g) 7 168 := by
    intro d
    induction d with
    | zero =>
      intro i f g hi hf hg
      refine jn_iload_n cx dX0_init_93 rfl ?_
      refine jn_bipush cx (v := nI 64) dX0_init_94 (by decide) ?_
      refine jn_icmpN_ge cx (tgt := 112) dX0_init_96 (by decide) (by omega) (by decide) (fun _ => ?_) (fun z => absurd z (by omega))
      exact jn_ret cx dX0_init_112 ⟨_, f, g, rfl, hf, fun j hj => hg j (by omega)⟩
    | succ d ih =>
      intro i f g hi hf hg
      refine jn_iload_n cx dX0_init_93 rfl ?_
      refine jn_bipush cx (v := nI 64) dX0_init_94 (by decide) ?_
      refine jn_icmpN_ge cx (tgt := 112) dX0_init_96 (by decide) (by omega) (by decide) (fun z => absurd z (by omega)) (fun _ => ?_)
      refine jn_aload_n cx dX0_init_99 rfl ?_
      refine jn_get cx 0 (ci := 0) rfl rfl inX0 4 (by decide) (by decide +kernel) rfl dX0_init_100 ?_
      refine jn_iload_n cx dX0_init_103 rfl ?_
      refine jn_iconst cx (v := -1) dX0_init_104 (by decide) ?_
      refine jn_iast cx 5 (n := 64) rfl (by omega) (by decide) rfl dX0_init_105 ?_
      refine jn_iincN cx (d := 1) (lv' := [(0, .ref a), (1, .int (nI (i + 1)))]) dX0_init_106 rfl (by decide) (by decide) rfl ?_
      refine jn_goto cx (tgt := 93) dX0_init_109 (by decide) ?_
      refine ih (i + 1) f (upd g i (-1)) (by omega) hf (fun k hk => ?_)
      by_cases z : k = i
      · rw [z]; simp [upd]
      · simp only [upd, z, if_false]; exact hg k (by omega)
  have lp1 : ∀ (d i : Nat) (f : Nat → Int32), i + d = 8 → (∀ k, k < i → f k = 1) → X 72 [(0, .ref a), (1, .int (nI i))] [] (jn_netW q a (jn_b a1 a2 a3 a4 a5 a6 a7) f (fun _ => 0)) 7 168 := by
    intro d
    induction d with
    | zero =>
      intro i f hi hf
      refine jn_iload_n cx dX0_init_72 rfl ?_
      refine jn_bipush cx (v := nI 8) dX0_init_73 (by decide) ?_
      refine jn_icmpN_ge cx (tgt := 91) dX0_init_75 (by decide) (by omega) (by decide) (fun _ => ?_) (fun z => absurd z (by omega))
      refine jn_iconst cx (v := nI 0) dX0_init_91 (by decide) ?_
      refine jn_istore_n cx (lv' := [(0, .ref a), (1, .int (nI 0))]) dX0_init_92 (by decide) rfl ?_
      exact lp2 64 0 f _ (by omega) (fun k hk => hf k (by omega)) (fun k hk => absurd hk (by omega))
    | succ d ih =>
      intro i f hi hf
      refine jn_iload_n cx dX0_init_72 rfl ?_
      refine jn_bipush cx (v := nI 8) dX0_init_73 (by decide) ?_
      refine jn_icmpN_ge cx (tgt := 91) dX0_init_75 (by decide) (by omega) (by decide) (fun z => absurd z (by omega)) (fun _ => ?_)
      refine jn_aload_n cx dX0_init_78 rfl ?_
      refine jn_get cx 0 (ci := 0) rfl rfl inX0 0 (by decide) (by decide +kernel) rfl dX0_init_79 ?_
      refine jn_iload_n cx dX0_init_82 rfl ?_
      refine jn_iconst cx (v := 1) dX0_init_83 (by decide) ?_
      refine jn_iast cx 1 (n := 8) rfl (by omega) (by decide) rfl dX0_init_84 ?_
      refine jn_iincN cx (d := 1) (lv' := [(0, .ref a), (1, .int (nI (i + 1)))]) dX0_init_85 rfl (by decide) (by decide) rfl ?_
      refine jn_goto cx (tgt := 72) dX0_init_88 (by decide) ?_
      refine ih (i + 1) (upd f i 1) (by omega) (fun k hk => ?_)
      by_cases z : k = i
      · rw [z]; simp [upd]
      · simp only [upd, z, if_false]; exact hf k (by omega)
  exact lp1 8 0 (fun _ => 0) (by omega) (fun k hk => absurd hk (by omega))
