/-! ===== the pure heap of the whole system: block, row, place; and the world it stands for ===== -/
abbrev vwCl : List vw_C := [(RX0, TX0, 9), (RX1, TX1, 2), (RX2, TX2, 9), (RX3, TX3, 11)]
/-- ints (arrays and int fields) and longs, by block, row, place -/
abbrev jp_H : Type := (Nat → Nat → Nat → Int32) × (Nat → Nat → Nat → Int64)
/-- classes and slots, addresses by block and row, the classes of int[], long[], boolean[] -/
abbrev jp_E : Type := va_G × (Nat → Nat → Nat) × ClassId × ClassId × ClassId

def jp_ix : List (Nat × Nat) := [(0, 0), (1, 0), (1, 1), (2, 0), (2, 1), (2, 2), (2, 3), (2, 4), (2, 5), (2, 6), (2, 7), (3, 0), (3, 1), (3, 2), (3, 3), (3, 4), (3, 5), (3, 6), (3, 7), (4, 0), (4, 1), (4, 2), (4, 3), (4, 4), (4, 5), (4, 6), (4, 7), (5, 0), (5, 1), (5, 2), (5, 3), (5, 4), (5, 5), (5, 6), (5, 7), (6, 0), (6, 1), (6, 2), (6, 3), (6, 4), (6, 5), (6, 6), (6, 7), (0, 1), (0, 2), (7, 0), (7, 1), (7, 2), (7, 3), (7, 4), (7, 5), (7, 6), (7, 7), (7, 8)]
def jp_nl (r : Nat) : Nat := match r with
  | 5 => 64
  | 6 => 64
  | _ => 8
def jp_ml (r : Nat) : Nat := match r with
  | 1 => 153
  | 2 => 459
  | 4 => 40
  | 5 => 8
  | _ => 24381
/-- the fields of a Net, of the Pad, of the JobSpread, of the Model -/
def jp_f0 (b : Nat) (E : jp_E) (h : jp_H) : List Value := [.ref (E.2.1 b 1), .ref (E.2.1 b 2), .ref (E.2.1 b 3), .ref (E.2.1 b 4), .ref (E.2.1 b 5), .ref (E.2.1 b 6), .ref (E.2.1 b 7), .int (h.1 b 0 7), .int (h.1 b 0 8)]
def jp_f1 (E : jp_E) (h : jp_H) : List Value := [.ref (E.2.1 1 1), .int (h.1 1 0 1)]
def jp_f2 (E : jp_E) (h : jp_H) : List Value := [.ref (E.2.1 1 0), .ref (E.2.1 2 0), .ref (E.2.1 3 0), .ref (E.2.1 4 0), .int (h.1 0 0 4), .ref (E.2.1 5 0), .ref (E.2.1 6 0), .ref (E.2.1 0 1), .ref (E.2.1 0 2)]
def jp_f3 (E : jp_E) (h : jp_H) : List Value := [.ref (E.2.1 7 1), .ref (E.2.1 7 2), .ref (E.2.1 7 3), .ref (E.2.1 7 4), .int (h.1 7 0 4), .ref (E.2.1 7 5), .int (h.1 7 0 6), .int (h.1 7 0 7), .ref (E.2.1 7 6), .ref (E.2.1 7 7), .ref (E.2.1 7 8)]
def jp_c (E : jp_E) (h : jp_H) (b r : Nat) : va_E := match b, r with
  | 0, 0 => .inr (2, jp_f2 E h)
  | 0, r => .inl (E.2.2.2.1, 8, .inr (.inl (h.2 0 r)))
  | 1, 0 => .inr (1, jp_f1 E h)
  | 1, r => .inl (E.2.2.1, 40, .inl (h.1 1 r))
  | 7, 0 => .inr (3, jp_f3 E h)
  | 7, 3 => .inl (E.2.2.2.2, 2, .inl (h.1 7 3))
  | 7, 6 => .inl (E.2.2.2.1, 8, .inr (.inl (h.2 7 6)))
  | 7, 7 => .inl (E.2.2.2.1, 8, .inr (.inl (h.2 7 7)))
  | 7, r => .inl (E.2.2.1, jp_ml r, .inl (h.1 7 r))
  | b, 0 => .inr (0, jp_f0 b E h)
  | b, r => .inl (E.2.2.1, jp_nl r, .inl (h.1 b r))
def jp_w (E : jp_E) (h : jp_H) : va_W := jp_ix.map (fun q => (E.2.1 q.1 q.2, jp_c E h q.1 q.2))
/-- the cells' addresses are apart -/
def jp_I (E : jp_E) : Prop := ∀ (i j : Nat) (p q : Nat × Nat), jp_ix[i]? = some p → jp_ix[j]? = some q → E.2.1 p.1 p.2 = E.2.1 q.1 q.2 → i = j
def jp_A (E : jp_E) : Nat → Prop := fun a => ∃ q ∈ jp_ix, a = E.2.1 q.1 q.2
def jp_T (E : jp_E) : List (ClassId × FieldType) := [(E.2.2.1, .int), (E.2.2.2.1, .long), (E.2.2.2.2, .boolean)]
theorem jp_w_get {E : jp_E} {h : jp_H} {b r i : Nat} (hi : jp_ix[i]? = some (b, r)) : (jp_w E h)[i]? = some (E.2.1 b r, jp_c E h b r) := by
  unfold jp_w
  rw [List.getElem?_map, hi]
  rfl
theorem jp_w_inv {E : jp_E} {h : jp_H} {i : Nat} {p : Nat × va_E} (hi : (jp_w E h)[i]? = some p) : ∃ q : Nat × Nat, jp_ix[i]? = some q ∧ p = (E.2.1 q.1 q.2, jp_c E h q.1 q.2) := by
  unfold jp_w at hi
  rw [List.getElem?_map] at hi
  cases hq : jp_ix[i]? with
  | none => rw [hq] at hi; cases hi
  | some q => rw [hq] at hi; exact ⟨q, rfl, (Option.some.inj hi).symm⟩
theorem jp_D {E : jp_E} (hI : jp_I E) (h : jp_H) : va_D (jp_A E) (jp_w E h) := by
  refine ⟨fun i j p q hi hj hpq => ?_, fun k q hk => ?_⟩
  · obtain ⟨p', h1, rfl⟩ := jp_w_inv hi
    obtain ⟨q', h2, rfl⟩ := jp_w_inv hj
    exact hI i j p' q' h1 h2 hpq
  · obtain ⟨q', h2, rfl⟩ := jp_w_inv hk
    exact ⟨q', List.mem_of_getElem? h2, rfl⟩
theorem jp_c_congr {E : jp_E} {h h' : jp_H} {b r : Nat} (h1 : h.1 b r = h'.1 b r) (h2 : h.2 b r = h'.2 b r) : jp_c E h b r = jp_c E h' b r := by
  unfold jp_c jp_f0 jp_f1 jp_f2 jp_f3
  split <;> simp_all
theorem jp_ix_nd : jp_ix.Nodup := by decide
theorem jp_w_set {E : jp_E} {h h' : jp_H} {b r i : Nat} {e : va_E} (hi : jp_ix[i]? = some (b, r)) (he : jp_c E h' b r = e) (h1 : ∀ b' r', ¬ (b' = b ∧ r' = r) → h.1 b' r' = h'.1 b' r') (h2 : ∀ b' r', ¬ (b' = b ∧ r' = r) → h.2 b' r' = h'.2 b' r') : (jp_w E h).set i (E.2.1 b r, e) = jp_w E h' := by
  have hl : i < jp_ix.length := (List.getElem?_eq_some_iff.mp hi).1
  apply List.ext_getElem?
  intro j
  by_cases hj : j = i
  · subst hj
    rw [List.getElem?_set_self (by unfold jp_w; rw [List.length_map]; exact hl), jp_w_get hi, he]
  · rw [List.getElem?_set_ne (Ne.symm hj)]
    unfold jp_w
    rw [List.getElem?_map, List.getElem?_map]
    cases hq : jp_ix[j]? with
    | none => rfl
    | some q =>
      have hne : ¬ (q.1 = b ∧ q.2 = r) := by
        rintro ⟨e1, e2⟩
        have hq' : jp_ix[j]? = some (b, r) := by rw [hq, ← e1, ← e2]
        exact hj ((List.getElem?_inj (List.getElem?_eq_some_iff.mp hq').1 jp_ix_nd).mp (hq'.trans hi.symm))
      show some (_, _) = some (_, _)
      rw [jp_c_congr (h1 _ _ hne) (h2 _ _ hne)]
/-- a row laid anew; a place laid anew -/
def jp_sr (h : jp_H) (b r : Nat) (g : Nat → Int32) : jp_H := (va_up h.1 b (va_up (h.1 b) r g), h.2)
def jp_sl (h : jp_H) (b r : Nat) (g : Nat → Int64) : jp_H := (h.1, va_up h.2 b (va_up (h.2 b) r g))
def jp_s (h : jp_H) (b r j : Nat) (x : Int32) : jp_H := jp_sr h b r (upd (h.1 b r) j x)
def jp_sL (h : jp_H) (b r j : Nat) (x : Int64) : jp_H := jp_sl h b r (vp_updL (h.2 b r) j x)
theorem jp_sr_1 (h : jp_H) (b r : Nat) (g : Nat → Int32) : (jp_sr h b r g).1 b r = g := by simp [jp_sr, va_up]
theorem jp_sr_1b (h : jp_H) (b r : Nat) (g : Nat → Int32) : (jp_sr h b r g).1 b = va_up (h.1 b) r g := by simp [jp_sr, va_up]
theorem jp_sr_n (h : jp_H) {b r b' r' : Nat} (g : Nat → Int32) (hn : ¬ (b' = b ∧ r' = r)) : (jp_sr h b r g).1 b' r' = h.1 b' r' := by
  by_cases e : b' = b
  · subst e
    have e2 : r' ≠ r := fun q => hn ⟨rfl, q⟩
    simp [jp_sr, va_up, e2]
  · simp [jp_sr, va_up, e]
theorem jp_sl_1 (h : jp_H) (b r : Nat) (g : Nat → Int64) : (jp_sl h b r g).2 b r = g := by simp [jp_sl, va_up]
theorem jp_sl_n (h : jp_H) {b r b' r' : Nat} (g : Nat → Int64) (hn : ¬ (b' = b ∧ r' = r)) : (jp_sl h b r g).2 b' r' = h.2 b' r' := by
  by_cases e : b' = b
  · subst e
    have e2 : r' ≠ r := fun q => hn ⟨rfl, q⟩
    simp [jp_sl, va_up, e2]
  · simp [jp_sl, va_up, e]
/-- what kinds of cell stand where -/
def jp_Zi (b r n : Nat) : Prop := n < 2 ^ 31 ∧ (b, r) ∈ jp_ix ∧ ∀ (E : jp_E) (h : jp_H), jp_c E h b r = .inl (E.2.2.1, n, .inl (h.1 b r))
def jp_Zz (b r n : Nat) : Prop := n < 2 ^ 31 ∧ (b, r) ∈ jp_ix ∧ ∀ (E : jp_E) (h : jp_H), jp_c E h b r = .inl (E.2.2.2.2, n, .inl (h.1 b r))
def jp_Zl (b r n : Nat) : Prop := n < 2 ^ 31 ∧ (b, r) ∈ jp_ix ∧ ∀ (E : jp_E) (h : jp_H), jp_c E h b r = .inl (E.2.2.2.1, n, .inr (.inl (h.2 b r)))
def jp_Zo (b ci : Nat) (fs : jp_E → jp_H → List Value) : Prop := (b, 0) ∈ jp_ix ∧ ∀ (E : jp_E) (h : jp_H), jp_c E h b 0 = .inr (ci, fs E h)
/-- the blocks of the five nets -/
def jp_net (b : Nat) : Prop := b = 2 ∨ b = 3 ∨ b = 4 ∨ b = 5 ∨ b = 6
theorem jp_net_o {b : Nat} (hb : jp_net b) : jp_Zo b 0 (jp_f0 b) := by
  rcases hb with rfl | rfl | rfl | rfl | rfl <;> exact ⟨by decide, fun E h => rfl⟩
theorem jp_net_1 {b : Nat} (hb : jp_net b) : jp_Zi b 1 8 := by
  rcases hb with rfl | rfl | rfl | rfl | rfl <;> exact ⟨by decide, by decide, fun E h => rfl⟩
theorem jp_net_2 {b : Nat} (hb : jp_net b) : jp_Zi b 2 8 := by
  rcases hb with rfl | rfl | rfl | rfl | rfl <;> exact ⟨by decide, by decide, fun E h => rfl⟩
theorem jp_net_3 {b : Nat} (hb : jp_net b) : jp_Zi b 3 8 := by
  rcases hb with rfl | rfl | rfl | rfl | rfl <;> exact ⟨by decide, by decide, fun E h => rfl⟩
theorem jp_net_4 {b : Nat} (hb : jp_net b) : jp_Zi b 4 8 := by
  rcases hb with rfl | rfl | rfl | rfl | rfl <;> exact ⟨by decide, by decide, fun E h => rfl⟩
theorem jp_net_5 {b : Nat} (hb : jp_net b) : jp_Zi b 5 64 := by
  rcases hb with rfl | rfl | rfl | rfl | rfl <;> exact ⟨by decide, by decide, fun E h => rfl⟩
theorem jp_net_6 {b : Nat} (hb : jp_net b) : jp_Zi b 6 64 := by
  rcases hb with rfl | rfl | rfl | rfl | rfl <;> exact ⟨by decide, by decide, fun E h => rfl⟩
theorem jp_net_7 {b : Nat} (hb : jp_net b) : jp_Zi b 7 8 := by
  rcases hb with rfl | rfl | rfl | rfl | rfl <;> exact ⟨by decide, by decide, fun E h => rfl⟩
theorem jp_pad_o : jp_Zo 1 1 jp_f1 := ⟨by decide, fun E h => rfl⟩
theorem jp_pad_1 : jp_Zi 1 1 40 := ⟨by decide, by decide, fun E h => rfl⟩
theorem jp_js_o : jp_Zo 0 2 jp_f2 := ⟨by decide, fun E h => rfl⟩
theorem jp_js_1 : jp_Zl 0 1 8 := ⟨by decide, by decide, fun E h => rfl⟩
theorem jp_js_2 : jp_Zl 0 2 8 := ⟨by decide, by decide, fun E h => rfl⟩
theorem jp_mo_o : jp_Zo 7 3 jp_f3 := ⟨by decide, fun E h => rfl⟩
theorem jp_mo_1 : jp_Zi 7 1 153 := ⟨by decide, by decide, fun E h => rfl⟩
theorem jp_mo_2 : jp_Zi 7 2 459 := ⟨by decide, by decide, fun E h => rfl⟩
theorem jp_mo_3 : jp_Zz 7 3 2 := ⟨by decide, by decide, fun E h => rfl⟩
theorem jp_mo_4 : jp_Zi 7 4 40 := ⟨by decide, by decide, fun E h => rfl⟩
theorem jp_mo_5 : jp_Zi 7 5 8 := ⟨by decide, by decide, fun E h => rfl⟩
theorem jp_mo_6 : jp_Zl 7 6 8 := ⟨by decide, by decide, fun E h => rfl⟩
theorem jp_mo_7 : jp_Zl 7 7 8 := ⟨by decide, by decide, fun E h => rfl⟩
theorem jp_mo_8 : jp_Zi 7 8 24381 := ⟨by decide, by decide, fun E h => rfl⟩

def jp_nF : List (String × Nat × String × String × String) := [("JobSpread", 76, "JobSpread$Pad", "length", "I"), ("JobSpread", 58, "JobSpread$Net", "speed", "[I"), ("JobSpread", 54, "JobSpread$Net", "jobs", "[I"), ("JobSpread", 97, "JobSpread$Net", "degree", "[I"), ("JobSpread", 107, "JobSpread$Net", "colour", "[I"), ("JobSpread", 113, "JobSpread$Net", "carry", "[I"), ("JobSpread", 65, "JobSpread$Net", "edges", "I"), ("JobSpread", 122, "JobSpread$Net", "rounds", "I")]
def jp_nM : List (String × Nat × MethodName) := [("JobSpread", 9, ⟨"JobSpread$Pad", "<init>", "()V"⟩), ("JobSpread", 18, ⟨"JobSpread$Net", "<init>", "()V"⟩), ("JobSpread", 61, ⟨"JobSpread$Net", "lift", "(II)V"⟩), ("JobSpread$Net", 46, ⟨"JobSpread", "spot", "(II)I"⟩), ("JobSpread", 68, ⟨"JobSpread$Net", "joins", "(II)Z"⟩), ("JobSpread", 72, ⟨"JobSpread$Net", "lay", "(III)V"⟩), ("JobSpread", 79, ⟨"JobSpread$Pad", "add", "(I)V"⟩), ("JobSpread", 83, ⟨"JobSpread$Pad", "firstFault", "()I"⟩), ("JobSpread$Pad", 27, ⟨"JobSpread", "isNode", "(I)Z"⟩), ("JobSpread$Pad", 40, ⟨"JobSpread", "spot", "(II)I"⟩), ("JobSpread$Pad", 36, ⟨"JobSpread", "isWithin", "(III)Z"⟩), ("JobSpread", 87, ⟨"JobSpread$Net", "liftAll", "()V"⟩), ("JobSpread", 90, ⟨"JobSpread$Pad", "nodeAt", "(I)I"⟩), ("JobSpread", 94, ⟨"JobSpread$Pad", "colourAt", "(I)I"⟩), ("JobSpread", 100, ⟨"JobSpread$Net", "rotorLeftOver", "(I)I"⟩), ("JobSpread", 119, ⟨"JobSpread$Net", "goOn", "(II)I"⟩), ("JobSpread", 125, ⟨"JobSpread$Net", "startAgain", "()V"⟩), ("JobSpread", 131, ⟨"JobSpread$Net", "mostLoaded", "()I"⟩), ("JobSpread", 134, ⟨"JobSpread$Net", "leastLoaded", "()I"⟩), ("JobSpread", 137, ⟨"JobSpread$Net", "loadGap", "(II)J"⟩), ("JobSpread", 145, ⟨"JobSpread$Net", "allJobs", "()J"⟩), ("JobSpread", 149, ⟨"JobSpread$Net", "allSpeeds", "()I"⟩), ("JobSpread", 156, ⟨"JobSpread$Net", "nodesBelowZero", "()I"⟩), ("JobSpread", 161, ⟨"JobSpread$Net", "measure", "()I"⟩), ("JobSpread", 173, ⟨"JobSpread$Net", "become", "(LJobSpread$Net;)V"⟩), ("JobSpread", 177, ⟨"JobSpread$Net", "isUnevenAtMost", "(I)Z"⟩), ("JobSpread", 186, ⟨"JobSpread$Net", "isAlike", "(LJobSpread$Net;)Z"⟩), ("JobSpread", 194, ⟨"JobSpread$Net", "colours", "()I"⟩)]
/-- the links among nest mates -/
def jp_N (U : State) : Prop := (∀ q ∈ jp_nF, va_Nw (.fieldLinkNest q.1 q.2.1 q.2.2.1 q.2.2.2.1 q.2.2.2.2 "JobSpread") U) ∧ ∀ q ∈ jp_nM, va_Nw (.methodLinkNest q.1 q.2.1 q.2.2 "JobSpread") U
theorem jp_N.warm {s U : State} (h : jp_N s) (hW : s.WarmedH U.vm) : jp_N U := ⟨fun q hq => va_Nw.warmF hW (h.1 q hq), fun q hq => va_Nw.warmM hW (h.2 q hq)⟩
theorem jp_N.same {s U : State} (h : jp_N s) (hv : s.vm = U.vm) : jp_N U := ⟨fun q hq => va_Nw.same rfl hv (h.1 q hq), fun q hq => va_Nw.same rfl hv (h.2 q hq)⟩
/-- what holds when a method begins, and when it ends -/
def jp_Ok (E : jp_E) (h : jp_H) (U : State) : Prop := va_P E.1 vwCl (jp_w E h) U.heap ∧ va_K E.1 vwCl (jp_T E) U ∧ jp_N U ∧ jp_I E
def jp_Q (E : jp_E) (Q : Option Value → jp_H → Prop) : Array Value → State → Outcome → State → Prop := fun _ st oc t => (∃ (v : Option Value) (h' : jp_H), oc = .returned v ∧ Q v h' ∧ va_P E.1 vwCl (jp_w E h') t.heap) ∧ va_F (jp_A E) st t
/-- a method's contract over the pure heap -/
def jc_M (E : jp_E) (l : Launch) (y : MethodName) (ws : List Cond) (rm : Room) (as : List Value) (h : jp_H) (Q : Option Value → jp_H → Prop) : Prop := Met l y ws rm (va_Pc as (jp_Ok E h)) (jp_Q E Q) 0 0 (jp_A E)
/-- it returns just this, and leaves just this -/
def jp_R (v0 : Option Value) (h1 : jp_H) : Option Value → jp_H → Prop := fun v h' => v = v0 ∧ h' = h1
abbrev jp_X : Type := Nat → List (Nat × Value) → List Value → jp_H → Prop
/-- X pc locals stack heap: the method goes on well from there -/
def jg_C (E : jp_E) (l : Launch) (R : Room) (own : String) (cc : ByteArray) (nL : Nat) (ret : Option FieldType) (Ts : List Cond) (Q : Option Value → jp_H → Prop) (X : jp_X) : Prop :=
  ∃ (p : Program) (e : Env) (s : State) (m : MethodId) (args : Array Value) (below : List Frame) (meth : Method) (c : Code),
    X = (fun pc lv st h => ∀ (ls : Array Slot) (H : Heap) (locs : List Loc), lv_has ls nL lv → va_P E.1 vwCl (jp_w E h) H → va_S (jp_A E) s.heap H locs → W p l e R s m args below meth c H locs 0 0 (MQ below (jp_Q E Q) args s 0 0 (jp_A E)) (F0 m pc ls st)) ∧
    p.tables.exec = Jvm.exec ∧ c.code = cc ∧ c.maxLocals = nL ∧ s.vm.findClass own = some m.cls ∧ (∀ w ∈ Ts, w.before args s = true) ∧ meth.sig.returnType = ret ∧ meth.locks = false ∧ va_K E.1 vwCl (jp_T E) s ∧ jp_N s ∧ jp_I E
def jp_lk : List (Nat × Value) → Nat → Option Value
  | [], _ => none
  | q :: l, i => match Nat.beq q.1 i with
    | true => some q.2
    | false => jp_lk l i
theorem jp_lk_mem : ∀ {lv : List (Nat × Value)} {i : Nat} {v : Value}, jp_lk lv i = some v → (i, v) ∈ lv
  | [], _, _, h => by cases h
  | q :: l, i, v, h => by
    unfold jp_lk at h
    split at h
    · next e =>
      have e1 : q.1 = i := Nat.eq_of_beq_eq_true e
      cases h
      rw [← e1]
      exact List.mem_cons_self
    · exact List.mem_cons_of_mem _ (jp_lk_mem h)
theorem jp_lk_at {ls : Array Slot} {nL : Nat} {lv : List (Nat × Value)} {i : Nat} {v : Value} (hl : lv_has ls nL lv) (h : jp_lk lv i = some v) : ls[i]? = some (.val v) := hl.2.2 (i, v) (jp_lk_mem h)
/-- in its place by number -/
def jp_in (i : Nat) (v : Value) : List (Nat × Value) → List (Nat × Value)
  | [] => [(i, v)]
  | q :: l => match Nat.ble i q.1 with
    | true => (i, v) :: q :: l
    | false => q :: jp_in i v l
theorem jp_in_mem {i : Nat} {v : Value} : ∀ {l : List (Nat × Value)} {q : Nat × Value}, q ∈ jp_in i v l → q ∈ (i, v) :: l
  | [], q, h => h
  | a :: l, q, h => by
    unfold jp_in at h
    split at h
    · exact h
    · rcases List.mem_cons.mp h with h | h
      · exact List.mem_cons_of_mem _ (by rw [h]; exact List.mem_cons_self)
      · rcases List.mem_cons.mp (jp_in_mem h) with h | h
        · rw [h]; exact List.mem_cons_self
        · exact List.mem_cons_of_mem _ (List.mem_cons_of_mem _ h)
/-- a local of one word, of two words, laid anew -/
def jp_l1 (lv : List (Nat × Value)) (i : Nat) (v : Value) : List (Nat × Value) := jp_in i v (lv.filter (fun q => !(q.1 == i) && !(q.1 + 1 == i && q.2.category == 2)))
def jp_l2 (lv : List (Nat × Value)) (i : Nat) (v : Value) : List (Nat × Value) := jp_in i v (lv.filter (fun q => !(q.1 == i) && (!(q.1 == i + 1) && !(q.1 + 1 == i && q.2.category == 2))))
theorem jp_has {ls : Array Slot} {nL : Nat} {lv : List (Nat × Value)} {i : Nat} {v : Value} (h : lv_has ls nL ((i, v) :: lv)) : lv_has ls nL (jp_in i v lv) := ⟨h.1, h.2.1, fun q hq => h.2.2 q (jp_in_mem hq)⟩
def jp_b (c : Bool) : Int32 := match c with
  | true => 1
  | false => 0
section
variable {E : jp_E} {l : Launch} {R : Room} {own : String} {cc : ByteArray} {nL : Nat} {ret : Option FieldType} {Ts : List Cond} {Q : Option Value → jp_H → Prop} {X : jp_X} {pc : Nat} {lv : List (Nat × Value)} {st : List Value} {h : jp_H}
theorem jg_iconst (cx : jg_C E l R own cc nL ret Ts Q X) {n : Int} {v : Int32} (hd : decode cc pc = .ok (.iconst n, 1)) (hv : Int32.ofInt n = v) (k : X (pc + 1) lv (.int v :: st) h) : X pc lv (st) h := by
  obtain ⟨p, e, s, m, args, below, meth, c, rfl, hx, hb, hml, hown, hts, hr, hlk, hK, hN, hI⟩ := cx
  intro ls H locs hl hP hS
  exact lv_iconst hx hb hd hv (k ls H locs hl hP hS)
theorem jg_bipush (cx : jg_C E l R own cc nL ret Ts Q X) {n : Int} {v : Int32} (hd : decode cc pc = .ok (.bipush n, 2)) (hv : (Int8.ofInt n).toInt32 = v) (k : X (pc + 2) lv (.int v :: st) h) : X pc lv (st) h := by
  obtain ⟨p, e, s, m, args, below, meth, c, rfl, hx, hb, hml, hown, hts, hr, hlk, hK, hN, hI⟩ := cx
  intro ls H locs hl hP hS
  exact lv_bipush hx hb hd hv (k ls H locs hl hP hS)
theorem jg_sipush (cx : jg_C E l R own cc nL ret Ts Q X) {n : Int} {v : Int32} (hd : decode cc pc = .ok (.sipush n, 3)) (hv : (Int16.ofInt n).toInt32 = v) (k : X (pc + 3) lv (.int v :: st) h) : X pc lv (st) h := by
  obtain ⟨p, e, s, m, args, below, meth, c, rfl, hx, hb, hml, hown, hts, hr, hlk, hK, hN, hI⟩ := cx
  intro ls H locs hl hP hS
  exact lv_sipush hx hb hd hv (k ls H locs hl hP hS)
theorem jg_lconst (cx : jg_C E l R own cc nL ret Ts Q X) {n : Fin 2} {v : Int64} (hd : decode cc pc = .ok (.lconst n, 1)) (hv : Int64.ofNat (n : Nat) = v) (k : X (pc + 1) lv (.long v :: st) h) : X pc lv (st) h := by
  obtain ⟨p, e, s, m, args, below, meth, c, rfl, hx, hb, hml, hown, hts, hr, hlk, hK, hN, hI⟩ := cx
  intro ls H locs hl hP hS
  exact lv_lconst hx hb hd hv (k ls H locs hl hP hS)
theorem jg_ldc2 (cx : jg_C E l R own cc nL ret Ts Q X) {i : Nat} {v : Int64} (hw : Cond.constantLong own i v ∈ Ts) (hd : decode cc pc = .ok (.ldc2_w i, 3)) (k : X (pc + 3) lv (.long v :: st) h) : X pc lv (st) h := by
  obtain ⟨p, e, s, m, args, below, meth, c, rfl, hx, hb, hml, hown, hts, hr, hlk, hK, hN, hI⟩ := cx
  intro ls H locs hl hP hS
  exact lv_ldc2 hx hb hown (hts _ hw) hd (k ls H locs hl hP hS)
theorem jg_iload_n (cx : jg_C E l R own cc nL ret Ts Q X) {i : Fin 4} {x : Int32} (hd : decode cc pc = .ok (.iload_n i, 1)) (hv : jp_lk lv i.val = some (.int x)) (k : X (pc + 1) lv (.int x :: st) h) : X pc lv (st) h := by
  obtain ⟨p, e, s, m, args, below, meth, c, rfl, hx, hb, hml, hown, hts, hr, hlk, hK, hN, hI⟩ := cx
  intro ls H locs hl hP hS
  exact lv_iload_n hx hb hd rfl (jp_lk_at hl hv) (k ls H locs hl hP hS)
theorem jg_iload (cx : jg_C E l R own cc nL ret Ts Q X) {i : Nat} {x : Int32} (hd : decode cc pc = .ok (.iload i, 2)) (hv : jp_lk lv i = some (.int x)) (k : X (pc + 2) lv (.int x :: st) h) : X pc lv (st) h := by
  obtain ⟨p, e, s, m, args, below, meth, c, rfl, hx, hb, hml, hown, hts, hr, hlk, hK, hN, hI⟩ := cx
  intro ls H locs hl hP hS
  exact lv_iload hx hb hd (jp_lk_at hl hv) (k ls H locs hl hP hS)
theorem jg_istore_n (cx : jg_C E l R own cc nL ret Ts Q X) {i : Fin 4} {x : Int32} {lv' : List (Nat × Value)} (hd : decode cc pc = .ok (.istore_n i, 1)) (hn : i.val < nL) (hl' : jp_l1 lv i.val (.int x) = lv') (k : X (pc + 1) lv' st h) : X pc lv (.int x :: st) h := by
  obtain ⟨p, e, s, m, args, below, meth, c, rfl, hx, hb, hml, hown, hts, hr, hlk, hK, hN, hI⟩ := cx
  intro ls H locs hl hP hS
  exact lv_istore_n hx hb hd rfl hl hn rfl (fun ls' h' => k ls' H locs (hl' ▸ jp_has h') hP hS)
theorem jg_istore (cx : jg_C E l R own cc nL ret Ts Q X) {i : Nat} {x : Int32} {lv' : List (Nat × Value)} (hd : decode cc pc = .ok (.istore i, 2)) (hn : i < nL) (hl' : jp_l1 lv i (.int x) = lv') (k : X (pc + 2) lv' st h) : X pc lv (.int x :: st) h := by
  obtain ⟨p, e, s, m, args, below, meth, c, rfl, hx, hb, hml, hown, hts, hr, hlk, hK, hN, hI⟩ := cx
  intro ls H locs hl hP hS
  exact lv_istore hx hb hd hl hn rfl (fun ls' h' => k ls' H locs (hl' ▸ jp_has h') hP hS)
theorem jg_lload_n (cx : jg_C E l R own cc nL ret Ts Q X) {i : Fin 4} {x : Int64} (hd : decode cc pc = .ok (.lload_n i, 1)) (hv : jp_lk lv i.val = some (.long x)) (k : X (pc + 1) lv (.long x :: st) h) : X pc lv (st) h := by
  obtain ⟨p, e, s, m, args, below, meth, c, rfl, hx, hb, hml, hown, hts, hr, hlk, hK, hN, hI⟩ := cx
  intro ls H locs hl hP hS
  exact lv_lload_n hx hb hd rfl (jp_lk_at hl hv) (k ls H locs hl hP hS)
theorem jg_lload (cx : jg_C E l R own cc nL ret Ts Q X) {i : Nat} {x : Int64} (hd : decode cc pc = .ok (.lload i, 2)) (hv : jp_lk lv i = some (.long x)) (k : X (pc + 2) lv (.long x :: st) h) : X pc lv (st) h := by
  obtain ⟨p, e, s, m, args, below, meth, c, rfl, hx, hb, hml, hown, hts, hr, hlk, hK, hN, hI⟩ := cx
  intro ls H locs hl hP hS
  exact lv_lload hx hb hd (jp_lk_at hl hv) (k ls H locs hl hP hS)
theorem jg_lstore_n (cx : jg_C E l R own cc nL ret Ts Q X) {i : Fin 4} {x : Int64} {lv' : List (Nat × Value)} (hd : decode cc pc = .ok (.lstore_n i, 1)) (hn : i.val + 1 < nL) (hl' : jp_l2 lv i.val (.long x) = lv') (k : X (pc + 1) lv' st h) : X pc lv (.long x :: st) h := by
  obtain ⟨p, e, s, m, args, below, meth, c, rfl, hx, hb, hml, hown, hts, hr, hlk, hK, hN, hI⟩ := cx
  intro ls H locs hl hP hS
  exact lv_lstore_n hx hb hd rfl hl hn rfl (fun ls' h' => k ls' H locs (hl' ▸ jp_has h') hP hS)
theorem jg_lstore (cx : jg_C E l R own cc nL ret Ts Q X) {i : Nat} {x : Int64} {lv' : List (Nat × Value)} (hd : decode cc pc = .ok (.lstore i, 2)) (hn : i + 1 < nL) (hl' : jp_l2 lv i (.long x) = lv') (k : X (pc + 2) lv' st h) : X pc lv (.long x :: st) h := by
  obtain ⟨p, e, s, m, args, below, meth, c, rfl, hx, hb, hml, hown, hts, hr, hlk, hK, hN, hI⟩ := cx
  intro ls H locs hl hP hS
  exact lv_lstore hx hb hd hl hn rfl (fun ls' h' => k ls' H locs (hl' ▸ jp_has h') hP hS)
theorem jg_aload_n (cx : jg_C E l R own cc nL ret Ts Q X) {i : Fin 4} {x : Nat} (hd : decode cc pc = .ok (.aload_n i, 1)) (hv : jp_lk lv i.val = some (.ref x)) (k : X (pc + 1) lv (.ref x :: st) h) : X pc lv (st) h := by
  obtain ⟨p, e, s, m, args, below, meth, c, rfl, hx, hb, hml, hown, hts, hr, hlk, hK, hN, hI⟩ := cx
  intro ls H locs hl hP hS
  exact lv_aload_n hx hb hd rfl (jp_lk_at hl hv) (k ls H locs hl hP hS)
theorem jg_aload (cx : jg_C E l R own cc nL ret Ts Q X) {i : Nat} {x : Nat} (hd : decode cc pc = .ok (.aload i, 2)) (hv : jp_lk lv i = some (.ref x)) (k : X (pc + 2) lv (.ref x :: st) h) : X pc lv (st) h := by
  obtain ⟨p, e, s, m, args, below, meth, c, rfl, hx, hb, hml, hown, hts, hr, hlk, hK, hN, hI⟩ := cx
  intro ls H locs hl hP hS
  exact lv_aload hx hb hd (jp_lk_at hl hv) (k ls H locs hl hP hS)
theorem jg_astore_n (cx : jg_C E l R own cc nL ret Ts Q X) {i : Fin 4} {x : Nat} {lv' : List (Nat × Value)} (hd : decode cc pc = .ok (.astore_n i, 1)) (hn : i.val < nL) (hl' : jp_l1 lv i.val (.ref x) = lv') (k : X (pc + 1) lv' st h) : X pc lv (.ref x :: st) h := by
  obtain ⟨p, e, s, m, args, below, meth, c, rfl, hx, hb, hml, hown, hts, hr, hlk, hK, hN, hI⟩ := cx
  intro ls H locs hl hP hS
  exact lv_astore_n hx hb hd rfl hl hn rfl (fun ls' h' => k ls' H locs (hl' ▸ jp_has h') hP hS)
theorem jg_astore (cx : jg_C E l R own cc nL ret Ts Q X) {i : Nat} {x : Nat} {lv' : List (Nat × Value)} (hd : decode cc pc = .ok (.astore i, 2)) (hn : i < nL) (hl' : jp_l1 lv i (.ref x) = lv') (k : X (pc + 2) lv' st h) : X pc lv (.ref x :: st) h := by
  obtain ⟨p, e, s, m, args, below, meth, c, rfl, hx, hb, hml, hown, hts, hr, hlk, hK, hN, hI⟩ := cx
  intro ls H locs hl hP hS
  exact lv_astore hx hb hd hl hn rfl (fun ls' h' => k ls' H locs (hl' ▸ jp_has h') hP hS)
theorem jg_iinc (cx : jg_C E l R own cc nL ret Ts Q X) {i : Nat} {n : Int} {x v : Int32} {lv' : List (Nat × Value)} (hd : decode cc pc = .ok (.iinc i n, 3)) (hv : jp_lk lv i = some (.int x)) (hxv : x + Int32.ofInt n = v) (hn : i < nL) (hl' : jp_l1 lv i (.int v) = lv') (k : X (pc + 3) lv' st h) : X pc lv st h := by
  obtain ⟨p, e, s, m, args, below, meth, c, rfl, hx, hb, hml, hown, hts, hr, hlk, hK, hN, hI⟩ := cx
  intro ls H locs hl hP hS
  obtain ⟨j, hj⟩ := List.getElem?_of_mem (jp_lk_mem hv)
  exact lv_iinc (v := v) hx hb hd hl hj hxv hn rfl (fun ls' h' => k ls' H locs (hl' ▸ jp_has h') hP hS)
/-- a counter goes on -/
theorem jg_iincN (cx : jg_C E l R own cc nL ret Ts Q X) {i j d : Nat} {n : Int} {lv' : List (Nat × Value)} (hd : decode cc pc = .ok (.iinc i n, 3)) (hv : jp_lk lv i = some (.int (nI j))) (hnd : Int32.ofInt n = nI d) (hn : i < nL) (hl' : jp_l1 lv i (.int (nI (j + d))) = lv') (k : X (pc + 3) lv' st h) : X pc lv st h :=
  jg_iinc cx hd hv (by rw [hnd, nI_add]) hn hl' k
theorem jg_iincI (cx : jg_C E l R own cc nL ret Ts Q X) {i d : Nat} {n : Int} {x : Int32} {lv' : List (Nat × Value)} (hd : decode cc pc = .ok (.iinc i n, 3)) (hv : jp_lk lv i = some (.int x)) (hnd : Int32.ofInt n = nI d) (hn : i < nL) (hl' : jp_l1 lv i (.int (x + nI d)) = lv') (k : X (pc + 3) lv' st h) : X pc lv st h :=
  jg_iinc cx hd hv (by rw [hnd]) hn hl' k
theorem jg_iadd (cx : jg_C E l R own cc nL ret Ts Q X) {x y : Int32} (hd : decode cc pc = .ok (.iadd, 1)) (k : X (pc + 1) lv (.int (x + y) :: st) h) : X pc lv (.int y :: .int x :: st) h := by
  obtain ⟨p, e, s, m, args, below, meth, c, rfl, hx, hb, hml, hown, hts, hr, hlk, hK, hN, hI⟩ := cx
  intro ls H locs hl hP hS
  exact lv_iadd hx hb hd (k ls H locs hl hP hS)
theorem jg_isub (cx : jg_C E l R own cc nL ret Ts Q X) {x y : Int32} (hd : decode cc pc = .ok (.isub, 1)) (k : X (pc + 1) lv (.int (x - y) :: st) h) : X pc lv (.int y :: .int x :: st) h := by
  obtain ⟨p, e, s, m, args, below, meth, c, rfl, hx, hb, hml, hown, hts, hr, hlk, hK, hN, hI⟩ := cx
  intro ls H locs hl hP hS
  exact lv_isub hx hb hd (k ls H locs hl hP hS)
theorem jg_imul (cx : jg_C E l R own cc nL ret Ts Q X) {x y : Int32} (hd : decode cc pc = .ok (.imul, 1)) (k : X (pc + 1) lv (.int (x * y) :: st) h) : X pc lv (.int y :: .int x :: st) h := by
  obtain ⟨p, e, s, m, args, below, meth, c, rfl, hx, hb, hml, hown, hts, hr, hlk, hK, hN, hI⟩ := cx
  intro ls H locs hl hP hS
  exact lv_imul hx hb hd (k ls H locs hl hP hS)
theorem jg_iand (cx : jg_C E l R own cc nL ret Ts Q X) {x y : Int32} (hd : decode cc pc = .ok (.iand, 1)) (k : X (pc + 1) lv (.int (x &&& y) :: st) h) : X pc lv (.int y :: .int x :: st) h := by
  obtain ⟨p, e, s, m, args, below, meth, c, rfl, hx, hb, hml, hown, hts, hr, hlk, hK, hN, hI⟩ := cx
  intro ls H locs hl hP hS
  exact lv_iand hx hb hd (k ls H locs hl hP hS)
theorem jg_ior (cx : jg_C E l R own cc nL ret Ts Q X) {x y : Int32} (hd : decode cc pc = .ok (.ior, 1)) (k : X (pc + 1) lv (.int (x ||| y) :: st) h) : X pc lv (.int y :: .int x :: st) h := by
  obtain ⟨p, e, s, m, args, below, meth, c, rfl, hx, hb, hml, hown, hts, hr, hlk, hK, hN, hI⟩ := cx
  intro ls H locs hl hP hS
  exact lv_ior hx hb hd (k ls H locs hl hP hS)
theorem jg_ixor (cx : jg_C E l R own cc nL ret Ts Q X) {x y : Int32} (hd : decode cc pc = .ok (.ixor, 1)) (k : X (pc + 1) lv (.int (x ^^^ y) :: st) h) : X pc lv (.int y :: .int x :: st) h := by
  obtain ⟨p, e, s, m, args, below, meth, c, rfl, hx, hb, hml, hown, hts, hr, hlk, hK, hN, hI⟩ := cx
  intro ls H locs hl hP hS
  exact lv_ixor hx hb hd (k ls H locs hl hP hS)
theorem jg_idiv (cx : jg_C E l R own cc nL ret Ts Q X) {x y : Int32} (hd : decode cc pc = .ok (.idiv, 1)) (hne : ¬ y = 0) (k : X (pc + 1) lv (.int (x / y) :: st) h) : X pc lv (.int y :: .int x :: st) h := by
  obtain ⟨p, e, s, m, args, below, meth, c, rfl, hx, hb, hml, hown, hts, hr, hlk, hK, hN, hI⟩ := cx
  intro ls H locs hl hP hS
  exact lv_idiv hx hb hd hne (k ls H locs hl hP hS)
theorem jg_irem (cx : jg_C E l R own cc nL ret Ts Q X) {x y : Int32} (hd : decode cc pc = .ok (.irem, 1)) (hne : ¬ y = 0) (k : X (pc + 1) lv (.int (x - x / y * y) :: st) h) : X pc lv (.int y :: .int x :: st) h := by
  obtain ⟨p, e, s, m, args, below, meth, c, rfl, hx, hb, hml, hown, hts, hr, hlk, hK, hN, hI⟩ := cx
  intro ls H locs hl hP hS
  exact lv_irem hx hb hd hne (k ls H locs hl hP hS)
theorem jg_ineg (cx : jg_C E l R own cc nL ret Ts Q X) {x : Int32} (hd : decode cc pc = .ok (.ineg, 1)) (k : X (pc + 1) lv (.int (-x) :: st) h) : X pc lv (.int x :: st) h := by
  obtain ⟨p, e, s, m, args, below, meth, c, rfl, hx, hb, hml, hown, hts, hr, hlk, hK, hN, hI⟩ := cx
  intro ls H locs hl hP hS
  exact lv_ineg hx hb hd (k ls H locs hl hP hS)
theorem jg_ishl (cx : jg_C E l R own cc nL ret Ts Q X) {x y : Int32} (hd : decode cc pc = .ok (.ishl, 1)) (k : X (pc + 1) lv (.int (x <<< (y &&& 31)) :: st) h) : X pc lv (.int y :: .int x :: st) h := by
  obtain ⟨p, e, s, m, args, below, meth, c, rfl, hx, hb, hml, hown, hts, hr, hlk, hK, hN, hI⟩ := cx
  intro ls H locs hl hP hS
  exact lv_ishl hx hb hd (k ls H locs hl hP hS)
theorem jg_ladd (cx : jg_C E l R own cc nL ret Ts Q X) {x y : Int64} (hd : decode cc pc = .ok (.ladd, 1)) (k : X (pc + 1) lv (.long (x + y) :: st) h) : X pc lv (.long y :: .long x :: st) h := by
  obtain ⟨p, e, s, m, args, below, meth, c, rfl, hx, hb, hml, hown, hts, hr, hlk, hK, hN, hI⟩ := cx
  intro ls H locs hl hP hS
  exact lv_ladd hx hb hd (k ls H locs hl hP hS)
theorem jg_lsub (cx : jg_C E l R own cc nL ret Ts Q X) {x y : Int64} (hd : decode cc pc = .ok (.lsub, 1)) (k : X (pc + 1) lv (.long (x - y) :: st) h) : X pc lv (.long y :: .long x :: st) h := by
  obtain ⟨p, e, s, m, args, below, meth, c, rfl, hx, hb, hml, hown, hts, hr, hlk, hK, hN, hI⟩ := cx
  intro ls H locs hl hP hS
  exact lv_lsub hx hb hd (k ls H locs hl hP hS)
theorem jg_lmul (cx : jg_C E l R own cc nL ret Ts Q X) {x y : Int64} (hd : decode cc pc = .ok (.lmul, 1)) (k : X (pc + 1) lv (.long (x * y) :: st) h) : X pc lv (.long y :: .long x :: st) h := by
  obtain ⟨p, e, s, m, args, below, meth, c, rfl, hx, hb, hml, hown, hts, hr, hlk, hK, hN, hI⟩ := cx
  intro ls H locs hl hP hS
  exact lv_lmul hx hb hd (k ls H locs hl hP hS)
theorem jg_ldiv (cx : jg_C E l R own cc nL ret Ts Q X) {x y : Int64} (hd : decode cc pc = .ok (.ldiv, 1)) (hne : ¬ y = 0) (k : X (pc + 1) lv (.long (x / y) :: st) h) : X pc lv (.long y :: .long x :: st) h := by
  obtain ⟨p, e, s, m, args, below, meth, c, rfl, hx, hb, hml, hown, hts, hr, hlk, hK, hN, hI⟩ := cx
  intro ls H locs hl hP hS
  exact lv_ldiv hx hb hd hne (k ls H locs hl hP hS)
theorem jg_lrem (cx : jg_C E l R own cc nL ret Ts Q X) {x y : Int64} (hd : decode cc pc = .ok (.lrem, 1)) (hne : ¬ y = 0) (k : X (pc + 1) lv (.long (x - x / y * y) :: st) h) : X pc lv (.long y :: .long x :: st) h := by
  obtain ⟨p, e, s, m, args, below, meth, c, rfl, hx, hb, hml, hown, hts, hr, hlk, hK, hN, hI⟩ := cx
  intro ls H locs hl hP hS
  exact lv_lrem hx hb hd hne (k ls H locs hl hP hS)
theorem jg_lneg (cx : jg_C E l R own cc nL ret Ts Q X) {x : Int64} (hd : decode cc pc = .ok (.lneg, 1)) (k : X (pc + 1) lv (.long (-x) :: st) h) : X pc lv (.long x :: st) h := by
  obtain ⟨p, e, s, m, args, below, meth, c, rfl, hx, hb, hml, hown, hts, hr, hlk, hK, hN, hI⟩ := cx
  intro ls H locs hl hP hS
  exact lv_lneg hx hb hd (k ls H locs hl hP hS)
theorem jg_lcmp (cx : jg_C E l R own cc nL ret Ts Q X) {x y : Int64} (hd : decode cc pc = .ok (.lcmp, 1)) (k : X (pc + 1) lv (.int (lg_cmp x y) :: st) h) : X pc lv (.long y :: .long x :: st) h := by
  obtain ⟨p, e, s, m, args, below, meth, c, rfl, hx, hb, hml, hown, hts, hr, hlk, hK, hN, hI⟩ := cx
  intro ls H locs hl hP hS
  exact W.lcmp hx hb hd (k ls H locs hl hP hS)
theorem jg_i2l (cx : jg_C E l R own cc nL ret Ts Q X) {x : Int32} (hd : decode cc pc = .ok (.i2l, 1)) (k : X (pc + 1) lv (.long x.toInt64 :: st) h) : X pc lv (.int x :: st) h := by
  obtain ⟨p, e, s, m, args, below, meth, c, rfl, hx, hb, hml, hown, hts, hr, hlk, hK, hN, hI⟩ := cx
  intro ls H locs hl hP hS
  exact lv_i2l hx hb hd rfl (k ls H locs hl hP hS)
theorem jg_l2i (cx : jg_C E l R own cc nL ret Ts Q X) {x : Int64} (hd : decode cc pc = .ok (.l2i, 1)) (k : X (pc + 1) lv (.int x.toInt32 :: st) h) : X pc lv (.long x :: st) h := by
  obtain ⟨p, e, s, m, args, below, meth, c, rfl, hx, hb, hml, hown, hts, hr, hlk, hK, hN, hI⟩ := cx
  intro ls H locs hl hP hS
  exact lv_l2i hx hb hd rfl (k ls H locs hl hP hS)
theorem jg_dup (cx : jg_C E l R own cc nL ret Ts Q X) {v : Value} (hd : decode cc pc = .ok (.dup, 1)) (hv : v.category = 1) (k : X (pc + 1) lv (v :: v :: st) h) : X pc lv (v :: st) h := by
  obtain ⟨p, e, s, m, args, below, meth, c, rfl, hx, hb, hml, hown, hts, hr, hlk, hK, hN, hI⟩ := cx
  intro ls H locs hl hP hS
  exact lv_dup hx hb hd hv (k ls H locs hl hP hS)
theorem jg_pop (cx : jg_C E l R own cc nL ret Ts Q X) {v : Value} (hd : decode cc pc = .ok (.pop, 1)) (hv : v.category = 1) (k : X (pc + 1) lv (st) h) : X pc lv (v :: st) h := by
  obtain ⟨p, e, s, m, args, below, meth, c, rfl, hx, hb, hml, hown, hts, hr, hlk, hK, hN, hI⟩ := cx
  intro ls H locs hl hP hS
  exact lv_pop hx hb hd hv (k ls H locs hl hP hS)
theorem jg_dup2 (cx : jg_C E l R own cc nL ret Ts Q X) {v w : Value} (hd : decode cc pc = .ok (.dup2, 1)) (hv : v.category = 1) (hw : w.category = 1) (k : X (pc + 1) lv (v :: w :: v :: w :: st) h) : X pc lv (v :: w :: st) h := by
  obtain ⟨p, e, s, m, args, below, meth, c, rfl, hx, hb, hml, hown, hts, hr, hlk, hK, hN, hI⟩ := cx
  intro ls H locs hl hP hS
  exact lv_dup2_11 hx hb hd hv hw (k ls H locs hl hP hS)
theorem jg_iaddN (cx : jg_C E l R own cc nL ret Ts Q X) {a b : Nat} (hd : decode cc pc = .ok (.iadd, 1)) (k : X (pc + 1) lv (.int (nI (a + b)) :: st) h) : X pc lv (.int (nI b) :: .int (nI a) :: st) h := by
  obtain ⟨p, e, s, m, args, below, meth, c, rfl, hx, hb, hml, hown, hts, hr, hlk, hK, hN, hI⟩ := cx
  intro ls H locs hl hP hS
  exact lv_iadd hx hb hd (by rw [nI_add]; exact k ls H locs hl hP hS)
theorem jg_imulN (cx : jg_C E l R own cc nL ret Ts Q X) {a b : Nat} (hd : decode cc pc = .ok (.imul, 1)) (k : X (pc + 1) lv (.int (nI (a * b)) :: st) h) : X pc lv (.int (nI b) :: .int (nI a) :: st) h := by
  obtain ⟨p, e, s, m, args, below, meth, c, rfl, hx, hb, hml, hown, hts, hr, hlk, hK, hN, hI⟩ := cx
  intro ls H locs hl hP hS
  exact lv_imul hx hb hd (by rw [pk_mul]; exact k ls H locs hl hP hS)
theorem jg_isubN (cx : jg_C E l R own cc nL ret Ts Q X) {a b : Nat} (hd : decode cc pc = .ok (.isub, 1)) (hab : b ≤ a) (k : X (pc + 1) lv (.int (nI (a - b)) :: st) h) : X pc lv (.int (nI b) :: .int (nI a) :: st) h := by
  obtain ⟨p, e, s, m, args, below, meth, c, rfl, hx, hb, hml, hown, hts, hr, hlk, hK, hN, hI⟩ := cx
  intro ls H locs hl hP hS
  exact lv_isub hx hb hd (by rw [pk_sub hab]; exact k ls H locs hl hP hS)
theorem jg_idivN (cx : jg_C E l R own cc nL ret Ts Q X) {a b : Nat} (hd : decode cc pc = .ok (.idiv, 1)) (ha : a < 2 ^ 31) (h0 : 0 < b) (hb2 : b < 2 ^ 31) (k : X (pc + 1) lv (.int (nI (a / b)) :: st) h) : X pc lv (.int (nI b) :: .int (nI a) :: st) h := by
  obtain ⟨p, e, s, m, args, below, meth, c, rfl, hx, hb, hml, hown, hts, hr, hlk, hK, hN, hI⟩ := cx
  intro ls H locs hl hP hS
  exact lv_idiv hx hb hd (nI_ne0 h0 hb2) (by rw [pk_div ha h0 hb2]; exact k ls H locs hl hP hS)
theorem jg_iremN (cx : jg_C E l R own cc nL ret Ts Q X) {a b : Nat} (hd : decode cc pc = .ok (.irem, 1)) (ha : a < 2 ^ 31) (h0 : 0 < b) (hb2 : b < 2 ^ 31) (k : X (pc + 1) lv (.int (nI (a % b)) :: st) h) : X pc lv (.int (nI b) :: .int (nI a) :: st) h := by
  obtain ⟨p, e, s, m, args, below, meth, c, rfl, hx, hb, hml, hown, hts, hr, hlk, hK, hN, hI⟩ := cx
  intro ls H locs hl hP hS
  exact lv_irem hx hb hd (nI_ne0 h0 hb2) (by rw [pk_rem ha h0 hb2]; exact k ls H locs hl hP hS)
theorem jg_if_eq (cx : jg_C E l R own cc nL ret Ts Q X) {x : Int32} {off : Int} {tgt : Nat} (hd : decode cc pc = .ok (.ifCond .eq off, 3)) (ht : (pc : Int) + off = (tgt : Int)) (kt : x = 0 → X tgt lv st h) (kf : ¬ x = 0 → X (pc + 3) lv st h) : X pc lv (.int x :: st) h := by
  obtain ⟨p, e, s, m, args, below, meth, c, rfl, hx, hb, hml, hown, hts, hr, hlk, hK, hN, hI⟩ := cx
  intro ls H locs hl hP hS
  exact lv_if_eq hx hb hd ht (fun c9 => kt c9 ls H locs hl hP hS) (fun c9 => kf c9 ls H locs hl hP hS)
theorem jg_icmp_eq (cx : jg_C E l R own cc nL ret Ts Q X) {x y : Int32} {off : Int} {tgt : Nat} (hd : decode cc pc = .ok (.if_icmp .eq off, 3)) (ht : (pc : Int) + off = (tgt : Int)) (kt : x = y → X tgt lv st h) (kf : ¬ x = y → X (pc + 3) lv st h) : X pc lv (.int y :: .int x :: st) h := by
  obtain ⟨p, e, s, m, args, below, meth, c, rfl, hx, hb, hml, hown, hts, hr, hlk, hK, hN, hI⟩ := cx
  intro ls H locs hl hP hS
  exact lv_icmp_eq hx hb hd ht (fun c9 => kt c9 ls H locs hl hP hS) (fun c9 => kf c9 ls H locs hl hP hS)
theorem jg_if_ne (cx : jg_C E l R own cc nL ret Ts Q X) {x : Int32} {off : Int} {tgt : Nat} (hd : decode cc pc = .ok (.ifCond .ne off, 3)) (ht : (pc : Int) + off = (tgt : Int)) (kt : ¬ x = 0 → X tgt lv st h) (kf : x = 0 → X (pc + 3) lv st h) : X pc lv (.int x :: st) h := by
  obtain ⟨p, e, s, m, args, below, meth, c, rfl, hx, hb, hml, hown, hts, hr, hlk, hK, hN, hI⟩ := cx
  intro ls H locs hl hP hS
  exact lv_if_ne hx hb hd ht (fun c9 => kt c9 ls H locs hl hP hS) (fun c9 => kf c9 ls H locs hl hP hS)
theorem jg_icmp_ne (cx : jg_C E l R own cc nL ret Ts Q X) {x y : Int32} {off : Int} {tgt : Nat} (hd : decode cc pc = .ok (.if_icmp .ne off, 3)) (ht : (pc : Int) + off = (tgt : Int)) (kt : ¬ x = y → X tgt lv st h) (kf : x = y → X (pc + 3) lv st h) : X pc lv (.int y :: .int x :: st) h := by
  obtain ⟨p, e, s, m, args, below, meth, c, rfl, hx, hb, hml, hown, hts, hr, hlk, hK, hN, hI⟩ := cx
  intro ls H locs hl hP hS
  exact lv_icmp_ne hx hb hd ht (fun c9 => kt c9 ls H locs hl hP hS) (fun c9 => kf c9 ls H locs hl hP hS)
theorem jg_if_lt (cx : jg_C E l R own cc nL ret Ts Q X) {x : Int32} {off : Int} {tgt : Nat} (hd : decode cc pc = .ok (.ifCond .lt off, 3)) (ht : (pc : Int) + off = (tgt : Int)) (kt : x < 0 → X tgt lv st h) (kf : ¬ x < 0 → X (pc + 3) lv st h) : X pc lv (.int x :: st) h := by
  obtain ⟨p, e, s, m, args, below, meth, c, rfl, hx, hb, hml, hown, hts, hr, hlk, hK, hN, hI⟩ := cx
  intro ls H locs hl hP hS
  exact lv_if_lt hx hb hd ht (fun c9 => kt c9 ls H locs hl hP hS) (fun c9 => kf c9 ls H locs hl hP hS)
theorem jg_icmp_lt (cx : jg_C E l R own cc nL ret Ts Q X) {x y : Int32} {off : Int} {tgt : Nat} (hd : decode cc pc = .ok (.if_icmp .lt off, 3)) (ht : (pc : Int) + off = (tgt : Int)) (kt : x < y → X tgt lv st h) (kf : ¬ x < y → X (pc + 3) lv st h) : X pc lv (.int y :: .int x :: st) h := by
  obtain ⟨p, e, s, m, args, below, meth, c, rfl, hx, hb, hml, hown, hts, hr, hlk, hK, hN, hI⟩ := cx
  intro ls H locs hl hP hS
  exact lv_icmp_lt hx hb hd ht (fun c9 => kt c9 ls H locs hl hP hS) (fun c9 => kf c9 ls H locs hl hP hS)
theorem jg_if_ge (cx : jg_C E l R own cc nL ret Ts Q X) {x : Int32} {off : Int} {tgt : Nat} (hd : decode cc pc = .ok (.ifCond .ge off, 3)) (ht : (pc : Int) + off = (tgt : Int)) (kt : 0 ≤ x → X tgt lv st h) (kf : ¬ 0 ≤ x → X (pc + 3) lv st h) : X pc lv (.int x :: st) h := by
  obtain ⟨p, e, s, m, args, below, meth, c, rfl, hx, hb, hml, hown, hts, hr, hlk, hK, hN, hI⟩ := cx
  intro ls H locs hl hP hS
  exact lv_if_ge hx hb hd ht (fun c9 => kt c9 ls H locs hl hP hS) (fun c9 => kf c9 ls H locs hl hP hS)
theorem jg_icmp_ge (cx : jg_C E l R own cc nL ret Ts Q X) {x y : Int32} {off : Int} {tgt : Nat} (hd : decode cc pc = .ok (.if_icmp .ge off, 3)) (ht : (pc : Int) + off = (tgt : Int)) (kt : y ≤ x → X tgt lv st h) (kf : ¬ y ≤ x → X (pc + 3) lv st h) : X pc lv (.int y :: .int x :: st) h := by
  obtain ⟨p, e, s, m, args, below, meth, c, rfl, hx, hb, hml, hown, hts, hr, hlk, hK, hN, hI⟩ := cx
  intro ls H locs hl hP hS
  exact lv_icmp_ge hx hb hd ht (fun c9 => kt c9 ls H locs hl hP hS) (fun c9 => kf c9 ls H locs hl hP hS)
theorem jg_if_gt (cx : jg_C E l R own cc nL ret Ts Q X) {x : Int32} {off : Int} {tgt : Nat} (hd : decode cc pc = .ok (.ifCond .gt off, 3)) (ht : (pc : Int) + off = (tgt : Int)) (kt : 0 < x → X tgt lv st h) (kf : ¬ 0 < x → X (pc + 3) lv st h) : X pc lv (.int x :: st) h := by
  obtain ⟨p, e, s, m, args, below, meth, c, rfl, hx, hb, hml, hown, hts, hr, hlk, hK, hN, hI⟩ := cx
  intro ls H locs hl hP hS
  exact lv_if_gt hx hb hd ht (fun c9 => kt c9 ls H locs hl hP hS) (fun c9 => kf c9 ls H locs hl hP hS)
theorem jg_icmp_gt (cx : jg_C E l R own cc nL ret Ts Q X) {x y : Int32} {off : Int} {tgt : Nat} (hd : decode cc pc = .ok (.if_icmp .gt off, 3)) (ht : (pc : Int) + off = (tgt : Int)) (kt : y < x → X tgt lv st h) (kf : ¬ y < x → X (pc + 3) lv st h) : X pc lv (.int y :: .int x :: st) h := by
  obtain ⟨p, e, s, m, args, below, meth, c, rfl, hx, hb, hml, hown, hts, hr, hlk, hK, hN, hI⟩ := cx
  intro ls H locs hl hP hS
  exact lv_icmp_gt hx hb hd ht (fun c9 => kt c9 ls H locs hl hP hS) (fun c9 => kf c9 ls H locs hl hP hS)
theorem jg_if_le (cx : jg_C E l R own cc nL ret Ts Q X) {x : Int32} {off : Int} {tgt : Nat} (hd : decode cc pc = .ok (.ifCond .le off, 3)) (ht : (pc : Int) + off = (tgt : Int)) (kt : x ≤ 0 → X tgt lv st h) (kf : ¬ x ≤ 0 → X (pc + 3) lv st h) : X pc lv (.int x :: st) h := by
  obtain ⟨p, e, s, m, args, below, meth, c, rfl, hx, hb, hml, hown, hts, hr, hlk, hK, hN, hI⟩ := cx
  intro ls H locs hl hP hS
  exact lv_if_le hx hb hd ht (fun c9 => kt c9 ls H locs hl hP hS) (fun c9 => kf c9 ls H locs hl hP hS)
theorem jg_icmp_le (cx : jg_C E l R own cc nL ret Ts Q X) {x y : Int32} {off : Int} {tgt : Nat} (hd : decode cc pc = .ok (.if_icmp .le off, 3)) (ht : (pc : Int) + off = (tgt : Int)) (kt : x ≤ y → X tgt lv st h) (kf : ¬ x ≤ y → X (pc + 3) lv st h) : X pc lv (.int y :: .int x :: st) h := by
  obtain ⟨p, e, s, m, args, below, meth, c, rfl, hx, hb, hml, hown, hts, hr, hlk, hK, hN, hI⟩ := cx
  intro ls H locs hl hP hS
  exact lv_icmp_le hx hb hd ht (fun c9 => kt c9 ls H locs hl hP hS) (fun c9 => kf c9 ls H locs hl hP hS)
theorem jg_goto (cx : jg_C E l R own cc nL ret Ts Q X) {off : Int} {tgt : Nat} (hd : decode cc pc = .ok (.goto off, 3)) (ht : (pc : Int) + off = (tgt : Int)) (k : X tgt lv st h) : X pc lv st h := by
  obtain ⟨p, e, s, m, args, below, meth, c, rfl, hx, hb, hml, hown, hts, hr, hlk, hK, hN, hI⟩ := cx
  intro ls H locs hl hP hS
  exact lv_goto hx hb hd ht (k ls H locs hl hP hS)
theorem jg_icmpN_ge (cx : jg_C E l R own cc nL ret Ts Q X) {a b : Nat} {off : Int} {tgt : Nat} (hd : decode cc pc = .ok (.if_icmp .ge off, 3)) (ht : (pc : Int) + off = (tgt : Int)) (ha : a < 2 ^ 31) (hb2 : b < 2 ^ 31) (kt : b ≤ a → X tgt lv st h) (kf : a < b → X (pc + 3) lv st h) : X pc lv (.int (nI b) :: .int (nI a) :: st) h :=
  jg_icmp_ge cx hd ht (fun c9 => kt ((nI_leI hb2 ha).mp c9)) (fun c9 => kf (by have c8 : ¬ (b ≤ a) := fun q => c9 ((nI_leI hb2 ha).mpr q); omega))
theorem jg_icmpN_gt (cx : jg_C E l R own cc nL ret Ts Q X) {a b : Nat} {off : Int} {tgt : Nat} (hd : decode cc pc = .ok (.if_icmp .gt off, 3)) (ht : (pc : Int) + off = (tgt : Int)) (ha : a < 2 ^ 31) (hb2 : b < 2 ^ 31) (kt : b < a → X tgt lv st h) (kf : a ≤ b → X (pc + 3) lv st h) : X pc lv (.int (nI b) :: .int (nI a) :: st) h :=
  jg_icmp_gt cx hd ht (fun c9 => kt ((nI_ltI hb2 ha).mp c9)) (fun c9 => kf (by have c8 : ¬ (b < a) := fun q => c9 ((nI_ltI hb2 ha).mpr q); omega))
theorem jg_icmpN_lt (cx : jg_C E l R own cc nL ret Ts Q X) {a b : Nat} {off : Int} {tgt : Nat} (hd : decode cc pc = .ok (.if_icmp .lt off, 3)) (ht : (pc : Int) + off = (tgt : Int)) (ha : a < 2 ^ 31) (hb2 : b < 2 ^ 31) (kt : a < b → X tgt lv st h) (kf : b ≤ a → X (pc + 3) lv st h) : X pc lv (.int (nI b) :: .int (nI a) :: st) h :=
  jg_icmp_lt cx hd ht (fun c9 => kt ((nI_ltI ha hb2).mp c9)) (fun c9 => kf (by have c8 : ¬ (a < b) := fun q => c9 ((nI_ltI ha hb2).mpr q); omega))
theorem jg_icmpN_le (cx : jg_C E l R own cc nL ret Ts Q X) {a b : Nat} {off : Int} {tgt : Nat} (hd : decode cc pc = .ok (.if_icmp .le off, 3)) (ht : (pc : Int) + off = (tgt : Int)) (ha : a < 2 ^ 31) (hb2 : b < 2 ^ 31) (kt : a ≤ b → X tgt lv st h) (kf : b < a → X (pc + 3) lv st h) : X pc lv (.int (nI b) :: .int (nI a) :: st) h :=
  jg_icmp_le cx hd ht (fun c9 => kt ((nI_leI ha hb2).mp c9)) (fun c9 => kf (by have c8 : ¬ (a ≤ b) := fun q => c9 ((nI_leI ha hb2).mpr q); omega))
theorem jg_icmpN_eq (cx : jg_C E l R own cc nL ret Ts Q X) {a b : Nat} {off : Int} {tgt : Nat} (hd : decode cc pc = .ok (.if_icmp .eq off, 3)) (ht : (pc : Int) + off = (tgt : Int)) (ha : a < 2 ^ 31) (hb2 : b < 2 ^ 31) (kt : a = b → X tgt lv st h) (kf : a ≠ b → X (pc + 3) lv st h) : X pc lv (.int (nI b) :: .int (nI a) :: st) h :=
  jg_icmp_eq cx hd ht (fun c9 => kt ((nI_eq ha hb2).mp c9)) (fun c9 => kf (fun q => c9 ((nI_eq ha hb2).mpr q)))
theorem jg_icmpN_ne (cx : jg_C E l R own cc nL ret Ts Q X) {a b : Nat} {off : Int} {tgt : Nat} (hd : decode cc pc = .ok (.if_icmp .ne off, 3)) (ht : (pc : Int) + off = (tgt : Int)) (ha : a < 2 ^ 31) (hb2 : b < 2 ^ 31) (kt : a ≠ b → X tgt lv st h) (kf : a = b → X (pc + 3) lv st h) : X pc lv (.int (nI b) :: .int (nI a) :: st) h :=
  jg_icmp_ne cx hd ht (fun c9 => kt (fun q => c9 ((nI_eq ha hb2).mpr q))) (fun c9 => kf (by first | exact (nI_eq ha hb2).mp c9 | exact (nI_eq ha hb2).mp (Classical.not_not.mp c9)))
/-- branches on a yes or no -/
theorem jg_ifb_eq (cx : jg_C E l R own cc nL ret Ts Q X) {x : Bool} {off : Int} {tgt : Nat} (hd : decode cc pc = .ok (.ifCond .eq off, 3)) (ht : (pc : Int) + off = (tgt : Int)) (kt : x = false → X tgt lv st h) (kf : x = true → X (pc + 3) lv st h) : X pc lv (.int (jp_b x) :: st) h :=
  jg_if_eq cx hd ht (fun c9 => kt (by cases x <;> simp_all [jp_b])) (fun c9 => kf (by cases x <;> simp_all [jp_b]))
theorem jg_ifb_ne (cx : jg_C E l R own cc nL ret Ts Q X) {x : Bool} {off : Int} {tgt : Nat} (hd : decode cc pc = .ok (.ifCond .ne off, 3)) (ht : (pc : Int) + off = (tgt : Int)) (kt : x = true → X tgt lv st h) (kf : x = false → X (pc + 3) lv st h) : X pc lv (.int (jp_b x) :: st) h :=
  jg_if_ne cx hd ht (fun c9 => kt (by cases x <;> simp_all [jp_b])) (fun c9 => kf (by cases x <;> simp_all [jp_b]))
theorem jg_tableIn (cx : jg_C E l R own cc nL ret Ts Q X) {dflt lo hi : Int} {offs : Array Int} {len : Nat} {x : Int32} {off : Int} {tgt : Nat} (hd : decode cc pc = .ok (.tableswitch dflt lo hi offs, len)) (h1 : ¬ x.toInt < lo) (h2 : ¬ hi < x.toInt) (ho : offs[(x.toInt - lo).toNat]? = some off) (ht : (pc : Int) + off = (tgt : Int)) (k : X tgt lv st h) : X pc lv (.int x :: st) h := by
  obtain ⟨p, e, s, m, args, below, meth, c, rfl, hx, hb, hml, hown, hts, hr, hlk, hK, hN, hI⟩ := cx
  intro ls H locs hl hP hS
  exact lv_tableIn hx hb hd h1 h2 ho ht (k ls H locs hl hP hS)
theorem jg_tableOut (cx : jg_C E l R own cc nL ret Ts Q X) {dflt lo hi : Int} {offs : Array Int} {len : Nat} {x : Int32} {tgt : Nat} (hd : decode cc pc = .ok (.tableswitch dflt lo hi offs, len)) (h1 : x.toInt < lo ∨ hi < x.toInt) (ht : (pc : Int) + dflt = (tgt : Int)) (k : X tgt lv st h) : X pc lv (.int x :: st) h := by
  obtain ⟨p, e, s, m, args, below, meth, c, rfl, hx, hb, hml, hown, hts, hr, hlk, hK, hN, hI⟩ := cx
  intro ls H locs hl hP hS
  exact lv_tableOut hx hb hd h1 ht (k ls H locs hl hP hS)
theorem jg_lookup (cx : jg_C E l R own cc nL ret Ts Q X) {dflt : Int} {ps : Array (Int × Int)} {len : Nat} {x : Int32} {off : Int} {tgt : Nat} (hd : decode cc pc = .ok (.lookupswitch dflt ps, len)) (hp : (ps.toList.zip (ps.toList.drop 1)).all (fun (a, next) => a.1 < next.1) = true) (ho : Op.lookupswitch.offset ps.toList dflt x.toInt = off) (ht : (pc : Int) + off = (tgt : Int)) (k : X tgt lv st h) : X pc lv (.int x :: st) h := by
  obtain ⟨p, e, s, m, args, below, meth, c, rfl, hx, hb, hml, hown, hts, hr, hlk, hK, hN, hI⟩ := cx
  intro ls H locs hl hP hS
  exact lv_lookup hx hb hd hp ho ht (k ls H locs hl hP hS)
/-- fewer locals -/
theorem jg_sub (cx : jg_C E l R own cc nL ret Ts Q X) {lv' : List (Nat × Value)} (ks : List Nat) (hk : lv_pick lv ks = lv') (k : X pc lv' st h) : X pc lv st h := by
  obtain ⟨p, e, s, m, args, below, meth, c, rfl, hx, hb, hml, hown, hts, hr, hlk, hK, hN, hI⟩ := cx
  intro ls H locs hl hP hS
  exact k ls H locs (lv_sub hl ks hk) hP hS
theorem jp_pl {E : jp_E} {h : jp_H} {b r : Nat} (hm : (b, r) ∈ jp_ix) : ∃ i : Nat, jp_ix[i]? = some (b, r) ∧ (jp_w E h)[i]? = some (E.2.1 b r, jp_c E h b r) := by
  obtain ⟨i, hi⟩ := List.getElem?_of_mem hm
  exact ⟨i, hi, jp_w_get hi⟩
theorem jg_iald (cx : jg_C E l R own cc nL ret Ts Q X) {b r n j : Nat} {x : Int32} (hd : decode cc pc = .ok (.iaload, 1)) (hz : jp_Zi b r n) (hxj : x = nI j) (hj : j < n) (k : X (pc + 1) lv (.int (h.1 b r j) :: st) h) : X pc lv (.int x :: .ref (E.2.1 b r) :: st) h := by
  obtain ⟨p, e, s, m, args, below, meth, c, rfl, hx, hb, hml, hown, hts, hr, hlk, hK, hN, hI⟩ := cx
  intro ls H locs hl hP hS
  obtain ⟨h31, hm, hc⟩ := hz
  obtain ⟨i, -, hi⟩ := jp_pl (E := E) (h := h) hm
  rw [hc] at hi
  subst hxj
  refine va_iald hx hb hK hP i 0 hi rfl (vp_in_nI hj h31) hd ?_
  rw [nI_clamp (by omega)]
  exact (k ls H locs hl hP hS)
theorem jg_zald (cx : jg_C E l R own cc nL ret Ts Q X) {b r n j : Nat} {x : Int32} (hd : decode cc pc = .ok (.baload, 1)) (hz : jp_Zz b r n) (hxj : x = nI j) (hj : j < n) (k : X (pc + 1) lv (.int (h.1 b r j) :: st) h) : X pc lv (.int x :: .ref (E.2.1 b r) :: st) h := by
  obtain ⟨p, e, s, m, args, below, meth, c, rfl, hx, hb, hml, hown, hts, hr, hlk, hK, hN, hI⟩ := cx
  intro ls H locs hl hP hS
  obtain ⟨h31, hm, hc⟩ := hz
  obtain ⟨i, -, hi⟩ := jp_pl (E := E) (h := h) hm
  rw [hc] at hi
  subst hxj
  refine va_zald hx hb hK hP i 2 hi rfl (vp_in_nI hj h31) hd ?_
  rw [nI_clamp (by omega)]
  exact (k ls H locs hl hP hS)
theorem jg_lald (cx : jg_C E l R own cc nL ret Ts Q X) {b r n j : Nat} {x : Int32} (hd : decode cc pc = .ok (.laload, 1)) (hz : jp_Zl b r n) (hxj : x = nI j) (hj : j < n) (k : X (pc + 1) lv (.long (h.2 b r j) :: st) h) : X pc lv (.int x :: .ref (E.2.1 b r) :: st) h := by
  obtain ⟨p, e, s, m, args, below, meth, c, rfl, hx, hb, hml, hown, hts, hr, hlk, hK, hN, hI⟩ := cx
  intro ls H locs hl hP hS
  obtain ⟨h31, hm, hc⟩ := hz
  obtain ⟨i, -, hi⟩ := jp_pl (E := E) (h := h) hm
  rw [hc] at hi
  subst hxj
  refine va_lald hx hb hK hP i 1 hi rfl (vp_in_nI hj h31) hd ?_
  rw [nI_clamp (by omega)]
  exact (k ls H locs hl hP hS)
theorem jg_iast (cx : jg_C E l R own cc nL ret Ts Q X) {b r n j : Nat} {x : Int32} {v : Int32} (hd : decode cc pc = .ok (.iastore, 1)) (hz : jp_Zi b r n) (hxj : x = nI j) (hj : j < n) (k : X (pc + 1) lv st (jp_s h b r j v)) : X pc lv (.int v :: .int x :: .ref (E.2.1 b r) :: st) h := by
  obtain ⟨p, e, s, m, args, below, meth, c, rfl, hx, hb, hml, hown, hts, hr, hlk, hK, hN, hI⟩ := cx
  intro ls H locs hl hP hS
  obtain ⟨h31, hm, hc⟩ := hz
  obtain ⟨i, hi0, hi⟩ := jp_pl (E := E) (h := h) hm
  rw [hc] at hi
  subst hxj
  refine va_iast hx hb hK hP (jp_D hI h) hS i 0 hi rfl (vp_in_nI hj h31) hd (fun H1 locs1 hP1 hD1 hS1 => ?_)
  rw [nI_clamp (by omega)] at hP1
  refine k ls H1 locs1 hl ?_ hS1
  rw [← jp_w_set (h := h) (h' := jp_s h b r j v) hi0 (hc E _) (fun b' r' hn => ?_) (fun b' r' hn => ?_)]
  · show va_P E.1 vwCl ((jp_w E h).set i (E.2.1 b r, _)) H1
    rw [show (jp_s h b r j v).1 b r = upd (h.1 b r) j v from jp_sr_1 h b r _]
    exact hP1
  · exact (jp_sr_n h _ hn).symm
  · rfl
theorem jg_last (cx : jg_C E l R own cc nL ret Ts Q X) {b r n j : Nat} {x : Int32} {v : Int64} (hd : decode cc pc = .ok (.lastore, 1)) (hz : jp_Zl b r n) (hxj : x = nI j) (hj : j < n) (k : X (pc + 1) lv st (jp_sL h b r j v)) : X pc lv (.long v :: .int x :: .ref (E.2.1 b r) :: st) h := by
  obtain ⟨p, e, s, m, args, below, meth, c, rfl, hx, hb, hml, hown, hts, hr, hlk, hK, hN, hI⟩ := cx
  intro ls H locs hl hP hS
  obtain ⟨h31, hm, hc⟩ := hz
  obtain ⟨i, hi0, hi⟩ := jp_pl (E := E) (h := h) hm
  rw [hc] at hi
  subst hxj
  refine va_last hx hb hK hP (jp_D hI h) hS i 1 hi rfl (vp_in_nI hj h31) hd (fun H1 locs1 hP1 hD1 hS1 => ?_)
  rw [nI_clamp (by omega)] at hP1
  refine k ls H1 locs1 hl ?_ hS1
  rw [← jp_w_set (h := h) (h' := jp_sL h b r j v) hi0 (hc E _) (fun b' r' hn => ?_) (fun b' r' hn => ?_)]
  · show va_P E.1 vwCl ((jp_w E h).set i (E.2.1 b r, _)) H1
    rw [show (jp_sL h b r j v).2 b r = vp_updL (h.2 b r) j v from jp_sl_1 h b r _]
    exact hP1
  · rfl
  · exact (jp_sl_n h _ hn).symm
theorem jg_zast (cx : jg_C E l R own cc nL ret Ts Q X) {b r n j : Nat} {x : Int32} {v : Bool} (hd : decode cc pc = .ok (.bastore, 1)) (hz : jp_Zz b r n) (hxj : x = nI j) (hj : j < n) (k : X (pc + 1) lv st (jp_s h b r j (jp_b v))) : X pc lv (.int (jp_b v) :: .int x :: .ref (E.2.1 b r) :: st) h := by
  obtain ⟨p, e, s, m, args, below, meth, c, rfl, hx, hb, hml, hown, hts, hr, hlk, hK, hN, hI⟩ := cx
  intro ls H locs hl hP hS
  obtain ⟨h31, hm, hc⟩ := hz
  obtain ⟨i, hi0, hi⟩ := jp_pl (E := E) (h := h) hm
  rw [hc] at hi
  subst hxj
  refine va_zast hx hb hK hP (jp_D hI h) hS i 2 hi rfl (vp_in_nI hj h31) hd (fun H1 locs1 hP1 hD1 hS1 => ?_)
  rw [nI_clamp (by omega)] at hP1
  rw [show vp_nar .boolean (jp_b v) = jp_b v by cases v <;> rfl] at hP1
  refine k ls H1 locs1 hl ?_ hS1
  rw [← jp_w_set (h := h) (h' := jp_s h b r j (jp_b v)) hi0 (hc E _) (fun b' r' hn => ?_) (fun b' r' hn => ?_)]
  · show va_P E.1 vwCl ((jp_w E h).set i (E.2.1 b r, _)) H1
    rw [show (jp_s h b r j (jp_b v)).1 b r = upd (h.1 b r) j (jp_b v) from jp_sr_1 h b r _]
    exact hP1
  · exact (jp_sr_n h _ hn).symm
  · rfl
theorem jg_get (cx : jg_C E l R own cc nL ret Ts Q X) {b ci N idx : Nat} {fs : jp_E → jp_H → List Value} {C : String} {T : u_T} (hz : jp_Zo b ci fs) (hcl : vwCl[ci]? = some (C, T, N)) (hin : ∀ w ∈ u_ws C T N, w ∈ Ts) (k : Nat) (hk : k < N) (hw : Cond.fieldLink own idx (T k).1 (T k).2.1 (T k).2.2.1 ∈ Ts) {v : Value} (hv : (fs E h)[k]? = some v) (hd : decode cc pc = .ok (.getfield idx, 3)) (kk : X (pc + 3) lv (v :: st) h) : X pc lv (.ref (E.2.1 b 0) :: st) h := by
  obtain ⟨p, e, s, m, args, below, meth, c, rfl, hx, hb, hml, hown, hts, hr, hlk, hK, hN, hI⟩ := cx
  intro ls H locs hl hP hS
  obtain ⟨hm, hc⟩ := hz
  obtain ⟨i, -, hi⟩ := jp_pl (E := E) (h := h) hm
  rw [hc] at hi
  exact va_get hx hb hts hin hown hK hP i hi hcl k hk (hts _ hw) (fun _ h9 => h9) hv hd (kk ls H locs hl hP hS)
theorem jg_getN (cx : jg_C E l R own cc nL ret Ts Q X) {b ci N idx : Nat} {fs : jp_E → jp_H → List Value} {C : String} {T : u_T} (hz : jp_Zo b ci fs) (hcl : vwCl[ci]? = some (C, T, N)) (hin : ∀ w ∈ u_ws C T N, w ∈ Ts) (k : Nat) (hk : k < N) (hw : (own, idx, (T k).1, (T k).2.1, (T k).2.2.1) ∈ jp_nF) {v : Value} (hv : (fs E h)[k]? = some v) (hd : decode cc pc = .ok (.getfield idx, 3)) (kk : X (pc + 3) lv (v :: st) h) : X pc lv (.ref (E.2.1 b 0) :: st) h := by
  obtain ⟨p, e, s, m, args, below, meth, c, rfl, hx, hb, hml, hown, hts, hr, hlk, hK, hN, hI⟩ := cx
  intro ls H locs hl hP hS
  obtain ⟨hm, hc⟩ := hz
  obtain ⟨i, -, hi⟩ := jp_pl (E := E) (h := h) hm
  rw [hc] at hi
  exact va_getN hx hb hts hin hown hK hP i hi hcl k hk (va_Nw.use rfl (hN.1 _ hw)) (fun _ h9 => h9) hv hd (kk ls H locs hl hP hS)
theorem jg_put (cx : jg_C E l R own cc nL ret Ts Q X) {b ci N idx : Nat} {fs : jp_E → jp_H → List Value} {C : String} {T : u_T} (hz : jp_Zo b ci fs) (hcl : vwCl[ci]? = some (C, T, N)) (hin : ∀ w ∈ u_ws C T N, w ∈ Ts) (ty0 : Nat → FieldType) (hty : ∀ k, k < N → parseFieldDescriptor (T k).2.2.1 = some (ty0 k)) (hnm : ∀ a, a < N → ∀ b, b < N → a ≠ b → (T a).2.1 ≠ (T b).2.1) (k : Nat) (hk : k < N) (hw : Cond.fieldLink own idx (T k).1 (T k).2.1 (T k).2.2.1 ∈ Ts) (hfin : (T k).2.2.2 = false) (hI9 : parseFieldDescriptor (T k).2.2.1 = some .int) {x : Int32} (hlen : k < (fs E h).length) (hset : fs E (jp_s h b 0 k x) = (fs E h).set k (.int x)) (hd : decode cc pc = .ok (.putfield idx, 3)) (kk : X (pc + 3) lv st (jp_s h b 0 k x)) : X pc lv (.int x :: .ref (E.2.1 b 0) :: st) h := by
  obtain ⟨p, e, s, m, args, below, meth, c, rfl, hx, hb, hml, hown, hts, hr, hlk, hK, hN, hI⟩ := cx
  intro ls H locs hl hP hS
  obtain ⟨hm, hc⟩ := hz
  obtain ⟨i, hi0, hi⟩ := jp_pl (E := E) (h := h) hm
  rw [hc] at hi
  refine va_put hx hb hts hin ty0 hty hnm hown hK hP (jp_D hI h) hS i hi hcl k hk (hts _ hw) (fun _ h9 => h9) hfin hI9 rfl rfl hlen hd (fun H1 locs1 hP1 hD1 hS1 => ?_)
  refine kk ls H1 locs1 hl ?_ hS1
  rw [← jp_w_set (h := h) (h' := jp_s h b 0 k x) hi0 ((hc E _).trans (by rw [hset])) (fun b' r' hn => (jp_sr_n h _ hn).symm) (fun b' r' hn => rfl)]
  exact hP1
theorem jg_putN (cx : jg_C E l R own cc nL ret Ts Q X) {b ci N idx : Nat} {fs : jp_E → jp_H → List Value} {C : String} {T : u_T} (hz : jp_Zo b ci fs) (hcl : vwCl[ci]? = some (C, T, N)) (hin : ∀ w ∈ u_ws C T N, w ∈ Ts) (ty0 : Nat → FieldType) (hty : ∀ k, k < N → parseFieldDescriptor (T k).2.2.1 = some (ty0 k)) (hnm : ∀ a, a < N → ∀ b, b < N → a ≠ b → (T a).2.1 ≠ (T b).2.1) (k : Nat) (hk : k < N) (hw : (own, idx, (T k).1, (T k).2.1, (T k).2.2.1) ∈ jp_nF) (hfin : (T k).2.2.2 = false) (hI9 : parseFieldDescriptor (T k).2.2.1 = some .int) {x : Int32} (hlen : k < (fs E h).length) (hset : fs E (jp_s h b 0 k x) = (fs E h).set k (.int x)) (hd : decode cc pc = .ok (.putfield idx, 3)) (kk : X (pc + 3) lv st (jp_s h b 0 k x)) : X pc lv (.int x :: .ref (E.2.1 b 0) :: st) h := by
  obtain ⟨p, e, s, m, args, below, meth, c, rfl, hx, hb, hml, hown, hts, hr, hlk, hK, hN, hI⟩ := cx
  intro ls H locs hl hP hS
  obtain ⟨hm, hc⟩ := hz
  obtain ⟨i, hi0, hi⟩ := jp_pl (E := E) (h := h) hm
  rw [hc] at hi
  refine va_putN hx hb hts hin ty0 hty hnm hown hK hP (jp_D hI h) hS i hi hcl k hk (va_Nw.use rfl (hN.1 _ hw)) (fun _ h9 => h9) hfin hI9 rfl rfl hlen hd (fun H1 locs1 hP1 hD1 hS1 => ?_)
  refine kk ls H1 locs1 hl ?_ hS1
  rw [← jp_w_set (h := h) (h' := jp_s h b 0 k x) hi0 ((hc E _).trans (by rw [hset])) (fun b' r' hn => (jp_sr_n h _ hn).symm) (fun b' r' hn => rfl)]
  exact hP1
theorem jg_iret (cx : jg_C E l R own cc nL (some .int) Ts Q X) {v : Int32} (hd : decode cc pc = .ok (.ireturn, 1)) (hq : Q (some (.int v)) h) : X pc lv [.int v] h := by
  obtain ⟨p, e, s, m, args, below, meth, c, rfl, hx, hb, hml, hown, hts, hr, hlk, hK, hN, hI⟩ := cx
  intro ls H locs hl hP hS
  exact W.iret hx hb hr (fun t ht hW => ⟨⟨_, h, rfl, hq, by rw [ht]; exact hP⟩, hS.F ht⟩) hS.2.2 hd hlk
theorem jg_bret (cx : jg_C E l R own cc nL (some .boolean) Ts Q X) {v : Bool} (hd : decode cc pc = .ok (.ireturn, 1)) (hq : Q (some (.int (jp_b v))) h) : X pc lv [.int (jp_b v)] h := by
  obtain ⟨p, e, s, m, args, below, meth, c, rfl, hx, hb, hml, hown, hts, hr, hlk, hK, hN, hI⟩ := cx
  intro ls H locs hl hP hS
  exact W.zret hx hb hr (by cases v <;> rfl) (fun t ht hW => ⟨⟨_, h, rfl, hq, by rw [ht]; exact hP⟩, hS.F ht⟩) hS.2.2 hd hlk
theorem jg_lret (cx : jg_C E l R own cc nL (some .long) Ts Q X) {v : Int64} (hd : decode cc pc = .ok (.lreturn, 1)) (hq : Q (some (.long v)) h) : X pc lv [.long v] h := by
  obtain ⟨p, e, s, m, args, below, meth, c, rfl, hx, hb, hml, hown, hts, hr, hlk, hK, hN, hI⟩ := cx
  intro ls H locs hl hP hS
  exact W.lret hx hb hr (fun t ht hW => ⟨⟨_, h, rfl, hq, by rw [ht]; exact hP⟩, hS.F ht⟩) hS.2.2 hd hlk
theorem jg_aret {C9 : String} (cx : jg_C E l R own cc nL (some (.object C9)) Ts Q X) {v : Nat} (hd : decode cc pc = .ok (.areturn, 1)) (hq : Q (some (.ref v)) h) : X pc lv [.ref v] h := by
  obtain ⟨p, e, s, m, args, below, meth, c, rfl, hx, hb, hml, hown, hts, hr, hlk, hK, hN, hI⟩ := cx
  intro ls H locs hl hP hS
  exact W.aret hx hb hr (Or.inl ⟨_, rfl⟩) (Or.inr ⟨_, rfl⟩) (fun t ht hW => ⟨⟨_, h, rfl, hq, by rw [ht]; exact hP⟩, hS.F ht⟩) hS.2.2 hd hlk
theorem jg_vret (cx : jg_C E l R own cc nL none Ts Q X) (hd : decode cc pc = .ok (.return_, 1)) (hq : Q none h) : X pc lv [] h := by
  obtain ⟨p, e, s, m, args, below, meth, c, rfl, hx, hb, hml, hown, hts, hr, hlk, hK, hN, hI⟩ := cx
  intro ls H locs hl hP hS
  exact W.vret hx hb hr (fun t ht hW => ⟨⟨_, h, rfl, hq, by rw [ht]; exact hP⟩, hS.F ht⟩) hS.2.2 hd hlk
end
