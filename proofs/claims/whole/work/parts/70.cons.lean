/-! ===== constructors: a world that grows ===== -/
abbrev jn_X : Type := Nat → List (Nat × Value) → List Value → va_W → Nat → Nat → Prop
def jn_T (q : ClassId × ClassId × ClassId) : List (ClassId × FieldType) := [(q.1, .int), (q.2.1, .long), (q.2.2, .boolean)]
def jn_C (G : va_G) (q : ClassId × ClassId × ClassId) (l : Launch) (R : Room) (own : String) (cc : ByteArray) (nL : Nat) (Ts : List Cond) (A : Nat → Prop) (Post : va_W → Prop) (mc ms : Nat) (X : jn_X) : Prop :=
  ∃ (p : Program) (e : Env) (s : State) (m : MethodId) (args : Array Value) (below : List Frame) (meth : Method) (c : Code) (Q : State → Prop),
    X = (fun pc lv st ws cells slots => ∀ (ls : Array Slot) (H : Heap) (locs : List Loc), lv_has ls nL lv → va_P G vwCl ws H → va_D A ws → va_S A s.heap H locs → W p l e R s m args below meth c H locs cells slots Q (F0 m pc ls st)) ∧
    p.tables.exec = Jvm.exec ∧ c.code = cc ∧ c.maxLocals = nL ∧ s.vm.findClass own = some m.cls ∧ (∀ w ∈ Ts, w.before args s = true) ∧ meth.name = "<init>" ∧ va_K G vwCl (jn_T q) s ∧ jp_N s ∧ (∀ a, s.heap.size ≤ a → A a) ∧
    ∀ (pc : Nat) (ls : Array Slot) (H : Heap) (locs : List Loc) (ws : va_W), va_P G vwCl ws H → va_D A ws → va_S A s.heap H locs → decode cc pc = .ok (.return_, 1) → Post ws → W p l e R s m args below meth c H locs mc ms Q (F0 m pc ls [])
def jn_Pre (G : va_G) (q : ClassId × ClassId × ClassId) (sz : Nat) (w0 : va_W) (U : State) : Prop := U.heap.size = sz ∧ va_P G vwCl w0 U.heap ∧ va_K G vwCl (jn_T q) U ∧ jp_N U ∧ va_D (fun _ => True) w0
def jn_B (G : va_G) (A : Nat → Prop) (w1 : va_W) (t : State) : Prop := va_P G vwCl w1 t.heap ∧ va_D A w1
/-- a constructor's contract: from the one cell w0 it makes the world w1 -/
def jn_M (G : va_G) (q : ClassId × ClassId × ClassId) (l : Launch) (y : MethodName) (ws : List Cond) (rm : Room) (a : Nat) (w0 : va_W) (Post : va_W → Prop) (mc ms : Nat) : Prop :=
  ∀ sz, Met l y ws rm (va_Pc [.ref a] (jn_Pre G q sz w0)) (va_Qv Post (jn_B G (va_A w0 sz)) (va_A w0 sz)) mc ms (va_A w0 sz)
theorem jn_of {G : va_G} {q : ClassId × ClassId × ClassId} {l : Launch} {y : MethodName} {ws ws' : List Cond} {rm : Room} {a : Nat} {w0 : va_W} {Post : va_W → Prop} {mc ms : Nat} {cc : ByteArray} {maxL : Nat} {own : String} (hp : plainName y.cls = true) (hw : ws = Cond.code y cc maxL none :: ws') (hown : y.cls = own) (hin : y.name = "<init>") (hlen : 1 ≤ maxL) (body : ∀ (A : Nat → Prop) (X : jn_X), jn_C G q l rm own cc maxL ws A Post mc ms X → X 0 [(0, .ref a)] [] w0 0 0) : jn_M G q l y ws rm a w0 Post mc ms := by
  intro sz
  refine Met.ofW (cc := cc) (maxL := maxL) (ret := none) hp hw ?_
  intro p e s m args below meth c s₁ B hml hv
  obtain ⟨rfl, hsz, hP, hK, hN, hD0⟩ := hv
  have hts := atoms_spec (ws := ws) B.pre
  have hown' : s.vm.findClass own = some m.cls := hown ▸ findClass_of_methodNamed B.named
  have hi : meth.name = "<init>" := (name_of_methodNamed B.named B.method).1.trans hin
  subst hsz
  have hD := hD0.self (sz := s.heap.size)
  have hA : ∀ q : Nat, s.heap.size ≤ q → va_A w0 s.heap.size q := fun q h => Or.inr h
  have hl := lv_entry ([.ref a]) (n := maxL) hlen
  rw [lg_entry_eq]
  generalize (lg_sl ([.ref a]) ++ List.replicate (maxL - (lg_sl ([.ref a])).length) Slot.unset).toArray = ls at hl ⊢
  have hl : lv_has ls maxL [(0, .ref a)] := hl
  have hr := B.returns
  have hlk := B.notSynchronized
  refine body (va_A w0 s.heap.size) _ ⟨p, e, s, m, _, below, meth, c, _, rfl, B.exec, B.bytes, hml, hown', hts, hi, hK, hN, hA, ?_⟩ ls s.heap [] hl hP hD va_S.rf
  intro pc ls H locs ws1 hP1 hD1 hS1 hd hpost
  exact W.vret B.exec B.bytes hr (fun t ht hW => ⟨⟨ws1, rfl, hpost, by rw [ht]; exact hP1, hD1⟩, hS1.F ht⟩) hS1.2.2 hd hlk
section
variable {G : va_G} {q : ClassId × ClassId × ClassId} {l : Launch} {R : Room} {own : String} {cc : ByteArray} {nL : Nat} {Ts : List Cond} {A : Nat → Prop} {Post : va_W → Prop} {mc ms : Nat} {X : jn_X} {pc : Nat} {lv : List (Nat × Value)} {st : List Value} {ws : va_W} {cells slots : Nat}
theorem jn_ret (cx : jn_C G q l R own cc nL Ts A Post mc ms X) (hd : decode cc pc = .ok (.return_, 1)) (hq : Post ws) : X pc lv [] ws mc ms := by
  obtain ⟨p, e, s, m, args, below, meth, c, Q, rfl, hx, hb, hml, hown, hts, hin, hK, hN, hA, hret⟩ := cx
  intro ls H locs hl hP hD hS
  exact hret pc ls H locs ws hP hD hS hd hq
theorem jn_aload_n (cx : jn_C G q l R own cc nL Ts A Post mc ms X) {i : Fin 4} {x : Nat} (hd : decode cc pc = .ok (.aload_n i, 1)) (hv : jp_lk lv i.val = some (.ref x)) (k : X (pc + 1) lv (.ref x :: st) ws cells slots) : X pc lv st ws cells slots := by
  obtain ⟨p, e, s, m, args, below, meth, c, Q, rfl, hx, hb, hml, hown, hts, hin, hK, hN, hA, hret⟩ := cx
  intro ls H locs hl hP hD hS
  exact lv_aload_n hx hb hd rfl (jp_lk_at hl hv) (k ls H locs hl hP hD hS)
theorem jn_iload_n (cx : jn_C G q l R own cc nL Ts A Post mc ms X) {i : Fin 4} {x : Int32} (hd : decode cc pc = .ok (.iload_n i, 1)) (hv : jp_lk lv i.val = some (.int x)) (k : X (pc + 1) lv (.int x :: st) ws cells slots) : X pc lv st ws cells slots := by
  obtain ⟨p, e, s, m, args, below, meth, c, Q, rfl, hx, hb, hml, hown, hts, hin, hK, hN, hA, hret⟩ := cx
  intro ls H locs hl hP hD hS
  exact lv_iload_n hx hb hd rfl (jp_lk_at hl hv) (k ls H locs hl hP hD hS)
theorem jn_istore_n (cx : jn_C G q l R own cc nL Ts A Post mc ms X) {i : Fin 4} {x : Int32} {lv' : List (Nat × Value)} (hd : decode cc pc = .ok (.istore_n i, 1)) (hn : i.val < nL) (hl' : jp_l1 lv i.val (.int x) = lv') (k : X (pc + 1) lv' st ws cells slots) : X pc lv (.int x :: st) ws cells slots := by
  obtain ⟨p, e, s, m, args, below, meth, c, Q, rfl, hx, hb, hml, hown, hts, hin, hK, hN, hA, hret⟩ := cx
  intro ls H locs hl hP hD hS
  exact lv_istore_n hx hb hd rfl hl hn rfl (fun ls' h' => k ls' H locs (hl' ▸ jp_has h') hP hD hS)
theorem jn_iincN (cx : jn_C G q l R own cc nL Ts A Post mc ms X) {i j d : Nat} {n : Int} {lv' : List (Nat × Value)} (hd : decode cc pc = .ok (.iinc i n, 3)) (hv : jp_lk lv i = some (.int (nI j))) (hnd : Int32.ofInt n = nI d) (hn : i < nL) (hl' : jp_l1 lv i (.int (nI (j + d))) = lv') (k : X (pc + 3) lv' st ws cells slots) : X pc lv st ws cells slots := by
  obtain ⟨p, e, s, m, args, below, meth, c, Q, rfl, hx, hb, hml, hown, hts, hin, hK, hN, hA, hret⟩ := cx
  intro ls H locs hl hP hD hS
  obtain ⟨t, ht⟩ := List.getElem?_of_mem (jp_lk_mem hv)
  exact lv_iinc (v := nI (j + d)) hx hb hd hl ht (by rw [hnd, nI_add]) hn rfl (fun ls' h' => k ls' H locs (hl' ▸ jp_has h') hP hD hS)
theorem jn_iconst (cx : jn_C G q l R own cc nL Ts A Post mc ms X) {n : Int} {v : Int32} (hd : decode cc pc = .ok (.iconst n, 1)) (hv : Int32.ofInt n = v) (k : X (pc + 1) lv (.int v :: st) ws cells slots) : X pc lv st ws cells slots := by
  obtain ⟨p, e, s, m, args, below, meth, c, Q, rfl, hx, hb, hml, hown, hts, hin, hK, hN, hA, hret⟩ := cx
  intro ls H locs hl hP hD hS
  exact lv_iconst hx hb hd hv (k ls H locs hl hP hD hS)
theorem jn_bipush (cx : jn_C G q l R own cc nL Ts A Post mc ms X) {n : Int} {v : Int32} (hd : decode cc pc = .ok (.bipush n, 2)) (hv : (Int8.ofInt n).toInt32 = v) (k : X (pc + 2) lv (.int v :: st) ws cells slots) : X pc lv st ws cells slots := by
  obtain ⟨p, e, s, m, args, below, meth, c, Q, rfl, hx, hb, hml, hown, hts, hin, hK, hN, hA, hret⟩ := cx
  intro ls H locs hl hP hD hS
  exact lv_bipush hx hb hd hv (k ls H locs hl hP hD hS)
theorem jn_sipush (cx : jn_C G q l R own cc nL Ts A Post mc ms X) {n : Int} {v : Int32} (hd : decode cc pc = .ok (.sipush n, 3)) (hv : (Int16.ofInt n).toInt32 = v) (k : X (pc + 3) lv (.int v :: st) ws cells slots) : X pc lv st ws cells slots := by
  obtain ⟨p, e, s, m, args, below, meth, c, Q, rfl, hx, hb, hml, hown, hts, hin, hK, hN, hA, hret⟩ := cx
  intro ls H locs hl hP hD hS
  exact lv_sipush hx hb hd hv (k ls H locs hl hP hD hS)
theorem jn_dup (cx : jn_C G q l R own cc nL Ts A Post mc ms X) {v : Value} (hd : decode cc pc = .ok (.dup, 1)) (hv : v.category = 1) (k : X (pc + 1) lv (v :: v :: st) ws cells slots) : X pc lv (v :: st) ws cells slots := by
  obtain ⟨p, e, s, m, args, below, meth, c, Q, rfl, hx, hb, hml, hown, hts, hin, hK, hN, hA, hret⟩ := cx
  intro ls H locs hl hP hD hS
  exact lv_dup hx hb hd hv (k ls H locs hl hP hD hS)
theorem jn_iaddN (cx : jn_C G q l R own cc nL Ts A Post mc ms X) {a b : Nat} (hd : decode cc pc = .ok (.iadd, 1)) (k : X (pc + 1) lv (.int (nI (a + b)) :: st) ws cells slots) : X pc lv (.int (nI b) :: .int (nI a) :: st) ws cells slots := by
  obtain ⟨p, e, s, m, args, below, meth, c, Q, rfl, hx, hb, hml, hown, hts, hin, hK, hN, hA, hret⟩ := cx
  intro ls H locs hl hP hD hS
  exact lv_iadd hx hb hd (by rw [nI_add]; exact k ls H locs hl hP hD hS)
theorem jn_goto (cx : jn_C G q l R own cc nL Ts A Post mc ms X) {off : Int} {tgt : Nat} (hd : decode cc pc = .ok (.goto off, 3)) (ht : (pc : Int) + off = (tgt : Int)) (k : X tgt lv st ws cells slots) : X pc lv st ws cells slots := by
  obtain ⟨p, e, s, m, args, below, meth, c, Q, rfl, hx, hb, hml, hown, hts, hin, hK, hN, hA, hret⟩ := cx
  intro ls H locs hl hP hD hS
  exact lv_goto hx hb hd ht (k ls H locs hl hP hD hS)
theorem jn_icmpN_ge (cx : jn_C G q l R own cc nL Ts A Post mc ms X) {a b : Nat} {off : Int} {tgt : Nat} (hd : decode cc pc = .ok (.if_icmp .ge off, 3)) (ht : (pc : Int) + off = (tgt : Int)) (ha : a < 2 ^ 31) (hb2 : b < 2 ^ 31) (kt : b ≤ a → X tgt lv st ws cells slots) (kf : a < b → X (pc + 3) lv st ws cells slots) : X pc lv (.int (nI b) :: .int (nI a) :: st) ws cells slots := by
  obtain ⟨p, e, s, m, args, below, meth, c, Q, rfl, hx, hb, hml, hown, hts, hin, hK, hN, hA, hret⟩ := cx
  intro ls H locs hl hP hD hS
  exact lv_icmp_ge hx hb hd ht (fun c9 => kt ((nI_leI hb2 ha).mp c9) ls H locs hl hP hD hS) (fun c9 => kf (Nat.lt_of_not_le (fun z => c9 ((nI_leI hb2 ha).mpr z))) ls H locs hl hP hD hS)
theorem jn_objInit (cx : jn_C G q l R own cc nL Ts A Post mc ms X) {idx x : Nat} (h1 : Cond.methodLink own idx objectInit ∈ Ts) (h2 : Cond.instanceMethod objectInit ∈ Ts) (h3 : Cond.code objectInit ⟨#[0xb1]⟩ 1 none ∈ Ts) (hf : 1 ≤ R.frames) (hlo : (st.map fun v => v.category).sum + 12 ≤ R.locals) (hd : decode cc pc = .ok (.invokespecial idx, 3)) (k : X (pc + 3) lv st ws cells slots) : X pc lv (.ref x :: st) ws cells slots := by
  obtain ⟨p, e, s, m, args, below, meth, c, Q, rfl, hx, hb, hml, hown, hts, hin, hK, hN, hA, hret⟩ := cx
  intro ls H locs hl hP hD hS
  exact W.objInit hx hb hown (hts _ h1) (hts _ h2) (hts _ h3) rfl (by rw [hml]; exact hl.1) rfl hd hf (show 2 * 0 + (st.map fun v => v.category).sum + 12 ≤ R.locals by omega) (k ls H locs hl hP hD hS)
theorem jn_newi (cx : jn_C G q l R own cc nL Ts A Post mc ms X) {n : Nat} (hd : decode cc pc = .ok (.newarray .int, 2)) (harr : Cond.arrayClass .int ∈ Ts) (hn : n < 2 ^ 31) (hby : n * componentBytes .int ≤ 536870912) (hc : cells + 1 ≤ R.cells) (hs : slots + n ≤ R.slots) (k : ∀ a : Nat, X (pc + 2) lv (.ref a :: st) (ws ++ [(a, .inl (q.1, n, .inl (fun _ => 0)))]) (cells + 1) (slots + n)) : X pc lv (.int (nI n) :: st) ws cells slots := by
  obtain ⟨p, e, s, m, args, below, meth, c, Q, rfl, hx, hb, hml, hown, hts, hin, hK, hN, hA, hret⟩ := cx
  intro ls H locs hl hP hD hS
  refine va_newa (atype := .int) (ty := .int) (a0 := (n, .inl (fun _ => 0))) hx hb (hts _ harr) rfl hK hP hD hS hA (fun cA => rfl) (nI_pos hn) (nI_clamp hn) hby hc hs hd (fun a cA H1 hK1 hP1 hD1 hS1 => ?_)
  have e : cA = q.1 := Option.some.inj ((hK1.2 3 (cA, .int) rfl).2.symm.trans (hK.2 0 (q.1, .int) rfl).2)
  rw [e] at hP1 hD1
  exact k a ls H1 locs hl hP1 hD1 hS1
theorem jn_newl (cx : jn_C G q l R own cc nL Ts A Post mc ms X) {n : Nat} (hd : decode cc pc = .ok (.newarray .long, 2)) (harr : Cond.arrayClass .long ∈ Ts) (hn : n < 2 ^ 31) (hby : n * componentBytes .long ≤ 536870912) (hc : cells + 1 ≤ R.cells) (hs : slots + n ≤ R.slots) (k : ∀ a : Nat, X (pc + 2) lv (.ref a :: st) (ws ++ [(a, .inl (q.2.1, n, .inr (.inl (fun _ => 0))))]) (cells + 1) (slots + n)) : X pc lv (.int (nI n) :: st) ws cells slots := by
  obtain ⟨p, e, s, m, args, below, meth, c, Q, rfl, hx, hb, hml, hown, hts, hin, hK, hN, hA, hret⟩ := cx
  intro ls H locs hl hP hD hS
  refine va_newa (atype := .long) (ty := .long) (a0 := (n, .inr (.inl (fun _ => 0)))) hx hb (hts _ harr) rfl hK hP hD hS hA (fun cA => rfl) (nI_pos hn) (nI_clamp hn) hby hc hs hd (fun a cA H1 hK1 hP1 hD1 hS1 => ?_)
  have e : cA = q.2.1 := Option.some.inj ((hK1.2 3 (cA, .long) rfl).2.symm.trans (hK.2 1 (q.2.1, .long) rfl).2)
  rw [e] at hP1 hD1
  exact k a ls H1 locs hl hP1 hD1 hS1
theorem jn_newz (cx : jn_C G q l R own cc nL Ts A Post mc ms X) {n : Nat} (hd : decode cc pc = .ok (.newarray .boolean, 2)) (harr : Cond.arrayClass .boolean ∈ Ts) (hn : n < 2 ^ 31) (hby : n * componentBytes .boolean ≤ 536870912) (hc : cells + 1 ≤ R.cells) (hs : slots + n ≤ R.slots) (k : ∀ a : Nat, X (pc + 2) lv (.ref a :: st) (ws ++ [(a, .inl (q.2.2, n, .inl (fun _ => 0)))]) (cells + 1) (slots + n)) : X pc lv (.int (nI n) :: st) ws cells slots := by
  obtain ⟨p, e, s, m, args, below, meth, c, Q, rfl, hx, hb, hml, hown, hts, hin, hK, hN, hA, hret⟩ := cx
  intro ls H locs hl hP hD hS
  refine va_newa (atype := .boolean) (ty := .boolean) (a0 := (n, .inl (fun _ => 0))) hx hb (hts _ harr) rfl hK hP hD hS hA (fun cA => rfl) (nI_pos hn) (nI_clamp hn) hby hc hs hd (fun a cA H1 hK1 hP1 hD1 hS1 => ?_)
  have e : cA = q.2.2 := Option.some.inj ((hK1.2 3 (cA, .boolean) rfl).2.symm.trans (hK.2 2 (q.2.2, .boolean) rfl).2)
  rw [e] at hP1 hD1
  exact k a ls H1 locs hl hP1 hD1 hS1
theorem jn_putF (cx : jn_C G q l R own cc nL Ts A Post mc ms X) (q0 : Nat) {a ci N idx : Nat} {fs : List Value} {C : String} {T : u_T} (he : ws[q0]? = some (a, .inr (ci, fs))) (hcl : vwCl[ci]? = some (C, T, N)) (hinw : ∀ w ∈ u_ws C T N, w ∈ Ts) (ty0 : Nat → FieldType) (hty : ∀ k, k < N → parseFieldDescriptor (T k).2.2.1 = some (ty0 k)) (hnm : ∀ a, a < N → ∀ b, b < N → a ≠ b → (T a).2.1 ≠ (T b).2.1) (k : Nat) (hk : k < N) (hw : Cond.fieldLink own idx (T k).1 (T k).2.1 (T k).2.2.1 ∈ Ts) (hfin : (T k).2.2.2 = true) (hdecl : (T k).1 = own) {ty : FieldType} {v : Value} (hd9 : parseFieldDescriptor (T k).2.2.1 = some ty) (hn9 : narrow ty v = v) (hfit : fits ty v = true) (hl9 : k < fs.length) {ws' : va_W} (hset : ws.set q0 (a, .inr (ci, fs.set k v)) = ws') (hd : decode cc pc = .ok (.putfield idx, 3)) (kk : X (pc + 3) lv st ws' cells slots) : X pc lv (v :: .ref a :: st) ws cells slots := by
  obtain ⟨p, e, s, m, args, below, meth, c, Q, rfl, hx, hb, hml, hown, hts, hin, hK, hN, hA, hret⟩ := cx
  intro ls H locs hl hP hD hS
  subst hset
  exact va_putF hx hb hts hinw ty0 hty hnm hown hK hP hD hS q0 he hcl k hk (hts _ hw) (fun _ h9 => h9) hfin hin hdecl hd9 hn9 hfit hl9 hd (fun H1 locs1 hP1 hD1 hS1 => kk ls H1 locs1 hl hP1 hD1 hS1)
theorem jn_put (cx : jn_C G q l R own cc nL Ts A Post mc ms X) (q0 : Nat) {a ci N idx : Nat} {fs : List Value} {C : String} {T : u_T} (he : ws[q0]? = some (a, .inr (ci, fs))) (hcl : vwCl[ci]? = some (C, T, N)) (hinw : ∀ w ∈ u_ws C T N, w ∈ Ts) (ty0 : Nat → FieldType) (hty : ∀ k, k < N → parseFieldDescriptor (T k).2.2.1 = some (ty0 k)) (hnm : ∀ a, a < N → ∀ b, b < N → a ≠ b → (T a).2.1 ≠ (T b).2.1) (k : Nat) (hk : k < N) (hw : Cond.fieldLink own idx (T k).1 (T k).2.1 (T k).2.2.1 ∈ Ts) (hfin : (T k).2.2.2 = false) {x : Int32} (hd9 : parseFieldDescriptor (T k).2.2.1 = some .int) (hl9 : k < fs.length) {ws' : va_W} (hset : ws.set q0 (a, .inr (ci, fs.set k (.int x))) = ws') (hd : decode cc pc = .ok (.putfield idx, 3)) (kk : X (pc + 3) lv st ws' cells slots) : X pc lv (.int x :: .ref a :: st) ws cells slots := by
  obtain ⟨p, e, s, m, args, below, meth, c, Q, rfl, hx, hb, hml, hown, hts, hin, hK, hN, hA, hret⟩ := cx
  intro ls H locs hl hP hD hS
  subst hset
  exact va_put hx hb hts hinw ty0 hty hnm hown hK hP hD hS q0 he hcl k hk (hts _ hw) (fun _ h9 => h9) hfin hd9 rfl rfl hl9 hd (fun H1 locs1 hP1 hD1 hS1 => kk ls H1 locs1 hl hP1 hD1 hS1)
theorem jn_get (cx : jn_C G q l R own cc nL Ts A Post mc ms X) (q0 : Nat) {a ci N idx : Nat} {fs : List Value} {C : String} {T : u_T} (he : ws[q0]? = some (a, .inr (ci, fs))) (hcl : vwCl[ci]? = some (C, T, N)) (hinw : ∀ w ∈ u_ws C T N, w ∈ Ts) (k : Nat) (hk : k < N) (hw : Cond.fieldLink own idx (T k).1 (T k).2.1 (T k).2.2.1 ∈ Ts) {v : Value} (hv : fs[k]? = some v) (hd : decode cc pc = .ok (.getfield idx, 3)) (kk : X (pc + 3) lv (v :: st) ws cells slots) : X pc lv (.ref a :: st) ws cells slots := by
  obtain ⟨p, e, s, m, args, below, meth, c, Q, rfl, hx, hb, hml, hown, hts, hin, hK, hN, hA, hret⟩ := cx
  intro ls H locs hl hP hD hS
  exact va_get hx hb hts hinw hown hK hP q0 he hcl k hk (hts _ hw) (fun _ h9 => h9) hv hd (kk ls H locs hl hP hD hS)
theorem jn_iast (cx : jn_C G q l R own cc nL Ts A Post mc ms X) (q0 : Nat) {a n j : Nat} {f : Nat → Int32} {v : Int32} (he : ws[q0]? = some (a, .inl (q.1, n, .inl f))) (hj : j < n) (hn : n < 2 ^ 31) {ws' : va_W} (hset : ws.set q0 (a, .inl (q.1, n, .inl (upd f j v))) = ws') (hd : decode cc pc = .ok (.iastore, 1)) (k : X (pc + 1) lv st ws' cells slots) : X pc lv (.int v :: .int (nI j) :: .ref a :: st) ws cells slots := by
  obtain ⟨p, e, s, m, args, below, meth, c, Q, rfl, hx, hb, hml, hown, hts, hin, hK, hN, hA, hret⟩ := cx
  intro ls H locs hl hP hD hS
  subst hset
  refine va_iast hx hb hK hP hD hS q0 0 he rfl (vp_in_nI hj hn) hd (fun H1 locs1 hP1 hD1 hS1 => ?_)
  rw [nI_clamp (by omega)] at hP1 hD1
  exact k ls H1 locs1 hl hP1 hD1 hS1
theorem jn_new (cx : jn_C G q l R own cc nL Ts A Post mc ms X) {ci N idx : Nat} (fs : List Value) {C : String} {T : u_T} (hcl : vwCl[ci]? = some (C, T, N)) (hinw : ∀ w ∈ u_ws C T N, w ∈ Ts) (ty0 : Nat → FieldType) (hty : ∀ k, k < N → parseFieldDescriptor (T k).2.2.1 = some (ty0 k)) (h1 : Cond.classLink own idx C ∈ Ts) (h2 : Cond.instantiable C N ∈ Ts) (h3 : Cond.initialized C ∈ Ts) (hfs : ∀ j, j < N → defaultValue (ty0 j) = vp_V fs j) (hc : cells + 1 ≤ R.cells) (hs : slots + N ≤ R.slots) (hd : decode cc pc = .ok (.new idx, 3)) (k : ∀ a : Nat, X (pc + 3) lv (.ref a :: st) (ws ++ [(a, .inr (ci, fs))]) (cells + 1) (slots + N)) : X pc lv st ws cells slots := by
  obtain ⟨p, e, s, m, args, below, meth, c, Q, rfl, hx, hb, hml, hown, hts, hin, hK, hN, hA, hret⟩ := cx
  intro ls H locs hl hP hD hS
  exact va_new (ci := ci) (fs := fs) hx hb hts hinw ty0 hty hown (hts _ h1) (hts _ h2) (hts _ h3) hK hP hD hS hA hcl hfs hc hs hd (fun a H1 hP1 hD1 hS1 => k a ls H1 locs hl hP1 hD1 hS1)
end
theorem jn_last {α : Type} (wr : List α) (x : α) : (wr ++ [x])[wr.length]? = some x := by simp
theorem jn_first {α : Type} (wr : List α) (x : α) : (List.range wr.length).map (fun i => (wr ++ [x])[i]?) = wr.map some := by
  apply List.ext_getElem?
  intro i
  rw [List.getElem?_map, List.getElem?_map]
  by_cases h : i < wr.length
  · rw [List.getElem?_range h]
    simp [List.getElem?_append_left h, List.getElem?_eq_getElem h]
  · rw [List.getElem?_eq_none (by simpa using h), List.getElem?_eq_none (by omega)]
    rfl
theorem jn_nd : ∀ (l : List Nat), l.Nodup → va_nd l = true
  | [], _ => rfl
  | a :: l, h => by
    obtain ⟨h1, h2⟩ := List.nodup_cons.mp h
    unfold va_nd
    rw [jn_nd l h2]
    simp [h1]
theorem jn_one {a : Nat} {x : va_E} : va_D (fun _ => True) [(a, x)] := by
  refine ⟨fun i j p q hi hj _ => ?_, fun _ _ _ => trivial⟩
  have h1 : i < 1 := (List.getElem?_eq_some_iff.mp hi).1
  have h2 : j < 1 := (List.getElem?_eq_some_iff.mp hj).1
  omega
/-- behind a constructor's call: the last cell has become a world -/
theorem jn_join {G : va_G} {A : Nat → Prop} {wr w1 : va_W} {a : Nat} {x : va_E} {H H1 : Heap} (hP : va_P G vwCl (wr ++ [(a, x)]) H) (hD : va_D A (wr ++ [(a, x)])) (hk : ∀ q : Nat, q < H.size → ¬ va_A [(a, x)] H.size q → H1[q]? = H[q]?) (hF : ∀ q, va_A [(a, x)] H.size q → A q) (hP1 : va_P G vwCl w1 H1) (hD1 : va_D (va_A [(a, x)] H.size) w1) : va_P G vwCl (wr ++ w1) H1 ∧ va_D A (wr ++ w1) :=
  va_join (wc := [(a, x)]) (wr := wr) (w1 := w1) hP hD [wr.length] (List.range wr.length) (by simp) (jn_first wr (a, x)) (jn_nd _ List.nodup_range) (fun i hi => by
    have := List.mem_range.mp hi
    simp
    omega) hk hF hP1 hD1
theorem jn_free {A : Nat → Prop} {wr : va_W} {a : Nat} {x : va_E} {H0 H : Heap} {locs : List Loc} (hD : va_D A (wr ++ [(a, x)])) (hS : va_S A H0 H locs) (hA : ∀ q, H0.size ≤ q → A q) : ∀ q, va_A [(a, x)] H.size q → A q := va_free (wc := [(a, x)]) hD hS hA [wr.length] (by simp)
theorem jn_blind {G : va_G} {q : ClassId × ClassId × ClassId} {sz : Nat} {w0 : va_W} {as : List Value} : FrameBlind (va_Pc as (jn_Pre G q sz w0)) := fun a U g mk z => by
  obtain ⟨q0, q1, qP, qK, qN, qD⟩ := z
  exact ⟨q0, q1, qP, va_K.moved (u := U) (U := U.calling g mk a) (Vm.Alike.refl U.vm) qK, qN.same rfl, qD⟩
theorem jn_call {G : va_G} {q : ClassId × ClassId × ClassId} {l : Launch} {R : Room} {own : String} {cc : ByteArray} {nL : Nat} {Ts : List Cond} {A : Nat → Prop} {Post : va_W → Prop} {mc ms : Nat} {X : jn_X} {pc : Nat} {lv : List (Nat × Value)} {st : List Value} {wr : va_W} {cells slots : Nat} {y : MethodName} {ws ws' : List Cond} {rm : Room} {bytes : ByteArray} {maxL idx a mc1 ms1 : Nat} {x : va_E} {Post1 : va_W → Prop} (cx : jn_C G q l R own cc nL Ts A Post mc ms X) (hM : jn_M G q l y ws rm a [(a, x)] Post1 mc1 ms1) (hg : GoodIn Ts ws) (hnl : (own, idx, y) ∈ jp_nM) (hi9 : Cond.initialized y.cls ∈ Ts) (hi8 : Cond.instanceMethod y ∈ Ts) (hw : ws = Cond.code y bytes maxL none :: ws') (hrm : rm.cells = mc1 ∧ rm.slots = ms1) (hR : rm.frames + 1 ≤ R.frames ∧ 8 + (maxL + 11) + rm.locals ≤ R.locals) (hy : y.cls ≠ "java/lang/invoke/MethodHandle" ∧ y.cls ≠ "java/lang/invoke/VarHandle" ∧ (parseMethodDescriptor y.desc).map (fun d => d.parameters.length) = some 0) (hyn : y.name = "<init>") (hcat : (st.map fun v => v.category).sum ≤ 8) (hcs : cells + mc1 ≤ R.cells ∧ slots + ms1 ≤ R.slots) (hd : decode cc pc = .ok (.invokespecial idx, 3)) (k : ∀ w1, Post1 w1 → X (pc + 3) lv st (wr ++ w1) (cells + mc1) (slots + ms1)) : X pc lv (.ref a :: st) (wr ++ [(a, x)]) cells slots := by
  obtain ⟨p, e, s, m, args, below, meth, c, Q, rfl, hx, hb, hml, hown, hts, hin, hK, hN, hA, hret⟩ := cx
  intro ls H locs hl hP hD hS
  have hPc : va_P G vwCl [(a, x)] H := hP.sub (ws' := [(a, x)]) [wr.length] (by simp)
  have hFc := jn_free hD hS hA
  refine va_callv (va_runIN (As := []) (rest := st) ⟨hx, hb, hml, hown, hts⟩ (hM H.size) ⟨va_cnB 0 hts hg hw hrm.1 hrm.2 (hN.2 _ hnl) (hts _ hi9) hy hR, hyn, hts _ hi8⟩ ⟨jn_blind, fun U hU hW => ⟨rfl, by rw [hU], by rw [hU]; exact hPc, va_K.moved hW.alike hK, hN.warm hW, jn_one⟩⟩ rfl rfl hl.1 rfl (lv_room hcat) hd hcs) hS (fun q _ h => hFc q h) hFc (fun w1 t H1 locs1 ht hvm hw1 hB hz1 hk1 hS1 => ?_)
  obtain ⟨hP1, hD1⟩ := hB
  rw [ht] at hP1
  obtain ⟨hP2, hD2⟩ := jn_join hP hD hk1 hFc hP1 hD1
  exact k w1 hw1 ls H1 locs1 hl hP2 hD2 hS1
