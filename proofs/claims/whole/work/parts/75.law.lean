/-! ===== the law's own judgement, a row an instruction ===== -/
def jv_C (E : jp_E) (l : Launch) (b L : Nat) (xs : Nat → Int32) (X : jp_X) : Prop :=
  ∃ (p : Program) (e : Env) (s : State) (m : MethodId) (below : List Frame) (meth : Method) (c : Code),
    X = (fun pc lv st h => ∀ (ls : Array Slot) (H : Heap) (locs : List Loc), lv_has ls 4 lv → va_P E.1 vwCl (jp_w E h) H → va_S (fun q : Nat => s.heap.size ≤ q) s.heap H locs → W p l e room_1 s m #[Value.ref b] below meth c H locs 54 26022 (lw_Z below #[Value.ref b] s) (F0 m pc ls st)) ∧
    p.tables.exec = Jvm.exec ∧ c.code = cL_law ∧ c.maxLocals = 4 ∧ s.vm.findClass RL = some m.cls ∧ (∀ w ∈ wsL_law, w.before #[Value.ref b] s = true) ∧ meth.sig.returnType = ret ∧ meth.locks = false ∧ va_K E.1 vwCl (jp_T E) s ∧ jp_N s ∧ jp_I E ∧ (∀ q, jp_A E q → s.heap.size ≤ q) ∧ va_X b L xs s s.heap ∧ b < s.heap.size
section
variable {E : jp_E} {l : Launch} {b L : Nat} {xs : Nat → Int32} {X : jp_X} {pc : Nat} {lv : List (Nat × Value)} {st : List Value} {h : jp_H}
theorem jv_aload_n (cx : jv_C E l b L xs X) {i : Fin 4} {x : Nat} (hd : decode cL_law pc = .ok (.aload_n i, 1)) (hv : jp_lk lv i.val = some (.ref x)) (k : X (pc + 1) lv (.ref x :: st) h) : X pc lv st h := by
  obtain ⟨p, e, s, m, below, meth, c, rfl, hx, hb, hml, hown, hts, hr, hlk, hK, hN, hI, hA, hX, hbl⟩ := cx
  intro ls H locs hl hP hS
  exact lv_aload_n hx hb hd rfl (jp_lk_at hl hv) (k ls H locs hl hP hS)
theorem jv_iload_n (cx : jv_C E l b L xs X) {i : Fin 4} {x : Int32} (hd : decode cL_law pc = .ok (.iload_n i, 1)) (hv : jp_lk lv i.val = some (.int x)) (k : X (pc + 1) lv (.int x :: st) h) : X pc lv st h := by
  obtain ⟨p, e, s, m, below, meth, c, rfl, hx, hb, hml, hown, hts, hr, hlk, hK, hN, hI, hA, hX, hbl⟩ := cx
  intro ls H locs hl hP hS
  exact lv_iload_n hx hb hd rfl (jp_lk_at hl hv) (k ls H locs hl hP hS)
theorem jv_iconst (cx : jv_C E l b L xs X) {n : Int} {v : Int32} (hd : decode cL_law pc = .ok (.iconst n, 1)) (hv : Int32.ofInt n = v) (k : X (pc + 1) lv (.int v :: st) h) : X pc lv st h := by
  obtain ⟨p, e, s, m, below, meth, c, rfl, hx, hb, hml, hown, hts, hr, hlk, hK, hN, hI, hA, hX, hbl⟩ := cx
  intro ls H locs hl hP hS
  exact lv_iconst hx hb hd hv (k ls H locs hl hP hS)
theorem jv_bipush (cx : jv_C E l b L xs X) {n : Int} {v : Int32} (hd : decode cL_law pc = .ok (.bipush n, 2)) (hv : (Int8.ofInt n).toInt32 = v) (k : X (pc + 2) lv (.int v :: st) h) : X pc lv st h := by
  obtain ⟨p, e, s, m, below, meth, c, rfl, hx, hb, hml, hown, hts, hr, hlk, hK, hN, hI, hA, hX, hbl⟩ := cx
  intro ls H locs hl hP hS
  exact lv_bipush hx hb hd hv (k ls H locs hl hP hS)
theorem jv_iadd (cx : jv_C E l b L xs X) {x y : Int32} (hd : decode cL_law pc = .ok (.iadd, 1)) (k : X (pc + 1) lv (.int (x + y) :: st) h) : X pc lv (.int y :: .int x :: st) h := by
  obtain ⟨p, e, s, m, below, meth, c, rfl, hx, hb, hml, hown, hts, hr, hlk, hK, hN, hI, hA, hX, hbl⟩ := cx
  intro ls H locs hl hP hS
  exact lv_iadd hx hb hd (k ls H locs hl hP hS)
theorem jv_isub (cx : jv_C E l b L xs X) {x y : Int32} (hd : decode cL_law pc = .ok (.isub, 1)) (k : X (pc + 1) lv (.int (x - y) :: st) h) : X pc lv (.int y :: .int x :: st) h := by
  obtain ⟨p, e, s, m, below, meth, c, rfl, hx, hb, hml, hown, hts, hr, hlk, hK, hN, hI, hA, hX, hbl⟩ := cx
  intro ls H locs hl hP hS
  exact lv_isub hx hb hd (k ls H locs hl hP hS)
theorem jv_iand (cx : jv_C E l b L xs X) {x y : Int32} (hd : decode cL_law pc = .ok (.iand, 1)) (k : X (pc + 1) lv (.int (x &&& y) :: st) h) : X pc lv (.int y :: .int x :: st) h := by
  obtain ⟨p, e, s, m, below, meth, c, rfl, hx, hb, hml, hown, hts, hr, hlk, hK, hN, hI, hA, hX, hbl⟩ := cx
  intro ls H locs hl hP hS
  exact lv_iand hx hb hd (k ls H locs hl hP hS)
theorem jv_sld (cx : jv_C E l b L xs X) {j : Nat} (hj : j < L) (hL : L < 2 ^ 31) (hd : decode cL_law pc = .ok (.iaload, 1)) (k : X (pc + 1) lv (.int (xs j) :: st) h) : X pc lv (.int (nI j) :: .ref b :: st) h := by
  obtain ⟨p, e, s, m, below, meth, c, rfl, hx, hb, hml, hown, hts, hr, hlk, hK, hN, hI, hA, hX, hbl⟩ := cx
  intro ls H locs hl hP hS
  refine va_sld hx hb hX hbl (Nat.not_le.mpr hbl) hS (vp_in_nI hj hL) hd ?_
  rw [nI_clamp (by omega)]
  exact k ls H locs hl hP hS
theorem jv_slen (cx : jv_C E l b L xs X) (hd : decode cL_law pc = .ok (.arraylength, 1)) (k : X (pc + 1) lv (.int (nI L) :: st) h) : X pc lv (.ref b :: st) h := by
  obtain ⟨p, e, s, m, below, meth, c, rfl, hx, hb, hml, hown, hts, hr, hlk, hK, hN, hI, hA, hX, hbl⟩ := cx
  intro ls H locs hl hP hS
  exact va_slen hx hb hX hbl (Nat.not_le.mpr hbl) hS hd (k ls H locs hl hP hS)
theorem jv_goto (cx : jv_C E l b L xs X) {off : Int} {tgt : Nat} (hd : decode cL_law pc = .ok (.goto off, 3)) (ht : (pc : Int) + off = (tgt : Int)) (k : X tgt lv st h) : X pc lv st h := by
  obtain ⟨p, e, s, m, below, meth, c, rfl, hx, hb, hml, hown, hts, hr, hlk, hK, hN, hI, hA, hX, hbl⟩ := cx
  intro ls H locs hl hP hS
  exact lv_goto hx hb hd ht (k ls H locs hl hP hS)
theorem jv_iincN (cx : jv_C E l b L xs X) {i j d : Nat} {n : Int} {lv' : List (Nat × Value)} (hd : decode cL_law pc = .ok (.iinc i n, 3)) (hv : jp_lk lv i = some (.int (nI j))) (hnd : Int32.ofInt n = nI d) (hn : i < 4) (hl' : jp_l1 lv i (.int (nI (j + d))) = lv') (k : X (pc + 3) lv' st h) : X pc lv st h := by
  obtain ⟨p, e, s, m, below, meth, c, rfl, hx, hb, hml, hown, hts, hr, hlk, hK, hN, hI, hA, hX, hbl⟩ := cx
  intro ls H locs hl hP hS
  obtain ⟨t, ht⟩ := List.getElem?_of_mem (jp_lk_mem hv)
  exact lv_iinc (v := nI (j + d)) hx hb hd hl ht (by rw [hnd, nI_add]) hn rfl (fun ls' h' => k ls' H locs (hl' ▸ jp_has h') hP hS)
theorem jv_icmp_gt (cx : jv_C E l b L xs X) {x y : Int32} {off : Int} {tgt : Nat} (hd : decode cL_law pc = .ok (.if_icmp .gt off, 3)) (ht : (pc : Int) + off = (tgt : Int)) (kt : y < x → X tgt lv st h) (kf : ¬ y < x → X (pc + 3) lv st h) : X pc lv (.int y :: .int x :: st) h := by
  obtain ⟨p, e, s, m, below, meth, c, rfl, hx, hb, hml, hown, hts, hr, hlk, hK, hN, hI, hA, hX, hbl⟩ := cx
  intro ls H locs hl hP hS
  exact lv_icmp_gt hx hb hd ht (fun c9 => kt c9 ls H locs hl hP hS) (fun c9 => kf c9 ls H locs hl hP hS)
/-- the same int on both sides -/
theorem jv_same (cx : jv_C E l b L xs X) {v : Int32} {off : Int} {tgt : Nat} (hd : decode cL_law pc = .ok (.if_icmp .eq off, 3)) (ht : (pc : Int) + off = (tgt : Int)) (k : X tgt lv st h) : X pc lv (.int v :: .int v :: st) h := by
  obtain ⟨p, e, s, m, below, meth, c, rfl, hx, hb, hml, hown, hts, hr, hlk, hK, hN, hI, hA, hX, hbl⟩ := cx
  intro ls H locs hl hP hS
  exact lv_icmp_eq hx hb hd ht (fun _ => k ls H locs hl hP hS) (fun c9 => absurd rfl c9)
theorem jv_cmp0 (v : Int64) : lg_cmp v v = 0 := by
  unfold lg_cmp
  rw [if_neg (by rw [gt_iff_lt, Int64.lt_iff_toInt_lt]; omega), if_pos rfl]
/-- the same long on both sides -/
theorem jv_sameL (cx : jv_C E l b L xs X) {v : Int64} {off : Int} {tgt : Nat} (hd1 : decode cL_law pc = .ok (.lcmp, 1)) (hd : decode cL_law (pc + 1) = .ok (.ifCond .eq off, 3)) (ht : ((pc + 1 : Nat) : Int) + off = (tgt : Int)) (k : X tgt lv st h) : X pc lv (.long v :: .long v :: st) h := by
  obtain ⟨p, e, s, m, below, meth, c, rfl, hx, hb, hml, hown, hts, hr, hlk, hK, hN, hI, hA, hX, hbl⟩ := cx
  intro ls H locs hl hP hS
  exact W.lcmp hx hb hd1 (lv_if_eq hx hb hd ht (fun _ => k ls H locs hl hP hS) (fun c9 => absurd (jv_cmp0 v) c9))
theorem jv_table (cx : jv_C E l b L xs X) {n tgt : Nat} {off : Int} (hn : n < 20) (ho : (#[96, 139, 182, 205, 218, 231, 244, 267, 300, 333, 366, 379, 402, 435, 449, 493, 526, 559, 582, 605] : Array Int)[n]? = some off) (ht : ((32 : Nat) : Int) + off = (tgt : Int)) (k : X tgt lv st h) : X 32 lv (.int (nI n) :: st) h := by
  obtain ⟨p, e, s, m, below, meth, c, rfl, hx, hb, hml, hown, hts, hr, hlk, hK, hN, hI, hA, hX, hbl⟩ := cx
  intro ls H locs hl hP hS
  have e1 : (nI n).toInt = (n : Int) := nI_toInt (by omega)
  exact lv_tableIn hx hb dL_law_32 (by rw [e1]; omega) (by rw [e1]; omega) (by rw [e1, show ((n : Int) - 0).toNat = n by omega]; exact ho) ht (k ls H locs hl hP hS)
theorem jv_tableOut (cx : jv_C E l b L xs X) {n : Nat} (hn : 20 ≤ n) (hn2 : n < 32) (k : X 660 lv st h) : X 32 lv (.int (nI n) :: st) h := by
  obtain ⟨p, e, s, m, below, meth, c, rfl, hx, hb, hml, hown, hts, hr, hlk, hK, hN, hI, hA, hX, hbl⟩ := cx
  intro ls H locs hl hP hS
  have e1 : (nI n).toInt = (n : Int) := nI_toInt (by omega)
  exact lv_tableOut (tgt := 660) hx hb dL_law_32 (Or.inr (by rw [e1]; omega)) (by decide) (k ls H locs hl hP hS)
theorem jv_end (cx : jv_C E l b L xs X) (hd : decode cL_law pc = .ok (.ireturn, 1)) : X pc lv [.int 1] h := by
  obtain ⟨p, e, s, m, below, meth, c, rfl, hx, hb, hml, hown, hts, hr, hlk, hK, hN, hI, hA, hX, hbl⟩ := cx
  intro ls H locs hl hP hS
  exact va_forget hS.2.2 (lw_ret hx hb hr hlk hd)
/-- a number of the script, by its place from i on -/
theorem jv_arg (cx : jv_C E l b L xs X) {i k : Nat} {n : Int} (h0 : decode cL_law pc = .ok (.aload_n 0, 1)) (h1 : decode cL_law (pc + 1) = .ok (.iload_n 3, 1)) (h2 : decode cL_law (pc + 2) = .ok (.iconst n, 1)) (hn : Int32.ofInt n = nI k) (h3 : decode cL_law (pc + 3) = .ok (.iadd, 1)) (h4 : decode cL_law (pc + 4) = .ok (.iaload, 1)) (hv0 : jp_lk lv 0 = some (.ref b)) (hv3 : jp_lk lv 3 = some (.int (nI i))) (hk : i + k < L) (hL : L < 2 ^ 31) (kk : X (pc + 5) lv (.int (xs (i + k)) :: st) h) : X pc lv st h := by
  refine jv_aload_n cx h0 hv0 ?_
  refine jv_iload_n cx h1 hv3 ?_
  refine jv_iconst cx (v := nI k) h2 hn ?_
  refine jv_iadd cx h3 ?_
  rw [nI_add]
  exact jv_sld cx hk hL h4 kk
theorem jv_call (cx : jv_C E l b L xs X) {y : MethodName} {ws ws' : List Cond} {rm : Room} {bytes : ByteArray} {maxL idx n b0 ci N : Nat} {rt : Option FieldType} {C : String} {T : u_T} {fs : jp_E → jp_H → List Value} {As st0 : List Value} {v : Value} {h1 : jp_H} (hM : jc_M E l y ws rm (.ref (E.2.1 b0 0) :: As) h (jp_R (some v) h1)) (hg : GoodIn wsL_law (wsV RL idx C y ws)) (hw : ws = Cond.code y bytes maxL rt :: ws') (hrm : rm.cells = 0 ∧ rm.slots = 0) (hR : rm.frames + 1 ≤ room_1.frames ∧ 8 + (maxL + 11) + rm.locals ≤ room_1.locals) (hy : y.cls = C ∧ y.cls ≠ "java/lang/invoke/MethodHandle" ∧ y.cls ≠ "java/lang/invoke/VarHandle" ∧ (parseMethodDescriptor y.desc).map (fun d => d.parameters.length) = some n) (hz : jp_Zo b0 ci fs) (hcl : vwCl[ci]? = some (C, T, N)) (hn : As.length = n) (hst : st0 = As.reverse ++ .ref (E.2.1 b0 0) :: st) (hcat : (st.map fun v => v.category).sum ≤ 8) (hd : decode cL_law pc = .ok (.invokevirtual idx, 3)) (kk : X (pc + 3) lv (v :: st) h1) : X pc lv st0 h := by
  obtain ⟨p, e, s, m, below, meth, c, rfl, hx, hb, hml, hown, hts, hr, hlk, hK, hN, hI, hA, hX, hbl⟩ := cx
  intro ls H locs hl hP hS
  obtain ⟨hm, hc⟩ := hz
  obtain ⟨i, -, hi⟩ := jp_pl (E := E) (h := h) hm
  rw [hc] at hi
  exact jw_call (va_runV (As := As) (rest := st) ⟨hx, hb, hml, hown, hts⟩ hM (cwV n hts hg hw hrm.1 hrm.2 hy hR) ⟨jc_blind, va_recv hK hP hcl hi, fun U hU hW => ⟨rfl, by rw [hU]; exact hP, va_K.moved hW.alike hK, hN.warm hW, hI⟩⟩ rfl hn hl.1 hst (lv_room hcat) hd ⟨Nat.le_of_ble_eq_true rfl, Nat.le_of_ble_eq_true rfl⟩) hA hS (fun v' h' H1 locs1 hq hP1 hS1 => by
    obtain ⟨rfl, rfl⟩ := hq
    exact kk ls H1 locs1 hl hP1 hS1)
end
theorem jv_and31 (x : Int32) : ∃ n : Nat, n < 32 ∧ x &&& 31 = nI n := by
  have h1 : (x &&& 31).toBitVec = x.toBitVec &&& (31 : Int32).toBitVec := rfl
  have h2 : (31 : Int32).toBitVec.toNat = 31 := by decide
  have h3 : (x &&& 31).toBitVec.toNat ≤ 31 := by
    rw [h1, BitVec.toNat_and, h2]
    exact Nat.and_le_right
  refine ⟨(x &&& 31).toBitVec.toNat, by omega, ?_⟩
  generalize x &&& 31 = z at h3 ⊢
  apply Int32.toBitVec_inj.mp
  show z.toBitVec = BitVec.ofNat 32 z.toBitVec.toNat
  apply BitVec.eq_of_toNat_eq
  rw [BitVec.toNat_ofNat, Nat.mod_eq_of_lt (by omega)]
