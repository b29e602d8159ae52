/-! ===== one block's state: N its int rows, L its long rows ===== -/
abbrev jf_B : Type := Nat → Nat → Int32
abbrev jf_L : Type := Nat → Nat → Int64
def jf_w (N : jf_B) (r j : Nat) (x : Int32) : jf_B := va_up N r (upd (N r) j x)
def jf_wL (L : jf_L) (r j : Nat) (x : Int64) : jf_L := va_up L r (vp_updL (L r) j x)
def jp_u (h : jp_H) (b : Nat) (N : jf_B) (L : jf_L) : jp_H := (va_up h.1 b N, va_up h.2 b L)
theorem jp_u_1 (h : jp_H) (b : Nat) (N : jf_B) (L : jf_L) : (jp_u h b N L).1 b = N := by simp [jp_u, va_up]
theorem jp_u_2 (h : jp_H) (b : Nat) (N : jf_B) (L : jf_L) : (jp_u h b N L).2 b = L := by simp [jp_u, va_up]
theorem jp_u_n1 (h : jp_H) {b b' : Nat} (N : jf_B) (L : jf_L) (hn : b' ≠ b) : (jp_u h b N L).1 b' = h.1 b' := by simp [jp_u, va_up, hn]
theorem jp_u_n2 (h : jp_H) {b b' : Nat} (N : jf_B) (L : jf_L) (hn : b' ≠ b) : (jp_u h b N L).2 b' = h.2 b' := by simp [jp_u, va_up, hn]
theorem jp_up_self {α : Type} (f : Nat → α) (b : Nat) : va_up f b (f b) = f := by
  funext j
  simp only [va_up]
  split
  · next e => rw [e]
  · rfl
theorem jp_u_self (h : jp_H) (b : Nat) : jp_u h b (h.1 b) (h.2 b) = h := by
  unfold jp_u
  rw [jp_up_self, jp_up_self]
theorem jp_u_sr (h : jp_H) (b : Nat) (N : jf_B) (L : jf_L) (r : Nat) (g : Nat → Int32) : jp_sr (jp_u h b N L) b r g = jp_u h b (va_up N r g) L := by
  unfold jp_sr
  rw [jp_u_1]
  unfold jp_u
  rw [bx_uu]
theorem jp_u_sl (h : jp_H) (b : Nat) (N : jf_B) (L : jf_L) (r : Nat) (g : Nat → Int64) : jp_sl (jp_u h b N L) b r g = jp_u h b N (va_up L r g) := by
  unfold jp_sl
  rw [jp_u_2]
  unfold jp_u
  rw [bx_uu]
theorem jp_u_s (h : jp_H) (b : Nat) (N : jf_B) (L : jf_L) (r j : Nat) (x : Int32) : jp_s (jp_u h b N L) b r j x = jp_u h b (jf_w N r j x) L := by
  unfold jp_s
  rw [jp_u_sr, jp_u_1]
  rfl
theorem jp_u_sL (h : jp_H) (b : Nat) (N : jf_B) (L : jf_L) (r j : Nat) (x : Int64) : jp_sL (jp_u h b N L) b r j x = jp_u h b N (jf_wL L r j x) := by
  unfold jp_sL
  rw [jp_u_sl, jp_u_2]
  rfl
theorem jp_put0_7 (b : Nat) (E : jp_E) (h : jp_H) (x : Int32) : jp_f0 b E (jp_s h b 0 7 x) = (jp_f0 b E h).set 7 (.int x) := by simp [jp_f0, jp_s, jp_sr, va_up, upd]
theorem jp_put0_8 (b : Nat) (E : jp_E) (h : jp_H) (x : Int32) : jp_f0 b E (jp_s h b 0 8 x) = (jp_f0 b E h).set 8 (.int x) := by simp [jp_f0, jp_s, jp_sr, va_up, upd]
theorem jp_put1_1 (E : jp_E) (h : jp_H) (x : Int32) : jp_f1 E (jp_s h 1 0 1 x) = (jp_f1 E h).set 1 (.int x) := by simp [jp_f1, jp_s, jp_sr, va_up, upd]
theorem jp_put2_4 (E : jp_E) (h : jp_H) (x : Int32) : jp_f2 E (jp_s h 0 0 4 x) = (jp_f2 E h).set 4 (.int x) := by simp [jp_f2, jp_s, jp_sr, va_up, upd]
theorem jp_put3_4 (E : jp_E) (h : jp_H) (x : Int32) : jp_f3 E (jp_s h 7 0 4 x) = (jp_f3 E h).set 4 (.int x) := by simp [jp_f3, jp_s, jp_sr, va_up, upd]
theorem jp_put3_6 (E : jp_E) (h : jp_H) (x : Int32) : jp_f3 E (jp_s h 7 0 6 x) = (jp_f3 E h).set 6 (.int x) := by simp [jp_f3, jp_s, jp_sr, va_up, upd]
theorem jp_put3_7 (E : jp_E) (h : jp_H) (x : Int32) : jp_f3 E (jp_s h 7 0 7 x) = (jp_f3 E h).set 7 (.int x) := by simp [jp_f3, jp_s, jp_sr, va_up, upd]
theorem jp_net2 : jp_net 2 := Or.inl rfl
theorem jp_net3 : jp_net 3 := Or.inr (Or.inl rfl)
theorem jp_net4 : jp_net 4 := Or.inr (Or.inr (Or.inl rfl))
theorem jp_net5 : jp_net 5 := Or.inr (Or.inr (Or.inr (Or.inl rfl)))
theorem jp_net6 : jp_net 6 := Or.inr (Or.inr (Or.inr (Or.inr rfl)))
theorem jg_to {X : jp_X} {pc : Nat} {lv lv' : List (Nat × Value)} {st st' : List Value} {h h' : jp_H} (k : X pc lv' st' h') (e1 : lv = lv') (e2 : st = st') (e3 : h = h') : X pc lv st h := by
  rw [e1, e2, e3]
  exact k
section
variable {E : jp_E} {l : Launch} {R : Room} {own : String} {cc : ByteArray} {nL : Nat} {ret : Option FieldType} {Ts : List Cond} {Q : Option Value → jp_H → Prop} {X : jp_X} {pc : Nat} {lv : List (Nat × Value)} {st : List Value} {h : jp_H} {b : Nat} {N : jf_B} {L : jf_L}
theorem jg_ialdU (cx : jg_C E l R own cc nL ret Ts Q X) {r n j : Nat} {x : Int32} (hd : decode cc pc = .ok (.iaload, 1)) (hz : jp_Zi b r n) (hxj : x = nI j) (hj : j < n) (k : X (pc + 1) lv (.int (N r j) :: st) (jp_u h b N L)) : X pc lv (.int x :: .ref (E.2.1 b r) :: st) (jp_u h b N L) :=
  jg_iald cx hd hz hxj hj (by rw [jp_u_1]; exact k)
theorem jg_zaldU (cx : jg_C E l R own cc nL ret Ts Q X) {r n j : Nat} {x : Int32} (hd : decode cc pc = .ok (.baload, 1)) (hz : jp_Zz b r n) (hxj : x = nI j) (hj : j < n) (k : X (pc + 1) lv (.int (N r j) :: st) (jp_u h b N L)) : X pc lv (.int x :: .ref (E.2.1 b r) :: st) (jp_u h b N L) :=
  jg_zald cx hd hz hxj hj (by rw [jp_u_1]; exact k)
theorem jg_laldU (cx : jg_C E l R own cc nL ret Ts Q X) {r n j : Nat} {x : Int32} (hd : decode cc pc = .ok (.laload, 1)) (hz : jp_Zl b r n) (hxj : x = nI j) (hj : j < n) (k : X (pc + 1) lv (.long (L r j) :: st) (jp_u h b N L)) : X pc lv (.int x :: .ref (E.2.1 b r) :: st) (jp_u h b N L) :=
  jg_lald cx hd hz hxj hj (by rw [jp_u_2]; exact k)
theorem jg_iastU (cx : jg_C E l R own cc nL ret Ts Q X) {r n j : Nat} {x v : Int32} (hd : decode cc pc = .ok (.iastore, 1)) (hz : jp_Zi b r n) (hxj : x = nI j) (hj : j < n) (k : X (pc + 1) lv st (jp_u h b (jf_w N r j v) L)) : X pc lv (.int v :: .int x :: .ref (E.2.1 b r) :: st) (jp_u h b N L) :=
  jg_iast cx hd hz hxj hj (by rw [jp_u_s]; exact k)
theorem jg_zastU (cx : jg_C E l R own cc nL ret Ts Q X) {r n j : Nat} {x : Int32} {v : Bool} (hd : decode cc pc = .ok (.bastore, 1)) (hz : jp_Zz b r n) (hxj : x = nI j) (hj : j < n) (k : X (pc + 1) lv st (jp_u h b (jf_w N r j (jp_b v)) L)) : X pc lv (.int (jp_b v) :: .int x :: .ref (E.2.1 b r) :: st) (jp_u h b N L) :=
  jg_zast cx hd hz hxj hj (by rw [jp_u_s]; exact k)
theorem jg_lastU (cx : jg_C E l R own cc nL ret Ts Q X) {r n j : Nat} {x : Int32} {v : Int64} (hd : decode cc pc = .ok (.lastore, 1)) (hz : jp_Zl b r n) (hxj : x = nI j) (hj : j < n) (k : X (pc + 1) lv st (jp_u h b N (jf_wL L r j v))) : X pc lv (.long v :: .int x :: .ref (E.2.1 b r) :: st) (jp_u h b N L) :=
  jg_last cx hd hz hxj hj (by rw [jp_u_sL]; exact k)
theorem jg_getU (cx : jg_C E l R own cc nL ret Ts Q X) {ci M idx : Nat} {fs : jp_E → jp_H → List Value} {C : String} {T : u_T} (hz : jp_Zo b ci fs) (hcl : vwCl[ci]? = some (C, T, M)) (hin : ∀ w ∈ u_ws C T M, w ∈ Ts) (k : Nat) (hk : k < M) (hw : Cond.fieldLink own idx (T k).1 (T k).2.1 (T k).2.2.1 ∈ Ts) (hv : (fs E (jp_u h b N L))[k]? = some (.int ((jp_u h b N L).1 b 0 k))) (hd : decode cc pc = .ok (.getfield idx, 3)) (kk : X (pc + 3) lv (.int (N 0 k) :: st) (jp_u h b N L)) : X pc lv (.ref (E.2.1 b 0) :: st) (jp_u h b N L) :=
  jg_get cx hz hcl hin k hk hw hv hd (by rw [jp_u_1]; exact kk)
theorem jg_putU (cx : jg_C E l R own cc nL ret Ts Q X) {ci M idx : Nat} {fs : jp_E → jp_H → List Value} {C : String} {T : u_T} (hz : jp_Zo b ci fs) (hcl : vwCl[ci]? = some (C, T, M)) (hin : ∀ w ∈ u_ws C T M, w ∈ Ts) (ty0 : Nat → FieldType) (hty : ∀ k, k < M → parseFieldDescriptor (T k).2.2.1 = some (ty0 k)) (hnm : ∀ a, a < M → ∀ b, b < M → a ≠ b → (T a).2.1 ≠ (T b).2.1) (k : Nat) (hk : k < M) (hw : Cond.fieldLink own idx (T k).1 (T k).2.1 (T k).2.2.1 ∈ Ts) (hfin : (T k).2.2.2 = false) (hI9 : parseFieldDescriptor (T k).2.2.1 = some .int) {x : Int32} (hlen : k < (fs E (jp_u h b N L)).length) (hset : fs E (jp_s (jp_u h b N L) b 0 k x) = (fs E (jp_u h b N L)).set k (.int x)) (hd : decode cc pc = .ok (.putfield idx, 3)) (kk : X (pc + 3) lv st (jp_u h b (jf_w N 0 k x) L)) : X pc lv (.int x :: .ref (E.2.1 b 0) :: st) (jp_u h b N L) :=
  jg_put cx hz hcl hin ty0 hty hnm k hk hw hfin hI9 hlen hset hd (by rw [jp_u_s]; exact kk)
theorem jg_copyU (cx : jg_C E l R own cc nL ret Ts Q X) {b0 r0 r1 k0 idx : Nat} (hne : b0 ≠ b) (h1 : Cond.methodLink own idx arraycopyName ∈ Ts) (h2 : Cond.native arraycopyName ∈ Ts) (h3 : Cond.static arraycopyName ∈ Ts) (h4 : Cond.initialized "java/lang/System" ∈ Ts) (hz0 : jp_Zi b0 r0 k0) (hz1 : jp_Zi b r1 k0) (hf : 1 ≤ R.frames) (hlo : (st.map fun v => v.category).sum + (nativeFrameWords "java/lang/System" "arraycopy" 5 + 11) ≤ R.locals) (hd : decode cc pc = .ok (.invokestatic idx, 3)) (k : X (pc + 3) lv st (jp_u h b (va_up N r1 (va_cpy (h.1 b0 r0) (N r1) 0 0 k0)) L)) : X pc lv (.int (nI k0) :: .int (nI 0) :: .ref (E.2.1 b r1) :: .int (nI 0) :: .ref (E.2.1 b0 r0) :: st) (jp_u h b N L) :=
  jg_copyi cx h1 h2 h3 h4 hz0 hz1 hf hlo hd (by rw [jp_u_sr, jp_u_1, jp_u_n1 h N L hne]; exact k)
end
