set_option maxHeartbeats 4000000 in
set_option maxRecDepth 100000 in
/-- from the entry, for every script of at most 2048 ints, the law comes to its end with true -/
theorem whole_start {p : Program} {e : Env} {s : State} {m : MethodId} {below : List Frame} {meth : Method} {c : Code} (l : Launch) (hflags : l.flags = flags0) {b L : Nat} {xs : Nat → Int32} (hL : L ≤ 2048) (C0 : lw_At p s m meth c b L xs) : W p l e room_1 s m #[Value.ref b] below meth c s.heap [] 0 0 (lw_Z below #[Value.ref b] s) (entryFrame m ([Value.ref b] : List Value).toArray 4) := by
  obtain ⟨hx, hb, hr, hml, hown, hts, hX, hbl, hlocks, hgv⟩ := id C0
  have hown : s.vm.findClass RL = some m.cls := hown
  have htl : ∀ w ∈ wsL_law, w.before #[Value.ref b] s = true := fun w h => hts w (wsL_law_in w h)
  have hN : jp_N s := jq_N hts
  obtain ⟨G, q, hK⟩ := jq_K hts
  have hA : ∀ q : Nat, s.heap.size ≤ q → (fun q : Nat => s.heap.size ≤ q) q := fun _ h => h
  have hS : va_S (fun q : Nat => s.heap.size ≤ q) s.heap s.heap [] := va_S.rf
  have hP : va_P G vwCl [] s.heap := fun k q h => by simp at h
  have hD : va_D (fun q : Nat => s.heap.size ≤ q) [] := ⟨fun i j p q h => by simp at h, fun k q h => by simp at h⟩
  have hl := lv_entry ([.ref b]) (n := 4) (Nat.le_of_ble_eq_true rfl)
  rw [lg_entry_eq]
  generalize (lg_sl ([.ref b]) ++ List.replicate (4 - (lg_sl ([.ref b])).length) Slot.unset).toArray = ls at hl ⊢
  have hl : lv_has ls 4 [(0, .ref b)] := hl
  refine va_new (ci := 2) (fs := [.null, .null, .null, .null, .int 0, .null, .null, .null, .null]) (C := RX2) (T := TX2) (N := 9) hx hb hts jw_in_X20 tyX2 tyX2_ok hown (hts _ jq_c2) (hts _ jq_i2) (hts _ jq_n2) hK hP hD hS hA rfl (fun j hj => by rcases (show j = 0 ∨ j = 1 ∨ j = 2 ∨ j = 3 ∨ j = 4 ∨ j = 5 ∨ j = 6 ∨ j = 7 ∨ j = 8 by omega) with rfl | rfl | rfl | rfl | rfl | rfl | rfl | rfl | rfl <;> rfl) (Nat.le_of_ble_eq_true rfl) (Nat.le_of_ble_eq_true rfl) dL_law_0 (fun a0 H hP hD hS => ?_)
  have hP : va_P G vwCl ([] ++ [(a0, jn_js0)]) H := hP
  have hD : va_D (fun q : Nat => s.heap.size ≤ q) ([] ++ [(a0, jn_js0)]) := hD
  refine lv_dup hx hb dL_law_3 rfl ?_
  have hFc := jn_free hD hS hA
  refine va_callv (va_runI (As := []) (rest := [.ref a0]) ⟨hx, hb, hml, hown, htl⟩ (jn_X2_init G q l a0 H.size) (cwI 0 htl gL_law_X2_init rfl rfl rfl (hts _ jq_n2) (hts _ jq_m2) (hts _ jq_o2) rfl (by decide +kernel) ⟨Nat.le_of_ble_eq_true rfl, Nat.le_of_ble_eq_true rfl⟩) ⟨jn_blind, fun U hU hW => ⟨rfl, by rw [hU], by rw [hU]; exact hP, va_K.moved hW.alike hK, hN.warm hW, jn_one⟩⟩ rfl rfl hl.1 rfl (lv_room (Nat.le_of_ble_eq_true rfl)) dL_law_4 ⟨Nat.le_of_ble_eq_true rfl, Nat.le_of_ble_eq_true rfl⟩) hS (fun q _ h => hFc q h) hFc (fun w1 t H1 locs1 ht hvm hw1 hB hz1 hk1 hS1 => ?_)
  obtain ⟨hP1, hD1⟩ := hB
  rw [ht] at hP1
  obtain ⟨hP2, hD2⟩ := jn_join hP hD hk1 hFc hP1 hD1
  obtain ⟨ad, f, g, rfl, hf, hg⟩ := hw1
  refine W.widen (k := 45) (n := 952) (Nat.le_of_ble_eq_true rfl) (Nat.le_of_ble_eq_true rfl) ?_
  refine lv_astore_n (lv' := [(1, .ref a0), (0, .ref b)]) hx hb dL_law_7 rfl hl (by decide) rfl (fun ls hl => ?_)
  refine va_new (ci := 3) (fs := [.null, .null, .null, .null, .int 0, .null, .int 0, .int 0, .null, .null, .null]) (C := RX3) (T := TX3) (N := 11) hx hb hts jw_in_X30 tyX3 tyX3_ok hown (hts _ jq_c3) (hts _ jq_i3) (hts _ jq_n3) hK hP2 hD2 hS1 hA rfl (fun j hj => by rcases (show j = 0 ∨ j = 1 ∨ j = 2 ∨ j = 3 ∨ j = 4 ∨ j = 5 ∨ j = 6 ∨ j = 7 ∨ j = 8 ∨ j = 9 ∨ j = 10 by omega) with rfl | rfl | rfl | rfl | rfl | rfl | rfl | rfl | rfl | rfl | rfl <;> rfl) (Nat.le_of_ble_eq_true rfl) (Nat.le_of_ble_eq_true rfl) dL_law_8 (fun a7 H3 hP3 hD3 hS3 => ?_)
  have hP3 : va_P G vwCl (jn_jsW q a0 ad f g ++ [(a7, jn_mod0)]) H3 := hP3
  have hD3 : va_D (fun q : Nat => s.heap.size ≤ q) (jn_jsW q a0 ad f g ++ [(a7, jn_mod0)]) := hD3
  refine lv_dup hx hb dL_law_11 rfl ?_
  have hFd := jn_free hD3 hS3 hA
  have hPd : va_P G vwCl [(a7, jn_mod0)] H3 := hP3.sub (ws' := [(a7, jn_mod0)]) [(jn_jsW q a0 ad f g).length] (by simp)
  refine va_callv (va_runI (As := []) (rest := [.ref a7]) ⟨hx, hb, hml, hown, htl⟩ (jn_X3_init G q l a7 H3.size) (cwI 0 htl gL_law_X3_init rfl rfl rfl (hts _ jq_n3) (hts _ jq_m3) (hts _ jq_o3) rfl (by decide +kernel) ⟨Nat.le_of_ble_eq_true rfl, Nat.le_of_ble_eq_true rfl⟩) ⟨jn_blind, fun U hU hW => ⟨rfl, by rw [hU], by rw [hU]; exact hPd, va_K.moved hW.alike hK, hN.warm hW, jn_one⟩⟩ rfl rfl hl.1 rfl (lv_room (Nat.le_of_ble_eq_true rfl)) dL_law_12 ⟨Nat.le_of_ble_eq_true rfl, Nat.le_of_ble_eq_true rfl⟩) hS3 (fun q _ h => hFd q h) hFd (fun w3 t3 H4 locs4 ht4 hvm4 hw4 hB4 hz4 hk4 hS4 => ?_)
  obtain ⟨hP4, hD4⟩ := hB4
  rw [ht4] at hP4
  obtain ⟨hP5, hD5⟩ := jn_join hP3 hD3 hk4 hFd hP4 hD4
  obtain ⟨bm, x, rfl, hxm⟩ := hw4
  rw [jq_w G q a0 ad a7 bm f g x] at hP5 hD5
  refine W.widen (k := 54) (n := 26022) (Nat.le_of_ble_eq_true rfl) (Nat.le_of_ble_eq_true rfl) ?_
  refine lv_astore_n (lv' := [(2, .ref a7), (1, .ref a0), (0, .ref b)]) hx hb dL_law_15 rfl hl (by decide) rfl (fun ls hl => ?_)
  refine lv_iconst (v := nI (4 * 0)) hx hb dL_law_16 (by decide) ?_
  refine lv_istore_n (lv' := [(3, .int (nI (4 * 0))), (2, .ref a7), (1, .ref a0), (0, .ref b)]) hx hb dL_law_17 rfl hl (by decide) rfl (fun ls hl => ?_)
  exact jv_loop (E := jq_E G q a0 ad a7 bm) (l := l) (b := b) (L := L) (xs := xs) ⟨p, e, s, m, below, meth, c, rfl, hx, hb, hml, hown, htl, hr, hlocks, hK, hN, jq_I hD5, jq_A hD5, hX, hbl⟩ hL 513 0 (jq_H f g x) (Nat.zero_le L) (by omega) (jq_jr hf hg hxm) ls H4 locs4 (lv_sub hl [3, 2, 1, 0] rfl) hP5 hS4
