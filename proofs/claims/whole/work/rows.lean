section
-- ===== PART A: goes FIRST, ahead of the names: the tables' words, and 'selects' of the private methods out of them =====
/-- a private method of a class that the tables say can be made, by its rows of tables_1 -/
def lw_okq (q : MethodName × Nat) : Prop := (q.1.cls ≠ "java/lang/invoke/MethodHandle" ∧ q.1.cls ≠ "java/lang/invoke/VarHandle") ∧ Cond.instantiable q.1.cls q.2 ∈ tables_1 ∧ Cond.privateMethod q.1 ∈ tables_1 ∧ Cond.instanceMethod q.1 ∈ tables_1
theorem lw_p0 : lw_okq (⟨"JobSpread$Net", "lift", "(II)V"⟩, 9) := ⟨⟨by decide +kernel, by decide +kernel⟩, List.mem_of_getElem? (i := 31) (by decide +kernel), List.mem_of_getElem? (i := 115) (by decide +kernel), List.mem_of_getElem? (i := 116) (by decide +kernel)⟩
theorem lw_p1 : lw_okq (⟨"JobSpread$Net", "joins", "(II)Z"⟩, 9) := ⟨⟨by decide +kernel, by decide +kernel⟩, List.mem_of_getElem? (i := 31) (by decide +kernel), List.mem_of_getElem? (i := 119) (by decide +kernel), List.mem_of_getElem? (i := 120) (by decide +kernel)⟩
theorem lw_p2 : lw_okq (⟨"JobSpread$Net", "lay", "(III)V"⟩, 9) := ⟨⟨by decide +kernel, by decide +kernel⟩, List.mem_of_getElem? (i := 31) (by decide +kernel), List.mem_of_getElem? (i := 127) (by decide +kernel), List.mem_of_getElem? (i := 128) (by decide +kernel)⟩
theorem lw_p3 : lw_okq (⟨"JobSpread$Pad", "add", "(I)V"⟩, 2) := ⟨⟨by decide +kernel, by decide +kernel⟩, List.mem_of_getElem? (i := 16) (by decide +kernel), List.mem_of_getElem? (i := 136) (by decide +kernel), List.mem_of_getElem? (i := 137) (by decide +kernel)⟩
theorem lw_p4 : lw_okq (⟨"JobSpread$Pad", "firstFault", "()I"⟩, 2) := ⟨⟨by decide +kernel, by decide +kernel⟩, List.mem_of_getElem? (i := 16) (by decide +kernel), List.mem_of_getElem? (i := 148) (by decide +kernel), List.mem_of_getElem? (i := 149) (by decide +kernel)⟩
theorem lw_p5 : lw_okq (⟨"JobSpread$Pad", "canStand", "(I)Z"⟩, 2) := ⟨⟨by decide +kernel, by decide +kernel⟩, List.mem_of_getElem? (i := 16) (by decide +kernel), List.mem_of_getElem? (i := 152) (by decide +kernel), List.mem_of_getElem? (i := 153) (by decide +kernel)⟩
theorem lw_p6 : lw_okq (⟨"JobSpread$Pad", "nodeAt", "(I)I"⟩, 2) := ⟨⟨by decide +kernel, by decide +kernel⟩, List.mem_of_getElem? (i := 16) (by decide +kernel), List.mem_of_getElem? (i := 156) (by decide +kernel), List.mem_of_getElem? (i := 157) (by decide +kernel)⟩
theorem lw_p7 : lw_okq (⟨"JobSpread$Pad", "isToldBefore", "(I)Z"⟩, 2) := ⟨⟨by decide +kernel, by decide +kernel⟩, List.mem_of_getElem? (i := 16) (by decide +kernel), List.mem_of_getElem? (i := 161) (by decide +kernel), List.mem_of_getElem? (i := 162) (by decide +kernel)⟩
theorem lw_p8 : lw_okq (⟨"JobSpread$Pad", "colourAt", "(I)I"⟩, 2) := ⟨⟨by decide +kernel, by decide +kernel⟩, List.mem_of_getElem? (i := 16) (by decide +kernel), List.mem_of_getElem? (i := 166) (by decide +kernel), List.mem_of_getElem? (i := 167) (by decide +kernel)⟩
theorem lw_p9 : lw_okq (⟨"JobSpread$Net", "liftAll", "()V"⟩, 9) := ⟨⟨by decide +kernel, by decide +kernel⟩, List.mem_of_getElem? (i := 31) (by decide +kernel), List.mem_of_getElem? (i := 175) (by decide +kernel), List.mem_of_getElem? (i := 176) (by decide +kernel)⟩
theorem lw_p10 : lw_okq (⟨"JobSpread$Net", "rotorLeftOver", "(I)I"⟩, 9) := ⟨⟨by decide +kernel, by decide +kernel⟩, List.mem_of_getElem? (i := 31) (by decide +kernel), List.mem_of_getElem? (i := 189) (by decide +kernel), List.mem_of_getElem? (i := 190) (by decide +kernel)⟩
theorem lw_p11 : lw_okq (⟨"JobSpread$Net", "slots", "(I)I"⟩, 9) := ⟨⟨by decide +kernel, by decide +kernel⟩, List.mem_of_getElem? (i := 31) (by decide +kernel), List.mem_of_getElem? (i := 193) (by decide +kernel), List.mem_of_getElem? (i := 194) (by decide +kernel)⟩
theorem lw_p12 : lw_okq (⟨"JobSpread", "toldColour", "(II)I"⟩, 9) := ⟨⟨by decide +kernel, by decide +kernel⟩, List.mem_of_getElem? (i := 8) (by decide +kernel), List.mem_of_getElem? (i := 197) (by decide +kernel), List.mem_of_getElem? (i := 198) (by decide +kernel)⟩
theorem lw_p13 : lw_okq (⟨"JobSpread$Net", "goOn", "(II)I"⟩, 9) := ⟨⟨by decide +kernel, by decide +kernel⟩, List.mem_of_getElem? (i := 31) (by decide +kernel), List.mem_of_getElem? (i := 213) (by decide +kernel), List.mem_of_getElem? (i := 214) (by decide +kernel)⟩
theorem lw_p14 : lw_okq (⟨"JobSpread$Net", "flow", "()I"⟩, 9) := ⟨⟨by decide +kernel, by decide +kernel⟩, List.mem_of_getElem? (i := 31) (by decide +kernel), List.mem_of_getElem? (i := 217) (by decide +kernel), List.mem_of_getElem? (i := 218) (by decide +kernel)⟩
theorem lw_p15 : lw_okq (⟨"JobSpread$Net", "measure", "()I"⟩, 9) := ⟨⟨by decide +kernel, by decide +kernel⟩, List.mem_of_getElem? (i := 31) (by decide +kernel), List.mem_of_getElem? (i := 221) (by decide +kernel), List.mem_of_getElem? (i := 222) (by decide +kernel)⟩
def lw_privs_1 : List (MethodName × Nat) := [(⟨"JobSpread$Net", "lift", "(II)V"⟩, 9), (⟨"JobSpread$Net", "joins", "(II)Z"⟩, 9), (⟨"JobSpread$Net", "lay", "(III)V"⟩, 9), (⟨"JobSpread$Pad", "add", "(I)V"⟩, 2), (⟨"JobSpread$Pad", "firstFault", "()I"⟩, 2), (⟨"JobSpread$Pad", "canStand", "(I)Z"⟩, 2), (⟨"JobSpread$Pad", "nodeAt", "(I)I"⟩, 2), (⟨"JobSpread$Pad", "isToldBefore", "(I)Z"⟩, 2), (⟨"JobSpread$Pad", "colourAt", "(I)I"⟩, 2), (⟨"JobSpread$Net", "liftAll", "()V"⟩, 9), (⟨"JobSpread$Net", "rotorLeftOver", "(I)I"⟩, 9), (⟨"JobSpread$Net", "slots", "(I)I"⟩, 9), (⟨"JobSpread", "toldColour", "(II)I"⟩, 9), (⟨"JobSpread$Net", "goOn", "(II)I"⟩, 9), (⟨"JobSpread$Net", "flow", "()I"⟩, 9), (⟨"JobSpread$Net", "measure", "()I"⟩, 9)]
theorem lw_r1 : ∀ q ∈ lw_privs_1, lw_okq q := List.forall_mem_cons.mpr ⟨lw_p0, List.forall_mem_cons.mpr ⟨lw_p1, List.forall_mem_cons.mpr ⟨lw_p2, List.forall_mem_cons.mpr ⟨lw_p3, List.forall_mem_cons.mpr ⟨lw_p4, List.forall_mem_cons.mpr ⟨lw_p5, List.forall_mem_cons.mpr ⟨lw_p6, List.forall_mem_cons.mpr ⟨lw_p7, List.forall_mem_cons.mpr ⟨lw_p8, List.forall_mem_cons.mpr ⟨lw_p9, List.forall_mem_cons.mpr ⟨lw_p10, List.forall_mem_cons.mpr ⟨lw_p11, List.forall_mem_cons.mpr ⟨lw_p12, List.forall_mem_cons.mpr ⟨lw_p13, List.forall_mem_cons.mpr ⟨lw_p14, List.forall_mem_cons.mpr ⟨lw_p15, fun _ h => absurd h List.not_mem_nil⟩⟩⟩⟩⟩⟩⟩⟩⟩⟩⟩⟩⟩⟩⟩⟩
theorem lw_p16 : lw_okq (⟨"JobSpread$Net", "flowAlong", "(III)I"⟩, 9) := ⟨⟨by decide +kernel, by decide +kernel⟩, List.mem_of_getElem? (i := 31) (by decide +kernel), List.mem_of_getElem? (i := 228) (by decide +kernel), List.mem_of_getElem? (i := 229) (by decide +kernel)⟩
theorem lw_p17 : lw_okq (⟨"JobSpread$Net", "settle", "()V"⟩, 9) := ⟨⟨by decide +kernel, by decide +kernel⟩, List.mem_of_getElem? (i := 31) (by decide +kernel), List.mem_of_getElem? (i := 235) (by decide +kernel), List.mem_of_getElem? (i := 236) (by decide +kernel)⟩
theorem lw_p18 : lw_okq (⟨"JobSpread$Net", "exchange", "()I"⟩, 9) := ⟨⟨by decide +kernel, by decide +kernel⟩, List.mem_of_getElem? (i := 31) (by decide +kernel), List.mem_of_getElem? (i := 239) (by decide +kernel), List.mem_of_getElem? (i := 240) (by decide +kernel)⟩
theorem lw_p19 : lw_okq (⟨"JobSpread$Net", "colours", "()I"⟩, 9) := ⟨⟨by decide +kernel, by decide +kernel⟩, List.mem_of_getElem? (i := 31) (by decide +kernel), List.mem_of_getElem? (i := 243) (by decide +kernel), List.mem_of_getElem? (i := 244) (by decide +kernel)⟩
theorem lw_p20 : lw_okq (⟨"JobSpread$Net", "exchangeAlong", "(II)I"⟩, 9) := ⟨⟨by decide +kernel, by decide +kernel⟩, List.mem_of_getElem? (i := 31) (by decide +kernel), List.mem_of_getElem? (i := 247) (by decide +kernel), List.mem_of_getElem? (i := 248) (by decide +kernel)⟩
theorem lw_p21 : lw_okq (⟨"JobSpread$Net", "deal", "()I"⟩, 9) := ⟨⟨by decide +kernel, by decide +kernel⟩, List.mem_of_getElem? (i := 31) (by decide +kernel), List.mem_of_getElem? (i := 254) (by decide +kernel), List.mem_of_getElem? (i := 255) (by decide +kernel)⟩
theorem lw_p22 : lw_okq (⟨"JobSpread$Net", "dealFrom", "(I)I"⟩, 9) := ⟨⟨by decide +kernel, by decide +kernel⟩, List.mem_of_getElem? (i := 31) (by decide +kernel), List.mem_of_getElem? (i := 258) (by decide +kernel), List.mem_of_getElem? (i := 259) (by decide +kernel)⟩
theorem lw_p23 : lw_okq (⟨"JobSpread$Net", "startAgain", "()V"⟩, 9) := ⟨⟨by decide +kernel, by decide +kernel⟩, List.mem_of_getElem? (i := 31) (by decide +kernel), List.mem_of_getElem? (i := 267) (by decide +kernel), List.mem_of_getElem? (i := 268) (by decide +kernel)⟩
theorem lw_p24 : lw_okq (⟨"JobSpread$Net", "mostLoaded", "()I"⟩, 9) := ⟨⟨by decide +kernel, by decide +kernel⟩, List.mem_of_getElem? (i := 31) (by decide +kernel), List.mem_of_getElem? (i := 278) (by decide +kernel), List.mem_of_getElem? (i := 279) (by decide +kernel)⟩
theorem lw_p25 : lw_okq (⟨"JobSpread$Net", "loadGap", "(II)J"⟩, 9) := ⟨⟨by decide +kernel, by decide +kernel⟩, List.mem_of_getElem? (i := 31) (by decide +kernel), List.mem_of_getElem? (i := 282) (by decide +kernel), List.mem_of_getElem? (i := 283) (by decide +kernel)⟩
theorem lw_p26 : lw_okq (⟨"JobSpread$Net", "leastLoaded", "()I"⟩, 9) := ⟨⟨by decide +kernel, by decide +kernel⟩, List.mem_of_getElem? (i := 31) (by decide +kernel), List.mem_of_getElem? (i := 286) (by decide +kernel), List.mem_of_getElem? (i := 287) (by decide +kernel)⟩
theorem lw_p27 : lw_okq (⟨"JobSpread$Net", "allJobs", "()J"⟩, 9) := ⟨⟨by decide +kernel, by decide +kernel⟩, List.mem_of_getElem? (i := 31) (by decide +kernel), List.mem_of_getElem? (i := 304) (by decide +kernel), List.mem_of_getElem? (i := 305) (by decide +kernel)⟩
theorem lw_p28 : lw_okq (⟨"JobSpread$Net", "allSpeeds", "()I"⟩, 9) := ⟨⟨by decide +kernel, by decide +kernel⟩, List.mem_of_getElem? (i := 31) (by decide +kernel), List.mem_of_getElem? (i := 308) (by decide +kernel), List.mem_of_getElem? (i := 309) (by decide +kernel)⟩
theorem lw_p29 : lw_okq (⟨"JobSpread$Net", "nodesBelowZero", "()I"⟩, 9) := ⟨⟨by decide +kernel, by decide +kernel⟩, List.mem_of_getElem? (i := 31) (by decide +kernel), List.mem_of_getElem? (i := 322) (by decide +kernel), List.mem_of_getElem? (i := 323) (by decide +kernel)⟩
theorem lw_p30 : lw_okq (⟨"JobSpread", "flowUncut", "(I)V"⟩, 9) := ⟨⟨by decide +kernel, by decide +kernel⟩, List.mem_of_getElem? (i := 8) (by decide +kernel), List.mem_of_getElem? (i := 328) (by decide +kernel), List.mem_of_getElem? (i := 329) (by decide +kernel)⟩
theorem lw_p31 : lw_okq (⟨"JobSpread$Net", "become", "(LJobSpread$Net;)V"⟩, 9) := ⟨⟨by decide +kernel, by decide +kernel⟩, List.mem_of_getElem? (i := 31) (by decide +kernel), List.mem_of_getElem? (i := 339) (by decide +kernel), List.mem_of_getElem? (i := 340) (by decide +kernel)⟩
def lw_privs_2 : List (MethodName × Nat) := [(⟨"JobSpread$Net", "flowAlong", "(III)I"⟩, 9), (⟨"JobSpread$Net", "settle", "()V"⟩, 9), (⟨"JobSpread$Net", "exchange", "()I"⟩, 9), (⟨"JobSpread$Net", "colours", "()I"⟩, 9), (⟨"JobSpread$Net", "exchangeAlong", "(II)I"⟩, 9), (⟨"JobSpread$Net", "deal", "()I"⟩, 9), (⟨"JobSpread$Net", "dealFrom", "(I)I"⟩, 9), (⟨"JobSpread$Net", "startAgain", "()V"⟩, 9), (⟨"JobSpread$Net", "mostLoaded", "()I"⟩, 9), (⟨"JobSpread$Net", "loadGap", "(II)J"⟩, 9), (⟨"JobSpread$Net", "leastLoaded", "()I"⟩, 9), (⟨"JobSpread$Net", "allJobs", "()J"⟩, 9), (⟨"JobSpread$Net", "allSpeeds", "()I"⟩, 9), (⟨"JobSpread$Net", "nodesBelowZero", "()I"⟩, 9), (⟨"JobSpread", "flowUncut", "(I)V"⟩, 9), (⟨"JobSpread$Net", "become", "(LJobSpread$Net;)V"⟩, 9)]
theorem lw_r2 : ∀ q ∈ lw_privs_2, lw_okq q := List.forall_mem_cons.mpr ⟨lw_p16, List.forall_mem_cons.mpr ⟨lw_p17, List.forall_mem_cons.mpr ⟨lw_p18, List.forall_mem_cons.mpr ⟨lw_p19, List.forall_mem_cons.mpr ⟨lw_p20, List.forall_mem_cons.mpr ⟨lw_p21, List.forall_mem_cons.mpr ⟨lw_p22, List.forall_mem_cons.mpr ⟨lw_p23, List.forall_mem_cons.mpr ⟨lw_p24, List.forall_mem_cons.mpr ⟨lw_p25, List.forall_mem_cons.mpr ⟨lw_p26, List.forall_mem_cons.mpr ⟨lw_p27, List.forall_mem_cons.mpr ⟨lw_p28, List.forall_mem_cons.mpr ⟨lw_p29, List.forall_mem_cons.mpr ⟨lw_p30, List.forall_mem_cons.mpr ⟨lw_p31, fun _ h => absurd h List.not_mem_nil⟩⟩⟩⟩⟩⟩⟩⟩⟩⟩⟩⟩⟩⟩⟩⟩
theorem lw_p32 : lw_okq (⟨"JobSpread$Net", "isUnevenAtMost", "(I)Z"⟩, 9) := ⟨⟨by decide +kernel, by decide +kernel⟩, List.mem_of_getElem? (i := 31) (by decide +kernel), List.mem_of_getElem? (i := 344) (by decide +kernel), List.mem_of_getElem? (i := 345) (by decide +kernel)⟩
theorem lw_p33 : lw_okq (⟨"JobSpread", "ringLength", "(I)I"⟩, 9) := ⟨⟨by decide +kernel, by decide +kernel⟩, List.mem_of_getElem? (i := 8) (by decide +kernel), List.mem_of_getElem? (i := 354) (by decide +kernel), List.mem_of_getElem? (i := 355) (by decide +kernel)⟩
theorem lw_p34 : lw_okq (⟨"JobSpread$Net", "isAlike", "(LJobSpread$Net;)Z"⟩, 9) := ⟨⟨by decide +kernel, by decide +kernel⟩, List.mem_of_getElem? (i := 31) (by decide +kernel), List.mem_of_getElem? (i := 358) (by decide +kernel), List.mem_of_getElem? (i := 359) (by decide +kernel)⟩
theorem lw_p35 : lw_okq (⟨"JobSpread", "ringStart", "(II)I"⟩, 9) := ⟨⟨by decide +kernel, by decide +kernel⟩, List.mem_of_getElem? (i := 8) (by decide +kernel), List.mem_of_getElem? (i := 362) (by decide +kernel), List.mem_of_getElem? (i := 363) (by decide +kernel)⟩
theorem lw_p36 : lw_okq (⟨"JobSpread", "imageAt", "(I)LJobSpread$Net;"⟩, 9) := ⟨⟨by decide +kernel, by decide +kernel⟩, List.mem_of_getElem? (i := 8) (by decide +kernel), List.mem_of_getElem? (i := 370) (by decide +kernel), List.mem_of_getElem? (i := 371) (by decide +kernel)⟩
theorem lw_p37 : lw_okq (⟨"JobSpreadModel", "isEdge", "(II)Z"⟩, 11) := ⟨⟨by decide +kernel, by decide +kernel⟩, List.mem_of_getElem? (i := 383) (by decide +kernel), List.mem_of_getElem? (i := 438) (by decide +kernel), List.mem_of_getElem? (i := 439) (by decide +kernel)⟩
theorem lw_p38 : lw_okq (⟨"JobSpreadModel", "edges", "()I"⟩, 11) := ⟨⟨by decide +kernel, by decide +kernel⟩, List.mem_of_getElem? (i := 383) (by decide +kernel), List.mem_of_getElem? (i := 445) (by decide +kernel), List.mem_of_getElem? (i := 446) (by decide +kernel)⟩
theorem lw_p39 : lw_okq (⟨"JobSpreadModel", "lay", "(III)V"⟩, 11) := ⟨⟨by decide +kernel, by decide +kernel⟩, List.mem_of_getElem? (i := 383) (by decide +kernel), List.mem_of_getElem? (i := 449) (by decide +kernel), List.mem_of_getElem? (i := 450) (by decide +kernel)⟩
theorem lw_p40 : lw_okq (⟨"JobSpreadModel", "canStand", "(I)Z"⟩, 11) := ⟨⟨by decide +kernel, by decide +kernel⟩, List.mem_of_getElem? (i := 383) (by decide +kernel), List.mem_of_getElem? (i := 465) (by decide +kernel), List.mem_of_getElem? (i := 466) (by decide +kernel)⟩
theorem lw_p41 : lw_okq (⟨"JobSpreadModel", "letter", "(I)I"⟩, 11) := ⟨⟨by decide +kernel, by decide +kernel⟩, List.mem_of_getElem? (i := 383) (by decide +kernel), List.mem_of_getElem? (i := 469) (by decide +kernel), List.mem_of_getElem? (i := 470) (by decide +kernel)⟩
theorem lw_p42 : lw_okq (⟨"JobSpreadModel", "isNew", "(I)Z"⟩, 11) := ⟨⟨by decide +kernel, by decide +kernel⟩, List.mem_of_getElem? (i := 383) (by decide +kernel), List.mem_of_getElem? (i := 473) (by decide +kernel), List.mem_of_getElem? (i := 474) (by decide +kernel)⟩
theorem lw_p43 : lw_okq (⟨"JobSpreadModel", "edgesOf", "(I)I"⟩, 11) := ⟨⟨by decide +kernel, by decide +kernel⟩, List.mem_of_getElem? (i := 383) (by decide +kernel), List.mem_of_getElem? (i := 490) (by decide +kernel), List.mem_of_getElem? (i := 491) (by decide +kernel)⟩
theorem lw_p44 : lw_okq (⟨"JobSpreadModel", "round", "(I)I"⟩, 11) := ⟨⟨by decide +kernel, by decide +kernel⟩, List.mem_of_getElem? (i := 383) (by decide +kernel), List.mem_of_getElem? (i := 502) (by decide +kernel), List.mem_of_getElem? (i := 503) (by decide +kernel)⟩
theorem lw_p45 : lw_okq (⟨"JobSpreadModel", "flow", "()I"⟩, 11) := ⟨⟨by decide +kernel, by decide +kernel⟩, List.mem_of_getElem? (i := 383) (by decide +kernel), List.mem_of_getElem? (i := 506) (by decide +kernel), List.mem_of_getElem? (i := 507) (by decide +kernel)⟩
theorem lw_p46 : lw_okq (⟨"JobSpreadModel", "measure", "()I"⟩, 11) := ⟨⟨by decide +kernel, by decide +kernel⟩, List.mem_of_getElem? (i := 383) (by decide +kernel), List.mem_of_getElem? (i := 510) (by decide +kernel), List.mem_of_getElem? (i := 511) (by decide +kernel)⟩
theorem lw_p47 : lw_okq (⟨"JobSpreadModel", "layNext", "()V"⟩, 11) := ⟨⟨by decide +kernel, by decide +kernel⟩, List.mem_of_getElem? (i := 383) (by decide +kernel), List.mem_of_getElem? (i := 514) (by decide +kernel), List.mem_of_getElem? (i := 515) (by decide +kernel)⟩
def lw_privs_3 : List (MethodName × Nat) := [(⟨"JobSpread$Net", "isUnevenAtMost", "(I)Z"⟩, 9), (⟨"JobSpread", "ringLength", "(I)I"⟩, 9), (⟨"JobSpread$Net", "isAlike", "(LJobSpread$Net;)Z"⟩, 9), (⟨"JobSpread", "ringStart", "(II)I"⟩, 9), (⟨"JobSpread", "imageAt", "(I)LJobSpread$Net;"⟩, 9), (⟨"JobSpreadModel", "isEdge", "(II)Z"⟩, 11), (⟨"JobSpreadModel", "edges", "()I"⟩, 11), (⟨"JobSpreadModel", "lay", "(III)V"⟩, 11), (⟨"JobSpreadModel", "canStand", "(I)Z"⟩, 11), (⟨"JobSpreadModel", "letter", "(I)I"⟩, 11), (⟨"JobSpreadModel", "isNew", "(I)Z"⟩, 11), (⟨"JobSpreadModel", "edgesOf", "(I)I"⟩, 11), (⟨"JobSpreadModel", "round", "(I)I"⟩, 11), (⟨"JobSpreadModel", "flow", "()I"⟩, 11), (⟨"JobSpreadModel", "measure", "()I"⟩, 11), (⟨"JobSpreadModel", "layNext", "()V"⟩, 11)]
theorem lw_r3 : ∀ q ∈ lw_privs_3, lw_okq q := List.forall_mem_cons.mpr ⟨lw_p32, List.forall_mem_cons.mpr ⟨lw_p33, List.forall_mem_cons.mpr ⟨lw_p34, List.forall_mem_cons.mpr ⟨lw_p35, List.forall_mem_cons.mpr ⟨lw_p36, List.forall_mem_cons.mpr ⟨lw_p37, List.forall_mem_cons.mpr ⟨lw_p38, List.forall_mem_cons.mpr ⟨lw_p39, List.forall_mem_cons.mpr ⟨lw_p40, List.forall_mem_cons.mpr ⟨lw_p41, List.forall_mem_cons.mpr ⟨lw_p42, List.forall_mem_cons.mpr ⟨lw_p43, List.forall_mem_cons.mpr ⟨lw_p44, List.forall_mem_cons.mpr ⟨lw_p45, List.forall_mem_cons.mpr ⟨lw_p46, List.forall_mem_cons.mpr ⟨lw_p47, fun _ h => absurd h List.not_mem_nil⟩⟩⟩⟩⟩⟩⟩⟩⟩⟩⟩⟩⟩⟩⟩⟩
theorem lw_p48 : lw_okq (⟨"JobSpreadModel", "takeNext", "()V"⟩, 11) := ⟨⟨by decide +kernel, by decide +kernel⟩, List.mem_of_getElem? (i := 383) (by decide +kernel), List.mem_of_getElem? (i := 518) (by decide +kernel), List.mem_of_getElem? (i := 519) (by decide +kernel)⟩
theorem lw_p49 : lw_okq (⟨"JobSpreadModel", "exchange", "()I"⟩, 11) := ⟨⟨by decide +kernel, by decide +kernel⟩, List.mem_of_getElem? (i := 383) (by decide +kernel), List.mem_of_getElem? (i := 522) (by decide +kernel), List.mem_of_getElem? (i := 523) (by decide +kernel)⟩
theorem lw_p50 : lw_okq (⟨"JobSpreadModel", "colours", "()I"⟩, 11) := ⟨⟨by decide +kernel, by decide +kernel⟩, List.mem_of_getElem? (i := 383) (by decide +kernel), List.mem_of_getElem? (i := 526) (by decide +kernel), List.mem_of_getElem? (i := 527) (by decide +kernel)⟩
theorem lw_p51 : lw_okq (⟨"JobSpreadModel", "even", "(II)I"⟩, 11) := ⟨⟨by decide +kernel, by decide +kernel⟩, List.mem_of_getElem? (i := 383) (by decide +kernel), List.mem_of_getElem? (i := 530) (by decide +kernel), List.mem_of_getElem? (i := 531) (by decide +kernel)⟩
theorem lw_p52 : lw_okq (⟨"JobSpreadModel", "rotor", "()I"⟩, 11) := ⟨⟨by decide +kernel, by decide +kernel⟩, List.mem_of_getElem? (i := 383) (by decide +kernel), List.mem_of_getElem? (i := 537) (by decide +kernel), List.mem_of_getElem? (i := 538) (by decide +kernel)⟩
theorem lw_p53 : lw_okq (⟨"JobSpreadModel", "deal", "(I)I"⟩, 11) := ⟨⟨by decide +kernel, by decide +kernel⟩, List.mem_of_getElem? (i := 383) (by decide +kernel), List.mem_of_getElem? (i := 541) (by decide +kernel), List.mem_of_getElem? (i := 542) (by decide +kernel)⟩
theorem lw_p54 : lw_okq (⟨"JobSpreadModel", "layUneven", "()V"⟩, 11) := ⟨⟨by decide +kernel, by decide +kernel⟩, List.mem_of_getElem? (i := 383) (by decide +kernel), List.mem_of_getElem? (i := 553) (by decide +kernel), List.mem_of_getElem? (i := 554) (by decide +kernel)⟩
theorem lw_p55 : lw_okq (⟨"JobSpreadModel", "sumOf", "(I)I"⟩, 11) := ⟨⟨by decide +kernel, by decide +kernel⟩, List.mem_of_getElem? (i := 383) (by decide +kernel), List.mem_of_getElem? (i := 567) (by decide +kernel), List.mem_of_getElem? (i := 568) (by decide +kernel)⟩
theorem lw_p56 : lw_okq (⟨"JobSpreadModel", "isAnyBelow", "()Z"⟩, 11) := ⟨⟨by decide +kernel, by decide +kernel⟩, List.mem_of_getElem? (i := 383) (by decide +kernel), List.mem_of_getElem? (i := 581) (by decide +kernel), List.mem_of_getElem? (i := 582) (by decide +kernel)⟩
theorem lw_p57 : lw_okq (⟨"JobSpreadModel", "idealRound", "(I)V"⟩, 11) := ⟨⟨by decide +kernel, by decide +kernel⟩, List.mem_of_getElem? (i := 383) (by decide +kernel), List.mem_of_getElem? (i := 586) (by decide +kernel), List.mem_of_getElem? (i := 587) (by decide +kernel)⟩
theorem lw_p58 : lw_okq (⟨"JobSpreadModel", "save", "(I)V"⟩, 11) := ⟨⟨by decide +kernel, by decide +kernel⟩, List.mem_of_getElem? (i := 383) (by decide +kernel), List.mem_of_getElem? (i := 594) (by decide +kernel), List.mem_of_getElem? (i := 595) (by decide +kernel)⟩
theorem lw_p59 : lw_okq (⟨"JobSpreadModel", "isEven", "(I)Z"⟩, 11) := ⟨⟨by decide +kernel, by decide +kernel⟩, List.mem_of_getElem? (i := 383) (by decide +kernel), List.mem_of_getElem? (i := 598) (by decide +kernel), List.mem_of_getElem? (i := 599) (by decide +kernel)⟩
theorem lw_p60 : lw_okq (⟨"JobSpreadModel", "load", "(I)V"⟩, 11) := ⟨⟨by decide +kernel, by decide +kernel⟩, List.mem_of_getElem? (i := 383) (by decide +kernel), List.mem_of_getElem? (i := 602) (by decide +kernel), List.mem_of_getElem? (i := 603) (by decide +kernel)⟩
theorem lw_p61 : lw_okq (⟨"JobSpreadModel", "layTime", "(I)V"⟩, 11) := ⟨⟨by decide +kernel, by decide +kernel⟩, List.mem_of_getElem? (i := 383) (by decide +kernel), List.mem_of_getElem? (i := 610) (by decide +kernel), List.mem_of_getElem? (i := 611) (by decide +kernel)⟩
theorem lw_p62 : lw_okq (⟨"JobSpreadModel", "isAlike", "(II)Z"⟩, 11) := ⟨⟨by decide +kernel, by decide +kernel⟩, List.mem_of_getElem? (i := 383) (by decide +kernel), List.mem_of_getElem? (i := 614) (by decide +kernel), List.mem_of_getElem? (i := 615) (by decide +kernel)⟩
theorem lw_p63 : lw_okq (⟨"JobSpreadModel", "below", "()I"⟩, 11) := ⟨⟨by decide +kernel, by decide +kernel⟩, List.mem_of_getElem? (i := 383) (by decide +kernel), List.mem_of_getElem? (i := 630) (by decide +kernel), List.mem_of_getElem? (i := 631) (by decide +kernel)⟩
def lw_privs_4 : List (MethodName × Nat) := [(⟨"JobSpreadModel", "takeNext", "()V"⟩, 11), (⟨"JobSpreadModel", "exchange", "()I"⟩, 11), (⟨"JobSpreadModel", "colours", "()I"⟩, 11), (⟨"JobSpreadModel", "even", "(II)I"⟩, 11), (⟨"JobSpreadModel", "rotor", "()I"⟩, 11), (⟨"JobSpreadModel", "deal", "(I)I"⟩, 11), (⟨"JobSpreadModel", "layUneven", "()V"⟩, 11), (⟨"JobSpreadModel", "sumOf", "(I)I"⟩, 11), (⟨"JobSpreadModel", "isAnyBelow", "()Z"⟩, 11), (⟨"JobSpreadModel", "idealRound", "(I)V"⟩, 11), (⟨"JobSpreadModel", "save", "(I)V"⟩, 11), (⟨"JobSpreadModel", "isEven", "(I)Z"⟩, 11), (⟨"JobSpreadModel", "load", "(I)V"⟩, 11), (⟨"JobSpreadModel", "layTime", "(I)V"⟩, 11), (⟨"JobSpreadModel", "isAlike", "(II)Z"⟩, 11), (⟨"JobSpreadModel", "below", "()I"⟩, 11)]
theorem lw_r4 : ∀ q ∈ lw_privs_4, lw_okq q := List.forall_mem_cons.mpr ⟨lw_p48, List.forall_mem_cons.mpr ⟨lw_p49, List.forall_mem_cons.mpr ⟨lw_p50, List.forall_mem_cons.mpr ⟨lw_p51, List.forall_mem_cons.mpr ⟨lw_p52, List.forall_mem_cons.mpr ⟨lw_p53, List.forall_mem_cons.mpr ⟨lw_p54, List.forall_mem_cons.mpr ⟨lw_p55, List.forall_mem_cons.mpr ⟨lw_p56, List.forall_mem_cons.mpr ⟨lw_p57, List.forall_mem_cons.mpr ⟨lw_p58, List.forall_mem_cons.mpr ⟨lw_p59, List.forall_mem_cons.mpr ⟨lw_p60, List.forall_mem_cons.mpr ⟨lw_p61, List.forall_mem_cons.mpr ⟨lw_p62, List.forall_mem_cons.mpr ⟨lw_p63, fun _ h => absurd h List.not_mem_nil⟩⟩⟩⟩⟩⟩⟩⟩⟩⟩⟩⟩⟩⟩⟩⟩
def lw_privs : List (MethodName × Nat) := lw_privs_1 ++ (lw_privs_2 ++ (lw_privs_3 ++ (lw_privs_4)))
def lw_tbl : List Cond := k2_sels lw_privs ++ tables_1
theorem lw_privs_ok : ∀ q ∈ lw_privs, lw_okq q := by
  show ∀ q ∈ lw_privs_1 ++ (lw_privs_2 ++ (lw_privs_3 ++ (lw_privs_4))), lw_okq q
  exact List.forall_mem_append.mpr ⟨lw_r1, List.forall_mem_append.mpr ⟨lw_r2, List.forall_mem_append.mpr ⟨lw_r3, lw_r4⟩⟩⟩
end
section
/-! ===== BEGIN words of one list among another's, by their places ===== -/
theorem goodIn_r {big : List Cond} (ws : List Cond) (ps : List Nat) (hp : ws = ps.filterMap (fun i => big[i]?)) (h : ws.all goodWord = true) : GoodIn big ws := by
  intro w hw
  have h1 := List.all_eq_true.mp h w hw
  rw [hp] at hw
  obtain ⟨i, -, hi⟩ := List.mem_filterMap.mp hw
  have hm : w ∈ big := by first | exact List.mem_of_getElem? hi | exact List.getElem?_mem hi
  exact ⟨hm, good_of_word h1⟩
theorem goodIn_app {big a b : List Cond} (ha : GoodIn big a) (hb : GoodIn big b) : GoodIn big (a ++ b) := fun w h => (List.mem_append.mp h).elim (ha w) (hb w)
theorem goodIn_ca {big a b : List Cond} {c : Cond} (ha : GoodIn big (c :: a)) (hb : GoodIn big b) : GoodIn big (c :: (a ++ b)) := fun w h => (List.mem_cons.mp h).elim (fun e => ha w (List.mem_cons.mpr (Or.inl e))) (fun h => (List.mem_append.mp h).elim (fun h => ha w (List.mem_cons.mpr (Or.inr h))) (hb w))
theorem goodIn_sub {big ws : List Cond} (hm : ∀ w ∈ ws, w ∈ big) (h : ws.all goodWord = true) : GoodIn big ws := fun w hw => ⟨hm w hw, good_of_word (List.all_eq_true.mp h w hw)⟩
/-! ===== END ===== -/

/-! ===== BEGIN printed: names, fields, word lists, decode rows ===== -/
def RX0 : String := "JobSpread$Net"
def TX0 : u_T := fun k => match k with
  | 0 => ("JobSpread$Net", "speed", "[I", true)
  | 1 => ("JobSpread$Net", "jobs", "[I", true)
  | 2 => ("JobSpread$Net", "rotor", "[I", true)
  | 3 => ("JobSpread$Net", "degree", "[I", true)
  | 4 => ("JobSpread$Net", "colour", "[I", true)
  | 5 => ("JobSpread$Net", "carry", "[I", true)
  | 6 => ("JobSpread$Net", "change", "[I", true)
  | 7 => ("JobSpread$Net", "edges", "I", false)
  | _ => ("JobSpread$Net", "rounds", "I", false)
def tyX0 : Nat → FieldType := fun k => match k with
  | 0 => .array .int
  | 1 => .array .int
  | 2 => .array .int
  | 3 => .array .int
  | 4 => .array .int
  | 5 => .array .int
  | 6 => .array .int
  | 7 => .int
  | _ => .int
abbrev wsX00 : List Cond := u_ws RX0 TX0 9
theorem nmX0 : ∀ a, a < 9 → ∀ b, b < 9 → a ≠ b → (TX0 a).2.1 ≠ (TX0 b).2.1 := by decide +kernel
theorem tyX0_ok : ∀ k, k < 9 → parseFieldDescriptor (TX0 k).2.2.1 = some (tyX0 k) := by decide +kernel
abbrev cX0_init : ByteArray := prog_2_method_1_code
def yX0_init : MethodName := ⟨RX0, "<init>", "()V"⟩
abbrev cX0_become : ByteArray := prog_2_method_2_code
def yX0_become : MethodName := ⟨RX0, "become", "(LJobSpread$Net;)V"⟩
abbrev cX0_joins : ByteArray := prog_2_method_3_code
def yX0_joins : MethodName := ⟨RX0, "joins", "(II)Z"⟩
abbrev cX0_lay : ByteArray := prog_2_method_4_code
def yX0_lay : MethodName := ⟨RX0, "lay", "(III)V"⟩
abbrev cX0_lift : ByteArray := prog_2_method_5_code
def yX0_lift : MethodName := ⟨RX0, "lift", "(II)V"⟩
abbrev cX0_liftAll : ByteArray := prog_2_method_6_code
def yX0_liftAll : MethodName := ⟨RX0, "liftAll", "()V"⟩
abbrev cX0_startAgain : ByteArray := prog_2_method_7_code
def yX0_startAgain : MethodName := ⟨RX0, "startAgain", "()V"⟩
abbrev cX0_slots : ByteArray := prog_2_method_8_code
def yX0_slots : MethodName := ⟨RX0, "slots", "(I)I"⟩
abbrev cX0_rotorLeftOver : ByteArray := prog_2_method_9_code
def yX0_rotorLeftOver : MethodName := ⟨RX0, "rotorLeftOver", "(I)I"⟩
abbrev cX0_measure : ByteArray := prog_2_method_10_code
def yX0_measure : MethodName := ⟨RX0, "measure", "()I"⟩
abbrev cX0_colours : ByteArray := prog_2_method_11_code
def yX0_colours : MethodName := ⟨RX0, "colours", "()I"⟩
abbrev cX0_allSpeeds : ByteArray := prog_2_method_12_code
def yX0_allSpeeds : MethodName := ⟨RX0, "allSpeeds", "()I"⟩
abbrev cX0_allJobs : ByteArray := prog_2_method_13_code
def yX0_allJobs : MethodName := ⟨RX0, "allJobs", "()J"⟩
abbrev cX0_nodesBelowZero : ByteArray := prog_2_method_14_code
def yX0_nodesBelowZero : MethodName := ⟨RX0, "nodesBelowZero", "()I"⟩
abbrev cX0_loadGap : ByteArray := prog_2_method_15_code
def yX0_loadGap : MethodName := ⟨RX0, "loadGap", "(II)J"⟩
abbrev cX0_mostLoaded : ByteArray := prog_2_method_16_code
def yX0_mostLoaded : MethodName := ⟨RX0, "mostLoaded", "()I"⟩
abbrev cX0_leastLoaded : ByteArray := prog_2_method_17_code
def yX0_leastLoaded : MethodName := ⟨RX0, "leastLoaded", "()I"⟩
abbrev cX0_isUnevenAtMost : ByteArray := prog_2_method_18_code
def yX0_isUnevenAtMost : MethodName := ⟨RX0, "isUnevenAtMost", "(I)Z"⟩
abbrev cX0_isAlike : ByteArray := prog_2_method_19_code
def yX0_isAlike : MethodName := ⟨RX0, "isAlike", "(LJobSpread$Net;)Z"⟩
abbrev cX0_goOn : ByteArray := prog_2_method_20_code
def yX0_goOn : MethodName := ⟨RX0, "goOn", "(II)I"⟩
abbrev cX0_flow : ByteArray := prog_2_method_21_code
def yX0_flow : MethodName := ⟨RX0, "flow", "()I"⟩
abbrev cX0_flowAlong : ByteArray := prog_2_method_22_code
def yX0_flowAlong : MethodName := ⟨RX0, "flowAlong", "(III)I"⟩
abbrev cX0_exchange : ByteArray := prog_2_method_23_code
def yX0_exchange : MethodName := ⟨RX0, "exchange", "()I"⟩
abbrev cX0_exchangeAlong : ByteArray := prog_2_method_24_code
def yX0_exchangeAlong : MethodName := ⟨RX0, "exchangeAlong", "(II)I"⟩
abbrev cX0_deal : ByteArray := prog_2_method_25_code
def yX0_deal : MethodName := ⟨RX0, "deal", "()I"⟩
abbrev cX0_dealFrom : ByteArray := prog_2_method_26_code
def yX0_dealFrom : MethodName := ⟨RX0, "dealFrom", "(I)I"⟩
abbrev cX0_settle : ByteArray := prog_2_method_27_code
def yX0_settle : MethodName := ⟨RX0, "settle", "()V"⟩
def RX1 : String := "JobSpread$Pad"
def TX1 : u_T := fun k => match k with
  | 0 => ("JobSpread$Pad", "signs", "[I", true)
  | _ => ("JobSpread$Pad", "length", "I", false)
def tyX1 : Nat → FieldType := fun k => match k with
  | 0 => .array .int
  | _ => .int
abbrev wsX10 : List Cond := u_ws RX1 TX1 2
theorem nmX1 : ∀ a, a < 2 → ∀ b, b < 2 → a ≠ b → (TX1 a).2.1 ≠ (TX1 b).2.1 := by decide +kernel
theorem tyX1_ok : ∀ k, k < 2 → parseFieldDescriptor (TX1 k).2.2.1 = some (tyX1 k) := by decide +kernel
abbrev cX1_init : ByteArray := prog_3_method_1_code
def yX1_init : MethodName := ⟨RX1, "<init>", "()V"⟩
abbrev cX1_add : ByteArray := prog_3_method_2_code
def yX1_add : MethodName := ⟨RX1, "add", "(I)V"⟩
abbrev cX1_nodeAt : ByteArray := prog_3_method_3_code
def yX1_nodeAt : MethodName := ⟨RX1, "nodeAt", "(I)I"⟩
abbrev cX1_colourAt : ByteArray := prog_3_method_4_code
def yX1_colourAt : MethodName := ⟨RX1, "colourAt", "(I)I"⟩
abbrev cX1_firstFault : ByteArray := prog_3_method_5_code
def yX1_firstFault : MethodName := ⟨RX1, "firstFault", "()I"⟩
abbrev cX1_canStand : ByteArray := prog_3_method_6_code
def yX1_canStand : MethodName := ⟨RX1, "canStand", "(I)Z"⟩
abbrev cX1_isToldBefore : ByteArray := prog_3_method_7_code
def yX1_isToldBefore : MethodName := ⟨RX1, "isToldBefore", "(I)Z"⟩
def RX2 : String := "JobSpread"
def TX2 : u_T := fun k => match k with
  | 0 => ("JobSpread", "pad", "LJobSpread$Pad;", true)
  | 1 => ("JobSpread", "now", "LJobSpread$Net;", true)
  | 2 => ("JobSpread", "firstImage", "LJobSpread$Net;", true)
  | 3 => ("JobSpread", "secondImage", "LJobSpread$Net;", true)
  | 4 => ("JobSpread", "kept", "I", false)
  | 5 => ("JobSpread", "walker", "LJobSpread$Net;", true)
  | 6 => ("JobSpread", "marker", "LJobSpread$Net;", true)
  | 7 => ("JobSpread", "level", "[J", true)
  | _ => ("JobSpread", "nextLevel", "[J", true)
def tyX2 : Nat → FieldType := fun k => match k with
  | 0 => .object "JobSpread$Pad"
  | 1 => .object "JobSpread$Net"
  | 2 => .object "JobSpread$Net"
  | 3 => .object "JobSpread$Net"
  | 4 => .int
  | 5 => .object "JobSpread$Net"
  | 6 => .object "JobSpread$Net"
  | 7 => .array .long
  | _ => .array .long
abbrev wsX20 : List Cond := u_ws RX2 TX2 9
theorem nmX2 : ∀ a, a < 9 → ∀ b, b < 9 → a ≠ b → (TX2 a).2.1 ≠ (TX2 b).2.1 := by decide +kernel
theorem tyX2_ok : ∀ k, k < 9 → parseFieldDescriptor (TX2 k).2.2.1 = some (tyX2 k) := by decide +kernel
abbrev cX2_init : ByteArray := prog_1_method_1_code
def yX2_init : MethodName := ⟨RX2, "<init>", "()V"⟩
abbrev cX2_node : ByteArray := prog_1_method_2_code
def yX2_node : MethodName := ⟨RX2, "node", "(III)I"⟩
abbrev cX2_edge : ByteArray := prog_1_method_3_code
def yX2_edge : MethodName := ⟨RX2, "edge", "(III)I"⟩
abbrev cX2_say : ByteArray := prog_1_method_4_code
def yX2_say : MethodName := ⟨RX2, "say", "(I)I"⟩
abbrev cX2_wipe : ByteArray := prog_1_method_5_code
def yX2_wipe : MethodName := ⟨RX2, "wipe", "()I"⟩
abbrev cX2_fault : ByteArray := prog_1_method_6_code
def yX2_fault : MethodName := ⟨RX2, "fault", "()I"⟩
abbrev cX2_net : ByteArray := prog_1_method_7_code
def yX2_net : MethodName := ⟨RX2, "net", "()I"⟩
abbrev cX2_jobs : ByteArray := prog_1_method_8_code
def yX2_jobs : MethodName := ⟨RX2, "jobs", "(I)I"⟩
abbrev cX2_told : ByteArray := prog_1_method_9_code
def yX2_told : MethodName := ⟨RX2, "told", "(II)I"⟩
abbrev cX2_toldColour : ByteArray := prog_1_method_10_code
def yX2_toldColour : MethodName := ⟨RX2, "toldColour", "(II)I"⟩
abbrev cX2_carry : ByteArray := prog_1_method_11_code
def yX2_carry : MethodName := ⟨RX2, "carry", "(II)I"⟩
abbrev cX2_run : ByteArray := prog_1_method_12_code
def yX2_run : MethodName := ⟨RX2, "run", "(II)I"⟩
abbrev cX2_reset : ByteArray := prog_1_method_13_code
def yX2_reset : MethodName := ⟨RX2, "reset", "()I"⟩
abbrev cX2_uneven : ByteArray := prog_1_method_14_code
def yX2_uneven : MethodName := ⟨RX2, "uneven", "(I)I"⟩
abbrev cX2_share : ByteArray := prog_1_method_15_code
def yX2_share : MethodName := ⟨RX2, "share", "(II)I"⟩
abbrev cX2_potential : ByteArray := prog_1_method_16_code
def yX2_potential : MethodName := ⟨RX2, "potential", "()J"⟩
abbrev cX2_ideal : ByteArray := prog_1_method_17_code
def yX2_ideal : MethodName := ⟨RX2, "ideal", "(III)J"⟩
abbrev cX2_flowUncut : ByteArray := prog_1_method_18_code
def yX2_flowUncut : MethodName := ⟨RX2, "flowUncut", "(I)V"⟩
abbrev cX2_until : ByteArray := prog_1_method_19_code
def yX2_until : MethodName := ⟨RX2, "until", "(II)I"⟩
abbrev cX2_ring : ByteArray := prog_1_method_20_code
def yX2_ring : MethodName := ⟨RX2, "ring", "(II)I"⟩
abbrev cX2_ringLength : ByteArray := prog_1_method_21_code
def yX2_ringLength : MethodName := ⟨RX2, "ringLength", "(I)I"⟩
abbrev cX2_ringStart : ByteArray := prog_1_method_22_code
def yX2_ringStart : MethodName := ⟨RX2, "ringStart", "(II)I"⟩
abbrev cX2_image : ByteArray := prog_1_method_23_code
def yX2_image : MethodName := ⟨RX2, "image", "(I)I"⟩
abbrev cX2_restore : ByteArray := prog_1_method_24_code
def yX2_restore : MethodName := ⟨RX2, "restore", "(I)I"⟩
abbrev cX2_imageAt : ByteArray := prog_1_method_25_code
def yX2_imageAt : MethodName := ⟨RX2, "imageAt", "(I)LJobSpread$Net;"⟩
abbrev cX2_count : ByteArray := prog_1_method_26_code
def yX2_count : MethodName := ⟨RX2, "count", "(I)I"⟩
abbrev cX2_isWithin : ByteArray := prog_1_method_27_code
def yX2_isWithin : MethodName := ⟨RX2, "isWithin", "(III)Z"⟩
abbrev cX2_isNode : ByteArray := prog_1_method_28_code
def yX2_isNode : MethodName := ⟨RX2, "isNode", "(I)Z"⟩
abbrev cX2_isRule : ByteArray := prog_1_method_29_code
def yX2_isRule : MethodName := ⟨RX2, "isRule", "(I)Z"⟩
abbrev cX2_isPart : ByteArray := prog_1_method_30_code
def yX2_isPart : MethodName := ⟨RX2, "isPart", "(I)Z"⟩
abbrev cX2_spot : ByteArray := prog_1_method_31_code
def yX2_spot : MethodName := ⟨RX2, "spot", "(II)I"⟩
abbrev cX2_partOf : ByteArray := prog_1_method_32_code
def yX2_partOf : MethodName := ⟨RX2, "partOf", "(JJI)J"⟩
abbrev cX2_commonDivisor : ByteArray := prog_1_method_33_code
def yX2_commonDivisor : MethodName := ⟨RX2, "commonDivisor", "(JJ)J"⟩
def RX3 : String := "JobSpreadModel"
def TX3 : u_T := fun k => match k with
  | 0 => ("JobSpreadModel", "state", "[I", true)
  | 1 => ("JobSpreadModel", "images", "[I", true)
  | 2 => ("JobSpreadModel", "isKept", "[Z", true)
  | 3 => ("JobSpreadModel", "pad", "[I", true)
  | 4 => ("JobSpreadModel", "said", "I", false)
  | 5 => ("JobSpreadModel", "next", "[I", true)
  | 6 => ("JobSpreadModel", "upper", "I", false)
  | 7 => ("JobSpreadModel", "lower", "I", false)
  | 8 => ("JobSpreadModel", "parts", "[J", true)
  | 9 => ("JobSpreadModel", "partsNext", "[J", true)
  | _ => ("JobSpreadModel", "times", "[I", true)
def tyX3 : Nat → FieldType := fun k => match k with
  | 0 => .array .int
  | 1 => .array .int
  | 2 => .array .boolean
  | 3 => .array .int
  | 4 => .int
  | 5 => .array .int
  | 6 => .int
  | 7 => .int
  | 8 => .array .long
  | 9 => .array .long
  | _ => .array .int
abbrev wsX30 : List Cond := u_ws RX3 TX3 11
theorem nmX3 : ∀ a, a < 11 → ∀ b, b < 11 → a ≠ b → (TX3 a).2.1 ≠ (TX3 b).2.1 := by decide +kernel
theorem tyX3_ok : ∀ k, k < 11 → parseFieldDescriptor (TX3 k).2.2.1 = some (tyX3 k) := by decide +kernel
abbrev cX3_init : ByteArray := prog_5_method_1_code
def yX3_init : MethodName := ⟨RX3, "<init>", "()V"⟩
abbrev cX3_in : ByteArray := prog_5_method_2_code
def yX3_in : MethodName := ⟨RX3, "in", "(III)Z"⟩
abbrev cX3_isNode : ByteArray := prog_5_method_3_code
def yX3_isNode : MethodName := ⟨RX3, "isNode", "(I)Z"⟩
abbrev cX3_pair : ByteArray := prog_5_method_4_code
def yX3_pair : MethodName := ⟨RX3, "pair", "(II)I"⟩
abbrev cX3_isEdge : ByteArray := prog_5_method_5_code
def yX3_isEdge : MethodName := ⟨RX3, "isEdge", "(II)Z"⟩
abbrev cX3_edges : ByteArray := prog_5_method_6_code
def yX3_edges : MethodName := ⟨RX3, "edges", "()I"⟩
abbrev cX3_edgesOf : ByteArray := prog_5_method_7_code
def yX3_edgesOf : MethodName := ⟨RX3, "edgesOf", "(I)I"⟩
abbrev cX3_node : ByteArray := prog_5_method_8_code
def yX3_node : MethodName := ⟨RX3, "node", "(III)I"⟩
abbrev cX3_lay : ByteArray := prog_5_method_9_code
def yX3_lay : MethodName := ⟨RX3, "lay", "(III)V"⟩
abbrev cX3_edge : ByteArray := prog_5_method_10_code
def yX3_edge : MethodName := ⟨RX3, "edge", "(III)I"⟩
abbrev cX3_say : ByteArray := prog_5_method_11_code
def yX3_say : MethodName := ⟨RX3, "say", "(I)I"⟩
abbrev cX3_wipe : ByteArray := prog_5_method_12_code
def yX3_wipe : MethodName := ⟨RX3, "wipe", "()I"⟩
abbrev cX3_letter : ByteArray := prog_5_method_13_code
def yX3_letter : MethodName := ⟨RX3, "letter", "(I)I"⟩
abbrev cX3_isNew : ByteArray := prog_5_method_14_code
def yX3_isNew : MethodName := ⟨RX3, "isNew", "(I)Z"⟩
abbrev cX3_canStand : ByteArray := prog_5_method_15_code
def yX3_canStand : MethodName := ⟨RX3, "canStand", "(I)Z"⟩
abbrev cX3_fault : ByteArray := prog_5_method_16_code
def yX3_fault : MethodName := ⟨RX3, "fault", "()I"⟩
abbrev cX3_net : ByteArray := prog_5_method_17_code
def yX3_net : MethodName := ⟨RX3, "net", "()I"⟩
abbrev cX3_jobs : ByteArray := prog_5_method_18_code
def yX3_jobs : MethodName := ⟨RX3, "jobs", "(I)I"⟩
abbrev cX3_told : ByteArray := prog_5_method_19_code
def yX3_told : MethodName := ⟨RX3, "told", "(II)I"⟩
abbrev cX3_carry : ByteArray := prog_5_method_20_code
def yX3_carry : MethodName := ⟨RX3, "carry", "(II)I"⟩
abbrev cX3_measure : ByteArray := prog_5_method_21_code
def yX3_measure : MethodName := ⟨RX3, "measure", "()I"⟩
abbrev cX3_colours : ByteArray := prog_5_method_22_code
def yX3_colours : MethodName := ⟨RX3, "colours", "()I"⟩
abbrev cX3_layNext : ByteArray := prog_5_method_23_code
def yX3_layNext : MethodName := ⟨RX3, "layNext", "()V"⟩
abbrev cX3_takeNext : ByteArray := prog_5_method_24_code
def yX3_takeNext : MethodName := ⟨RX3, "takeNext", "()V"⟩
abbrev cX3_flow : ByteArray := prog_5_method_25_code
def yX3_flow : MethodName := ⟨RX3, "flow", "()I"⟩
abbrev cX3_down : ByteArray := prog_5_method_26_code
def yX3_down : MethodName := ⟨RX3, "down", "(II)I"⟩
abbrev cX3_even : ByteArray := prog_5_method_27_code
def yX3_even : MethodName := ⟨RX3, "even", "(II)I"⟩
abbrev cX3_exchange : ByteArray := prog_5_method_28_code
def yX3_exchange : MethodName := ⟨RX3, "exchange", "()I"⟩
abbrev cX3_deal : ByteArray := prog_5_method_29_code
def yX3_deal : MethodName := ⟨RX3, "deal", "(I)I"⟩
abbrev cX3_rotor : ByteArray := prog_5_method_30_code
def yX3_rotor : MethodName := ⟨RX3, "rotor", "()I"⟩
abbrev cX3_round : ByteArray := prog_5_method_31_code
def yX3_round : MethodName := ⟨RX3, "round", "(I)I"⟩
abbrev cX3_run : ByteArray := prog_5_method_32_code
def yX3_run : MethodName := ⟨RX3, "run", "(II)I"⟩
abbrev cX3_reset : ByteArray := prog_5_method_33_code
def yX3_reset : MethodName := ⟨RX3, "reset", "()I"⟩
abbrev cX3_layUneven : ByteArray := prog_5_method_34_code
def yX3_layUneven : MethodName := ⟨RX3, "layUneven", "()V"⟩
abbrev cX3_common : ByteArray := prog_5_method_35_code
def yX3_common : MethodName := ⟨RX3, "common", "(JJ)J"⟩
abbrev cX3_told_ : ByteArray := prog_5_method_36_code
def yX3_told_ : MethodName := ⟨RX3, "told", "(JJI)J"⟩
abbrev cX3_uneven : ByteArray := prog_5_method_37_code
def yX3_uneven : MethodName := ⟨RX3, "uneven", "(I)I"⟩
abbrev cX3_sumOf : ByteArray := prog_5_method_38_code
def yX3_sumOf : MethodName := ⟨RX3, "sumOf", "(I)I"⟩
abbrev cX3_share : ByteArray := prog_5_method_39_code
def yX3_share : MethodName := ⟨RX3, "share", "(II)I"⟩
abbrev cX3_potential : ByteArray := prog_5_method_40_code
def yX3_potential : MethodName := ⟨RX3, "potential", "()J"⟩
abbrev cX3_idealRound : ByteArray := prog_5_method_41_code
def yX3_idealRound : MethodName := ⟨RX3, "idealRound", "(I)V"⟩
abbrev cX3_isAnyBelow : ByteArray := prog_5_method_42_code
def yX3_isAnyBelow : MethodName := ⟨RX3, "isAnyBelow", "()Z"⟩
abbrev cX3_ideal : ByteArray := prog_5_method_43_code
def yX3_ideal : MethodName := ⟨RX3, "ideal", "(III)J"⟩
abbrev cX3_save : ByteArray := prog_5_method_44_code
def yX3_save : MethodName := ⟨RX3, "save", "(I)V"⟩
abbrev cX3_load : ByteArray := prog_5_method_45_code
def yX3_load : MethodName := ⟨RX3, "load", "(I)V"⟩
abbrev cX3_isEven : ByteArray := prog_5_method_46_code
def yX3_isEven : MethodName := ⟨RX3, "isEven", "(I)Z"⟩
abbrev cX3_until : ByteArray := prog_5_method_47_code
def yX3_until : MethodName := ⟨RX3, "until", "(II)I"⟩
abbrev cX3_layTime : ByteArray := prog_5_method_48_code
def yX3_layTime : MethodName := ⟨RX3, "layTime", "(I)V"⟩
abbrev cX3_isAlike : ByteArray := prog_5_method_49_code
def yX3_isAlike : MethodName := ⟨RX3, "isAlike", "(II)Z"⟩
abbrev cX3_ring : ByteArray := prog_5_method_50_code
def yX3_ring : MethodName := ⟨RX3, "ring", "(II)I"⟩
abbrev cX3_image : ByteArray := prog_5_method_51_code
def yX3_image : MethodName := ⟨RX3, "image", "(I)I"⟩
abbrev cX3_restore : ByteArray := prog_5_method_52_code
def yX3_restore : MethodName := ⟨RX3, "restore", "(I)I"⟩
abbrev cX3_below : ByteArray := prog_5_method_53_code
def yX3_below : MethodName := ⟨RX3, "below", "()I"⟩
abbrev cX3_count : ByteArray := prog_5_method_54_code
def yX3_count : MethodName := ⟨RX3, "count", "(I)I"⟩
def RJ9 : String := "java/lang/Math"
def TJ9 : u_T := fun k => match k with
  | _ => ("", "", "", false)
def tyJ9 : Nat → FieldType := fun k => match k with
  | _ => .int
abbrev wsJ90 : List Cond := u_ws RJ9 TJ9 0
theorem nmJ9 : ∀ a, a < 0 → ∀ b, b < 0 → a ≠ b → (TJ9 a).2.1 ≠ (TJ9 b).2.1 := by decide +kernel
theorem tyJ9_ok : ∀ k, k < 0 → parseFieldDescriptor (TJ9 k).2.2.1 = some (tyJ9 k) := by decide +kernel
abbrev cJ9_floorDiv_7cf53 : ByteArray := prog_6_method_47_code
def yJ9_floorDiv_7cf53 : MethodName := ⟨RJ9, "floorDiv", "(II)I"⟩
abbrev cJ9_abs_0f7a4 : ByteArray := prog_6_method_59_code
def yJ9_abs_0f7a4 : MethodName := ⟨RJ9, "abs", "(I)I"⟩
abbrev cJ9_abs_067f4 : ByteArray := prog_6_method_61_code
def yJ9_abs_067f4 : MethodName := ⟨RJ9, "abs", "(J)J"⟩
abbrev cJ9_max_7cf53 : ByteArray := prog_6_method_65_code
def yJ9_max_7cf53 : MethodName := ⟨RJ9, "max", "(II)I"⟩
def RJ10 : String := "java/lang/System"
def TJ10 : u_T := fun k => match k with
  | _ => ("", "", "", false)
def tyJ10 : Nat → FieldType := fun k => match k with
  | _ => .int
abbrev wsJ100 : List Cond := u_ws RJ10 TJ10 0
theorem nmJ10 : ∀ a, a < 0 → ∀ b, b < 0 → a ≠ b → (TJ10 a).2.1 ≠ (TJ10 b).2.1 := by decide +kernel
theorem tyJ10_ok : ∀ k, k < 0 → parseFieldDescriptor (TJ10 k).2.2.1 = some (tyJ10 k) := by decide +kernel
def RL : String := "JobSpreadLaw"
abbrev cL_law : ByteArray := code
def yL_law : MethodName := ⟨RL, "law", "([I)Z"⟩
def wsX0_init : List Cond := .code yX0_init cX0_init 2 none :: ([.methodLink RX0 3 objectInit, .instanceMethod objectInit, .code objectInit ⟨#[0xb1]⟩ 1 none, .arrayClass .int, .fieldLink RX0 9 "JobSpread$Net" "speed" "[I", .fieldLink RX0 15 "JobSpread$Net" "jobs" "[I", .fieldLink RX0 18 "JobSpread$Net" "rotor" "[I", .fieldLink RX0 21 "JobSpread$Net" "degree" "[I", .fieldLink RX0 24 "JobSpread$Net" "colour" "[I", .fieldLink RX0 27 "JobSpread$Net" "carry" "[I", .fieldLink RX0 30 "JobSpread$Net" "change" "[I", .fieldLink RX0 33 "JobSpread$Net" "edges" "I", .fieldLink RX0 37 "JobSpread$Net" "rounds" "I"] ++ wsX00)
def wsX0_become : List Cond := .code yX0_become cX0_become 2 none :: ([.fieldLink RX0 9 "JobSpread$Net" "speed" "[I", .methodLink RX0 40 arraycopyName, .native arraycopyName, .static arraycopyName, .initialized "java/lang/System", .fieldLink RX0 15 "JobSpread$Net" "jobs" "[I", .fieldLink RX0 18 "JobSpread$Net" "rotor" "[I", .fieldLink RX0 21 "JobSpread$Net" "degree" "[I", .fieldLink RX0 24 "JobSpread$Net" "colour" "[I", .fieldLink RX0 27 "JobSpread$Net" "carry" "[I", .fieldLink RX0 33 "JobSpread$Net" "edges" "I", .fieldLink RX0 37 "JobSpread$Net" "rounds" "I"] ++ wsX00)
def wsX2_spot : List Cond := .code yX2_spot cX2_spot 2 (some .int) :: ([])
def wsX0_joins : List Cond := .code yX0_joins cX0_joins 3 (some .boolean) :: ([.fieldLink RX0 24 "JobSpread$Net" "colour" "[I", .static yX2_spot, .initialized RX2, .code yX2_spot cX2_spot 2 (some .int)] ++ wsX00)
def wsX0_lift : List Cond := .code yX0_lift cX0_lift 3 none :: ([.fieldLink RX0 24 "JobSpread$Net" "colour" "[I", .fieldLink RX0 27 "JobSpread$Net" "carry" "[I", .fieldLink RX0 21 "JobSpread$Net" "degree" "[I", .fieldLink RX0 33 "JobSpread$Net" "edges" "I", .methodLink RX0 54 yX0_joins, .instanceMethod yX0_joins, .selects RX0 yX0_joins yX0_joins, .initialized RX0, .code yX0_joins cX0_joins 3 (some .boolean), .static yX2_spot, .initialized RX2, .code yX2_spot cX2_spot 2 (some .int)] ++ wsX00)
def wsX0_lay : List Cond := .code yX0_lay cX0_lay 4 none :: ([.fieldLink RX0 24 "JobSpread$Net" "colour" "[I", .fieldLink RX0 21 "JobSpread$Net" "degree" "[I", .fieldLink RX0 33 "JobSpread$Net" "edges" "I", .methodLink RX0 50 yX0_lift, .instanceMethod yX0_lift, .selects RX0 yX0_lift yX0_lift, .initialized RX0, .code yX0_lift cX0_lift 3 none, .fieldLink RX0 27 "JobSpread$Net" "carry" "[I", .methodLink RX0 54 yX0_joins, .instanceMethod yX0_joins, .selects RX0 yX0_joins yX0_joins, .code yX0_joins cX0_joins 3 (some .boolean), .static yX2_spot, .initialized RX2, .code yX2_spot cX2_spot 2 (some .int)] ++ wsX00)
def wsX0_liftAll : List Cond := .code yX0_liftAll cX0_liftAll 3 none :: ([.methodLink RX0 50 yX0_lift, .instanceMethod yX0_lift, .selects RX0 yX0_lift yX0_lift, .initialized RX0, .code yX0_lift cX0_lift 3 none, .fieldLink RX0 24 "JobSpread$Net" "colour" "[I", .fieldLink RX0 27 "JobSpread$Net" "carry" "[I", .fieldLink RX0 21 "JobSpread$Net" "degree" "[I", .fieldLink RX0 33 "JobSpread$Net" "edges" "I", .methodLink RX0 54 yX0_joins, .instanceMethod yX0_joins, .selects RX0 yX0_joins yX0_joins, .code yX0_joins cX0_joins 3 (some .boolean), .static yX2_spot, .initialized RX2, .code yX2_spot cX2_spot 2 (some .int)] ++ wsX00)
def wsX0_startAgain : List Cond := .code yX0_startAgain cX0_startAgain 2 none :: ([.fieldLink RX0 18 "JobSpread$Net" "rotor" "[I", .fieldLink RX0 27 "JobSpread$Net" "carry" "[I", .fieldLink RX0 37 "JobSpread$Net" "rounds" "I"] ++ wsX00)
def wsX0_slots : List Cond := .code yX0_slots cX0_slots 2 (some .int) :: ([.fieldLink RX0 21 "JobSpread$Net" "degree" "[I"] ++ wsX00)
def wsX0_rotorLeftOver : List Cond := .code yX0_rotorLeftOver cX0_rotorLeftOver 2 (some .int) :: ([.fieldLink RX0 18 "JobSpread$Net" "rotor" "[I", .methodLink RX0 58 yX0_slots, .instanceMethod yX0_slots, .selects RX0 yX0_slots yX0_slots, .initialized RX0, .code yX0_slots cX0_slots 2 (some .int), .fieldLink RX0 21 "JobSpread$Net" "degree" "[I"] ++ wsX00)
def wsX0_measure : List Cond := .code yX0_measure cX0_measure 3 (some .int) :: ([.methodLink RX0 62 Lib.Math.max.name, .static Lib.Math.max.name, .initialized "java/lang/Math", .code Lib.Math.max.name Lib.Math.max.code 2 (some .int), .methodLink RX0 58 yX0_slots, .instanceMethod yX0_slots, .selects RX0 yX0_slots yX0_slots, .initialized RX0, .code yX0_slots cX0_slots 2 (some .int), .fieldLink RX0 21 "JobSpread$Net" "degree" "[I"] ++ wsX00)
def wsX0_colours : List Cond := .code yX0_colours cX0_colours 3 (some .int) :: ([.fieldLink RX0 24 "JobSpread$Net" "colour" "[I", .methodLink RX0 62 Lib.Math.max.name, .static Lib.Math.max.name, .initialized "java/lang/Math", .code Lib.Math.max.name Lib.Math.max.code 2 (some .int)] ++ wsX00)
def wsX0_allSpeeds : List Cond := .code yX0_allSpeeds cX0_allSpeeds 3 (some .int) :: ([.fieldLink RX0 9 "JobSpread$Net" "speed" "[I"] ++ wsX00)
def wsX0_allJobs : List Cond := .code yX0_allJobs cX0_allJobs 4 (some .long) :: ([.fieldLink RX0 15 "JobSpread$Net" "jobs" "[I"] ++ wsX00)
def wsX0_nodesBelowZero : List Cond := .code yX0_nodesBelowZero cX0_nodesBelowZero 3 (some .int) :: ([.fieldLink RX0 15 "JobSpread$Net" "jobs" "[I"] ++ wsX00)
def wsX0_loadGap : List Cond := .code yX0_loadGap cX0_loadGap 3 (some .long) :: ([.fieldLink RX0 15 "JobSpread$Net" "jobs" "[I", .fieldLink RX0 9 "JobSpread$Net" "speed" "[I"] ++ wsX00)
def wsX0_mostLoaded : List Cond := .code yX0_mostLoaded cX0_mostLoaded 3 (some .int) :: ([.methodLink RX0 67 yX0_loadGap, .instanceMethod yX0_loadGap, .selects RX0 yX0_loadGap yX0_loadGap, .initialized RX0, .code yX0_loadGap cX0_loadGap 3 (some .long), .fieldLink RX0 15 "JobSpread$Net" "jobs" "[I", .fieldLink RX0 9 "JobSpread$Net" "speed" "[I"] ++ wsX00)
def wsX0_leastLoaded : List Cond := .code yX0_leastLoaded cX0_leastLoaded 3 (some .int) :: ([.methodLink RX0 67 yX0_loadGap, .instanceMethod yX0_loadGap, .selects RX0 yX0_loadGap yX0_loadGap, .initialized RX0, .code yX0_loadGap cX0_loadGap 3 (some .long), .fieldLink RX0 15 "JobSpread$Net" "jobs" "[I", .fieldLink RX0 9 "JobSpread$Net" "speed" "[I"] ++ wsX00)
def wsX0_isUnevenAtMost : List Cond := .code yX0_isUnevenAtMost cX0_isUnevenAtMost 4 (some .boolean) :: ([.fieldLink RX0 9 "JobSpread$Net" "speed" "[I", .methodLink RX0 71 yX0_mostLoaded, .instanceMethod yX0_mostLoaded, .selects RX0 yX0_mostLoaded yX0_mostLoaded, .initialized RX0, .code yX0_mostLoaded cX0_mostLoaded 3 (some .int), .methodLink RX0 67 yX0_loadGap, .instanceMethod yX0_loadGap, .selects RX0 yX0_loadGap yX0_loadGap, .code yX0_loadGap cX0_loadGap 3 (some .long), .fieldLink RX0 15 "JobSpread$Net" "jobs" "[I", .methodLink RX0 75 yX0_leastLoaded, .instanceMethod yX0_leastLoaded, .selects RX0 yX0_leastLoaded yX0_leastLoaded, .code yX0_leastLoaded cX0_leastLoaded 3 (some .int)] ++ wsX00)
def wsX0_isAlike : List Cond := .code yX0_isAlike cX0_isAlike 3 (some .boolean) :: ([.fieldLink RX0 15 "JobSpread$Net" "jobs" "[I", .fieldLink RX0 27 "JobSpread$Net" "carry" "[I", .fieldLink RX0 37 "JobSpread$Net" "rounds" "I", .methodLink RX0 78 yX0_rotorLeftOver, .instanceMethod yX0_rotorLeftOver, .selects RX0 yX0_rotorLeftOver yX0_rotorLeftOver, .initialized RX0, .code yX0_rotorLeftOver cX0_rotorLeftOver 2 (some .int), .fieldLink RX0 18 "JobSpread$Net" "rotor" "[I", .methodLink RX0 58 yX0_slots, .instanceMethod yX0_slots, .selects RX0 yX0_slots yX0_slots, .code yX0_slots cX0_slots 2 (some .int), .fieldLink RX0 21 "JobSpread$Net" "degree" "[I", .methodLink RX0 81 yX0_colours, .instanceMethod yX0_colours, .selects RX0 yX0_colours yX0_colours, .code yX0_colours cX0_colours 3 (some .int), .fieldLink RX0 24 "JobSpread$Net" "colour" "[I", .methodLink RX0 62 Lib.Math.max.name, .static Lib.Math.max.name, .initialized "java/lang/Math", .code Lib.Math.max.name Lib.Math.max.code 2 (some .int)] ++ wsX00)
def wsX0_flowAlong : List Cond := .code yX0_flowAlong cX0_flowAlong 7 (some .int) :: ([.fieldLink RX0 27 "JobSpread$Net" "carry" "[I", .fieldLink RX0 15 "JobSpread$Net" "jobs" "[I", .fieldLink RX0 9 "JobSpread$Net" "speed" "[I", .fieldLink RX0 30 "JobSpread$Net" "change" "[I", .methodLink RX0 103 Lib.Math.abs.name, .static Lib.Math.abs.name, .initialized "java/lang/Math", .code Lib.Math.abs.name Lib.Math.abs.code 1 (some .int), .static yX2_spot, .initialized RX2, .code yX2_spot cX2_spot 2 (some .int)] ++ wsX00)
def wsX0_settle : List Cond := .code yX0_settle cX0_settle 2 none :: ([.fieldLink RX0 15 "JobSpread$Net" "jobs" "[I", .fieldLink RX0 30 "JobSpread$Net" "change" "[I"] ++ wsX00)
def wsX0_flow_r1 : List Cond := [Cond.methodLink RX0 93 yX0_measure, Cond.instanceMethod yX0_measure, Cond.selects RX0 yX0_measure yX0_measure, Cond.initialized RX0, Cond.code yX0_measure cX0_measure 3 (some .int), Cond.methodLink RX0 62 Lib.Math.max.name, Cond.static Lib.Math.max.name, Cond.initialized "java/lang/Math", Cond.code Lib.Math.max.name Lib.Math.max.code 2 (some .int), Cond.methodLink RX0 58 yX0_slots, Cond.instanceMethod yX0_slots, Cond.selects RX0 yX0_slots yX0_slots, Cond.code yX0_slots cX0_slots 2 (some .int), Cond.fieldLink RX0 21 "JobSpread$Net" "degree" "[I", Cond.methodLink RX0 54 yX0_joins, Cond.instanceMethod yX0_joins, Cond.selects RX0 yX0_joins yX0_joins, Cond.code yX0_joins cX0_joins 3 (some .boolean), Cond.fieldLink RX0 24 "JobSpread$Net" "colour" "[I", Cond.static yX2_spot, Cond.initialized RX2, Cond.code yX2_spot cX2_spot 2 (some .int), Cond.methodLink RX0 96 yX0_flowAlong, Cond.instanceMethod yX0_flowAlong]
def wsX0_flow_r2 : List Cond := [Cond.selects RX0 yX0_flowAlong yX0_flowAlong, Cond.code yX0_flowAlong cX0_flowAlong 7 (some .int), Cond.fieldLink RX0 27 "JobSpread$Net" "carry" "[I", Cond.fieldLink RX0 15 "JobSpread$Net" "jobs" "[I", Cond.fieldLink RX0 9 "JobSpread$Net" "speed" "[I", Cond.fieldLink RX0 30 "JobSpread$Net" "change" "[I", Cond.methodLink RX0 103 Lib.Math.abs.name, Cond.static Lib.Math.abs.name, Cond.code Lib.Math.abs.name Lib.Math.abs.code 1 (some .int), Cond.methodLink RX0 100 yX0_settle, Cond.instanceMethod yX0_settle, Cond.selects RX0 yX0_settle yX0_settle, Cond.code yX0_settle cX0_settle 2 none]
def wsX0_flow : List Cond := .code yX0_flow cX0_flow 5 (some .int) :: ((wsX0_flow_r1 ++ wsX0_flow_r2) ++ wsX00)
def wsJ9_floorDiv_7cf53 : List Cond := .code yJ9_floorDiv_7cf53 cJ9_floorDiv_7cf53 3 (some .int) :: ([])
def wsX0_exchangeAlong : List Cond := .code yX0_exchangeAlong cX0_exchangeAlong 8 (some .int) :: ([.fieldLink RX0 15 "JobSpread$Net" "jobs" "[I", .fieldLink RX0 9 "JobSpread$Net" "speed" "[I", .methodLink RX0 62 Lib.Math.max.name, .static Lib.Math.max.name, .initialized "java/lang/Math", .code Lib.Math.max.name Lib.Math.max.code 2 (some .int), .methodLink RX0 103 Lib.Math.abs.name, .static Lib.Math.abs.name, .code Lib.Math.abs.name Lib.Math.abs.code 1 (some .int), .methodLink RX0 109 yJ9_floorDiv_7cf53, .static yJ9_floorDiv_7cf53, .initialized RJ9, .code yJ9_floorDiv_7cf53 cJ9_floorDiv_7cf53 3 (some .int)] ++ wsX00)
def wsX0_exchange_r1 : List Cond := [Cond.fieldLink RX0 37 "JobSpread$Net" "rounds" "I", Cond.fieldLink RX0 24 "JobSpread$Net" "colour" "[I", Cond.methodLink RX0 81 yX0_colours, Cond.instanceMethod yX0_colours, Cond.selects RX0 yX0_colours yX0_colours, Cond.initialized RX0, Cond.code yX0_colours cX0_colours 3 (some .int), Cond.methodLink RX0 62 Lib.Math.max.name, Cond.static Lib.Math.max.name, Cond.initialized "java/lang/Math", Cond.code Lib.Math.max.name Lib.Math.max.code 2 (some .int), Cond.methodLink RX0 54 yX0_joins, Cond.instanceMethod yX0_joins, Cond.selects RX0 yX0_joins yX0_joins, Cond.code yX0_joins cX0_joins 3 (some .boolean), Cond.static yX2_spot, Cond.initialized RX2, Cond.code yX2_spot cX2_spot 2 (some .int), Cond.methodLink RX0 106 yX0_exchangeAlong, Cond.instanceMethod yX0_exchangeAlong, Cond.selects RX0 yX0_exchangeAlong yX0_exchangeAlong, Cond.code yX0_exchangeAlong cX0_exchangeAlong 8 (some .int), Cond.fieldLink RX0 15 "JobSpread$Net" "jobs" "[I", Cond.fieldLink RX0 9 "JobSpread$Net" "speed" "[I"]
def wsX0_exchange_r2 : List Cond := [Cond.methodLink RX0 103 Lib.Math.abs.name, Cond.static Lib.Math.abs.name, Cond.code Lib.Math.abs.name Lib.Math.abs.code 1 (some .int), Cond.methodLink RX0 109 yJ9_floorDiv_7cf53, Cond.static yJ9_floorDiv_7cf53, Cond.initialized RJ9, Cond.code yJ9_floorDiv_7cf53 cJ9_floorDiv_7cf53 3 (some .int)]
def wsX0_exchange : List Cond := .code yX0_exchange cX0_exchange 5 (some .int) :: ((wsX0_exchange_r1 ++ wsX0_exchange_r2) ++ wsX00)
def wsX0_dealFrom : List Cond := .code yX0_dealFrom cX0_dealFrom 11 (some .int) :: ([.fieldLink RX0 15 "JobSpread$Net" "jobs" "[I", .fieldLink RX0 30 "JobSpread$Net" "change" "[I", .fieldLink RX0 18 "JobSpread$Net" "rotor" "[I", .methodLink RX0 58 yX0_slots, .instanceMethod yX0_slots, .selects RX0 yX0_slots yX0_slots, .initialized RX0, .code yX0_slots cX0_slots 2 (some .int), .fieldLink RX0 21 "JobSpread$Net" "degree" "[I", .methodLink RX0 78 yX0_rotorLeftOver, .instanceMethod yX0_rotorLeftOver, .selects RX0 yX0_rotorLeftOver yX0_rotorLeftOver, .code yX0_rotorLeftOver cX0_rotorLeftOver 2 (some .int), .methodLink RX0 54 yX0_joins, .instanceMethod yX0_joins, .selects RX0 yX0_joins yX0_joins, .code yX0_joins cX0_joins 3 (some .boolean), .fieldLink RX0 24 "JobSpread$Net" "colour" "[I", .static yX2_spot, .initialized RX2, .code yX2_spot cX2_spot 2 (some .int)] ++ wsX00)
def wsX0_deal_r1 : List Cond := [Cond.fieldLink RX0 15 "JobSpread$Net" "jobs" "[I", Cond.methodLink RX0 112 yX0_dealFrom, Cond.instanceMethod yX0_dealFrom, Cond.selects RX0 yX0_dealFrom yX0_dealFrom, Cond.initialized RX0, Cond.code yX0_dealFrom cX0_dealFrom 11 (some .int), Cond.fieldLink RX0 30 "JobSpread$Net" "change" "[I", Cond.fieldLink RX0 18 "JobSpread$Net" "rotor" "[I", Cond.methodLink RX0 58 yX0_slots, Cond.instanceMethod yX0_slots, Cond.selects RX0 yX0_slots yX0_slots, Cond.code yX0_slots cX0_slots 2 (some .int), Cond.fieldLink RX0 21 "JobSpread$Net" "degree" "[I", Cond.methodLink RX0 78 yX0_rotorLeftOver, Cond.instanceMethod yX0_rotorLeftOver, Cond.selects RX0 yX0_rotorLeftOver yX0_rotorLeftOver, Cond.code yX0_rotorLeftOver cX0_rotorLeftOver 2 (some .int), Cond.methodLink RX0 54 yX0_joins, Cond.instanceMethod yX0_joins, Cond.selects RX0 yX0_joins yX0_joins, Cond.code yX0_joins cX0_joins 3 (some .boolean), Cond.fieldLink RX0 24 "JobSpread$Net" "colour" "[I", Cond.static yX2_spot, Cond.initialized RX2]
def wsX0_deal_r2 : List Cond := [Cond.code yX2_spot cX2_spot 2 (some .int), Cond.methodLink RX0 100 yX0_settle, Cond.instanceMethod yX0_settle, Cond.selects RX0 yX0_settle yX0_settle, Cond.code yX0_settle cX0_settle 2 none]
def wsX0_deal : List Cond := .code yX0_deal cX0_deal 3 (some .int) :: ((wsX0_deal_r1 ++ wsX0_deal_r2) ++ wsX00)
def wsX0_goOn_r1 : List Cond := [Cond.fieldLink RX0 37 "JobSpread$Net" "rounds" "I", Cond.methodLink RX0 84 yX0_flow, Cond.instanceMethod yX0_flow, Cond.selects RX0 yX0_flow yX0_flow, Cond.initialized RX0, Cond.code yX0_flow cX0_flow 5 (some .int), Cond.methodLink RX0 93 yX0_measure, Cond.instanceMethod yX0_measure, Cond.selects RX0 yX0_measure yX0_measure, Cond.code yX0_measure cX0_measure 3 (some .int), Cond.methodLink RX0 62 Lib.Math.max.name, Cond.static Lib.Math.max.name, Cond.initialized "java/lang/Math", Cond.code Lib.Math.max.name Lib.Math.max.code 2 (some .int), Cond.methodLink RX0 58 yX0_slots, Cond.instanceMethod yX0_slots, Cond.selects RX0 yX0_slots yX0_slots, Cond.code yX0_slots cX0_slots 2 (some .int), Cond.fieldLink RX0 21 "JobSpread$Net" "degree" "[I", Cond.methodLink RX0 54 yX0_joins, Cond.instanceMethod yX0_joins, Cond.selects RX0 yX0_joins yX0_joins, Cond.code yX0_joins cX0_joins 3 (some .boolean), Cond.fieldLink RX0 24 "JobSpread$Net" "colour" "[I"]
def wsX0_goOn_r2 : List Cond := [Cond.static yX2_spot, Cond.initialized RX2, Cond.code yX2_spot cX2_spot 2 (some .int), Cond.methodLink RX0 96 yX0_flowAlong, Cond.instanceMethod yX0_flowAlong, Cond.selects RX0 yX0_flowAlong yX0_flowAlong, Cond.code yX0_flowAlong cX0_flowAlong 7 (some .int), Cond.fieldLink RX0 27 "JobSpread$Net" "carry" "[I", Cond.fieldLink RX0 15 "JobSpread$Net" "jobs" "[I", Cond.fieldLink RX0 9 "JobSpread$Net" "speed" "[I", Cond.fieldLink RX0 30 "JobSpread$Net" "change" "[I", Cond.methodLink RX0 103 Lib.Math.abs.name, Cond.static Lib.Math.abs.name, Cond.code Lib.Math.abs.name Lib.Math.abs.code 1 (some .int), Cond.methodLink RX0 100 yX0_settle, Cond.instanceMethod yX0_settle, Cond.selects RX0 yX0_settle yX0_settle, Cond.code yX0_settle cX0_settle 2 none, Cond.methodLink RX0 87 yX0_exchange, Cond.instanceMethod yX0_exchange, Cond.selects RX0 yX0_exchange yX0_exchange, Cond.code yX0_exchange cX0_exchange 5 (some .int), Cond.methodLink RX0 81 yX0_colours, Cond.instanceMethod yX0_colours]
def wsX0_goOn_r3 : List Cond := [Cond.selects RX0 yX0_colours yX0_colours, Cond.code yX0_colours cX0_colours 3 (some .int), Cond.methodLink RX0 106 yX0_exchangeAlong, Cond.instanceMethod yX0_exchangeAlong, Cond.selects RX0 yX0_exchangeAlong yX0_exchangeAlong, Cond.code yX0_exchangeAlong cX0_exchangeAlong 8 (some .int), Cond.methodLink RX0 109 yJ9_floorDiv_7cf53, Cond.static yJ9_floorDiv_7cf53, Cond.initialized RJ9, Cond.code yJ9_floorDiv_7cf53 cJ9_floorDiv_7cf53 3 (some .int), Cond.methodLink RX0 90 yX0_deal, Cond.instanceMethod yX0_deal, Cond.selects RX0 yX0_deal yX0_deal, Cond.code yX0_deal cX0_deal 3 (some .int), Cond.methodLink RX0 112 yX0_dealFrom, Cond.instanceMethod yX0_dealFrom, Cond.selects RX0 yX0_dealFrom yX0_dealFrom, Cond.code yX0_dealFrom cX0_dealFrom 11 (some .int), Cond.fieldLink RX0 18 "JobSpread$Net" "rotor" "[I", Cond.methodLink RX0 78 yX0_rotorLeftOver, Cond.instanceMethod yX0_rotorLeftOver, Cond.selects RX0 yX0_rotorLeftOver yX0_rotorLeftOver, Cond.code yX0_rotorLeftOver cX0_rotorLeftOver 2 (some .int)]
def wsX0_goOn : List Cond := .code yX0_goOn cX0_goOn 5 (some .int) :: ((wsX0_goOn_r1 ++ (wsX0_goOn_r2 ++ wsX0_goOn_r3)) ++ wsX00)
def wsX1_init : List Cond := .code yX1_init cX1_init 1 none :: ([.methodLink RX1 3 objectInit, .instanceMethod objectInit, .code objectInit ⟨#[0xb1]⟩ 1 none, .arrayClass .int, .fieldLink RX1 9 "JobSpread$Pad" "signs" "[I", .fieldLink RX1 15 "JobSpread$Pad" "length" "I"] ++ wsX10)
def wsX1_add : List Cond := .code yX1_add cX1_add 2 none :: ([.fieldLink RX1 15 "JobSpread$Pad" "length" "I", .fieldLink RX1 9 "JobSpread$Pad" "signs" "[I"] ++ wsX10)
def wsX1_nodeAt : List Cond := .code yX1_nodeAt cX1_nodeAt 2 (some .int) :: ([.fieldLink RX1 9 "JobSpread$Pad" "signs" "[I"] ++ wsX10)
def wsX1_colourAt : List Cond := .code yX1_colourAt cX1_colourAt 2 (some .int) :: ([.fieldLink RX1 9 "JobSpread$Pad" "signs" "[I"] ++ wsX10)
def wsX2_isWithin : List Cond := .code yX2_isWithin cX2_isWithin 3 (some .boolean) :: ([])
def wsX2_isNode : List Cond := .code yX2_isNode cX2_isNode 1 (some .boolean) :: ([.methodLink RX2 50 yX2_isWithin, .static yX2_isWithin, .initialized RX2, .code yX2_isWithin cX2_isWithin 3 (some .boolean)])
def wsX1_isToldBefore : List Cond := .code yX1_isToldBefore cX1_isToldBefore 4 (some .boolean) :: ([.methodLink RX1 23 yX1_nodeAt, .instanceMethod yX1_nodeAt, .selects RX1 yX1_nodeAt yX1_nodeAt, .initialized RX1, .code yX1_nodeAt cX1_nodeAt 2 (some .int), .fieldLink RX1 9 "JobSpread$Pad" "signs" "[I", .static yX2_spot, .initialized RX2, .code yX2_spot cX2_spot 2 (some .int)] ++ wsX10)
def wsX1_canStand : List Cond := .code yX1_canStand cX1_canStand 2 (some .boolean) :: ([.fieldLink RX1 9 "JobSpread$Pad" "signs" "[I", .methodLink RX1 23 yX1_nodeAt, .instanceMethod yX1_nodeAt, .selects RX1 yX1_nodeAt yX1_nodeAt, .initialized RX1, .code yX1_nodeAt cX1_nodeAt 2 (some .int), .static yX2_isNode, .initialized RX2, .code yX2_isNode cX2_isNode 1 (some .boolean), .methodLink RX2 50 yX2_isWithin, .static yX2_isWithin, .code yX2_isWithin cX2_isWithin 3 (some .boolean), .methodLink RX1 30 yX1_isToldBefore, .instanceMethod yX1_isToldBefore, .selects RX1 yX1_isToldBefore yX1_isToldBefore, .code yX1_isToldBefore cX1_isToldBefore 4 (some .boolean), .static yX2_spot, .code yX2_spot cX2_spot 2 (some .int), .methodLink RX1 33 yX1_colourAt, .instanceMethod yX1_colourAt, .selects RX1 yX1_colourAt yX1_colourAt, .code yX1_colourAt cX1_colourAt 2 (some .int)] ++ wsX10)
def wsX1_firstFault_r1 : List Cond := [Cond.fieldLink RX1 15 "JobSpread$Pad" "length" "I", Cond.methodLink RX1 19 yX1_canStand, Cond.instanceMethod yX1_canStand, Cond.selects RX1 yX1_canStand yX1_canStand, Cond.initialized RX1, Cond.code yX1_canStand cX1_canStand 2 (some .boolean), Cond.fieldLink RX1 9 "JobSpread$Pad" "signs" "[I", Cond.methodLink RX1 23 yX1_nodeAt, Cond.instanceMethod yX1_nodeAt, Cond.selects RX1 yX1_nodeAt yX1_nodeAt, Cond.code yX1_nodeAt cX1_nodeAt 2 (some .int), Cond.static yX2_isNode, Cond.initialized RX2, Cond.code yX2_isNode cX2_isNode 1 (some .boolean), Cond.methodLink RX2 50 yX2_isWithin, Cond.static yX2_isWithin, Cond.code yX2_isWithin cX2_isWithin 3 (some .boolean), Cond.methodLink RX1 30 yX1_isToldBefore, Cond.instanceMethod yX1_isToldBefore, Cond.selects RX1 yX1_isToldBefore yX1_isToldBefore, Cond.code yX1_isToldBefore cX1_isToldBefore 4 (some .boolean), Cond.static yX2_spot, Cond.code yX2_spot cX2_spot 2 (some .int), Cond.methodLink RX1 33 yX1_colourAt]
def wsX1_firstFault_r2 : List Cond := [Cond.instanceMethod yX1_colourAt, Cond.selects RX1 yX1_colourAt yX1_colourAt, Cond.code yX1_colourAt cX1_colourAt 2 (some .int)]
def wsX1_firstFault : List Cond := .code yX1_firstFault cX1_firstFault 2 (some .int) :: ((wsX1_firstFault_r1 ++ wsX1_firstFault_r2) ++ wsX10)
def wsX2_init_r1 : List Cond := [Cond.methodLink RX2 1 objectInit, Cond.instanceMethod objectInit, Cond.code objectInit ⟨#[0xb1]⟩ 1 none, Cond.classLink RX2 7 RX1, Cond.instantiable RX1 2, Cond.initialized RX1, Cond.fieldLink RX2 10 "JobSpread" "pad" "LJobSpread$Pad;", Cond.classLink RX2 16 RX0, Cond.instantiable RX0 9, Cond.initialized RX0, Cond.fieldLink RX2 19 "JobSpread" "now" "LJobSpread$Net;", Cond.fieldLink RX2 23 "JobSpread" "firstImage" "LJobSpread$Net;", Cond.fieldLink RX2 26 "JobSpread" "secondImage" "LJobSpread$Net;", Cond.fieldLink RX2 29 "JobSpread" "kept" "I", Cond.fieldLink RX2 33 "JobSpread" "walker" "LJobSpread$Net;", Cond.fieldLink RX2 36 "JobSpread" "marker" "LJobSpread$Net;", Cond.arrayClass .long, Cond.fieldLink RX2 39 "JobSpread" "level" "[J", Cond.fieldLink RX2 43 "JobSpread" "nextLevel" "[J", Cond.instanceMethod yX1_init, Cond.code yX1_init cX1_init 1 none, Cond.methodLink RX1 3 objectInit, Cond.arrayClass .int, Cond.fieldLink RX1 9 "JobSpread$Pad" "signs" "[I"]
def wsX2_init_r2 : List Cond := [Cond.fieldLink RX1 15 "JobSpread$Pad" "length" "I", Cond.instanceMethod yX0_init, Cond.code yX0_init cX0_init 2 none, Cond.methodLink RX0 3 objectInit, Cond.fieldLink RX0 9 "JobSpread$Net" "speed" "[I", Cond.fieldLink RX0 15 "JobSpread$Net" "jobs" "[I", Cond.fieldLink RX0 18 "JobSpread$Net" "rotor" "[I", Cond.fieldLink RX0 21 "JobSpread$Net" "degree" "[I", Cond.fieldLink RX0 24 "JobSpread$Net" "colour" "[I", Cond.fieldLink RX0 27 "JobSpread$Net" "carry" "[I", Cond.fieldLink RX0 30 "JobSpread$Net" "change" "[I", Cond.fieldLink RX0 33 "JobSpread$Net" "edges" "I", Cond.fieldLink RX0 37 "JobSpread$Net" "rounds" "I"]
def wsX2_init : List Cond := .code yX2_init cX2_init 1 none :: ((wsX2_init_r1 ++ wsX2_init_r2) ++ wsX10 ++ wsX20 ++ wsX00)
def wsX2_node : List Cond := .code yX2_node cX2_node 5 (some .int) :: ([.fieldLink RX2 19 "JobSpread" "now" "LJobSpread$Net;", .methodLink RX2 46 yX2_isNode, .static yX2_isNode, .initialized RX2, .code yX2_isNode cX2_isNode 1 (some .boolean), .methodLink RX2 50 yX2_isWithin, .static yX2_isWithin, .code yX2_isWithin cX2_isWithin 3 (some .boolean)] ++ wsX20 ++ wsX00)
def wsX2_edge_r1 : List Cond := [Cond.fieldLink RX2 19 "JobSpread" "now" "LJobSpread$Net;", Cond.methodLink RX2 46 yX2_isNode, Cond.static yX2_isNode, Cond.initialized RX2, Cond.code yX2_isNode cX2_isNode 1 (some .boolean), Cond.methodLink RX2 50 yX2_isWithin, Cond.static yX2_isWithin, Cond.code yX2_isWithin cX2_isWithin 3 (some .boolean), Cond.instanceMethod yX0_lift, Cond.initialized RX0, Cond.selects RX0 yX0_lift yX0_lift, Cond.code yX0_lift cX0_lift 3 none, Cond.fieldLink RX0 24 "JobSpread$Net" "colour" "[I", Cond.fieldLink RX0 27 "JobSpread$Net" "carry" "[I", Cond.fieldLink RX0 21 "JobSpread$Net" "degree" "[I", Cond.fieldLink RX0 33 "JobSpread$Net" "edges" "I", Cond.methodLink RX0 54 yX0_joins, Cond.instanceMethod yX0_joins, Cond.selects RX0 yX0_joins yX0_joins, Cond.code yX0_joins cX0_joins 3 (some .boolean), Cond.static yX2_spot, Cond.code yX2_spot cX2_spot 2 (some .int), Cond.instanceMethod yX0_lay, Cond.selects RX0 yX0_lay yX0_lay]
def wsX2_edge_r2 : List Cond := [Cond.code yX0_lay cX0_lay 4 none, Cond.methodLink RX0 50 yX0_lift]
def wsX2_edge : List Cond := .code yX2_edge cX2_edge 4 (some .int) :: ((wsX2_edge_r1 ++ wsX2_edge_r2) ++ wsX20 ++ wsX00)
def wsX2_say : List Cond := .code yX2_say cX2_say 2 (some .int) :: ([.fieldLink RX2 10 "JobSpread" "pad" "LJobSpread$Pad;", .methodLink RX2 50 yX2_isWithin, .static yX2_isWithin, .initialized RX2, .code yX2_isWithin cX2_isWithin 3 (some .boolean), .instanceMethod yX1_add, .initialized RX1, .selects RX1 yX1_add yX1_add, .code yX1_add cX1_add 2 none, .fieldLink RX1 15 "JobSpread$Pad" "length" "I", .fieldLink RX1 9 "JobSpread$Pad" "signs" "[I"] ++ wsX20 ++ wsX10)
def wsX2_wipe : List Cond := .code yX2_wipe cX2_wipe 2 (some .int) :: ([.fieldLink RX2 10 "JobSpread" "pad" "LJobSpread$Pad;"] ++ wsX20 ++ wsX10)
def wsX2_fault_r1 : List Cond := [Cond.fieldLink RX2 10 "JobSpread" "pad" "LJobSpread$Pad;", Cond.instanceMethod yX1_firstFault, Cond.initialized RX1, Cond.selects RX1 yX1_firstFault yX1_firstFault, Cond.code yX1_firstFault cX1_firstFault 2 (some .int), Cond.fieldLink RX1 15 "JobSpread$Pad" "length" "I", Cond.methodLink RX1 19 yX1_canStand, Cond.instanceMethod yX1_canStand, Cond.selects RX1 yX1_canStand yX1_canStand, Cond.code yX1_canStand cX1_canStand 2 (some .boolean), Cond.fieldLink RX1 9 "JobSpread$Pad" "signs" "[I", Cond.methodLink RX1 23 yX1_nodeAt, Cond.instanceMethod yX1_nodeAt, Cond.selects RX1 yX1_nodeAt yX1_nodeAt, Cond.code yX1_nodeAt cX1_nodeAt 2 (some .int), Cond.static yX2_isNode, Cond.initialized RX2, Cond.code yX2_isNode cX2_isNode 1 (some .boolean), Cond.methodLink RX2 50 yX2_isWithin, Cond.static yX2_isWithin, Cond.code yX2_isWithin cX2_isWithin 3 (some .boolean), Cond.methodLink RX1 30 yX1_isToldBefore, Cond.instanceMethod yX1_isToldBefore, Cond.selects RX1 yX1_isToldBefore yX1_isToldBefore]
def wsX2_fault_r2 : List Cond := [Cond.code yX1_isToldBefore cX1_isToldBefore 4 (some .boolean), Cond.static yX2_spot, Cond.code yX2_spot cX2_spot 2 (some .int), Cond.methodLink RX1 33 yX1_colourAt, Cond.instanceMethod yX1_colourAt, Cond.selects RX1 yX1_colourAt yX1_colourAt, Cond.code yX1_colourAt cX1_colourAt 2 (some .int)]
def wsX2_fault : List Cond := .code yX2_fault cX2_fault 1 (some .int) :: ((wsX2_fault_r1 ++ wsX2_fault_r2) ++ wsX20 ++ wsX10)
def wsX2_net_r1 : List Cond := [Cond.fieldLink RX2 10 "JobSpread" "pad" "LJobSpread$Pad;", Cond.fieldLink RX2 19 "JobSpread" "now" "LJobSpread$Net;", Cond.instanceMethod yX1_firstFault, Cond.initialized RX1, Cond.selects RX1 yX1_firstFault yX1_firstFault, Cond.code yX1_firstFault cX1_firstFault 2 (some .int), Cond.fieldLink RX1 15 "JobSpread$Pad" "length" "I", Cond.methodLink RX1 19 yX1_canStand, Cond.instanceMethod yX1_canStand, Cond.selects RX1 yX1_canStand yX1_canStand, Cond.code yX1_canStand cX1_canStand 2 (some .boolean), Cond.fieldLink RX1 9 "JobSpread$Pad" "signs" "[I", Cond.methodLink RX1 23 yX1_nodeAt, Cond.instanceMethod yX1_nodeAt, Cond.selects RX1 yX1_nodeAt yX1_nodeAt, Cond.code yX1_nodeAt cX1_nodeAt 2 (some .int), Cond.static yX2_isNode, Cond.initialized RX2, Cond.code yX2_isNode cX2_isNode 1 (some .boolean), Cond.methodLink RX2 50 yX2_isWithin, Cond.static yX2_isWithin, Cond.code yX2_isWithin cX2_isWithin 3 (some .boolean), Cond.methodLink RX1 30 yX1_isToldBefore, Cond.instanceMethod yX1_isToldBefore]
def wsX2_net_r2 : List Cond := [Cond.selects RX1 yX1_isToldBefore yX1_isToldBefore, Cond.code yX1_isToldBefore cX1_isToldBefore 4 (some .boolean), Cond.static yX2_spot, Cond.code yX2_spot cX2_spot 2 (some .int), Cond.methodLink RX1 33 yX1_colourAt, Cond.instanceMethod yX1_colourAt, Cond.selects RX1 yX1_colourAt yX1_colourAt, Cond.code yX1_colourAt cX1_colourAt 2 (some .int), Cond.instanceMethod yX0_liftAll, Cond.initialized RX0, Cond.selects RX0 yX0_liftAll yX0_liftAll, Cond.code yX0_liftAll cX0_liftAll 3 none, Cond.methodLink RX0 50 yX0_lift, Cond.instanceMethod yX0_lift, Cond.selects RX0 yX0_lift yX0_lift, Cond.code yX0_lift cX0_lift 3 none, Cond.fieldLink RX0 24 "JobSpread$Net" "colour" "[I", Cond.fieldLink RX0 27 "JobSpread$Net" "carry" "[I", Cond.fieldLink RX0 21 "JobSpread$Net" "degree" "[I", Cond.fieldLink RX0 33 "JobSpread$Net" "edges" "I", Cond.methodLink RX0 54 yX0_joins, Cond.instanceMethod yX0_joins, Cond.selects RX0 yX0_joins yX0_joins, Cond.code yX0_joins cX0_joins 3 (some .boolean)]
def wsX2_net_r3 : List Cond := [Cond.instanceMethod yX0_lay, Cond.selects RX0 yX0_lay yX0_lay, Cond.code yX0_lay cX0_lay 4 none]
def wsX2_net : List Cond := .code yX2_net cX2_net 2 (some .int) :: ((wsX2_net_r1 ++ (wsX2_net_r2 ++ wsX2_net_r3)) ++ wsX20 ++ wsX10 ++ wsX00)
def wsX2_jobs : List Cond := .code yX2_jobs cX2_jobs 2 (some .int) :: ([.fieldLink RX2 19 "JobSpread" "now" "LJobSpread$Net;", .methodLink RX2 46 yX2_isNode, .static yX2_isNode, .initialized RX2, .code yX2_isNode cX2_isNode 1 (some .boolean), .methodLink RX2 50 yX2_isWithin, .static yX2_isWithin, .code yX2_isWithin cX2_isWithin 3 (some .boolean)] ++ wsX20 ++ wsX00)
def wsX2_toldColour : List Cond := .code yX2_toldColour cX2_toldColour 4 (some .int) :: ([.fieldLink RX2 19 "JobSpread" "now" "LJobSpread$Net;", .methodLink RX2 50 yX2_isWithin, .static yX2_isWithin, .initialized RX2, .code yX2_isWithin cX2_isWithin 3 (some .boolean), .instanceMethod yX0_joins, .initialized RX0, .selects RX0 yX0_joins yX0_joins, .code yX0_joins cX0_joins 3 (some .boolean), .fieldLink RX0 24 "JobSpread$Net" "colour" "[I", .static yX2_spot, .code yX2_spot cX2_spot 2 (some .int), .methodLink RX2 110 yX2_spot] ++ wsX20 ++ wsX00)
def wsX2_told_r1 : List Cond := [Cond.fieldLink RX2 19 "JobSpread" "now" "LJobSpread$Net;", Cond.methodLink RX2 46 yX2_isNode, Cond.static yX2_isNode, Cond.initialized RX2, Cond.code yX2_isNode cX2_isNode 1 (some .boolean), Cond.methodLink RX2 50 yX2_isWithin, Cond.static yX2_isWithin, Cond.code yX2_isWithin cX2_isWithin 3 (some .boolean), Cond.instanceMethod yX0_rotorLeftOver, Cond.initialized RX0, Cond.selects RX0 yX0_rotorLeftOver yX0_rotorLeftOver, Cond.code yX0_rotorLeftOver cX0_rotorLeftOver 2 (some .int), Cond.fieldLink RX0 18 "JobSpread$Net" "rotor" "[I", Cond.methodLink RX0 58 yX0_slots, Cond.instanceMethod yX0_slots, Cond.selects RX0 yX0_slots yX0_slots, Cond.code yX0_slots cX0_slots 2 (some .int), Cond.fieldLink RX0 21 "JobSpread$Net" "degree" "[I", Cond.methodLink RX2 103 yX2_toldColour, Cond.instanceMethod yX2_toldColour, Cond.selects RX2 yX2_toldColour yX2_toldColour, Cond.code yX2_toldColour cX2_toldColour 4 (some .int), Cond.instanceMethod yX0_joins, Cond.selects RX0 yX0_joins yX0_joins]
def wsX2_told_r2 : List Cond := [Cond.code yX0_joins cX0_joins 3 (some .boolean), Cond.fieldLink RX0 24 "JobSpread$Net" "colour" "[I", Cond.static yX2_spot, Cond.code yX2_spot cX2_spot 2 (some .int), Cond.methodLink RX2 110 yX2_spot]
def wsX2_told : List Cond := .code yX2_told cX2_told 3 (some .int) :: ((wsX2_told_r1 ++ wsX2_told_r2) ++ wsX20 ++ wsX00)
def wsX2_carry : List Cond := .code yX2_carry cX2_carry 3 (some .int) :: ([.fieldLink RX2 19 "JobSpread" "now" "LJobSpread$Net;", .methodLink RX2 46 yX2_isNode, .static yX2_isNode, .initialized RX2, .code yX2_isNode cX2_isNode 1 (some .boolean), .methodLink RX2 50 yX2_isWithin, .static yX2_isWithin, .code yX2_isWithin cX2_isWithin 3 (some .boolean), .instanceMethod yX0_joins, .initialized RX0, .selects RX0 yX0_joins yX0_joins, .code yX0_joins cX0_joins 3 (some .boolean), .fieldLink RX0 24 "JobSpread$Net" "colour" "[I", .static yX2_spot, .code yX2_spot cX2_spot 2 (some .int), .methodLink RX2 110 yX2_spot] ++ wsX20 ++ wsX00)
def wsX2_isRule : List Cond := .code yX2_isRule cX2_isRule 1 (some .boolean) :: ([.methodLink RX2 50 yX2_isWithin, .static yX2_isWithin, .initialized RX2, .code yX2_isWithin cX2_isWithin 3 (some .boolean)])
def wsX2_run_r1 : List Cond := [Cond.fieldLink RX2 19 "JobSpread" "now" "LJobSpread$Net;", Cond.methodLink RX2 116 yX2_isRule, Cond.static yX2_isRule, Cond.initialized RX2, Cond.code yX2_isRule cX2_isRule 1 (some .boolean), Cond.methodLink RX2 50 yX2_isWithin, Cond.static yX2_isWithin, Cond.code yX2_isWithin cX2_isWithin 3 (some .boolean), Cond.instanceMethod yX0_goOn, Cond.initialized RX0, Cond.selects RX0 yX0_goOn yX0_goOn, Cond.code yX0_goOn cX0_goOn 5 (some .int), Cond.fieldLink RX0 37 "JobSpread$Net" "rounds" "I", Cond.methodLink RX0 84 yX0_flow, Cond.instanceMethod yX0_flow, Cond.selects RX0 yX0_flow yX0_flow, Cond.code yX0_flow cX0_flow 5 (some .int), Cond.methodLink RX0 93 yX0_measure, Cond.instanceMethod yX0_measure, Cond.selects RX0 yX0_measure yX0_measure, Cond.code yX0_measure cX0_measure 3 (some .int), Cond.methodLink RX0 62 Lib.Math.max.name, Cond.static Lib.Math.max.name, Cond.initialized "java/lang/Math"]
def wsX2_run_r2 : List Cond := [Cond.code Lib.Math.max.name Lib.Math.max.code 2 (some .int), Cond.methodLink RX0 58 yX0_slots, Cond.instanceMethod yX0_slots, Cond.selects RX0 yX0_slots yX0_slots, Cond.code yX0_slots cX0_slots 2 (some .int), Cond.fieldLink RX0 21 "JobSpread$Net" "degree" "[I", Cond.methodLink RX0 54 yX0_joins, Cond.instanceMethod yX0_joins, Cond.selects RX0 yX0_joins yX0_joins, Cond.code yX0_joins cX0_joins 3 (some .boolean), Cond.fieldLink RX0 24 "JobSpread$Net" "colour" "[I", Cond.static yX2_spot, Cond.code yX2_spot cX2_spot 2 (some .int), Cond.methodLink RX0 96 yX0_flowAlong, Cond.instanceMethod yX0_flowAlong, Cond.selects RX0 yX0_flowAlong yX0_flowAlong, Cond.code yX0_flowAlong cX0_flowAlong 7 (some .int), Cond.fieldLink RX0 27 "JobSpread$Net" "carry" "[I", Cond.fieldLink RX0 15 "JobSpread$Net" "jobs" "[I", Cond.fieldLink RX0 9 "JobSpread$Net" "speed" "[I", Cond.fieldLink RX0 30 "JobSpread$Net" "change" "[I", Cond.methodLink RX0 103 Lib.Math.abs.name, Cond.static Lib.Math.abs.name, Cond.code Lib.Math.abs.name Lib.Math.abs.code 1 (some .int)]
def wsX2_run_r3 : List Cond := [Cond.methodLink RX0 100 yX0_settle, Cond.instanceMethod yX0_settle, Cond.selects RX0 yX0_settle yX0_settle, Cond.code yX0_settle cX0_settle 2 none, Cond.methodLink RX0 87 yX0_exchange, Cond.instanceMethod yX0_exchange, Cond.selects RX0 yX0_exchange yX0_exchange, Cond.code yX0_exchange cX0_exchange 5 (some .int), Cond.methodLink RX0 81 yX0_colours, Cond.instanceMethod yX0_colours, Cond.selects RX0 yX0_colours yX0_colours, Cond.code yX0_colours cX0_colours 3 (some .int), Cond.methodLink RX0 106 yX0_exchangeAlong, Cond.instanceMethod yX0_exchangeAlong, Cond.selects RX0 yX0_exchangeAlong yX0_exchangeAlong, Cond.code yX0_exchangeAlong cX0_exchangeAlong 8 (some .int), Cond.methodLink RX0 109 yJ9_floorDiv_7cf53, Cond.static yJ9_floorDiv_7cf53, Cond.initialized RJ9, Cond.code yJ9_floorDiv_7cf53 cJ9_floorDiv_7cf53 3 (some .int), Cond.methodLink RX0 90 yX0_deal, Cond.instanceMethod yX0_deal, Cond.selects RX0 yX0_deal yX0_deal, Cond.code yX0_deal cX0_deal 3 (some .int)]
def wsX2_run_r4 : List Cond := [Cond.methodLink RX0 112 yX0_dealFrom, Cond.instanceMethod yX0_dealFrom, Cond.selects RX0 yX0_dealFrom yX0_dealFrom, Cond.code yX0_dealFrom cX0_dealFrom 11 (some .int), Cond.fieldLink RX0 18 "JobSpread$Net" "rotor" "[I", Cond.methodLink RX0 78 yX0_rotorLeftOver, Cond.instanceMethod yX0_rotorLeftOver, Cond.selects RX0 yX0_rotorLeftOver yX0_rotorLeftOver, Cond.code yX0_rotorLeftOver cX0_rotorLeftOver 2 (some .int)]
def wsX2_run : List Cond := .code yX2_run cX2_run 3 (some .int) :: ((wsX2_run_r1 ++ (wsX2_run_r2 ++ (wsX2_run_r3 ++ wsX2_run_r4))) ++ wsX20 ++ wsX00)
def wsX2_reset : List Cond := .code yX2_reset cX2_reset 2 (some .int) :: ([.fieldLink RX2 19 "JobSpread" "now" "LJobSpread$Net;", .instanceMethod yX0_startAgain, .initialized RX0, .selects RX0 yX0_startAgain yX0_startAgain, .code yX0_startAgain cX0_startAgain 2 none, .fieldLink RX0 18 "JobSpread$Net" "rotor" "[I", .fieldLink RX0 27 "JobSpread$Net" "carry" "[I", .fieldLink RX0 37 "JobSpread$Net" "rounds" "I"] ++ wsX20 ++ wsX00)
def wsX2_isPart : List Cond := .code yX2_isPart cX2_isPart 1 (some .boolean) :: ([.methodLink RX2 50 yX2_isWithin, .static yX2_isWithin, .initialized RX2, .code yX2_isWithin cX2_isWithin 3 (some .boolean)])
def wsX2_commonDivisor : List Cond := .code yX2_commonDivisor cX2_commonDivisor 11 (some .long) :: ([.methodLink RX2 201 Lib.MathLoose.abs_long.x, .static Lib.MathLoose.abs_long.x, .initialized "java/lang/Math", .code Lib.MathLoose.abs_long.x Lib.MathLoose.abs_long.code 2 (some .long)])
def wsX2_partOf : List Cond := .code yX2_partOf cX2_partOf 7 (some .long) :: ([.methodLink RX2 197 yX2_commonDivisor, .static yX2_commonDivisor, .initialized RX2, .code yX2_commonDivisor cX2_commonDivisor 11 (some .long), .methodLink RX2 201 Lib.MathLoose.abs_long.x, .static Lib.MathLoose.abs_long.x, .initialized "java/lang/Math", .code Lib.MathLoose.abs_long.x Lib.MathLoose.abs_long.code 2 (some .long)])
def wsX2_uneven_r1 : List Cond := [Cond.fieldLink RX2 19 "JobSpread" "now" "LJobSpread$Net;", Cond.methodLink RX2 128 yX2_isPart, Cond.static yX2_isPart, Cond.initialized RX2, Cond.code yX2_isPart cX2_isPart 1 (some .boolean), Cond.methodLink RX2 50 yX2_isWithin, Cond.static yX2_isWithin, Cond.code yX2_isWithin cX2_isWithin 3 (some .boolean), Cond.instanceMethod yX0_mostLoaded, Cond.initialized RX0, Cond.selects RX0 yX0_mostLoaded yX0_mostLoaded, Cond.code yX0_mostLoaded cX0_mostLoaded 3 (some .int), Cond.methodLink RX0 67 yX0_loadGap, Cond.instanceMethod yX0_loadGap, Cond.selects RX0 yX0_loadGap yX0_loadGap, Cond.code yX0_loadGap cX0_loadGap 3 (some .long), Cond.fieldLink RX0 15 "JobSpread$Net" "jobs" "[I", Cond.fieldLink RX0 9 "JobSpread$Net" "speed" "[I", Cond.instanceMethod yX0_leastLoaded, Cond.selects RX0 yX0_leastLoaded yX0_leastLoaded, Cond.code yX0_leastLoaded cX0_leastLoaded 3 (some .int), Cond.methodLink RX2 141 yX2_partOf, Cond.static yX2_partOf, Cond.code yX2_partOf cX2_partOf 7 (some .long)]
def wsX2_uneven_r2 : List Cond := [Cond.methodLink RX2 197 yX2_commonDivisor, Cond.static yX2_commonDivisor, Cond.code yX2_commonDivisor cX2_commonDivisor 11 (some .long), Cond.methodLink RX2 201 Lib.MathLoose.abs_long.x, Cond.static Lib.MathLoose.abs_long.x, Cond.initialized "java/lang/Math", Cond.code Lib.MathLoose.abs_long.x Lib.MathLoose.abs_long.code 2 (some .long)]
def wsX2_uneven : List Cond := .code yX2_uneven cX2_uneven 4 (some .int) :: ((wsX2_uneven_r1 ++ wsX2_uneven_r2) ++ wsX20 ++ wsX00)
def wsX2_share_r1 : List Cond := [Cond.fieldLink RX2 19 "JobSpread" "now" "LJobSpread$Net;", Cond.methodLink RX2 46 yX2_isNode, Cond.static yX2_isNode, Cond.initialized RX2, Cond.code yX2_isNode cX2_isNode 1 (some .boolean), Cond.methodLink RX2 50 yX2_isWithin, Cond.static yX2_isWithin, Cond.code yX2_isWithin cX2_isWithin 3 (some .boolean), Cond.methodLink RX2 128 yX2_isPart, Cond.static yX2_isPart, Cond.code yX2_isPart cX2_isPart 1 (some .boolean), Cond.instanceMethod yX0_allJobs, Cond.initialized RX0, Cond.selects RX0 yX0_allJobs yX0_allJobs, Cond.code yX0_allJobs cX0_allJobs 4 (some .long), Cond.fieldLink RX0 15 "JobSpread$Net" "jobs" "[I", Cond.instanceMethod yX0_allSpeeds, Cond.selects RX0 yX0_allSpeeds yX0_allSpeeds, Cond.code yX0_allSpeeds cX0_allSpeeds 3 (some .int), Cond.fieldLink RX0 9 "JobSpread$Net" "speed" "[I", Cond.methodLink RX2 141 yX2_partOf, Cond.static yX2_partOf, Cond.code yX2_partOf cX2_partOf 7 (some .long), Cond.methodLink RX2 197 yX2_commonDivisor]
def wsX2_share_r2 : List Cond := [Cond.static yX2_commonDivisor, Cond.code yX2_commonDivisor cX2_commonDivisor 11 (some .long), Cond.methodLink RX2 201 Lib.MathLoose.abs_long.x, Cond.static Lib.MathLoose.abs_long.x, Cond.initialized "java/lang/Math", Cond.code Lib.MathLoose.abs_long.x Lib.MathLoose.abs_long.code 2 (some .long)]
def wsX2_share : List Cond := .code yX2_share cX2_share 5 (some .int) :: ((wsX2_share_r1 ++ wsX2_share_r2) ++ wsX20 ++ wsX00)
def wsX2_potential : List Cond := .code yX2_potential cX2_potential 10 (some .long) :: ([.fieldLink RX2 19 "JobSpread" "now" "LJobSpread$Net;", .instanceMethod yX0_allJobs, .initialized RX0, .selects RX0 yX0_allJobs yX0_allJobs, .code yX0_allJobs cX0_allJobs 4 (some .long), .fieldLink RX0 15 "JobSpread$Net" "jobs" "[I", .instanceMethod yX0_allSpeeds, .selects RX0 yX0_allSpeeds yX0_allSpeeds, .code yX0_allSpeeds cX0_allSpeeds 3 (some .int), .fieldLink RX0 9 "JobSpread$Net" "speed" "[I"] ++ wsX20 ++ wsX00)
def wsX2_flowUncut : List Cond := .code yX2_flowUncut cX2_flowUncut 6 none :: ([.fieldLink RX2 43 "JobSpread" "nextLevel" "[J", .fieldLink RX2 39 "JobSpread" "level" "[J", .fieldLink RX2 19 "JobSpread" "now" "LJobSpread$Net;", .methodLink RX2 167 arraycopyName, .native arraycopyName, .static arraycopyName, .initialized "java/lang/System", .instanceMethod yX0_joins, .initialized RX0, .selects RX0 yX0_joins yX0_joins, .code yX0_joins cX0_joins 3 (some .boolean), .fieldLink RX0 24 "JobSpread$Net" "colour" "[I", .static yX2_spot, .initialized RX2, .code yX2_spot cX2_spot 2 (some .int)] ++ wsX20 ++ wsX00)
def wsX2_ideal_r1 : List Cond := [Cond.constantLong RX2 152 (-1), Cond.constantLong RX2 154 (-2), Cond.fieldLink RX2 19 "JobSpread" "now" "LJobSpread$Net;", Cond.constantLong RX2 159 (-3), Cond.fieldLink RX2 39 "JobSpread" "level" "[J", Cond.methodLink RX2 46 yX2_isNode, Cond.static yX2_isNode, Cond.initialized RX2, Cond.code yX2_isNode cX2_isNode 1 (some .boolean), Cond.methodLink RX2 50 yX2_isWithin, Cond.static yX2_isWithin, Cond.code yX2_isWithin cX2_isWithin 3 (some .boolean), Cond.methodLink RX2 128 yX2_isPart, Cond.static yX2_isPart, Cond.code yX2_isPart cX2_isPart 1 (some .boolean), Cond.instanceMethod yX0_nodesBelowZero, Cond.initialized RX0, Cond.selects RX0 yX0_nodesBelowZero yX0_nodesBelowZero, Cond.code yX0_nodesBelowZero cX0_nodesBelowZero 3 (some .int), Cond.fieldLink RX0 15 "JobSpread$Net" "jobs" "[I", Cond.instanceMethod yX0_measure, Cond.selects RX0 yX0_measure yX0_measure, Cond.code yX0_measure cX0_measure 3 (some .int), Cond.methodLink RX0 62 Lib.Math.max.name]
def wsX2_ideal_r2 : List Cond := [Cond.static Lib.Math.max.name, Cond.initialized "java/lang/Math", Cond.code Lib.Math.max.name Lib.Math.max.code 2 (some .int), Cond.methodLink RX0 58 yX0_slots, Cond.instanceMethod yX0_slots, Cond.selects RX0 yX0_slots yX0_slots, Cond.code yX0_slots cX0_slots 2 (some .int), Cond.fieldLink RX0 21 "JobSpread$Net" "degree" "[I", Cond.methodLink RX2 164 yX2_flowUncut, Cond.instanceMethod yX2_flowUncut, Cond.selects RX2 yX2_flowUncut yX2_flowUncut, Cond.code yX2_flowUncut cX2_flowUncut 6 none, Cond.fieldLink RX2 43 "JobSpread" "nextLevel" "[J", Cond.methodLink RX2 167 arraycopyName, Cond.native arraycopyName, Cond.static arraycopyName, Cond.initialized "java/lang/System", Cond.instanceMethod yX0_joins, Cond.selects RX0 yX0_joins yX0_joins, Cond.code yX0_joins cX0_joins 3 (some .boolean), Cond.fieldLink RX0 24 "JobSpread$Net" "colour" "[I", Cond.static yX2_spot, Cond.code yX2_spot cX2_spot 2 (some .int), Cond.methodLink RX2 141 yX2_partOf]
def wsX2_ideal_r3 : List Cond := [Cond.static yX2_partOf, Cond.code yX2_partOf cX2_partOf 7 (some .long), Cond.methodLink RX2 197 yX2_commonDivisor, Cond.static yX2_commonDivisor, Cond.code yX2_commonDivisor cX2_commonDivisor 11 (some .long), Cond.methodLink RX2 201 Lib.MathLoose.abs_long.x, Cond.static Lib.MathLoose.abs_long.x, Cond.code Lib.MathLoose.abs_long.x Lib.MathLoose.abs_long.code 2 (some .long)]
def wsX2_ideal : List Cond := .code yX2_ideal cX2_ideal 8 (some .long) :: ((wsX2_ideal_r1 ++ (wsX2_ideal_r2 ++ wsX2_ideal_r3)) ++ wsX20 ++ wsX00)
def wsX2_until_r1 : List Cond := [Cond.fieldLink RX2 33 "JobSpread" "walker" "LJobSpread$Net;", Cond.fieldLink RX2 19 "JobSpread" "now" "LJobSpread$Net;", Cond.methodLink RX2 116 yX2_isRule, Cond.static yX2_isRule, Cond.initialized RX2, Cond.code yX2_isRule cX2_isRule 1 (some .boolean), Cond.methodLink RX2 50 yX2_isWithin, Cond.static yX2_isWithin, Cond.code yX2_isWithin cX2_isWithin 3 (some .boolean), Cond.instanceMethod yX0_become, Cond.initialized RX0, Cond.selects RX0 yX0_become yX0_become, Cond.code yX0_become cX0_become 2 none, Cond.fieldLink RX0 9 "JobSpread$Net" "speed" "[I", Cond.methodLink RX0 40 arraycopyName, Cond.native arraycopyName, Cond.static arraycopyName, Cond.initialized "java/lang/System", Cond.fieldLink RX0 15 "JobSpread$Net" "jobs" "[I", Cond.fieldLink RX0 18 "JobSpread$Net" "rotor" "[I", Cond.fieldLink RX0 21 "JobSpread$Net" "degree" "[I", Cond.fieldLink RX0 24 "JobSpread$Net" "colour" "[I", Cond.fieldLink RX0 27 "JobSpread$Net" "carry" "[I", Cond.fieldLink RX0 33 "JobSpread$Net" "edges" "I"]
def wsX2_until_r2 : List Cond := [Cond.fieldLink RX0 37 "JobSpread$Net" "rounds" "I", Cond.instanceMethod yX0_isUnevenAtMost, Cond.selects RX0 yX0_isUnevenAtMost yX0_isUnevenAtMost, Cond.code yX0_isUnevenAtMost cX0_isUnevenAtMost 4 (some .boolean), Cond.methodLink RX0 71 yX0_mostLoaded, Cond.instanceMethod yX0_mostLoaded, Cond.selects RX0 yX0_mostLoaded yX0_mostLoaded, Cond.code yX0_mostLoaded cX0_mostLoaded 3 (some .int), Cond.methodLink RX0 67 yX0_loadGap, Cond.instanceMethod yX0_loadGap, Cond.selects RX0 yX0_loadGap yX0_loadGap, Cond.code yX0_loadGap cX0_loadGap 3 (some .long), Cond.methodLink RX0 75 yX0_leastLoaded, Cond.instanceMethod yX0_leastLoaded, Cond.selects RX0 yX0_leastLoaded yX0_leastLoaded, Cond.code yX0_leastLoaded cX0_leastLoaded 3 (some .int), Cond.instanceMethod yX0_goOn, Cond.selects RX0 yX0_goOn yX0_goOn, Cond.code yX0_goOn cX0_goOn 5 (some .int), Cond.methodLink RX0 84 yX0_flow, Cond.instanceMethod yX0_flow, Cond.selects RX0 yX0_flow yX0_flow, Cond.code yX0_flow cX0_flow 5 (some .int), Cond.methodLink RX0 93 yX0_measure]
def wsX2_until_r3 : List Cond := [Cond.instanceMethod yX0_measure, Cond.selects RX0 yX0_measure yX0_measure, Cond.code yX0_measure cX0_measure 3 (some .int), Cond.methodLink RX0 62 Lib.Math.max.name, Cond.static Lib.Math.max.name, Cond.initialized "java/lang/Math", Cond.code Lib.Math.max.name Lib.Math.max.code 2 (some .int), Cond.methodLink RX0 58 yX0_slots, Cond.instanceMethod yX0_slots, Cond.selects RX0 yX0_slots yX0_slots, Cond.code yX0_slots cX0_slots 2 (some .int), Cond.methodLink RX0 54 yX0_joins, Cond.instanceMethod yX0_joins, Cond.selects RX0 yX0_joins yX0_joins, Cond.code yX0_joins cX0_joins 3 (some .boolean), Cond.static yX2_spot, Cond.code yX2_spot cX2_spot 2 (some .int), Cond.methodLink RX0 96 yX0_flowAlong, Cond.instanceMethod yX0_flowAlong, Cond.selects RX0 yX0_flowAlong yX0_flowAlong, Cond.code yX0_flowAlong cX0_flowAlong 7 (some .int), Cond.fieldLink RX0 30 "JobSpread$Net" "change" "[I", Cond.methodLink RX0 103 Lib.Math.abs.name, Cond.static Lib.Math.abs.name]
def wsX2_until_r4 : List Cond := [Cond.code Lib.Math.abs.name Lib.Math.abs.code 1 (some .int), Cond.methodLink RX0 100 yX0_settle, Cond.instanceMethod yX0_settle, Cond.selects RX0 yX0_settle yX0_settle, Cond.code yX0_settle cX0_settle 2 none, Cond.methodLink RX0 87 yX0_exchange, Cond.instanceMethod yX0_exchange, Cond.selects RX0 yX0_exchange yX0_exchange, Cond.code yX0_exchange cX0_exchange 5 (some .int), Cond.methodLink RX0 81 yX0_colours, Cond.instanceMethod yX0_colours, Cond.selects RX0 yX0_colours yX0_colours, Cond.code yX0_colours cX0_colours 3 (some .int), Cond.methodLink RX0 106 yX0_exchangeAlong, Cond.instanceMethod yX0_exchangeAlong, Cond.selects RX0 yX0_exchangeAlong yX0_exchangeAlong, Cond.code yX0_exchangeAlong cX0_exchangeAlong 8 (some .int), Cond.methodLink RX0 109 yJ9_floorDiv_7cf53, Cond.static yJ9_floorDiv_7cf53, Cond.initialized RJ9, Cond.code yJ9_floorDiv_7cf53 cJ9_floorDiv_7cf53 3 (some .int), Cond.methodLink RX0 90 yX0_deal, Cond.instanceMethod yX0_deal, Cond.selects RX0 yX0_deal yX0_deal]
def wsX2_until_r5 : List Cond := [Cond.code yX0_deal cX0_deal 3 (some .int), Cond.methodLink RX0 112 yX0_dealFrom, Cond.instanceMethod yX0_dealFrom, Cond.selects RX0 yX0_dealFrom yX0_dealFrom, Cond.code yX0_dealFrom cX0_dealFrom 11 (some .int), Cond.methodLink RX0 78 yX0_rotorLeftOver, Cond.instanceMethod yX0_rotorLeftOver, Cond.selects RX0 yX0_rotorLeftOver yX0_rotorLeftOver, Cond.code yX0_rotorLeftOver cX0_rotorLeftOver 2 (some .int)]
def wsX2_until : List Cond := .code yX2_until cX2_until 4 (some .int) :: ((wsX2_until_r1 ++ (wsX2_until_r2 ++ (wsX2_until_r3 ++ (wsX2_until_r4 ++ wsX2_until_r5)))) ++ wsX20 ++ wsX00)
def wsX2_ringLength_r1 : List Cond := [Cond.fieldLink RX2 33 "JobSpread" "walker" "LJobSpread$Net;", Cond.fieldLink RX2 19 "JobSpread" "now" "LJobSpread$Net;", Cond.fieldLink RX2 36 "JobSpread" "marker" "LJobSpread$Net;", Cond.instanceMethod yX0_become, Cond.initialized RX0, Cond.selects RX0 yX0_become yX0_become, Cond.code yX0_become cX0_become 2 none, Cond.fieldLink RX0 9 "JobSpread$Net" "speed" "[I", Cond.methodLink RX0 40 arraycopyName, Cond.native arraycopyName, Cond.static arraycopyName, Cond.initialized "java/lang/System", Cond.fieldLink RX0 15 "JobSpread$Net" "jobs" "[I", Cond.fieldLink RX0 18 "JobSpread$Net" "rotor" "[I", Cond.fieldLink RX0 21 "JobSpread$Net" "degree" "[I", Cond.fieldLink RX0 24 "JobSpread$Net" "colour" "[I", Cond.fieldLink RX0 27 "JobSpread$Net" "carry" "[I", Cond.fieldLink RX0 33 "JobSpread$Net" "edges" "I", Cond.fieldLink RX0 37 "JobSpread$Net" "rounds" "I", Cond.instanceMethod yX0_goOn, Cond.selects RX0 yX0_goOn yX0_goOn, Cond.code yX0_goOn cX0_goOn 5 (some .int), Cond.methodLink RX0 84 yX0_flow, Cond.instanceMethod yX0_flow]
def wsX2_ringLength_r2 : List Cond := [Cond.selects RX0 yX0_flow yX0_flow, Cond.code yX0_flow cX0_flow 5 (some .int), Cond.methodLink RX0 93 yX0_measure, Cond.instanceMethod yX0_measure, Cond.selects RX0 yX0_measure yX0_measure, Cond.code yX0_measure cX0_measure 3 (some .int), Cond.methodLink RX0 62 Lib.Math.max.name, Cond.static Lib.Math.max.name, Cond.initialized "java/lang/Math", Cond.code Lib.Math.max.name Lib.Math.max.code 2 (some .int), Cond.methodLink RX0 58 yX0_slots, Cond.instanceMethod yX0_slots, Cond.selects RX0 yX0_slots yX0_slots, Cond.code yX0_slots cX0_slots 2 (some .int), Cond.methodLink RX0 54 yX0_joins, Cond.instanceMethod yX0_joins, Cond.selects RX0 yX0_joins yX0_joins, Cond.code yX0_joins cX0_joins 3 (some .boolean), Cond.static yX2_spot, Cond.initialized RX2, Cond.code yX2_spot cX2_spot 2 (some .int), Cond.methodLink RX0 96 yX0_flowAlong, Cond.instanceMethod yX0_flowAlong, Cond.selects RX0 yX0_flowAlong yX0_flowAlong]
def wsX2_ringLength_r3 : List Cond := [Cond.code yX0_flowAlong cX0_flowAlong 7 (some .int), Cond.fieldLink RX0 30 "JobSpread$Net" "change" "[I", Cond.methodLink RX0 103 Lib.Math.abs.name, Cond.static Lib.Math.abs.name, Cond.code Lib.Math.abs.name Lib.Math.abs.code 1 (some .int), Cond.methodLink RX0 100 yX0_settle, Cond.instanceMethod yX0_settle, Cond.selects RX0 yX0_settle yX0_settle, Cond.code yX0_settle cX0_settle 2 none, Cond.methodLink RX0 87 yX0_exchange, Cond.instanceMethod yX0_exchange, Cond.selects RX0 yX0_exchange yX0_exchange, Cond.code yX0_exchange cX0_exchange 5 (some .int), Cond.methodLink RX0 81 yX0_colours, Cond.instanceMethod yX0_colours, Cond.selects RX0 yX0_colours yX0_colours, Cond.code yX0_colours cX0_colours 3 (some .int), Cond.methodLink RX0 106 yX0_exchangeAlong, Cond.instanceMethod yX0_exchangeAlong, Cond.selects RX0 yX0_exchangeAlong yX0_exchangeAlong, Cond.code yX0_exchangeAlong cX0_exchangeAlong 8 (some .int), Cond.methodLink RX0 109 yJ9_floorDiv_7cf53, Cond.static yJ9_floorDiv_7cf53, Cond.initialized RJ9]
def wsX2_ringLength_r4 : List Cond := [Cond.code yJ9_floorDiv_7cf53 cJ9_floorDiv_7cf53 3 (some .int), Cond.methodLink RX0 90 yX0_deal, Cond.instanceMethod yX0_deal, Cond.selects RX0 yX0_deal yX0_deal, Cond.code yX0_deal cX0_deal 3 (some .int), Cond.methodLink RX0 112 yX0_dealFrom, Cond.instanceMethod yX0_dealFrom, Cond.selects RX0 yX0_dealFrom yX0_dealFrom, Cond.code yX0_dealFrom cX0_dealFrom 11 (some .int), Cond.methodLink RX0 78 yX0_rotorLeftOver, Cond.instanceMethod yX0_rotorLeftOver, Cond.selects RX0 yX0_rotorLeftOver yX0_rotorLeftOver, Cond.code yX0_rotorLeftOver cX0_rotorLeftOver 2 (some .int), Cond.instanceMethod yX0_isAlike, Cond.selects RX0 yX0_isAlike yX0_isAlike, Cond.code yX0_isAlike cX0_isAlike 3 (some .boolean)]
def wsX2_ringLength : List Cond := .code yX2_ringLength cX2_ringLength 3 (some .int) :: ((wsX2_ringLength_r1 ++ (wsX2_ringLength_r2 ++ (wsX2_ringLength_r3 ++ wsX2_ringLength_r4))) ++ wsX20 ++ wsX00)
def wsX2_ringStart_r1 : List Cond := [Cond.fieldLink RX2 36 "JobSpread" "marker" "LJobSpread$Net;", Cond.fieldLink RX2 19 "JobSpread" "now" "LJobSpread$Net;", Cond.fieldLink RX2 33 "JobSpread" "walker" "LJobSpread$Net;", Cond.instanceMethod yX0_become, Cond.initialized RX0, Cond.selects RX0 yX0_become yX0_become, Cond.code yX0_become cX0_become 2 none, Cond.fieldLink RX0 9 "JobSpread$Net" "speed" "[I", Cond.methodLink RX0 40 arraycopyName, Cond.native arraycopyName, Cond.static arraycopyName, Cond.initialized "java/lang/System", Cond.fieldLink RX0 15 "JobSpread$Net" "jobs" "[I", Cond.fieldLink RX0 18 "JobSpread$Net" "rotor" "[I", Cond.fieldLink RX0 21 "JobSpread$Net" "degree" "[I", Cond.fieldLink RX0 24 "JobSpread$Net" "colour" "[I", Cond.fieldLink RX0 27 "JobSpread$Net" "carry" "[I", Cond.fieldLink RX0 33 "JobSpread$Net" "edges" "I", Cond.fieldLink RX0 37 "JobSpread$Net" "rounds" "I", Cond.instanceMethod yX0_goOn, Cond.selects RX0 yX0_goOn yX0_goOn, Cond.code yX0_goOn cX0_goOn 5 (some .int), Cond.methodLink RX0 84 yX0_flow, Cond.instanceMethod yX0_flow]
def wsX2_ringStart_r2 : List Cond := [Cond.selects RX0 yX0_flow yX0_flow, Cond.code yX0_flow cX0_flow 5 (some .int), Cond.methodLink RX0 93 yX0_measure, Cond.instanceMethod yX0_measure, Cond.selects RX0 yX0_measure yX0_measure, Cond.code yX0_measure cX0_measure 3 (some .int), Cond.methodLink RX0 62 Lib.Math.max.name, Cond.static Lib.Math.max.name, Cond.initialized "java/lang/Math", Cond.code Lib.Math.max.name Lib.Math.max.code 2 (some .int), Cond.methodLink RX0 58 yX0_slots, Cond.instanceMethod yX0_slots, Cond.selects RX0 yX0_slots yX0_slots, Cond.code yX0_slots cX0_slots 2 (some .int), Cond.methodLink RX0 54 yX0_joins, Cond.instanceMethod yX0_joins, Cond.selects RX0 yX0_joins yX0_joins, Cond.code yX0_joins cX0_joins 3 (some .boolean), Cond.static yX2_spot, Cond.initialized RX2, Cond.code yX2_spot cX2_spot 2 (some .int), Cond.methodLink RX0 96 yX0_flowAlong, Cond.instanceMethod yX0_flowAlong, Cond.selects RX0 yX0_flowAlong yX0_flowAlong]
def wsX2_ringStart_r3 : List Cond := [Cond.code yX0_flowAlong cX0_flowAlong 7 (some .int), Cond.fieldLink RX0 30 "JobSpread$Net" "change" "[I", Cond.methodLink RX0 103 Lib.Math.abs.name, Cond.static Lib.Math.abs.name, Cond.code Lib.Math.abs.name Lib.Math.abs.code 1 (some .int), Cond.methodLink RX0 100 yX0_settle, Cond.instanceMethod yX0_settle, Cond.selects RX0 yX0_settle yX0_settle, Cond.code yX0_settle cX0_settle 2 none, Cond.methodLink RX0 87 yX0_exchange, Cond.instanceMethod yX0_exchange, Cond.selects RX0 yX0_exchange yX0_exchange, Cond.code yX0_exchange cX0_exchange 5 (some .int), Cond.methodLink RX0 81 yX0_colours, Cond.instanceMethod yX0_colours, Cond.selects RX0 yX0_colours yX0_colours, Cond.code yX0_colours cX0_colours 3 (some .int), Cond.methodLink RX0 106 yX0_exchangeAlong, Cond.instanceMethod yX0_exchangeAlong, Cond.selects RX0 yX0_exchangeAlong yX0_exchangeAlong, Cond.code yX0_exchangeAlong cX0_exchangeAlong 8 (some .int), Cond.methodLink RX0 109 yJ9_floorDiv_7cf53, Cond.static yJ9_floorDiv_7cf53, Cond.initialized RJ9]
def wsX2_ringStart_r4 : List Cond := [Cond.code yJ9_floorDiv_7cf53 cJ9_floorDiv_7cf53 3 (some .int), Cond.methodLink RX0 90 yX0_deal, Cond.instanceMethod yX0_deal, Cond.selects RX0 yX0_deal yX0_deal, Cond.code yX0_deal cX0_deal 3 (some .int), Cond.methodLink RX0 112 yX0_dealFrom, Cond.instanceMethod yX0_dealFrom, Cond.selects RX0 yX0_dealFrom yX0_dealFrom, Cond.code yX0_dealFrom cX0_dealFrom 11 (some .int), Cond.methodLink RX0 78 yX0_rotorLeftOver, Cond.instanceMethod yX0_rotorLeftOver, Cond.selects RX0 yX0_rotorLeftOver yX0_rotorLeftOver, Cond.code yX0_rotorLeftOver cX0_rotorLeftOver 2 (some .int), Cond.instanceMethod yX0_isAlike, Cond.selects RX0 yX0_isAlike yX0_isAlike, Cond.code yX0_isAlike cX0_isAlike 3 (some .boolean)]
def wsX2_ringStart : List Cond := .code yX2_ringStart cX2_ringStart 4 (some .int) :: ((wsX2_ringStart_r1 ++ (wsX2_ringStart_r2 ++ (wsX2_ringStart_r3 ++ wsX2_ringStart_r4))) ++ wsX20 ++ wsX00)
def wsX2_ring_r1 : List Cond := [Cond.methodLink RX2 116 yX2_isRule, Cond.static yX2_isRule, Cond.initialized RX2, Cond.code yX2_isRule cX2_isRule 1 (some .boolean), Cond.methodLink RX2 50 yX2_isWithin, Cond.static yX2_isWithin, Cond.code yX2_isWithin cX2_isWithin 3 (some .boolean), Cond.methodLink RX2 180 yX2_ringLength, Cond.instanceMethod yX2_ringLength, Cond.selects RX2 yX2_ringLength yX2_ringLength, Cond.code yX2_ringLength cX2_ringLength 3 (some .int), Cond.fieldLink RX2 33 "JobSpread" "walker" "LJobSpread$Net;", Cond.fieldLink RX2 19 "JobSpread" "now" "LJobSpread$Net;", Cond.fieldLink RX2 36 "JobSpread" "marker" "LJobSpread$Net;", Cond.instanceMethod yX0_become, Cond.initialized RX0, Cond.selects RX0 yX0_become yX0_become, Cond.code yX0_become cX0_become 2 none, Cond.fieldLink RX0 9 "JobSpread$Net" "speed" "[I", Cond.methodLink RX0 40 arraycopyName, Cond.native arraycopyName, Cond.static arraycopyName, Cond.initialized "java/lang/System", Cond.fieldLink RX0 15 "JobSpread$Net" "jobs" "[I"]
def wsX2_ring_r2 : List Cond := [Cond.fieldLink RX0 18 "JobSpread$Net" "rotor" "[I", Cond.fieldLink RX0 21 "JobSpread$Net" "degree" "[I", Cond.fieldLink RX0 24 "JobSpread$Net" "colour" "[I", Cond.fieldLink RX0 27 "JobSpread$Net" "carry" "[I", Cond.fieldLink RX0 33 "JobSpread$Net" "edges" "I", Cond.fieldLink RX0 37 "JobSpread$Net" "rounds" "I", Cond.instanceMethod yX0_goOn, Cond.selects RX0 yX0_goOn yX0_goOn, Cond.code yX0_goOn cX0_goOn 5 (some .int), Cond.methodLink RX0 84 yX0_flow, Cond.instanceMethod yX0_flow, Cond.selects RX0 yX0_flow yX0_flow, Cond.code yX0_flow cX0_flow 5 (some .int), Cond.methodLink RX0 93 yX0_measure, Cond.instanceMethod yX0_measure, Cond.selects RX0 yX0_measure yX0_measure, Cond.code yX0_measure cX0_measure 3 (some .int), Cond.methodLink RX0 62 Lib.Math.max.name, Cond.static Lib.Math.max.name, Cond.initialized "java/lang/Math", Cond.code Lib.Math.max.name Lib.Math.max.code 2 (some .int), Cond.methodLink RX0 58 yX0_slots, Cond.instanceMethod yX0_slots, Cond.selects RX0 yX0_slots yX0_slots]
def wsX2_ring_r3 : List Cond := [Cond.code yX0_slots cX0_slots 2 (some .int), Cond.methodLink RX0 54 yX0_joins, Cond.instanceMethod yX0_joins, Cond.selects RX0 yX0_joins yX0_joins, Cond.code yX0_joins cX0_joins 3 (some .boolean), Cond.static yX2_spot, Cond.code yX2_spot cX2_spot 2 (some .int), Cond.methodLink RX0 96 yX0_flowAlong, Cond.instanceMethod yX0_flowAlong, Cond.selects RX0 yX0_flowAlong yX0_flowAlong, Cond.code yX0_flowAlong cX0_flowAlong 7 (some .int), Cond.fieldLink RX0 30 "JobSpread$Net" "change" "[I", Cond.methodLink RX0 103 Lib.Math.abs.name, Cond.static Lib.Math.abs.name, Cond.code Lib.Math.abs.name Lib.Math.abs.code 1 (some .int), Cond.methodLink RX0 100 yX0_settle, Cond.instanceMethod yX0_settle, Cond.selects RX0 yX0_settle yX0_settle, Cond.code yX0_settle cX0_settle 2 none, Cond.methodLink RX0 87 yX0_exchange, Cond.instanceMethod yX0_exchange, Cond.selects RX0 yX0_exchange yX0_exchange, Cond.code yX0_exchange cX0_exchange 5 (some .int), Cond.methodLink RX0 81 yX0_colours]
def wsX2_ring_r4 : List Cond := [Cond.instanceMethod yX0_colours, Cond.selects RX0 yX0_colours yX0_colours, Cond.code yX0_colours cX0_colours 3 (some .int), Cond.methodLink RX0 106 yX0_exchangeAlong, Cond.instanceMethod yX0_exchangeAlong, Cond.selects RX0 yX0_exchangeAlong yX0_exchangeAlong, Cond.code yX0_exchangeAlong cX0_exchangeAlong 8 (some .int), Cond.methodLink RX0 109 yJ9_floorDiv_7cf53, Cond.static yJ9_floorDiv_7cf53, Cond.initialized RJ9, Cond.code yJ9_floorDiv_7cf53 cJ9_floorDiv_7cf53 3 (some .int), Cond.methodLink RX0 90 yX0_deal, Cond.instanceMethod yX0_deal, Cond.selects RX0 yX0_deal yX0_deal, Cond.code yX0_deal cX0_deal 3 (some .int), Cond.methodLink RX0 112 yX0_dealFrom, Cond.instanceMethod yX0_dealFrom, Cond.selects RX0 yX0_dealFrom yX0_dealFrom, Cond.code yX0_dealFrom cX0_dealFrom 11 (some .int), Cond.methodLink RX0 78 yX0_rotorLeftOver, Cond.instanceMethod yX0_rotorLeftOver, Cond.selects RX0 yX0_rotorLeftOver yX0_rotorLeftOver, Cond.code yX0_rotorLeftOver cX0_rotorLeftOver 2 (some .int), Cond.instanceMethod yX0_isAlike]
def wsX2_ring_r5 : List Cond := [Cond.selects RX0 yX0_isAlike yX0_isAlike, Cond.code yX0_isAlike cX0_isAlike 3 (some .boolean), Cond.methodLink RX2 183 yX2_ringStart, Cond.instanceMethod yX2_ringStart, Cond.selects RX2 yX2_ringStart yX2_ringStart, Cond.code yX2_ringStart cX2_ringStart 4 (some .int)]
def wsX2_ring : List Cond := .code yX2_ring cX2_ring 5 (some .int) :: ((wsX2_ring_r1 ++ (wsX2_ring_r2 ++ (wsX2_ring_r3 ++ (wsX2_ring_r4 ++ wsX2_ring_r5)))) ++ wsX20 ++ wsX00)
def wsX2_imageAt : List Cond := .code yX2_imageAt cX2_imageAt 2 (some (.object "JobSpread$Net")) :: ([.fieldLink RX2 23 "JobSpread" "firstImage" "LJobSpread$Net;", .fieldLink RX2 26 "JobSpread" "secondImage" "LJobSpread$Net;"] ++ wsX20)
def wsX2_image_r1 : List Cond := [Cond.fieldLink RX2 19 "JobSpread" "now" "LJobSpread$Net;", Cond.fieldLink RX2 29 "JobSpread" "kept" "I", Cond.methodLink RX2 50 yX2_isWithin, Cond.static yX2_isWithin, Cond.initialized RX2, Cond.code yX2_isWithin cX2_isWithin 3 (some .boolean), Cond.methodLink RX2 190 yX2_imageAt, Cond.instanceMethod yX2_imageAt, Cond.selects RX2 yX2_imageAt yX2_imageAt, Cond.code yX2_imageAt cX2_imageAt 2 (some (.object "JobSpread$Net")), Cond.fieldLink RX2 23 "JobSpread" "firstImage" "LJobSpread$Net;", Cond.fieldLink RX2 26 "JobSpread" "secondImage" "LJobSpread$Net;", Cond.instanceMethod yX0_become, Cond.initialized RX0, Cond.selects RX0 yX0_become yX0_become, Cond.code yX0_become cX0_become 2 none, Cond.fieldLink RX0 9 "JobSpread$Net" "speed" "[I", Cond.methodLink RX0 40 arraycopyName, Cond.native arraycopyName, Cond.static arraycopyName, Cond.initialized "java/lang/System", Cond.fieldLink RX0 15 "JobSpread$Net" "jobs" "[I", Cond.fieldLink RX0 18 "JobSpread$Net" "rotor" "[I", Cond.fieldLink RX0 21 "JobSpread$Net" "degree" "[I"]
def wsX2_image_r2 : List Cond := [Cond.fieldLink RX0 24 "JobSpread$Net" "colour" "[I", Cond.fieldLink RX0 27 "JobSpread$Net" "carry" "[I", Cond.fieldLink RX0 33 "JobSpread$Net" "edges" "I", Cond.fieldLink RX0 37 "JobSpread$Net" "rounds" "I"]
def wsX2_image : List Cond := .code yX2_image cX2_image 2 (some .int) :: ((wsX2_image_r1 ++ wsX2_image_r2) ++ wsX20 ++ wsX00)
def wsX2_restore_r1 : List Cond := [Cond.fieldLink RX2 29 "JobSpread" "kept" "I", Cond.fieldLink RX2 19 "JobSpread" "now" "LJobSpread$Net;", Cond.methodLink RX2 50 yX2_isWithin, Cond.static yX2_isWithin, Cond.initialized RX2, Cond.code yX2_isWithin cX2_isWithin 3 (some .boolean), Cond.methodLink RX2 190 yX2_imageAt, Cond.instanceMethod yX2_imageAt, Cond.selects RX2 yX2_imageAt yX2_imageAt, Cond.code yX2_imageAt cX2_imageAt 2 (some (.object "JobSpread$Net")), Cond.fieldLink RX2 23 "JobSpread" "firstImage" "LJobSpread$Net;", Cond.fieldLink RX2 26 "JobSpread" "secondImage" "LJobSpread$Net;", Cond.instanceMethod yX0_become, Cond.initialized RX0, Cond.selects RX0 yX0_become yX0_become, Cond.code yX0_become cX0_become 2 none, Cond.fieldLink RX0 9 "JobSpread$Net" "speed" "[I", Cond.methodLink RX0 40 arraycopyName, Cond.native arraycopyName, Cond.static arraycopyName, Cond.initialized "java/lang/System", Cond.fieldLink RX0 15 "JobSpread$Net" "jobs" "[I", Cond.fieldLink RX0 18 "JobSpread$Net" "rotor" "[I", Cond.fieldLink RX0 21 "JobSpread$Net" "degree" "[I"]
def wsX2_restore_r2 : List Cond := [Cond.fieldLink RX0 24 "JobSpread$Net" "colour" "[I", Cond.fieldLink RX0 27 "JobSpread$Net" "carry" "[I", Cond.fieldLink RX0 33 "JobSpread$Net" "edges" "I", Cond.fieldLink RX0 37 "JobSpread$Net" "rounds" "I"]
def wsX2_restore : List Cond := .code yX2_restore cX2_restore 2 (some .int) :: ((wsX2_restore_r1 ++ wsX2_restore_r2) ++ wsX20 ++ wsX00)
def wsX2_count_r1 : List Cond := [Cond.fieldLink RX2 19 "JobSpread" "now" "LJobSpread$Net;", Cond.fieldLink RX2 10 "JobSpread" "pad" "LJobSpread$Pad;", Cond.fieldLink RX2 29 "JobSpread" "kept" "I", Cond.instanceMethod yX0_allJobs, Cond.initialized RX0, Cond.selects RX0 yX0_allJobs yX0_allJobs, Cond.code yX0_allJobs cX0_allJobs 4 (some .long), Cond.fieldLink RX0 15 "JobSpread$Net" "jobs" "[I", Cond.instanceMethod yX0_measure, Cond.selects RX0 yX0_measure yX0_measure, Cond.code yX0_measure cX0_measure 3 (some .int), Cond.methodLink RX0 62 Lib.Math.max.name, Cond.static Lib.Math.max.name, Cond.initialized "java/lang/Math", Cond.code Lib.Math.max.name Lib.Math.max.code 2 (some .int), Cond.methodLink RX0 58 yX0_slots, Cond.instanceMethod yX0_slots, Cond.selects RX0 yX0_slots yX0_slots, Cond.code yX0_slots cX0_slots 2 (some .int), Cond.fieldLink RX0 21 "JobSpread$Net" "degree" "[I", Cond.instanceMethod yX0_colours, Cond.selects RX0 yX0_colours yX0_colours, Cond.code yX0_colours cX0_colours 3 (some .int), Cond.fieldLink RX0 24 "JobSpread$Net" "colour" "[I"]
def wsX2_count_r2 : List Cond := [Cond.instanceMethod yX0_nodesBelowZero, Cond.selects RX0 yX0_nodesBelowZero yX0_nodesBelowZero, Cond.code yX0_nodesBelowZero cX0_nodesBelowZero 3 (some .int)]
def wsX2_count : List Cond := .code yX2_count cX2_count 2 (some .int) :: ((wsX2_count_r1 ++ wsX2_count_r2) ++ wsX20 ++ wsX00 ++ wsX10)
def wsX3_init : List Cond := .code yX3_init cX3_init 2 none :: ([.methodLink RX3 1 objectInit, .instanceMethod objectInit, .code objectInit ⟨#[0xb1]⟩ 1 none, .arrayClass .int, .fieldLink RX3 7 "JobSpreadModel" "state" "[I", .fieldLink RX3 13 "JobSpreadModel" "images" "[I", .arrayClass .boolean, .fieldLink RX3 16 "JobSpreadModel" "isKept" "[Z", .fieldLink RX3 20 "JobSpreadModel" "pad" "[I", .fieldLink RX3 23 "JobSpreadModel" "next" "[I", .arrayClass .long, .fieldLink RX3 26 "JobSpreadModel" "parts" "[J", .fieldLink RX3 30 "JobSpreadModel" "partsNext" "[J", .fieldLink RX3 33 "JobSpreadModel" "times" "[I"] ++ wsX30)
def wsX3_in : List Cond := .code yX3_in cX3_in 3 (some .boolean) :: ([])
def wsX3_isNode : List Cond := .code yX3_isNode cX3_isNode 1 (some .boolean) :: ([.methodLink RX3 36 yX3_in, .static yX3_in, .initialized RX3, .code yX3_in cX3_in 3 (some .boolean)])
def wsX3_pair : List Cond := .code yX3_pair cX3_pair 2 (some .int) :: ([])
def wsX3_isEdge : List Cond := .code yX3_isEdge cX3_isEdge 3 (some .boolean) :: ([.fieldLink RX3 7 "JobSpreadModel" "state" "[I", .methodLink RX3 40 yX3_pair, .static yX3_pair, .initialized RX3, .code yX3_pair cX3_pair 2 (some .int)] ++ wsX30)
def wsX3_edges : List Cond := .code yX3_edges cX3_edges 3 (some .int) :: ([.fieldLink RX3 7 "JobSpreadModel" "state" "[I"] ++ wsX30)
def wsX3_edgesOf : List Cond := .code yX3_edgesOf cX3_edgesOf 4 (some .int) :: ([.methodLink RX3 44 yX3_isEdge, .instanceMethod yX3_isEdge, .selects RX3 yX3_isEdge yX3_isEdge, .initialized RX3, .code yX3_isEdge cX3_isEdge 3 (some .boolean), .fieldLink RX3 7 "JobSpreadModel" "state" "[I", .methodLink RX3 40 yX3_pair, .static yX3_pair, .code yX3_pair cX3_pair 2 (some .int)] ++ wsX30)
def wsX3_node : List Cond := .code yX3_node cX3_node 5 (some .int) :: ([.fieldLink RX3 7 "JobSpreadModel" "state" "[I", .methodLink RX3 48 yX3_isNode, .static yX3_isNode, .initialized RX3, .code yX3_isNode cX3_isNode 1 (some .boolean), .methodLink RX3 36 yX3_in, .static yX3_in, .code yX3_in cX3_in 3 (some .boolean)] ++ wsX30)
def wsX3_lay : List Cond := .code yX3_lay cX3_lay 4 none :: ([.fieldLink RX3 7 "JobSpreadModel" "state" "[I", .methodLink RX3 40 yX3_pair, .static yX3_pair, .initialized RX3, .code yX3_pair cX3_pair 2 (some .int)] ++ wsX30)
def wsX3_edge : List Cond := .code yX3_edge cX3_edge 4 (some .int) :: ([.methodLink RX3 48 yX3_isNode, .static yX3_isNode, .initialized RX3, .code yX3_isNode cX3_isNode 1 (some .boolean), .methodLink RX3 36 yX3_in, .static yX3_in, .code yX3_in cX3_in 3 (some .boolean), .methodLink RX3 44 yX3_isEdge, .instanceMethod yX3_isEdge, .selects RX3 yX3_isEdge yX3_isEdge, .code yX3_isEdge cX3_isEdge 3 (some .boolean), .fieldLink RX3 7 "JobSpreadModel" "state" "[I", .methodLink RX3 40 yX3_pair, .static yX3_pair, .code yX3_pair cX3_pair 2 (some .int), .methodLink RX3 52 yX3_edges, .instanceMethod yX3_edges, .selects RX3 yX3_edges yX3_edges, .code yX3_edges cX3_edges 3 (some .int), .methodLink RX3 56 yX3_lay, .instanceMethod yX3_lay, .selects RX3 yX3_lay yX3_lay, .code yX3_lay cX3_lay 4 none] ++ wsX30)
def wsX3_say : List Cond := .code yX3_say cX3_say 2 (some .int) :: ([.fieldLink RX3 60 "JobSpreadModel" "said" "I", .fieldLink RX3 20 "JobSpreadModel" "pad" "[I", .methodLink RX3 36 yX3_in, .static yX3_in, .initialized RX3, .code yX3_in cX3_in 3 (some .boolean)] ++ wsX30)
def wsX3_wipe : List Cond := .code yX3_wipe cX3_wipe 2 (some .int) :: ([.fieldLink RX3 60 "JobSpreadModel" "said" "I"] ++ wsX30)
def wsX3_letter : List Cond := .code yX3_letter cX3_letter 2 (some .int) :: ([.fieldLink RX3 20 "JobSpreadModel" "pad" "[I", .methodLink RX3 36 yX3_in, .static yX3_in, .initialized RX3, .code yX3_in cX3_in 3 (some .boolean)] ++ wsX30)
def wsX3_isNew : List Cond := .code yX3_isNew cX3_isNew 6 (some .boolean) :: ([.methodLink RX3 64 yX3_letter, .instanceMethod yX3_letter, .selects RX3 yX3_letter yX3_letter, .initialized RX3, .code yX3_letter cX3_letter 2 (some .int), .fieldLink RX3 20 "JobSpreadModel" "pad" "[I", .methodLink RX3 36 yX3_in, .static yX3_in, .code yX3_in cX3_in 3 (some .boolean), .methodLink RX3 40 yX3_pair, .static yX3_pair, .code yX3_pair cX3_pair 2 (some .int)] ++ wsX30)
def wsX3_canStand : List Cond := .code yX3_canStand cX3_canStand 2 (some .boolean) :: ([.fieldLink RX3 20 "JobSpreadModel" "pad" "[I", .methodLink RX3 64 yX3_letter, .instanceMethod yX3_letter, .selects RX3 yX3_letter yX3_letter, .initialized RX3, .code yX3_letter cX3_letter 2 (some .int), .methodLink RX3 36 yX3_in, .static yX3_in, .code yX3_in cX3_in 3 (some .boolean), .methodLink RX3 68 yX3_isNew, .instanceMethod yX3_isNew, .selects RX3 yX3_isNew yX3_isNew, .code yX3_isNew cX3_isNew 6 (some .boolean), .methodLink RX3 40 yX3_pair, .static yX3_pair, .code yX3_pair cX3_pair 2 (some .int)] ++ wsX30)
def wsX3_fault : List Cond := .code yX3_fault cX3_fault 2 (some .int) :: ([.fieldLink RX3 60 "JobSpreadModel" "said" "I", .methodLink RX3 71 yX3_canStand, .instanceMethod yX3_canStand, .selects RX3 yX3_canStand yX3_canStand, .initialized RX3, .code yX3_canStand cX3_canStand 2 (some .boolean), .fieldLink RX3 20 "JobSpreadModel" "pad" "[I", .methodLink RX3 64 yX3_letter, .instanceMethod yX3_letter, .selects RX3 yX3_letter yX3_letter, .code yX3_letter cX3_letter 2 (some .int), .methodLink RX3 36 yX3_in, .static yX3_in, .code yX3_in cX3_in 3 (some .boolean), .methodLink RX3 68 yX3_isNew, .instanceMethod yX3_isNew, .selects RX3 yX3_isNew yX3_isNew, .code yX3_isNew cX3_isNew 6 (some .boolean), .methodLink RX3 40 yX3_pair, .static yX3_pair, .code yX3_pair cX3_pair 2 (some .int)] ++ wsX30)
def wsX3_net_r1 : List Cond := [Cond.fieldLink RX3 7 "JobSpreadModel" "state" "[I", Cond.fieldLink RX3 60 "JobSpreadModel" "said" "I", Cond.fieldLink RX3 20 "JobSpreadModel" "pad" "[I", Cond.methodLink RX3 74 yX3_fault, Cond.instanceMethod yX3_fault, Cond.selects RX3 yX3_fault yX3_fault, Cond.initialized RX3, Cond.code yX3_fault cX3_fault 2 (some .int), Cond.methodLink RX3 71 yX3_canStand, Cond.instanceMethod yX3_canStand, Cond.selects RX3 yX3_canStand yX3_canStand, Cond.code yX3_canStand cX3_canStand 2 (some .boolean), Cond.methodLink RX3 64 yX3_letter, Cond.instanceMethod yX3_letter, Cond.selects RX3 yX3_letter yX3_letter, Cond.code yX3_letter cX3_letter 2 (some .int), Cond.methodLink RX3 36 yX3_in, Cond.static yX3_in, Cond.code yX3_in cX3_in 3 (some .boolean), Cond.methodLink RX3 68 yX3_isNew, Cond.instanceMethod yX3_isNew, Cond.selects RX3 yX3_isNew yX3_isNew, Cond.code yX3_isNew cX3_isNew 6 (some .boolean), Cond.methodLink RX3 40 yX3_pair]
def wsX3_net_r2 : List Cond := [Cond.static yX3_pair, Cond.code yX3_pair cX3_pair 2 (some .int), Cond.methodLink RX3 56 yX3_lay, Cond.instanceMethod yX3_lay, Cond.selects RX3 yX3_lay yX3_lay, Cond.code yX3_lay cX3_lay 4 none, Cond.methodLink RX3 52 yX3_edges, Cond.instanceMethod yX3_edges, Cond.selects RX3 yX3_edges yX3_edges, Cond.code yX3_edges cX3_edges 3 (some .int)]
def wsX3_net : List Cond := .code yX3_net cX3_net 2 (some .int) :: ((wsX3_net_r1 ++ wsX3_net_r2) ++ wsX30)
def wsX3_jobs : List Cond := .code yX3_jobs cX3_jobs 2 (some .int) :: ([.fieldLink RX3 7 "JobSpreadModel" "state" "[I", .methodLink RX3 48 yX3_isNode, .static yX3_isNode, .initialized RX3, .code yX3_isNode cX3_isNode 1 (some .boolean), .methodLink RX3 36 yX3_in, .static yX3_in, .code yX3_in cX3_in 3 (some .boolean)] ++ wsX30)
def wsX3_told : List Cond := .code yX3_told cX3_told 3 (some .int) :: ([.fieldLink RX3 7 "JobSpreadModel" "state" "[I", .methodLink RX3 48 yX3_isNode, .static yX3_isNode, .initialized RX3, .code yX3_isNode cX3_isNode 1 (some .boolean), .methodLink RX3 36 yX3_in, .static yX3_in, .code yX3_in cX3_in 3 (some .boolean), .methodLink RX3 44 yX3_isEdge, .instanceMethod yX3_isEdge, .selects RX3 yX3_isEdge yX3_isEdge, .code yX3_isEdge cX3_isEdge 3 (some .boolean), .methodLink RX3 40 yX3_pair, .static yX3_pair, .code yX3_pair cX3_pair 2 (some .int), .methodLink RX3 77 yX3_edgesOf, .instanceMethod yX3_edgesOf, .selects RX3 yX3_edgesOf yX3_edgesOf, .code yX3_edgesOf cX3_edgesOf 4 (some .int)] ++ wsX30)
def wsX3_carry : List Cond := .code yX3_carry cX3_carry 3 (some .int) :: ([.fieldLink RX3 7 "JobSpreadModel" "state" "[I", .methodLink RX3 48 yX3_isNode, .static yX3_isNode, .initialized RX3, .code yX3_isNode cX3_isNode 1 (some .boolean), .methodLink RX3 36 yX3_in, .static yX3_in, .code yX3_in cX3_in 3 (some .boolean), .methodLink RX3 44 yX3_isEdge, .instanceMethod yX3_isEdge, .selects RX3 yX3_isEdge yX3_isEdge, .code yX3_isEdge cX3_isEdge 3 (some .boolean), .methodLink RX3 40 yX3_pair, .static yX3_pair, .code yX3_pair cX3_pair 2 (some .int)] ++ wsX30)
def wsX3_measure : List Cond := .code yX3_measure cX3_measure 3 (some .int) :: ([.methodLink RX3 77 yX3_edgesOf, .instanceMethod yX3_edgesOf, .selects RX3 yX3_edgesOf yX3_edgesOf, .initialized RX3, .code yX3_edgesOf cX3_edgesOf 4 (some .int), .methodLink RX3 44 yX3_isEdge, .instanceMethod yX3_isEdge, .selects RX3 yX3_isEdge yX3_isEdge, .code yX3_isEdge cX3_isEdge 3 (some .boolean), .fieldLink RX3 7 "JobSpreadModel" "state" "[I", .methodLink RX3 40 yX3_pair, .static yX3_pair, .code yX3_pair cX3_pair 2 (some .int)] ++ wsX30)
def wsX3_colours : List Cond := .code yX3_colours cX3_colours 3 (some .int) :: ([.fieldLink RX3 7 "JobSpreadModel" "state" "[I"] ++ wsX30)
def wsX3_layNext : List Cond := .code yX3_layNext cX3_layNext 2 none :: ([.fieldLink RX3 23 "JobSpreadModel" "next" "[I", .fieldLink RX3 7 "JobSpreadModel" "state" "[I"] ++ wsX30)
def wsX3_takeNext : List Cond := .code yX3_takeNext cX3_takeNext 2 none :: ([.fieldLink RX3 7 "JobSpreadModel" "state" "[I", .fieldLink RX3 23 "JobSpreadModel" "next" "[I"] ++ wsX30)
def wsX3_flow_r1 : List Cond := [Cond.fieldLink RX3 7 "JobSpreadModel" "state" "[I", Cond.fieldLink RX3 23 "JobSpreadModel" "next" "[I", Cond.methodLink RX3 80 yX3_measure, Cond.instanceMethod yX3_measure, Cond.selects RX3 yX3_measure yX3_measure, Cond.initialized RX3, Cond.code yX3_measure cX3_measure 3 (some .int), Cond.methodLink RX3 77 yX3_edgesOf, Cond.instanceMethod yX3_edgesOf, Cond.selects RX3 yX3_edgesOf yX3_edgesOf, Cond.code yX3_edgesOf cX3_edgesOf 4 (some .int), Cond.methodLink RX3 44 yX3_isEdge, Cond.instanceMethod yX3_isEdge, Cond.selects RX3 yX3_isEdge yX3_isEdge, Cond.code yX3_isEdge cX3_isEdge 3 (some .boolean), Cond.methodLink RX3 40 yX3_pair, Cond.static yX3_pair, Cond.code yX3_pair cX3_pair 2 (some .int), Cond.methodLink RX3 83 yX3_layNext, Cond.instanceMethod yX3_layNext, Cond.selects RX3 yX3_layNext yX3_layNext, Cond.code yX3_layNext cX3_layNext 2 none, Cond.methodLink RX3 86 yX3_takeNext, Cond.instanceMethod yX3_takeNext]
def wsX3_flow_r2 : List Cond := [Cond.selects RX3 yX3_takeNext yX3_takeNext, Cond.code yX3_takeNext cX3_takeNext 2 none]
def wsX3_flow : List Cond := .code yX3_flow cX3_flow 8 (some .int) :: ((wsX3_flow_r1 ++ wsX3_flow_r2) ++ wsX30)
def wsX3_down : List Cond := .code yX3_down cX3_down 3 (some .int) :: ([])
def wsX3_even : List Cond := .code yX3_even cX3_even 10 (some .int) :: ([.fieldLink RX3 7 "JobSpreadModel" "state" "[I", .methodLink RX3 89 yX3_down, .static yX3_down, .initialized RX3, .code yX3_down cX3_down 3 (some .int)] ++ wsX30)
def wsX3_exchange : List Cond := .code yX3_exchange cX3_exchange 4 (some .int) :: ([.fieldLink RX3 7 "JobSpreadModel" "state" "[I", .methodLink RX3 92 yX3_colours, .instanceMethod yX3_colours, .selects RX3 yX3_colours yX3_colours, .initialized RX3, .code yX3_colours cX3_colours 3 (some .int), .methodLink RX3 95 yX3_even, .instanceMethod yX3_even, .selects RX3 yX3_even yX3_even, .code yX3_even cX3_even 10 (some .int), .methodLink RX3 89 yX3_down, .static yX3_down, .code yX3_down cX3_down 3 (some .int)] ++ wsX30)
def wsX3_deal : List Cond := .code yX3_deal cX3_deal 11 (some .int) :: ([.fieldLink RX3 7 "JobSpreadModel" "state" "[I", .fieldLink RX3 23 "JobSpreadModel" "next" "[I", .methodLink RX3 77 yX3_edgesOf, .instanceMethod yX3_edgesOf, .selects RX3 yX3_edgesOf yX3_edgesOf, .initialized RX3, .code yX3_edgesOf cX3_edgesOf 4 (some .int), .methodLink RX3 44 yX3_isEdge, .instanceMethod yX3_isEdge, .selects RX3 yX3_isEdge yX3_isEdge, .code yX3_isEdge cX3_isEdge 3 (some .boolean), .methodLink RX3 40 yX3_pair, .static yX3_pair, .code yX3_pair cX3_pair 2 (some .int)] ++ wsX30)
def wsX3_rotor : List Cond := .code yX3_rotor cX3_rotor 3 (some .int) :: ([.fieldLink RX3 23 "JobSpreadModel" "next" "[I", .fieldLink RX3 7 "JobSpreadModel" "state" "[I", .methodLink RX3 98 yX3_deal, .instanceMethod yX3_deal, .selects RX3 yX3_deal yX3_deal, .initialized RX3, .code yX3_deal cX3_deal 11 (some .int), .methodLink RX3 77 yX3_edgesOf, .instanceMethod yX3_edgesOf, .selects RX3 yX3_edgesOf yX3_edgesOf, .code yX3_edgesOf cX3_edgesOf 4 (some .int), .methodLink RX3 44 yX3_isEdge, .instanceMethod yX3_isEdge, .selects RX3 yX3_isEdge yX3_isEdge, .code yX3_isEdge cX3_isEdge 3 (some .boolean), .methodLink RX3 40 yX3_pair, .static yX3_pair, .code yX3_pair cX3_pair 2 (some .int), .methodLink RX3 86 yX3_takeNext, .instanceMethod yX3_takeNext, .selects RX3 yX3_takeNext yX3_takeNext, .code yX3_takeNext cX3_takeNext 2 none] ++ wsX30)
def wsX3_round_r1 : List Cond := [Cond.fieldLink RX3 7 "JobSpreadModel" "state" "[I", Cond.methodLink RX3 101 yX3_flow, Cond.instanceMethod yX3_flow, Cond.selects RX3 yX3_flow yX3_flow, Cond.initialized RX3, Cond.code yX3_flow cX3_flow 8 (some .int), Cond.fieldLink RX3 23 "JobSpreadModel" "next" "[I", Cond.methodLink RX3 80 yX3_measure, Cond.instanceMethod yX3_measure, Cond.selects RX3 yX3_measure yX3_measure, Cond.code yX3_measure cX3_measure 3 (some .int), Cond.methodLink RX3 77 yX3_edgesOf, Cond.instanceMethod yX3_edgesOf, Cond.selects RX3 yX3_edgesOf yX3_edgesOf, Cond.code yX3_edgesOf cX3_edgesOf 4 (some .int), Cond.methodLink RX3 44 yX3_isEdge, Cond.instanceMethod yX3_isEdge, Cond.selects RX3 yX3_isEdge yX3_isEdge, Cond.code yX3_isEdge cX3_isEdge 3 (some .boolean), Cond.methodLink RX3 40 yX3_pair, Cond.static yX3_pair, Cond.code yX3_pair cX3_pair 2 (some .int), Cond.methodLink RX3 83 yX3_layNext, Cond.instanceMethod yX3_layNext]
def wsX3_round_r2 : List Cond := [Cond.selects RX3 yX3_layNext yX3_layNext, Cond.code yX3_layNext cX3_layNext 2 none, Cond.methodLink RX3 86 yX3_takeNext, Cond.instanceMethod yX3_takeNext, Cond.selects RX3 yX3_takeNext yX3_takeNext, Cond.code yX3_takeNext cX3_takeNext 2 none, Cond.methodLink RX3 104 yX3_exchange, Cond.instanceMethod yX3_exchange, Cond.selects RX3 yX3_exchange yX3_exchange, Cond.code yX3_exchange cX3_exchange 4 (some .int), Cond.methodLink RX3 92 yX3_colours, Cond.instanceMethod yX3_colours, Cond.selects RX3 yX3_colours yX3_colours, Cond.code yX3_colours cX3_colours 3 (some .int), Cond.methodLink RX3 95 yX3_even, Cond.instanceMethod yX3_even, Cond.selects RX3 yX3_even yX3_even, Cond.code yX3_even cX3_even 10 (some .int), Cond.methodLink RX3 89 yX3_down, Cond.static yX3_down, Cond.code yX3_down cX3_down 3 (some .int), Cond.methodLink RX3 107 yX3_rotor, Cond.instanceMethod yX3_rotor, Cond.selects RX3 yX3_rotor yX3_rotor]
def wsX3_round_r3 : List Cond := [Cond.code yX3_rotor cX3_rotor 3 (some .int), Cond.methodLink RX3 98 yX3_deal, Cond.instanceMethod yX3_deal, Cond.selects RX3 yX3_deal yX3_deal, Cond.code yX3_deal cX3_deal 11 (some .int)]
def wsX3_round : List Cond := .code yX3_round cX3_round 3 (some .int) :: ((wsX3_round_r1 ++ (wsX3_round_r2 ++ wsX3_round_r3)) ++ wsX30)
def wsX3_run_r1 : List Cond := [Cond.methodLink RX3 36 yX3_in, Cond.static yX3_in, Cond.initialized RX3, Cond.code yX3_in cX3_in 3 (some .boolean), Cond.methodLink RX3 110 yX3_round, Cond.instanceMethod yX3_round, Cond.selects RX3 yX3_round yX3_round, Cond.code yX3_round cX3_round 3 (some .int), Cond.fieldLink RX3 7 "JobSpreadModel" "state" "[I", Cond.methodLink RX3 101 yX3_flow, Cond.instanceMethod yX3_flow, Cond.selects RX3 yX3_flow yX3_flow, Cond.code yX3_flow cX3_flow 8 (some .int), Cond.fieldLink RX3 23 "JobSpreadModel" "next" "[I", Cond.methodLink RX3 80 yX3_measure, Cond.instanceMethod yX3_measure, Cond.selects RX3 yX3_measure yX3_measure, Cond.code yX3_measure cX3_measure 3 (some .int), Cond.methodLink RX3 77 yX3_edgesOf, Cond.instanceMethod yX3_edgesOf, Cond.selects RX3 yX3_edgesOf yX3_edgesOf, Cond.code yX3_edgesOf cX3_edgesOf 4 (some .int), Cond.methodLink RX3 44 yX3_isEdge, Cond.instanceMethod yX3_isEdge]
def wsX3_run_r2 : List Cond := [Cond.selects RX3 yX3_isEdge yX3_isEdge, Cond.code yX3_isEdge cX3_isEdge 3 (some .boolean), Cond.methodLink RX3 40 yX3_pair, Cond.static yX3_pair, Cond.code yX3_pair cX3_pair 2 (some .int), Cond.methodLink RX3 83 yX3_layNext, Cond.instanceMethod yX3_layNext, Cond.selects RX3 yX3_layNext yX3_layNext, Cond.code yX3_layNext cX3_layNext 2 none, Cond.methodLink RX3 86 yX3_takeNext, Cond.instanceMethod yX3_takeNext, Cond.selects RX3 yX3_takeNext yX3_takeNext, Cond.code yX3_takeNext cX3_takeNext 2 none, Cond.methodLink RX3 104 yX3_exchange, Cond.instanceMethod yX3_exchange, Cond.selects RX3 yX3_exchange yX3_exchange, Cond.code yX3_exchange cX3_exchange 4 (some .int), Cond.methodLink RX3 92 yX3_colours, Cond.instanceMethod yX3_colours, Cond.selects RX3 yX3_colours yX3_colours, Cond.code yX3_colours cX3_colours 3 (some .int), Cond.methodLink RX3 95 yX3_even, Cond.instanceMethod yX3_even, Cond.selects RX3 yX3_even yX3_even]
def wsX3_run_r3 : List Cond := [Cond.code yX3_even cX3_even 10 (some .int), Cond.methodLink RX3 89 yX3_down, Cond.static yX3_down, Cond.code yX3_down cX3_down 3 (some .int), Cond.methodLink RX3 107 yX3_rotor, Cond.instanceMethod yX3_rotor, Cond.selects RX3 yX3_rotor yX3_rotor, Cond.code yX3_rotor cX3_rotor 3 (some .int), Cond.methodLink RX3 98 yX3_deal, Cond.instanceMethod yX3_deal, Cond.selects RX3 yX3_deal yX3_deal, Cond.code yX3_deal cX3_deal 11 (some .int)]
def wsX3_run : List Cond := .code yX3_run cX3_run 5 (some .int) :: ((wsX3_run_r1 ++ (wsX3_run_r2 ++ wsX3_run_r3)) ++ wsX30)
def wsX3_reset : List Cond := .code yX3_reset cX3_reset 3 (some .int) :: ([.fieldLink RX3 7 "JobSpreadModel" "state" "[I"] ++ wsX30)
def wsX3_layUneven : List Cond := .code yX3_layUneven cX3_layUneven 4 none :: ([.fieldLink RX3 7 "JobSpreadModel" "state" "[I", .fieldLink RX3 113 "JobSpreadModel" "upper" "I", .fieldLink RX3 116 "JobSpreadModel" "lower" "I"] ++ wsX30)
def wsX3_common : List Cond := .code yX3_common cX3_common 10 (some .long) :: ([])
def wsX3_told_ : List Cond := .code yX3_told_ cX3_told_ 7 (some .long) :: ([.methodLink RX3 119 yX3_common, .static yX3_common, .initialized RX3, .code yX3_common cX3_common 10 (some .long)])
def wsX3_uneven : List Cond := .code yX3_uneven cX3_uneven 2 (some .int) :: ([.fieldLink RX3 113 "JobSpreadModel" "upper" "I", .fieldLink RX3 116 "JobSpreadModel" "lower" "I", .methodLink RX3 36 yX3_in, .static yX3_in, .initialized RX3, .code yX3_in cX3_in 3 (some .boolean), .methodLink RX3 123 yX3_layUneven, .instanceMethod yX3_layUneven, .selects RX3 yX3_layUneven yX3_layUneven, .code yX3_layUneven cX3_layUneven 4 none, .fieldLink RX3 7 "JobSpreadModel" "state" "[I", .methodLink RX3 126 yX3_told_, .static yX3_told_, .code yX3_told_ cX3_told_ 7 (some .long), .methodLink RX3 119 yX3_common, .static yX3_common, .code yX3_common cX3_common 10 (some .long)] ++ wsX30)
def wsX3_sumOf : List Cond := .code yX3_sumOf cX3_sumOf 4 (some .int) :: ([.fieldLink RX3 7 "JobSpreadModel" "state" "[I"] ++ wsX30)
def wsX3_share : List Cond := .code yX3_share cX3_share 3 (some .int) :: ([.fieldLink RX3 7 "JobSpreadModel" "state" "[I", .methodLink RX3 48 yX3_isNode, .static yX3_isNode, .initialized RX3, .code yX3_isNode cX3_isNode 1 (some .boolean), .methodLink RX3 36 yX3_in, .static yX3_in, .code yX3_in cX3_in 3 (some .boolean), .methodLink RX3 130 yX3_sumOf, .instanceMethod yX3_sumOf, .selects RX3 yX3_sumOf yX3_sumOf, .code yX3_sumOf cX3_sumOf 4 (some .int), .methodLink RX3 126 yX3_told_, .static yX3_told_, .code yX3_told_ cX3_told_ 7 (some .long), .methodLink RX3 119 yX3_common, .static yX3_common, .code yX3_common cX3_common 10 (some .long)] ++ wsX30)
def wsX3_potential : List Cond := .code yX3_potential cX3_potential 6 (some .long) :: ([.fieldLink RX3 7 "JobSpreadModel" "state" "[I", .methodLink RX3 130 yX3_sumOf, .instanceMethod yX3_sumOf, .selects RX3 yX3_sumOf yX3_sumOf, .initialized RX3, .code yX3_sumOf cX3_sumOf 4 (some .int)] ++ wsX30)
def wsX3_idealRound : List Cond := .code yX3_idealRound cX3_idealRound 5 none :: ([.fieldLink RX3 30 "JobSpreadModel" "partsNext" "[J", .fieldLink RX3 26 "JobSpreadModel" "parts" "[J", .fieldLink RX3 7 "JobSpreadModel" "state" "[I"] ++ wsX30)
def wsX3_isAnyBelow : List Cond := .code yX3_isAnyBelow cX3_isAnyBelow 3 (some .boolean) :: ([.fieldLink RX3 7 "JobSpreadModel" "state" "[I"] ++ wsX30)
def wsX3_ideal_r1 : List Cond := [Cond.constantLong RX3 133 (-1), Cond.constantLong RX3 135 (-2), Cond.constantLong RX3 141 (-3), Cond.fieldLink RX3 26 "JobSpreadModel" "parts" "[J", Cond.fieldLink RX3 7 "JobSpreadModel" "state" "[I", Cond.methodLink RX3 48 yX3_isNode, Cond.static yX3_isNode, Cond.initialized RX3, Cond.code yX3_isNode cX3_isNode 1 (some .boolean), Cond.methodLink RX3 36 yX3_in, Cond.static yX3_in, Cond.code yX3_in cX3_in 3 (some .boolean), Cond.methodLink RX3 137 yX3_isAnyBelow, Cond.instanceMethod yX3_isAnyBelow, Cond.selects RX3 yX3_isAnyBelow yX3_isAnyBelow, Cond.code yX3_isAnyBelow cX3_isAnyBelow 3 (some .boolean), Cond.methodLink RX3 80 yX3_measure, Cond.instanceMethod yX3_measure, Cond.selects RX3 yX3_measure yX3_measure, Cond.code yX3_measure cX3_measure 3 (some .int), Cond.methodLink RX3 77 yX3_edgesOf, Cond.instanceMethod yX3_edgesOf, Cond.selects RX3 yX3_edgesOf yX3_edgesOf, Cond.code yX3_edgesOf cX3_edgesOf 4 (some .int)]
def wsX3_ideal_r2 : List Cond := [Cond.methodLink RX3 44 yX3_isEdge, Cond.instanceMethod yX3_isEdge, Cond.selects RX3 yX3_isEdge yX3_isEdge, Cond.code yX3_isEdge cX3_isEdge 3 (some .boolean), Cond.methodLink RX3 40 yX3_pair, Cond.static yX3_pair, Cond.code yX3_pair cX3_pair 2 (some .int), Cond.methodLink RX3 143 yX3_idealRound, Cond.instanceMethod yX3_idealRound, Cond.selects RX3 yX3_idealRound yX3_idealRound, Cond.code yX3_idealRound cX3_idealRound 5 none, Cond.fieldLink RX3 30 "JobSpreadModel" "partsNext" "[J", Cond.methodLink RX3 126 yX3_told_, Cond.static yX3_told_, Cond.code yX3_told_ cX3_told_ 7 (some .long), Cond.methodLink RX3 119 yX3_common, Cond.static yX3_common, Cond.code yX3_common cX3_common 10 (some .long)]
def wsX3_ideal : List Cond := .code yX3_ideal cX3_ideal 7 (some .long) :: ((wsX3_ideal_r1 ++ wsX3_ideal_r2) ++ wsX30)
def wsX3_save : List Cond := .code yX3_save cX3_save 3 none :: ([.fieldLink RX3 13 "JobSpreadModel" "images" "[I", .fieldLink RX3 7 "JobSpreadModel" "state" "[I"] ++ wsX30)
def wsX3_load : List Cond := .code yX3_load cX3_load 3 none :: ([.fieldLink RX3 7 "JobSpreadModel" "state" "[I", .fieldLink RX3 13 "JobSpreadModel" "images" "[I"] ++ wsX30)
def wsX3_isEven : List Cond := .code yX3_isEven cX3_isEven 2 (some .boolean) :: ([.fieldLink RX3 113 "JobSpreadModel" "upper" "I", .fieldLink RX3 116 "JobSpreadModel" "lower" "I", .methodLink RX3 123 yX3_layUneven, .instanceMethod yX3_layUneven, .selects RX3 yX3_layUneven yX3_layUneven, .initialized RX3, .code yX3_layUneven cX3_layUneven 4 none, .fieldLink RX3 7 "JobSpreadModel" "state" "[I"] ++ wsX30)
def wsX3_until_r1 : List Cond := [Cond.methodLink RX3 36 yX3_in, Cond.static yX3_in, Cond.initialized RX3, Cond.code yX3_in cX3_in 3 (some .boolean), Cond.methodLink RX3 147 yX3_save, Cond.instanceMethod yX3_save, Cond.selects RX3 yX3_save yX3_save, Cond.code yX3_save cX3_save 3 none, Cond.fieldLink RX3 13 "JobSpreadModel" "images" "[I", Cond.fieldLink RX3 7 "JobSpreadModel" "state" "[I", Cond.methodLink RX3 150 yX3_isEven, Cond.instanceMethod yX3_isEven, Cond.selects RX3 yX3_isEven yX3_isEven, Cond.code yX3_isEven cX3_isEven 2 (some .boolean), Cond.fieldLink RX3 113 "JobSpreadModel" "upper" "I", Cond.fieldLink RX3 116 "JobSpreadModel" "lower" "I", Cond.methodLink RX3 123 yX3_layUneven, Cond.instanceMethod yX3_layUneven, Cond.selects RX3 yX3_layUneven yX3_layUneven, Cond.code yX3_layUneven cX3_layUneven 4 none, Cond.methodLink RX3 110 yX3_round, Cond.instanceMethod yX3_round, Cond.selects RX3 yX3_round yX3_round, Cond.code yX3_round cX3_round 3 (some .int)]
def wsX3_until_r2 : List Cond := [Cond.methodLink RX3 101 yX3_flow, Cond.instanceMethod yX3_flow, Cond.selects RX3 yX3_flow yX3_flow, Cond.code yX3_flow cX3_flow 8 (some .int), Cond.fieldLink RX3 23 "JobSpreadModel" "next" "[I", Cond.methodLink RX3 80 yX3_measure, Cond.instanceMethod yX3_measure, Cond.selects RX3 yX3_measure yX3_measure, Cond.code yX3_measure cX3_measure 3 (some .int), Cond.methodLink RX3 77 yX3_edgesOf, Cond.instanceMethod yX3_edgesOf, Cond.selects RX3 yX3_edgesOf yX3_edgesOf, Cond.code yX3_edgesOf cX3_edgesOf 4 (some .int), Cond.methodLink RX3 44 yX3_isEdge, Cond.instanceMethod yX3_isEdge, Cond.selects RX3 yX3_isEdge yX3_isEdge, Cond.code yX3_isEdge cX3_isEdge 3 (some .boolean), Cond.methodLink RX3 40 yX3_pair, Cond.static yX3_pair, Cond.code yX3_pair cX3_pair 2 (some .int), Cond.methodLink RX3 83 yX3_layNext, Cond.instanceMethod yX3_layNext, Cond.selects RX3 yX3_layNext yX3_layNext, Cond.code yX3_layNext cX3_layNext 2 none]
def wsX3_until_r3 : List Cond := [Cond.methodLink RX3 86 yX3_takeNext, Cond.instanceMethod yX3_takeNext, Cond.selects RX3 yX3_takeNext yX3_takeNext, Cond.code yX3_takeNext cX3_takeNext 2 none, Cond.methodLink RX3 104 yX3_exchange, Cond.instanceMethod yX3_exchange, Cond.selects RX3 yX3_exchange yX3_exchange, Cond.code yX3_exchange cX3_exchange 4 (some .int), Cond.methodLink RX3 92 yX3_colours, Cond.instanceMethod yX3_colours, Cond.selects RX3 yX3_colours yX3_colours, Cond.code yX3_colours cX3_colours 3 (some .int), Cond.methodLink RX3 95 yX3_even, Cond.instanceMethod yX3_even, Cond.selects RX3 yX3_even yX3_even, Cond.code yX3_even cX3_even 10 (some .int), Cond.methodLink RX3 89 yX3_down, Cond.static yX3_down, Cond.code yX3_down cX3_down 3 (some .int), Cond.methodLink RX3 107 yX3_rotor, Cond.instanceMethod yX3_rotor, Cond.selects RX3 yX3_rotor yX3_rotor, Cond.code yX3_rotor cX3_rotor 3 (some .int), Cond.methodLink RX3 98 yX3_deal]
def wsX3_until_r4 : List Cond := [Cond.instanceMethod yX3_deal, Cond.selects RX3 yX3_deal yX3_deal, Cond.code yX3_deal cX3_deal 11 (some .int), Cond.methodLink RX3 153 yX3_load, Cond.instanceMethod yX3_load, Cond.selects RX3 yX3_load yX3_load, Cond.code yX3_load cX3_load 3 none]
def wsX3_until : List Cond := .code yX3_until cX3_until 5 (some .int) :: ((wsX3_until_r1 ++ (wsX3_until_r2 ++ (wsX3_until_r3 ++ wsX3_until_r4))) ++ wsX30)
def wsX3_layTime : List Cond := .code yX3_layTime cX3_layTime 3 none :: ([.fieldLink RX3 33 "JobSpreadModel" "times" "[I", .fieldLink RX3 7 "JobSpreadModel" "state" "[I", .methodLink RX3 77 yX3_edgesOf, .instanceMethod yX3_edgesOf, .selects RX3 yX3_edgesOf yX3_edgesOf, .initialized RX3, .code yX3_edgesOf cX3_edgesOf 4 (some .int), .methodLink RX3 44 yX3_isEdge, .instanceMethod yX3_isEdge, .selects RX3 yX3_isEdge yX3_isEdge, .code yX3_isEdge cX3_isEdge 3 (some .boolean), .methodLink RX3 40 yX3_pair, .static yX3_pair, .code yX3_pair cX3_pair 2 (some .int), .methodLink RX3 92 yX3_colours, .instanceMethod yX3_colours, .selects RX3 yX3_colours yX3_colours, .code yX3_colours cX3_colours 3 (some .int)] ++ wsX30)
def wsX3_isAlike : List Cond := .code yX3_isAlike cX3_isAlike 4 (some .boolean) :: ([.fieldLink RX3 33 "JobSpreadModel" "times" "[I"] ++ wsX30)
def wsX3_ring_r1 : List Cond := [Cond.methodLink RX3 36 yX3_in, Cond.static yX3_in, Cond.initialized RX3, Cond.code yX3_in cX3_in 3 (some .boolean), Cond.methodLink RX3 147 yX3_save, Cond.instanceMethod yX3_save, Cond.selects RX3 yX3_save yX3_save, Cond.code yX3_save cX3_save 3 none, Cond.fieldLink RX3 13 "JobSpreadModel" "images" "[I", Cond.fieldLink RX3 7 "JobSpreadModel" "state" "[I", Cond.methodLink RX3 156 yX3_layTime, Cond.instanceMethod yX3_layTime, Cond.selects RX3 yX3_layTime yX3_layTime, Cond.code yX3_layTime cX3_layTime 3 none, Cond.fieldLink RX3 33 "JobSpreadModel" "times" "[I", Cond.methodLink RX3 77 yX3_edgesOf, Cond.instanceMethod yX3_edgesOf, Cond.selects RX3 yX3_edgesOf yX3_edgesOf, Cond.code yX3_edgesOf cX3_edgesOf 4 (some .int), Cond.methodLink RX3 44 yX3_isEdge, Cond.instanceMethod yX3_isEdge, Cond.selects RX3 yX3_isEdge yX3_isEdge, Cond.code yX3_isEdge cX3_isEdge 3 (some .boolean), Cond.methodLink RX3 40 yX3_pair]
def wsX3_ring_r2 : List Cond := [Cond.static yX3_pair, Cond.code yX3_pair cX3_pair 2 (some .int), Cond.methodLink RX3 92 yX3_colours, Cond.instanceMethod yX3_colours, Cond.selects RX3 yX3_colours yX3_colours, Cond.code yX3_colours cX3_colours 3 (some .int), Cond.methodLink RX3 110 yX3_round, Cond.instanceMethod yX3_round, Cond.selects RX3 yX3_round yX3_round, Cond.code yX3_round cX3_round 3 (some .int), Cond.methodLink RX3 101 yX3_flow, Cond.instanceMethod yX3_flow, Cond.selects RX3 yX3_flow yX3_flow, Cond.code yX3_flow cX3_flow 8 (some .int), Cond.fieldLink RX3 23 "JobSpreadModel" "next" "[I", Cond.methodLink RX3 80 yX3_measure, Cond.instanceMethod yX3_measure, Cond.selects RX3 yX3_measure yX3_measure, Cond.code yX3_measure cX3_measure 3 (some .int), Cond.methodLink RX3 83 yX3_layNext, Cond.instanceMethod yX3_layNext, Cond.selects RX3 yX3_layNext yX3_layNext, Cond.code yX3_layNext cX3_layNext 2 none, Cond.methodLink RX3 86 yX3_takeNext]
def wsX3_ring_r3 : List Cond := [Cond.instanceMethod yX3_takeNext, Cond.selects RX3 yX3_takeNext yX3_takeNext, Cond.code yX3_takeNext cX3_takeNext 2 none, Cond.methodLink RX3 104 yX3_exchange, Cond.instanceMethod yX3_exchange, Cond.selects RX3 yX3_exchange yX3_exchange, Cond.code yX3_exchange cX3_exchange 4 (some .int), Cond.methodLink RX3 95 yX3_even, Cond.instanceMethod yX3_even, Cond.selects RX3 yX3_even yX3_even, Cond.code yX3_even cX3_even 10 (some .int), Cond.methodLink RX3 89 yX3_down, Cond.static yX3_down, Cond.code yX3_down cX3_down 3 (some .int), Cond.methodLink RX3 107 yX3_rotor, Cond.instanceMethod yX3_rotor, Cond.selects RX3 yX3_rotor yX3_rotor, Cond.code yX3_rotor cX3_rotor 3 (some .int), Cond.methodLink RX3 98 yX3_deal, Cond.instanceMethod yX3_deal, Cond.selects RX3 yX3_deal yX3_deal, Cond.code yX3_deal cX3_deal 11 (some .int), Cond.methodLink RX3 153 yX3_load, Cond.instanceMethod yX3_load]
def wsX3_ring_r4 : List Cond := [Cond.selects RX3 yX3_load yX3_load, Cond.code yX3_load cX3_load 3 none, Cond.methodLink RX3 159 yX3_isAlike, Cond.instanceMethod yX3_isAlike, Cond.selects RX3 yX3_isAlike yX3_isAlike, Cond.code yX3_isAlike cX3_isAlike 4 (some .boolean)]
def wsX3_ring : List Cond := .code yX3_ring cX3_ring 5 (some .int) :: ((wsX3_ring_r1 ++ (wsX3_ring_r2 ++ (wsX3_ring_r3 ++ wsX3_ring_r4))) ++ wsX30)
def wsX3_image : List Cond := .code yX3_image cX3_image 2 (some .int) :: ([.fieldLink RX3 16 "JobSpreadModel" "isKept" "[Z", .methodLink RX3 36 yX3_in, .static yX3_in, .initialized RX3, .code yX3_in cX3_in 3 (some .boolean), .methodLink RX3 147 yX3_save, .instanceMethod yX3_save, .selects RX3 yX3_save yX3_save, .code yX3_save cX3_save 3 none, .fieldLink RX3 13 "JobSpreadModel" "images" "[I", .fieldLink RX3 7 "JobSpreadModel" "state" "[I"] ++ wsX30)
def wsX3_restore : List Cond := .code yX3_restore cX3_restore 2 (some .int) :: ([.fieldLink RX3 16 "JobSpreadModel" "isKept" "[Z", .methodLink RX3 36 yX3_in, .static yX3_in, .initialized RX3, .code yX3_in cX3_in 3 (some .boolean), .methodLink RX3 153 yX3_load, .instanceMethod yX3_load, .selects RX3 yX3_load yX3_load, .code yX3_load cX3_load 3 none, .fieldLink RX3 7 "JobSpreadModel" "state" "[I", .fieldLink RX3 13 "JobSpreadModel" "images" "[I"] ++ wsX30)
def wsX3_below : List Cond := .code yX3_below cX3_below 3 (some .int) :: ([.fieldLink RX3 7 "JobSpreadModel" "state" "[I"] ++ wsX30)
def wsX3_count_r1 : List Cond := [Cond.fieldLink RX3 60 "JobSpreadModel" "said" "I", Cond.fieldLink RX3 7 "JobSpreadModel" "state" "[I", Cond.fieldLink RX3 16 "JobSpreadModel" "isKept" "[Z", Cond.methodLink RX3 52 yX3_edges, Cond.instanceMethod yX3_edges, Cond.selects RX3 yX3_edges yX3_edges, Cond.initialized RX3, Cond.code yX3_edges cX3_edges 3 (some .int), Cond.methodLink RX3 130 yX3_sumOf, Cond.instanceMethod yX3_sumOf, Cond.selects RX3 yX3_sumOf yX3_sumOf, Cond.code yX3_sumOf cX3_sumOf 4 (some .int), Cond.methodLink RX3 80 yX3_measure, Cond.instanceMethod yX3_measure, Cond.selects RX3 yX3_measure yX3_measure, Cond.code yX3_measure cX3_measure 3 (some .int), Cond.methodLink RX3 77 yX3_edgesOf, Cond.instanceMethod yX3_edgesOf, Cond.selects RX3 yX3_edgesOf yX3_edgesOf, Cond.code yX3_edgesOf cX3_edgesOf 4 (some .int), Cond.methodLink RX3 44 yX3_isEdge, Cond.instanceMethod yX3_isEdge, Cond.selects RX3 yX3_isEdge yX3_isEdge, Cond.code yX3_isEdge cX3_isEdge 3 (some .boolean)]
def wsX3_count_r2 : List Cond := [Cond.methodLink RX3 40 yX3_pair, Cond.static yX3_pair, Cond.code yX3_pair cX3_pair 2 (some .int), Cond.methodLink RX3 92 yX3_colours, Cond.instanceMethod yX3_colours, Cond.selects RX3 yX3_colours yX3_colours, Cond.code yX3_colours cX3_colours 3 (some .int), Cond.methodLink RX3 162 yX3_below, Cond.instanceMethod yX3_below, Cond.selects RX3 yX3_below yX3_below, Cond.code yX3_below cX3_below 3 (some .int)]
def wsX3_count : List Cond := .code yX3_count cX3_count 2 (some .int) :: ((wsX3_count_r1 ++ wsX3_count_r2) ++ wsX30)
def wsJ9_abs_0f7a4 : List Cond := .code yJ9_abs_0f7a4 cJ9_abs_0f7a4 1 (some .int) :: ([])
def wsJ9_abs_067f4 : List Cond := .code yJ9_abs_067f4 cJ9_abs_067f4 2 (some .long) :: ([])
def wsJ9_max_7cf53 : List Cond := .code yJ9_max_7cf53 cJ9_max_7cf53 2 (some .int) :: ([])
def wsL_law_r1 : List Cond := [Cond.classLink RL 7 RX2, Cond.instantiable RX2 9, Cond.initialized RX2, Cond.classLink RL 10 RX3, Cond.instantiable RX3 11, Cond.initialized RX3, Cond.methodLink RL 9 yX2_init, Cond.instanceMethod yX2_init, Cond.code yX2_init cX2_init 1 none, Cond.methodLink RX2 1 objectInit, Cond.instanceMethod objectInit, Cond.code objectInit ⟨#[0xb1]⟩ 1 none, Cond.classLink RX2 7 RX1, Cond.instantiable RX1 2, Cond.initialized RX1, Cond.fieldLink RX2 10 "JobSpread" "pad" "LJobSpread$Pad;", Cond.classLink RX2 16 RX0, Cond.instantiable RX0 9, Cond.initialized RX0, Cond.fieldLink RX2 19 "JobSpread" "now" "LJobSpread$Net;", Cond.fieldLink RX2 23 "JobSpread" "firstImage" "LJobSpread$Net;", Cond.fieldLink RX2 26 "JobSpread" "secondImage" "LJobSpread$Net;", Cond.fieldLink RX2 29 "JobSpread" "kept" "I", Cond.fieldLink RX2 33 "JobSpread" "walker" "LJobSpread$Net;"]
def wsL_law_r2 : List Cond := [Cond.fieldLink RX2 36 "JobSpread" "marker" "LJobSpread$Net;", Cond.arrayClass .long, Cond.fieldLink RX2 39 "JobSpread" "level" "[J", Cond.fieldLink RX2 43 "JobSpread" "nextLevel" "[J", Cond.instanceMethod yX1_init, Cond.code yX1_init cX1_init 1 none, Cond.methodLink RX1 3 objectInit, Cond.arrayClass .int, Cond.fieldLink RX1 9 "JobSpread$Pad" "signs" "[I", Cond.fieldLink RX1 15 "JobSpread$Pad" "length" "I", Cond.instanceMethod yX0_init, Cond.code yX0_init cX0_init 2 none, Cond.methodLink RX0 3 objectInit, Cond.fieldLink RX0 9 "JobSpread$Net" "speed" "[I", Cond.fieldLink RX0 15 "JobSpread$Net" "jobs" "[I", Cond.fieldLink RX0 18 "JobSpread$Net" "rotor" "[I", Cond.fieldLink RX0 21 "JobSpread$Net" "degree" "[I", Cond.fieldLink RX0 24 "JobSpread$Net" "colour" "[I", Cond.fieldLink RX0 27 "JobSpread$Net" "carry" "[I", Cond.fieldLink RX0 30 "JobSpread$Net" "change" "[I", Cond.fieldLink RX0 33 "JobSpread$Net" "edges" "I", Cond.fieldLink RX0 37 "JobSpread$Net" "rounds" "I", Cond.methodLink RL 12 yX3_init, Cond.instanceMethod yX3_init]
def wsL_law_r3 : List Cond := [Cond.code yX3_init cX3_init 2 none, Cond.methodLink RX3 1 objectInit, Cond.fieldLink RX3 7 "JobSpreadModel" "state" "[I", Cond.fieldLink RX3 13 "JobSpreadModel" "images" "[I", Cond.arrayClass .boolean, Cond.fieldLink RX3 16 "JobSpreadModel" "isKept" "[Z", Cond.fieldLink RX3 20 "JobSpreadModel" "pad" "[I", Cond.fieldLink RX3 23 "JobSpreadModel" "next" "[I", Cond.fieldLink RX3 26 "JobSpreadModel" "parts" "[J", Cond.fieldLink RX3 30 "JobSpreadModel" "partsNext" "[J", Cond.fieldLink RX3 33 "JobSpreadModel" "times" "[I", Cond.methodLink RL 13 yX2_node, Cond.instanceMethod yX2_node, Cond.selects RX2 yX2_node yX2_node, Cond.code yX2_node cX2_node 5 (some .int), Cond.methodLink RX2 46 yX2_isNode, Cond.static yX2_isNode, Cond.code yX2_isNode cX2_isNode 1 (some .boolean), Cond.methodLink RX2 50 yX2_isWithin, Cond.static yX2_isWithin, Cond.code yX2_isWithin cX2_isWithin 3 (some .boolean), Cond.methodLink RL 17 yX3_node, Cond.instanceMethod yX3_node, Cond.selects RX3 yX3_node yX3_node]
def wsL_law_r4 : List Cond := [Cond.code yX3_node cX3_node 5 (some .int), Cond.methodLink RX3 48 yX3_isNode, Cond.static yX3_isNode, Cond.code yX3_isNode cX3_isNode 1 (some .boolean), Cond.methodLink RX3 36 yX3_in, Cond.static yX3_in, Cond.code yX3_in cX3_in 3 (some .boolean), Cond.methodLink RL 18 yX2_edge, Cond.instanceMethod yX2_edge, Cond.selects RX2 yX2_edge yX2_edge, Cond.code yX2_edge cX2_edge 4 (some .int), Cond.instanceMethod yX0_lift, Cond.selects RX0 yX0_lift yX0_lift, Cond.code yX0_lift cX0_lift 3 none, Cond.methodLink RX0 54 yX0_joins, Cond.instanceMethod yX0_joins, Cond.selects RX0 yX0_joins yX0_joins, Cond.code yX0_joins cX0_joins 3 (some .boolean), Cond.static yX2_spot, Cond.code yX2_spot cX2_spot 2 (some .int), Cond.instanceMethod yX0_lay, Cond.selects RX0 yX0_lay yX0_lay, Cond.code yX0_lay cX0_lay 4 none, Cond.methodLink RX0 50 yX0_lift]
def wsL_law_r5 : List Cond := [Cond.methodLink RL 21 yX3_edge, Cond.instanceMethod yX3_edge, Cond.selects RX3 yX3_edge yX3_edge, Cond.code yX3_edge cX3_edge 4 (some .int), Cond.methodLink RX3 44 yX3_isEdge, Cond.instanceMethod yX3_isEdge, Cond.selects RX3 yX3_isEdge yX3_isEdge, Cond.code yX3_isEdge cX3_isEdge 3 (some .boolean), Cond.methodLink RX3 40 yX3_pair, Cond.static yX3_pair, Cond.code yX3_pair cX3_pair 2 (some .int), Cond.methodLink RX3 52 yX3_edges, Cond.instanceMethod yX3_edges, Cond.selects RX3 yX3_edges yX3_edges, Cond.code yX3_edges cX3_edges 3 (some .int), Cond.methodLink RX3 56 yX3_lay, Cond.instanceMethod yX3_lay, Cond.selects RX3 yX3_lay yX3_lay, Cond.code yX3_lay cX3_lay 4 none, Cond.methodLink RL 22 yX2_say, Cond.instanceMethod yX2_say, Cond.selects RX2 yX2_say yX2_say, Cond.code yX2_say cX2_say 2 (some .int), Cond.instanceMethod yX1_add]
def wsL_law_r6 : List Cond := [Cond.selects RX1 yX1_add yX1_add, Cond.code yX1_add cX1_add 2 none, Cond.methodLink RL 26 yX3_say, Cond.instanceMethod yX3_say, Cond.selects RX3 yX3_say yX3_say, Cond.code yX3_say cX3_say 2 (some .int), Cond.fieldLink RX3 60 "JobSpreadModel" "said" "I", Cond.methodLink RL 27 yX2_wipe, Cond.instanceMethod yX2_wipe, Cond.selects RX2 yX2_wipe yX2_wipe, Cond.code yX2_wipe cX2_wipe 2 (some .int), Cond.methodLink RL 31 yX3_wipe, Cond.instanceMethod yX3_wipe, Cond.selects RX3 yX3_wipe yX3_wipe, Cond.code yX3_wipe cX3_wipe 2 (some .int), Cond.methodLink RL 32 yX2_fault, Cond.instanceMethod yX2_fault, Cond.selects RX2 yX2_fault yX2_fault, Cond.code yX2_fault cX2_fault 1 (some .int), Cond.instanceMethod yX1_firstFault, Cond.selects RX1 yX1_firstFault yX1_firstFault, Cond.code yX1_firstFault cX1_firstFault 2 (some .int), Cond.methodLink RX1 19 yX1_canStand, Cond.instanceMethod yX1_canStand]
def wsL_law_r7 : List Cond := [Cond.selects RX1 yX1_canStand yX1_canStand, Cond.code yX1_canStand cX1_canStand 2 (some .boolean), Cond.methodLink RX1 23 yX1_nodeAt, Cond.instanceMethod yX1_nodeAt, Cond.selects RX1 yX1_nodeAt yX1_nodeAt, Cond.code yX1_nodeAt cX1_nodeAt 2 (some .int), Cond.methodLink RX1 30 yX1_isToldBefore, Cond.instanceMethod yX1_isToldBefore, Cond.selects RX1 yX1_isToldBefore yX1_isToldBefore, Cond.code yX1_isToldBefore cX1_isToldBefore 4 (some .boolean), Cond.methodLink RX1 33 yX1_colourAt, Cond.instanceMethod yX1_colourAt, Cond.selects RX1 yX1_colourAt yX1_colourAt, Cond.code yX1_colourAt cX1_colourAt 2 (some .int), Cond.methodLink RL 35 yX3_fault, Cond.instanceMethod yX3_fault, Cond.selects RX3 yX3_fault yX3_fault, Cond.code yX3_fault cX3_fault 2 (some .int), Cond.methodLink RX3 71 yX3_canStand, Cond.instanceMethod yX3_canStand, Cond.selects RX3 yX3_canStand yX3_canStand, Cond.code yX3_canStand cX3_canStand 2 (some .boolean), Cond.methodLink RX3 64 yX3_letter, Cond.instanceMethod yX3_letter]
def wsL_law_r8 : List Cond := [Cond.selects RX3 yX3_letter yX3_letter, Cond.code yX3_letter cX3_letter 2 (some .int), Cond.methodLink RX3 68 yX3_isNew, Cond.instanceMethod yX3_isNew, Cond.selects RX3 yX3_isNew yX3_isNew, Cond.code yX3_isNew cX3_isNew 6 (some .boolean), Cond.methodLink RL 36 yX2_net, Cond.instanceMethod yX2_net, Cond.selects RX2 yX2_net yX2_net, Cond.code yX2_net cX2_net 2 (some .int), Cond.instanceMethod yX0_liftAll, Cond.selects RX0 yX0_liftAll yX0_liftAll, Cond.code yX0_liftAll cX0_liftAll 3 none, Cond.methodLink RL 39 yX3_net, Cond.instanceMethod yX3_net, Cond.selects RX3 yX3_net yX3_net, Cond.code yX3_net cX3_net 2 (some .int), Cond.methodLink RX3 74 yX3_fault, Cond.methodLink RL 40 yX2_jobs, Cond.instanceMethod yX2_jobs, Cond.selects RX2 yX2_jobs yX2_jobs, Cond.code yX2_jobs cX2_jobs 2 (some .int), Cond.methodLink RL 43 yX3_jobs, Cond.instanceMethod yX3_jobs]
def wsL_law_r9 : List Cond := [Cond.selects RX3 yX3_jobs yX3_jobs, Cond.code yX3_jobs cX3_jobs 2 (some .int), Cond.methodLink RL 44 yX2_told, Cond.instanceMethod yX2_told, Cond.selects RX2 yX2_told yX2_told, Cond.code yX2_told cX2_told 3 (some .int), Cond.instanceMethod yX0_rotorLeftOver, Cond.selects RX0 yX0_rotorLeftOver yX0_rotorLeftOver, Cond.code yX0_rotorLeftOver cX0_rotorLeftOver 2 (some .int), Cond.methodLink RX0 58 yX0_slots, Cond.instanceMethod yX0_slots, Cond.selects RX0 yX0_slots yX0_slots, Cond.code yX0_slots cX0_slots 2 (some .int), Cond.methodLink RX2 103 yX2_toldColour, Cond.instanceMethod yX2_toldColour, Cond.selects RX2 yX2_toldColour yX2_toldColour, Cond.code yX2_toldColour cX2_toldColour 4 (some .int), Cond.methodLink RX2 110 yX2_spot, Cond.methodLink RL 48 yX3_told, Cond.instanceMethod yX3_told, Cond.selects RX3 yX3_told yX3_told, Cond.code yX3_told cX3_told 3 (some .int), Cond.methodLink RX3 77 yX3_edgesOf, Cond.instanceMethod yX3_edgesOf]
def wsL_law_r10 : List Cond := [Cond.selects RX3 yX3_edgesOf yX3_edgesOf, Cond.code yX3_edgesOf cX3_edgesOf 4 (some .int), Cond.methodLink RL 49 yX2_carry, Cond.instanceMethod yX2_carry, Cond.selects RX2 yX2_carry yX2_carry, Cond.code yX2_carry cX2_carry 3 (some .int), Cond.methodLink RL 52 yX3_carry, Cond.instanceMethod yX3_carry, Cond.selects RX3 yX3_carry yX3_carry, Cond.code yX3_carry cX3_carry 3 (some .int), Cond.methodLink RL 53 yX2_run, Cond.instanceMethod yX2_run, Cond.selects RX2 yX2_run yX2_run, Cond.code yX2_run cX2_run 3 (some .int), Cond.methodLink RX2 116 yX2_isRule, Cond.static yX2_isRule, Cond.code yX2_isRule cX2_isRule 1 (some .boolean), Cond.instanceMethod yX0_goOn, Cond.selects RX0 yX0_goOn yX0_goOn, Cond.code yX0_goOn cX0_goOn 5 (some .int), Cond.methodLink RX0 84 yX0_flow, Cond.instanceMethod yX0_flow, Cond.selects RX0 yX0_flow yX0_flow, Cond.code yX0_flow cX0_flow 5 (some .int)]
def wsL_law_r11 : List Cond := [Cond.methodLink RX0 93 yX0_measure, Cond.instanceMethod yX0_measure, Cond.selects RX0 yX0_measure yX0_measure, Cond.code yX0_measure cX0_measure 3 (some .int), Cond.methodLink RX0 62 Lib.Math.max.name, Cond.static Lib.Math.max.name, Cond.initialized "java/lang/Math", Cond.code Lib.Math.max.name Lib.Math.max.code 2 (some .int), Cond.methodLink RX0 96 yX0_flowAlong, Cond.instanceMethod yX0_flowAlong, Cond.selects RX0 yX0_flowAlong yX0_flowAlong, Cond.code yX0_flowAlong cX0_flowAlong 7 (some .int), Cond.methodLink RX0 103 Lib.Math.abs.name, Cond.static Lib.Math.abs.name, Cond.code Lib.Math.abs.name Lib.Math.abs.code 1 (some .int), Cond.methodLink RX0 100 yX0_settle, Cond.instanceMethod yX0_settle, Cond.selects RX0 yX0_settle yX0_settle, Cond.code yX0_settle cX0_settle 2 none, Cond.methodLink RX0 87 yX0_exchange, Cond.instanceMethod yX0_exchange, Cond.selects RX0 yX0_exchange yX0_exchange, Cond.code yX0_exchange cX0_exchange 5 (some .int), Cond.methodLink RX0 81 yX0_colours]
def wsL_law_r12 : List Cond := [Cond.instanceMethod yX0_colours, Cond.selects RX0 yX0_colours yX0_colours, Cond.code yX0_colours cX0_colours 3 (some .int), Cond.methodLink RX0 106 yX0_exchangeAlong, Cond.instanceMethod yX0_exchangeAlong, Cond.selects RX0 yX0_exchangeAlong yX0_exchangeAlong, Cond.code yX0_exchangeAlong cX0_exchangeAlong 8 (some .int), Cond.methodLink RX0 109 yJ9_floorDiv_7cf53, Cond.static yJ9_floorDiv_7cf53, Cond.initialized RJ9, Cond.code yJ9_floorDiv_7cf53 cJ9_floorDiv_7cf53 3 (some .int), Cond.methodLink RX0 90 yX0_deal, Cond.instanceMethod yX0_deal, Cond.selects RX0 yX0_deal yX0_deal, Cond.code yX0_deal cX0_deal 3 (some .int), Cond.methodLink RX0 112 yX0_dealFrom, Cond.instanceMethod yX0_dealFrom, Cond.selects RX0 yX0_dealFrom yX0_dealFrom, Cond.code yX0_dealFrom cX0_dealFrom 11 (some .int), Cond.methodLink RX0 78 yX0_rotorLeftOver, Cond.methodLink RL 56 yX3_run, Cond.instanceMethod yX3_run, Cond.selects RX3 yX3_run yX3_run, Cond.code yX3_run cX3_run 5 (some .int)]
def wsL_law_r13 : List Cond := [Cond.methodLink RX3 110 yX3_round, Cond.instanceMethod yX3_round, Cond.selects RX3 yX3_round yX3_round, Cond.code yX3_round cX3_round 3 (some .int), Cond.methodLink RX3 101 yX3_flow, Cond.instanceMethod yX3_flow, Cond.selects RX3 yX3_flow yX3_flow, Cond.code yX3_flow cX3_flow 8 (some .int), Cond.methodLink RX3 80 yX3_measure, Cond.instanceMethod yX3_measure, Cond.selects RX3 yX3_measure yX3_measure, Cond.code yX3_measure cX3_measure 3 (some .int), Cond.methodLink RX3 83 yX3_layNext, Cond.instanceMethod yX3_layNext, Cond.selects RX3 yX3_layNext yX3_layNext, Cond.code yX3_layNext cX3_layNext 2 none, Cond.methodLink RX3 86 yX3_takeNext, Cond.instanceMethod yX3_takeNext, Cond.selects RX3 yX3_takeNext yX3_takeNext, Cond.code yX3_takeNext cX3_takeNext 2 none, Cond.methodLink RX3 104 yX3_exchange, Cond.instanceMethod yX3_exchange, Cond.selects RX3 yX3_exchange yX3_exchange, Cond.code yX3_exchange cX3_exchange 4 (some .int)]
def wsL_law_r14 : List Cond := [Cond.methodLink RX3 92 yX3_colours, Cond.instanceMethod yX3_colours, Cond.selects RX3 yX3_colours yX3_colours, Cond.code yX3_colours cX3_colours 3 (some .int), Cond.methodLink RX3 95 yX3_even, Cond.instanceMethod yX3_even, Cond.selects RX3 yX3_even yX3_even, Cond.code yX3_even cX3_even 10 (some .int), Cond.methodLink RX3 89 yX3_down, Cond.static yX3_down, Cond.code yX3_down cX3_down 3 (some .int), Cond.methodLink RX3 107 yX3_rotor, Cond.instanceMethod yX3_rotor, Cond.selects RX3 yX3_rotor yX3_rotor, Cond.code yX3_rotor cX3_rotor 3 (some .int), Cond.methodLink RX3 98 yX3_deal, Cond.instanceMethod yX3_deal, Cond.selects RX3 yX3_deal yX3_deal, Cond.code yX3_deal cX3_deal 11 (some .int), Cond.methodLink RL 57 yX2_reset, Cond.instanceMethod yX2_reset, Cond.selects RX2 yX2_reset yX2_reset, Cond.code yX2_reset cX2_reset 2 (some .int), Cond.instanceMethod yX0_startAgain]
def wsL_law_r15 : List Cond := [Cond.selects RX0 yX0_startAgain yX0_startAgain, Cond.code yX0_startAgain cX0_startAgain 2 none, Cond.methodLink RL 60 yX3_reset, Cond.instanceMethod yX3_reset, Cond.selects RX3 yX3_reset yX3_reset, Cond.code yX3_reset cX3_reset 3 (some .int), Cond.methodLink RL 61 yX2_uneven, Cond.instanceMethod yX2_uneven, Cond.selects RX2 yX2_uneven yX2_uneven, Cond.code yX2_uneven cX2_uneven 4 (some .int), Cond.methodLink RX2 128 yX2_isPart, Cond.static yX2_isPart, Cond.code yX2_isPart cX2_isPart 1 (some .boolean), Cond.instanceMethod yX0_mostLoaded, Cond.selects RX0 yX0_mostLoaded yX0_mostLoaded, Cond.code yX0_mostLoaded cX0_mostLoaded 3 (some .int), Cond.methodLink RX0 67 yX0_loadGap, Cond.instanceMethod yX0_loadGap, Cond.selects RX0 yX0_loadGap yX0_loadGap, Cond.code yX0_loadGap cX0_loadGap 3 (some .long), Cond.instanceMethod yX0_leastLoaded, Cond.selects RX0 yX0_leastLoaded yX0_leastLoaded, Cond.code yX0_leastLoaded cX0_leastLoaded 3 (some .int), Cond.methodLink RX2 141 yX2_partOf]
def wsL_law_r16 : List Cond := [Cond.static yX2_partOf, Cond.code yX2_partOf cX2_partOf 7 (some .long), Cond.methodLink RX2 197 yX2_commonDivisor, Cond.static yX2_commonDivisor, Cond.code yX2_commonDivisor cX2_commonDivisor 11 (some .long), Cond.methodLink RX2 201 Lib.MathLoose.abs_long.x, Cond.static Lib.MathLoose.abs_long.x, Cond.code Lib.MathLoose.abs_long.x Lib.MathLoose.abs_long.code 2 (some .long), Cond.methodLink RL 64 yX3_uneven, Cond.instanceMethod yX3_uneven, Cond.selects RX3 yX3_uneven yX3_uneven, Cond.code yX3_uneven cX3_uneven 2 (some .int), Cond.fieldLink RX3 113 "JobSpreadModel" "upper" "I", Cond.fieldLink RX3 116 "JobSpreadModel" "lower" "I", Cond.methodLink RX3 123 yX3_layUneven, Cond.instanceMethod yX3_layUneven, Cond.selects RX3 yX3_layUneven yX3_layUneven, Cond.code yX3_layUneven cX3_layUneven 4 none, Cond.methodLink RX3 126 yX3_told_, Cond.static yX3_told_, Cond.code yX3_told_ cX3_told_ 7 (some .long), Cond.methodLink RX3 119 yX3_common, Cond.static yX3_common, Cond.code yX3_common cX3_common 10 (some .long)]
def wsL_law_r17 : List Cond := [Cond.methodLink RL 65 yX2_share, Cond.instanceMethod yX2_share, Cond.selects RX2 yX2_share yX2_share, Cond.code yX2_share cX2_share 5 (some .int), Cond.instanceMethod yX0_allJobs, Cond.selects RX0 yX0_allJobs yX0_allJobs, Cond.code yX0_allJobs cX0_allJobs 4 (some .long), Cond.instanceMethod yX0_allSpeeds, Cond.selects RX0 yX0_allSpeeds yX0_allSpeeds, Cond.code yX0_allSpeeds cX0_allSpeeds 3 (some .int), Cond.methodLink RL 68 yX3_share, Cond.instanceMethod yX3_share, Cond.selects RX3 yX3_share yX3_share, Cond.code yX3_share cX3_share 3 (some .int), Cond.methodLink RX3 130 yX3_sumOf, Cond.instanceMethod yX3_sumOf, Cond.selects RX3 yX3_sumOf yX3_sumOf, Cond.code yX3_sumOf cX3_sumOf 4 (some .int), Cond.methodLink RL 69 yX2_potential, Cond.instanceMethod yX2_potential, Cond.selects RX2 yX2_potential yX2_potential, Cond.code yX2_potential cX2_potential 10 (some .long), Cond.methodLink RL 73 yX3_potential, Cond.instanceMethod yX3_potential]
def wsL_law_r18 : List Cond := [Cond.selects RX3 yX3_potential yX3_potential, Cond.code yX3_potential cX3_potential 6 (some .long), Cond.methodLink RL 74 yX2_ideal, Cond.instanceMethod yX2_ideal, Cond.selects RX2 yX2_ideal yX2_ideal, Cond.code yX2_ideal cX2_ideal 8 (some .long), Cond.constantLong RX2 152 (-1), Cond.constantLong RX2 154 (-2), Cond.constantLong RX2 159 (-3), Cond.instanceMethod yX0_nodesBelowZero, Cond.selects RX0 yX0_nodesBelowZero yX0_nodesBelowZero, Cond.code yX0_nodesBelowZero cX0_nodesBelowZero 3 (some .int), Cond.methodLink RX2 164 yX2_flowUncut, Cond.instanceMethod yX2_flowUncut, Cond.selects RX2 yX2_flowUncut yX2_flowUncut, Cond.code yX2_flowUncut cX2_flowUncut 6 none, Cond.methodLink RX2 167 arraycopyName, Cond.native arraycopyName, Cond.static arraycopyName, Cond.initialized "java/lang/System", Cond.methodLink RL 78 yX3_ideal, Cond.instanceMethod yX3_ideal, Cond.selects RX3 yX3_ideal yX3_ideal, Cond.code yX3_ideal cX3_ideal 7 (some .long)]
def wsL_law_r19 : List Cond := [Cond.constantLong RX3 133 (-1), Cond.constantLong RX3 135 (-2), Cond.constantLong RX3 141 (-3), Cond.methodLink RX3 137 yX3_isAnyBelow, Cond.instanceMethod yX3_isAnyBelow, Cond.selects RX3 yX3_isAnyBelow yX3_isAnyBelow, Cond.code yX3_isAnyBelow cX3_isAnyBelow 3 (some .boolean), Cond.methodLink RX3 143 yX3_idealRound, Cond.instanceMethod yX3_idealRound, Cond.selects RX3 yX3_idealRound yX3_idealRound, Cond.code yX3_idealRound cX3_idealRound 5 none, Cond.methodLink RL 79 yX2_until, Cond.instanceMethod yX2_until, Cond.selects RX2 yX2_until yX2_until, Cond.code yX2_until cX2_until 4 (some .int), Cond.instanceMethod yX0_become, Cond.selects RX0 yX0_become yX0_become, Cond.code yX0_become cX0_become 2 none, Cond.methodLink RX0 40 arraycopyName, Cond.instanceMethod yX0_isUnevenAtMost, Cond.selects RX0 yX0_isUnevenAtMost yX0_isUnevenAtMost, Cond.code yX0_isUnevenAtMost cX0_isUnevenAtMost 4 (some .boolean), Cond.methodLink RX0 71 yX0_mostLoaded, Cond.methodLink RX0 75 yX0_leastLoaded]
def wsL_law_r20 : List Cond := [Cond.methodLink RL 82 yX3_until, Cond.instanceMethod yX3_until, Cond.selects RX3 yX3_until yX3_until, Cond.code yX3_until cX3_until 5 (some .int), Cond.methodLink RX3 147 yX3_save, Cond.instanceMethod yX3_save, Cond.selects RX3 yX3_save yX3_save, Cond.code yX3_save cX3_save 3 none, Cond.methodLink RX3 150 yX3_isEven, Cond.instanceMethod yX3_isEven, Cond.selects RX3 yX3_isEven yX3_isEven, Cond.code yX3_isEven cX3_isEven 2 (some .boolean), Cond.methodLink RX3 153 yX3_load, Cond.instanceMethod yX3_load, Cond.selects RX3 yX3_load yX3_load, Cond.code yX3_load cX3_load 3 none, Cond.methodLink RL 83 yX2_ring, Cond.instanceMethod yX2_ring, Cond.selects RX2 yX2_ring yX2_ring, Cond.code yX2_ring cX2_ring 5 (some .int), Cond.methodLink RX2 180 yX2_ringLength, Cond.instanceMethod yX2_ringLength, Cond.selects RX2 yX2_ringLength yX2_ringLength, Cond.code yX2_ringLength cX2_ringLength 3 (some .int)]
def wsL_law_r21 : List Cond := [Cond.instanceMethod yX0_isAlike, Cond.selects RX0 yX0_isAlike yX0_isAlike, Cond.code yX0_isAlike cX0_isAlike 3 (some .boolean), Cond.methodLink RX2 183 yX2_ringStart, Cond.instanceMethod yX2_ringStart, Cond.selects RX2 yX2_ringStart yX2_ringStart, Cond.code yX2_ringStart cX2_ringStart 4 (some .int), Cond.methodLink RL 86 yX3_ring, Cond.instanceMethod yX3_ring, Cond.selects RX3 yX3_ring yX3_ring, Cond.code yX3_ring cX3_ring 5 (some .int), Cond.methodLink RX3 156 yX3_layTime, Cond.instanceMethod yX3_layTime, Cond.selects RX3 yX3_layTime yX3_layTime, Cond.code yX3_layTime cX3_layTime 3 none, Cond.methodLink RX3 159 yX3_isAlike, Cond.instanceMethod yX3_isAlike, Cond.selects RX3 yX3_isAlike yX3_isAlike, Cond.code yX3_isAlike cX3_isAlike 4 (some .boolean), Cond.methodLink RL 87 yX2_image, Cond.instanceMethod yX2_image, Cond.selects RX2 yX2_image yX2_image, Cond.code yX2_image cX2_image 2 (some .int), Cond.methodLink RX2 190 yX2_imageAt]
def wsL_law_r22 : List Cond := [Cond.instanceMethod yX2_imageAt, Cond.selects RX2 yX2_imageAt yX2_imageAt, Cond.code yX2_imageAt cX2_imageAt 2 (some (.object "JobSpread$Net")), Cond.methodLink RL 90 yX3_image, Cond.instanceMethod yX3_image, Cond.selects RX3 yX3_image yX3_image, Cond.code yX3_image cX3_image 2 (some .int), Cond.methodLink RL 91 yX2_restore, Cond.instanceMethod yX2_restore, Cond.selects RX2 yX2_restore yX2_restore, Cond.code yX2_restore cX2_restore 2 (some .int), Cond.methodLink RL 94 yX3_restore, Cond.instanceMethod yX3_restore, Cond.selects RX3 yX3_restore yX3_restore, Cond.code yX3_restore cX3_restore 2 (some .int), Cond.methodLink RL 95 yX2_count, Cond.instanceMethod yX2_count, Cond.selects RX2 yX2_count yX2_count, Cond.code yX2_count cX2_count 2 (some .int), Cond.methodLink RL 98 yX3_count, Cond.instanceMethod yX3_count, Cond.selects RX3 yX3_count yX3_count, Cond.code yX3_count cX3_count 2 (some .int), Cond.methodLink RX3 162 yX3_below]
def wsL_law_r23 : List Cond := [Cond.instanceMethod yX3_below, Cond.selects RX3 yX3_below yX3_below, Cond.code yX3_below cX3_below 3 (some .int)]
def wsL_law : List Cond := (wsL_law_r1 ++ (wsL_law_r2 ++ (wsL_law_r3 ++ (wsL_law_r4 ++ (wsL_law_r5 ++ (wsL_law_r6 ++ (wsL_law_r7 ++ (wsL_law_r8 ++ (wsL_law_r9 ++ (wsL_law_r10 ++ (wsL_law_r11 ++ (wsL_law_r12 ++ (wsL_law_r13 ++ (wsL_law_r14 ++ (wsL_law_r15 ++ (wsL_law_r16 ++ (wsL_law_r17 ++ (wsL_law_r18 ++ (wsL_law_r19 ++ (wsL_law_r20 ++ (wsL_law_r21 ++ (wsL_law_r22 ++ wsL_law_r23)))))))))))))))))))))) ++ wsX20 ++ wsX30 ++ wsX10 ++ wsX00 ++ ([] : List Cond)
end
section
theorem dX0_init_0 : decode cX0_init 0 = .ok (.aload_n 0, 1) := by decide +kernel
theorem dX0_init_1 : decode cX0_init 1 = .ok (.invokespecial 3, 3) := by decide +kernel
theorem dX0_init_4 : decode cX0_init 4 = .ok (.aload_n 0, 1) := by decide +kernel
theorem dX0_init_5 : decode cX0_init 5 = .ok (.bipush 8, 2) := by decide +kernel
theorem dX0_init_7 : decode cX0_init 7 = .ok (.newarray .int, 2) := by decide +kernel
theorem dX0_init_9 : decode cX0_init 9 = .ok (.putfield 9, 3) := by decide +kernel
theorem dX0_init_12 : decode cX0_init 12 = .ok (.aload_n 0, 1) := by decide +kernel
theorem dX0_init_13 : decode cX0_init 13 = .ok (.bipush 8, 2) := by decide +kernel
theorem dX0_init_15 : decode cX0_init 15 = .ok (.newarray .int, 2) := by decide +kernel
theorem dX0_init_17 : decode cX0_init 17 = .ok (.putfield 15, 3) := by decide +kernel
theorem dX0_init_20 : decode cX0_init 20 = .ok (.aload_n 0, 1) := by decide +kernel
theorem dX0_init_21 : decode cX0_init 21 = .ok (.bipush 8, 2) := by decide +kernel
theorem dX0_init_23 : decode cX0_init 23 = .ok (.newarray .int, 2) := by decide +kernel
theorem dX0_init_25 : decode cX0_init 25 = .ok (.putfield 18, 3) := by decide +kernel
theorem dX0_init_28 : decode cX0_init 28 = .ok (.aload_n 0, 1) := by decide +kernel
theorem dX0_init_29 : decode cX0_init 29 = .ok (.bipush 8, 2) := by decide +kernel
theorem dX0_init_31 : decode cX0_init 31 = .ok (.newarray .int, 2) := by decide +kernel
theorem dX0_init_33 : decode cX0_init 33 = .ok (.putfield 21, 3) := by decide +kernel
theorem dX0_init_36 : decode cX0_init 36 = .ok (.aload_n 0, 1) := by decide +kernel
theorem dX0_init_37 : decode cX0_init 37 = .ok (.bipush 64, 2) := by decide +kernel
theorem dX0_init_39 : decode cX0_init 39 = .ok (.newarray .int, 2) := by decide +kernel
theorem dX0_init_41 : decode cX0_init 41 = .ok (.putfield 24, 3) := by decide +kernel
theorem dX0_init_44 : decode cX0_init 44 = .ok (.aload_n 0, 1) := by decide +kernel
theorem dX0_init_45 : decode cX0_init 45 = .ok (.bipush 64, 2) := by decide +kernel
theorem dX0_init_47 : decode cX0_init 47 = .ok (.newarray .int, 2) := by decide +kernel
theorem dX0_init_49 : decode cX0_init 49 = .ok (.putfield 27, 3) := by decide +kernel
theorem dX0_init_52 : decode cX0_init 52 = .ok (.aload_n 0, 1) := by decide +kernel
theorem dX0_init_53 : decode cX0_init 53 = .ok (.bipush 8, 2) := by decide +kernel
theorem dX0_init_55 : decode cX0_init 55 = .ok (.newarray .int, 2) := by decide +kernel
theorem dX0_init_57 : decode cX0_init 57 = .ok (.putfield 30, 3) := by decide +kernel
theorem dX0_init_60 : decode cX0_init 60 = .ok (.aload_n 0, 1) := by decide +kernel
theorem dX0_init_61 : decode cX0_init 61 = .ok (.iconst 0, 1) := by decide +kernel
theorem dX0_init_62 : decode cX0_init 62 = .ok (.putfield 33, 3) := by decide +kernel
theorem dX0_init_65 : decode cX0_init 65 = .ok (.aload_n 0, 1) := by decide +kernel
theorem dX0_init_66 : decode cX0_init 66 = .ok (.iconst 0, 1) := by decide +kernel
theorem dX0_init_67 : decode cX0_init 67 = .ok (.putfield 37, 3) := by decide +kernel
theorem dX0_init_70 : decode cX0_init 70 = .ok (.iconst 0, 1) := by decide +kernel
theorem dX0_init_71 : decode cX0_init 71 = .ok (.istore_n 1, 1) := by decide +kernel
theorem dX0_init_72 : decode cX0_init 72 = .ok (.iload_n 1, 1) := by decide +kernel
theorem dX0_init_73 : decode cX0_init 73 = .ok (.bipush 8, 2) := by decide +kernel
theorem dX0_init_75 : decode cX0_init 75 = .ok (.if_icmp .ge 16, 3) := by decide +kernel
theorem dX0_init_78 : decode cX0_init 78 = .ok (.aload_n 0, 1) := by decide +kernel
theorem dX0_init_79 : decode cX0_init 79 = .ok (.getfield 9, 3) := by decide +kernel
theorem dX0_init_82 : decode cX0_init 82 = .ok (.iload_n 1, 1) := by decide +kernel
theorem dX0_init_83 : decode cX0_init 83 = .ok (.iconst 1, 1) := by decide +kernel
theorem dX0_init_84 : decode cX0_init 84 = .ok (.iastore, 1) := by decide +kernel
theorem dX0_init_85 : decode cX0_init 85 = .ok (.iinc 1 1, 3) := by decide +kernel
theorem dX0_init_88 : decode cX0_init 88 = .ok (.goto (-16), 3) := by decide +kernel
theorem dX0_init_91 : decode cX0_init 91 = .ok (.iconst 0, 1) := by decide +kernel
theorem dX0_init_92 : decode cX0_init 92 = .ok (.istore_n 1, 1) := by decide +kernel
theorem dX0_init_93 : decode cX0_init 93 = .ok (.iload_n 1, 1) := by decide +kernel
theorem dX0_init_94 : decode cX0_init 94 = .ok (.bipush 64, 2) := by decide +kernel
theorem dX0_init_96 : decode cX0_init 96 = .ok (.if_icmp .ge 16, 3) := by decide +kernel
theorem dX0_init_99 : decode cX0_init 99 = .ok (.aload_n 0, 1) := by decide +kernel
theorem dX0_init_100 : decode cX0_init 100 = .ok (.getfield 24, 3) := by decide +kernel
theorem dX0_init_103 : decode cX0_init 103 = .ok (.iload_n 1, 1) := by decide +kernel
theorem dX0_init_104 : decode cX0_init 104 = .ok (.iconst (-1), 1) := by decide +kernel
theorem dX0_init_105 : decode cX0_init 105 = .ok (.iastore, 1) := by decide +kernel
theorem dX0_init_106 : decode cX0_init 106 = .ok (.iinc 1 1, 3) := by decide +kernel
theorem dX0_init_109 : decode cX0_init 109 = .ok (.goto (-16), 3) := by decide +kernel
theorem dX0_init_112 : decode cX0_init 112 = .ok (.return_, 1) := by decide +kernel
theorem dX0_become_0 : decode cX0_become 0 = .ok (.aload_n 1, 1) := by decide +kernel
theorem dX0_become_1 : decode cX0_become 1 = .ok (.getfield 9, 3) := by decide +kernel
theorem dX0_become_4 : decode cX0_become 4 = .ok (.iconst 0, 1) := by decide +kernel
theorem dX0_become_5 : decode cX0_become 5 = .ok (.aload_n 0, 1) := by decide +kernel
theorem dX0_become_6 : decode cX0_become 6 = .ok (.getfield 9, 3) := by decide +kernel
theorem dX0_become_9 : decode cX0_become 9 = .ok (.iconst 0, 1) := by decide +kernel
theorem dX0_become_10 : decode cX0_become 10 = .ok (.bipush 8, 2) := by decide +kernel
theorem dX0_become_12 : decode cX0_become 12 = .ok (.invokestatic 40, 3) := by decide +kernel
theorem dX0_become_15 : decode cX0_become 15 = .ok (.aload_n 1, 1) := by decide +kernel
theorem dX0_become_16 : decode cX0_become 16 = .ok (.getfield 15, 3) := by decide +kernel
theorem dX0_become_19 : decode cX0_become 19 = .ok (.iconst 0, 1) := by decide +kernel
theorem dX0_become_20 : decode cX0_become 20 = .ok (.aload_n 0, 1) := by decide +kernel
theorem dX0_become_21 : decode cX0_become 21 = .ok (.getfield 15, 3) := by decide +kernel
theorem dX0_become_24 : decode cX0_become 24 = .ok (.iconst 0, 1) := by decide +kernel
theorem dX0_become_25 : decode cX0_become 25 = .ok (.bipush 8, 2) := by decide +kernel
theorem dX0_become_27 : decode cX0_become 27 = .ok (.invokestatic 40, 3) := by decide +kernel
theorem dX0_become_30 : decode cX0_become 30 = .ok (.aload_n 1, 1) := by decide +kernel
theorem dX0_become_31 : decode cX0_become 31 = .ok (.getfield 18, 3) := by decide +kernel
theorem dX0_become_34 : decode cX0_become 34 = .ok (.iconst 0, 1) := by decide +kernel
theorem dX0_become_35 : decode cX0_become 35 = .ok (.aload_n 0, 1) := by decide +kernel
theorem dX0_become_36 : decode cX0_become 36 = .ok (.getfield 18, 3) := by decide +kernel
theorem dX0_become_39 : decode cX0_become 39 = .ok (.iconst 0, 1) := by decide +kernel
theorem dX0_become_40 : decode cX0_become 40 = .ok (.bipush 8, 2) := by decide +kernel
theorem dX0_become_42 : decode cX0_become 42 = .ok (.invokestatic 40, 3) := by decide +kernel
theorem dX0_become_45 : decode cX0_become 45 = .ok (.aload_n 1, 1) := by decide +kernel
theorem dX0_become_46 : decode cX0_become 46 = .ok (.getfield 21, 3) := by decide +kernel
theorem dX0_become_49 : decode cX0_become 49 = .ok (.iconst 0, 1) := by decide +kernel
theorem dX0_become_50 : decode cX0_become 50 = .ok (.aload_n 0, 1) := by decide +kernel
theorem dX0_become_51 : decode cX0_become 51 = .ok (.getfield 21, 3) := by decide +kernel
theorem dX0_become_54 : decode cX0_become 54 = .ok (.iconst 0, 1) := by decide +kernel
theorem dX0_become_55 : decode cX0_become 55 = .ok (.bipush 8, 2) := by decide +kernel
theorem dX0_become_57 : decode cX0_become 57 = .ok (.invokestatic 40, 3) := by decide +kernel
theorem dX0_become_60 : decode cX0_become 60 = .ok (.aload_n 1, 1) := by decide +kernel
theorem dX0_become_61 : decode cX0_become 61 = .ok (.getfield 24, 3) := by decide +kernel
theorem dX0_become_64 : decode cX0_become 64 = .ok (.iconst 0, 1) := by decide +kernel
theorem dX0_become_65 : decode cX0_become 65 = .ok (.aload_n 0, 1) := by decide +kernel
theorem dX0_become_66 : decode cX0_become 66 = .ok (.getfield 24, 3) := by decide +kernel
theorem dX0_become_69 : decode cX0_become 69 = .ok (.iconst 0, 1) := by decide +kernel
theorem dX0_become_70 : decode cX0_become 70 = .ok (.bipush 64, 2) := by decide +kernel
theorem dX0_become_72 : decode cX0_become 72 = .ok (.invokestatic 40, 3) := by decide +kernel
theorem dX0_become_75 : decode cX0_become 75 = .ok (.aload_n 1, 1) := by decide +kernel
theorem dX0_become_76 : decode cX0_become 76 = .ok (.getfield 27, 3) := by decide +kernel
theorem dX0_become_79 : decode cX0_become 79 = .ok (.iconst 0, 1) := by decide +kernel
theorem dX0_become_80 : decode cX0_become 80 = .ok (.aload_n 0, 1) := by decide +kernel
theorem dX0_become_81 : decode cX0_become 81 = .ok (.getfield 27, 3) := by decide +kernel
theorem dX0_become_84 : decode cX0_become 84 = .ok (.iconst 0, 1) := by decide +kernel
theorem dX0_become_85 : decode cX0_become 85 = .ok (.bipush 64, 2) := by decide +kernel
theorem dX0_become_87 : decode cX0_become 87 = .ok (.invokestatic 40, 3) := by decide +kernel
theorem dX0_become_90 : decode cX0_become 90 = .ok (.aload_n 0, 1) := by decide +kernel
theorem dX0_become_91 : decode cX0_become 91 = .ok (.aload_n 1, 1) := by decide +kernel
theorem dX0_become_92 : decode cX0_become 92 = .ok (.getfield 33, 3) := by decide +kernel
theorem dX0_become_95 : decode cX0_become 95 = .ok (.putfield 33, 3) := by decide +kernel
theorem dX0_become_98 : decode cX0_become 98 = .ok (.aload_n 0, 1) := by decide +kernel
theorem dX0_become_99 : decode cX0_become 99 = .ok (.aload_n 1, 1) := by decide +kernel
theorem dX0_become_100 : decode cX0_become 100 = .ok (.getfield 37, 3) := by decide +kernel
theorem dX0_become_103 : decode cX0_become 103 = .ok (.putfield 37, 3) := by decide +kernel
theorem dX0_become_106 : decode cX0_become 106 = .ok (.return_, 1) := by decide +kernel
set_option maxRecDepth 20000 in
theorem ggX0_joins_X2_spot : GoodIn wsX0_joins wsX2_spot := goodIn_r _ [4] (by decide +kernel) (by decide +kernel)
set_option maxRecDepth 20000 in
theorem gX0_joins_X2_spot_n46 : GoodIn wsX0_joins (wsX2_spot) := ggX0_joins_X2_spot
theorem dX0_joins_0 : decode cX0_joins 0 = .ok (.aload_n 0, 1) := by decide +kernel
theorem dX0_joins_1 : decode cX0_joins 1 = .ok (.getfield 24, 3) := by decide +kernel
theorem dX0_joins_4 : decode cX0_joins 4 = .ok (.iload_n 1, 1) := by decide +kernel
theorem dX0_joins_5 : decode cX0_joins 5 = .ok (.iload_n 2, 1) := by decide +kernel
theorem dX0_joins_6 : decode cX0_joins 6 = .ok (.invokestatic 46, 3) := by decide +kernel
theorem dX0_joins_9 : decode cX0_joins 9 = .ok (.iaload, 1) := by decide +kernel
theorem dX0_joins_10 : decode cX0_joins 10 = .ok (.iconst (-1), 1) := by decide +kernel
theorem dX0_joins_11 : decode cX0_joins 11 = .ok (.if_icmp .eq 7, 3) := by decide +kernel
theorem dX0_joins_14 : decode cX0_joins 14 = .ok (.iconst 1, 1) := by decide +kernel
theorem dX0_joins_15 : decode cX0_joins 15 = .ok (.goto 4, 3) := by decide +kernel
theorem dX0_joins_18 : decode cX0_joins 18 = .ok (.iconst 0, 1) := by decide +kernel
theorem dX0_joins_19 : decode cX0_joins 19 = .ok (.ireturn, 1) := by decide +kernel
set_option maxRecDepth 20000 in
theorem ggX0_lay_X0_lift : GoodIn wsX0_lay wsX0_lift := goodIn_r _ [8, 1, 9, 2, 3, 10, 11, 12, 7, 13, 14, 15, 16, 17, 18, 19, 20, 21, 22, 23, 24, 25] (by decide +kernel) (by decide +kernel)
set_option maxRecDepth 20000 in
theorem gX0_lay_X0_lift : GoodIn wsX0_lay (wsV RX0 50 RX0 yX0_lift wsX0_lift) := goodIn_app (goodIn_of _ (by decide +kernel)) ggX0_lay_X0_lift
set_option maxRecDepth 20000 in
theorem ggX0_lay_X2_spot : GoodIn wsX0_lay wsX2_spot := goodIn_r _ [16] (by decide +kernel) (by decide +kernel)
set_option maxRecDepth 20000 in
theorem gX0_lay_X2_spot_n46 : GoodIn wsX0_lay (wsX2_spot) := ggX0_lay_X2_spot
theorem dX0_lay_0 : decode cX0_lay 0 = .ok (.aload_n 0, 1) := by decide +kernel
theorem dX0_lay_1 : decode cX0_lay 1 = .ok (.iload_n 1, 1) := by decide +kernel
theorem dX0_lay_2 : decode cX0_lay 2 = .ok (.iload_n 2, 1) := by decide +kernel
theorem dX0_lay_3 : decode cX0_lay 3 = .ok (.invokevirtual 50, 3) := by decide +kernel
theorem dX0_lay_6 : decode cX0_lay 6 = .ok (.aload_n 0, 1) := by decide +kernel
theorem dX0_lay_7 : decode cX0_lay 7 = .ok (.getfield 24, 3) := by decide +kernel
theorem dX0_lay_10 : decode cX0_lay 10 = .ok (.iload_n 1, 1) := by decide +kernel
theorem dX0_lay_11 : decode cX0_lay 11 = .ok (.iload_n 2, 1) := by decide +kernel
theorem dX0_lay_12 : decode cX0_lay 12 = .ok (.invokestatic 46, 3) := by decide +kernel
theorem dX0_lay_15 : decode cX0_lay 15 = .ok (.iload_n 3, 1) := by decide +kernel
theorem dX0_lay_16 : decode cX0_lay 16 = .ok (.iastore, 1) := by decide +kernel
theorem dX0_lay_17 : decode cX0_lay 17 = .ok (.aload_n 0, 1) := by decide +kernel
theorem dX0_lay_18 : decode cX0_lay 18 = .ok (.getfield 21, 3) := by decide +kernel
theorem dX0_lay_21 : decode cX0_lay 21 = .ok (.iload_n 1, 1) := by decide +kernel
theorem dX0_lay_22 : decode cX0_lay 22 = .ok (.dup2, 1) := by decide +kernel
theorem dX0_lay_23 : decode cX0_lay 23 = .ok (.iaload, 1) := by decide +kernel
theorem dX0_lay_24 : decode cX0_lay 24 = .ok (.iconst 1, 1) := by decide +kernel
theorem dX0_lay_25 : decode cX0_lay 25 = .ok (.iadd, 1) := by decide +kernel
theorem dX0_lay_26 : decode cX0_lay 26 = .ok (.iastore, 1) := by decide +kernel
theorem dX0_lay_27 : decode cX0_lay 27 = .ok (.aload_n 0, 1) := by decide +kernel
theorem dX0_lay_28 : decode cX0_lay 28 = .ok (.getfield 21, 3) := by decide +kernel
theorem dX0_lay_31 : decode cX0_lay 31 = .ok (.iload_n 2, 1) := by decide +kernel
theorem dX0_lay_32 : decode cX0_lay 32 = .ok (.dup2, 1) := by decide +kernel
theorem dX0_lay_33 : decode cX0_lay 33 = .ok (.iaload, 1) := by decide +kernel
theorem dX0_lay_34 : decode cX0_lay 34 = .ok (.iconst 1, 1) := by decide +kernel
theorem dX0_lay_35 : decode cX0_lay 35 = .ok (.iadd, 1) := by decide +kernel
theorem dX0_lay_36 : decode cX0_lay 36 = .ok (.iastore, 1) := by decide +kernel
theorem dX0_lay_37 : decode cX0_lay 37 = .ok (.aload_n 0, 1) := by decide +kernel
theorem dX0_lay_38 : decode cX0_lay 38 = .ok (.dup, 1) := by decide +kernel
theorem dX0_lay_39 : decode cX0_lay 39 = .ok (.getfield 33, 3) := by decide +kernel
theorem dX0_lay_42 : decode cX0_lay 42 = .ok (.iconst 1, 1) := by decide +kernel
theorem dX0_lay_43 : decode cX0_lay 43 = .ok (.iadd, 1) := by decide +kernel
theorem dX0_lay_44 : decode cX0_lay 44 = .ok (.putfield 33, 3) := by decide +kernel
theorem dX0_lay_47 : decode cX0_lay 47 = .ok (.return_, 1) := by decide +kernel
set_option maxRecDepth 20000 in
theorem ggX0_lift_X0_joins : GoodIn wsX0_lift wsX0_joins := goodIn_r _ [9, 1, 10, 11, 12, 13, 14, 15, 16, 17, 18, 19, 20, 21] (by decide +kernel) (by decide +kernel)
set_option maxRecDepth 20000 in
theorem gX0_lift_X0_joins : GoodIn wsX0_lift (wsV RX0 54 RX0 yX0_joins wsX0_joins) := goodIn_app (goodIn_of _ (by decide +kernel)) ggX0_lift_X0_joins
set_option maxRecDepth 20000 in
theorem ggX0_lift_X2_spot : GoodIn wsX0_lift wsX2_spot := goodIn_r _ [12] (by decide +kernel) (by decide +kernel)
set_option maxRecDepth 20000 in
theorem gX0_lift_X2_spot_n46 : GoodIn wsX0_lift (wsX2_spot) := ggX0_lift_X2_spot
theorem dX0_lift_0 : decode cX0_lift 0 = .ok (.aload_n 0, 1) := by decide +kernel
theorem dX0_lift_1 : decode cX0_lift 1 = .ok (.iload_n 1, 1) := by decide +kernel
theorem dX0_lift_2 : decode cX0_lift 2 = .ok (.iload_n 2, 1) := by decide +kernel
theorem dX0_lift_3 : decode cX0_lift 3 = .ok (.invokevirtual 54, 3) := by decide +kernel
theorem dX0_lift_6 : decode cX0_lift 6 = .ok (.ifCond .ne 4, 3) := by decide +kernel
theorem dX0_lift_9 : decode cX0_lift 9 = .ok (.return_, 1) := by decide +kernel
theorem dX0_lift_10 : decode cX0_lift 10 = .ok (.aload_n 0, 1) := by decide +kernel
theorem dX0_lift_11 : decode cX0_lift 11 = .ok (.getfield 24, 3) := by decide +kernel
theorem dX0_lift_14 : decode cX0_lift 14 = .ok (.iload_n 1, 1) := by decide +kernel
theorem dX0_lift_15 : decode cX0_lift 15 = .ok (.iload_n 2, 1) := by decide +kernel
theorem dX0_lift_16 : decode cX0_lift 16 = .ok (.invokestatic 46, 3) := by decide +kernel
theorem dX0_lift_19 : decode cX0_lift 19 = .ok (.iconst (-1), 1) := by decide +kernel
theorem dX0_lift_20 : decode cX0_lift 20 = .ok (.iastore, 1) := by decide +kernel
theorem dX0_lift_21 : decode cX0_lift 21 = .ok (.aload_n 0, 1) := by decide +kernel
theorem dX0_lift_22 : decode cX0_lift 22 = .ok (.getfield 27, 3) := by decide +kernel
theorem dX0_lift_25 : decode cX0_lift 25 = .ok (.iload_n 1, 1) := by decide +kernel
theorem dX0_lift_26 : decode cX0_lift 26 = .ok (.iload_n 2, 1) := by decide +kernel
theorem dX0_lift_27 : decode cX0_lift 27 = .ok (.invokestatic 46, 3) := by decide +kernel
theorem dX0_lift_30 : decode cX0_lift 30 = .ok (.iconst 0, 1) := by decide +kernel
theorem dX0_lift_31 : decode cX0_lift 31 = .ok (.iastore, 1) := by decide +kernel
theorem dX0_lift_32 : decode cX0_lift 32 = .ok (.aload_n 0, 1) := by decide +kernel
theorem dX0_lift_33 : decode cX0_lift 33 = .ok (.getfield 21, 3) := by decide +kernel
theorem dX0_lift_36 : decode cX0_lift 36 = .ok (.iload_n 1, 1) := by decide +kernel
theorem dX0_lift_37 : decode cX0_lift 37 = .ok (.dup2, 1) := by decide +kernel
theorem dX0_lift_38 : decode cX0_lift 38 = .ok (.iaload, 1) := by decide +kernel
theorem dX0_lift_39 : decode cX0_lift 39 = .ok (.iconst 1, 1) := by decide +kernel
theorem dX0_lift_40 : decode cX0_lift 40 = .ok (.isub, 1) := by decide +kernel
theorem dX0_lift_41 : decode cX0_lift 41 = .ok (.iastore, 1) := by decide +kernel
theorem dX0_lift_42 : decode cX0_lift 42 = .ok (.aload_n 0, 1) := by decide +kernel
theorem dX0_lift_43 : decode cX0_lift 43 = .ok (.getfield 21, 3) := by decide +kernel
theorem dX0_lift_46 : decode cX0_lift 46 = .ok (.iload_n 2, 1) := by decide +kernel
theorem dX0_lift_47 : decode cX0_lift 47 = .ok (.dup2, 1) := by decide +kernel
theorem dX0_lift_48 : decode cX0_lift 48 = .ok (.iaload, 1) := by decide +kernel
theorem dX0_lift_49 : decode cX0_lift 49 = .ok (.iconst 1, 1) := by decide +kernel
theorem dX0_lift_50 : decode cX0_lift 50 = .ok (.isub, 1) := by decide +kernel
theorem dX0_lift_51 : decode cX0_lift 51 = .ok (.iastore, 1) := by decide +kernel
theorem dX0_lift_52 : decode cX0_lift 52 = .ok (.aload_n 0, 1) := by decide +kernel
theorem dX0_lift_53 : decode cX0_lift 53 = .ok (.dup, 1) := by decide +kernel
theorem dX0_lift_54 : decode cX0_lift 54 = .ok (.getfield 33, 3) := by decide +kernel
theorem dX0_lift_57 : decode cX0_lift 57 = .ok (.iconst 1, 1) := by decide +kernel
theorem dX0_lift_58 : decode cX0_lift 58 = .ok (.isub, 1) := by decide +kernel
theorem dX0_lift_59 : decode cX0_lift 59 = .ok (.putfield 33, 3) := by decide +kernel
theorem dX0_lift_62 : decode cX0_lift 62 = .ok (.return_, 1) := by decide +kernel
set_option maxRecDepth 20000 in
theorem ggX0_liftAll_X0_lift : GoodIn wsX0_liftAll wsX0_lift := goodIn_r _ [5, 6, 7, 8, 9, 10, 11, 12, 4, 13, 14, 15, 16, 17, 18, 19, 20, 21, 22, 23, 24, 25] (by decide +kernel) (by decide +kernel)
set_option maxRecDepth 20000 in
theorem gX0_liftAll_X0_lift : GoodIn wsX0_liftAll (wsV RX0 50 RX0 yX0_lift wsX0_lift) := goodIn_app (goodIn_of _ (by decide +kernel)) ggX0_liftAll_X0_lift
theorem dX0_liftAll_0 : decode cX0_liftAll 0 = .ok (.iconst 0, 1) := by decide +kernel
theorem dX0_liftAll_1 : decode cX0_liftAll 1 = .ok (.istore_n 1, 1) := by decide +kernel
theorem dX0_liftAll_2 : decode cX0_liftAll 2 = .ok (.iload_n 1, 1) := by decide +kernel
theorem dX0_liftAll_3 : decode cX0_liftAll 3 = .ok (.bipush 8, 2) := by decide +kernel
theorem dX0_liftAll_5 : decode cX0_liftAll 5 = .ok (.if_icmp .ge 31, 3) := by decide +kernel
theorem dX0_liftAll_8 : decode cX0_liftAll 8 = .ok (.iload_n 1, 1) := by decide +kernel
theorem dX0_liftAll_9 : decode cX0_liftAll 9 = .ok (.iconst 1, 1) := by decide +kernel
theorem dX0_liftAll_10 : decode cX0_liftAll 10 = .ok (.iadd, 1) := by decide +kernel
theorem dX0_liftAll_11 : decode cX0_liftAll 11 = .ok (.istore_n 2, 1) := by decide +kernel
theorem dX0_liftAll_12 : decode cX0_liftAll 12 = .ok (.iload_n 2, 1) := by decide +kernel
theorem dX0_liftAll_13 : decode cX0_liftAll 13 = .ok (.bipush 8, 2) := by decide +kernel
theorem dX0_liftAll_15 : decode cX0_liftAll 15 = .ok (.if_icmp .ge 15, 3) := by decide +kernel
theorem dX0_liftAll_18 : decode cX0_liftAll 18 = .ok (.aload_n 0, 1) := by decide +kernel
theorem dX0_liftAll_19 : decode cX0_liftAll 19 = .ok (.iload_n 1, 1) := by decide +kernel
theorem dX0_liftAll_20 : decode cX0_liftAll 20 = .ok (.iload_n 2, 1) := by decide +kernel
theorem dX0_liftAll_21 : decode cX0_liftAll 21 = .ok (.invokevirtual 50, 3) := by decide +kernel
theorem dX0_liftAll_24 : decode cX0_liftAll 24 = .ok (.iinc 2 1, 3) := by decide +kernel
theorem dX0_liftAll_27 : decode cX0_liftAll 27 = .ok (.goto (-15), 3) := by decide +kernel
theorem dX0_liftAll_30 : decode cX0_liftAll 30 = .ok (.iinc 1 1, 3) := by decide +kernel
theorem dX0_liftAll_33 : decode cX0_liftAll 33 = .ok (.goto (-31), 3) := by decide +kernel
theorem dX0_liftAll_36 : decode cX0_liftAll 36 = .ok (.return_, 1) := by decide +kernel
theorem dX0_startAgain_0 : decode cX0_startAgain 0 = .ok (.iconst 0, 1) := by decide +kernel
theorem dX0_startAgain_1 : decode cX0_startAgain 1 = .ok (.istore_n 1, 1) := by decide +kernel
theorem dX0_startAgain_2 : decode cX0_startAgain 2 = .ok (.iload_n 1, 1) := by decide +kernel
theorem dX0_startAgain_3 : decode cX0_startAgain 3 = .ok (.bipush 8, 2) := by decide +kernel
theorem dX0_startAgain_5 : decode cX0_startAgain 5 = .ok (.if_icmp .ge 16, 3) := by decide +kernel
theorem dX0_startAgain_8 : decode cX0_startAgain 8 = .ok (.aload_n 0, 1) := by decide +kernel
theorem dX0_startAgain_9 : decode cX0_startAgain 9 = .ok (.getfield 18, 3) := by decide +kernel
theorem dX0_startAgain_12 : decode cX0_startAgain 12 = .ok (.iload_n 1, 1) := by decide +kernel
theorem dX0_startAgain_13 : decode cX0_startAgain 13 = .ok (.iconst 0, 1) := by decide +kernel
theorem dX0_startAgain_14 : decode cX0_startAgain 14 = .ok (.iastore, 1) := by decide +kernel
theorem dX0_startAgain_15 : decode cX0_startAgain 15 = .ok (.iinc 1 1, 3) := by decide +kernel
theorem dX0_startAgain_18 : decode cX0_startAgain 18 = .ok (.goto (-16), 3) := by decide +kernel
theorem dX0_startAgain_21 : decode cX0_startAgain 21 = .ok (.iconst 0, 1) := by decide +kernel
theorem dX0_startAgain_22 : decode cX0_startAgain 22 = .ok (.istore_n 1, 1) := by decide +kernel
theorem dX0_startAgain_23 : decode cX0_startAgain 23 = .ok (.iload_n 1, 1) := by decide +kernel
theorem dX0_startAgain_24 : decode cX0_startAgain 24 = .ok (.bipush 64, 2) := by decide +kernel
theorem dX0_startAgain_26 : decode cX0_startAgain 26 = .ok (.if_icmp .ge 16, 3) := by decide +kernel
theorem dX0_startAgain_29 : decode cX0_startAgain 29 = .ok (.aload_n 0, 1) := by decide +kernel
theorem dX0_startAgain_30 : decode cX0_startAgain 30 = .ok (.getfield 27, 3) := by decide +kernel
theorem dX0_startAgain_33 : decode cX0_startAgain 33 = .ok (.iload_n 1, 1) := by decide +kernel
theorem dX0_startAgain_34 : decode cX0_startAgain 34 = .ok (.iconst 0, 1) := by decide +kernel
theorem dX0_startAgain_35 : decode cX0_startAgain 35 = .ok (.iastore, 1) := by decide +kernel
theorem dX0_startAgain_36 : decode cX0_startAgain 36 = .ok (.iinc 1 1, 3) := by decide +kernel
theorem dX0_startAgain_39 : decode cX0_startAgain 39 = .ok (.goto (-16), 3) := by decide +kernel
theorem dX0_startAgain_42 : decode cX0_startAgain 42 = .ok (.aload_n 0, 1) := by decide +kernel
theorem dX0_startAgain_43 : decode cX0_startAgain 43 = .ok (.iconst 0, 1) := by decide +kernel
theorem dX0_startAgain_44 : decode cX0_startAgain 44 = .ok (.putfield 37, 3) := by decide +kernel
theorem dX0_startAgain_47 : decode cX0_startAgain 47 = .ok (.return_, 1) := by decide +kernel
theorem dX0_slots_0 : decode cX0_slots 0 = .ok (.aload_n 0, 1) := by decide +kernel
theorem dX0_slots_1 : decode cX0_slots 1 = .ok (.getfield 21, 3) := by decide +kernel
theorem dX0_slots_4 : decode cX0_slots 4 = .ok (.iload_n 1, 1) := by decide +kernel
theorem dX0_slots_5 : decode cX0_slots 5 = .ok (.iaload, 1) := by decide +kernel
theorem dX0_slots_6 : decode cX0_slots 6 = .ok (.ifCond .le 14, 3) := by decide +kernel
theorem dX0_slots_9 : decode cX0_slots 9 = .ok (.aload_n 0, 1) := by decide +kernel
theorem dX0_slots_10 : decode cX0_slots 10 = .ok (.getfield 21, 3) := by decide +kernel
theorem dX0_slots_13 : decode cX0_slots 13 = .ok (.iload_n 1, 1) := by decide +kernel
theorem dX0_slots_14 : decode cX0_slots 14 = .ok (.iaload, 1) := by decide +kernel
theorem dX0_slots_15 : decode cX0_slots 15 = .ok (.iconst 1, 1) := by decide +kernel
theorem dX0_slots_16 : decode cX0_slots 16 = .ok (.iadd, 1) := by decide +kernel
theorem dX0_slots_17 : decode cX0_slots 17 = .ok (.goto 4, 3) := by decide +kernel
theorem dX0_slots_20 : decode cX0_slots 20 = .ok (.iconst 1, 1) := by decide +kernel
theorem dX0_slots_21 : decode cX0_slots 21 = .ok (.ireturn, 1) := by decide +kernel
set_option maxRecDepth 20000 in
theorem ggX0_rotorLeftOver_X0_slots : GoodIn wsX0_rotorLeftOver wsX0_slots := goodIn_r _ [6, 7, 8, 9, 10, 11, 12, 13, 14, 15, 16] (by decide +kernel) (by decide +kernel)
set_option maxRecDepth 20000 in
theorem gX0_rotorLeftOver_X0_slots : GoodIn wsX0_rotorLeftOver (wsV RX0 58 RX0 yX0_slots wsX0_slots) := goodIn_app (goodIn_of _ (by decide +kernel)) ggX0_rotorLeftOver_X0_slots
theorem dX0_rotorLeftOver_0 : decode cX0_rotorLeftOver 0 = .ok (.aload_n 0, 1) := by decide +kernel
theorem dX0_rotorLeftOver_1 : decode cX0_rotorLeftOver 1 = .ok (.getfield 18, 3) := by decide +kernel
theorem dX0_rotorLeftOver_4 : decode cX0_rotorLeftOver 4 = .ok (.iload_n 1, 1) := by decide +kernel
theorem dX0_rotorLeftOver_5 : decode cX0_rotorLeftOver 5 = .ok (.iaload, 1) := by decide +kernel
theorem dX0_rotorLeftOver_6 : decode cX0_rotorLeftOver 6 = .ok (.aload_n 0, 1) := by decide +kernel
theorem dX0_rotorLeftOver_7 : decode cX0_rotorLeftOver 7 = .ok (.iload_n 1, 1) := by decide +kernel
theorem dX0_rotorLeftOver_8 : decode cX0_rotorLeftOver 8 = .ok (.invokevirtual 58, 3) := by decide +kernel
theorem dX0_rotorLeftOver_11 : decode cX0_rotorLeftOver 11 = .ok (.irem, 1) := by decide +kernel
theorem dX0_rotorLeftOver_12 : decode cX0_rotorLeftOver 12 = .ok (.ireturn, 1) := by decide +kernel
set_option maxRecDepth 20000 in
theorem ggX0_measure_X0_slots : GoodIn wsX0_measure wsX0_slots := goodIn_r _ [9, 10, 11, 12, 13, 14, 15, 16, 17, 18, 19] (by decide +kernel) (by decide +kernel)
set_option maxRecDepth 20000 in
theorem gX0_measure_X0_slots : GoodIn wsX0_measure (wsV RX0 58 RX0 yX0_slots wsX0_slots) := goodIn_app (goodIn_of _ (by decide +kernel)) ggX0_measure_X0_slots
theorem dX0_measure_0 : decode cX0_measure 0 = .ok (.iconst 1, 1) := by decide +kernel
theorem dX0_measure_1 : decode cX0_measure 1 = .ok (.istore_n 1, 1) := by decide +kernel
theorem dX0_measure_2 : decode cX0_measure 2 = .ok (.iconst 0, 1) := by decide +kernel
theorem dX0_measure_3 : decode cX0_measure 3 = .ok (.istore_n 2, 1) := by decide +kernel
theorem dX0_measure_4 : decode cX0_measure 4 = .ok (.iload_n 2, 1) := by decide +kernel
theorem dX0_measure_5 : decode cX0_measure 5 = .ok (.bipush 8, 2) := by decide +kernel
theorem dX0_measure_7 : decode cX0_measure 7 = .ok (.if_icmp .ge 19, 3) := by decide +kernel
theorem dX0_measure_10 : decode cX0_measure 10 = .ok (.iload_n 1, 1) := by decide +kernel
theorem dX0_measure_11 : decode cX0_measure 11 = .ok (.aload_n 0, 1) := by decide +kernel
theorem dX0_measure_12 : decode cX0_measure 12 = .ok (.iload_n 2, 1) := by decide +kernel
theorem dX0_measure_13 : decode cX0_measure 13 = .ok (.invokevirtual 58, 3) := by decide +kernel
theorem dX0_measure_16 : decode cX0_measure 16 = .ok (.invokestatic 62, 3) := by decide +kernel
theorem dX0_measure_19 : decode cX0_measure 19 = .ok (.istore_n 1, 1) := by decide +kernel
theorem dX0_measure_20 : decode cX0_measure 20 = .ok (.iinc 2 1, 3) := by decide +kernel
theorem dX0_measure_23 : decode cX0_measure 23 = .ok (.goto (-19), 3) := by decide +kernel
theorem dX0_measure_26 : decode cX0_measure 26 = .ok (.iconst 4, 1) := by decide +kernel
theorem dX0_measure_27 : decode cX0_measure 27 = .ok (.iload_n 1, 1) := by decide +kernel
theorem dX0_measure_28 : decode cX0_measure 28 = .ok (.imul, 1) := by decide +kernel
theorem dX0_measure_29 : decode cX0_measure 29 = .ok (.ireturn, 1) := by decide +kernel
theorem dX0_colours_0 : decode cX0_colours 0 = .ok (.iconst 0, 1) := by decide +kernel
theorem dX0_colours_1 : decode cX0_colours 1 = .ok (.istore_n 1, 1) := by decide +kernel
theorem dX0_colours_2 : decode cX0_colours 2 = .ok (.iconst 0, 1) := by decide +kernel
theorem dX0_colours_3 : decode cX0_colours 3 = .ok (.istore_n 2, 1) := by decide +kernel
theorem dX0_colours_4 : decode cX0_colours 4 = .ok (.iload_n 2, 1) := by decide +kernel
theorem dX0_colours_5 : decode cX0_colours 5 = .ok (.bipush 64, 2) := by decide +kernel
theorem dX0_colours_7 : decode cX0_colours 7 = .ok (.if_icmp .ge 20, 3) := by decide +kernel
theorem dX0_colours_10 : decode cX0_colours 10 = .ok (.iload_n 1, 1) := by decide +kernel
theorem dX0_colours_11 : decode cX0_colours 11 = .ok (.aload_n 0, 1) := by decide +kernel
theorem dX0_colours_12 : decode cX0_colours 12 = .ok (.getfield 24, 3) := by decide +kernel
theorem dX0_colours_15 : decode cX0_colours 15 = .ok (.iload_n 2, 1) := by decide +kernel
theorem dX0_colours_16 : decode cX0_colours 16 = .ok (.iaload, 1) := by decide +kernel
theorem dX0_colours_17 : decode cX0_colours 17 = .ok (.invokestatic 62, 3) := by decide +kernel
theorem dX0_colours_20 : decode cX0_colours 20 = .ok (.istore_n 1, 1) := by decide +kernel
theorem dX0_colours_21 : decode cX0_colours 21 = .ok (.iinc 2 1, 3) := by decide +kernel
theorem dX0_colours_24 : decode cX0_colours 24 = .ok (.goto (-20), 3) := by decide +kernel
theorem dX0_colours_27 : decode cX0_colours 27 = .ok (.iload_n 1, 1) := by decide +kernel
theorem dX0_colours_28 : decode cX0_colours 28 = .ok (.iconst 1, 1) := by decide +kernel
theorem dX0_colours_29 : decode cX0_colours 29 = .ok (.iadd, 1) := by decide +kernel
theorem dX0_colours_30 : decode cX0_colours 30 = .ok (.ireturn, 1) := by decide +kernel
theorem dX0_allSpeeds_0 : decode cX0_allSpeeds 0 = .ok (.iconst 0, 1) := by decide +kernel
theorem dX0_allSpeeds_1 : decode cX0_allSpeeds 1 = .ok (.istore_n 1, 1) := by decide +kernel
theorem dX0_allSpeeds_2 : decode cX0_allSpeeds 2 = .ok (.iconst 0, 1) := by decide +kernel
theorem dX0_allSpeeds_3 : decode cX0_allSpeeds 3 = .ok (.istore_n 2, 1) := by decide +kernel
theorem dX0_allSpeeds_4 : decode cX0_allSpeeds 4 = .ok (.iload_n 2, 1) := by decide +kernel
theorem dX0_allSpeeds_5 : decode cX0_allSpeeds 5 = .ok (.bipush 8, 2) := by decide +kernel
theorem dX0_allSpeeds_7 : decode cX0_allSpeeds 7 = .ok (.if_icmp .ge 18, 3) := by decide +kernel
theorem dX0_allSpeeds_10 : decode cX0_allSpeeds 10 = .ok (.iload_n 1, 1) := by decide +kernel
theorem dX0_allSpeeds_11 : decode cX0_allSpeeds 11 = .ok (.aload_n 0, 1) := by decide +kernel
theorem dX0_allSpeeds_12 : decode cX0_allSpeeds 12 = .ok (.getfield 9, 3) := by decide +kernel
theorem dX0_allSpeeds_15 : decode cX0_allSpeeds 15 = .ok (.iload_n 2, 1) := by decide +kernel
theorem dX0_allSpeeds_16 : decode cX0_allSpeeds 16 = .ok (.iaload, 1) := by decide +kernel
theorem dX0_allSpeeds_17 : decode cX0_allSpeeds 17 = .ok (.iadd, 1) := by decide +kernel
theorem dX0_allSpeeds_18 : decode cX0_allSpeeds 18 = .ok (.istore_n 1, 1) := by decide +kernel
theorem dX0_allSpeeds_19 : decode cX0_allSpeeds 19 = .ok (.iinc 2 1, 3) := by decide +kernel
theorem dX0_allSpeeds_22 : decode cX0_allSpeeds 22 = .ok (.goto (-18), 3) := by decide +kernel
theorem dX0_allSpeeds_25 : decode cX0_allSpeeds 25 = .ok (.iload_n 1, 1) := by decide +kernel
theorem dX0_allSpeeds_26 : decode cX0_allSpeeds 26 = .ok (.ireturn, 1) := by decide +kernel
theorem dX0_allJobs_0 : decode cX0_allJobs 0 = .ok (.lconst 0, 1) := by decide +kernel
theorem dX0_allJobs_1 : decode cX0_allJobs 1 = .ok (.lstore_n 1, 1) := by decide +kernel
theorem dX0_allJobs_2 : decode cX0_allJobs 2 = .ok (.iconst 0, 1) := by decide +kernel
theorem dX0_allJobs_3 : decode cX0_allJobs 3 = .ok (.istore_n 3, 1) := by decide +kernel
theorem dX0_allJobs_4 : decode cX0_allJobs 4 = .ok (.iload_n 3, 1) := by decide +kernel
theorem dX0_allJobs_5 : decode cX0_allJobs 5 = .ok (.bipush 8, 2) := by decide +kernel
theorem dX0_allJobs_7 : decode cX0_allJobs 7 = .ok (.if_icmp .ge 19, 3) := by decide +kernel
theorem dX0_allJobs_10 : decode cX0_allJobs 10 = .ok (.lload_n 1, 1) := by decide +kernel
theorem dX0_allJobs_11 : decode cX0_allJobs 11 = .ok (.aload_n 0, 1) := by decide +kernel
theorem dX0_allJobs_12 : decode cX0_allJobs 12 = .ok (.getfield 15, 3) := by decide +kernel
theorem dX0_allJobs_15 : decode cX0_allJobs 15 = .ok (.iload_n 3, 1) := by decide +kernel
theorem dX0_allJobs_16 : decode cX0_allJobs 16 = .ok (.iaload, 1) := by decide +kernel
theorem dX0_allJobs_17 : decode cX0_allJobs 17 = .ok (.i2l, 1) := by decide +kernel
theorem dX0_allJobs_18 : decode cX0_allJobs 18 = .ok (.ladd, 1) := by decide +kernel
theorem dX0_allJobs_19 : decode cX0_allJobs 19 = .ok (.lstore_n 1, 1) := by decide +kernel
theorem dX0_allJobs_20 : decode cX0_allJobs 20 = .ok (.iinc 3 1, 3) := by decide +kernel
theorem dX0_allJobs_23 : decode cX0_allJobs 23 = .ok (.goto (-19), 3) := by decide +kernel
theorem dX0_allJobs_26 : decode cX0_allJobs 26 = .ok (.lload_n 1, 1) := by decide +kernel
theorem dX0_allJobs_27 : decode cX0_allJobs 27 = .ok (.lreturn, 1) := by decide +kernel
theorem dX0_nodesBelowZero_0 : decode cX0_nodesBelowZero 0 = .ok (.iconst 0, 1) := by decide +kernel
theorem dX0_nodesBelowZero_1 : decode cX0_nodesBelowZero 1 = .ok (.istore_n 1, 1) := by decide +kernel
theorem dX0_nodesBelowZero_2 : decode cX0_nodesBelowZero 2 = .ok (.iconst 0, 1) := by decide +kernel
theorem dX0_nodesBelowZero_3 : decode cX0_nodesBelowZero 3 = .ok (.istore_n 2, 1) := by decide +kernel
theorem dX0_nodesBelowZero_4 : decode cX0_nodesBelowZero 4 = .ok (.iload_n 2, 1) := by decide +kernel
theorem dX0_nodesBelowZero_5 : decode cX0_nodesBelowZero 5 = .ok (.bipush 8, 2) := by decide +kernel
theorem dX0_nodesBelowZero_7 : decode cX0_nodesBelowZero 7 = .ok (.if_icmp .ge 21, 3) := by decide +kernel
theorem dX0_nodesBelowZero_10 : decode cX0_nodesBelowZero 10 = .ok (.aload_n 0, 1) := by decide +kernel
theorem dX0_nodesBelowZero_11 : decode cX0_nodesBelowZero 11 = .ok (.getfield 15, 3) := by decide +kernel
theorem dX0_nodesBelowZero_14 : decode cX0_nodesBelowZero 14 = .ok (.iload_n 2, 1) := by decide +kernel
theorem dX0_nodesBelowZero_15 : decode cX0_nodesBelowZero 15 = .ok (.iaload, 1) := by decide +kernel
theorem dX0_nodesBelowZero_16 : decode cX0_nodesBelowZero 16 = .ok (.ifCond .ge 6, 3) := by decide +kernel
theorem dX0_nodesBelowZero_19 : decode cX0_nodesBelowZero 19 = .ok (.iinc 1 1, 3) := by decide +kernel
theorem dX0_nodesBelowZero_22 : decode cX0_nodesBelowZero 22 = .ok (.iinc 2 1, 3) := by decide +kernel
theorem dX0_nodesBelowZero_25 : decode cX0_nodesBelowZero 25 = .ok (.goto (-21), 3) := by decide +kernel
theorem dX0_nodesBelowZero_28 : decode cX0_nodesBelowZero 28 = .ok (.iload_n 1, 1) := by decide +kernel
theorem dX0_nodesBelowZero_29 : decode cX0_nodesBelowZero 29 = .ok (.ireturn, 1) := by decide +kernel
theorem dX0_loadGap_0 : decode cX0_loadGap 0 = .ok (.aload_n 0, 1) := by decide +kernel
theorem dX0_loadGap_1 : decode cX0_loadGap 1 = .ok (.getfield 15, 3) := by decide +kernel
theorem dX0_loadGap_4 : decode cX0_loadGap 4 = .ok (.iload_n 1, 1) := by decide +kernel
theorem dX0_loadGap_5 : decode cX0_loadGap 5 = .ok (.iaload, 1) := by decide +kernel
theorem dX0_loadGap_6 : decode cX0_loadGap 6 = .ok (.i2l, 1) := by decide +kernel
theorem dX0_loadGap_7 : decode cX0_loadGap 7 = .ok (.aload_n 0, 1) := by decide +kernel
theorem dX0_loadGap_8 : decode cX0_loadGap 8 = .ok (.getfield 9, 3) := by decide +kernel
theorem dX0_loadGap_11 : decode cX0_loadGap 11 = .ok (.iload_n 2, 1) := by decide +kernel
theorem dX0_loadGap_12 : decode cX0_loadGap 12 = .ok (.iaload, 1) := by decide +kernel
theorem dX0_loadGap_13 : decode cX0_loadGap 13 = .ok (.i2l, 1) := by decide +kernel
theorem dX0_loadGap_14 : decode cX0_loadGap 14 = .ok (.lmul, 1) := by decide +kernel
theorem dX0_loadGap_15 : decode cX0_loadGap 15 = .ok (.aload_n 0, 1) := by decide +kernel
theorem dX0_loadGap_16 : decode cX0_loadGap 16 = .ok (.getfield 15, 3) := by decide +kernel
theorem dX0_loadGap_19 : decode cX0_loadGap 19 = .ok (.iload_n 2, 1) := by decide +kernel
theorem dX0_loadGap_20 : decode cX0_loadGap 20 = .ok (.iaload, 1) := by decide +kernel
theorem dX0_loadGap_21 : decode cX0_loadGap 21 = .ok (.i2l, 1) := by decide +kernel
theorem dX0_loadGap_22 : decode cX0_loadGap 22 = .ok (.aload_n 0, 1) := by decide +kernel
theorem dX0_loadGap_23 : decode cX0_loadGap 23 = .ok (.getfield 9, 3) := by decide +kernel
theorem dX0_loadGap_26 : decode cX0_loadGap 26 = .ok (.iload_n 1, 1) := by decide +kernel
theorem dX0_loadGap_27 : decode cX0_loadGap 27 = .ok (.iaload, 1) := by decide +kernel
theorem dX0_loadGap_28 : decode cX0_loadGap 28 = .ok (.i2l, 1) := by decide +kernel
theorem dX0_loadGap_29 : decode cX0_loadGap 29 = .ok (.lmul, 1) := by decide +kernel
theorem dX0_loadGap_30 : decode cX0_loadGap 30 = .ok (.lsub, 1) := by decide +kernel
theorem dX0_loadGap_31 : decode cX0_loadGap 31 = .ok (.lreturn, 1) := by decide +kernel
set_option maxRecDepth 20000 in
theorem ggX0_mostLoaded_X0_loadGap : GoodIn wsX0_mostLoaded wsX0_loadGap := goodIn_r _ [5, 6, 7, 8, 9, 10, 11, 12, 13, 14, 15, 16] (by decide +kernel) (by decide +kernel)
set_option maxRecDepth 20000 in
theorem gX0_mostLoaded_X0_loadGap : GoodIn wsX0_mostLoaded (wsV RX0 67 RX0 yX0_loadGap wsX0_loadGap) := goodIn_app (goodIn_of _ (by decide +kernel)) ggX0_mostLoaded_X0_loadGap
theorem dX0_mostLoaded_0 : decode cX0_mostLoaded 0 = .ok (.iconst 0, 1) := by decide +kernel
theorem dX0_mostLoaded_1 : decode cX0_mostLoaded 1 = .ok (.istore_n 1, 1) := by decide +kernel
theorem dX0_mostLoaded_2 : decode cX0_mostLoaded 2 = .ok (.iconst 1, 1) := by decide +kernel
theorem dX0_mostLoaded_3 : decode cX0_mostLoaded 3 = .ok (.istore_n 2, 1) := by decide +kernel
theorem dX0_mostLoaded_4 : decode cX0_mostLoaded 4 = .ok (.iload_n 2, 1) := by decide +kernel
theorem dX0_mostLoaded_5 : decode cX0_mostLoaded 5 = .ok (.bipush 8, 2) := by decide +kernel
theorem dX0_mostLoaded_7 : decode cX0_mostLoaded 7 = .ok (.if_icmp .ge 22, 3) := by decide +kernel
theorem dX0_mostLoaded_10 : decode cX0_mostLoaded 10 = .ok (.aload_n 0, 1) := by decide +kernel
theorem dX0_mostLoaded_11 : decode cX0_mostLoaded 11 = .ok (.iload_n 2, 1) := by decide +kernel
theorem dX0_mostLoaded_12 : decode cX0_mostLoaded 12 = .ok (.iload_n 1, 1) := by decide +kernel
theorem dX0_mostLoaded_13 : decode cX0_mostLoaded 13 = .ok (.invokevirtual 67, 3) := by decide +kernel
theorem dX0_mostLoaded_16 : decode cX0_mostLoaded 16 = .ok (.lconst 0, 1) := by decide +kernel
theorem dX0_mostLoaded_17 : decode cX0_mostLoaded 17 = .ok (.lcmp, 1) := by decide +kernel
theorem dX0_mostLoaded_18 : decode cX0_mostLoaded 18 = .ok (.ifCond .le 5, 3) := by decide +kernel
theorem dX0_mostLoaded_21 : decode cX0_mostLoaded 21 = .ok (.iload_n 2, 1) := by decide +kernel
theorem dX0_mostLoaded_22 : decode cX0_mostLoaded 22 = .ok (.istore_n 1, 1) := by decide +kernel
theorem dX0_mostLoaded_23 : decode cX0_mostLoaded 23 = .ok (.iinc 2 1, 3) := by decide +kernel
theorem dX0_mostLoaded_26 : decode cX0_mostLoaded 26 = .ok (.goto (-22), 3) := by decide +kernel
theorem dX0_mostLoaded_29 : decode cX0_mostLoaded 29 = .ok (.iload_n 1, 1) := by decide +kernel
theorem dX0_mostLoaded_30 : decode cX0_mostLoaded 30 = .ok (.ireturn, 1) := by decide +kernel
set_option maxRecDepth 20000 in
theorem ggX0_leastLoaded_X0_loadGap : GoodIn wsX0_leastLoaded wsX0_loadGap := goodIn_r _ [5, 6, 7, 8, 9, 10, 11, 12, 13, 14, 15, 16] (by decide +kernel) (by decide +kernel)
set_option maxRecDepth 20000 in
theorem gX0_leastLoaded_X0_loadGap : GoodIn wsX0_leastLoaded (wsV RX0 67 RX0 yX0_loadGap wsX0_loadGap) := goodIn_app (goodIn_of _ (by decide +kernel)) ggX0_leastLoaded_X0_loadGap
theorem dX0_leastLoaded_0 : decode cX0_leastLoaded 0 = .ok (.iconst 0, 1) := by decide +kernel
theorem dX0_leastLoaded_1 : decode cX0_leastLoaded 1 = .ok (.istore_n 1, 1) := by decide +kernel
theorem dX0_leastLoaded_2 : decode cX0_leastLoaded 2 = .ok (.iconst 1, 1) := by decide +kernel
theorem dX0_leastLoaded_3 : decode cX0_leastLoaded 3 = .ok (.istore_n 2, 1) := by decide +kernel
theorem dX0_leastLoaded_4 : decode cX0_leastLoaded 4 = .ok (.iload_n 2, 1) := by decide +kernel
theorem dX0_leastLoaded_5 : decode cX0_leastLoaded 5 = .ok (.bipush 8, 2) := by decide +kernel
theorem dX0_leastLoaded_7 : decode cX0_leastLoaded 7 = .ok (.if_icmp .ge 22, 3) := by decide +kernel
theorem dX0_leastLoaded_10 : decode cX0_leastLoaded 10 = .ok (.aload_n 0, 1) := by decide +kernel
theorem dX0_leastLoaded_11 : decode cX0_leastLoaded 11 = .ok (.iload_n 2, 1) := by decide +kernel
theorem dX0_leastLoaded_12 : decode cX0_leastLoaded 12 = .ok (.iload_n 1, 1) := by decide +kernel
theorem dX0_leastLoaded_13 : decode cX0_leastLoaded 13 = .ok (.invokevirtual 67, 3) := by decide +kernel
theorem dX0_leastLoaded_16 : decode cX0_leastLoaded 16 = .ok (.lconst 0, 1) := by decide +kernel
theorem dX0_leastLoaded_17 : decode cX0_leastLoaded 17 = .ok (.lcmp, 1) := by decide +kernel
theorem dX0_leastLoaded_18 : decode cX0_leastLoaded 18 = .ok (.ifCond .ge 5, 3) := by decide +kernel
theorem dX0_leastLoaded_21 : decode cX0_leastLoaded 21 = .ok (.iload_n 2, 1) := by decide +kernel
theorem dX0_leastLoaded_22 : decode cX0_leastLoaded 22 = .ok (.istore_n 1, 1) := by decide +kernel
theorem dX0_leastLoaded_23 : decode cX0_leastLoaded 23 = .ok (.iinc 2 1, 3) := by decide +kernel
theorem dX0_leastLoaded_26 : decode cX0_leastLoaded 26 = .ok (.goto (-22), 3) := by decide +kernel
theorem dX0_leastLoaded_29 : decode cX0_leastLoaded 29 = .ok (.iload_n 1, 1) := by decide +kernel
theorem dX0_leastLoaded_30 : decode cX0_leastLoaded 30 = .ok (.ireturn, 1) := by decide +kernel
set_option maxRecDepth 20000 in
theorem ggX0_isUnevenAtMost_X0_mostLoaded : GoodIn wsX0_isUnevenAtMost wsX0_mostLoaded := goodIn_r _ [6, 7, 8, 9, 5, 10, 11, 1, 16, 17, 18, 19, 20, 21, 22, 23, 24] (by decide +kernel) (by decide +kernel)
set_option maxRecDepth 20000 in
theorem gX0_isUnevenAtMost_X0_mostLoaded : GoodIn wsX0_isUnevenAtMost (wsV RX0 71 RX0 yX0_mostLoaded wsX0_mostLoaded) := goodIn_app (goodIn_of _ (by decide +kernel)) ggX0_isUnevenAtMost_X0_mostLoaded
set_option maxRecDepth 20000 in
theorem ggX0_isUnevenAtMost_X0_leastLoaded : GoodIn wsX0_isUnevenAtMost wsX0_leastLoaded := goodIn_r _ [15, 7, 8, 9, 5, 10, 11, 1, 16, 17, 18, 19, 20, 21, 22, 23, 24] (by decide +kernel) (by decide +kernel)
set_option maxRecDepth 20000 in
theorem gX0_isUnevenAtMost_X0_leastLoaded : GoodIn wsX0_isUnevenAtMost (wsV RX0 75 RX0 yX0_leastLoaded wsX0_leastLoaded) := goodIn_app (goodIn_of _ (by decide +kernel)) ggX0_isUnevenAtMost_X0_leastLoaded
set_option maxRecDepth 20000 in
theorem ggX0_isUnevenAtMost_X0_loadGap : GoodIn wsX0_isUnevenAtMost wsX0_loadGap := goodIn_r _ [10, 11, 1, 16, 17, 18, 19, 20, 21, 22, 23, 24] (by decide +kernel) (by decide +kernel)
set_option maxRecDepth 20000 in
theorem gX0_isUnevenAtMost_X0_loadGap : GoodIn wsX0_isUnevenAtMost (wsV RX0 67 RX0 yX0_loadGap wsX0_loadGap) := goodIn_app (goodIn_of _ (by decide +kernel)) ggX0_isUnevenAtMost_X0_loadGap
theorem dX0_isUnevenAtMost_0 : decode cX0_isUnevenAtMost 0 = .ok (.aload_n 0, 1) := by decide +kernel
theorem dX0_isUnevenAtMost_1 : decode cX0_isUnevenAtMost 1 = .ok (.invokevirtual 71, 3) := by decide +kernel
theorem dX0_isUnevenAtMost_4 : decode cX0_isUnevenAtMost 4 = .ok (.istore_n 2, 1) := by decide +kernel
theorem dX0_isUnevenAtMost_5 : decode cX0_isUnevenAtMost 5 = .ok (.aload_n 0, 1) := by decide +kernel
theorem dX0_isUnevenAtMost_6 : decode cX0_isUnevenAtMost 6 = .ok (.invokevirtual 75, 3) := by decide +kernel
theorem dX0_isUnevenAtMost_9 : decode cX0_isUnevenAtMost 9 = .ok (.istore_n 3, 1) := by decide +kernel
theorem dX0_isUnevenAtMost_10 : decode cX0_isUnevenAtMost 10 = .ok (.aload_n 0, 1) := by decide +kernel
theorem dX0_isUnevenAtMost_11 : decode cX0_isUnevenAtMost 11 = .ok (.iload_n 2, 1) := by decide +kernel
theorem dX0_isUnevenAtMost_12 : decode cX0_isUnevenAtMost 12 = .ok (.iload_n 3, 1) := by decide +kernel
theorem dX0_isUnevenAtMost_13 : decode cX0_isUnevenAtMost 13 = .ok (.invokevirtual 67, 3) := by decide +kernel
theorem dX0_isUnevenAtMost_16 : decode cX0_isUnevenAtMost 16 = .ok (.iload_n 1, 1) := by decide +kernel
theorem dX0_isUnevenAtMost_17 : decode cX0_isUnevenAtMost 17 = .ok (.i2l, 1) := by decide +kernel
theorem dX0_isUnevenAtMost_18 : decode cX0_isUnevenAtMost 18 = .ok (.aload_n 0, 1) := by decide +kernel
theorem dX0_isUnevenAtMost_19 : decode cX0_isUnevenAtMost 19 = .ok (.getfield 9, 3) := by decide +kernel
theorem dX0_isUnevenAtMost_22 : decode cX0_isUnevenAtMost 22 = .ok (.iload_n 2, 1) := by decide +kernel
theorem dX0_isUnevenAtMost_23 : decode cX0_isUnevenAtMost 23 = .ok (.iaload, 1) := by decide +kernel
theorem dX0_isUnevenAtMost_24 : decode cX0_isUnevenAtMost 24 = .ok (.i2l, 1) := by decide +kernel
theorem dX0_isUnevenAtMost_25 : decode cX0_isUnevenAtMost 25 = .ok (.lmul, 1) := by decide +kernel
theorem dX0_isUnevenAtMost_26 : decode cX0_isUnevenAtMost 26 = .ok (.aload_n 0, 1) := by decide +kernel
theorem dX0_isUnevenAtMost_27 : decode cX0_isUnevenAtMost 27 = .ok (.getfield 9, 3) := by decide +kernel
theorem dX0_isUnevenAtMost_30 : decode cX0_isUnevenAtMost 30 = .ok (.iload_n 3, 1) := by decide +kernel
theorem dX0_isUnevenAtMost_31 : decode cX0_isUnevenAtMost 31 = .ok (.iaload, 1) := by decide +kernel
theorem dX0_isUnevenAtMost_32 : decode cX0_isUnevenAtMost 32 = .ok (.i2l, 1) := by decide +kernel
theorem dX0_isUnevenAtMost_33 : decode cX0_isUnevenAtMost 33 = .ok (.lmul, 1) := by decide +kernel
theorem dX0_isUnevenAtMost_34 : decode cX0_isUnevenAtMost 34 = .ok (.lcmp, 1) := by decide +kernel
theorem dX0_isUnevenAtMost_35 : decode cX0_isUnevenAtMost 35 = .ok (.ifCond .gt 7, 3) := by decide +kernel
theorem dX0_isUnevenAtMost_38 : decode cX0_isUnevenAtMost 38 = .ok (.iconst 1, 1) := by decide +kernel
theorem dX0_isUnevenAtMost_39 : decode cX0_isUnevenAtMost 39 = .ok (.goto 4, 3) := by decide +kernel
theorem dX0_isUnevenAtMost_42 : decode cX0_isUnevenAtMost 42 = .ok (.iconst 0, 1) := by decide +kernel
theorem dX0_isUnevenAtMost_43 : decode cX0_isUnevenAtMost 43 = .ok (.ireturn, 1) := by decide +kernel
set_option maxRecDepth 20000 in
theorem ggX0_isAlike_X0_rotorLeftOver : GoodIn wsX0_isAlike wsX0_rotorLeftOver := goodIn_r _ [8, 9, 10, 11, 12, 7, 13, 14, 24, 25, 26, 27, 28, 29, 30, 31, 32] (by decide +kernel) (by decide +kernel)
set_option maxRecDepth 20000 in
theorem gX0_isAlike_X0_rotorLeftOver : GoodIn wsX0_isAlike (wsV RX0 78 RX0 yX0_rotorLeftOver wsX0_rotorLeftOver) := goodIn_app (goodIn_of _ (by decide +kernel)) ggX0_isAlike_X0_rotorLeftOver
set_option maxRecDepth 20000 in
theorem ggX0_isAlike_X0_colours : GoodIn wsX0_isAlike wsX0_colours := goodIn_r _ [18, 19, 20, 21, 22, 23, 24, 25, 26, 27, 28, 29, 30, 31, 32] (by decide +kernel) (by decide +kernel)
set_option maxRecDepth 20000 in
theorem gX0_isAlike_X0_colours : GoodIn wsX0_isAlike (wsV RX0 81 RX0 yX0_colours wsX0_colours) := goodIn_app (goodIn_of _ (by decide +kernel)) ggX0_isAlike_X0_colours
theorem dX0_isAlike_0 : decode cX0_isAlike 0 = .ok (.iconst 0, 1) := by decide +kernel
theorem dX0_isAlike_1 : decode cX0_isAlike 1 = .ok (.istore_n 2, 1) := by decide +kernel
theorem dX0_isAlike_2 : decode cX0_isAlike 2 = .ok (.iload_n 2, 1) := by decide +kernel
theorem dX0_isAlike_3 : decode cX0_isAlike 3 = .ok (.bipush 8, 2) := by decide +kernel
theorem dX0_isAlike_5 : decode cX0_isAlike 5 = .ok (.if_icmp .ge 39, 3) := by decide +kernel
theorem dX0_isAlike_8 : decode cX0_isAlike 8 = .ok (.aload_n 0, 1) := by decide +kernel
theorem dX0_isAlike_9 : decode cX0_isAlike 9 = .ok (.getfield 15, 3) := by decide +kernel
theorem dX0_isAlike_12 : decode cX0_isAlike 12 = .ok (.iload_n 2, 1) := by decide +kernel
theorem dX0_isAlike_13 : decode cX0_isAlike 13 = .ok (.iaload, 1) := by decide +kernel
theorem dX0_isAlike_14 : decode cX0_isAlike 14 = .ok (.aload_n 1, 1) := by decide +kernel
theorem dX0_isAlike_15 : decode cX0_isAlike 15 = .ok (.getfield 15, 3) := by decide +kernel
theorem dX0_isAlike_18 : decode cX0_isAlike 18 = .ok (.iload_n 2, 1) := by decide +kernel
theorem dX0_isAlike_19 : decode cX0_isAlike 19 = .ok (.iaload, 1) := by decide +kernel
theorem dX0_isAlike_20 : decode cX0_isAlike 20 = .ok (.if_icmp .ne 16, 3) := by decide +kernel
theorem dX0_isAlike_23 : decode cX0_isAlike 23 = .ok (.aload_n 0, 1) := by decide +kernel
theorem dX0_isAlike_24 : decode cX0_isAlike 24 = .ok (.iload_n 2, 1) := by decide +kernel
theorem dX0_isAlike_25 : decode cX0_isAlike 25 = .ok (.invokevirtual 78, 3) := by decide +kernel
theorem dX0_isAlike_28 : decode cX0_isAlike 28 = .ok (.aload_n 1, 1) := by decide +kernel
theorem dX0_isAlike_29 : decode cX0_isAlike 29 = .ok (.iload_n 2, 1) := by decide +kernel
theorem dX0_isAlike_30 : decode cX0_isAlike 30 = .ok (.invokevirtual 78, 3) := by decide +kernel
theorem dX0_isAlike_33 : decode cX0_isAlike 33 = .ok (.if_icmp .eq 5, 3) := by decide +kernel
theorem dX0_isAlike_36 : decode cX0_isAlike 36 = .ok (.iconst 0, 1) := by decide +kernel
theorem dX0_isAlike_37 : decode cX0_isAlike 37 = .ok (.ireturn, 1) := by decide +kernel
theorem dX0_isAlike_38 : decode cX0_isAlike 38 = .ok (.iinc 2 1, 3) := by decide +kernel
theorem dX0_isAlike_41 : decode cX0_isAlike 41 = .ok (.goto (-39), 3) := by decide +kernel
theorem dX0_isAlike_44 : decode cX0_isAlike 44 = .ok (.iconst 0, 1) := by decide +kernel
theorem dX0_isAlike_45 : decode cX0_isAlike 45 = .ok (.istore_n 2, 1) := by decide +kernel
theorem dX0_isAlike_46 : decode cX0_isAlike 46 = .ok (.iload_n 2, 1) := by decide +kernel
theorem dX0_isAlike_47 : decode cX0_isAlike 47 = .ok (.bipush 64, 2) := by decide +kernel
theorem dX0_isAlike_49 : decode cX0_isAlike 49 = .ok (.if_icmp .ge 26, 3) := by decide +kernel
theorem dX0_isAlike_52 : decode cX0_isAlike 52 = .ok (.aload_n 0, 1) := by decide +kernel
theorem dX0_isAlike_53 : decode cX0_isAlike 53 = .ok (.getfield 27, 3) := by decide +kernel
theorem dX0_isAlike_56 : decode cX0_isAlike 56 = .ok (.iload_n 2, 1) := by decide +kernel
theorem dX0_isAlike_57 : decode cX0_isAlike 57 = .ok (.iaload, 1) := by decide +kernel
theorem dX0_isAlike_58 : decode cX0_isAlike 58 = .ok (.aload_n 1, 1) := by decide +kernel
theorem dX0_isAlike_59 : decode cX0_isAlike 59 = .ok (.getfield 27, 3) := by decide +kernel
theorem dX0_isAlike_62 : decode cX0_isAlike 62 = .ok (.iload_n 2, 1) := by decide +kernel
theorem dX0_isAlike_63 : decode cX0_isAlike 63 = .ok (.iaload, 1) := by decide +kernel
theorem dX0_isAlike_64 : decode cX0_isAlike 64 = .ok (.if_icmp .eq 5, 3) := by decide +kernel
theorem dX0_isAlike_67 : decode cX0_isAlike 67 = .ok (.iconst 0, 1) := by decide +kernel
theorem dX0_isAlike_68 : decode cX0_isAlike 68 = .ok (.ireturn, 1) := by decide +kernel
theorem dX0_isAlike_69 : decode cX0_isAlike 69 = .ok (.iinc 2 1, 3) := by decide +kernel
theorem dX0_isAlike_72 : decode cX0_isAlike 72 = .ok (.goto (-26), 3) := by decide +kernel
theorem dX0_isAlike_75 : decode cX0_isAlike 75 = .ok (.aload_n 0, 1) := by decide +kernel
theorem dX0_isAlike_76 : decode cX0_isAlike 76 = .ok (.getfield 37, 3) := by decide +kernel
theorem dX0_isAlike_79 : decode cX0_isAlike 79 = .ok (.aload_n 0, 1) := by decide +kernel
theorem dX0_isAlike_80 : decode cX0_isAlike 80 = .ok (.invokevirtual 81, 3) := by decide +kernel
theorem dX0_isAlike_83 : decode cX0_isAlike 83 = .ok (.irem, 1) := by decide +kernel
theorem dX0_isAlike_84 : decode cX0_isAlike 84 = .ok (.aload_n 1, 1) := by decide +kernel
theorem dX0_isAlike_85 : decode cX0_isAlike 85 = .ok (.getfield 37, 3) := by decide +kernel
theorem dX0_isAlike_88 : decode cX0_isAlike 88 = .ok (.aload_n 1, 1) := by decide +kernel
theorem dX0_isAlike_89 : decode cX0_isAlike 89 = .ok (.invokevirtual 81, 3) := by decide +kernel
theorem dX0_isAlike_92 : decode cX0_isAlike 92 = .ok (.irem, 1) := by decide +kernel
theorem dX0_isAlike_93 : decode cX0_isAlike 93 = .ok (.if_icmp .ne 7, 3) := by decide +kernel
theorem dX0_isAlike_96 : decode cX0_isAlike 96 = .ok (.iconst 1, 1) := by decide +kernel
theorem dX0_isAlike_97 : decode cX0_isAlike 97 = .ok (.goto 4, 3) := by decide +kernel
theorem dX0_isAlike_100 : decode cX0_isAlike 100 = .ok (.iconst 0, 1) := by decide +kernel
theorem dX0_isAlike_101 : decode cX0_isAlike 101 = .ok (.ireturn, 1) := by decide +kernel
set_option maxRecDepth 20000 in
theorem ggX0_goOn_X0_flow : GoodIn wsX0_goOn wsX0_flow := goodIn_r _ [6, 7, 8, 9, 5, 10, 11, 12, 13, 14, 15, 16, 17, 18, 19, 20, 21, 22, 23, 24, 25, 26, 27, 28, 29, 30, 31, 32, 33, 34, 35, 36, 37, 38, 39, 40, 41, 42, 72, 73, 74, 75, 76, 77, 78, 79, 80] (by decide +kernel) (by decide +kernel)
set_option maxRecDepth 20000 in
theorem gX0_goOn_X0_flow : GoodIn wsX0_goOn (wsV RX0 84 RX0 yX0_flow wsX0_flow) := goodIn_app (goodIn_of _ (by decide +kernel)) ggX0_goOn_X0_flow
set_option maxRecDepth 20000 in
theorem ggX0_goOn_X0_exchange : GoodIn wsX0_goOn wsX0_exchange := goodIn_r _ [46, 1, 24, 47, 48, 49, 5, 50, 11, 12, 13, 14, 20, 21, 22, 23, 25, 26, 27, 51, 52, 53, 54, 33, 34, 36, 37, 38, 55, 56, 57, 58, 72, 73, 74, 75, 76, 77, 78, 79, 80] (by decide +kernel) (by decide +kernel)
set_option maxRecDepth 20000 in
theorem gX0_goOn_X0_exchange : GoodIn wsX0_goOn (wsV RX0 87 RX0 yX0_exchange wsX0_exchange) := goodIn_app (goodIn_of _ (by decide +kernel)) ggX0_goOn_X0_exchange
set_option maxRecDepth 20000 in
theorem ggX0_goOn_X0_deal : GoodIn wsX0_goOn wsX0_deal := goodIn_r _ [62, 33, 63, 64, 65, 5, 66, 35, 67, 15, 16, 17, 18, 19, 68, 69, 70, 71, 20, 21, 22, 23, 24, 25, 26, 27, 39, 40, 41, 42, 72, 73, 74, 75, 76, 77, 78, 79, 80] (by decide +kernel) (by decide +kernel)
set_option maxRecDepth 20000 in
theorem gX0_goOn_X0_deal : GoodIn wsX0_goOn (wsV RX0 90 RX0 yX0_deal wsX0_deal) := goodIn_app (goodIn_of _ (by decide +kernel)) ggX0_goOn_X0_deal
theorem dX0_goOn_0 : decode cX0_goOn 0 = .ok (.iconst 0, 1) := by decide +kernel
theorem dX0_goOn_1 : decode cX0_goOn 1 = .ok (.istore_n 3, 1) := by decide +kernel
theorem dX0_goOn_2 : decode cX0_goOn 2 = .ok (.iconst 0, 1) := by decide +kernel
theorem dX0_goOn_3 : decode cX0_goOn 3 = .ok (.istore 4, 2) := by decide +kernel
theorem dX0_goOn_5 : decode cX0_goOn 5 = .ok (.iload 4, 2) := by decide +kernel
theorem dX0_goOn_7 : decode cX0_goOn 7 = .ok (.iload_n 2, 1) := by decide +kernel
theorem dX0_goOn_8 : decode cX0_goOn 8 = .ok (.if_icmp .ge 49, 3) := by decide +kernel
theorem dX0_goOn_11 : decode cX0_goOn 11 = .ok (.iload_n 3, 1) := by decide +kernel
theorem dX0_goOn_12 : decode cX0_goOn 12 = .ok (.iload_n 1, 1) := by decide +kernel
theorem dX0_goOn_13 : decode cX0_goOn 13 = .ok (.ifCond .ne 10, 3) := by decide +kernel
theorem dX0_goOn_16 : decode cX0_goOn 16 = .ok (.aload_n 0, 1) := by decide +kernel
theorem dX0_goOn_17 : decode cX0_goOn 17 = .ok (.invokevirtual 84, 3) := by decide +kernel
theorem dX0_goOn_20 : decode cX0_goOn 20 = .ok (.goto 19, 3) := by decide +kernel
theorem dX0_goOn_23 : decode cX0_goOn 23 = .ok (.iload_n 1, 1) := by decide +kernel
theorem dX0_goOn_24 : decode cX0_goOn 24 = .ok (.iconst 1, 1) := by decide +kernel
theorem dX0_goOn_25 : decode cX0_goOn 25 = .ok (.if_icmp .ne 10, 3) := by decide +kernel
theorem dX0_goOn_28 : decode cX0_goOn 28 = .ok (.aload_n 0, 1) := by decide +kernel
theorem dX0_goOn_29 : decode cX0_goOn 29 = .ok (.invokevirtual 87, 3) := by decide +kernel
theorem dX0_goOn_32 : decode cX0_goOn 32 = .ok (.goto 7, 3) := by decide +kernel
theorem dX0_goOn_35 : decode cX0_goOn 35 = .ok (.aload_n 0, 1) := by decide +kernel
theorem dX0_goOn_36 : decode cX0_goOn 36 = .ok (.invokevirtual 90, 3) := by decide +kernel
theorem dX0_goOn_39 : decode cX0_goOn 39 = .ok (.iadd, 1) := by decide +kernel
theorem dX0_goOn_40 : decode cX0_goOn 40 = .ok (.istore_n 3, 1) := by decide +kernel
theorem dX0_goOn_41 : decode cX0_goOn 41 = .ok (.aload_n 0, 1) := by decide +kernel
theorem dX0_goOn_42 : decode cX0_goOn 42 = .ok (.dup, 1) := by decide +kernel
theorem dX0_goOn_43 : decode cX0_goOn 43 = .ok (.getfield 37, 3) := by decide +kernel
theorem dX0_goOn_46 : decode cX0_goOn 46 = .ok (.iconst 1, 1) := by decide +kernel
theorem dX0_goOn_47 : decode cX0_goOn 47 = .ok (.iadd, 1) := by decide +kernel
theorem dX0_goOn_48 : decode cX0_goOn 48 = .ok (.putfield 37, 3) := by decide +kernel
theorem dX0_goOn_51 : decode cX0_goOn 51 = .ok (.iinc 4 1, 3) := by decide +kernel
theorem dX0_goOn_54 : decode cX0_goOn 54 = .ok (.goto (-49), 3) := by decide +kernel
theorem dX0_goOn_57 : decode cX0_goOn 57 = .ok (.iload_n 3, 1) := by decide +kernel
theorem dX0_goOn_58 : decode cX0_goOn 58 = .ok (.ireturn, 1) := by decide +kernel
set_option maxRecDepth 20000 in
theorem ggX0_flow_X0_measure : GoodIn wsX0_flow wsX0_measure := goodIn_r _ [5, 6, 7, 8, 9, 10, 11, 12, 4, 13, 14, 38, 39, 40, 41, 42, 43, 44, 45, 46] (by decide +kernel) (by decide +kernel)
set_option maxRecDepth 20000 in
theorem gX0_flow_X0_measure : GoodIn wsX0_flow (wsV RX0 93 RX0 yX0_measure wsX0_measure) := goodIn_app (goodIn_of _ (by decide +kernel)) ggX0_flow_X0_measure
set_option maxRecDepth 20000 in
theorem ggX0_flow_X0_joins : GoodIn wsX0_flow wsX0_joins := goodIn_r _ [18, 19, 20, 21, 22, 38, 39, 40, 41, 42, 43, 44, 45, 46] (by decide +kernel) (by decide +kernel)
set_option maxRecDepth 20000 in
theorem gX0_flow_X0_joins : GoodIn wsX0_flow (wsV RX0 54 RX0 yX0_joins wsX0_joins) := goodIn_app (goodIn_of _ (by decide +kernel)) ggX0_flow_X0_joins
set_option maxRecDepth 20000 in
theorem ggX0_flow_X0_flowAlong : GoodIn wsX0_flow wsX0_flowAlong := goodIn_r _ [26, 27, 28, 29, 30, 31, 32, 8, 33, 20, 21, 22, 38, 39, 40, 41, 42, 43, 44, 45, 46] (by decide +kernel) (by decide +kernel)
set_option maxRecDepth 20000 in
theorem gX0_flow_X0_flowAlong : GoodIn wsX0_flow (wsV RX0 96 RX0 yX0_flowAlong wsX0_flowAlong) := goodIn_app (goodIn_of _ (by decide +kernel)) ggX0_flow_X0_flowAlong
set_option maxRecDepth 20000 in
theorem ggX0_flow_X0_settle : GoodIn wsX0_flow wsX0_settle := goodIn_r _ [37, 28, 30, 38, 39, 40, 41, 42, 43, 44, 45, 46] (by decide +kernel) (by decide +kernel)
set_option maxRecDepth 20000 in
theorem gX0_flow_X0_settle : GoodIn wsX0_flow (wsV RX0 100 RX0 yX0_settle wsX0_settle) := goodIn_app (goodIn_of _ (by decide +kernel)) ggX0_flow_X0_settle
theorem dX0_flow_0 : decode cX0_flow 0 = .ok (.aload_n 0, 1) := by decide +kernel
theorem dX0_flow_1 : decode cX0_flow 1 = .ok (.invokevirtual 93, 3) := by decide +kernel
theorem dX0_flow_4 : decode cX0_flow 4 = .ok (.istore_n 1, 1) := by decide +kernel
theorem dX0_flow_5 : decode cX0_flow 5 = .ok (.iconst 0, 1) := by decide +kernel
theorem dX0_flow_6 : decode cX0_flow 6 = .ok (.istore_n 2, 1) := by decide +kernel
theorem dX0_flow_7 : decode cX0_flow 7 = .ok (.iconst 0, 1) := by decide +kernel
theorem dX0_flow_8 : decode cX0_flow 8 = .ok (.istore_n 3, 1) := by decide +kernel
theorem dX0_flow_9 : decode cX0_flow 9 = .ok (.iload_n 3, 1) := by decide +kernel
theorem dX0_flow_10 : decode cX0_flow 10 = .ok (.bipush 8, 2) := by decide +kernel
theorem dX0_flow_12 : decode cX0_flow 12 = .ok (.if_icmp .ge 48, 3) := by decide +kernel
theorem dX0_flow_15 : decode cX0_flow 15 = .ok (.iload_n 3, 1) := by decide +kernel
theorem dX0_flow_16 : decode cX0_flow 16 = .ok (.iconst 1, 1) := by decide +kernel
theorem dX0_flow_17 : decode cX0_flow 17 = .ok (.iadd, 1) := by decide +kernel
theorem dX0_flow_18 : decode cX0_flow 18 = .ok (.istore 4, 2) := by decide +kernel
theorem dX0_flow_20 : decode cX0_flow 20 = .ok (.iload 4, 2) := by decide +kernel
theorem dX0_flow_22 : decode cX0_flow 22 = .ok (.bipush 8, 2) := by decide +kernel
theorem dX0_flow_24 : decode cX0_flow 24 = .ok (.if_icmp .ge 30, 3) := by decide +kernel
theorem dX0_flow_27 : decode cX0_flow 27 = .ok (.aload_n 0, 1) := by decide +kernel
theorem dX0_flow_28 : decode cX0_flow 28 = .ok (.iload_n 3, 1) := by decide +kernel
theorem dX0_flow_29 : decode cX0_flow 29 = .ok (.iload 4, 2) := by decide +kernel
theorem dX0_flow_31 : decode cX0_flow 31 = .ok (.invokevirtual 54, 3) := by decide +kernel
theorem dX0_flow_34 : decode cX0_flow 34 = .ok (.ifCond .eq 14, 3) := by decide +kernel
theorem dX0_flow_37 : decode cX0_flow 37 = .ok (.iload_n 2, 1) := by decide +kernel
theorem dX0_flow_38 : decode cX0_flow 38 = .ok (.aload_n 0, 1) := by decide +kernel
theorem dX0_flow_39 : decode cX0_flow 39 = .ok (.iload_n 3, 1) := by decide +kernel
theorem dX0_flow_40 : decode cX0_flow 40 = .ok (.iload 4, 2) := by decide +kernel
theorem dX0_flow_42 : decode cX0_flow 42 = .ok (.iload_n 1, 1) := by decide +kernel
theorem dX0_flow_43 : decode cX0_flow 43 = .ok (.invokevirtual 96, 3) := by decide +kernel
theorem dX0_flow_46 : decode cX0_flow 46 = .ok (.iadd, 1) := by decide +kernel
theorem dX0_flow_47 : decode cX0_flow 47 = .ok (.istore_n 2, 1) := by decide +kernel
theorem dX0_flow_48 : decode cX0_flow 48 = .ok (.iinc 4 1, 3) := by decide +kernel
theorem dX0_flow_51 : decode cX0_flow 51 = .ok (.goto (-31), 3) := by decide +kernel
theorem dX0_flow_54 : decode cX0_flow 54 = .ok (.iinc 3 1, 3) := by decide +kernel
theorem dX0_flow_57 : decode cX0_flow 57 = .ok (.goto (-48), 3) := by decide +kernel
theorem dX0_flow_60 : decode cX0_flow 60 = .ok (.aload_n 0, 1) := by decide +kernel
theorem dX0_flow_61 : decode cX0_flow 61 = .ok (.invokevirtual 100, 3) := by decide +kernel
theorem dX0_flow_64 : decode cX0_flow 64 = .ok (.iload_n 2, 1) := by decide +kernel
theorem dX0_flow_65 : decode cX0_flow 65 = .ok (.ireturn, 1) := by decide +kernel
set_option maxRecDepth 20000 in
theorem ggX0_flowAlong_X2_spot : GoodIn wsX0_flowAlong wsX2_spot := goodIn_r _ [11] (by decide +kernel) (by decide +kernel)
set_option maxRecDepth 20000 in
theorem gX0_flowAlong_X2_spot_n46 : GoodIn wsX0_flowAlong (wsX2_spot) := ggX0_flowAlong_X2_spot
theorem dX0_flowAlong_0 : decode cX0_flowAlong 0 = .ok (.iload_n 1, 1) := by decide +kernel
theorem dX0_flowAlong_1 : decode cX0_flowAlong 1 = .ok (.iload_n 2, 1) := by decide +kernel
theorem dX0_flowAlong_2 : decode cX0_flowAlong 2 = .ok (.invokestatic 46, 3) := by decide +kernel
theorem dX0_flowAlong_5 : decode cX0_flowAlong 5 = .ok (.istore 4, 2) := by decide +kernel
theorem dX0_flowAlong_7 : decode cX0_flowAlong 7 = .ok (.aload_n 0, 1) := by decide +kernel
theorem dX0_flowAlong_8 : decode cX0_flowAlong 8 = .ok (.getfield 27, 3) := by decide +kernel
theorem dX0_flowAlong_11 : decode cX0_flowAlong 11 = .ok (.iload 4, 2) := by decide +kernel
theorem dX0_flowAlong_13 : decode cX0_flowAlong 13 = .ok (.iaload, 1) := by decide +kernel
theorem dX0_flowAlong_14 : decode cX0_flowAlong 14 = .ok (.aload_n 0, 1) := by decide +kernel
theorem dX0_flowAlong_15 : decode cX0_flowAlong 15 = .ok (.getfield 15, 3) := by decide +kernel
theorem dX0_flowAlong_18 : decode cX0_flowAlong 18 = .ok (.iload_n 1, 1) := by decide +kernel
theorem dX0_flowAlong_19 : decode cX0_flowAlong 19 = .ok (.iaload, 1) := by decide +kernel
theorem dX0_flowAlong_20 : decode cX0_flowAlong 20 = .ok (.aload_n 0, 1) := by decide +kernel
theorem dX0_flowAlong_21 : decode cX0_flowAlong 21 = .ok (.getfield 9, 3) := by decide +kernel
theorem dX0_flowAlong_24 : decode cX0_flowAlong 24 = .ok (.iload_n 2, 1) := by decide +kernel
theorem dX0_flowAlong_25 : decode cX0_flowAlong 25 = .ok (.iaload, 1) := by decide +kernel
theorem dX0_flowAlong_26 : decode cX0_flowAlong 26 = .ok (.imul, 1) := by decide +kernel
theorem dX0_flowAlong_27 : decode cX0_flowAlong 27 = .ok (.iadd, 1) := by decide +kernel
theorem dX0_flowAlong_28 : decode cX0_flowAlong 28 = .ok (.aload_n 0, 1) := by decide +kernel
theorem dX0_flowAlong_29 : decode cX0_flowAlong 29 = .ok (.getfield 15, 3) := by decide +kernel
theorem dX0_flowAlong_32 : decode cX0_flowAlong 32 = .ok (.iload_n 2, 1) := by decide +kernel
theorem dX0_flowAlong_33 : decode cX0_flowAlong 33 = .ok (.iaload, 1) := by decide +kernel
theorem dX0_flowAlong_34 : decode cX0_flowAlong 34 = .ok (.aload_n 0, 1) := by decide +kernel
theorem dX0_flowAlong_35 : decode cX0_flowAlong 35 = .ok (.getfield 9, 3) := by decide +kernel
theorem dX0_flowAlong_38 : decode cX0_flowAlong 38 = .ok (.iload_n 1, 1) := by decide +kernel
theorem dX0_flowAlong_39 : decode cX0_flowAlong 39 = .ok (.iaload, 1) := by decide +kernel
theorem dX0_flowAlong_40 : decode cX0_flowAlong 40 = .ok (.imul, 1) := by decide +kernel
theorem dX0_flowAlong_41 : decode cX0_flowAlong 41 = .ok (.isub, 1) := by decide +kernel
theorem dX0_flowAlong_42 : decode cX0_flowAlong 42 = .ok (.istore 5, 2) := by decide +kernel
theorem dX0_flowAlong_44 : decode cX0_flowAlong 44 = .ok (.iload_n 3, 1) := by decide +kernel
theorem dX0_flowAlong_45 : decode cX0_flowAlong 45 = .ok (.ifCond .le 10, 3) := by decide +kernel
theorem dX0_flowAlong_48 : decode cX0_flowAlong 48 = .ok (.iload 5, 2) := by decide +kernel
theorem dX0_flowAlong_50 : decode cX0_flowAlong 50 = .ok (.iload_n 3, 1) := by decide +kernel
theorem dX0_flowAlong_51 : decode cX0_flowAlong 51 = .ok (.idiv, 1) := by decide +kernel
theorem dX0_flowAlong_52 : decode cX0_flowAlong 52 = .ok (.goto 4, 3) := by decide +kernel
theorem dX0_flowAlong_55 : decode cX0_flowAlong 55 = .ok (.iconst 0, 1) := by decide +kernel
theorem dX0_flowAlong_56 : decode cX0_flowAlong 56 = .ok (.istore 6, 2) := by decide +kernel
theorem dX0_flowAlong_58 : decode cX0_flowAlong 58 = .ok (.aload_n 0, 1) := by decide +kernel
theorem dX0_flowAlong_59 : decode cX0_flowAlong 59 = .ok (.getfield 27, 3) := by decide +kernel
theorem dX0_flowAlong_62 : decode cX0_flowAlong 62 = .ok (.iload 4, 2) := by decide +kernel
theorem dX0_flowAlong_64 : decode cX0_flowAlong 64 = .ok (.iload 5, 2) := by decide +kernel
theorem dX0_flowAlong_66 : decode cX0_flowAlong 66 = .ok (.iload_n 3, 1) := by decide +kernel
theorem dX0_flowAlong_67 : decode cX0_flowAlong 67 = .ok (.iload 6, 2) := by decide +kernel
theorem dX0_flowAlong_69 : decode cX0_flowAlong 69 = .ok (.imul, 1) := by decide +kernel
theorem dX0_flowAlong_70 : decode cX0_flowAlong 70 = .ok (.isub, 1) := by decide +kernel
theorem dX0_flowAlong_71 : decode cX0_flowAlong 71 = .ok (.iastore, 1) := by decide +kernel
theorem dX0_flowAlong_72 : decode cX0_flowAlong 72 = .ok (.aload_n 0, 1) := by decide +kernel
theorem dX0_flowAlong_73 : decode cX0_flowAlong 73 = .ok (.getfield 30, 3) := by decide +kernel
theorem dX0_flowAlong_76 : decode cX0_flowAlong 76 = .ok (.iload_n 1, 1) := by decide +kernel
theorem dX0_flowAlong_77 : decode cX0_flowAlong 77 = .ok (.dup2, 1) := by decide +kernel
theorem dX0_flowAlong_78 : decode cX0_flowAlong 78 = .ok (.iaload, 1) := by decide +kernel
theorem dX0_flowAlong_79 : decode cX0_flowAlong 79 = .ok (.iload 6, 2) := by decide +kernel
theorem dX0_flowAlong_81 : decode cX0_flowAlong 81 = .ok (.isub, 1) := by decide +kernel
theorem dX0_flowAlong_82 : decode cX0_flowAlong 82 = .ok (.iastore, 1) := by decide +kernel
theorem dX0_flowAlong_83 : decode cX0_flowAlong 83 = .ok (.aload_n 0, 1) := by decide +kernel
theorem dX0_flowAlong_84 : decode cX0_flowAlong 84 = .ok (.getfield 30, 3) := by decide +kernel
theorem dX0_flowAlong_87 : decode cX0_flowAlong 87 = .ok (.iload_n 2, 1) := by decide +kernel
theorem dX0_flowAlong_88 : decode cX0_flowAlong 88 = .ok (.dup2, 1) := by decide +kernel
theorem dX0_flowAlong_89 : decode cX0_flowAlong 89 = .ok (.iaload, 1) := by decide +kernel
theorem dX0_flowAlong_90 : decode cX0_flowAlong 90 = .ok (.iload 6, 2) := by decide +kernel
theorem dX0_flowAlong_92 : decode cX0_flowAlong 92 = .ok (.iadd, 1) := by decide +kernel
theorem dX0_flowAlong_93 : decode cX0_flowAlong 93 = .ok (.iastore, 1) := by decide +kernel
theorem dX0_flowAlong_94 : decode cX0_flowAlong 94 = .ok (.iload 6, 2) := by decide +kernel
theorem dX0_flowAlong_96 : decode cX0_flowAlong 96 = .ok (.invokestatic 103, 3) := by decide +kernel
theorem dX0_flowAlong_99 : decode cX0_flowAlong 99 = .ok (.ireturn, 1) := by decide +kernel
set_option maxRecDepth 20000 in
theorem ggX0_exchange_X0_colours : GoodIn wsX0_exchange wsX0_colours := goodIn_r _ [7, 2, 8, 9, 10, 11, 32, 33, 34, 35, 36, 37, 38, 39, 40] (by decide +kernel) (by decide +kernel)
set_option maxRecDepth 20000 in
theorem gX0_exchange_X0_colours : GoodIn wsX0_exchange (wsV RX0 81 RX0 yX0_colours wsX0_colours) := goodIn_app (goodIn_of _ (by decide +kernel)) ggX0_exchange_X0_colours
set_option maxRecDepth 20000 in
theorem ggX0_exchange_X0_joins : GoodIn wsX0_exchange wsX0_joins := goodIn_r _ [15, 2, 16, 17, 18, 32, 33, 34, 35, 36, 37, 38, 39, 40] (by decide +kernel) (by decide +kernel)
set_option maxRecDepth 20000 in
theorem gX0_exchange_X0_joins : GoodIn wsX0_exchange (wsV RX0 54 RX0 yX0_joins wsX0_joins) := goodIn_app (goodIn_of _ (by decide +kernel)) ggX0_exchange_X0_joins
set_option maxRecDepth 20000 in
theorem ggX0_exchange_X2_spot : GoodIn wsX0_exchange wsX2_spot := goodIn_r _ [18] (by decide +kernel) (by decide +kernel)
set_option maxRecDepth 20000 in
theorem gX0_exchange_X2_spot_n46 : GoodIn wsX0_exchange (wsX2_spot) := ggX0_exchange_X2_spot
set_option maxRecDepth 20000 in
theorem ggX0_exchange_X0_exchangeAlong : GoodIn wsX0_exchange wsX0_exchangeAlong := goodIn_r _ [22, 23, 24, 8, 9, 10, 11, 25, 26, 27, 28, 29, 30, 31, 32, 33, 34, 35, 36, 37, 38, 39, 40] (by decide +kernel) (by decide +kernel)
set_option maxRecDepth 20000 in
theorem gX0_exchange_X0_exchangeAlong : GoodIn wsX0_exchange (wsV RX0 106 RX0 yX0_exchangeAlong wsX0_exchangeAlong) := goodIn_app (goodIn_of _ (by decide +kernel)) ggX0_exchange_X0_exchangeAlong
theorem dX0_exchange_0 : decode cX0_exchange 0 = .ok (.aload_n 0, 1) := by decide +kernel
theorem dX0_exchange_1 : decode cX0_exchange 1 = .ok (.getfield 37, 3) := by decide +kernel
theorem dX0_exchange_4 : decode cX0_exchange 4 = .ok (.aload_n 0, 1) := by decide +kernel
theorem dX0_exchange_5 : decode cX0_exchange 5 = .ok (.invokevirtual 81, 3) := by decide +kernel
theorem dX0_exchange_8 : decode cX0_exchange 8 = .ok (.irem, 1) := by decide +kernel
theorem dX0_exchange_9 : decode cX0_exchange 9 = .ok (.istore_n 1, 1) := by decide +kernel
theorem dX0_exchange_10 : decode cX0_exchange 10 = .ok (.iconst 0, 1) := by decide +kernel
theorem dX0_exchange_11 : decode cX0_exchange 11 = .ok (.istore_n 2, 1) := by decide +kernel
theorem dX0_exchange_12 : decode cX0_exchange 12 = .ok (.iconst 0, 1) := by decide +kernel
theorem dX0_exchange_13 : decode cX0_exchange 13 = .ok (.istore_n 3, 1) := by decide +kernel
theorem dX0_exchange_14 : decode cX0_exchange 14 = .ok (.iload_n 3, 1) := by decide +kernel
theorem dX0_exchange_15 : decode cX0_exchange 15 = .ok (.bipush 8, 2) := by decide +kernel
theorem dX0_exchange_17 : decode cX0_exchange 17 = .ok (.if_icmp .ge 62, 3) := by decide +kernel
theorem dX0_exchange_20 : decode cX0_exchange 20 = .ok (.iload_n 3, 1) := by decide +kernel
theorem dX0_exchange_21 : decode cX0_exchange 21 = .ok (.iconst 1, 1) := by decide +kernel
theorem dX0_exchange_22 : decode cX0_exchange 22 = .ok (.iadd, 1) := by decide +kernel
theorem dX0_exchange_23 : decode cX0_exchange 23 = .ok (.istore 4, 2) := by decide +kernel
theorem dX0_exchange_25 : decode cX0_exchange 25 = .ok (.iload 4, 2) := by decide +kernel
theorem dX0_exchange_27 : decode cX0_exchange 27 = .ok (.bipush 8, 2) := by decide +kernel
theorem dX0_exchange_29 : decode cX0_exchange 29 = .ok (.if_icmp .ge 44, 3) := by decide +kernel
theorem dX0_exchange_32 : decode cX0_exchange 32 = .ok (.aload_n 0, 1) := by decide +kernel
theorem dX0_exchange_33 : decode cX0_exchange 33 = .ok (.iload_n 3, 1) := by decide +kernel
theorem dX0_exchange_34 : decode cX0_exchange 34 = .ok (.iload 4, 2) := by decide +kernel
theorem dX0_exchange_36 : decode cX0_exchange 36 = .ok (.invokevirtual 54, 3) := by decide +kernel
theorem dX0_exchange_39 : decode cX0_exchange 39 = .ok (.ifCond .eq 28, 3) := by decide +kernel
theorem dX0_exchange_42 : decode cX0_exchange 42 = .ok (.aload_n 0, 1) := by decide +kernel
theorem dX0_exchange_43 : decode cX0_exchange 43 = .ok (.getfield 24, 3) := by decide +kernel
theorem dX0_exchange_46 : decode cX0_exchange 46 = .ok (.iload_n 3, 1) := by decide +kernel
theorem dX0_exchange_47 : decode cX0_exchange 47 = .ok (.iload 4, 2) := by decide +kernel
theorem dX0_exchange_49 : decode cX0_exchange 49 = .ok (.invokestatic 46, 3) := by decide +kernel
theorem dX0_exchange_52 : decode cX0_exchange 52 = .ok (.iaload, 1) := by decide +kernel
theorem dX0_exchange_53 : decode cX0_exchange 53 = .ok (.iload_n 1, 1) := by decide +kernel
theorem dX0_exchange_54 : decode cX0_exchange 54 = .ok (.if_icmp .ne 13, 3) := by decide +kernel
theorem dX0_exchange_57 : decode cX0_exchange 57 = .ok (.iload_n 2, 1) := by decide +kernel
theorem dX0_exchange_58 : decode cX0_exchange 58 = .ok (.aload_n 0, 1) := by decide +kernel
theorem dX0_exchange_59 : decode cX0_exchange 59 = .ok (.iload_n 3, 1) := by decide +kernel
theorem dX0_exchange_60 : decode cX0_exchange 60 = .ok (.iload 4, 2) := by decide +kernel
theorem dX0_exchange_62 : decode cX0_exchange 62 = .ok (.invokevirtual 106, 3) := by decide +kernel
theorem dX0_exchange_65 : decode cX0_exchange 65 = .ok (.iadd, 1) := by decide +kernel
theorem dX0_exchange_66 : decode cX0_exchange 66 = .ok (.istore_n 2, 1) := by decide +kernel
theorem dX0_exchange_67 : decode cX0_exchange 67 = .ok (.iinc 4 1, 3) := by decide +kernel
theorem dX0_exchange_70 : decode cX0_exchange 70 = .ok (.goto (-45), 3) := by decide +kernel
theorem dX0_exchange_73 : decode cX0_exchange 73 = .ok (.iinc 3 1, 3) := by decide +kernel
theorem dX0_exchange_76 : decode cX0_exchange 76 = .ok (.goto (-62), 3) := by decide +kernel
theorem dX0_exchange_79 : decode cX0_exchange 79 = .ok (.iload_n 2, 1) := by decide +kernel
theorem dX0_exchange_80 : decode cX0_exchange 80 = .ok (.ireturn, 1) := by decide +kernel
set_option maxRecDepth 20000 in
theorem ggX0_exchangeAlong_J9_floorDiv_7cf53 : GoodIn wsX0_exchangeAlong wsJ9_floorDiv_7cf53 := goodIn_r _ [13] (by decide +kernel) (by decide +kernel)
set_option maxRecDepth 20000 in
theorem gX0_exchangeAlong_J9_floorDiv_7cf53 : GoodIn wsX0_exchangeAlong (va_wsS RX0 109 yJ9_floorDiv_7cf53 wsJ9_floorDiv_7cf53) := goodIn_app (goodIn_of _ (by decide +kernel)) ggX0_exchangeAlong_J9_floorDiv_7cf53
theorem dX0_exchangeAlong_0 : decode cX0_exchangeAlong 0 = .ok (.aload_n 0, 1) := by decide +kernel
theorem dX0_exchangeAlong_1 : decode cX0_exchangeAlong 1 = .ok (.getfield 15, 3) := by decide +kernel
theorem dX0_exchangeAlong_4 : decode cX0_exchangeAlong 4 = .ok (.iload_n 1, 1) := by decide +kernel
theorem dX0_exchangeAlong_5 : decode cX0_exchangeAlong 5 = .ok (.iaload, 1) := by decide +kernel
theorem dX0_exchangeAlong_6 : decode cX0_exchangeAlong 6 = .ok (.aload_n 0, 1) := by decide +kernel
theorem dX0_exchangeAlong_7 : decode cX0_exchangeAlong 7 = .ok (.getfield 15, 3) := by decide +kernel
theorem dX0_exchangeAlong_10 : decode cX0_exchangeAlong 10 = .ok (.iload_n 2, 1) := by decide +kernel
theorem dX0_exchangeAlong_11 : decode cX0_exchangeAlong 11 = .ok (.iaload, 1) := by decide +kernel
theorem dX0_exchangeAlong_12 : decode cX0_exchangeAlong 12 = .ok (.iadd, 1) := by decide +kernel
theorem dX0_exchangeAlong_13 : decode cX0_exchangeAlong 13 = .ok (.istore_n 3, 1) := by decide +kernel
theorem dX0_exchangeAlong_14 : decode cX0_exchangeAlong 14 = .ok (.aload_n 0, 1) := by decide +kernel
theorem dX0_exchangeAlong_15 : decode cX0_exchangeAlong 15 = .ok (.getfield 9, 3) := by decide +kernel
theorem dX0_exchangeAlong_18 : decode cX0_exchangeAlong 18 = .ok (.iload_n 1, 1) := by decide +kernel
theorem dX0_exchangeAlong_19 : decode cX0_exchangeAlong 19 = .ok (.iaload, 1) := by decide +kernel
theorem dX0_exchangeAlong_20 : decode cX0_exchangeAlong 20 = .ok (.aload_n 0, 1) := by decide +kernel
theorem dX0_exchangeAlong_21 : decode cX0_exchangeAlong 21 = .ok (.getfield 9, 3) := by decide +kernel
theorem dX0_exchangeAlong_24 : decode cX0_exchangeAlong 24 = .ok (.iload_n 2, 1) := by decide +kernel
theorem dX0_exchangeAlong_25 : decode cX0_exchangeAlong 25 = .ok (.iaload, 1) := by decide +kernel
theorem dX0_exchangeAlong_26 : decode cX0_exchangeAlong 26 = .ok (.iadd, 1) := by decide +kernel
theorem dX0_exchangeAlong_27 : decode cX0_exchangeAlong 27 = .ok (.iconst 1, 1) := by decide +kernel
theorem dX0_exchangeAlong_28 : decode cX0_exchangeAlong 28 = .ok (.invokestatic 62, 3) := by decide +kernel
theorem dX0_exchangeAlong_31 : decode cX0_exchangeAlong 31 = .ok (.istore 4, 2) := by decide +kernel
theorem dX0_exchangeAlong_33 : decode cX0_exchangeAlong 33 = .ok (.iload_n 3, 1) := by decide +kernel
theorem dX0_exchangeAlong_34 : decode cX0_exchangeAlong 34 = .ok (.aload_n 0, 1) := by decide +kernel
theorem dX0_exchangeAlong_35 : decode cX0_exchangeAlong 35 = .ok (.getfield 9, 3) := by decide +kernel
theorem dX0_exchangeAlong_38 : decode cX0_exchangeAlong 38 = .ok (.iload_n 1, 1) := by decide +kernel
theorem dX0_exchangeAlong_39 : decode cX0_exchangeAlong 39 = .ok (.iaload, 1) := by decide +kernel
theorem dX0_exchangeAlong_40 : decode cX0_exchangeAlong 40 = .ok (.imul, 1) := by decide +kernel
theorem dX0_exchangeAlong_41 : decode cX0_exchangeAlong 41 = .ok (.iload 4, 2) := by decide +kernel
theorem dX0_exchangeAlong_43 : decode cX0_exchangeAlong 43 = .ok (.invokestatic 109, 3) := by decide +kernel
theorem dX0_exchangeAlong_46 : decode cX0_exchangeAlong 46 = .ok (.istore 5, 2) := by decide +kernel
theorem dX0_exchangeAlong_48 : decode cX0_exchangeAlong 48 = .ok (.iload_n 3, 1) := by decide +kernel
theorem dX0_exchangeAlong_49 : decode cX0_exchangeAlong 49 = .ok (.aload_n 0, 1) := by decide +kernel
theorem dX0_exchangeAlong_50 : decode cX0_exchangeAlong 50 = .ok (.getfield 9, 3) := by decide +kernel
theorem dX0_exchangeAlong_53 : decode cX0_exchangeAlong 53 = .ok (.iload_n 2, 1) := by decide +kernel
theorem dX0_exchangeAlong_54 : decode cX0_exchangeAlong 54 = .ok (.iaload, 1) := by decide +kernel
theorem dX0_exchangeAlong_55 : decode cX0_exchangeAlong 55 = .ok (.imul, 1) := by decide +kernel
theorem dX0_exchangeAlong_56 : decode cX0_exchangeAlong 56 = .ok (.iload 4, 2) := by decide +kernel
theorem dX0_exchangeAlong_58 : decode cX0_exchangeAlong 58 = .ok (.invokestatic 109, 3) := by decide +kernel
theorem dX0_exchangeAlong_61 : decode cX0_exchangeAlong 61 = .ok (.istore 6, 2) := by decide +kernel
theorem dX0_exchangeAlong_63 : decode cX0_exchangeAlong 63 = .ok (.aload_n 0, 1) := by decide +kernel
theorem dX0_exchangeAlong_64 : decode cX0_exchangeAlong 64 = .ok (.getfield 15, 3) := by decide +kernel
theorem dX0_exchangeAlong_67 : decode cX0_exchangeAlong 67 = .ok (.iload_n 1, 1) := by decide +kernel
theorem dX0_exchangeAlong_68 : decode cX0_exchangeAlong 68 = .ok (.iaload, 1) := by decide +kernel
theorem dX0_exchangeAlong_69 : decode cX0_exchangeAlong 69 = .ok (.aload_n 0, 1) := by decide +kernel
theorem dX0_exchangeAlong_70 : decode cX0_exchangeAlong 70 = .ok (.getfield 15, 3) := by decide +kernel
theorem dX0_exchangeAlong_73 : decode cX0_exchangeAlong 73 = .ok (.iload_n 2, 1) := by decide +kernel
theorem dX0_exchangeAlong_74 : decode cX0_exchangeAlong 74 = .ok (.iaload, 1) := by decide +kernel
theorem dX0_exchangeAlong_75 : decode cX0_exchangeAlong 75 = .ok (.if_icmp .lt 9, 3) := by decide +kernel
theorem dX0_exchangeAlong_78 : decode cX0_exchangeAlong 78 = .ok (.iload_n 3, 1) := by decide +kernel
theorem dX0_exchangeAlong_79 : decode cX0_exchangeAlong 79 = .ok (.iload 6, 2) := by decide +kernel
theorem dX0_exchangeAlong_81 : decode cX0_exchangeAlong 81 = .ok (.isub, 1) := by decide +kernel
theorem dX0_exchangeAlong_82 : decode cX0_exchangeAlong 82 = .ok (.istore 5, 2) := by decide +kernel
theorem dX0_exchangeAlong_84 : decode cX0_exchangeAlong 84 = .ok (.iload 5, 2) := by decide +kernel
theorem dX0_exchangeAlong_86 : decode cX0_exchangeAlong 86 = .ok (.aload_n 0, 1) := by decide +kernel
theorem dX0_exchangeAlong_87 : decode cX0_exchangeAlong 87 = .ok (.getfield 15, 3) := by decide +kernel
theorem dX0_exchangeAlong_90 : decode cX0_exchangeAlong 90 = .ok (.iload_n 1, 1) := by decide +kernel
theorem dX0_exchangeAlong_91 : decode cX0_exchangeAlong 91 = .ok (.iaload, 1) := by decide +kernel
theorem dX0_exchangeAlong_92 : decode cX0_exchangeAlong 92 = .ok (.isub, 1) := by decide +kernel
theorem dX0_exchangeAlong_93 : decode cX0_exchangeAlong 93 = .ok (.invokestatic 103, 3) := by decide +kernel
theorem dX0_exchangeAlong_96 : decode cX0_exchangeAlong 96 = .ok (.istore 7, 2) := by decide +kernel
theorem dX0_exchangeAlong_98 : decode cX0_exchangeAlong 98 = .ok (.aload_n 0, 1) := by decide +kernel
theorem dX0_exchangeAlong_99 : decode cX0_exchangeAlong 99 = .ok (.getfield 15, 3) := by decide +kernel
theorem dX0_exchangeAlong_102 : decode cX0_exchangeAlong 102 = .ok (.iload_n 1, 1) := by decide +kernel
theorem dX0_exchangeAlong_103 : decode cX0_exchangeAlong 103 = .ok (.iload 5, 2) := by decide +kernel
theorem dX0_exchangeAlong_105 : decode cX0_exchangeAlong 105 = .ok (.iastore, 1) := by decide +kernel
theorem dX0_exchangeAlong_106 : decode cX0_exchangeAlong 106 = .ok (.aload_n 0, 1) := by decide +kernel
theorem dX0_exchangeAlong_107 : decode cX0_exchangeAlong 107 = .ok (.getfield 15, 3) := by decide +kernel
theorem dX0_exchangeAlong_110 : decode cX0_exchangeAlong 110 = .ok (.iload_n 2, 1) := by decide +kernel
theorem dX0_exchangeAlong_111 : decode cX0_exchangeAlong 111 = .ok (.iload_n 3, 1) := by decide +kernel
theorem dX0_exchangeAlong_112 : decode cX0_exchangeAlong 112 = .ok (.iload 5, 2) := by decide +kernel
theorem dX0_exchangeAlong_114 : decode cX0_exchangeAlong 114 = .ok (.isub, 1) := by decide +kernel
theorem dX0_exchangeAlong_115 : decode cX0_exchangeAlong 115 = .ok (.iastore, 1) := by decide +kernel
theorem dX0_exchangeAlong_116 : decode cX0_exchangeAlong 116 = .ok (.iload 7, 2) := by decide +kernel
theorem dX0_exchangeAlong_118 : decode cX0_exchangeAlong 118 = .ok (.ireturn, 1) := by decide +kernel
set_option maxRecDepth 20000 in
theorem ggX0_deal_X0_dealFrom : GoodIn wsX0_deal wsX0_dealFrom := goodIn_r _ [6, 1, 7, 8, 9, 10, 11, 5, 12, 13, 14, 15, 16, 17, 18, 19, 20, 21, 22, 23, 24, 25, 30, 31, 32, 33, 34, 35, 36, 37, 38] (by decide +kernel) (by decide +kernel)
set_option maxRecDepth 20000 in
theorem gX0_deal_X0_dealFrom : GoodIn wsX0_deal (wsV RX0 112 RX0 yX0_dealFrom wsX0_dealFrom) := goodIn_app (goodIn_of _ (by decide +kernel)) ggX0_deal_X0_dealFrom
set_option maxRecDepth 20000 in
theorem ggX0_deal_X0_settle : GoodIn wsX0_deal wsX0_settle := goodIn_r _ [29, 1, 7, 30, 31, 32, 33, 34, 35, 36, 37, 38] (by decide +kernel) (by decide +kernel)
set_option maxRecDepth 20000 in
theorem gX0_deal_X0_settle : GoodIn wsX0_deal (wsV RX0 100 RX0 yX0_settle wsX0_settle) := goodIn_app (goodIn_of _ (by decide +kernel)) ggX0_deal_X0_settle
theorem dX0_deal_0 : decode cX0_deal 0 = .ok (.iconst 0, 1) := by decide +kernel
theorem dX0_deal_1 : decode cX0_deal 1 = .ok (.istore_n 1, 1) := by decide +kernel
theorem dX0_deal_2 : decode cX0_deal 2 = .ok (.iconst 0, 1) := by decide +kernel
theorem dX0_deal_3 : decode cX0_deal 3 = .ok (.istore_n 2, 1) := by decide +kernel
theorem dX0_deal_4 : decode cX0_deal 4 = .ok (.iload_n 2, 1) := by decide +kernel
theorem dX0_deal_5 : decode cX0_deal 5 = .ok (.bipush 8, 2) := by decide +kernel
theorem dX0_deal_7 : decode cX0_deal 7 = .ok (.if_icmp .ge 26, 3) := by decide +kernel
theorem dX0_deal_10 : decode cX0_deal 10 = .ok (.aload_n 0, 1) := by decide +kernel
theorem dX0_deal_11 : decode cX0_deal 11 = .ok (.getfield 15, 3) := by decide +kernel
theorem dX0_deal_14 : decode cX0_deal 14 = .ok (.iload_n 2, 1) := by decide +kernel
theorem dX0_deal_15 : decode cX0_deal 15 = .ok (.iaload, 1) := by decide +kernel
theorem dX0_deal_16 : decode cX0_deal 16 = .ok (.ifCond .le 11, 3) := by decide +kernel
theorem dX0_deal_19 : decode cX0_deal 19 = .ok (.iload_n 1, 1) := by decide +kernel
theorem dX0_deal_20 : decode cX0_deal 20 = .ok (.aload_n 0, 1) := by decide +kernel
theorem dX0_deal_21 : decode cX0_deal 21 = .ok (.iload_n 2, 1) := by decide +kernel
theorem dX0_deal_22 : decode cX0_deal 22 = .ok (.invokevirtual 112, 3) := by decide +kernel
theorem dX0_deal_25 : decode cX0_deal 25 = .ok (.iadd, 1) := by decide +kernel
theorem dX0_deal_26 : decode cX0_deal 26 = .ok (.istore_n 1, 1) := by decide +kernel
theorem dX0_deal_27 : decode cX0_deal 27 = .ok (.iinc 2 1, 3) := by decide +kernel
theorem dX0_deal_30 : decode cX0_deal 30 = .ok (.goto (-26), 3) := by decide +kernel
theorem dX0_deal_33 : decode cX0_deal 33 = .ok (.aload_n 0, 1) := by decide +kernel
theorem dX0_deal_34 : decode cX0_deal 34 = .ok (.invokevirtual 100, 3) := by decide +kernel
theorem dX0_deal_37 : decode cX0_deal 37 = .ok (.iload_n 1, 1) := by decide +kernel
theorem dX0_deal_38 : decode cX0_deal 38 = .ok (.ireturn, 1) := by decide +kernel
set_option maxRecDepth 20000 in
theorem ggX0_dealFrom_X0_slots : GoodIn wsX0_dealFrom wsX0_slots := goodIn_r _ [8, 9, 22, 23, 24, 25, 26, 27, 28, 29, 30] (by decide +kernel) (by decide +kernel)
set_option maxRecDepth 20000 in
theorem gX0_dealFrom_X0_slots : GoodIn wsX0_dealFrom (wsV RX0 58 RX0 yX0_slots wsX0_slots) := goodIn_app (goodIn_of _ (by decide +kernel)) ggX0_dealFrom_X0_slots
set_option maxRecDepth 20000 in
theorem ggX0_dealFrom_X0_rotorLeftOver : GoodIn wsX0_dealFrom wsX0_rotorLeftOver := goodIn_r _ [13, 3, 4, 5, 6, 7, 8, 9, 22, 23, 24, 25, 26, 27, 28, 29, 30] (by decide +kernel) (by decide +kernel)
set_option maxRecDepth 20000 in
theorem gX0_dealFrom_X0_rotorLeftOver : GoodIn wsX0_dealFrom (wsV RX0 78 RX0 yX0_rotorLeftOver wsX0_rotorLeftOver) := goodIn_app (goodIn_of _ (by decide +kernel)) ggX0_dealFrom_X0_rotorLeftOver
set_option maxRecDepth 20000 in
theorem ggX0_dealFrom_X0_joins : GoodIn wsX0_dealFrom wsX0_joins := goodIn_r _ [17, 18, 19, 20, 21, 22, 23, 24, 25, 26, 27, 28, 29, 30] (by decide +kernel) (by decide +kernel)
set_option maxRecDepth 20000 in
theorem gX0_dealFrom_X0_joins : GoodIn wsX0_dealFrom (wsV RX0 54 RX0 yX0_joins wsX0_joins) := goodIn_app (goodIn_of _ (by decide +kernel)) ggX0_dealFrom_X0_joins
theorem dX0_dealFrom_0 : decode cX0_dealFrom 0 = .ok (.aload_n 0, 1) := by decide +kernel
theorem dX0_dealFrom_1 : decode cX0_dealFrom 1 = .ok (.iload_n 1, 1) := by decide +kernel
theorem dX0_dealFrom_2 : decode cX0_dealFrom 2 = .ok (.invokevirtual 58, 3) := by decide +kernel
theorem dX0_dealFrom_5 : decode cX0_dealFrom 5 = .ok (.istore_n 2, 1) := by decide +kernel
theorem dX0_dealFrom_6 : decode cX0_dealFrom 6 = .ok (.aload_n 0, 1) := by decide +kernel
theorem dX0_dealFrom_7 : decode cX0_dealFrom 7 = .ok (.getfield 15, 3) := by decide +kernel
theorem dX0_dealFrom_10 : decode cX0_dealFrom 10 = .ok (.iload_n 1, 1) := by decide +kernel
theorem dX0_dealFrom_11 : decode cX0_dealFrom 11 = .ok (.iaload, 1) := by decide +kernel
theorem dX0_dealFrom_12 : decode cX0_dealFrom 12 = .ok (.iload_n 2, 1) := by decide +kernel
theorem dX0_dealFrom_13 : decode cX0_dealFrom 13 = .ok (.idiv, 1) := by decide +kernel
theorem dX0_dealFrom_14 : decode cX0_dealFrom 14 = .ok (.istore_n 3, 1) := by decide +kernel
theorem dX0_dealFrom_15 : decode cX0_dealFrom 15 = .ok (.aload_n 0, 1) := by decide +kernel
theorem dX0_dealFrom_16 : decode cX0_dealFrom 16 = .ok (.getfield 15, 3) := by decide +kernel
theorem dX0_dealFrom_19 : decode cX0_dealFrom 19 = .ok (.iload_n 1, 1) := by decide +kernel
theorem dX0_dealFrom_20 : decode cX0_dealFrom 20 = .ok (.iaload, 1) := by decide +kernel
theorem dX0_dealFrom_21 : decode cX0_dealFrom 21 = .ok (.iload_n 2, 1) := by decide +kernel
theorem dX0_dealFrom_22 : decode cX0_dealFrom 22 = .ok (.irem, 1) := by decide +kernel
theorem dX0_dealFrom_23 : decode cX0_dealFrom 23 = .ok (.istore 4, 2) := by decide +kernel
theorem dX0_dealFrom_25 : decode cX0_dealFrom 25 = .ok (.aload_n 0, 1) := by decide +kernel
theorem dX0_dealFrom_26 : decode cX0_dealFrom 26 = .ok (.iload_n 1, 1) := by decide +kernel
theorem dX0_dealFrom_27 : decode cX0_dealFrom 27 = .ok (.invokevirtual 78, 3) := by decide +kernel
theorem dX0_dealFrom_30 : decode cX0_dealFrom 30 = .ok (.istore 5, 2) := by decide +kernel
theorem dX0_dealFrom_32 : decode cX0_dealFrom 32 = .ok (.iconst 0, 1) := by decide +kernel
theorem dX0_dealFrom_33 : decode cX0_dealFrom 33 = .ok (.istore 6, 2) := by decide +kernel
theorem dX0_dealFrom_35 : decode cX0_dealFrom 35 = .ok (.iconst 0, 1) := by decide +kernel
theorem dX0_dealFrom_36 : decode cX0_dealFrom 36 = .ok (.istore 7, 2) := by decide +kernel
theorem dX0_dealFrom_38 : decode cX0_dealFrom 38 = .ok (.iconst 0, 1) := by decide +kernel
theorem dX0_dealFrom_39 : decode cX0_dealFrom 39 = .ok (.istore 8, 2) := by decide +kernel
theorem dX0_dealFrom_41 : decode cX0_dealFrom 41 = .ok (.iload 8, 2) := by decide +kernel
theorem dX0_dealFrom_43 : decode cX0_dealFrom 43 = .ok (.bipush 8, 2) := by decide +kernel
theorem dX0_dealFrom_45 : decode cX0_dealFrom 45 = .ok (.if_icmp .ge 68, 3) := by decide +kernel
theorem dX0_dealFrom_48 : decode cX0_dealFrom 48 = .ok (.aload_n 0, 1) := by decide +kernel
theorem dX0_dealFrom_49 : decode cX0_dealFrom 49 = .ok (.iload_n 1, 1) := by decide +kernel
theorem dX0_dealFrom_50 : decode cX0_dealFrom 50 = .ok (.iload 8, 2) := by decide +kernel
theorem dX0_dealFrom_52 : decode cX0_dealFrom 52 = .ok (.invokevirtual 54, 3) := by decide +kernel
theorem dX0_dealFrom_55 : decode cX0_dealFrom 55 = .ok (.ifCond .eq 52, 3) := by decide +kernel
theorem dX0_dealFrom_58 : decode cX0_dealFrom 58 = .ok (.iload 6, 2) := by decide +kernel
theorem dX0_dealFrom_60 : decode cX0_dealFrom 60 = .ok (.iload 5, 2) := by decide +kernel
theorem dX0_dealFrom_62 : decode cX0_dealFrom 62 = .ok (.isub, 1) := by decide +kernel
theorem dX0_dealFrom_63 : decode cX0_dealFrom 63 = .ok (.iload_n 2, 1) := by decide +kernel
theorem dX0_dealFrom_64 : decode cX0_dealFrom 64 = .ok (.iadd, 1) := by decide +kernel
theorem dX0_dealFrom_65 : decode cX0_dealFrom 65 = .ok (.iload_n 2, 1) := by decide +kernel
theorem dX0_dealFrom_66 : decode cX0_dealFrom 66 = .ok (.irem, 1) := by decide +kernel
theorem dX0_dealFrom_67 : decode cX0_dealFrom 67 = .ok (.istore 9, 2) := by decide +kernel
theorem dX0_dealFrom_69 : decode cX0_dealFrom 69 = .ok (.iload 9, 2) := by decide +kernel
theorem dX0_dealFrom_71 : decode cX0_dealFrom 71 = .ok (.iload 4, 2) := by decide +kernel
theorem dX0_dealFrom_73 : decode cX0_dealFrom 73 = .ok (.if_icmp .ge 9, 3) := by decide +kernel
theorem dX0_dealFrom_76 : decode cX0_dealFrom 76 = .ok (.iload_n 3, 1) := by decide +kernel
theorem dX0_dealFrom_77 : decode cX0_dealFrom 77 = .ok (.iconst 1, 1) := by decide +kernel
theorem dX0_dealFrom_78 : decode cX0_dealFrom 78 = .ok (.iadd, 1) := by decide +kernel
theorem dX0_dealFrom_79 : decode cX0_dealFrom 79 = .ok (.goto 4, 3) := by decide +kernel
theorem dX0_dealFrom_82 : decode cX0_dealFrom 82 = .ok (.iload_n 3, 1) := by decide +kernel
theorem dX0_dealFrom_83 : decode cX0_dealFrom 83 = .ok (.istore 10, 2) := by decide +kernel
theorem dX0_dealFrom_85 : decode cX0_dealFrom 85 = .ok (.aload_n 0, 1) := by decide +kernel
theorem dX0_dealFrom_86 : decode cX0_dealFrom 86 = .ok (.getfield 30, 3) := by decide +kernel
theorem dX0_dealFrom_89 : decode cX0_dealFrom 89 = .ok (.iload 8, 2) := by decide +kernel
theorem dX0_dealFrom_91 : decode cX0_dealFrom 91 = .ok (.dup2, 1) := by decide +kernel
theorem dX0_dealFrom_92 : decode cX0_dealFrom 92 = .ok (.iaload, 1) := by decide +kernel
theorem dX0_dealFrom_93 : decode cX0_dealFrom 93 = .ok (.iload 10, 2) := by decide +kernel
theorem dX0_dealFrom_95 : decode cX0_dealFrom 95 = .ok (.iadd, 1) := by decide +kernel
theorem dX0_dealFrom_96 : decode cX0_dealFrom 96 = .ok (.iastore, 1) := by decide +kernel
theorem dX0_dealFrom_97 : decode cX0_dealFrom 97 = .ok (.iload 7, 2) := by decide +kernel
theorem dX0_dealFrom_99 : decode cX0_dealFrom 99 = .ok (.iload 10, 2) := by decide +kernel
theorem dX0_dealFrom_101 : decode cX0_dealFrom 101 = .ok (.iadd, 1) := by decide +kernel
theorem dX0_dealFrom_102 : decode cX0_dealFrom 102 = .ok (.istore 7, 2) := by decide +kernel
theorem dX0_dealFrom_104 : decode cX0_dealFrom 104 = .ok (.iinc 6 1, 3) := by decide +kernel
theorem dX0_dealFrom_107 : decode cX0_dealFrom 107 = .ok (.iinc 8 1, 3) := by decide +kernel
theorem dX0_dealFrom_110 : decode cX0_dealFrom 110 = .ok (.goto (-69), 3) := by decide +kernel
theorem dX0_dealFrom_113 : decode cX0_dealFrom 113 = .ok (.aload_n 0, 1) := by decide +kernel
theorem dX0_dealFrom_114 : decode cX0_dealFrom 114 = .ok (.getfield 30, 3) := by decide +kernel
theorem dX0_dealFrom_117 : decode cX0_dealFrom 117 = .ok (.iload_n 1, 1) := by decide +kernel
theorem dX0_dealFrom_118 : decode cX0_dealFrom 118 = .ok (.dup2, 1) := by decide +kernel
theorem dX0_dealFrom_119 : decode cX0_dealFrom 119 = .ok (.iaload, 1) := by decide +kernel
theorem dX0_dealFrom_120 : decode cX0_dealFrom 120 = .ok (.iload 7, 2) := by decide +kernel
theorem dX0_dealFrom_122 : decode cX0_dealFrom 122 = .ok (.isub, 1) := by decide +kernel
theorem dX0_dealFrom_123 : decode cX0_dealFrom 123 = .ok (.iastore, 1) := by decide +kernel
theorem dX0_dealFrom_124 : decode cX0_dealFrom 124 = .ok (.aload_n 0, 1) := by decide +kernel
theorem dX0_dealFrom_125 : decode cX0_dealFrom 125 = .ok (.getfield 18, 3) := by decide +kernel
theorem dX0_dealFrom_128 : decode cX0_dealFrom 128 = .ok (.iload_n 1, 1) := by decide +kernel
theorem dX0_dealFrom_129 : decode cX0_dealFrom 129 = .ok (.iload 5, 2) := by decide +kernel
theorem dX0_dealFrom_131 : decode cX0_dealFrom 131 = .ok (.iload 4, 2) := by decide +kernel
theorem dX0_dealFrom_133 : decode cX0_dealFrom 133 = .ok (.iadd, 1) := by decide +kernel
theorem dX0_dealFrom_134 : decode cX0_dealFrom 134 = .ok (.iload_n 2, 1) := by decide +kernel
theorem dX0_dealFrom_135 : decode cX0_dealFrom 135 = .ok (.irem, 1) := by decide +kernel
theorem dX0_dealFrom_136 : decode cX0_dealFrom 136 = .ok (.iastore, 1) := by decide +kernel
theorem dX0_dealFrom_137 : decode cX0_dealFrom 137 = .ok (.iload 7, 2) := by decide +kernel
theorem dX0_dealFrom_139 : decode cX0_dealFrom 139 = .ok (.ireturn, 1) := by decide +kernel
theorem dX0_settle_0 : decode cX0_settle 0 = .ok (.iconst 0, 1) := by decide +kernel
theorem dX0_settle_1 : decode cX0_settle 1 = .ok (.istore_n 1, 1) := by decide +kernel
theorem dX0_settle_2 : decode cX0_settle 2 = .ok (.iload_n 1, 1) := by decide +kernel
theorem dX0_settle_3 : decode cX0_settle 3 = .ok (.bipush 8, 2) := by decide +kernel
theorem dX0_settle_5 : decode cX0_settle 5 = .ok (.if_icmp .ge 31, 3) := by decide +kernel
theorem dX0_settle_8 : decode cX0_settle 8 = .ok (.aload_n 0, 1) := by decide +kernel
theorem dX0_settle_9 : decode cX0_settle 9 = .ok (.getfield 15, 3) := by decide +kernel
theorem dX0_settle_12 : decode cX0_settle 12 = .ok (.iload_n 1, 1) := by decide +kernel
theorem dX0_settle_13 : decode cX0_settle 13 = .ok (.dup2, 1) := by decide +kernel
theorem dX0_settle_14 : decode cX0_settle 14 = .ok (.iaload, 1) := by decide +kernel
theorem dX0_settle_15 : decode cX0_settle 15 = .ok (.aload_n 0, 1) := by decide +kernel
theorem dX0_settle_16 : decode cX0_settle 16 = .ok (.getfield 30, 3) := by decide +kernel
theorem dX0_settle_19 : decode cX0_settle 19 = .ok (.iload_n 1, 1) := by decide +kernel
theorem dX0_settle_20 : decode cX0_settle 20 = .ok (.iaload, 1) := by decide +kernel
theorem dX0_settle_21 : decode cX0_settle 21 = .ok (.iadd, 1) := by decide +kernel
theorem dX0_settle_22 : decode cX0_settle 22 = .ok (.iastore, 1) := by decide +kernel
theorem dX0_settle_23 : decode cX0_settle 23 = .ok (.aload_n 0, 1) := by decide +kernel
theorem dX0_settle_24 : decode cX0_settle 24 = .ok (.getfield 30, 3) := by decide +kernel
theorem dX0_settle_27 : decode cX0_settle 27 = .ok (.iload_n 1, 1) := by decide +kernel
theorem dX0_settle_28 : decode cX0_settle 28 = .ok (.iconst 0, 1) := by decide +kernel
theorem dX0_settle_29 : decode cX0_settle 29 = .ok (.iastore, 1) := by decide +kernel
theorem dX0_settle_30 : decode cX0_settle 30 = .ok (.iinc 1 1, 3) := by decide +kernel
theorem dX0_settle_33 : decode cX0_settle 33 = .ok (.goto (-31), 3) := by decide +kernel
theorem dX0_settle_36 : decode cX0_settle 36 = .ok (.return_, 1) := by decide +kernel
end
section
theorem dX1_init_0 : decode cX1_init 0 = .ok (.aload_n 0, 1) := by decide +kernel
theorem dX1_init_1 : decode cX1_init 1 = .ok (.invokespecial 3, 3) := by decide +kernel
theorem dX1_init_4 : decode cX1_init 4 = .ok (.aload_n 0, 1) := by decide +kernel
theorem dX1_init_5 : decode cX1_init 5 = .ok (.bipush 40, 2) := by decide +kernel
theorem dX1_init_7 : decode cX1_init 7 = .ok (.newarray .int, 2) := by decide +kernel
theorem dX1_init_9 : decode cX1_init 9 = .ok (.putfield 9, 3) := by decide +kernel
theorem dX1_init_12 : decode cX1_init 12 = .ok (.aload_n 0, 1) := by decide +kernel
theorem dX1_init_13 : decode cX1_init 13 = .ok (.iconst 0, 1) := by decide +kernel
theorem dX1_init_14 : decode cX1_init 14 = .ok (.putfield 15, 3) := by decide +kernel
theorem dX1_init_17 : decode cX1_init 17 = .ok (.return_, 1) := by decide +kernel
theorem dX1_add_0 : decode cX1_add 0 = .ok (.aload_n 0, 1) := by decide +kernel
theorem dX1_add_1 : decode cX1_add 1 = .ok (.getfield 15, 3) := by decide +kernel
theorem dX1_add_4 : decode cX1_add 4 = .ok (.bipush 40, 2) := by decide +kernel
theorem dX1_add_6 : decode cX1_add 6 = .ok (.if_icmp .ge 23, 3) := by decide +kernel
theorem dX1_add_9 : decode cX1_add 9 = .ok (.aload_n 0, 1) := by decide +kernel
theorem dX1_add_10 : decode cX1_add 10 = .ok (.getfield 9, 3) := by decide +kernel
theorem dX1_add_13 : decode cX1_add 13 = .ok (.aload_n 0, 1) := by decide +kernel
theorem dX1_add_14 : decode cX1_add 14 = .ok (.getfield 15, 3) := by decide +kernel
theorem dX1_add_17 : decode cX1_add 17 = .ok (.iload_n 1, 1) := by decide +kernel
theorem dX1_add_18 : decode cX1_add 18 = .ok (.iastore, 1) := by decide +kernel
theorem dX1_add_19 : decode cX1_add 19 = .ok (.aload_n 0, 1) := by decide +kernel
theorem dX1_add_20 : decode cX1_add 20 = .ok (.dup, 1) := by decide +kernel
theorem dX1_add_21 : decode cX1_add 21 = .ok (.getfield 15, 3) := by decide +kernel
theorem dX1_add_24 : decode cX1_add 24 = .ok (.iconst 1, 1) := by decide +kernel
theorem dX1_add_25 : decode cX1_add 25 = .ok (.iadd, 1) := by decide +kernel
theorem dX1_add_26 : decode cX1_add 26 = .ok (.putfield 15, 3) := by decide +kernel
theorem dX1_add_29 : decode cX1_add 29 = .ok (.return_, 1) := by decide +kernel
theorem dX1_nodeAt_0 : decode cX1_nodeAt 0 = .ok (.aload_n 0, 1) := by decide +kernel
theorem dX1_nodeAt_1 : decode cX1_nodeAt 1 = .ok (.getfield 9, 3) := by decide +kernel
theorem dX1_nodeAt_4 : decode cX1_nodeAt 4 = .ok (.iload_n 1, 1) := by decide +kernel
theorem dX1_nodeAt_5 : decode cX1_nodeAt 5 = .ok (.iaload, 1) := by decide +kernel
theorem dX1_nodeAt_6 : decode cX1_nodeAt 6 = .ok (.bipush 97, 2) := by decide +kernel
theorem dX1_nodeAt_8 : decode cX1_nodeAt 8 = .ok (.isub, 1) := by decide +kernel
theorem dX1_nodeAt_9 : decode cX1_nodeAt 9 = .ok (.ireturn, 1) := by decide +kernel
theorem dX1_colourAt_0 : decode cX1_colourAt 0 = .ok (.aload_n 0, 1) := by decide +kernel
theorem dX1_colourAt_1 : decode cX1_colourAt 1 = .ok (.getfield 9, 3) := by decide +kernel
theorem dX1_colourAt_4 : decode cX1_colourAt 4 = .ok (.iload_n 1, 1) := by decide +kernel
theorem dX1_colourAt_5 : decode cX1_colourAt 5 = .ok (.iaload, 1) := by decide +kernel
theorem dX1_colourAt_6 : decode cX1_colourAt 6 = .ok (.bipush 48, 2) := by decide +kernel
theorem dX1_colourAt_8 : decode cX1_colourAt 8 = .ok (.isub, 1) := by decide +kernel
theorem dX1_colourAt_9 : decode cX1_colourAt 9 = .ok (.ireturn, 1) := by decide +kernel
set_option maxRecDepth 20000 in
theorem ggX1_firstFault_X1_canStand : GoodIn wsX1_firstFault wsX1_canStand := goodIn_r _ [6, 7, 8, 9, 10, 5, 11, 12, 13, 14, 15, 16, 17, 18, 19, 20, 21, 22, 23, 24, 25, 26, 27, 28, 29] (by decide +kernel) (by decide +kernel)
set_option maxRecDepth 20000 in
theorem gX1_firstFault_X1_canStand : GoodIn wsX1_firstFault (wsV RX1 19 RX1 yX1_canStand wsX1_canStand) := goodIn_app (goodIn_of _ (by decide +kernel)) ggX1_firstFault_X1_canStand
theorem dX1_firstFault_0 : decode cX1_firstFault 0 = .ok (.iconst 0, 1) := by decide +kernel
theorem dX1_firstFault_1 : decode cX1_firstFault 1 = .ok (.istore_n 1, 1) := by decide +kernel
theorem dX1_firstFault_2 : decode cX1_firstFault 2 = .ok (.iload_n 1, 1) := by decide +kernel
theorem dX1_firstFault_3 : decode cX1_firstFault 3 = .ok (.aload_n 0, 1) := by decide +kernel
theorem dX1_firstFault_4 : decode cX1_firstFault 4 = .ok (.getfield 15, 3) := by decide +kernel
theorem dX1_firstFault_7 : decode cX1_firstFault 7 = .ok (.if_icmp .ge 19, 3) := by decide +kernel
theorem dX1_firstFault_10 : decode cX1_firstFault 10 = .ok (.aload_n 0, 1) := by decide +kernel
theorem dX1_firstFault_11 : decode cX1_firstFault 11 = .ok (.iload_n 1, 1) := by decide +kernel
theorem dX1_firstFault_12 : decode cX1_firstFault 12 = .ok (.invokevirtual 19, 3) := by decide +kernel
theorem dX1_firstFault_15 : decode cX1_firstFault 15 = .ok (.ifCond .ne 5, 3) := by decide +kernel
theorem dX1_firstFault_18 : decode cX1_firstFault 18 = .ok (.iload_n 1, 1) := by decide +kernel
theorem dX1_firstFault_19 : decode cX1_firstFault 19 = .ok (.ireturn, 1) := by decide +kernel
theorem dX1_firstFault_20 : decode cX1_firstFault 20 = .ok (.iinc 1 1, 3) := by decide +kernel
theorem dX1_firstFault_23 : decode cX1_firstFault 23 = .ok (.goto (-21), 3) := by decide +kernel
theorem dX1_firstFault_26 : decode cX1_firstFault 26 = .ok (.aload_n 0, 1) := by decide +kernel
theorem dX1_firstFault_27 : decode cX1_firstFault 27 = .ok (.getfield 15, 3) := by decide +kernel
theorem dX1_firstFault_30 : decode cX1_firstFault 30 = .ok (.iconst 3, 1) := by decide +kernel
theorem dX1_firstFault_31 : decode cX1_firstFault 31 = .ok (.irem, 1) := by decide +kernel
theorem dX1_firstFault_32 : decode cX1_firstFault 32 = .ok (.ifCond .ne 8, 3) := by decide +kernel
theorem dX1_firstFault_35 : decode cX1_firstFault 35 = .ok (.bipush (-6), 2) := by decide +kernel
theorem dX1_firstFault_37 : decode cX1_firstFault 37 = .ok (.goto 7, 3) := by decide +kernel
theorem dX1_firstFault_40 : decode cX1_firstFault 40 = .ok (.aload_n 0, 1) := by decide +kernel
theorem dX1_firstFault_41 : decode cX1_firstFault 41 = .ok (.getfield 15, 3) := by decide +kernel
theorem dX1_firstFault_44 : decode cX1_firstFault 44 = .ok (.ireturn, 1) := by decide +kernel
set_option maxRecDepth 20000 in
theorem ggX1_canStand_X1_nodeAt : GoodIn wsX1_canStand wsX1_nodeAt := goodIn_r _ [6, 1, 23, 24] (by decide +kernel) (by decide +kernel)
set_option maxRecDepth 20000 in
theorem gX1_canStand_X1_nodeAt : GoodIn wsX1_canStand (wsV RX1 23 RX1 yX1_nodeAt wsX1_nodeAt) := goodIn_app (goodIn_of _ (by decide +kernel)) ggX1_canStand_X1_nodeAt
set_option maxRecDepth 20000 in
theorem ggX1_canStand_X2_isNode : GoodIn wsX1_canStand wsX2_isNode := goodIn_r _ [9, 10, 11, 8, 12] (by decide +kernel) (by decide +kernel)
set_option maxRecDepth 20000 in
theorem gX1_canStand_X2_isNode_n27 : GoodIn wsX1_canStand (wsX2_isNode) := ggX1_canStand_X2_isNode
set_option maxRecDepth 20000 in
theorem ggX1_canStand_X1_isToldBefore : GoodIn wsX1_canStand wsX1_isToldBefore := goodIn_r _ [16, 2, 3, 4, 5, 6, 1, 17, 8, 18, 23, 24] (by decide +kernel) (by decide +kernel)
set_option maxRecDepth 20000 in
theorem gX1_canStand_X1_isToldBefore : GoodIn wsX1_canStand (wsV RX1 30 RX1 yX1_isToldBefore wsX1_isToldBefore) := goodIn_app (goodIn_of _ (by decide +kernel)) ggX1_canStand_X1_isToldBefore
set_option maxRecDepth 20000 in
theorem ggX1_canStand_X1_colourAt : GoodIn wsX1_canStand wsX1_colourAt := goodIn_r _ [22, 1, 23, 24] (by decide +kernel) (by decide +kernel)
set_option maxRecDepth 20000 in
theorem gX1_canStand_X1_colourAt : GoodIn wsX1_canStand (wsV RX1 33 RX1 yX1_colourAt wsX1_colourAt) := goodIn_app (goodIn_of _ (by decide +kernel)) ggX1_canStand_X1_colourAt
set_option maxRecDepth 20000 in
theorem ggX1_canStand_X2_isWithin : GoodIn wsX1_canStand wsX2_isWithin := goodIn_r _ [12] (by decide +kernel) (by decide +kernel)
set_option maxRecDepth 20000 in
theorem gX1_canStand_X2_isWithin_n36 : GoodIn wsX1_canStand (wsX2_isWithin) := ggX1_canStand_X2_isWithin
theorem dX1_canStand_0 : decode cX1_canStand 0 = .ok (.iload_n 1, 1) := by decide +kernel
theorem dX1_canStand_1 : decode cX1_canStand 1 = .ok (.bipush 36, 2) := by decide +kernel
theorem dX1_canStand_3 : decode cX1_canStand 3 = .ok (.if_icmp .lt 5, 3) := by decide +kernel
theorem dX1_canStand_6 : decode cX1_canStand 6 = .ok (.iconst 0, 1) := by decide +kernel
theorem dX1_canStand_7 : decode cX1_canStand 7 = .ok (.ireturn, 1) := by decide +kernel
theorem dX1_canStand_8 : decode cX1_canStand 8 = .ok (.iload_n 1, 1) := by decide +kernel
theorem dX1_canStand_9 : decode cX1_canStand 9 = .ok (.iconst 3, 1) := by decide +kernel
theorem dX1_canStand_10 : decode cX1_canStand 10 = .ok (.irem, 1) := by decide +kernel
theorem dX1_canStand_11 : decode cX1_canStand 11 = .ok (.lookupswitch 78 #[(0, 25), (1, 34)], 25) := by decide +kernel
theorem dX1_canStand_36 : decode cX1_canStand 36 = .ok (.aload_n 0, 1) := by decide +kernel
theorem dX1_canStand_37 : decode cX1_canStand 37 = .ok (.iload_n 1, 1) := by decide +kernel
theorem dX1_canStand_38 : decode cX1_canStand 38 = .ok (.invokevirtual 23, 3) := by decide +kernel
theorem dX1_canStand_41 : decode cX1_canStand 41 = .ok (.invokestatic 27, 3) := by decide +kernel
theorem dX1_canStand_44 : decode cX1_canStand 44 = .ok (.ireturn, 1) := by decide +kernel
theorem dX1_canStand_45 : decode cX1_canStand 45 = .ok (.aload_n 0, 1) := by decide +kernel
theorem dX1_canStand_46 : decode cX1_canStand 46 = .ok (.iload_n 1, 1) := by decide +kernel
theorem dX1_canStand_47 : decode cX1_canStand 47 = .ok (.invokevirtual 23, 3) := by decide +kernel
theorem dX1_canStand_50 : decode cX1_canStand 50 = .ok (.invokestatic 27, 3) := by decide +kernel
theorem dX1_canStand_53 : decode cX1_canStand 53 = .ok (.ifCond .eq 34, 3) := by decide +kernel
theorem dX1_canStand_56 : decode cX1_canStand 56 = .ok (.aload_n 0, 1) := by decide +kernel
theorem dX1_canStand_57 : decode cX1_canStand 57 = .ok (.getfield 9, 3) := by decide +kernel
theorem dX1_canStand_60 : decode cX1_canStand 60 = .ok (.iload_n 1, 1) := by decide +kernel
theorem dX1_canStand_61 : decode cX1_canStand 61 = .ok (.iaload, 1) := by decide +kernel
theorem dX1_canStand_62 : decode cX1_canStand 62 = .ok (.aload_n 0, 1) := by decide +kernel
theorem dX1_canStand_63 : decode cX1_canStand 63 = .ok (.getfield 9, 3) := by decide +kernel
theorem dX1_canStand_66 : decode cX1_canStand 66 = .ok (.iload_n 1, 1) := by decide +kernel
theorem dX1_canStand_67 : decode cX1_canStand 67 = .ok (.iconst 1, 1) := by decide +kernel
theorem dX1_canStand_68 : decode cX1_canStand 68 = .ok (.isub, 1) := by decide +kernel
theorem dX1_canStand_69 : decode cX1_canStand 69 = .ok (.iaload, 1) := by decide +kernel
theorem dX1_canStand_70 : decode cX1_canStand 70 = .ok (.if_icmp .eq 17, 3) := by decide +kernel
theorem dX1_canStand_73 : decode cX1_canStand 73 = .ok (.aload_n 0, 1) := by decide +kernel
theorem dX1_canStand_74 : decode cX1_canStand 74 = .ok (.iload_n 1, 1) := by decide +kernel
theorem dX1_canStand_75 : decode cX1_canStand 75 = .ok (.iconst 1, 1) := by decide +kernel
theorem dX1_canStand_76 : decode cX1_canStand 76 = .ok (.isub, 1) := by decide +kernel
theorem dX1_canStand_77 : decode cX1_canStand 77 = .ok (.invokevirtual 30, 3) := by decide +kernel
theorem dX1_canStand_80 : decode cX1_canStand 80 = .ok (.ifCond .ne 7, 3) := by decide +kernel
theorem dX1_canStand_83 : decode cX1_canStand 83 = .ok (.iconst 1, 1) := by decide +kernel
theorem dX1_canStand_84 : decode cX1_canStand 84 = .ok (.goto 4, 3) := by decide +kernel
theorem dX1_canStand_87 : decode cX1_canStand 87 = .ok (.iconst 0, 1) := by decide +kernel
theorem dX1_canStand_88 : decode cX1_canStand 88 = .ok (.ireturn, 1) := by decide +kernel
theorem dX1_canStand_89 : decode cX1_canStand 89 = .ok (.aload_n 0, 1) := by decide +kernel
theorem dX1_canStand_90 : decode cX1_canStand 90 = .ok (.iload_n 1, 1) := by decide +kernel
theorem dX1_canStand_91 : decode cX1_canStand 91 = .ok (.invokevirtual 33, 3) := by decide +kernel
theorem dX1_canStand_94 : decode cX1_canStand 94 = .ok (.iconst 0, 1) := by decide +kernel
theorem dX1_canStand_95 : decode cX1_canStand 95 = .ok (.iconst 3, 1) := by decide +kernel
theorem dX1_canStand_96 : decode cX1_canStand 96 = .ok (.invokestatic 36, 3) := by decide +kernel
theorem dX1_canStand_99 : decode cX1_canStand 99 = .ok (.ireturn, 1) := by decide +kernel
set_option maxRecDepth 20000 in
theorem ggX1_isToldBefore_X1_nodeAt : GoodIn wsX1_isToldBefore wsX1_nodeAt := goodIn_r _ [5, 6, 10, 11] (by decide +kernel) (by decide +kernel)
set_option maxRecDepth 20000 in
theorem gX1_isToldBefore_X1_nodeAt : GoodIn wsX1_isToldBefore (wsV RX1 23 RX1 yX1_nodeAt wsX1_nodeAt) := goodIn_app (goodIn_of _ (by decide +kernel)) ggX1_isToldBefore_X1_nodeAt
set_option maxRecDepth 20000 in
theorem ggX1_isToldBefore_X2_spot : GoodIn wsX1_isToldBefore wsX2_spot := goodIn_r _ [9] (by decide +kernel) (by decide +kernel)
set_option maxRecDepth 20000 in
theorem gX1_isToldBefore_X2_spot_n40 : GoodIn wsX1_isToldBefore (wsX2_spot) := ggX1_isToldBefore_X2_spot
theorem dX1_isToldBefore_0 : decode cX1_isToldBefore 0 = .ok (.aload_n 0, 1) := by decide +kernel
theorem dX1_isToldBefore_1 : decode cX1_isToldBefore 1 = .ok (.iload_n 1, 1) := by decide +kernel
theorem dX1_isToldBefore_2 : decode cX1_isToldBefore 2 = .ok (.invokevirtual 23, 3) := by decide +kernel
theorem dX1_isToldBefore_5 : decode cX1_isToldBefore 5 = .ok (.aload_n 0, 1) := by decide +kernel
theorem dX1_isToldBefore_6 : decode cX1_isToldBefore 6 = .ok (.iload_n 1, 1) := by decide +kernel
theorem dX1_isToldBefore_7 : decode cX1_isToldBefore 7 = .ok (.iconst 1, 1) := by decide +kernel
theorem dX1_isToldBefore_8 : decode cX1_isToldBefore 8 = .ok (.iadd, 1) := by decide +kernel
theorem dX1_isToldBefore_9 : decode cX1_isToldBefore 9 = .ok (.invokevirtual 23, 3) := by decide +kernel
theorem dX1_isToldBefore_12 : decode cX1_isToldBefore 12 = .ok (.invokestatic 40, 3) := by decide +kernel
theorem dX1_isToldBefore_15 : decode cX1_isToldBefore 15 = .ok (.istore_n 2, 1) := by decide +kernel
theorem dX1_isToldBefore_16 : decode cX1_isToldBefore 16 = .ok (.iconst 0, 1) := by decide +kernel
theorem dX1_isToldBefore_17 : decode cX1_isToldBefore 17 = .ok (.istore_n 3, 1) := by decide +kernel
theorem dX1_isToldBefore_18 : decode cX1_isToldBefore 18 = .ok (.iload_n 3, 1) := by decide +kernel
theorem dX1_isToldBefore_19 : decode cX1_isToldBefore 19 = .ok (.iload_n 1, 1) := by decide +kernel
theorem dX1_isToldBefore_20 : decode cX1_isToldBefore 20 = .ok (.if_icmp .ge 30, 3) := by decide +kernel
theorem dX1_isToldBefore_23 : decode cX1_isToldBefore 23 = .ok (.aload_n 0, 1) := by decide +kernel
theorem dX1_isToldBefore_24 : decode cX1_isToldBefore 24 = .ok (.iload_n 3, 1) := by decide +kernel
theorem dX1_isToldBefore_25 : decode cX1_isToldBefore 25 = .ok (.invokevirtual 23, 3) := by decide +kernel
theorem dX1_isToldBefore_28 : decode cX1_isToldBefore 28 = .ok (.aload_n 0, 1) := by decide +kernel
theorem dX1_isToldBefore_29 : decode cX1_isToldBefore 29 = .ok (.iload_n 3, 1) := by decide +kernel
theorem dX1_isToldBefore_30 : decode cX1_isToldBefore 30 = .ok (.iconst 1, 1) := by decide +kernel
theorem dX1_isToldBefore_31 : decode cX1_isToldBefore 31 = .ok (.iadd, 1) := by decide +kernel
theorem dX1_isToldBefore_32 : decode cX1_isToldBefore 32 = .ok (.invokevirtual 23, 3) := by decide +kernel
theorem dX1_isToldBefore_35 : decode cX1_isToldBefore 35 = .ok (.invokestatic 40, 3) := by decide +kernel
theorem dX1_isToldBefore_38 : decode cX1_isToldBefore 38 = .ok (.iload_n 2, 1) := by decide +kernel
theorem dX1_isToldBefore_39 : decode cX1_isToldBefore 39 = .ok (.if_icmp .ne 5, 3) := by decide +kernel
theorem dX1_isToldBefore_42 : decode cX1_isToldBefore 42 = .ok (.iconst 1, 1) := by decide +kernel
theorem dX1_isToldBefore_43 : decode cX1_isToldBefore 43 = .ok (.ireturn, 1) := by decide +kernel
theorem dX1_isToldBefore_44 : decode cX1_isToldBefore 44 = .ok (.iinc 3 3, 3) := by decide +kernel
theorem dX1_isToldBefore_47 : decode cX1_isToldBefore 47 = .ok (.goto (-29), 3) := by decide +kernel
theorem dX1_isToldBefore_50 : decode cX1_isToldBefore 50 = .ok (.iconst 0, 1) := by decide +kernel
theorem dX1_isToldBefore_51 : decode cX1_isToldBefore 51 = .ok (.ireturn, 1) := by decide +kernel
set_option maxRecDepth 20000 in
theorem ggX2_init_X1_init : GoodIn wsX2_init wsX1_init := goodIn_r _ [21, 22, 2, 3, 23, 24, 25, 38, 39] (by decide +kernel) (by decide +kernel)
set_option maxRecDepth 20000 in
theorem gX2_init_X1_init_n9 : GoodIn wsX2_init (wsX1_init) := ggX2_init_X1_init
set_option maxRecDepth 20000 in
theorem ggX2_init_X0_init : GoodIn wsX2_init wsX0_init := goodIn_r _ [27, 28, 2, 3, 23, 29, 30, 31, 32, 33, 34, 35, 36, 37, 49, 50, 51, 52, 53, 54, 55, 56, 57] (by decide +kernel) (by decide +kernel)
set_option maxRecDepth 20000 in
theorem gX2_init_X0_init_n18 : GoodIn wsX2_init (wsX0_init) := ggX2_init_X0_init
theorem dX2_init_0 : decode cX2_init 0 = .ok (.aload_n 0, 1) := by decide +kernel
theorem dX2_init_1 : decode cX2_init 1 = .ok (.invokespecial 1, 3) := by decide +kernel
theorem dX2_init_4 : decode cX2_init 4 = .ok (.aload_n 0, 1) := by decide +kernel
theorem dX2_init_5 : decode cX2_init 5 = .ok (.new 7, 3) := by decide +kernel
theorem dX2_init_8 : decode cX2_init 8 = .ok (.dup, 1) := by decide +kernel
theorem dX2_init_9 : decode cX2_init 9 = .ok (.invokespecial 9, 3) := by decide +kernel
theorem dX2_init_12 : decode cX2_init 12 = .ok (.putfield 10, 3) := by decide +kernel
theorem dX2_init_15 : decode cX2_init 15 = .ok (.aload_n 0, 1) := by decide +kernel
theorem dX2_init_16 : decode cX2_init 16 = .ok (.new 16, 3) := by decide +kernel
theorem dX2_init_19 : decode cX2_init 19 = .ok (.dup, 1) := by decide +kernel
theorem dX2_init_20 : decode cX2_init 20 = .ok (.invokespecial 18, 3) := by decide +kernel
theorem dX2_init_23 : decode cX2_init 23 = .ok (.putfield 19, 3) := by decide +kernel
theorem dX2_init_26 : decode cX2_init 26 = .ok (.aload_n 0, 1) := by decide +kernel
theorem dX2_init_27 : decode cX2_init 27 = .ok (.new 16, 3) := by decide +kernel
theorem dX2_init_30 : decode cX2_init 30 = .ok (.dup, 1) := by decide +kernel
theorem dX2_init_31 : decode cX2_init 31 = .ok (.invokespecial 18, 3) := by decide +kernel
theorem dX2_init_34 : decode cX2_init 34 = .ok (.putfield 23, 3) := by decide +kernel
theorem dX2_init_37 : decode cX2_init 37 = .ok (.aload_n 0, 1) := by decide +kernel
theorem dX2_init_38 : decode cX2_init 38 = .ok (.new 16, 3) := by decide +kernel
theorem dX2_init_41 : decode cX2_init 41 = .ok (.dup, 1) := by decide +kernel
theorem dX2_init_42 : decode cX2_init 42 = .ok (.invokespecial 18, 3) := by decide +kernel
theorem dX2_init_45 : decode cX2_init 45 = .ok (.putfield 26, 3) := by decide +kernel
theorem dX2_init_48 : decode cX2_init 48 = .ok (.aload_n 0, 1) := by decide +kernel
theorem dX2_init_49 : decode cX2_init 49 = .ok (.iconst 0, 1) := by decide +kernel
theorem dX2_init_50 : decode cX2_init 50 = .ok (.putfield 29, 3) := by decide +kernel
theorem dX2_init_53 : decode cX2_init 53 = .ok (.aload_n 0, 1) := by decide +kernel
theorem dX2_init_54 : decode cX2_init 54 = .ok (.new 16, 3) := by decide +kernel
theorem dX2_init_57 : decode cX2_init 57 = .ok (.dup, 1) := by decide +kernel
theorem dX2_init_58 : decode cX2_init 58 = .ok (.invokespecial 18, 3) := by decide +kernel
theorem dX2_init_61 : decode cX2_init 61 = .ok (.putfield 33, 3) := by decide +kernel
theorem dX2_init_64 : decode cX2_init 64 = .ok (.aload_n 0, 1) := by decide +kernel
theorem dX2_init_65 : decode cX2_init 65 = .ok (.new 16, 3) := by decide +kernel
theorem dX2_init_68 : decode cX2_init 68 = .ok (.dup, 1) := by decide +kernel
theorem dX2_init_69 : decode cX2_init 69 = .ok (.invokespecial 18, 3) := by decide +kernel
theorem dX2_init_72 : decode cX2_init 72 = .ok (.putfield 36, 3) := by decide +kernel
theorem dX2_init_75 : decode cX2_init 75 = .ok (.aload_n 0, 1) := by decide +kernel
theorem dX2_init_76 : decode cX2_init 76 = .ok (.bipush 8, 2) := by decide +kernel
theorem dX2_init_78 : decode cX2_init 78 = .ok (.newarray .long, 2) := by decide +kernel
theorem dX2_init_80 : decode cX2_init 80 = .ok (.putfield 39, 3) := by decide +kernel
theorem dX2_init_83 : decode cX2_init 83 = .ok (.aload_n 0, 1) := by decide +kernel
theorem dX2_init_84 : decode cX2_init 84 = .ok (.bipush 8, 2) := by decide +kernel
theorem dX2_init_86 : decode cX2_init 86 = .ok (.newarray .long, 2) := by decide +kernel
theorem dX2_init_88 : decode cX2_init 88 = .ok (.putfield 43, 3) := by decide +kernel
theorem dX2_init_91 : decode cX2_init 91 = .ok (.return_, 1) := by decide +kernel
set_option maxRecDepth 20000 in
theorem ggX2_node_X2_isNode : GoodIn wsX2_node wsX2_isNode := goodIn_r _ [5, 6, 7, 4, 8] (by decide +kernel) (by decide +kernel)
set_option maxRecDepth 20000 in
theorem gX2_node_X2_isNode : GoodIn wsX2_node (va_wsS RX2 46 yX2_isNode wsX2_isNode) := goodIn_app (goodIn_of _ (by decide +kernel)) ggX2_node_X2_isNode
set_option maxRecDepth 20000 in
theorem ggX2_node_X2_isWithin : GoodIn wsX2_node wsX2_isWithin := goodIn_r _ [8] (by decide +kernel) (by decide +kernel)
set_option maxRecDepth 20000 in
theorem gX2_node_X2_isWithin : GoodIn wsX2_node (va_wsS RX2 50 yX2_isWithin wsX2_isWithin) := goodIn_app (goodIn_of _ (by decide +kernel)) ggX2_node_X2_isWithin
theorem dX2_node_0 : decode cX2_node 0 = .ok (.iload_n 1, 1) := by decide +kernel
theorem dX2_node_1 : decode cX2_node 1 = .ok (.invokestatic 46, 3) := by decide +kernel
theorem dX2_node_4 : decode cX2_node 4 = .ok (.ifCond .ne 5, 3) := by decide +kernel
theorem dX2_node_7 : decode cX2_node 7 = .ok (.iconst (-1), 1) := by decide +kernel
theorem dX2_node_8 : decode cX2_node 8 = .ok (.ireturn, 1) := by decide +kernel
theorem dX2_node_9 : decode cX2_node 9 = .ok (.iload_n 2, 1) := by decide +kernel
theorem dX2_node_10 : decode cX2_node 10 = .ok (.iconst 1, 1) := by decide +kernel
theorem dX2_node_11 : decode cX2_node 11 = .ok (.iconst 4, 1) := by decide +kernel
theorem dX2_node_12 : decode cX2_node 12 = .ok (.invokestatic 50, 3) := by decide +kernel
theorem dX2_node_15 : decode cX2_node 15 = .ok (.ifCond .eq 14, 3) := by decide +kernel
theorem dX2_node_18 : decode cX2_node 18 = .ok (.iload_n 3, 1) := by decide +kernel
theorem dX2_node_19 : decode cX2_node 19 = .ok (.iconst 0, 1) := by decide +kernel
theorem dX2_node_20 : decode cX2_node 20 = .ok (.sipush 999, 3) := by decide +kernel
theorem dX2_node_23 : decode cX2_node 23 = .ok (.invokestatic 50, 3) := by decide +kernel
theorem dX2_node_26 : decode cX2_node 26 = .ok (.ifCond .ne 6, 3) := by decide +kernel
theorem dX2_node_29 : decode cX2_node 29 = .ok (.bipush (-2), 2) := by decide +kernel
theorem dX2_node_31 : decode cX2_node 31 = .ok (.ireturn, 1) := by decide +kernel
theorem dX2_node_32 : decode cX2_node 32 = .ok (.aload_n 0, 1) := by decide +kernel
theorem dX2_node_33 : decode cX2_node 33 = .ok (.getfield 19, 3) := by decide +kernel
theorem dX2_node_36 : decode cX2_node 36 = .ok (.getfield 54, 3) := by decide +kernel
theorem dX2_node_39 : decode cX2_node 39 = .ok (.iload_n 1, 1) := by decide +kernel
theorem dX2_node_40 : decode cX2_node 40 = .ok (.iaload, 1) := by decide +kernel
theorem dX2_node_41 : decode cX2_node 41 = .ok (.istore 4, 2) := by decide +kernel
theorem dX2_node_43 : decode cX2_node 43 = .ok (.aload_n 0, 1) := by decide +kernel
theorem dX2_node_44 : decode cX2_node 44 = .ok (.getfield 19, 3) := by decide +kernel
theorem dX2_node_47 : decode cX2_node 47 = .ok (.getfield 58, 3) := by decide +kernel
theorem dX2_node_50 : decode cX2_node 50 = .ok (.iload_n 1, 1) := by decide +kernel
theorem dX2_node_51 : decode cX2_node 51 = .ok (.iload_n 2, 1) := by decide +kernel
theorem dX2_node_52 : decode cX2_node 52 = .ok (.iastore, 1) := by decide +kernel
theorem dX2_node_53 : decode cX2_node 53 = .ok (.aload_n 0, 1) := by decide +kernel
theorem dX2_node_54 : decode cX2_node 54 = .ok (.getfield 19, 3) := by decide +kernel
theorem dX2_node_57 : decode cX2_node 57 = .ok (.getfield 54, 3) := by decide +kernel
theorem dX2_node_60 : decode cX2_node 60 = .ok (.iload_n 1, 1) := by decide +kernel
theorem dX2_node_61 : decode cX2_node 61 = .ok (.iload_n 3, 1) := by decide +kernel
theorem dX2_node_62 : decode cX2_node 62 = .ok (.iastore, 1) := by decide +kernel
theorem dX2_node_63 : decode cX2_node 63 = .ok (.iload 4, 2) := by decide +kernel
theorem dX2_node_65 : decode cX2_node 65 = .ok (.sipush 10000, 3) := by decide +kernel
theorem dX2_node_68 : decode cX2_node 68 = .ok (.iadd, 1) := by decide +kernel
theorem dX2_node_69 : decode cX2_node 69 = .ok (.ireturn, 1) := by decide +kernel
set_option maxRecDepth 20000 in
theorem ggX2_edge_X2_isNode : GoodIn wsX2_edge wsX2_isNode := goodIn_r _ [5, 6, 7, 4, 8] (by decide +kernel) (by decide +kernel)
set_option maxRecDepth 20000 in
theorem gX2_edge_X2_isNode : GoodIn wsX2_edge (va_wsS RX2 46 yX2_isNode wsX2_isNode) := goodIn_app (goodIn_of _ (by decide +kernel)) ggX2_edge_X2_isNode
set_option maxRecDepth 20000 in
theorem ggX2_edge_X2_isWithin : GoodIn wsX2_edge wsX2_isWithin := goodIn_r _ [8] (by decide +kernel) (by decide +kernel)
set_option maxRecDepth 20000 in
theorem gX2_edge_X2_isWithin : GoodIn wsX2_edge (va_wsS RX2 50 yX2_isWithin wsX2_isWithin) := goodIn_app (goodIn_of _ (by decide +kernel)) ggX2_edge_X2_isWithin
set_option maxRecDepth 20000 in
theorem ggX2_edge_X0_lift : GoodIn wsX2_edge wsX0_lift := goodIn_r _ [12, 13, 14, 15, 16, 17, 18, 19, 10, 20, 21, 4, 22, 36, 37, 38, 39, 40, 41, 42, 43, 44] (by decide +kernel) (by decide +kernel)
set_option maxRecDepth 20000 in
theorem gX2_edge_X0_lift_n61 : GoodIn wsX2_edge (wsX0_lift) := ggX2_edge_X0_lift
set_option maxRecDepth 20000 in
theorem ggX2_edge_X0_joins : GoodIn wsX2_edge wsX0_joins := goodIn_r _ [20, 13, 21, 4, 22, 36, 37, 38, 39, 40, 41, 42, 43, 44] (by decide +kernel) (by decide +kernel)
set_option maxRecDepth 20000 in
theorem gX2_edge_X0_joins_n68 : GoodIn wsX2_edge (wsX0_joins) := ggX2_edge_X0_joins
set_option maxRecDepth 20000 in
theorem ggX2_edge_X0_lay : GoodIn wsX2_edge wsX0_lay := goodIn_r _ [25, 13, 15, 16, 26, 9, 11, 10, 12, 14, 17, 18, 19, 20, 21, 4, 22, 36, 37, 38, 39, 40, 41, 42, 43, 44] (by decide +kernel) (by decide +kernel)
set_option maxRecDepth 20000 in
theorem gX2_edge_X0_lay_n72 : GoodIn wsX2_edge (wsX0_lay) := ggX2_edge_X0_lay
theorem dX2_edge_0 : decode cX2_edge 0 = .ok (.iload_n 1, 1) := by decide +kernel
theorem dX2_edge_1 : decode cX2_edge 1 = .ok (.invokestatic 46, 3) := by decide +kernel
theorem dX2_edge_4 : decode cX2_edge 4 = .ok (.ifCond .eq 10, 3) := by decide +kernel
theorem dX2_edge_7 : decode cX2_edge 7 = .ok (.iload_n 2, 1) := by decide +kernel
theorem dX2_edge_8 : decode cX2_edge 8 = .ok (.invokestatic 46, 3) := by decide +kernel
theorem dX2_edge_11 : decode cX2_edge 11 = .ok (.ifCond .ne 5, 3) := by decide +kernel
theorem dX2_edge_14 : decode cX2_edge 14 = .ok (.iconst (-1), 1) := by decide +kernel
theorem dX2_edge_15 : decode cX2_edge 15 = .ok (.ireturn, 1) := by decide +kernel
theorem dX2_edge_16 : decode cX2_edge 16 = .ok (.iload_n 1, 1) := by decide +kernel
theorem dX2_edge_17 : decode cX2_edge 17 = .ok (.iload_n 2, 1) := by decide +kernel
theorem dX2_edge_18 : decode cX2_edge 18 = .ok (.if_icmp .eq 12, 3) := by decide +kernel
theorem dX2_edge_21 : decode cX2_edge 21 = .ok (.iload_n 3, 1) := by decide +kernel
theorem dX2_edge_22 : decode cX2_edge 22 = .ok (.iconst (-1), 1) := by decide +kernel
theorem dX2_edge_23 : decode cX2_edge 23 = .ok (.iconst 3, 1) := by decide +kernel
theorem dX2_edge_24 : decode cX2_edge 24 = .ok (.invokestatic 50, 3) := by decide +kernel
theorem dX2_edge_27 : decode cX2_edge 27 = .ok (.ifCond .ne 6, 3) := by decide +kernel
theorem dX2_edge_30 : decode cX2_edge 30 = .ok (.bipush (-2), 2) := by decide +kernel
theorem dX2_edge_32 : decode cX2_edge 32 = .ok (.ireturn, 1) := by decide +kernel
theorem dX2_edge_33 : decode cX2_edge 33 = .ok (.iload_n 3, 1) := by decide +kernel
theorem dX2_edge_34 : decode cX2_edge 34 = .ok (.iconst (-1), 1) := by decide +kernel
theorem dX2_edge_35 : decode cX2_edge 35 = .ok (.if_icmp .ne 20, 3) := by decide +kernel
theorem dX2_edge_38 : decode cX2_edge 38 = .ok (.aload_n 0, 1) := by decide +kernel
theorem dX2_edge_39 : decode cX2_edge 39 = .ok (.getfield 19, 3) := by decide +kernel
theorem dX2_edge_42 : decode cX2_edge 42 = .ok (.iload_n 1, 1) := by decide +kernel
theorem dX2_edge_43 : decode cX2_edge 43 = .ok (.iload_n 2, 1) := by decide +kernel
theorem dX2_edge_44 : decode cX2_edge 44 = .ok (.invokevirtual 61, 3) := by decide +kernel
theorem dX2_edge_47 : decode cX2_edge 47 = .ok (.aload_n 0, 1) := by decide +kernel
theorem dX2_edge_48 : decode cX2_edge 48 = .ok (.getfield 19, 3) := by decide +kernel
theorem dX2_edge_51 : decode cX2_edge 51 = .ok (.getfield 65, 3) := by decide +kernel
theorem dX2_edge_54 : decode cX2_edge 54 = .ok (.ireturn, 1) := by decide +kernel
theorem dX2_edge_55 : decode cX2_edge 55 = .ok (.aload_n 0, 1) := by decide +kernel
theorem dX2_edge_56 : decode cX2_edge 56 = .ok (.getfield 19, 3) := by decide +kernel
theorem dX2_edge_59 : decode cX2_edge 59 = .ok (.iload_n 1, 1) := by decide +kernel
theorem dX2_edge_60 : decode cX2_edge 60 = .ok (.iload_n 2, 1) := by decide +kernel
theorem dX2_edge_61 : decode cX2_edge 61 = .ok (.invokevirtual 68, 3) := by decide +kernel
theorem dX2_edge_64 : decode cX2_edge 64 = .ok (.ifCond .ne 18, 3) := by decide +kernel
theorem dX2_edge_67 : decode cX2_edge 67 = .ok (.aload_n 0, 1) := by decide +kernel
theorem dX2_edge_68 : decode cX2_edge 68 = .ok (.getfield 19, 3) := by decide +kernel
theorem dX2_edge_71 : decode cX2_edge 71 = .ok (.getfield 65, 3) := by decide +kernel
theorem dX2_edge_74 : decode cX2_edge 74 = .ok (.bipush 12, 2) := by decide +kernel
theorem dX2_edge_76 : decode cX2_edge 76 = .ok (.if_icmp .lt 6, 3) := by decide +kernel
theorem dX2_edge_79 : decode cX2_edge 79 = .ok (.bipush (-4), 2) := by decide +kernel
theorem dX2_edge_81 : decode cX2_edge 81 = .ok (.ireturn, 1) := by decide +kernel
theorem dX2_edge_82 : decode cX2_edge 82 = .ok (.aload_n 0, 1) := by decide +kernel
theorem dX2_edge_83 : decode cX2_edge 83 = .ok (.getfield 19, 3) := by decide +kernel
theorem dX2_edge_86 : decode cX2_edge 86 = .ok (.iload_n 1, 1) := by decide +kernel
theorem dX2_edge_87 : decode cX2_edge 87 = .ok (.iload_n 2, 1) := by decide +kernel
theorem dX2_edge_88 : decode cX2_edge 88 = .ok (.iload_n 3, 1) := by decide +kernel
theorem dX2_edge_89 : decode cX2_edge 89 = .ok (.invokevirtual 72, 3) := by decide +kernel
theorem dX2_edge_92 : decode cX2_edge 92 = .ok (.aload_n 0, 1) := by decide +kernel
theorem dX2_edge_93 : decode cX2_edge 93 = .ok (.getfield 19, 3) := by decide +kernel
theorem dX2_edge_96 : decode cX2_edge 96 = .ok (.getfield 65, 3) := by decide +kernel
theorem dX2_edge_99 : decode cX2_edge 99 = .ok (.ireturn, 1) := by decide +kernel
set_option maxRecDepth 20000 in
theorem ggX2_say_X2_isWithin : GoodIn wsX2_say wsX2_isWithin := goodIn_r _ [5] (by decide +kernel) (by decide +kernel)
set_option maxRecDepth 20000 in
theorem gX2_say_X2_isWithin : GoodIn wsX2_say (va_wsS RX2 50 yX2_isWithin wsX2_isWithin) := goodIn_app (goodIn_of _ (by decide +kernel)) ggX2_say_X2_isWithin
set_option maxRecDepth 20000 in
theorem ggX2_say_X1_add : GoodIn wsX2_say wsX1_add := goodIn_r _ [9, 10, 11, 21, 22] (by decide +kernel) (by decide +kernel)
set_option maxRecDepth 20000 in
theorem gX2_say_X1_add_n79 : GoodIn wsX2_say (wsX1_add) := ggX2_say_X1_add
theorem dX2_say_0 : decode cX2_say 0 = .ok (.iload_n 1, 1) := by decide +kernel
theorem dX2_say_1 : decode cX2_say 1 = .ok (.bipush 33, 2) := by decide +kernel
theorem dX2_say_3 : decode cX2_say 3 = .ok (.bipush 126, 2) := by decide +kernel
theorem dX2_say_5 : decode cX2_say 5 = .ok (.invokestatic 50, 3) := by decide +kernel
theorem dX2_say_8 : decode cX2_say 8 = .ok (.ifCond .ne 6, 3) := by decide +kernel
theorem dX2_say_11 : decode cX2_say 11 = .ok (.bipush (-2), 2) := by decide +kernel
theorem dX2_say_13 : decode cX2_say 13 = .ok (.ireturn, 1) := by decide +kernel
theorem dX2_say_14 : decode cX2_say 14 = .ok (.aload_n 0, 1) := by decide +kernel
theorem dX2_say_15 : decode cX2_say 15 = .ok (.getfield 10, 3) := by decide +kernel
theorem dX2_say_18 : decode cX2_say 18 = .ok (.getfield 76, 3) := by decide +kernel
theorem dX2_say_21 : decode cX2_say 21 = .ok (.bipush 40, 2) := by decide +kernel
theorem dX2_say_23 : decode cX2_say 23 = .ok (.if_icmp .lt 6, 3) := by decide +kernel
theorem dX2_say_26 : decode cX2_say 26 = .ok (.bipush (-4), 2) := by decide +kernel
theorem dX2_say_28 : decode cX2_say 28 = .ok (.ireturn, 1) := by decide +kernel
theorem dX2_say_29 : decode cX2_say 29 = .ok (.aload_n 0, 1) := by decide +kernel
theorem dX2_say_30 : decode cX2_say 30 = .ok (.getfield 10, 3) := by decide +kernel
theorem dX2_say_33 : decode cX2_say 33 = .ok (.iload_n 1, 1) := by decide +kernel
theorem dX2_say_34 : decode cX2_say 34 = .ok (.invokevirtual 79, 3) := by decide +kernel
theorem dX2_say_37 : decode cX2_say 37 = .ok (.aload_n 0, 1) := by decide +kernel
theorem dX2_say_38 : decode cX2_say 38 = .ok (.getfield 10, 3) := by decide +kernel
theorem dX2_say_41 : decode cX2_say 41 = .ok (.getfield 76, 3) := by decide +kernel
theorem dX2_say_44 : decode cX2_say 44 = .ok (.ireturn, 1) := by decide +kernel
theorem dX2_wipe_0 : decode cX2_wipe 0 = .ok (.aload_n 0, 1) := by decide +kernel
theorem dX2_wipe_1 : decode cX2_wipe 1 = .ok (.getfield 10, 3) := by decide +kernel
theorem dX2_wipe_4 : decode cX2_wipe 4 = .ok (.getfield 76, 3) := by decide +kernel
theorem dX2_wipe_7 : decode cX2_wipe 7 = .ok (.istore_n 1, 1) := by decide +kernel
theorem dX2_wipe_8 : decode cX2_wipe 8 = .ok (.aload_n 0, 1) := by decide +kernel
theorem dX2_wipe_9 : decode cX2_wipe 9 = .ok (.getfield 10, 3) := by decide +kernel
theorem dX2_wipe_12 : decode cX2_wipe 12 = .ok (.iconst 0, 1) := by decide +kernel
theorem dX2_wipe_13 : decode cX2_wipe 13 = .ok (.putfield 76, 3) := by decide +kernel
theorem dX2_wipe_16 : decode cX2_wipe 16 = .ok (.iload_n 1, 1) := by decide +kernel
theorem dX2_wipe_17 : decode cX2_wipe 17 = .ok (.ireturn, 1) := by decide +kernel
set_option maxRecDepth 20000 in
theorem ggX2_fault_X1_firstFault : GoodIn wsX2_fault wsX1_firstFault := goodIn_r _ [5, 6, 7, 8, 9, 3, 10, 11, 12, 13, 14, 15, 16, 17, 18, 19, 20, 21, 22, 23, 24, 25, 26, 27, 28, 29, 30, 31, 41, 42] (by decide +kernel) (by decide +kernel)
set_option maxRecDepth 20000 in
theorem gX2_fault_X1_firstFault_n83 : GoodIn wsX2_fault (wsX1_firstFault) := ggX2_fault_X1_firstFault
theorem dX2_fault_0 : decode cX2_fault 0 = .ok (.aload_n 0, 1) := by decide +kernel
theorem dX2_fault_1 : decode cX2_fault 1 = .ok (.getfield 10, 3) := by decide +kernel
theorem dX2_fault_4 : decode cX2_fault 4 = .ok (.invokevirtual 83, 3) := by decide +kernel
theorem dX2_fault_7 : decode cX2_fault 7 = .ok (.ireturn, 1) := by decide +kernel
set_option maxRecDepth 20000 in
theorem ggX2_net_X1_firstFault : GoodIn wsX2_net wsX1_firstFault := goodIn_r _ [6, 7, 8, 9, 10, 4, 11, 12, 13, 14, 15, 16, 17, 18, 19, 20, 21, 22, 23, 24, 25, 26, 27, 28, 29, 30, 31, 32, 61, 62] (by decide +kernel) (by decide +kernel)
set_option maxRecDepth 20000 in
theorem gX2_net_X1_firstFault_n83 : GoodIn wsX2_net (wsX1_firstFault) := ggX2_net_X1_firstFault
set_option maxRecDepth 20000 in
theorem ggX2_net_X0_liftAll : GoodIn wsX2_net wsX0_liftAll := goodIn_r _ [36, 37, 38, 39, 34, 40, 41, 42, 43, 44, 45, 46, 47, 48, 27, 18, 28, 63, 64, 65, 66, 67, 68, 69, 70, 71] (by decide +kernel) (by decide +kernel)
set_option maxRecDepth 20000 in
theorem gX2_net_X0_liftAll_n87 : GoodIn wsX2_net (wsX0_liftAll) := ggX2_net_X0_liftAll
set_option maxRecDepth 20000 in
theorem ggX2_net_X1_nodeAt : GoodIn wsX2_net wsX1_nodeAt := goodIn_r _ [16, 12, 61, 62] (by decide +kernel) (by decide +kernel)
set_option maxRecDepth 20000 in
theorem gX2_net_X1_nodeAt_n90 : GoodIn wsX2_net (wsX1_nodeAt) := ggX2_net_X1_nodeAt
set_option maxRecDepth 20000 in
theorem ggX2_net_X1_colourAt : GoodIn wsX2_net wsX1_colourAt := goodIn_r _ [32, 12, 61, 62] (by decide +kernel) (by decide +kernel)
set_option maxRecDepth 20000 in
theorem gX2_net_X1_colourAt_n94 : GoodIn wsX2_net (wsX1_colourAt) := ggX2_net_X1_colourAt
set_option maxRecDepth 20000 in
theorem ggX2_net_X0_lay : GoodIn wsX2_net wsX0_lay := goodIn_r _ [51, 41, 43, 44, 37, 38, 39, 34, 40, 42, 45, 46, 47, 48, 27, 18, 28, 63, 64, 65, 66, 67, 68, 69, 70, 71] (by decide +kernel) (by decide +kernel)
set_option maxRecDepth 20000 in
theorem gX2_net_X0_lay_n72 : GoodIn wsX2_net (wsX0_lay) := ggX2_net_X0_lay
theorem dX2_net_0 : decode cX2_net 0 = .ok (.aload_n 0, 1) := by decide +kernel
theorem dX2_net_1 : decode cX2_net 1 = .ok (.getfield 10, 3) := by decide +kernel
theorem dX2_net_4 : decode cX2_net 4 = .ok (.invokevirtual 83, 3) := by decide +kernel
theorem dX2_net_7 : decode cX2_net 7 = .ok (.bipush (-6), 2) := by decide +kernel
theorem dX2_net_9 : decode cX2_net 9 = .ok (.if_icmp .eq 6, 3) := by decide +kernel
theorem dX2_net_12 : decode cX2_net 12 = .ok (.bipush (-7), 2) := by decide +kernel
theorem dX2_net_14 : decode cX2_net 14 = .ok (.ireturn, 1) := by decide +kernel
theorem dX2_net_15 : decode cX2_net 15 = .ok (.aload_n 0, 1) := by decide +kernel
theorem dX2_net_16 : decode cX2_net 16 = .ok (.getfield 19, 3) := by decide +kernel
theorem dX2_net_19 : decode cX2_net 19 = .ok (.invokevirtual 87, 3) := by decide +kernel
theorem dX2_net_22 : decode cX2_net 22 = .ok (.iconst 0, 1) := by decide +kernel
theorem dX2_net_23 : decode cX2_net 23 = .ok (.istore_n 1, 1) := by decide +kernel
theorem dX2_net_24 : decode cX2_net 24 = .ok (.iload_n 1, 1) := by decide +kernel
theorem dX2_net_25 : decode cX2_net 25 = .ok (.iconst 2, 1) := by decide +kernel
theorem dX2_net_26 : decode cX2_net 26 = .ok (.iadd, 1) := by decide +kernel
theorem dX2_net_27 : decode cX2_net 27 = .ok (.aload_n 0, 1) := by decide +kernel
theorem dX2_net_28 : decode cX2_net 28 = .ok (.getfield 10, 3) := by decide +kernel
theorem dX2_net_31 : decode cX2_net 31 = .ok (.getfield 76, 3) := by decide +kernel
theorem dX2_net_34 : decode cX2_net 34 = .ok (.if_icmp .ge 44, 3) := by decide +kernel
theorem dX2_net_37 : decode cX2_net 37 = .ok (.aload_n 0, 1) := by decide +kernel
theorem dX2_net_38 : decode cX2_net 38 = .ok (.getfield 19, 3) := by decide +kernel
theorem dX2_net_41 : decode cX2_net 41 = .ok (.aload_n 0, 1) := by decide +kernel
theorem dX2_net_42 : decode cX2_net 42 = .ok (.getfield 10, 3) := by decide +kernel
theorem dX2_net_45 : decode cX2_net 45 = .ok (.iload_n 1, 1) := by decide +kernel
theorem dX2_net_46 : decode cX2_net 46 = .ok (.invokevirtual 90, 3) := by decide +kernel
theorem dX2_net_49 : decode cX2_net 49 = .ok (.aload_n 0, 1) := by decide +kernel
theorem dX2_net_50 : decode cX2_net 50 = .ok (.getfield 10, 3) := by decide +kernel
theorem dX2_net_53 : decode cX2_net 53 = .ok (.iload_n 1, 1) := by decide +kernel
theorem dX2_net_54 : decode cX2_net 54 = .ok (.iconst 1, 1) := by decide +kernel
theorem dX2_net_55 : decode cX2_net 55 = .ok (.iadd, 1) := by decide +kernel
theorem dX2_net_56 : decode cX2_net 56 = .ok (.invokevirtual 90, 3) := by decide +kernel
theorem dX2_net_59 : decode cX2_net 59 = .ok (.aload_n 0, 1) := by decide +kernel
theorem dX2_net_60 : decode cX2_net 60 = .ok (.getfield 10, 3) := by decide +kernel
theorem dX2_net_63 : decode cX2_net 63 = .ok (.iload_n 1, 1) := by decide +kernel
theorem dX2_net_64 : decode cX2_net 64 = .ok (.iconst 2, 1) := by decide +kernel
theorem dX2_net_65 : decode cX2_net 65 = .ok (.iadd, 1) := by decide +kernel
theorem dX2_net_66 : decode cX2_net 66 = .ok (.invokevirtual 94, 3) := by decide +kernel
theorem dX2_net_69 : decode cX2_net 69 = .ok (.invokevirtual 72, 3) := by decide +kernel
theorem dX2_net_72 : decode cX2_net 72 = .ok (.iinc 1 3, 3) := by decide +kernel
theorem dX2_net_75 : decode cX2_net 75 = .ok (.goto (-51), 3) := by decide +kernel
theorem dX2_net_78 : decode cX2_net 78 = .ok (.aload_n 0, 1) := by decide +kernel
theorem dX2_net_79 : decode cX2_net 79 = .ok (.getfield 10, 3) := by decide +kernel
theorem dX2_net_82 : decode cX2_net 82 = .ok (.iconst 0, 1) := by decide +kernel
theorem dX2_net_83 : decode cX2_net 83 = .ok (.putfield 76, 3) := by decide +kernel
theorem dX2_net_86 : decode cX2_net 86 = .ok (.aload_n 0, 1) := by decide +kernel
theorem dX2_net_87 : decode cX2_net 87 = .ok (.getfield 19, 3) := by decide +kernel
theorem dX2_net_90 : decode cX2_net 90 = .ok (.getfield 65, 3) := by decide +kernel
theorem dX2_net_93 : decode cX2_net 93 = .ok (.ireturn, 1) := by decide +kernel
set_option maxRecDepth 20000 in
theorem ggX2_jobs_X2_isNode : GoodIn wsX2_jobs wsX2_isNode := goodIn_r _ [5, 6, 7, 4, 8] (by decide +kernel) (by decide +kernel)
set_option maxRecDepth 20000 in
theorem gX2_jobs_X2_isNode : GoodIn wsX2_jobs (va_wsS RX2 46 yX2_isNode wsX2_isNode) := goodIn_app (goodIn_of _ (by decide +kernel)) ggX2_jobs_X2_isNode
theorem dX2_jobs_0 : decode cX2_jobs 0 = .ok (.iload_n 1, 1) := by decide +kernel
theorem dX2_jobs_1 : decode cX2_jobs 1 = .ok (.invokestatic 46, 3) := by decide +kernel
theorem dX2_jobs_4 : decode cX2_jobs 4 = .ok (.ifCond .ne 5, 3) := by decide +kernel
theorem dX2_jobs_7 : decode cX2_jobs 7 = .ok (.iconst (-1), 1) := by decide +kernel
theorem dX2_jobs_8 : decode cX2_jobs 8 = .ok (.ireturn, 1) := by decide +kernel
theorem dX2_jobs_9 : decode cX2_jobs 9 = .ok (.aload_n 0, 1) := by decide +kernel
theorem dX2_jobs_10 : decode cX2_jobs 10 = .ok (.getfield 19, 3) := by decide +kernel
theorem dX2_jobs_13 : decode cX2_jobs 13 = .ok (.getfield 54, 3) := by decide +kernel
theorem dX2_jobs_16 : decode cX2_jobs 16 = .ok (.iload_n 1, 1) := by decide +kernel
theorem dX2_jobs_17 : decode cX2_jobs 17 = .ok (.iaload, 1) := by decide +kernel
theorem dX2_jobs_18 : decode cX2_jobs 18 = .ok (.sipush 10000, 3) := by decide +kernel
theorem dX2_jobs_21 : decode cX2_jobs 21 = .ok (.iadd, 1) := by decide +kernel
theorem dX2_jobs_22 : decode cX2_jobs 22 = .ok (.ireturn, 1) := by decide +kernel
set_option maxRecDepth 20000 in
theorem ggX2_told_X2_isNode : GoodIn wsX2_told wsX2_isNode := goodIn_r _ [5, 6, 7, 4, 8] (by decide +kernel) (by decide +kernel)
set_option maxRecDepth 20000 in
theorem gX2_told_X2_isNode : GoodIn wsX2_told (va_wsS RX2 46 yX2_isNode wsX2_isNode) := goodIn_app (goodIn_of _ (by decide +kernel)) ggX2_told_X2_isNode
set_option maxRecDepth 20000 in
theorem ggX2_told_X0_rotorLeftOver : GoodIn wsX2_told wsX0_rotorLeftOver := goodIn_r _ [12, 13, 14, 15, 16, 10, 17, 18, 39, 40, 41, 42, 43, 44, 45, 46, 47] (by decide +kernel) (by decide +kernel)
set_option maxRecDepth 20000 in
theorem gX2_told_X0_rotorLeftOver_n100 : GoodIn wsX2_told (wsX0_rotorLeftOver) := ggX2_told_X0_rotorLeftOver
set_option maxRecDepth 20000 in
theorem ggX2_told_X2_toldColour : GoodIn wsX2_told wsX2_toldColour := goodIn_r _ [22, 1, 6, 7, 4, 8, 23, 10, 24, 25, 26, 27, 28, 29, 30, 31, 32, 33, 34, 35, 36, 37, 38, 39, 40, 41, 42, 43, 44, 45, 46, 47] (by decide +kernel) (by decide +kernel)
set_option maxRecDepth 20000 in
theorem gX2_told_X2_toldColour : GoodIn wsX2_told (wsV RX2 103 RX2 yX2_toldColour wsX2_toldColour) := goodIn_app (goodIn_of _ (by decide +kernel)) ggX2_told_X2_toldColour
theorem dX2_told_0 : decode cX2_told 0 = .ok (.iload_n 1, 1) := by decide +kernel
theorem dX2_told_1 : decode cX2_told 1 = .ok (.invokestatic 46, 3) := by decide +kernel
theorem dX2_told_4 : decode cX2_told 4 = .ok (.ifCond .ne 5, 3) := by decide +kernel
theorem dX2_told_7 : decode cX2_told 7 = .ok (.iconst (-1), 1) := by decide +kernel
theorem dX2_told_8 : decode cX2_told 8 = .ok (.ireturn, 1) := by decide +kernel
theorem dX2_told_9 : decode cX2_told 9 = .ok (.iload_n 2, 1) := by decide +kernel
theorem dX2_told_10 : decode cX2_told 10 = .ok (.tableswitch 55 0 2 #[26, 36, 46], 26) := by decide +kernel
theorem dX2_told_36 : decode cX2_told 36 = .ok (.aload_n 0, 1) := by decide +kernel
theorem dX2_told_37 : decode cX2_told 37 = .ok (.getfield 19, 3) := by decide +kernel
theorem dX2_told_40 : decode cX2_told 40 = .ok (.getfield 58, 3) := by decide +kernel
theorem dX2_told_43 : decode cX2_told 43 = .ok (.iload_n 1, 1) := by decide +kernel
theorem dX2_told_44 : decode cX2_told 44 = .ok (.iaload, 1) := by decide +kernel
theorem dX2_told_45 : decode cX2_told 45 = .ok (.ireturn, 1) := by decide +kernel
theorem dX2_told_46 : decode cX2_told 46 = .ok (.aload_n 0, 1) := by decide +kernel
theorem dX2_told_47 : decode cX2_told 47 = .ok (.getfield 19, 3) := by decide +kernel
theorem dX2_told_50 : decode cX2_told 50 = .ok (.getfield 97, 3) := by decide +kernel
theorem dX2_told_53 : decode cX2_told 53 = .ok (.iload_n 1, 1) := by decide +kernel
theorem dX2_told_54 : decode cX2_told 54 = .ok (.iaload, 1) := by decide +kernel
theorem dX2_told_55 : decode cX2_told 55 = .ok (.ireturn, 1) := by decide +kernel
theorem dX2_told_56 : decode cX2_told 56 = .ok (.aload_n 0, 1) := by decide +kernel
theorem dX2_told_57 : decode cX2_told 57 = .ok (.getfield 19, 3) := by decide +kernel
theorem dX2_told_60 : decode cX2_told 60 = .ok (.iload_n 1, 1) := by decide +kernel
theorem dX2_told_61 : decode cX2_told 61 = .ok (.invokevirtual 100, 3) := by decide +kernel
theorem dX2_told_64 : decode cX2_told 64 = .ok (.ireturn, 1) := by decide +kernel
theorem dX2_told_65 : decode cX2_told 65 = .ok (.aload_n 0, 1) := by decide +kernel
theorem dX2_told_66 : decode cX2_told 66 = .ok (.iload_n 1, 1) := by decide +kernel
theorem dX2_told_67 : decode cX2_told 67 = .ok (.iload_n 2, 1) := by decide +kernel
theorem dX2_told_68 : decode cX2_told 68 = .ok (.invokevirtual 103, 3) := by decide +kernel
theorem dX2_told_71 : decode cX2_told 71 = .ok (.ireturn, 1) := by decide +kernel
set_option maxRecDepth 20000 in
theorem ggX2_toldColour_X2_isWithin : GoodIn wsX2_toldColour wsX2_isWithin := goodIn_r _ [5] (by decide +kernel) (by decide +kernel)
set_option maxRecDepth 20000 in
theorem gX2_toldColour_X2_isWithin : GoodIn wsX2_toldColour (va_wsS RX2 50 yX2_isWithin wsX2_isWithin) := goodIn_app (goodIn_of _ (by decide +kernel)) ggX2_toldColour_X2_isWithin
set_option maxRecDepth 20000 in
theorem ggX2_toldColour_X0_joins : GoodIn wsX2_toldColour wsX0_joins := goodIn_r _ [9, 10, 11, 4, 12, 23, 24, 25, 26, 27, 28, 29, 30, 31] (by decide +kernel) (by decide +kernel)
set_option maxRecDepth 20000 in
theorem gX2_toldColour_X0_joins_n68 : GoodIn wsX2_toldColour (wsX0_joins) := ggX2_toldColour_X0_joins
set_option maxRecDepth 20000 in
theorem ggX2_toldColour_X2_spot : GoodIn wsX2_toldColour wsX2_spot := goodIn_r _ [12] (by decide +kernel) (by decide +kernel)
set_option maxRecDepth 20000 in
theorem gX2_toldColour_X2_spot : GoodIn wsX2_toldColour (va_wsS RX2 110 yX2_spot wsX2_spot) := goodIn_app (goodIn_of _ (by decide +kernel)) ggX2_toldColour_X2_spot
theorem dX2_toldColour_0 : decode cX2_toldColour 0 = .ok (.iload_n 2, 1) := by decide +kernel
theorem dX2_toldColour_1 : decode cX2_toldColour 1 = .ok (.bipush 10, 2) := by decide +kernel
theorem dX2_toldColour_3 : decode cX2_toldColour 3 = .ok (.bipush 17, 2) := by decide +kernel
theorem dX2_toldColour_5 : decode cX2_toldColour 5 = .ok (.invokestatic 50, 3) := by decide +kernel
theorem dX2_toldColour_8 : decode cX2_toldColour 8 = .ok (.ifCond .ne 6, 3) := by decide +kernel
theorem dX2_toldColour_11 : decode cX2_toldColour 11 = .ok (.bipush (-2), 2) := by decide +kernel
theorem dX2_toldColour_13 : decode cX2_toldColour 13 = .ok (.ireturn, 1) := by decide +kernel
theorem dX2_toldColour_14 : decode cX2_toldColour 14 = .ok (.iload_n 2, 1) := by decide +kernel
theorem dX2_toldColour_15 : decode cX2_toldColour 15 = .ok (.bipush 10, 2) := by decide +kernel
theorem dX2_toldColour_17 : decode cX2_toldColour 17 = .ok (.isub, 1) := by decide +kernel
theorem dX2_toldColour_18 : decode cX2_toldColour 18 = .ok (.istore_n 3, 1) := by decide +kernel
theorem dX2_toldColour_19 : decode cX2_toldColour 19 = .ok (.aload_n 0, 1) := by decide +kernel
theorem dX2_toldColour_20 : decode cX2_toldColour 20 = .ok (.getfield 19, 3) := by decide +kernel
theorem dX2_toldColour_23 : decode cX2_toldColour 23 = .ok (.iload_n 1, 1) := by decide +kernel
theorem dX2_toldColour_24 : decode cX2_toldColour 24 = .ok (.iload_n 3, 1) := by decide +kernel
theorem dX2_toldColour_25 : decode cX2_toldColour 25 = .ok (.invokevirtual 68, 3) := by decide +kernel
theorem dX2_toldColour_28 : decode cX2_toldColour 28 = .ok (.ifCond .eq 19, 3) := by decide +kernel
theorem dX2_toldColour_31 : decode cX2_toldColour 31 = .ok (.aload_n 0, 1) := by decide +kernel
theorem dX2_toldColour_32 : decode cX2_toldColour 32 = .ok (.getfield 19, 3) := by decide +kernel
theorem dX2_toldColour_35 : decode cX2_toldColour 35 = .ok (.getfield 107, 3) := by decide +kernel
theorem dX2_toldColour_38 : decode cX2_toldColour 38 = .ok (.iload_n 1, 1) := by decide +kernel
theorem dX2_toldColour_39 : decode cX2_toldColour 39 = .ok (.iload_n 3, 1) := by decide +kernel
theorem dX2_toldColour_40 : decode cX2_toldColour 40 = .ok (.invokestatic 110, 3) := by decide +kernel
theorem dX2_toldColour_43 : decode cX2_toldColour 43 = .ok (.iaload, 1) := by decide +kernel
theorem dX2_toldColour_44 : decode cX2_toldColour 44 = .ok (.goto 5, 3) := by decide +kernel
theorem dX2_toldColour_47 : decode cX2_toldColour 47 = .ok (.bipush (-6), 2) := by decide +kernel
theorem dX2_toldColour_49 : decode cX2_toldColour 49 = .ok (.ireturn, 1) := by decide +kernel
set_option maxRecDepth 20000 in
theorem ggX2_carry_X2_isNode : GoodIn wsX2_carry wsX2_isNode := goodIn_r _ [5, 6, 7, 4, 8] (by decide +kernel) (by decide +kernel)
set_option maxRecDepth 20000 in
theorem gX2_carry_X2_isNode : GoodIn wsX2_carry (va_wsS RX2 46 yX2_isNode wsX2_isNode) := goodIn_app (goodIn_of _ (by decide +kernel)) ggX2_carry_X2_isNode
set_option maxRecDepth 20000 in
theorem ggX2_carry_X0_joins : GoodIn wsX2_carry wsX0_joins := goodIn_r _ [12, 13, 14, 4, 15, 26, 27, 28, 29, 30, 31, 32, 33, 34] (by decide +kernel) (by decide +kernel)
set_option maxRecDepth 20000 in
theorem gX2_carry_X0_joins_n68 : GoodIn wsX2_carry (wsX0_joins) := ggX2_carry_X0_joins
set_option maxRecDepth 20000 in
theorem ggX2_carry_X2_spot : GoodIn wsX2_carry wsX2_spot := goodIn_r _ [15] (by decide +kernel) (by decide +kernel)
set_option maxRecDepth 20000 in
theorem gX2_carry_X2_spot : GoodIn wsX2_carry (va_wsS RX2 110 yX2_spot wsX2_spot) := goodIn_app (goodIn_of _ (by decide +kernel)) ggX2_carry_X2_spot
theorem dX2_carry_0 : decode cX2_carry 0 = .ok (.iload_n 1, 1) := by decide +kernel
theorem dX2_carry_1 : decode cX2_carry 1 = .ok (.invokestatic 46, 3) := by decide +kernel
theorem dX2_carry_4 : decode cX2_carry 4 = .ok (.ifCond .eq 10, 3) := by decide +kernel
theorem dX2_carry_7 : decode cX2_carry 7 = .ok (.iload_n 2, 1) := by decide +kernel
theorem dX2_carry_8 : decode cX2_carry 8 = .ok (.invokestatic 46, 3) := by decide +kernel
theorem dX2_carry_11 : decode cX2_carry 11 = .ok (.ifCond .ne 5, 3) := by decide +kernel
theorem dX2_carry_14 : decode cX2_carry 14 = .ok (.iconst (-1), 1) := by decide +kernel
theorem dX2_carry_15 : decode cX2_carry 15 = .ok (.ireturn, 1) := by decide +kernel
theorem dX2_carry_16 : decode cX2_carry 16 = .ok (.iload_n 1, 1) := by decide +kernel
theorem dX2_carry_17 : decode cX2_carry 17 = .ok (.iload_n 2, 1) := by decide +kernel
theorem dX2_carry_18 : decode cX2_carry 18 = .ok (.if_icmp .ne 6, 3) := by decide +kernel
theorem dX2_carry_21 : decode cX2_carry 21 = .ok (.bipush (-2), 2) := by decide +kernel
theorem dX2_carry_23 : decode cX2_carry 23 = .ok (.ireturn, 1) := by decide +kernel
theorem dX2_carry_24 : decode cX2_carry 24 = .ok (.aload_n 0, 1) := by decide +kernel
theorem dX2_carry_25 : decode cX2_carry 25 = .ok (.getfield 19, 3) := by decide +kernel
theorem dX2_carry_28 : decode cX2_carry 28 = .ok (.iload_n 1, 1) := by decide +kernel
theorem dX2_carry_29 : decode cX2_carry 29 = .ok (.iload_n 2, 1) := by decide +kernel
theorem dX2_carry_30 : decode cX2_carry 30 = .ok (.invokevirtual 68, 3) := by decide +kernel
theorem dX2_carry_33 : decode cX2_carry 33 = .ok (.ifCond .eq 23, 3) := by decide +kernel
theorem dX2_carry_36 : decode cX2_carry 36 = .ok (.aload_n 0, 1) := by decide +kernel
theorem dX2_carry_37 : decode cX2_carry 37 = .ok (.getfield 19, 3) := by decide +kernel
theorem dX2_carry_40 : decode cX2_carry 40 = .ok (.getfield 113, 3) := by decide +kernel
theorem dX2_carry_43 : decode cX2_carry 43 = .ok (.iload_n 1, 1) := by decide +kernel
theorem dX2_carry_44 : decode cX2_carry 44 = .ok (.iload_n 2, 1) := by decide +kernel
theorem dX2_carry_45 : decode cX2_carry 45 = .ok (.invokestatic 110, 3) := by decide +kernel
theorem dX2_carry_48 : decode cX2_carry 48 = .ok (.iaload, 1) := by decide +kernel
theorem dX2_carry_49 : decode cX2_carry 49 = .ok (.sipush 10000, 3) := by decide +kernel
theorem dX2_carry_52 : decode cX2_carry 52 = .ok (.iadd, 1) := by decide +kernel
theorem dX2_carry_53 : decode cX2_carry 53 = .ok (.goto 5, 3) := by decide +kernel
theorem dX2_carry_56 : decode cX2_carry 56 = .ok (.bipush (-6), 2) := by decide +kernel
theorem dX2_carry_58 : decode cX2_carry 58 = .ok (.ireturn, 1) := by decide +kernel
set_option maxRecDepth 20000 in
theorem ggX2_run_X2_isRule : GoodIn wsX2_run wsX2_isRule := goodIn_r _ [5, 6, 7, 4, 8] (by decide +kernel) (by decide +kernel)
set_option maxRecDepth 20000 in
theorem gX2_run_X2_isRule : GoodIn wsX2_run (va_wsS RX2 116 yX2_isRule wsX2_isRule) := goodIn_app (goodIn_of _ (by decide +kernel)) ggX2_run_X2_isRule
set_option maxRecDepth 20000 in
theorem ggX2_run_X2_isWithin : GoodIn wsX2_run wsX2_isWithin := goodIn_r _ [8] (by decide +kernel) (by decide +kernel)
set_option maxRecDepth 20000 in
theorem gX2_run_X2_isWithin : GoodIn wsX2_run (va_wsS RX2 50 yX2_isWithin wsX2_isWithin) := goodIn_app (goodIn_of _ (by decide +kernel)) ggX2_run_X2_isWithin
set_option maxRecDepth 20000 in
theorem ggX2_run_X0_goOn : GoodIn wsX2_run wsX0_goOn := goodIn_r _ [12, 13, 14, 15, 16, 10, 17, 18, 19, 20, 21, 22, 23, 24, 25, 26, 27, 28, 29, 30, 31, 32, 33, 34, 35, 36, 4, 37, 38, 39, 40, 41, 42, 43, 44, 45, 46, 47, 48, 49, 50, 51, 52, 53, 54, 55, 56, 57, 58, 59, 60, 61, 62, 63, 64, 65, 66, 67, 68, 69, 70, 71, 72, 73, 74, 75, 76, 77, 78, 79, 80, 81, 91, 92, 93, 94, 95, 96, 97, 98, 99] (by decide +kernel) (by decide +kernel)
set_option maxRecDepth 20000 in
theorem gX2_run_X0_goOn_n119 : GoodIn wsX2_run (wsX0_goOn) := ggX2_run_X0_goOn
theorem dX2_run_0 : decode cX2_run 0 = .ok (.iload_n 1, 1) := by decide +kernel
theorem dX2_run_1 : decode cX2_run 1 = .ok (.invokestatic 116, 3) := by decide +kernel
theorem dX2_run_4 : decode cX2_run 4 = .ok (.ifCond .eq 13, 3) := by decide +kernel
theorem dX2_run_7 : decode cX2_run 7 = .ok (.iload_n 2, 1) := by decide +kernel
theorem dX2_run_8 : decode cX2_run 8 = .ok (.iconst 1, 1) := by decide +kernel
theorem dX2_run_9 : decode cX2_run 9 = .ok (.bipush 50, 2) := by decide +kernel
theorem dX2_run_11 : decode cX2_run 11 = .ok (.invokestatic 50, 3) := by decide +kernel
theorem dX2_run_14 : decode cX2_run 14 = .ok (.ifCond .ne 6, 3) := by decide +kernel
theorem dX2_run_17 : decode cX2_run 17 = .ok (.bipush (-2), 2) := by decide +kernel
theorem dX2_run_19 : decode cX2_run 19 = .ok (.ireturn, 1) := by decide +kernel
theorem dX2_run_20 : decode cX2_run 20 = .ok (.aload_n 0, 1) := by decide +kernel
theorem dX2_run_21 : decode cX2_run 21 = .ok (.getfield 19, 3) := by decide +kernel
theorem dX2_run_24 : decode cX2_run 24 = .ok (.iload_n 1, 1) := by decide +kernel
theorem dX2_run_25 : decode cX2_run 25 = .ok (.iload_n 2, 1) := by decide +kernel
theorem dX2_run_26 : decode cX2_run 26 = .ok (.invokevirtual 119, 3) := by decide +kernel
theorem dX2_run_29 : decode cX2_run 29 = .ok (.ireturn, 1) := by decide +kernel
set_option maxRecDepth 20000 in
theorem ggX2_reset_X0_startAgain : GoodIn wsX2_reset wsX0_startAgain := goodIn_r _ [5, 6, 7, 8, 18, 19, 20, 21, 22, 23, 24, 25, 26] (by decide +kernel) (by decide +kernel)
set_option maxRecDepth 20000 in
theorem gX2_reset_X0_startAgain_n125 : GoodIn wsX2_reset (wsX0_startAgain) := ggX2_reset_X0_startAgain
theorem dX2_reset_0 : decode cX2_reset 0 = .ok (.aload_n 0, 1) := by decide +kernel
theorem dX2_reset_1 : decode cX2_reset 1 = .ok (.getfield 19, 3) := by decide +kernel
theorem dX2_reset_4 : decode cX2_reset 4 = .ok (.getfield 122, 3) := by decide +kernel
theorem dX2_reset_7 : decode cX2_reset 7 = .ok (.istore_n 1, 1) := by decide +kernel
theorem dX2_reset_8 : decode cX2_reset 8 = .ok (.aload_n 0, 1) := by decide +kernel
theorem dX2_reset_9 : decode cX2_reset 9 = .ok (.getfield 19, 3) := by decide +kernel
theorem dX2_reset_12 : decode cX2_reset 12 = .ok (.invokevirtual 125, 3) := by decide +kernel
theorem dX2_reset_15 : decode cX2_reset 15 = .ok (.iload_n 1, 1) := by decide +kernel
theorem dX2_reset_16 : decode cX2_reset 16 = .ok (.ireturn, 1) := by decide +kernel
set_option maxRecDepth 20000 in
theorem ggX2_uneven_X2_isPart : GoodIn wsX2_uneven wsX2_isPart := goodIn_r _ [5, 6, 7, 4, 8] (by decide +kernel) (by decide +kernel)
set_option maxRecDepth 20000 in
theorem gX2_uneven_X2_isPart : GoodIn wsX2_uneven (va_wsS RX2 128 yX2_isPart wsX2_isPart) := goodIn_app (goodIn_of _ (by decide +kernel)) ggX2_uneven_X2_isPart
set_option maxRecDepth 20000 in
theorem ggX2_uneven_X0_mostLoaded : GoodIn wsX2_uneven wsX0_mostLoaded := goodIn_r _ [12, 13, 14, 15, 10, 16, 17, 18, 41, 42, 43, 44, 45, 46, 47, 48, 49] (by decide +kernel) (by decide +kernel)
set_option maxRecDepth 20000 in
theorem gX2_uneven_X0_mostLoaded_n131 : GoodIn wsX2_uneven (wsX0_mostLoaded) := ggX2_uneven_X0_mostLoaded
set_option maxRecDepth 20000 in
theorem ggX2_uneven_X0_leastLoaded : GoodIn wsX2_uneven wsX0_leastLoaded := goodIn_r _ [21, 13, 14, 15, 10, 16, 17, 18, 41, 42, 43, 44, 45, 46, 47, 48, 49] (by decide +kernel) (by decide +kernel)
set_option maxRecDepth 20000 in
theorem gX2_uneven_X0_leastLoaded_n134 : GoodIn wsX2_uneven (wsX0_leastLoaded) := ggX2_uneven_X0_leastLoaded
set_option maxRecDepth 20000 in
theorem ggX2_uneven_X0_loadGap : GoodIn wsX2_uneven wsX0_loadGap := goodIn_r _ [16, 17, 18, 41, 42, 43, 44, 45, 46, 47, 48, 49] (by decide +kernel) (by decide +kernel)
set_option maxRecDepth 20000 in
theorem gX2_uneven_X0_loadGap_n137 : GoodIn wsX2_uneven (wsX0_loadGap) := ggX2_uneven_X0_loadGap
set_option maxRecDepth 20000 in
theorem ggX2_uneven_X2_partOf : GoodIn wsX2_uneven wsX2_partOf := goodIn_r _ [24, 25, 26, 4, 27, 28, 29, 30, 31] (by decide +kernel) (by decide +kernel)
set_option maxRecDepth 20000 in
theorem gX2_uneven_X2_partOf : GoodIn wsX2_uneven (va_wsS RX2 141 yX2_partOf wsX2_partOf) := goodIn_app (goodIn_of _ (by decide +kernel)) ggX2_uneven_X2_partOf
theorem dX2_uneven_0 : decode cX2_uneven 0 = .ok (.iload_n 1, 1) := by decide +kernel
theorem dX2_uneven_1 : decode cX2_uneven 1 = .ok (.invokestatic 128, 3) := by decide +kernel
theorem dX2_uneven_4 : decode cX2_uneven 4 = .ok (.ifCond .ne 6, 3) := by decide +kernel
theorem dX2_uneven_7 : decode cX2_uneven 7 = .ok (.bipush (-2), 2) := by decide +kernel
theorem dX2_uneven_9 : decode cX2_uneven 9 = .ok (.ireturn, 1) := by decide +kernel
theorem dX2_uneven_10 : decode cX2_uneven 10 = .ok (.aload_n 0, 1) := by decide +kernel
theorem dX2_uneven_11 : decode cX2_uneven 11 = .ok (.getfield 19, 3) := by decide +kernel
theorem dX2_uneven_14 : decode cX2_uneven 14 = .ok (.invokevirtual 131, 3) := by decide +kernel
theorem dX2_uneven_17 : decode cX2_uneven 17 = .ok (.istore_n 2, 1) := by decide +kernel
theorem dX2_uneven_18 : decode cX2_uneven 18 = .ok (.aload_n 0, 1) := by decide +kernel
theorem dX2_uneven_19 : decode cX2_uneven 19 = .ok (.getfield 19, 3) := by decide +kernel
theorem dX2_uneven_22 : decode cX2_uneven 22 = .ok (.invokevirtual 134, 3) := by decide +kernel
theorem dX2_uneven_25 : decode cX2_uneven 25 = .ok (.istore_n 3, 1) := by decide +kernel
theorem dX2_uneven_26 : decode cX2_uneven 26 = .ok (.aload_n 0, 1) := by decide +kernel
theorem dX2_uneven_27 : decode cX2_uneven 27 = .ok (.getfield 19, 3) := by decide +kernel
theorem dX2_uneven_30 : decode cX2_uneven 30 = .ok (.iload_n 2, 1) := by decide +kernel
theorem dX2_uneven_31 : decode cX2_uneven 31 = .ok (.iload_n 3, 1) := by decide +kernel
theorem dX2_uneven_32 : decode cX2_uneven 32 = .ok (.invokevirtual 137, 3) := by decide +kernel
theorem dX2_uneven_35 : decode cX2_uneven 35 = .ok (.aload_n 0, 1) := by decide +kernel
theorem dX2_uneven_36 : decode cX2_uneven 36 = .ok (.getfield 19, 3) := by decide +kernel
theorem dX2_uneven_39 : decode cX2_uneven 39 = .ok (.getfield 58, 3) := by decide +kernel
theorem dX2_uneven_42 : decode cX2_uneven 42 = .ok (.iload_n 2, 1) := by decide +kernel
theorem dX2_uneven_43 : decode cX2_uneven 43 = .ok (.iaload, 1) := by decide +kernel
theorem dX2_uneven_44 : decode cX2_uneven 44 = .ok (.i2l, 1) := by decide +kernel
theorem dX2_uneven_45 : decode cX2_uneven 45 = .ok (.aload_n 0, 1) := by decide +kernel
theorem dX2_uneven_46 : decode cX2_uneven 46 = .ok (.getfield 19, 3) := by decide +kernel
theorem dX2_uneven_49 : decode cX2_uneven 49 = .ok (.getfield 58, 3) := by decide +kernel
theorem dX2_uneven_52 : decode cX2_uneven 52 = .ok (.iload_n 3, 1) := by decide +kernel
theorem dX2_uneven_53 : decode cX2_uneven 53 = .ok (.iaload, 1) := by decide +kernel
theorem dX2_uneven_54 : decode cX2_uneven 54 = .ok (.i2l, 1) := by decide +kernel
theorem dX2_uneven_55 : decode cX2_uneven 55 = .ok (.lmul, 1) := by decide +kernel
theorem dX2_uneven_56 : decode cX2_uneven 56 = .ok (.iload_n 1, 1) := by decide +kernel
theorem dX2_uneven_57 : decode cX2_uneven 57 = .ok (.invokestatic 141, 3) := by decide +kernel
theorem dX2_uneven_60 : decode cX2_uneven 60 = .ok (.l2i, 1) := by decide +kernel
theorem dX2_uneven_61 : decode cX2_uneven 61 = .ok (.ireturn, 1) := by decide +kernel
set_option maxRecDepth 20000 in
theorem ggX2_share_X2_isNode : GoodIn wsX2_share wsX2_isNode := goodIn_r _ [5, 6, 7, 4, 8] (by decide +kernel) (by decide +kernel)
set_option maxRecDepth 20000 in
theorem gX2_share_X2_isNode : GoodIn wsX2_share (va_wsS RX2 46 yX2_isNode wsX2_isNode) := goodIn_app (goodIn_of _ (by decide +kernel)) ggX2_share_X2_isNode
set_option maxRecDepth 20000 in
theorem ggX2_share_X2_isPart : GoodIn wsX2_share wsX2_isPart := goodIn_r _ [11, 6, 7, 4, 8] (by decide +kernel) (by decide +kernel)
set_option maxRecDepth 20000 in
theorem gX2_share_X2_isPart : GoodIn wsX2_share (va_wsS RX2 128 yX2_isPart wsX2_isPart) := goodIn_app (goodIn_of _ (by decide +kernel)) ggX2_share_X2_isPart
set_option maxRecDepth 20000 in
theorem ggX2_share_X0_allJobs : GoodIn wsX2_share wsX0_allJobs := goodIn_r _ [15, 16, 40, 41, 42, 43, 44, 45, 46, 47, 48] (by decide +kernel) (by decide +kernel)
set_option maxRecDepth 20000 in
theorem gX2_share_X0_allJobs_n145 : GoodIn wsX2_share (wsX0_allJobs) := ggX2_share_X0_allJobs
set_option maxRecDepth 20000 in
theorem ggX2_share_X0_allSpeeds : GoodIn wsX2_share wsX0_allSpeeds := goodIn_r _ [19, 20, 40, 41, 42, 43, 44, 45, 46, 47, 48] (by decide +kernel) (by decide +kernel)
set_option maxRecDepth 20000 in
theorem gX2_share_X0_allSpeeds_n149 : GoodIn wsX2_share (wsX0_allSpeeds) := ggX2_share_X0_allSpeeds
set_option maxRecDepth 20000 in
theorem ggX2_share_X2_partOf : GoodIn wsX2_share wsX2_partOf := goodIn_r _ [23, 24, 25, 4, 26, 27, 28, 29, 30] (by decide +kernel) (by decide +kernel)
set_option maxRecDepth 20000 in
theorem gX2_share_X2_partOf : GoodIn wsX2_share (va_wsS RX2 141 yX2_partOf wsX2_partOf) := goodIn_app (goodIn_of _ (by decide +kernel)) ggX2_share_X2_partOf
theorem dX2_share_0 : decode cX2_share 0 = .ok (.iload_n 1, 1) := by decide +kernel
theorem dX2_share_1 : decode cX2_share 1 = .ok (.invokestatic 46, 3) := by decide +kernel
theorem dX2_share_4 : decode cX2_share 4 = .ok (.ifCond .ne 5, 3) := by decide +kernel
theorem dX2_share_7 : decode cX2_share 7 = .ok (.iconst (-1), 1) := by decide +kernel
theorem dX2_share_8 : decode cX2_share 8 = .ok (.ireturn, 1) := by decide +kernel
theorem dX2_share_9 : decode cX2_share 9 = .ok (.iload_n 2, 1) := by decide +kernel
theorem dX2_share_10 : decode cX2_share 10 = .ok (.invokestatic 128, 3) := by decide +kernel
theorem dX2_share_13 : decode cX2_share 13 = .ok (.ifCond .ne 6, 3) := by decide +kernel
theorem dX2_share_16 : decode cX2_share 16 = .ok (.bipush (-2), 2) := by decide +kernel
theorem dX2_share_18 : decode cX2_share 18 = .ok (.ireturn, 1) := by decide +kernel
theorem dX2_share_19 : decode cX2_share 19 = .ok (.aload_n 0, 1) := by decide +kernel
theorem dX2_share_20 : decode cX2_share 20 = .ok (.getfield 19, 3) := by decide +kernel
theorem dX2_share_23 : decode cX2_share 23 = .ok (.invokevirtual 145, 3) := by decide +kernel
theorem dX2_share_26 : decode cX2_share 26 = .ok (.lstore_n 3, 1) := by decide +kernel
theorem dX2_share_27 : decode cX2_share 27 = .ok (.lload_n 3, 1) := by decide +kernel
theorem dX2_share_28 : decode cX2_share 28 = .ok (.lconst 0, 1) := by decide +kernel
theorem dX2_share_29 : decode cX2_share 29 = .ok (.lcmp, 1) := by decide +kernel
theorem dX2_share_30 : decode cX2_share 30 = .ok (.ifCond .ge 6, 3) := by decide +kernel
theorem dX2_share_33 : decode cX2_share 33 = .ok (.bipush (-3), 2) := by decide +kernel
theorem dX2_share_35 : decode cX2_share 35 = .ok (.ireturn, 1) := by decide +kernel
theorem dX2_share_36 : decode cX2_share 36 = .ok (.lload_n 3, 1) := by decide +kernel
theorem dX2_share_37 : decode cX2_share 37 = .ok (.aload_n 0, 1) := by decide +kernel
theorem dX2_share_38 : decode cX2_share 38 = .ok (.getfield 19, 3) := by decide +kernel
theorem dX2_share_41 : decode cX2_share 41 = .ok (.getfield 58, 3) := by decide +kernel
theorem dX2_share_44 : decode cX2_share 44 = .ok (.iload_n 1, 1) := by decide +kernel
theorem dX2_share_45 : decode cX2_share 45 = .ok (.iaload, 1) := by decide +kernel
theorem dX2_share_46 : decode cX2_share 46 = .ok (.i2l, 1) := by decide +kernel
theorem dX2_share_47 : decode cX2_share 47 = .ok (.lmul, 1) := by decide +kernel
theorem dX2_share_48 : decode cX2_share 48 = .ok (.aload_n 0, 1) := by decide +kernel
theorem dX2_share_49 : decode cX2_share 49 = .ok (.getfield 19, 3) := by decide +kernel
theorem dX2_share_52 : decode cX2_share 52 = .ok (.invokevirtual 149, 3) := by decide +kernel
theorem dX2_share_55 : decode cX2_share 55 = .ok (.i2l, 1) := by decide +kernel
theorem dX2_share_56 : decode cX2_share 56 = .ok (.iload_n 2, 1) := by decide +kernel
theorem dX2_share_57 : decode cX2_share 57 = .ok (.invokestatic 141, 3) := by decide +kernel
theorem dX2_share_60 : decode cX2_share 60 = .ok (.l2i, 1) := by decide +kernel
theorem dX2_share_61 : decode cX2_share 61 = .ok (.ireturn, 1) := by decide +kernel
set_option maxRecDepth 20000 in
theorem ggX2_potential_X0_allJobs : GoodIn wsX2_potential wsX0_allJobs := goodIn_r _ [5, 6, 20, 21, 22, 23, 24, 25, 26, 27, 28] (by decide +kernel) (by decide +kernel)
set_option maxRecDepth 20000 in
theorem gX2_potential_X0_allJobs_n145 : GoodIn wsX2_potential (wsX0_allJobs) := ggX2_potential_X0_allJobs
set_option maxRecDepth 20000 in
theorem ggX2_potential_X0_allSpeeds : GoodIn wsX2_potential wsX0_allSpeeds := goodIn_r _ [9, 10, 20, 21, 22, 23, 24, 25, 26, 27, 28] (by decide +kernel) (by decide +kernel)
set_option maxRecDepth 20000 in
theorem gX2_potential_X0_allSpeeds_n149 : GoodIn wsX2_potential (wsX0_allSpeeds) := ggX2_potential_X0_allSpeeds
theorem dX2_potential_0 : decode cX2_potential 0 = .ok (.aload_n 0, 1) := by decide +kernel
theorem dX2_potential_1 : decode cX2_potential 1 = .ok (.getfield 19, 3) := by decide +kernel
theorem dX2_potential_4 : decode cX2_potential 4 = .ok (.invokevirtual 145, 3) := by decide +kernel
theorem dX2_potential_7 : decode cX2_potential 7 = .ok (.lstore_n 1, 1) := by decide +kernel
theorem dX2_potential_8 : decode cX2_potential 8 = .ok (.aload_n 0, 1) := by decide +kernel
theorem dX2_potential_9 : decode cX2_potential 9 = .ok (.getfield 19, 3) := by decide +kernel
theorem dX2_potential_12 : decode cX2_potential 12 = .ok (.invokevirtual 149, 3) := by decide +kernel
theorem dX2_potential_15 : decode cX2_potential 15 = .ok (.i2l, 1) := by decide +kernel
theorem dX2_potential_16 : decode cX2_potential 16 = .ok (.lstore_n 3, 1) := by decide +kernel
theorem dX2_potential_17 : decode cX2_potential 17 = .ok (.lconst 0, 1) := by decide +kernel
theorem dX2_potential_18 : decode cX2_potential 18 = .ok (.lstore 5, 2) := by decide +kernel
theorem dX2_potential_20 : decode cX2_potential 20 = .ok (.iconst 0, 1) := by decide +kernel
theorem dX2_potential_21 : decode cX2_potential 21 = .ok (.istore 7, 2) := by decide +kernel
theorem dX2_potential_23 : decode cX2_potential 23 = .ok (.iload 7, 2) := by decide +kernel
theorem dX2_potential_25 : decode cX2_potential 25 = .ok (.bipush 8, 2) := by decide +kernel
theorem dX2_potential_27 : decode cX2_potential 27 = .ok (.if_icmp .ge 48, 3) := by decide +kernel
theorem dX2_potential_30 : decode cX2_potential 30 = .ok (.aload_n 0, 1) := by decide +kernel
theorem dX2_potential_31 : decode cX2_potential 31 = .ok (.getfield 19, 3) := by decide +kernel
theorem dX2_potential_34 : decode cX2_potential 34 = .ok (.getfield 54, 3) := by decide +kernel
theorem dX2_potential_37 : decode cX2_potential 37 = .ok (.iload 7, 2) := by decide +kernel
theorem dX2_potential_39 : decode cX2_potential 39 = .ok (.iaload, 1) := by decide +kernel
theorem dX2_potential_40 : decode cX2_potential 40 = .ok (.i2l, 1) := by decide +kernel
theorem dX2_potential_41 : decode cX2_potential 41 = .ok (.lload_n 3, 1) := by decide +kernel
theorem dX2_potential_42 : decode cX2_potential 42 = .ok (.lmul, 1) := by decide +kernel
theorem dX2_potential_43 : decode cX2_potential 43 = .ok (.lload_n 1, 1) := by decide +kernel
theorem dX2_potential_44 : decode cX2_potential 44 = .ok (.aload_n 0, 1) := by decide +kernel
theorem dX2_potential_45 : decode cX2_potential 45 = .ok (.getfield 19, 3) := by decide +kernel
theorem dX2_potential_48 : decode cX2_potential 48 = .ok (.getfield 58, 3) := by decide +kernel
theorem dX2_potential_51 : decode cX2_potential 51 = .ok (.iload 7, 2) := by decide +kernel
theorem dX2_potential_53 : decode cX2_potential 53 = .ok (.iaload, 1) := by decide +kernel
theorem dX2_potential_54 : decode cX2_potential 54 = .ok (.i2l, 1) := by decide +kernel
theorem dX2_potential_55 : decode cX2_potential 55 = .ok (.lmul, 1) := by decide +kernel
theorem dX2_potential_56 : decode cX2_potential 56 = .ok (.lsub, 1) := by decide +kernel
theorem dX2_potential_57 : decode cX2_potential 57 = .ok (.lstore 8, 2) := by decide +kernel
theorem dX2_potential_59 : decode cX2_potential 59 = .ok (.lload 5, 2) := by decide +kernel
theorem dX2_potential_61 : decode cX2_potential 61 = .ok (.lload 8, 2) := by decide +kernel
theorem dX2_potential_63 : decode cX2_potential 63 = .ok (.lload 8, 2) := by decide +kernel
theorem dX2_potential_65 : decode cX2_potential 65 = .ok (.lmul, 1) := by decide +kernel
theorem dX2_potential_66 : decode cX2_potential 66 = .ok (.ladd, 1) := by decide +kernel
theorem dX2_potential_67 : decode cX2_potential 67 = .ok (.lstore 5, 2) := by decide +kernel
theorem dX2_potential_69 : decode cX2_potential 69 = .ok (.iinc 7 1, 3) := by decide +kernel
theorem dX2_potential_72 : decode cX2_potential 72 = .ok (.goto (-49), 3) := by decide +kernel
theorem dX2_potential_75 : decode cX2_potential 75 = .ok (.lload 5, 2) := by decide +kernel
theorem dX2_potential_77 : decode cX2_potential 77 = .ok (.lreturn, 1) := by decide +kernel
set_option maxRecDepth 20000 in
theorem ggX2_ideal_X2_isNode : GoodIn wsX2_ideal wsX2_isNode := goodIn_r _ [9, 10, 11, 8, 12] (by decide +kernel) (by decide +kernel)
set_option maxRecDepth 20000 in
theorem gX2_ideal_X2_isNode : GoodIn wsX2_ideal (va_wsS RX2 46 yX2_isNode wsX2_isNode) := goodIn_app (goodIn_of _ (by decide +kernel)) ggX2_ideal_X2_isNode
set_option maxRecDepth 20000 in
theorem ggX2_ideal_X2_isWithin : GoodIn wsX2_ideal wsX2_isWithin := goodIn_r _ [12] (by decide +kernel) (by decide +kernel)
set_option maxRecDepth 20000 in
theorem gX2_ideal_X2_isWithin : GoodIn wsX2_ideal (va_wsS RX2 50 yX2_isWithin wsX2_isWithin) := goodIn_app (goodIn_of _ (by decide +kernel)) ggX2_ideal_X2_isWithin
set_option maxRecDepth 20000 in
theorem ggX2_ideal_X2_isPart : GoodIn wsX2_ideal wsX2_isPart := goodIn_r _ [15, 10, 11, 8, 12] (by decide +kernel) (by decide +kernel)
set_option maxRecDepth 20000 in
theorem gX2_ideal_X2_isPart : GoodIn wsX2_ideal (va_wsS RX2 128 yX2_isPart wsX2_isPart) := goodIn_app (goodIn_of _ (by decide +kernel)) ggX2_ideal_X2_isPart
set_option maxRecDepth 20000 in
theorem ggX2_ideal_X0_nodesBelowZero : GoodIn wsX2_ideal wsX0_nodesBelowZero := goodIn_r _ [19, 20, 66, 67, 68, 69, 70, 71, 72, 73, 74] (by decide +kernel) (by decide +kernel)
set_option maxRecDepth 20000 in
theorem gX2_ideal_X0_nodesBelowZero_n156 : GoodIn wsX2_ideal (wsX0_nodesBelowZero) := ggX2_ideal_X0_nodesBelowZero
set_option maxRecDepth 20000 in
theorem ggX2_ideal_X0_measure : GoodIn wsX2_ideal wsX0_measure := goodIn_r _ [23, 24, 25, 26, 27, 28, 29, 30, 17, 31, 32, 66, 67, 68, 69, 70, 71, 72, 73, 74] (by decide +kernel) (by decide +kernel)
set_option maxRecDepth 20000 in
theorem gX2_ideal_X0_measure_n161 : GoodIn wsX2_ideal (wsX0_measure) := ggX2_ideal_X0_measure
set_option maxRecDepth 20000 in
theorem ggX2_ideal_X2_flowUncut : GoodIn wsX2_ideal wsX2_flowUncut := goodIn_r _ [36, 37, 5, 3, 38, 39, 40, 41, 42, 17, 43, 44, 45, 46, 8, 47, 57, 58, 59, 60, 61, 62, 63, 64, 65, 66, 67, 68, 69, 70, 71, 72, 73, 74] (by decide +kernel) (by decide +kernel)
set_option maxRecDepth 20000 in
theorem gX2_ideal_X2_flowUncut : GoodIn wsX2_ideal (wsV RX2 164 RX2 yX2_flowUncut wsX2_flowUncut) := goodIn_app (goodIn_of _ (by decide +kernel)) ggX2_ideal_X2_flowUncut
set_option maxRecDepth 20000 in
theorem ggX2_ideal_X2_partOf : GoodIn wsX2_ideal wsX2_partOf := goodIn_r _ [50, 51, 52, 8, 53, 54, 55, 26, 56] (by decide +kernel) (by decide +kernel)
set_option maxRecDepth 20000 in
theorem gX2_ideal_X2_partOf : GoodIn wsX2_ideal (va_wsS RX2 141 yX2_partOf wsX2_partOf) := goodIn_app (goodIn_of _ (by decide +kernel)) ggX2_ideal_X2_partOf
theorem dX2_ideal_0 : decode cX2_ideal 0 = .ok (.iload_n 1, 1) := by decide +kernel
theorem dX2_ideal_1 : decode cX2_ideal 1 = .ok (.invokestatic 46, 3) := by decide +kernel
theorem dX2_ideal_4 : decode cX2_ideal 4 = .ok (.ifCond .ne 7, 3) := by decide +kernel
theorem dX2_ideal_7 : decode cX2_ideal 7 = .ok (.ldc2_w 152, 3) := by decide +kernel
theorem dX2_ideal_10 : decode cX2_ideal 10 = .ok (.lreturn, 1) := by decide +kernel
theorem dX2_ideal_11 : decode cX2_ideal 11 = .ok (.iload_n 2, 1) := by decide +kernel
theorem dX2_ideal_12 : decode cX2_ideal 12 = .ok (.iconst 0, 1) := by decide +kernel
theorem dX2_ideal_13 : decode cX2_ideal 13 = .ok (.bipush 8, 2) := by decide +kernel
theorem dX2_ideal_15 : decode cX2_ideal 15 = .ok (.invokestatic 50, 3) := by decide +kernel
theorem dX2_ideal_18 : decode cX2_ideal 18 = .ok (.ifCond .eq 10, 3) := by decide +kernel
theorem dX2_ideal_21 : decode cX2_ideal 21 = .ok (.iload_n 3, 1) := by decide +kernel
theorem dX2_ideal_22 : decode cX2_ideal 22 = .ok (.invokestatic 128, 3) := by decide +kernel
theorem dX2_ideal_25 : decode cX2_ideal 25 = .ok (.ifCond .ne 7, 3) := by decide +kernel
theorem dX2_ideal_28 : decode cX2_ideal 28 = .ok (.ldc2_w 154, 3) := by decide +kernel
theorem dX2_ideal_31 : decode cX2_ideal 31 = .ok (.lreturn, 1) := by decide +kernel
theorem dX2_ideal_32 : decode cX2_ideal 32 = .ok (.aload_n 0, 1) := by decide +kernel
theorem dX2_ideal_33 : decode cX2_ideal 33 = .ok (.getfield 19, 3) := by decide +kernel
theorem dX2_ideal_36 : decode cX2_ideal 36 = .ok (.invokevirtual 156, 3) := by decide +kernel
theorem dX2_ideal_39 : decode cX2_ideal 39 = .ok (.ifCond .le 7, 3) := by decide +kernel
theorem dX2_ideal_42 : decode cX2_ideal 42 = .ok (.ldc2_w 159, 3) := by decide +kernel
theorem dX2_ideal_45 : decode cX2_ideal 45 = .ok (.lreturn, 1) := by decide +kernel
theorem dX2_ideal_46 : decode cX2_ideal 46 = .ok (.iconst 0, 1) := by decide +kernel
theorem dX2_ideal_47 : decode cX2_ideal 47 = .ok (.istore 4, 2) := by decide +kernel
theorem dX2_ideal_49 : decode cX2_ideal 49 = .ok (.iload 4, 2) := by decide +kernel
theorem dX2_ideal_51 : decode cX2_ideal 51 = .ok (.bipush 8, 2) := by decide +kernel
theorem dX2_ideal_53 : decode cX2_ideal 53 = .ok (.if_icmp .ge 27, 3) := by decide +kernel
theorem dX2_ideal_56 : decode cX2_ideal 56 = .ok (.aload_n 0, 1) := by decide +kernel
theorem dX2_ideal_57 : decode cX2_ideal 57 = .ok (.getfield 39, 3) := by decide +kernel
theorem dX2_ideal_60 : decode cX2_ideal 60 = .ok (.iload 4, 2) := by decide +kernel
theorem dX2_ideal_62 : decode cX2_ideal 62 = .ok (.aload_n 0, 1) := by decide +kernel
theorem dX2_ideal_63 : decode cX2_ideal 63 = .ok (.getfield 19, 3) := by decide +kernel
theorem dX2_ideal_66 : decode cX2_ideal 66 = .ok (.getfield 54, 3) := by decide +kernel
theorem dX2_ideal_69 : decode cX2_ideal 69 = .ok (.iload 4, 2) := by decide +kernel
theorem dX2_ideal_71 : decode cX2_ideal 71 = .ok (.iaload, 1) := by decide +kernel
theorem dX2_ideal_72 : decode cX2_ideal 72 = .ok (.i2l, 1) := by decide +kernel
theorem dX2_ideal_73 : decode cX2_ideal 73 = .ok (.lastore, 1) := by decide +kernel
theorem dX2_ideal_74 : decode cX2_ideal 74 = .ok (.iinc 4 1, 3) := by decide +kernel
theorem dX2_ideal_77 : decode cX2_ideal 77 = .ok (.goto (-28), 3) := by decide +kernel
theorem dX2_ideal_80 : decode cX2_ideal 80 = .ok (.aload_n 0, 1) := by decide +kernel
theorem dX2_ideal_81 : decode cX2_ideal 81 = .ok (.getfield 19, 3) := by decide +kernel
theorem dX2_ideal_84 : decode cX2_ideal 84 = .ok (.invokevirtual 161, 3) := by decide +kernel
theorem dX2_ideal_87 : decode cX2_ideal 87 = .ok (.istore 4, 2) := by decide +kernel
theorem dX2_ideal_89 : decode cX2_ideal 89 = .ok (.lconst 1, 1) := by decide +kernel
theorem dX2_ideal_90 : decode cX2_ideal 90 = .ok (.lstore 5, 2) := by decide +kernel
theorem dX2_ideal_92 : decode cX2_ideal 92 = .ok (.iconst 0, 1) := by decide +kernel
theorem dX2_ideal_93 : decode cX2_ideal 93 = .ok (.istore 7, 2) := by decide +kernel
theorem dX2_ideal_95 : decode cX2_ideal 95 = .ok (.iload 7, 2) := by decide +kernel
theorem dX2_ideal_97 : decode cX2_ideal 97 = .ok (.iload_n 2, 1) := by decide +kernel
theorem dX2_ideal_98 : decode cX2_ideal 98 = .ok (.if_icmp .ge 23, 3) := by decide +kernel
theorem dX2_ideal_101 : decode cX2_ideal 101 = .ok (.aload_n 0, 1) := by decide +kernel
theorem dX2_ideal_102 : decode cX2_ideal 102 = .ok (.iload 4, 2) := by decide +kernel
theorem dX2_ideal_104 : decode cX2_ideal 104 = .ok (.invokevirtual 164, 3) := by decide +kernel
theorem dX2_ideal_107 : decode cX2_ideal 107 = .ok (.lload 5, 2) := by decide +kernel
theorem dX2_ideal_109 : decode cX2_ideal 109 = .ok (.iload 4, 2) := by decide +kernel
theorem dX2_ideal_111 : decode cX2_ideal 111 = .ok (.i2l, 1) := by decide +kernel
theorem dX2_ideal_112 : decode cX2_ideal 112 = .ok (.lmul, 1) := by decide +kernel
theorem dX2_ideal_113 : decode cX2_ideal 113 = .ok (.lstore 5, 2) := by decide +kernel
theorem dX2_ideal_115 : decode cX2_ideal 115 = .ok (.iinc 7 1, 3) := by decide +kernel
theorem dX2_ideal_118 : decode cX2_ideal 118 = .ok (.goto (-23), 3) := by decide +kernel
theorem dX2_ideal_121 : decode cX2_ideal 121 = .ok (.aload_n 0, 1) := by decide +kernel
theorem dX2_ideal_122 : decode cX2_ideal 122 = .ok (.getfield 39, 3) := by decide +kernel
theorem dX2_ideal_125 : decode cX2_ideal 125 = .ok (.iload_n 1, 1) := by decide +kernel
theorem dX2_ideal_126 : decode cX2_ideal 126 = .ok (.laload, 1) := by decide +kernel
theorem dX2_ideal_127 : decode cX2_ideal 127 = .ok (.lload 5, 2) := by decide +kernel
theorem dX2_ideal_129 : decode cX2_ideal 129 = .ok (.iload_n 3, 1) := by decide +kernel
theorem dX2_ideal_130 : decode cX2_ideal 130 = .ok (.invokestatic 141, 3) := by decide +kernel
theorem dX2_ideal_133 : decode cX2_ideal 133 = .ok (.lreturn, 1) := by decide +kernel
set_option maxRecDepth 20000 in
theorem ggX2_flowUncut_X0_joins : GoodIn wsX2_flowUncut wsX0_joins := goodIn_r _ [11, 12, 13, 14, 15, 25, 26, 27, 28, 29, 30, 31, 32, 33] (by decide +kernel) (by decide +kernel)
set_option maxRecDepth 20000 in
theorem gX2_flowUncut_X0_joins_n68 : GoodIn wsX2_flowUncut (wsX0_joins) := ggX2_flowUncut_X0_joins
theorem dX2_flowUncut_0 : decode cX2_flowUncut 0 = .ok (.iconst 0, 1) := by decide +kernel
theorem dX2_flowUncut_1 : decode cX2_flowUncut 1 = .ok (.istore_n 2, 1) := by decide +kernel
theorem dX2_flowUncut_2 : decode cX2_flowUncut 2 = .ok (.iload_n 2, 1) := by decide +kernel
theorem dX2_flowUncut_3 : decode cX2_flowUncut 3 = .ok (.bipush 8, 2) := by decide +kernel
theorem dX2_flowUncut_5 : decode cX2_flowUncut 5 = .ok (.if_icmp .ge 24, 3) := by decide +kernel
theorem dX2_flowUncut_8 : decode cX2_flowUncut 8 = .ok (.aload_n 0, 1) := by decide +kernel
theorem dX2_flowUncut_9 : decode cX2_flowUncut 9 = .ok (.getfield 43, 3) := by decide +kernel
theorem dX2_flowUncut_12 : decode cX2_flowUncut 12 = .ok (.iload_n 2, 1) := by decide +kernel
theorem dX2_flowUncut_13 : decode cX2_flowUncut 13 = .ok (.aload_n 0, 1) := by decide +kernel
theorem dX2_flowUncut_14 : decode cX2_flowUncut 14 = .ok (.getfield 39, 3) := by decide +kernel
theorem dX2_flowUncut_17 : decode cX2_flowUncut 17 = .ok (.iload_n 2, 1) := by decide +kernel
theorem dX2_flowUncut_18 : decode cX2_flowUncut 18 = .ok (.laload, 1) := by decide +kernel
theorem dX2_flowUncut_19 : decode cX2_flowUncut 19 = .ok (.iload_n 1, 1) := by decide +kernel
theorem dX2_flowUncut_20 : decode cX2_flowUncut 20 = .ok (.i2l, 1) := by decide +kernel
theorem dX2_flowUncut_21 : decode cX2_flowUncut 21 = .ok (.lmul, 1) := by decide +kernel
theorem dX2_flowUncut_22 : decode cX2_flowUncut 22 = .ok (.lastore, 1) := by decide +kernel
theorem dX2_flowUncut_23 : decode cX2_flowUncut 23 = .ok (.iinc 2 1, 3) := by decide +kernel
theorem dX2_flowUncut_26 : decode cX2_flowUncut 26 = .ok (.goto (-24), 3) := by decide +kernel
theorem dX2_flowUncut_29 : decode cX2_flowUncut 29 = .ok (.iconst 0, 1) := by decide +kernel
theorem dX2_flowUncut_30 : decode cX2_flowUncut 30 = .ok (.istore_n 2, 1) := by decide +kernel
theorem dX2_flowUncut_31 : decode cX2_flowUncut 31 = .ok (.iload_n 2, 1) := by decide +kernel
theorem dX2_flowUncut_32 : decode cX2_flowUncut 32 = .ok (.bipush 8, 2) := by decide +kernel
theorem dX2_flowUncut_34 : decode cX2_flowUncut 34 = .ok (.if_icmp .ge 96, 3) := by decide +kernel
theorem dX2_flowUncut_37 : decode cX2_flowUncut 37 = .ok (.iload_n 2, 1) := by decide +kernel
theorem dX2_flowUncut_38 : decode cX2_flowUncut 38 = .ok (.iconst 1, 1) := by decide +kernel
theorem dX2_flowUncut_39 : decode cX2_flowUncut 39 = .ok (.iadd, 1) := by decide +kernel
theorem dX2_flowUncut_40 : decode cX2_flowUncut 40 = .ok (.istore_n 3, 1) := by decide +kernel
theorem dX2_flowUncut_41 : decode cX2_flowUncut 41 = .ok (.iload_n 3, 1) := by decide +kernel
theorem dX2_flowUncut_42 : decode cX2_flowUncut 42 = .ok (.bipush 8, 2) := by decide +kernel
theorem dX2_flowUncut_44 : decode cX2_flowUncut 44 = .ok (.if_icmp .ge 80, 3) := by decide +kernel
theorem dX2_flowUncut_47 : decode cX2_flowUncut 47 = .ok (.aload_n 0, 1) := by decide +kernel
theorem dX2_flowUncut_48 : decode cX2_flowUncut 48 = .ok (.getfield 19, 3) := by decide +kernel
theorem dX2_flowUncut_51 : decode cX2_flowUncut 51 = .ok (.iload_n 2, 1) := by decide +kernel
theorem dX2_flowUncut_52 : decode cX2_flowUncut 52 = .ok (.iload_n 3, 1) := by decide +kernel
theorem dX2_flowUncut_53 : decode cX2_flowUncut 53 = .ok (.invokevirtual 68, 3) := by decide +kernel
theorem dX2_flowUncut_56 : decode cX2_flowUncut 56 = .ok (.ifCond .eq 62, 3) := by decide +kernel
theorem dX2_flowUncut_59 : decode cX2_flowUncut 59 = .ok (.aload_n 0, 1) := by decide +kernel
theorem dX2_flowUncut_60 : decode cX2_flowUncut 60 = .ok (.getfield 39, 3) := by decide +kernel
theorem dX2_flowUncut_63 : decode cX2_flowUncut 63 = .ok (.iload_n 2, 1) := by decide +kernel
theorem dX2_flowUncut_64 : decode cX2_flowUncut 64 = .ok (.laload, 1) := by decide +kernel
theorem dX2_flowUncut_65 : decode cX2_flowUncut 65 = .ok (.aload_n 0, 1) := by decide +kernel
theorem dX2_flowUncut_66 : decode cX2_flowUncut 66 = .ok (.getfield 19, 3) := by decide +kernel
theorem dX2_flowUncut_69 : decode cX2_flowUncut 69 = .ok (.getfield 58, 3) := by decide +kernel
theorem dX2_flowUncut_72 : decode cX2_flowUncut 72 = .ok (.iload_n 3, 1) := by decide +kernel
theorem dX2_flowUncut_73 : decode cX2_flowUncut 73 = .ok (.iaload, 1) := by decide +kernel
theorem dX2_flowUncut_74 : decode cX2_flowUncut 74 = .ok (.i2l, 1) := by decide +kernel
theorem dX2_flowUncut_75 : decode cX2_flowUncut 75 = .ok (.lmul, 1) := by decide +kernel
theorem dX2_flowUncut_76 : decode cX2_flowUncut 76 = .ok (.aload_n 0, 1) := by decide +kernel
theorem dX2_flowUncut_77 : decode cX2_flowUncut 77 = .ok (.getfield 39, 3) := by decide +kernel
theorem dX2_flowUncut_80 : decode cX2_flowUncut 80 = .ok (.iload_n 3, 1) := by decide +kernel
theorem dX2_flowUncut_81 : decode cX2_flowUncut 81 = .ok (.laload, 1) := by decide +kernel
theorem dX2_flowUncut_82 : decode cX2_flowUncut 82 = .ok (.aload_n 0, 1) := by decide +kernel
theorem dX2_flowUncut_83 : decode cX2_flowUncut 83 = .ok (.getfield 19, 3) := by decide +kernel
theorem dX2_flowUncut_86 : decode cX2_flowUncut 86 = .ok (.getfield 58, 3) := by decide +kernel
theorem dX2_flowUncut_89 : decode cX2_flowUncut 89 = .ok (.iload_n 2, 1) := by decide +kernel
theorem dX2_flowUncut_90 : decode cX2_flowUncut 90 = .ok (.iaload, 1) := by decide +kernel
theorem dX2_flowUncut_91 : decode cX2_flowUncut 91 = .ok (.i2l, 1) := by decide +kernel
theorem dX2_flowUncut_92 : decode cX2_flowUncut 92 = .ok (.lmul, 1) := by decide +kernel
theorem dX2_flowUncut_93 : decode cX2_flowUncut 93 = .ok (.lsub, 1) := by decide +kernel
theorem dX2_flowUncut_94 : decode cX2_flowUncut 94 = .ok (.lstore 4, 2) := by decide +kernel
theorem dX2_flowUncut_96 : decode cX2_flowUncut 96 = .ok (.aload_n 0, 1) := by decide +kernel
theorem dX2_flowUncut_97 : decode cX2_flowUncut 97 = .ok (.getfield 43, 3) := by decide +kernel
theorem dX2_flowUncut_100 : decode cX2_flowUncut 100 = .ok (.iload_n 2, 1) := by decide +kernel
theorem dX2_flowUncut_101 : decode cX2_flowUncut 101 = .ok (.dup2, 1) := by decide +kernel
theorem dX2_flowUncut_102 : decode cX2_flowUncut 102 = .ok (.laload, 1) := by decide +kernel
theorem dX2_flowUncut_103 : decode cX2_flowUncut 103 = .ok (.lload 4, 2) := by decide +kernel
theorem dX2_flowUncut_105 : decode cX2_flowUncut 105 = .ok (.lsub, 1) := by decide +kernel
theorem dX2_flowUncut_106 : decode cX2_flowUncut 106 = .ok (.lastore, 1) := by decide +kernel
theorem dX2_flowUncut_107 : decode cX2_flowUncut 107 = .ok (.aload_n 0, 1) := by decide +kernel
theorem dX2_flowUncut_108 : decode cX2_flowUncut 108 = .ok (.getfield 43, 3) := by decide +kernel
theorem dX2_flowUncut_111 : decode cX2_flowUncut 111 = .ok (.iload_n 3, 1) := by decide +kernel
theorem dX2_flowUncut_112 : decode cX2_flowUncut 112 = .ok (.dup2, 1) := by decide +kernel
theorem dX2_flowUncut_113 : decode cX2_flowUncut 113 = .ok (.laload, 1) := by decide +kernel
theorem dX2_flowUncut_114 : decode cX2_flowUncut 114 = .ok (.lload 4, 2) := by decide +kernel
theorem dX2_flowUncut_116 : decode cX2_flowUncut 116 = .ok (.ladd, 1) := by decide +kernel
theorem dX2_flowUncut_117 : decode cX2_flowUncut 117 = .ok (.lastore, 1) := by decide +kernel
theorem dX2_flowUncut_118 : decode cX2_flowUncut 118 = .ok (.iinc 3 1, 3) := by decide +kernel
theorem dX2_flowUncut_121 : decode cX2_flowUncut 121 = .ok (.goto (-80), 3) := by decide +kernel
theorem dX2_flowUncut_124 : decode cX2_flowUncut 124 = .ok (.iinc 2 1, 3) := by decide +kernel
theorem dX2_flowUncut_127 : decode cX2_flowUncut 127 = .ok (.goto (-96), 3) := by decide +kernel
theorem dX2_flowUncut_130 : decode cX2_flowUncut 130 = .ok (.aload_n 0, 1) := by decide +kernel
theorem dX2_flowUncut_131 : decode cX2_flowUncut 131 = .ok (.getfield 43, 3) := by decide +kernel
theorem dX2_flowUncut_134 : decode cX2_flowUncut 134 = .ok (.iconst 0, 1) := by decide +kernel
theorem dX2_flowUncut_135 : decode cX2_flowUncut 135 = .ok (.aload_n 0, 1) := by decide +kernel
theorem dX2_flowUncut_136 : decode cX2_flowUncut 136 = .ok (.getfield 39, 3) := by decide +kernel
theorem dX2_flowUncut_139 : decode cX2_flowUncut 139 = .ok (.iconst 0, 1) := by decide +kernel
theorem dX2_flowUncut_140 : decode cX2_flowUncut 140 = .ok (.bipush 8, 2) := by decide +kernel
theorem dX2_flowUncut_142 : decode cX2_flowUncut 142 = .ok (.invokestatic 167, 3) := by decide +kernel
theorem dX2_flowUncut_145 : decode cX2_flowUncut 145 = .ok (.return_, 1) := by decide +kernel
set_option maxRecDepth 20000 in
theorem ggX2_until_X2_isRule : GoodIn wsX2_until wsX2_isRule := goodIn_r _ [6, 7, 8, 5, 9] (by decide +kernel) (by decide +kernel)
set_option maxRecDepth 20000 in
theorem gX2_until_X2_isRule : GoodIn wsX2_until (va_wsS RX2 116 yX2_isRule wsX2_isRule) := goodIn_app (goodIn_of _ (by decide +kernel)) ggX2_until_X2_isRule
set_option maxRecDepth 20000 in
theorem ggX2_until_X2_isWithin : GoodIn wsX2_until wsX2_isWithin := goodIn_r _ [9] (by decide +kernel) (by decide +kernel)
set_option maxRecDepth 20000 in
theorem gX2_until_X2_isWithin : GoodIn wsX2_until (va_wsS RX2 50 yX2_isWithin wsX2_isWithin) := goodIn_app (goodIn_of _ (by decide +kernel)) ggX2_until_X2_isWithin
set_option maxRecDepth 20000 in
theorem ggX2_until_X0_become : GoodIn wsX2_until wsX0_become := goodIn_r _ [13, 14, 15, 16, 17, 18, 19, 20, 21, 22, 23, 24, 25, 115, 116, 117, 118, 119, 120, 121, 122, 123] (by decide +kernel) (by decide +kernel)
set_option maxRecDepth 20000 in
theorem gX2_until_X0_become_n173 : GoodIn wsX2_until (wsX0_become) := ggX2_until_X0_become
set_option maxRecDepth 20000 in
theorem ggX2_until_X0_isUnevenAtMost : GoodIn wsX2_until wsX0_isUnevenAtMost := goodIn_r _ [28, 14, 29, 30, 31, 11, 32, 33, 34, 35, 36, 19, 37, 38, 39, 40, 115, 116, 117, 118, 119, 120, 121, 122, 123] (by decide +kernel) (by decide +kernel)
set_option maxRecDepth 20000 in
theorem gX2_until_X0_isUnevenAtMost_n177 : GoodIn wsX2_until (wsX0_isUnevenAtMost) := ggX2_until_X0_isUnevenAtMost
set_option maxRecDepth 20000 in
theorem ggX2_until_X0_goOn : GoodIn wsX2_until wsX0_goOn := goodIn_r _ [43, 25, 44, 45, 46, 11, 47, 48, 49, 50, 51, 52, 53, 54, 55, 56, 57, 58, 59, 21, 60, 61, 62, 63, 22, 64, 5, 65, 66, 67, 68, 69, 23, 19, 14, 70, 71, 72, 73, 74, 75, 76, 77, 78, 79, 80, 81, 82, 83, 84, 85, 86, 87, 88, 89, 90, 91, 92, 93, 94, 95, 96, 97, 98, 99, 100, 101, 20, 102, 103, 104, 105, 115, 116, 117, 118, 119, 120, 121, 122, 123] (by decide +kernel) (by decide +kernel)
set_option maxRecDepth 20000 in
theorem gX2_until_X0_goOn_n119 : GoodIn wsX2_until (wsX0_goOn) := ggX2_until_X0_goOn
theorem dX2_until_0 : decode cX2_until 0 = .ok (.iload_n 1, 1) := by decide +kernel
theorem dX2_until_1 : decode cX2_until 1 = .ok (.invokestatic 116, 3) := by decide +kernel
theorem dX2_until_4 : decode cX2_until 4 = .ok (.ifCond .eq 13, 3) := by decide +kernel
theorem dX2_until_7 : decode cX2_until 7 = .ok (.iload_n 2, 1) := by decide +kernel
theorem dX2_until_8 : decode cX2_until 8 = .ok (.iconst 0, 1) := by decide +kernel
theorem dX2_until_9 : decode cX2_until 9 = .ok (.bipush 99, 2) := by decide +kernel
theorem dX2_until_11 : decode cX2_until 11 = .ok (.invokestatic 50, 3) := by decide +kernel
theorem dX2_until_14 : decode cX2_until 14 = .ok (.ifCond .ne 6, 3) := by decide +kernel
theorem dX2_until_17 : decode cX2_until 17 = .ok (.bipush (-2), 2) := by decide +kernel
theorem dX2_until_19 : decode cX2_until 19 = .ok (.ireturn, 1) := by decide +kernel
theorem dX2_until_20 : decode cX2_until 20 = .ok (.aload_n 0, 1) := by decide +kernel
theorem dX2_until_21 : decode cX2_until 21 = .ok (.getfield 33, 3) := by decide +kernel
theorem dX2_until_24 : decode cX2_until 24 = .ok (.aload_n 0, 1) := by decide +kernel
theorem dX2_until_25 : decode cX2_until 25 = .ok (.getfield 19, 3) := by decide +kernel
theorem dX2_until_28 : decode cX2_until 28 = .ok (.invokevirtual 173, 3) := by decide +kernel
theorem dX2_until_31 : decode cX2_until 31 = .ok (.iconst 0, 1) := by decide +kernel
theorem dX2_until_32 : decode cX2_until 32 = .ok (.istore_n 3, 1) := by decide +kernel
theorem dX2_until_33 : decode cX2_until 33 = .ok (.iload_n 3, 1) := by decide +kernel
theorem dX2_until_34 : decode cX2_until 34 = .ok (.sipush 200, 3) := by decide +kernel
theorem dX2_until_37 : decode cX2_until 37 = .ok (.if_icmp .gt 32, 3) := by decide +kernel
theorem dX2_until_40 : decode cX2_until 40 = .ok (.aload_n 0, 1) := by decide +kernel
theorem dX2_until_41 : decode cX2_until 41 = .ok (.getfield 33, 3) := by decide +kernel
theorem dX2_until_44 : decode cX2_until 44 = .ok (.iload_n 2, 1) := by decide +kernel
theorem dX2_until_45 : decode cX2_until 45 = .ok (.invokevirtual 177, 3) := by decide +kernel
theorem dX2_until_48 : decode cX2_until 48 = .ok (.ifCond .eq 5, 3) := by decide +kernel
theorem dX2_until_51 : decode cX2_until 51 = .ok (.iload_n 3, 1) := by decide +kernel
theorem dX2_until_52 : decode cX2_until 52 = .ok (.ireturn, 1) := by decide +kernel
theorem dX2_until_53 : decode cX2_until 53 = .ok (.aload_n 0, 1) := by decide +kernel
theorem dX2_until_54 : decode cX2_until 54 = .ok (.getfield 33, 3) := by decide +kernel
theorem dX2_until_57 : decode cX2_until 57 = .ok (.iload_n 1, 1) := by decide +kernel
theorem dX2_until_58 : decode cX2_until 58 = .ok (.iconst 1, 1) := by decide +kernel
theorem dX2_until_59 : decode cX2_until 59 = .ok (.invokevirtual 119, 3) := by decide +kernel
theorem dX2_until_62 : decode cX2_until 62 = .ok (.pop, 1) := by decide +kernel
theorem dX2_until_63 : decode cX2_until 63 = .ok (.iinc 3 1, 3) := by decide +kernel
theorem dX2_until_66 : decode cX2_until 66 = .ok (.goto (-33), 3) := by decide +kernel
theorem dX2_until_69 : decode cX2_until 69 = .ok (.bipush (-6), 2) := by decide +kernel
theorem dX2_until_71 : decode cX2_until 71 = .ok (.ireturn, 1) := by decide +kernel
set_option maxRecDepth 20000 in
theorem ggX2_ring_X2_isRule : GoodIn wsX2_ring wsX2_isRule := goodIn_r _ [4, 5, 6, 3, 7] (by decide +kernel) (by decide +kernel)
set_option maxRecDepth 20000 in
theorem gX2_ring_X2_isRule : GoodIn wsX2_ring (va_wsS RX2 116 yX2_isRule wsX2_isRule) := goodIn_app (goodIn_of _ (by decide +kernel)) ggX2_ring_X2_isRule
set_option maxRecDepth 20000 in
theorem ggX2_ring_X2_isWithin : GoodIn wsX2_ring wsX2_isWithin := goodIn_r _ [7] (by decide +kernel) (by decide +kernel)
set_option maxRecDepth 20000 in
theorem gX2_ring_X2_isWithin : GoodIn wsX2_ring (va_wsS RX2 50 yX2_isWithin wsX2_isWithin) := goodIn_app (goodIn_of _ (by decide +kernel)) ggX2_ring_X2_isWithin
set_option maxRecDepth 20000 in
theorem ggX2_ring_X2_ringLength : GoodIn wsX2_ring wsX2_ringLength := goodIn_r _ [11, 12, 13, 14, 15, 16, 17, 18, 19, 20, 21, 22, 23, 24, 25, 26, 27, 28, 29, 30, 31, 32, 33, 34, 35, 36, 37, 38, 39, 40, 41, 42, 43, 44, 45, 46, 47, 48, 49, 50, 51, 52, 53, 54, 3, 55, 56, 57, 58, 59, 60, 61, 62, 63, 64, 65, 66, 67, 68, 69, 70, 71, 72, 73, 74, 75, 76, 77, 78, 79, 80, 81, 82, 83, 84, 85, 86, 87, 88, 89, 90, 91, 92, 93, 94, 95, 96, 97, 98, 103, 104, 105, 106, 107, 108, 109, 110, 111, 112, 113, 114, 115, 116, 117, 118, 119, 120] (by decide +kernel) (by decide +kernel)
set_option maxRecDepth 20000 in
theorem gX2_ring_X2_ringLength : GoodIn wsX2_ring (wsV RX2 180 RX2 yX2_ringLength wsX2_ringLength) := goodIn_app (goodIn_of _ (by decide +kernel)) ggX2_ring_X2_ringLength
set_option maxRecDepth 20000 in
theorem ggX2_ring_X2_ringStart : GoodIn wsX2_ring wsX2_ringStart := goodIn_r _ [102, 14, 13, 12, 15, 16, 17, 18, 19, 20, 21, 22, 23, 24, 25, 26, 27, 28, 29, 30, 31, 32, 33, 34, 35, 36, 37, 38, 39, 40, 41, 42, 43, 44, 45, 46, 47, 48, 49, 50, 51, 52, 53, 54, 3, 55, 56, 57, 58, 59, 60, 61, 62, 63, 64, 65, 66, 67, 68, 69, 70, 71, 72, 73, 74, 75, 76, 77, 78, 79, 80, 81, 82, 83, 84, 85, 86, 87, 88, 89, 90, 91, 92, 93, 94, 95, 96, 97, 98, 103, 104, 105, 106, 107, 108, 109, 110, 111, 112, 113, 114, 115, 116, 117, 118, 119, 120] (by decide +kernel) (by decide +kernel)
set_option maxRecDepth 20000 in
theorem gX2_ring_X2_ringStart : GoodIn wsX2_ring (wsV RX2 183 RX2 yX2_ringStart wsX2_ringStart) := goodIn_app (goodIn_of _ (by decide +kernel)) ggX2_ring_X2_ringStart
theorem dX2_ring_0 : decode cX2_ring 0 = .ok (.iload_n 1, 1) := by decide +kernel
theorem dX2_ring_1 : decode cX2_ring 1 = .ok (.invokestatic 116, 3) := by decide +kernel
theorem dX2_ring_4 : decode cX2_ring 4 = .ok (.ifCond .eq 12, 3) := by decide +kernel
theorem dX2_ring_7 : decode cX2_ring 7 = .ok (.iload_n 2, 1) := by decide +kernel
theorem dX2_ring_8 : decode cX2_ring 8 = .ok (.iconst 0, 1) := by decide +kernel
theorem dX2_ring_9 : decode cX2_ring 9 = .ok (.iconst 1, 1) := by decide +kernel
theorem dX2_ring_10 : decode cX2_ring 10 = .ok (.invokestatic 50, 3) := by decide +kernel
theorem dX2_ring_13 : decode cX2_ring 13 = .ok (.ifCond .ne 6, 3) := by decide +kernel
theorem dX2_ring_16 : decode cX2_ring 16 = .ok (.bipush (-2), 2) := by decide +kernel
theorem dX2_ring_18 : decode cX2_ring 18 = .ok (.ireturn, 1) := by decide +kernel
theorem dX2_ring_19 : decode cX2_ring 19 = .ok (.aload_n 0, 1) := by decide +kernel
theorem dX2_ring_20 : decode cX2_ring 20 = .ok (.iload_n 1, 1) := by decide +kernel
theorem dX2_ring_21 : decode cX2_ring 21 = .ok (.invokevirtual 180, 3) := by decide +kernel
theorem dX2_ring_24 : decode cX2_ring 24 = .ok (.istore_n 3, 1) := by decide +kernel
theorem dX2_ring_25 : decode cX2_ring 25 = .ok (.iload_n 3, 1) := by decide +kernel
theorem dX2_ring_26 : decode cX2_ring 26 = .ok (.bipush (-6), 2) := by decide +kernel
theorem dX2_ring_28 : decode cX2_ring 28 = .ok (.if_icmp .ne 6, 3) := by decide +kernel
theorem dX2_ring_31 : decode cX2_ring 31 = .ok (.bipush (-6), 2) := by decide +kernel
theorem dX2_ring_33 : decode cX2_ring 33 = .ok (.ireturn, 1) := by decide +kernel
theorem dX2_ring_34 : decode cX2_ring 34 = .ok (.aload_n 0, 1) := by decide +kernel
theorem dX2_ring_35 : decode cX2_ring 35 = .ok (.iload_n 1, 1) := by decide +kernel
theorem dX2_ring_36 : decode cX2_ring 36 = .ok (.iload_n 3, 1) := by decide +kernel
theorem dX2_ring_37 : decode cX2_ring 37 = .ok (.invokevirtual 183, 3) := by decide +kernel
theorem dX2_ring_40 : decode cX2_ring 40 = .ok (.istore 4, 2) := by decide +kernel
theorem dX2_ring_42 : decode cX2_ring 42 = .ok (.iload 4, 2) := by decide +kernel
theorem dX2_ring_44 : decode cX2_ring 44 = .ok (.bipush (-6), 2) := by decide +kernel
theorem dX2_ring_46 : decode cX2_ring 46 = .ok (.if_icmp .eq 7, 3) := by decide +kernel
theorem dX2_ring_49 : decode cX2_ring 49 = .ok (.iload_n 2, 1) := by decide +kernel
theorem dX2_ring_50 : decode cX2_ring 50 = .ok (.ifCond .ne 6, 3) := by decide +kernel
theorem dX2_ring_53 : decode cX2_ring 53 = .ok (.iload 4, 2) := by decide +kernel
theorem dX2_ring_55 : decode cX2_ring 55 = .ok (.ireturn, 1) := by decide +kernel
theorem dX2_ring_56 : decode cX2_ring 56 = .ok (.iload_n 3, 1) := by decide +kernel
theorem dX2_ring_57 : decode cX2_ring 57 = .ok (.ireturn, 1) := by decide +kernel
set_option maxRecDepth 20000 in
theorem ggX2_ringLength_X0_become : GoodIn wsX2_ringLength wsX0_become := goodIn_r _ [7, 8, 9, 10, 11, 12, 13, 14, 15, 16, 17, 18, 19, 98, 99, 100, 101, 102, 103, 104, 105, 106] (by decide +kernel) (by decide +kernel)
set_option maxRecDepth 20000 in
theorem gX2_ringLength_X0_become_n173 : GoodIn wsX2_ringLength (wsX0_become) := ggX2_ringLength_X0_become
set_option maxRecDepth 20000 in
theorem ggX2_ringLength_X0_goOn : GoodIn wsX2_ringLength wsX0_goOn := goodIn_r _ [22, 19, 23, 24, 25, 5, 26, 27, 28, 29, 30, 31, 32, 33, 34, 35, 36, 37, 38, 15, 39, 40, 41, 42, 16, 43, 44, 45, 46, 47, 48, 49, 17, 13, 8, 50, 51, 52, 53, 54, 55, 56, 57, 58, 59, 60, 61, 62, 63, 64, 65, 66, 67, 68, 69, 70, 71, 72, 73, 74, 75, 76, 77, 78, 79, 80, 81, 14, 82, 83, 84, 85, 98, 99, 100, 101, 102, 103, 104, 105, 106] (by decide +kernel) (by decide +kernel)
set_option maxRecDepth 20000 in
theorem gX2_ringLength_X0_goOn_n119 : GoodIn wsX2_ringLength (wsX0_goOn) := ggX2_ringLength_X0_goOn
set_option maxRecDepth 20000 in
theorem ggX2_ringLength_X0_isAlike : GoodIn wsX2_ringLength wsX0_isAlike := goodIn_r _ [88, 13, 17, 19, 82, 83, 84, 5, 85, 14, 35, 36, 37, 38, 15, 62, 63, 64, 65, 16, 31, 32, 33, 34, 98, 99, 100, 101, 102, 103, 104, 105, 106] (by decide +kernel) (by decide +kernel)
set_option maxRecDepth 20000 in
theorem gX2_ringLength_X0_isAlike_n186 : GoodIn wsX2_ringLength (wsX0_isAlike) := ggX2_ringLength_X0_isAlike
theorem dX2_ringLength_0 : decode cX2_ringLength 0 = .ok (.aload_n 0, 1) := by decide +kernel
theorem dX2_ringLength_1 : decode cX2_ringLength 1 = .ok (.getfield 33, 3) := by decide +kernel
theorem dX2_ringLength_4 : decode cX2_ringLength 4 = .ok (.aload_n 0, 1) := by decide +kernel
theorem dX2_ringLength_5 : decode cX2_ringLength 5 = .ok (.getfield 19, 3) := by decide +kernel
theorem dX2_ringLength_8 : decode cX2_ringLength 8 = .ok (.invokevirtual 173, 3) := by decide +kernel
theorem dX2_ringLength_11 : decode cX2_ringLength 11 = .ok (.aload_n 0, 1) := by decide +kernel
theorem dX2_ringLength_12 : decode cX2_ringLength 12 = .ok (.getfield 33, 3) := by decide +kernel
theorem dX2_ringLength_15 : decode cX2_ringLength 15 = .ok (.iload_n 1, 1) := by decide +kernel
theorem dX2_ringLength_16 : decode cX2_ringLength 16 = .ok (.sipush 300, 3) := by decide +kernel
theorem dX2_ringLength_19 : decode cX2_ringLength 19 = .ok (.invokevirtual 119, 3) := by decide +kernel
theorem dX2_ringLength_22 : decode cX2_ringLength 22 = .ok (.pop, 1) := by decide +kernel
theorem dX2_ringLength_23 : decode cX2_ringLength 23 = .ok (.aload_n 0, 1) := by decide +kernel
theorem dX2_ringLength_24 : decode cX2_ringLength 24 = .ok (.getfield 36, 3) := by decide +kernel
theorem dX2_ringLength_27 : decode cX2_ringLength 27 = .ok (.aload_n 0, 1) := by decide +kernel
theorem dX2_ringLength_28 : decode cX2_ringLength 28 = .ok (.getfield 33, 3) := by decide +kernel
theorem dX2_ringLength_31 : decode cX2_ringLength 31 = .ok (.invokevirtual 173, 3) := by decide +kernel
theorem dX2_ringLength_34 : decode cX2_ringLength 34 = .ok (.iconst 1, 1) := by decide +kernel
theorem dX2_ringLength_35 : decode cX2_ringLength 35 = .ok (.istore_n 2, 1) := by decide +kernel
theorem dX2_ringLength_36 : decode cX2_ringLength 36 = .ok (.iload_n 2, 1) := by decide +kernel
theorem dX2_ringLength_37 : decode cX2_ringLength 37 = .ok (.sipush 300, 3) := by decide +kernel
theorem dX2_ringLength_40 : decode cX2_ringLength 40 = .ok (.if_icmp .gt 35, 3) := by decide +kernel
theorem dX2_ringLength_43 : decode cX2_ringLength 43 = .ok (.aload_n 0, 1) := by decide +kernel
theorem dX2_ringLength_44 : decode cX2_ringLength 44 = .ok (.getfield 33, 3) := by decide +kernel
theorem dX2_ringLength_47 : decode cX2_ringLength 47 = .ok (.iload_n 1, 1) := by decide +kernel
theorem dX2_ringLength_48 : decode cX2_ringLength 48 = .ok (.iconst 1, 1) := by decide +kernel
theorem dX2_ringLength_49 : decode cX2_ringLength 49 = .ok (.invokevirtual 119, 3) := by decide +kernel
theorem dX2_ringLength_52 : decode cX2_ringLength 52 = .ok (.pop, 1) := by decide +kernel
theorem dX2_ringLength_53 : decode cX2_ringLength 53 = .ok (.aload_n 0, 1) := by decide +kernel
theorem dX2_ringLength_54 : decode cX2_ringLength 54 = .ok (.getfield 33, 3) := by decide +kernel
theorem dX2_ringLength_57 : decode cX2_ringLength 57 = .ok (.aload_n 0, 1) := by decide +kernel
theorem dX2_ringLength_58 : decode cX2_ringLength 58 = .ok (.getfield 36, 3) := by decide +kernel
theorem dX2_ringLength_61 : decode cX2_ringLength 61 = .ok (.invokevirtual 186, 3) := by decide +kernel
theorem dX2_ringLength_64 : decode cX2_ringLength 64 = .ok (.ifCond .eq 5, 3) := by decide +kernel
theorem dX2_ringLength_67 : decode cX2_ringLength 67 = .ok (.iload_n 2, 1) := by decide +kernel
theorem dX2_ringLength_68 : decode cX2_ringLength 68 = .ok (.ireturn, 1) := by decide +kernel
theorem dX2_ringLength_69 : decode cX2_ringLength 69 = .ok (.iinc 2 1, 3) := by decide +kernel
theorem dX2_ringLength_72 : decode cX2_ringLength 72 = .ok (.goto (-36), 3) := by decide +kernel
theorem dX2_ringLength_75 : decode cX2_ringLength 75 = .ok (.bipush (-6), 2) := by decide +kernel
theorem dX2_ringLength_77 : decode cX2_ringLength 77 = .ok (.ireturn, 1) := by decide +kernel
set_option maxRecDepth 20000 in
theorem ggX2_ringStart_X0_become : GoodIn wsX2_ringStart wsX0_become := goodIn_r _ [7, 8, 9, 10, 11, 12, 13, 14, 15, 16, 17, 18, 19, 98, 99, 100, 101, 102, 103, 104, 105, 106] (by decide +kernel) (by decide +kernel)
set_option maxRecDepth 20000 in
theorem gX2_ringStart_X0_become_n173 : GoodIn wsX2_ringStart (wsX0_become) := ggX2_ringStart_X0_become
set_option maxRecDepth 20000 in
theorem ggX2_ringStart_X0_goOn : GoodIn wsX2_ringStart wsX0_goOn := goodIn_r _ [22, 19, 23, 24, 25, 5, 26, 27, 28, 29, 30, 31, 32, 33, 34, 35, 36, 37, 38, 15, 39, 40, 41, 42, 16, 43, 44, 45, 46, 47, 48, 49, 17, 13, 8, 50, 51, 52, 53, 54, 55, 56, 57, 58, 59, 60, 61, 62, 63, 64, 65, 66, 67, 68, 69, 70, 71, 72, 73, 74, 75, 76, 77, 78, 79, 80, 81, 14, 82, 83, 84, 85, 98, 99, 100, 101, 102, 103, 104, 105, 106] (by decide +kernel) (by decide +kernel)
set_option maxRecDepth 20000 in
theorem gX2_ringStart_X0_goOn_n119 : GoodIn wsX2_ringStart (wsX0_goOn) := ggX2_ringStart_X0_goOn
set_option maxRecDepth 20000 in
theorem ggX2_ringStart_X0_isAlike : GoodIn wsX2_ringStart wsX0_isAlike := goodIn_r _ [88, 13, 17, 19, 82, 83, 84, 5, 85, 14, 35, 36, 37, 38, 15, 62, 63, 64, 65, 16, 31, 32, 33, 34, 98, 99, 100, 101, 102, 103, 104, 105, 106] (by decide +kernel) (by decide +kernel)
set_option maxRecDepth 20000 in
theorem gX2_ringStart_X0_isAlike_n186 : GoodIn wsX2_ringStart (wsX0_isAlike) := ggX2_ringStart_X0_isAlike
theorem dX2_ringStart_0 : decode cX2_ringStart 0 = .ok (.aload_n 0, 1) := by decide +kernel
theorem dX2_ringStart_1 : decode cX2_ringStart 1 = .ok (.getfield 36, 3) := by decide +kernel
theorem dX2_ringStart_4 : decode cX2_ringStart 4 = .ok (.aload_n 0, 1) := by decide +kernel
theorem dX2_ringStart_5 : decode cX2_ringStart 5 = .ok (.getfield 19, 3) := by decide +kernel
theorem dX2_ringStart_8 : decode cX2_ringStart 8 = .ok (.invokevirtual 173, 3) := by decide +kernel
theorem dX2_ringStart_11 : decode cX2_ringStart 11 = .ok (.aload_n 0, 1) := by decide +kernel
theorem dX2_ringStart_12 : decode cX2_ringStart 12 = .ok (.getfield 33, 3) := by decide +kernel
theorem dX2_ringStart_15 : decode cX2_ringStart 15 = .ok (.aload_n 0, 1) := by decide +kernel
theorem dX2_ringStart_16 : decode cX2_ringStart 16 = .ok (.getfield 19, 3) := by decide +kernel
theorem dX2_ringStart_19 : decode cX2_ringStart 19 = .ok (.invokevirtual 173, 3) := by decide +kernel
theorem dX2_ringStart_22 : decode cX2_ringStart 22 = .ok (.aload_n 0, 1) := by decide +kernel
theorem dX2_ringStart_23 : decode cX2_ringStart 23 = .ok (.getfield 33, 3) := by decide +kernel
theorem dX2_ringStart_26 : decode cX2_ringStart 26 = .ok (.iload_n 1, 1) := by decide +kernel
theorem dX2_ringStart_27 : decode cX2_ringStart 27 = .ok (.iload_n 2, 1) := by decide +kernel
theorem dX2_ringStart_28 : decode cX2_ringStart 28 = .ok (.invokevirtual 119, 3) := by decide +kernel
theorem dX2_ringStart_31 : decode cX2_ringStart 31 = .ok (.pop, 1) := by decide +kernel
theorem dX2_ringStart_32 : decode cX2_ringStart 32 = .ok (.iconst 0, 1) := by decide +kernel
theorem dX2_ringStart_33 : decode cX2_ringStart 33 = .ok (.istore_n 3, 1) := by decide +kernel
theorem dX2_ringStart_34 : decode cX2_ringStart 34 = .ok (.iload_n 3, 1) := by decide +kernel
theorem dX2_ringStart_35 : decode cX2_ringStart 35 = .ok (.iload_n 2, 1) := by decide +kernel
theorem dX2_ringStart_36 : decode cX2_ringStart 36 = .ok (.iadd, 1) := by decide +kernel
theorem dX2_ringStart_37 : decode cX2_ringStart 37 = .ok (.sipush 300, 3) := by decide +kernel
theorem dX2_ringStart_40 : decode cX2_ringStart 40 = .ok (.if_icmp .gt 45, 3) := by decide +kernel
theorem dX2_ringStart_43 : decode cX2_ringStart 43 = .ok (.aload_n 0, 1) := by decide +kernel
theorem dX2_ringStart_44 : decode cX2_ringStart 44 = .ok (.getfield 33, 3) := by decide +kernel
theorem dX2_ringStart_47 : decode cX2_ringStart 47 = .ok (.aload_n 0, 1) := by decide +kernel
theorem dX2_ringStart_48 : decode cX2_ringStart 48 = .ok (.getfield 36, 3) := by decide +kernel
theorem dX2_ringStart_51 : decode cX2_ringStart 51 = .ok (.invokevirtual 186, 3) := by decide +kernel
theorem dX2_ringStart_54 : decode cX2_ringStart 54 = .ok (.ifCond .eq 5, 3) := by decide +kernel
theorem dX2_ringStart_57 : decode cX2_ringStart 57 = .ok (.iload_n 3, 1) := by decide +kernel
theorem dX2_ringStart_58 : decode cX2_ringStart 58 = .ok (.ireturn, 1) := by decide +kernel
theorem dX2_ringStart_59 : decode cX2_ringStart 59 = .ok (.aload_n 0, 1) := by decide +kernel
theorem dX2_ringStart_60 : decode cX2_ringStart 60 = .ok (.getfield 33, 3) := by decide +kernel
theorem dX2_ringStart_63 : decode cX2_ringStart 63 = .ok (.iload_n 1, 1) := by decide +kernel
theorem dX2_ringStart_64 : decode cX2_ringStart 64 = .ok (.iconst 1, 1) := by decide +kernel
theorem dX2_ringStart_65 : decode cX2_ringStart 65 = .ok (.invokevirtual 119, 3) := by decide +kernel
theorem dX2_ringStart_68 : decode cX2_ringStart 68 = .ok (.pop, 1) := by decide +kernel
theorem dX2_ringStart_69 : decode cX2_ringStart 69 = .ok (.aload_n 0, 1) := by decide +kernel
theorem dX2_ringStart_70 : decode cX2_ringStart 70 = .ok (.getfield 36, 3) := by decide +kernel
theorem dX2_ringStart_73 : decode cX2_ringStart 73 = .ok (.iload_n 1, 1) := by decide +kernel
theorem dX2_ringStart_74 : decode cX2_ringStart 74 = .ok (.iconst 1, 1) := by decide +kernel
theorem dX2_ringStart_75 : decode cX2_ringStart 75 = .ok (.invokevirtual 119, 3) := by decide +kernel
theorem dX2_ringStart_78 : decode cX2_ringStart 78 = .ok (.pop, 1) := by decide +kernel
theorem dX2_ringStart_79 : decode cX2_ringStart 79 = .ok (.iinc 3 1, 3) := by decide +kernel
theorem dX2_ringStart_82 : decode cX2_ringStart 82 = .ok (.goto (-48), 3) := by decide +kernel
theorem dX2_ringStart_85 : decode cX2_ringStart 85 = .ok (.bipush (-6), 2) := by decide +kernel
theorem dX2_ringStart_87 : decode cX2_ringStart 87 = .ok (.ireturn, 1) := by decide +kernel
set_option maxRecDepth 20000 in
theorem ggX2_image_X2_isWithin : GoodIn wsX2_image wsX2_isWithin := goodIn_r _ [6] (by decide +kernel) (by decide +kernel)
set_option maxRecDepth 20000 in
theorem gX2_image_X2_isWithin : GoodIn wsX2_image (va_wsS RX2 50 yX2_isWithin wsX2_isWithin) := goodIn_app (goodIn_of _ (by decide +kernel)) ggX2_image_X2_isWithin
set_option maxRecDepth 20000 in
theorem ggX2_image_X2_imageAt : GoodIn wsX2_image wsX2_imageAt := goodIn_r _ [10, 11, 12, 29, 30, 31, 32, 33, 34, 35, 36, 37] (by decide +kernel) (by decide +kernel)
set_option maxRecDepth 20000 in
theorem gX2_image_X2_imageAt : GoodIn wsX2_image (wsV RX2 190 RX2 yX2_imageAt wsX2_imageAt) := goodIn_app (goodIn_of _ (by decide +kernel)) ggX2_image_X2_imageAt
set_option maxRecDepth 20000 in
theorem ggX2_image_X0_become : GoodIn wsX2_image wsX0_become := goodIn_r _ [16, 17, 18, 19, 20, 21, 22, 23, 24, 25, 26, 27, 28, 38, 39, 40, 41, 42, 43, 44, 45, 46] (by decide +kernel) (by decide +kernel)
set_option maxRecDepth 20000 in
theorem gX2_image_X0_become_n173 : GoodIn wsX2_image (wsX0_become) := ggX2_image_X0_become
theorem dX2_image_0 : decode cX2_image 0 = .ok (.iload_n 1, 1) := by decide +kernel
theorem dX2_image_1 : decode cX2_image 1 = .ok (.iconst 0, 1) := by decide +kernel
theorem dX2_image_2 : decode cX2_image 2 = .ok (.iconst 1, 1) := by decide +kernel
theorem dX2_image_3 : decode cX2_image 3 = .ok (.invokestatic 50, 3) := by decide +kernel
theorem dX2_image_6 : decode cX2_image 6 = .ok (.ifCond .ne 6, 3) := by decide +kernel
theorem dX2_image_9 : decode cX2_image 9 = .ok (.bipush (-2), 2) := by decide +kernel
theorem dX2_image_11 : decode cX2_image 11 = .ok (.ireturn, 1) := by decide +kernel
theorem dX2_image_12 : decode cX2_image 12 = .ok (.aload_n 0, 1) := by decide +kernel
theorem dX2_image_13 : decode cX2_image 13 = .ok (.iload_n 1, 1) := by decide +kernel
theorem dX2_image_14 : decode cX2_image 14 = .ok (.invokevirtual 190, 3) := by decide +kernel
theorem dX2_image_17 : decode cX2_image 17 = .ok (.aload_n 0, 1) := by decide +kernel
theorem dX2_image_18 : decode cX2_image 18 = .ok (.getfield 19, 3) := by decide +kernel
theorem dX2_image_21 : decode cX2_image 21 = .ok (.invokevirtual 173, 3) := by decide +kernel
theorem dX2_image_24 : decode cX2_image 24 = .ok (.aload_n 0, 1) := by decide +kernel
theorem dX2_image_25 : decode cX2_image 25 = .ok (.dup, 1) := by decide +kernel
theorem dX2_image_26 : decode cX2_image 26 = .ok (.getfield 29, 3) := by decide +kernel
theorem dX2_image_29 : decode cX2_image 29 = .ok (.iconst 1, 1) := by decide +kernel
theorem dX2_image_30 : decode cX2_image 30 = .ok (.iload_n 1, 1) := by decide +kernel
theorem dX2_image_31 : decode cX2_image 31 = .ok (.ishl, 1) := by decide +kernel
theorem dX2_image_32 : decode cX2_image 32 = .ok (.ior, 1) := by decide +kernel
theorem dX2_image_33 : decode cX2_image 33 = .ok (.putfield 29, 3) := by decide +kernel
theorem dX2_image_36 : decode cX2_image 36 = .ok (.iconst 1, 1) := by decide +kernel
theorem dX2_image_37 : decode cX2_image 37 = .ok (.ireturn, 1) := by decide +kernel
set_option maxRecDepth 20000 in
theorem ggX2_restore_X2_isWithin : GoodIn wsX2_restore wsX2_isWithin := goodIn_r _ [6] (by decide +kernel) (by decide +kernel)
set_option maxRecDepth 20000 in
theorem gX2_restore_X2_isWithin : GoodIn wsX2_restore (va_wsS RX2 50 yX2_isWithin wsX2_isWithin) := goodIn_app (goodIn_of _ (by decide +kernel)) ggX2_restore_X2_isWithin
set_option maxRecDepth 20000 in
theorem ggX2_restore_X2_imageAt : GoodIn wsX2_restore wsX2_imageAt := goodIn_r _ [10, 11, 12, 29, 30, 31, 32, 33, 34, 35, 36, 37] (by decide +kernel) (by decide +kernel)
set_option maxRecDepth 20000 in
theorem gX2_restore_X2_imageAt : GoodIn wsX2_restore (wsV RX2 190 RX2 yX2_imageAt wsX2_imageAt) := goodIn_app (goodIn_of _ (by decide +kernel)) ggX2_restore_X2_imageAt
set_option maxRecDepth 20000 in
theorem ggX2_restore_X0_become : GoodIn wsX2_restore wsX0_become := goodIn_r _ [16, 17, 18, 19, 20, 21, 22, 23, 24, 25, 26, 27, 28, 38, 39, 40, 41, 42, 43, 44, 45, 46] (by decide +kernel) (by decide +kernel)
set_option maxRecDepth 20000 in
theorem gX2_restore_X0_become_n173 : GoodIn wsX2_restore (wsX0_become) := ggX2_restore_X0_become
theorem dX2_restore_0 : decode cX2_restore 0 = .ok (.iload_n 1, 1) := by decide +kernel
theorem dX2_restore_1 : decode cX2_restore 1 = .ok (.iconst 0, 1) := by decide +kernel
theorem dX2_restore_2 : decode cX2_restore 2 = .ok (.iconst 1, 1) := by decide +kernel
theorem dX2_restore_3 : decode cX2_restore 3 = .ok (.invokestatic 50, 3) := by decide +kernel
theorem dX2_restore_6 : decode cX2_restore 6 = .ok (.ifCond .ne 6, 3) := by decide +kernel
theorem dX2_restore_9 : decode cX2_restore 9 = .ok (.bipush (-2), 2) := by decide +kernel
theorem dX2_restore_11 : decode cX2_restore 11 = .ok (.ireturn, 1) := by decide +kernel
theorem dX2_restore_12 : decode cX2_restore 12 = .ok (.aload_n 0, 1) := by decide +kernel
theorem dX2_restore_13 : decode cX2_restore 13 = .ok (.getfield 29, 3) := by decide +kernel
theorem dX2_restore_16 : decode cX2_restore 16 = .ok (.iconst 1, 1) := by decide +kernel
theorem dX2_restore_17 : decode cX2_restore 17 = .ok (.iload_n 1, 1) := by decide +kernel
theorem dX2_restore_18 : decode cX2_restore 18 = .ok (.ishl, 1) := by decide +kernel
theorem dX2_restore_19 : decode cX2_restore 19 = .ok (.iand, 1) := by decide +kernel
theorem dX2_restore_20 : decode cX2_restore 20 = .ok (.ifCond .ne 6, 3) := by decide +kernel
theorem dX2_restore_23 : decode cX2_restore 23 = .ok (.bipush (-3), 2) := by decide +kernel
theorem dX2_restore_25 : decode cX2_restore 25 = .ok (.ireturn, 1) := by decide +kernel
theorem dX2_restore_26 : decode cX2_restore 26 = .ok (.aload_n 0, 1) := by decide +kernel
theorem dX2_restore_27 : decode cX2_restore 27 = .ok (.getfield 19, 3) := by decide +kernel
theorem dX2_restore_30 : decode cX2_restore 30 = .ok (.aload_n 0, 1) := by decide +kernel
theorem dX2_restore_31 : decode cX2_restore 31 = .ok (.iload_n 1, 1) := by decide +kernel
theorem dX2_restore_32 : decode cX2_restore 32 = .ok (.invokevirtual 190, 3) := by decide +kernel
theorem dX2_restore_35 : decode cX2_restore 35 = .ok (.invokevirtual 173, 3) := by decide +kernel
theorem dX2_restore_38 : decode cX2_restore 38 = .ok (.iconst 1, 1) := by decide +kernel
theorem dX2_restore_39 : decode cX2_restore 39 = .ok (.ireturn, 1) := by decide +kernel
theorem dX2_imageAt_0 : decode cX2_imageAt 0 = .ok (.iload_n 1, 1) := by decide +kernel
theorem dX2_imageAt_1 : decode cX2_imageAt 1 = .ok (.ifCond .ne 10, 3) := by decide +kernel
theorem dX2_imageAt_4 : decode cX2_imageAt 4 = .ok (.aload_n 0, 1) := by decide +kernel
theorem dX2_imageAt_5 : decode cX2_imageAt 5 = .ok (.getfield 23, 3) := by decide +kernel
theorem dX2_imageAt_8 : decode cX2_imageAt 8 = .ok (.goto 7, 3) := by decide +kernel
theorem dX2_imageAt_11 : decode cX2_imageAt 11 = .ok (.aload_n 0, 1) := by decide +kernel
theorem dX2_imageAt_12 : decode cX2_imageAt 12 = .ok (.getfield 26, 3) := by decide +kernel
theorem dX2_imageAt_15 : decode cX2_imageAt 15 = .ok (.areturn, 1) := by decide +kernel
set_option maxRecDepth 20000 in
theorem ggX2_count_X0_allJobs : GoodIn wsX2_count wsX0_allJobs := goodIn_r _ [7, 8, 37, 38, 39, 40, 41, 42, 43, 44, 45] (by decide +kernel) (by decide +kernel)
set_option maxRecDepth 20000 in
theorem gX2_count_X0_allJobs_n145 : GoodIn wsX2_count (wsX0_allJobs) := ggX2_count_X0_allJobs
set_option maxRecDepth 20000 in
theorem ggX2_count_X0_measure : GoodIn wsX2_count wsX0_measure := goodIn_r _ [11, 12, 13, 14, 15, 16, 17, 18, 5, 19, 20, 37, 38, 39, 40, 41, 42, 43, 44, 45] (by decide +kernel) (by decide +kernel)
set_option maxRecDepth 20000 in
theorem gX2_count_X0_measure_n161 : GoodIn wsX2_count (wsX0_measure) := ggX2_count_X0_measure
set_option maxRecDepth 20000 in
theorem ggX2_count_X0_colours : GoodIn wsX2_count wsX0_colours := goodIn_r _ [23, 24, 12, 13, 14, 15, 37, 38, 39, 40, 41, 42, 43, 44, 45] (by decide +kernel) (by decide +kernel)
set_option maxRecDepth 20000 in
theorem gX2_count_X0_colours_n194 : GoodIn wsX2_count (wsX0_colours) := ggX2_count_X0_colours
set_option maxRecDepth 20000 in
theorem ggX2_count_X0_nodesBelowZero : GoodIn wsX2_count wsX0_nodesBelowZero := goodIn_r _ [27, 8, 37, 38, 39, 40, 41, 42, 43, 44, 45] (by decide +kernel) (by decide +kernel)
set_option maxRecDepth 20000 in
theorem gX2_count_X0_nodesBelowZero_n156 : GoodIn wsX2_count (wsX0_nodesBelowZero) := ggX2_count_X0_nodesBelowZero
theorem dX2_count_0 : decode cX2_count 0 = .ok (.iload_n 1, 1) := by decide +kernel
theorem dX2_count_1 : decode cX2_count 1 = .ok (.tableswitch 113 0 7 #[47, 55, 63, 71, 84, 92, 100, 108], 47) := by decide +kernel
theorem dX2_count_48 : decode cX2_count 48 = .ok (.aload_n 0, 1) := by decide +kernel
theorem dX2_count_49 : decode cX2_count 49 = .ok (.getfield 19, 3) := by decide +kernel
theorem dX2_count_52 : decode cX2_count 52 = .ok (.getfield 65, 3) := by decide +kernel
theorem dX2_count_55 : decode cX2_count 55 = .ok (.ireturn, 1) := by decide +kernel
theorem dX2_count_56 : decode cX2_count 56 = .ok (.aload_n 0, 1) := by decide +kernel
theorem dX2_count_57 : decode cX2_count 57 = .ok (.getfield 10, 3) := by decide +kernel
theorem dX2_count_60 : decode cX2_count 60 = .ok (.getfield 76, 3) := by decide +kernel
theorem dX2_count_63 : decode cX2_count 63 = .ok (.ireturn, 1) := by decide +kernel
theorem dX2_count_64 : decode cX2_count 64 = .ok (.aload_n 0, 1) := by decide +kernel
theorem dX2_count_65 : decode cX2_count 65 = .ok (.getfield 19, 3) := by decide +kernel
theorem dX2_count_68 : decode cX2_count 68 = .ok (.getfield 122, 3) := by decide +kernel
theorem dX2_count_71 : decode cX2_count 71 = .ok (.ireturn, 1) := by decide +kernel
theorem dX2_count_72 : decode cX2_count 72 = .ok (.aload_n 0, 1) := by decide +kernel
theorem dX2_count_73 : decode cX2_count 73 = .ok (.getfield 19, 3) := by decide +kernel
theorem dX2_count_76 : decode cX2_count 76 = .ok (.invokevirtual 145, 3) := by decide +kernel
theorem dX2_count_79 : decode cX2_count 79 = .ok (.l2i, 1) := by decide +kernel
theorem dX2_count_80 : decode cX2_count 80 = .ok (.sipush 10000, 3) := by decide +kernel
theorem dX2_count_83 : decode cX2_count 83 = .ok (.iadd, 1) := by decide +kernel
theorem dX2_count_84 : decode cX2_count 84 = .ok (.ireturn, 1) := by decide +kernel
theorem dX2_count_85 : decode cX2_count 85 = .ok (.aload_n 0, 1) := by decide +kernel
theorem dX2_count_86 : decode cX2_count 86 = .ok (.getfield 19, 3) := by decide +kernel
theorem dX2_count_89 : decode cX2_count 89 = .ok (.invokevirtual 161, 3) := by decide +kernel
theorem dX2_count_92 : decode cX2_count 92 = .ok (.ireturn, 1) := by decide +kernel
theorem dX2_count_93 : decode cX2_count 93 = .ok (.aload_n 0, 1) := by decide +kernel
theorem dX2_count_94 : decode cX2_count 94 = .ok (.getfield 19, 3) := by decide +kernel
theorem dX2_count_97 : decode cX2_count 97 = .ok (.invokevirtual 194, 3) := by decide +kernel
theorem dX2_count_100 : decode cX2_count 100 = .ok (.ireturn, 1) := by decide +kernel
theorem dX2_count_101 : decode cX2_count 101 = .ok (.aload_n 0, 1) := by decide +kernel
theorem dX2_count_102 : decode cX2_count 102 = .ok (.getfield 19, 3) := by decide +kernel
theorem dX2_count_105 : decode cX2_count 105 = .ok (.invokevirtual 156, 3) := by decide +kernel
theorem dX2_count_108 : decode cX2_count 108 = .ok (.ireturn, 1) := by decide +kernel
theorem dX2_count_109 : decode cX2_count 109 = .ok (.aload_n 0, 1) := by decide +kernel
theorem dX2_count_110 : decode cX2_count 110 = .ok (.getfield 29, 3) := by decide +kernel
theorem dX2_count_113 : decode cX2_count 113 = .ok (.ireturn, 1) := by decide +kernel
theorem dX2_count_114 : decode cX2_count 114 = .ok (.bipush (-2), 2) := by decide +kernel
theorem dX2_count_116 : decode cX2_count 116 = .ok (.ireturn, 1) := by decide +kernel
theorem dX2_isWithin_0 : decode cX2_isWithin 0 = .ok (.iload_n 0, 1) := by decide +kernel
theorem dX2_isWithin_1 : decode cX2_isWithin 1 = .ok (.iload_n 1, 1) := by decide +kernel
theorem dX2_isWithin_2 : decode cX2_isWithin 2 = .ok (.if_icmp .lt 12, 3) := by decide +kernel
theorem dX2_isWithin_5 : decode cX2_isWithin 5 = .ok (.iload_n 0, 1) := by decide +kernel
theorem dX2_isWithin_6 : decode cX2_isWithin 6 = .ok (.iload_n 2, 1) := by decide +kernel
theorem dX2_isWithin_7 : decode cX2_isWithin 7 = .ok (.if_icmp .gt 7, 3) := by decide +kernel
theorem dX2_isWithin_10 : decode cX2_isWithin 10 = .ok (.iconst 1, 1) := by decide +kernel
theorem dX2_isWithin_11 : decode cX2_isWithin 11 = .ok (.goto 4, 3) := by decide +kernel
theorem dX2_isWithin_14 : decode cX2_isWithin 14 = .ok (.iconst 0, 1) := by decide +kernel
theorem dX2_isWithin_15 : decode cX2_isWithin 15 = .ok (.ireturn, 1) := by decide +kernel
set_option maxRecDepth 20000 in
theorem ggX2_isNode_X2_isWithin : GoodIn wsX2_isNode wsX2_isWithin := goodIn_r _ [4] (by decide +kernel) (by decide +kernel)
set_option maxRecDepth 20000 in
theorem gX2_isNode_X2_isWithin : GoodIn wsX2_isNode (va_wsS RX2 50 yX2_isWithin wsX2_isWithin) := goodIn_app (goodIn_of _ (by decide +kernel)) ggX2_isNode_X2_isWithin
theorem dX2_isNode_0 : decode cX2_isNode 0 = .ok (.iload_n 0, 1) := by decide +kernel
theorem dX2_isNode_1 : decode cX2_isNode 1 = .ok (.iconst 0, 1) := by decide +kernel
theorem dX2_isNode_2 : decode cX2_isNode 2 = .ok (.bipush 7, 2) := by decide +kernel
theorem dX2_isNode_4 : decode cX2_isNode 4 = .ok (.invokestatic 50, 3) := by decide +kernel
theorem dX2_isNode_7 : decode cX2_isNode 7 = .ok (.ireturn, 1) := by decide +kernel
set_option maxRecDepth 20000 in
theorem ggX2_isRule_X2_isWithin : GoodIn wsX2_isRule wsX2_isWithin := goodIn_r _ [4] (by decide +kernel) (by decide +kernel)
set_option maxRecDepth 20000 in
theorem gX2_isRule_X2_isWithin : GoodIn wsX2_isRule (va_wsS RX2 50 yX2_isWithin wsX2_isWithin) := goodIn_app (goodIn_of _ (by decide +kernel)) ggX2_isRule_X2_isWithin
theorem dX2_isRule_0 : decode cX2_isRule 0 = .ok (.iload_n 0, 1) := by decide +kernel
theorem dX2_isRule_1 : decode cX2_isRule 1 = .ok (.iconst 0, 1) := by decide +kernel
theorem dX2_isRule_2 : decode cX2_isRule 2 = .ok (.iconst 2, 1) := by decide +kernel
theorem dX2_isRule_3 : decode cX2_isRule 3 = .ok (.invokestatic 50, 3) := by decide +kernel
theorem dX2_isRule_6 : decode cX2_isRule 6 = .ok (.ireturn, 1) := by decide +kernel
set_option maxRecDepth 20000 in
theorem ggX2_isPart_X2_isWithin : GoodIn wsX2_isPart wsX2_isWithin := goodIn_r _ [4] (by decide +kernel) (by decide +kernel)
set_option maxRecDepth 20000 in
theorem gX2_isPart_X2_isWithin : GoodIn wsX2_isPart (va_wsS RX2 50 yX2_isWithin wsX2_isWithin) := goodIn_app (goodIn_of _ (by decide +kernel)) ggX2_isPart_X2_isWithin
theorem dX2_isPart_0 : decode cX2_isPart 0 = .ok (.iload_n 0, 1) := by decide +kernel
theorem dX2_isPart_1 : decode cX2_isPart 1 = .ok (.iconst 0, 1) := by decide +kernel
theorem dX2_isPart_2 : decode cX2_isPart 2 = .ok (.iconst 1, 1) := by decide +kernel
theorem dX2_isPart_3 : decode cX2_isPart 3 = .ok (.invokestatic 50, 3) := by decide +kernel
theorem dX2_isPart_6 : decode cX2_isPart 6 = .ok (.ireturn, 1) := by decide +kernel
theorem dX2_spot_0 : decode cX2_spot 0 = .ok (.iload_n 0, 1) := by decide +kernel
theorem dX2_spot_1 : decode cX2_spot 1 = .ok (.iload_n 1, 1) := by decide +kernel
theorem dX2_spot_2 : decode cX2_spot 2 = .ok (.if_icmp .ge 12, 3) := by decide +kernel
theorem dX2_spot_5 : decode cX2_spot 5 = .ok (.iload_n 0, 1) := by decide +kernel
theorem dX2_spot_6 : decode cX2_spot 6 = .ok (.bipush 8, 2) := by decide +kernel
theorem dX2_spot_8 : decode cX2_spot 8 = .ok (.imul, 1) := by decide +kernel
theorem dX2_spot_9 : decode cX2_spot 9 = .ok (.iload_n 1, 1) := by decide +kernel
theorem dX2_spot_10 : decode cX2_spot 10 = .ok (.iadd, 1) := by decide +kernel
theorem dX2_spot_11 : decode cX2_spot 11 = .ok (.goto 9, 3) := by decide +kernel
theorem dX2_spot_14 : decode cX2_spot 14 = .ok (.iload_n 1, 1) := by decide +kernel
theorem dX2_spot_15 : decode cX2_spot 15 = .ok (.bipush 8, 2) := by decide +kernel
theorem dX2_spot_17 : decode cX2_spot 17 = .ok (.imul, 1) := by decide +kernel
theorem dX2_spot_18 : decode cX2_spot 18 = .ok (.iload_n 0, 1) := by decide +kernel
theorem dX2_spot_19 : decode cX2_spot 19 = .ok (.iadd, 1) := by decide +kernel
theorem dX2_spot_20 : decode cX2_spot 20 = .ok (.ireturn, 1) := by decide +kernel
set_option maxRecDepth 20000 in
theorem ggX2_partOf_X2_commonDivisor : GoodIn wsX2_partOf wsX2_commonDivisor := goodIn_r _ [4, 5, 6, 7, 8] (by decide +kernel) (by decide +kernel)
set_option maxRecDepth 20000 in
theorem gX2_partOf_X2_commonDivisor : GoodIn wsX2_partOf (va_wsS RX2 197 yX2_commonDivisor wsX2_commonDivisor) := goodIn_app (goodIn_of _ (by decide +kernel)) ggX2_partOf_X2_commonDivisor
theorem dX2_partOf_0 : decode cX2_partOf 0 = .ok (.lload_n 0, 1) := by decide +kernel
theorem dX2_partOf_1 : decode cX2_partOf 1 = .ok (.lload_n 2, 1) := by decide +kernel
theorem dX2_partOf_2 : decode cX2_partOf 2 = .ok (.invokestatic 197, 3) := by decide +kernel
theorem dX2_partOf_5 : decode cX2_partOf 5 = .ok (.lstore 5, 2) := by decide +kernel
theorem dX2_partOf_7 : decode cX2_partOf 7 = .ok (.lload 5, 2) := by decide +kernel
theorem dX2_partOf_9 : decode cX2_partOf 9 = .ok (.lconst 0, 1) := by decide +kernel
theorem dX2_partOf_10 : decode cX2_partOf 10 = .ok (.lcmp, 1) := by decide +kernel
theorem dX2_partOf_11 : decode cX2_partOf 11 = .ok (.ifCond .ne 7, 3) := by decide +kernel
theorem dX2_partOf_14 : decode cX2_partOf 14 = .ok (.iload 4, 2) := by decide +kernel
theorem dX2_partOf_16 : decode cX2_partOf 16 = .ok (.i2l, 1) := by decide +kernel
theorem dX2_partOf_17 : decode cX2_partOf 17 = .ok (.lreturn, 1) := by decide +kernel
theorem dX2_partOf_18 : decode cX2_partOf 18 = .ok (.iload 4, 2) := by decide +kernel
theorem dX2_partOf_20 : decode cX2_partOf 20 = .ok (.ifCond .ne 7, 3) := by decide +kernel
theorem dX2_partOf_23 : decode cX2_partOf 23 = .ok (.lload_n 0, 1) := by decide +kernel
theorem dX2_partOf_24 : decode cX2_partOf 24 = .ok (.goto 4, 3) := by decide +kernel
theorem dX2_partOf_27 : decode cX2_partOf 27 = .ok (.lload_n 2, 1) := by decide +kernel
theorem dX2_partOf_28 : decode cX2_partOf 28 = .ok (.lload 5, 2) := by decide +kernel
theorem dX2_partOf_30 : decode cX2_partOf 30 = .ok (.ldiv, 1) := by decide +kernel
theorem dX2_partOf_31 : decode cX2_partOf 31 = .ok (.lreturn, 1) := by decide +kernel
theorem dX2_commonDivisor_0 : decode cX2_commonDivisor 0 = .ok (.lload_n 0, 1) := by decide +kernel
theorem dX2_commonDivisor_1 : decode cX2_commonDivisor 1 = .ok (.invokestatic 201, 3) := by decide +kernel
theorem dX2_commonDivisor_4 : decode cX2_commonDivisor 4 = .ok (.lstore 4, 2) := by decide +kernel
theorem dX2_commonDivisor_6 : decode cX2_commonDivisor 6 = .ok (.lload_n 2, 1) := by decide +kernel
theorem dX2_commonDivisor_7 : decode cX2_commonDivisor 7 = .ok (.invokestatic 201, 3) := by decide +kernel
theorem dX2_commonDivisor_10 : decode cX2_commonDivisor 10 = .ok (.lstore 6, 2) := by decide +kernel
theorem dX2_commonDivisor_12 : decode cX2_commonDivisor 12 = .ok (.iconst 0, 1) := by decide +kernel
theorem dX2_commonDivisor_13 : decode cX2_commonDivisor 13 = .ok (.istore 8, 2) := by decide +kernel
theorem dX2_commonDivisor_15 : decode cX2_commonDivisor 15 = .ok (.iload 8, 2) := by decide +kernel
theorem dX2_commonDivisor_17 : decode cX2_commonDivisor 17 = .ok (.bipush 100, 2) := by decide +kernel
theorem dX2_commonDivisor_19 : decode cX2_commonDivisor 19 = .ok (.if_icmp .ge 31, 3) := by decide +kernel
theorem dX2_commonDivisor_22 : decode cX2_commonDivisor 22 = .ok (.lload 6, 2) := by decide +kernel
theorem dX2_commonDivisor_24 : decode cX2_commonDivisor 24 = .ok (.lconst 0, 1) := by decide +kernel
theorem dX2_commonDivisor_25 : decode cX2_commonDivisor 25 = .ok (.lcmp, 1) := by decide +kernel
theorem dX2_commonDivisor_26 : decode cX2_commonDivisor 26 = .ok (.ifCond .eq 24, 3) := by decide +kernel
theorem dX2_commonDivisor_29 : decode cX2_commonDivisor 29 = .ok (.lload 4, 2) := by decide +kernel
theorem dX2_commonDivisor_31 : decode cX2_commonDivisor 31 = .ok (.lload 6, 2) := by decide +kernel
theorem dX2_commonDivisor_33 : decode cX2_commonDivisor 33 = .ok (.lrem, 1) := by decide +kernel
theorem dX2_commonDivisor_34 : decode cX2_commonDivisor 34 = .ok (.lstore 9, 2) := by decide +kernel
theorem dX2_commonDivisor_36 : decode cX2_commonDivisor 36 = .ok (.lload 6, 2) := by decide +kernel
theorem dX2_commonDivisor_38 : decode cX2_commonDivisor 38 = .ok (.lstore 4, 2) := by decide +kernel
theorem dX2_commonDivisor_40 : decode cX2_commonDivisor 40 = .ok (.lload 9, 2) := by decide +kernel
theorem dX2_commonDivisor_42 : decode cX2_commonDivisor 42 = .ok (.lstore 6, 2) := by decide +kernel
theorem dX2_commonDivisor_44 : decode cX2_commonDivisor 44 = .ok (.iinc 8 1, 3) := by decide +kernel
theorem dX2_commonDivisor_47 : decode cX2_commonDivisor 47 = .ok (.goto (-32), 3) := by decide +kernel
theorem dX2_commonDivisor_50 : decode cX2_commonDivisor 50 = .ok (.lload 4, 2) := by decide +kernel
theorem dX2_commonDivisor_52 : decode cX2_commonDivisor 52 = .ok (.lreturn, 1) := by decide +kernel
end
section
theorem dX3_init_0 : decode cX3_init 0 = .ok (.aload_n 0, 1) := by decide +kernel
theorem dX3_init_1 : decode cX3_init 1 = .ok (.invokespecial 1, 3) := by decide +kernel
theorem dX3_init_4 : decode cX3_init 4 = .ok (.aload_n 0, 1) := by decide +kernel
theorem dX3_init_5 : decode cX3_init 5 = .ok (.sipush 153, 3) := by decide +kernel
theorem dX3_init_8 : decode cX3_init 8 = .ok (.newarray .int, 2) := by decide +kernel
theorem dX3_init_10 : decode cX3_init 10 = .ok (.putfield 7, 3) := by decide +kernel
theorem dX3_init_13 : decode cX3_init 13 = .ok (.aload_n 0, 1) := by decide +kernel
theorem dX3_init_14 : decode cX3_init 14 = .ok (.sipush 459, 3) := by decide +kernel
theorem dX3_init_17 : decode cX3_init 17 = .ok (.newarray .int, 2) := by decide +kernel
theorem dX3_init_19 : decode cX3_init 19 = .ok (.putfield 13, 3) := by decide +kernel
theorem dX3_init_22 : decode cX3_init 22 = .ok (.aload_n 0, 1) := by decide +kernel
theorem dX3_init_23 : decode cX3_init 23 = .ok (.iconst 2, 1) := by decide +kernel
theorem dX3_init_24 : decode cX3_init 24 = .ok (.newarray .boolean, 2) := by decide +kernel
theorem dX3_init_26 : decode cX3_init 26 = .ok (.putfield 16, 3) := by decide +kernel
theorem dX3_init_29 : decode cX3_init 29 = .ok (.aload_n 0, 1) := by decide +kernel
theorem dX3_init_30 : decode cX3_init 30 = .ok (.bipush 40, 2) := by decide +kernel
theorem dX3_init_32 : decode cX3_init 32 = .ok (.newarray .int, 2) := by decide +kernel
theorem dX3_init_34 : decode cX3_init 34 = .ok (.putfield 20, 3) := by decide +kernel
theorem dX3_init_37 : decode cX3_init 37 = .ok (.aload_n 0, 1) := by decide +kernel
theorem dX3_init_38 : decode cX3_init 38 = .ok (.bipush 8, 2) := by decide +kernel
theorem dX3_init_40 : decode cX3_init 40 = .ok (.newarray .int, 2) := by decide +kernel
theorem dX3_init_42 : decode cX3_init 42 = .ok (.putfield 23, 3) := by decide +kernel
theorem dX3_init_45 : decode cX3_init 45 = .ok (.aload_n 0, 1) := by decide +kernel
theorem dX3_init_46 : decode cX3_init 46 = .ok (.bipush 8, 2) := by decide +kernel
theorem dX3_init_48 : decode cX3_init 48 = .ok (.newarray .long, 2) := by decide +kernel
theorem dX3_init_50 : decode cX3_init 50 = .ok (.putfield 26, 3) := by decide +kernel
theorem dX3_init_53 : decode cX3_init 53 = .ok (.aload_n 0, 1) := by decide +kernel
theorem dX3_init_54 : decode cX3_init 54 = .ok (.bipush 8, 2) := by decide +kernel
theorem dX3_init_56 : decode cX3_init 56 = .ok (.newarray .long, 2) := by decide +kernel
theorem dX3_init_58 : decode cX3_init 58 = .ok (.putfield 30, 3) := by decide +kernel
theorem dX3_init_61 : decode cX3_init 61 = .ok (.aload_n 0, 1) := by decide +kernel
theorem dX3_init_62 : decode cX3_init 62 = .ok (.sipush 24381, 3) := by decide +kernel
theorem dX3_init_65 : decode cX3_init 65 = .ok (.newarray .int, 2) := by decide +kernel
theorem dX3_init_67 : decode cX3_init 67 = .ok (.putfield 33, 3) := by decide +kernel
theorem dX3_init_70 : decode cX3_init 70 = .ok (.iconst 0, 1) := by decide +kernel
theorem dX3_init_71 : decode cX3_init 71 = .ok (.istore_n 1, 1) := by decide +kernel
theorem dX3_init_72 : decode cX3_init 72 = .ok (.iload_n 1, 1) := by decide +kernel
theorem dX3_init_73 : decode cX3_init 73 = .ok (.bipush 8, 2) := by decide +kernel
theorem dX3_init_75 : decode cX3_init 75 = .ok (.if_icmp .ge 18, 3) := by decide +kernel
theorem dX3_init_78 : decode cX3_init 78 = .ok (.aload_n 0, 1) := by decide +kernel
theorem dX3_init_79 : decode cX3_init 79 = .ok (.getfield 7, 3) := by decide +kernel
theorem dX3_init_82 : decode cX3_init 82 = .ok (.iconst 0, 1) := by decide +kernel
theorem dX3_init_83 : decode cX3_init 83 = .ok (.iload_n 1, 1) := by decide +kernel
theorem dX3_init_84 : decode cX3_init 84 = .ok (.iadd, 1) := by decide +kernel
theorem dX3_init_85 : decode cX3_init 85 = .ok (.iconst 1, 1) := by decide +kernel
theorem dX3_init_86 : decode cX3_init 86 = .ok (.iastore, 1) := by decide +kernel
theorem dX3_init_87 : decode cX3_init 87 = .ok (.iinc 1 1, 3) := by decide +kernel
theorem dX3_init_90 : decode cX3_init 90 = .ok (.goto (-18), 3) := by decide +kernel
theorem dX3_init_93 : decode cX3_init 93 = .ok (.iconst 0, 1) := by decide +kernel
theorem dX3_init_94 : decode cX3_init 94 = .ok (.istore_n 1, 1) := by decide +kernel
theorem dX3_init_95 : decode cX3_init 95 = .ok (.iload_n 1, 1) := by decide +kernel
theorem dX3_init_96 : decode cX3_init 96 = .ok (.bipush 64, 2) := by decide +kernel
theorem dX3_init_98 : decode cX3_init 98 = .ok (.if_icmp .ge 20, 3) := by decide +kernel
theorem dX3_init_101 : decode cX3_init 101 = .ok (.aload_n 0, 1) := by decide +kernel
theorem dX3_init_102 : decode cX3_init 102 = .ok (.getfield 7, 3) := by decide +kernel
theorem dX3_init_105 : decode cX3_init 105 = .ok (.bipush 24, 2) := by decide +kernel
theorem dX3_init_107 : decode cX3_init 107 = .ok (.iload_n 1, 1) := by decide +kernel
theorem dX3_init_108 : decode cX3_init 108 = .ok (.iadd, 1) := by decide +kernel
theorem dX3_init_109 : decode cX3_init 109 = .ok (.bipush (-6), 2) := by decide +kernel
theorem dX3_init_111 : decode cX3_init 111 = .ok (.iastore, 1) := by decide +kernel
theorem dX3_init_112 : decode cX3_init 112 = .ok (.iinc 1 1, 3) := by decide +kernel
theorem dX3_init_115 : decode cX3_init 115 = .ok (.goto (-20), 3) := by decide +kernel
theorem dX3_init_118 : decode cX3_init 118 = .ok (.return_, 1) := by decide +kernel
theorem dX3_in_0 : decode cX3_in 0 = .ok (.iload_n 0, 1) := by decide +kernel
theorem dX3_in_1 : decode cX3_in 1 = .ok (.iload_n 1, 1) := by decide +kernel
theorem dX3_in_2 : decode cX3_in 2 = .ok (.if_icmp .lt 12, 3) := by decide +kernel
theorem dX3_in_5 : decode cX3_in 5 = .ok (.iload_n 0, 1) := by decide +kernel
theorem dX3_in_6 : decode cX3_in 6 = .ok (.iload_n 2, 1) := by decide +kernel
theorem dX3_in_7 : decode cX3_in 7 = .ok (.if_icmp .gt 7, 3) := by decide +kernel
theorem dX3_in_10 : decode cX3_in 10 = .ok (.iconst 1, 1) := by decide +kernel
theorem dX3_in_11 : decode cX3_in 11 = .ok (.goto 4, 3) := by decide +kernel
theorem dX3_in_14 : decode cX3_in 14 = .ok (.iconst 0, 1) := by decide +kernel
theorem dX3_in_15 : decode cX3_in 15 = .ok (.ireturn, 1) := by decide +kernel
set_option maxRecDepth 20000 in
theorem ggX3_isNode_X3_in : GoodIn wsX3_isNode wsX3_in := goodIn_r _ [4] (by decide +kernel) (by decide +kernel)
set_option maxRecDepth 20000 in
theorem gX3_isNode_X3_in : GoodIn wsX3_isNode (va_wsS RX3 36 yX3_in wsX3_in) := goodIn_app (goodIn_of _ (by decide +kernel)) ggX3_isNode_X3_in
theorem dX3_isNode_0 : decode cX3_isNode 0 = .ok (.iload_n 0, 1) := by decide +kernel
theorem dX3_isNode_1 : decode cX3_isNode 1 = .ok (.iconst 0, 1) := by decide +kernel
theorem dX3_isNode_2 : decode cX3_isNode 2 = .ok (.bipush 7, 2) := by decide +kernel
theorem dX3_isNode_4 : decode cX3_isNode 4 = .ok (.invokestatic 36, 3) := by decide +kernel
theorem dX3_isNode_7 : decode cX3_isNode 7 = .ok (.ireturn, 1) := by decide +kernel
theorem dX3_pair_0 : decode cX3_pair 0 = .ok (.iload_n 0, 1) := by decide +kernel
theorem dX3_pair_1 : decode cX3_pair 1 = .ok (.iload_n 1, 1) := by decide +kernel
theorem dX3_pair_2 : decode cX3_pair 2 = .ok (.if_icmp .ge 12, 3) := by decide +kernel
theorem dX3_pair_5 : decode cX3_pair 5 = .ok (.bipush 8, 2) := by decide +kernel
theorem dX3_pair_7 : decode cX3_pair 7 = .ok (.iload_n 0, 1) := by decide +kernel
theorem dX3_pair_8 : decode cX3_pair 8 = .ok (.imul, 1) := by decide +kernel
theorem dX3_pair_9 : decode cX3_pair 9 = .ok (.iload_n 1, 1) := by decide +kernel
theorem dX3_pair_10 : decode cX3_pair 10 = .ok (.iadd, 1) := by decide +kernel
theorem dX3_pair_11 : decode cX3_pair 11 = .ok (.goto 9, 3) := by decide +kernel
theorem dX3_pair_14 : decode cX3_pair 14 = .ok (.bipush 8, 2) := by decide +kernel
theorem dX3_pair_16 : decode cX3_pair 16 = .ok (.iload_n 1, 1) := by decide +kernel
theorem dX3_pair_17 : decode cX3_pair 17 = .ok (.imul, 1) := by decide +kernel
theorem dX3_pair_18 : decode cX3_pair 18 = .ok (.iload_n 0, 1) := by decide +kernel
theorem dX3_pair_19 : decode cX3_pair 19 = .ok (.iadd, 1) := by decide +kernel
theorem dX3_pair_20 : decode cX3_pair 20 = .ok (.ireturn, 1) := by decide +kernel
set_option maxRecDepth 20000 in
theorem ggX3_isEdge_X3_pair : GoodIn wsX3_isEdge wsX3_pair := goodIn_r _ [5] (by decide +kernel) (by decide +kernel)
set_option maxRecDepth 20000 in
theorem gX3_isEdge_X3_pair : GoodIn wsX3_isEdge (va_wsS RX3 40 yX3_pair wsX3_pair) := goodIn_app (goodIn_of _ (by decide +kernel)) ggX3_isEdge_X3_pair
theorem dX3_isEdge_0 : decode cX3_isEdge 0 = .ok (.iload_n 1, 1) := by decide +kernel
theorem dX3_isEdge_1 : decode cX3_isEdge 1 = .ok (.iload_n 2, 1) := by decide +kernel
theorem dX3_isEdge_2 : decode cX3_isEdge 2 = .ok (.if_icmp .eq 23, 3) := by decide +kernel
theorem dX3_isEdge_5 : decode cX3_isEdge 5 = .ok (.aload_n 0, 1) := by decide +kernel
theorem dX3_isEdge_6 : decode cX3_isEdge 6 = .ok (.getfield 7, 3) := by decide +kernel
theorem dX3_isEdge_9 : decode cX3_isEdge 9 = .ok (.bipush 24, 2) := by decide +kernel
theorem dX3_isEdge_11 : decode cX3_isEdge 11 = .ok (.iload_n 1, 1) := by decide +kernel
theorem dX3_isEdge_12 : decode cX3_isEdge 12 = .ok (.iload_n 2, 1) := by decide +kernel
theorem dX3_isEdge_13 : decode cX3_isEdge 13 = .ok (.invokestatic 40, 3) := by decide +kernel
theorem dX3_isEdge_16 : decode cX3_isEdge 16 = .ok (.iadd, 1) := by decide +kernel
theorem dX3_isEdge_17 : decode cX3_isEdge 17 = .ok (.iaload, 1) := by decide +kernel
theorem dX3_isEdge_18 : decode cX3_isEdge 18 = .ok (.ifCond .lt 7, 3) := by decide +kernel
theorem dX3_isEdge_21 : decode cX3_isEdge 21 = .ok (.iconst 1, 1) := by decide +kernel
theorem dX3_isEdge_22 : decode cX3_isEdge 22 = .ok (.goto 4, 3) := by decide +kernel
theorem dX3_isEdge_25 : decode cX3_isEdge 25 = .ok (.iconst 0, 1) := by decide +kernel
theorem dX3_isEdge_26 : decode cX3_isEdge 26 = .ok (.ireturn, 1) := by decide +kernel
theorem dX3_edges_0 : decode cX3_edges 0 = .ok (.iconst 0, 1) := by decide +kernel
theorem dX3_edges_1 : decode cX3_edges 1 = .ok (.istore_n 1, 1) := by decide +kernel
theorem dX3_edges_2 : decode cX3_edges 2 = .ok (.iconst 0, 1) := by decide +kernel
theorem dX3_edges_3 : decode cX3_edges 3 = .ok (.istore_n 2, 1) := by decide +kernel
theorem dX3_edges_4 : decode cX3_edges 4 = .ok (.iload_n 2, 1) := by decide +kernel
theorem dX3_edges_5 : decode cX3_edges 5 = .ok (.bipush 64, 2) := by decide +kernel
theorem dX3_edges_7 : decode cX3_edges 7 = .ok (.if_icmp .ge 29, 3) := by decide +kernel
theorem dX3_edges_10 : decode cX3_edges 10 = .ok (.iload_n 1, 1) := by decide +kernel
theorem dX3_edges_11 : decode cX3_edges 11 = .ok (.aload_n 0, 1) := by decide +kernel
theorem dX3_edges_12 : decode cX3_edges 12 = .ok (.getfield 7, 3) := by decide +kernel
theorem dX3_edges_15 : decode cX3_edges 15 = .ok (.bipush 24, 2) := by decide +kernel
theorem dX3_edges_17 : decode cX3_edges 17 = .ok (.iload_n 2, 1) := by decide +kernel
theorem dX3_edges_18 : decode cX3_edges 18 = .ok (.iadd, 1) := by decide +kernel
theorem dX3_edges_19 : decode cX3_edges 19 = .ok (.iaload, 1) := by decide +kernel
theorem dX3_edges_20 : decode cX3_edges 20 = .ok (.ifCond .lt 7, 3) := by decide +kernel
theorem dX3_edges_23 : decode cX3_edges 23 = .ok (.iconst 1, 1) := by decide +kernel
theorem dX3_edges_24 : decode cX3_edges 24 = .ok (.goto 4, 3) := by decide +kernel
theorem dX3_edges_27 : decode cX3_edges 27 = .ok (.iconst 0, 1) := by decide +kernel
theorem dX3_edges_28 : decode cX3_edges 28 = .ok (.iadd, 1) := by decide +kernel
theorem dX3_edges_29 : decode cX3_edges 29 = .ok (.istore_n 1, 1) := by decide +kernel
theorem dX3_edges_30 : decode cX3_edges 30 = .ok (.iinc 2 1, 3) := by decide +kernel
theorem dX3_edges_33 : decode cX3_edges 33 = .ok (.goto (-29), 3) := by decide +kernel
theorem dX3_edges_36 : decode cX3_edges 36 = .ok (.iload_n 1, 1) := by decide +kernel
theorem dX3_edges_37 : decode cX3_edges 37 = .ok (.ireturn, 1) := by decide +kernel
set_option maxRecDepth 20000 in
theorem ggX3_edgesOf_X3_isEdge : GoodIn wsX3_edgesOf wsX3_isEdge := goodIn_r _ [5, 6, 7, 8, 4, 9, 10, 11, 12, 13, 14, 15, 16, 17, 18, 19, 20] (by decide +kernel) (by decide +kernel)
set_option maxRecDepth 20000 in
theorem gX3_edgesOf_X3_isEdge : GoodIn wsX3_edgesOf (wsV RX3 44 RX3 yX3_isEdge wsX3_isEdge) := goodIn_app (goodIn_of _ (by decide +kernel)) ggX3_edgesOf_X3_isEdge
theorem dX3_edgesOf_0 : decode cX3_edgesOf 0 = .ok (.iconst 0, 1) := by decide +kernel
theorem dX3_edgesOf_1 : decode cX3_edgesOf 1 = .ok (.istore_n 2, 1) := by decide +kernel
theorem dX3_edgesOf_2 : decode cX3_edgesOf 2 = .ok (.iconst 0, 1) := by decide +kernel
theorem dX3_edgesOf_3 : decode cX3_edgesOf 3 = .ok (.istore_n 3, 1) := by decide +kernel
theorem dX3_edgesOf_4 : decode cX3_edgesOf 4 = .ok (.iload_n 3, 1) := by decide +kernel
theorem dX3_edgesOf_5 : decode cX3_edgesOf 5 = .ok (.bipush 8, 2) := by decide +kernel
theorem dX3_edgesOf_7 : decode cX3_edgesOf 7 = .ok (.if_icmp .ge 26, 3) := by decide +kernel
theorem dX3_edgesOf_10 : decode cX3_edgesOf 10 = .ok (.iload_n 2, 1) := by decide +kernel
theorem dX3_edgesOf_11 : decode cX3_edgesOf 11 = .ok (.aload_n 0, 1) := by decide +kernel
theorem dX3_edgesOf_12 : decode cX3_edgesOf 12 = .ok (.iload_n 1, 1) := by decide +kernel
theorem dX3_edgesOf_13 : decode cX3_edgesOf 13 = .ok (.iload_n 3, 1) := by decide +kernel
theorem dX3_edgesOf_14 : decode cX3_edgesOf 14 = .ok (.invokevirtual 44, 3) := by decide +kernel
theorem dX3_edgesOf_17 : decode cX3_edgesOf 17 = .ok (.ifCond .eq 7, 3) := by decide +kernel
theorem dX3_edgesOf_20 : decode cX3_edgesOf 20 = .ok (.iconst 1, 1) := by decide +kernel
theorem dX3_edgesOf_21 : decode cX3_edgesOf 21 = .ok (.goto 4, 3) := by decide +kernel
theorem dX3_edgesOf_24 : decode cX3_edgesOf 24 = .ok (.iconst 0, 1) := by decide +kernel
theorem dX3_edgesOf_25 : decode cX3_edgesOf 25 = .ok (.iadd, 1) := by decide +kernel
theorem dX3_edgesOf_26 : decode cX3_edgesOf 26 = .ok (.istore_n 2, 1) := by decide +kernel
theorem dX3_edgesOf_27 : decode cX3_edgesOf 27 = .ok (.iinc 3 1, 3) := by decide +kernel
theorem dX3_edgesOf_30 : decode cX3_edgesOf 30 = .ok (.goto (-26), 3) := by decide +kernel
theorem dX3_edgesOf_33 : decode cX3_edgesOf 33 = .ok (.iload_n 2, 1) := by decide +kernel
theorem dX3_edgesOf_34 : decode cX3_edgesOf 34 = .ok (.ireturn, 1) := by decide +kernel
set_option maxRecDepth 20000 in
theorem ggX3_node_X3_isNode : GoodIn wsX3_node wsX3_isNode := goodIn_r _ [5, 6, 7, 4, 8] (by decide +kernel) (by decide +kernel)
set_option maxRecDepth 20000 in
theorem gX3_node_X3_isNode : GoodIn wsX3_node (va_wsS RX3 48 yX3_isNode wsX3_isNode) := goodIn_app (goodIn_of _ (by decide +kernel)) ggX3_node_X3_isNode
set_option maxRecDepth 20000 in
theorem ggX3_node_X3_in : GoodIn wsX3_node wsX3_in := goodIn_r _ [8] (by decide +kernel) (by decide +kernel)
set_option maxRecDepth 20000 in
theorem gX3_node_X3_in : GoodIn wsX3_node (va_wsS RX3 36 yX3_in wsX3_in) := goodIn_app (goodIn_of _ (by decide +kernel)) ggX3_node_X3_in
theorem dX3_node_0 : decode cX3_node 0 = .ok (.iload_n 1, 1) := by decide +kernel
theorem dX3_node_1 : decode cX3_node 1 = .ok (.invokestatic 48, 3) := by decide +kernel
theorem dX3_node_4 : decode cX3_node 4 = .ok (.ifCond .ne 5, 3) := by decide +kernel
theorem dX3_node_7 : decode cX3_node 7 = .ok (.iconst (-1), 1) := by decide +kernel
theorem dX3_node_8 : decode cX3_node 8 = .ok (.ireturn, 1) := by decide +kernel
theorem dX3_node_9 : decode cX3_node 9 = .ok (.iload_n 2, 1) := by decide +kernel
theorem dX3_node_10 : decode cX3_node 10 = .ok (.iconst 1, 1) := by decide +kernel
theorem dX3_node_11 : decode cX3_node 11 = .ok (.iconst 4, 1) := by decide +kernel
theorem dX3_node_12 : decode cX3_node 12 = .ok (.invokestatic 36, 3) := by decide +kernel
theorem dX3_node_15 : decode cX3_node 15 = .ok (.ifCond .eq 14, 3) := by decide +kernel
theorem dX3_node_18 : decode cX3_node 18 = .ok (.iload_n 3, 1) := by decide +kernel
theorem dX3_node_19 : decode cX3_node 19 = .ok (.iconst 0, 1) := by decide +kernel
theorem dX3_node_20 : decode cX3_node 20 = .ok (.sipush 999, 3) := by decide +kernel
theorem dX3_node_23 : decode cX3_node 23 = .ok (.invokestatic 36, 3) := by decide +kernel
theorem dX3_node_26 : decode cX3_node 26 = .ok (.ifCond .ne 6, 3) := by decide +kernel
theorem dX3_node_29 : decode cX3_node 29 = .ok (.bipush (-2), 2) := by decide +kernel
theorem dX3_node_31 : decode cX3_node 31 = .ok (.ireturn, 1) := by decide +kernel
theorem dX3_node_32 : decode cX3_node 32 = .ok (.aload_n 0, 1) := by decide +kernel
theorem dX3_node_33 : decode cX3_node 33 = .ok (.getfield 7, 3) := by decide +kernel
theorem dX3_node_36 : decode cX3_node 36 = .ok (.bipush 8, 2) := by decide +kernel
theorem dX3_node_38 : decode cX3_node 38 = .ok (.iload_n 1, 1) := by decide +kernel
theorem dX3_node_39 : decode cX3_node 39 = .ok (.iadd, 1) := by decide +kernel
theorem dX3_node_40 : decode cX3_node 40 = .ok (.iaload, 1) := by decide +kernel
theorem dX3_node_41 : decode cX3_node 41 = .ok (.istore 4, 2) := by decide +kernel
theorem dX3_node_43 : decode cX3_node 43 = .ok (.aload_n 0, 1) := by decide +kernel
theorem dX3_node_44 : decode cX3_node 44 = .ok (.getfield 7, 3) := by decide +kernel
theorem dX3_node_47 : decode cX3_node 47 = .ok (.iconst 0, 1) := by decide +kernel
theorem dX3_node_48 : decode cX3_node 48 = .ok (.iload_n 1, 1) := by decide +kernel
theorem dX3_node_49 : decode cX3_node 49 = .ok (.iadd, 1) := by decide +kernel
theorem dX3_node_50 : decode cX3_node 50 = .ok (.iload_n 2, 1) := by decide +kernel
theorem dX3_node_51 : decode cX3_node 51 = .ok (.iastore, 1) := by decide +kernel
theorem dX3_node_52 : decode cX3_node 52 = .ok (.aload_n 0, 1) := by decide +kernel
theorem dX3_node_53 : decode cX3_node 53 = .ok (.getfield 7, 3) := by decide +kernel
theorem dX3_node_56 : decode cX3_node 56 = .ok (.bipush 8, 2) := by decide +kernel
theorem dX3_node_58 : decode cX3_node 58 = .ok (.iload_n 1, 1) := by decide +kernel
theorem dX3_node_59 : decode cX3_node 59 = .ok (.iadd, 1) := by decide +kernel
theorem dX3_node_60 : decode cX3_node 60 = .ok (.iload_n 3, 1) := by decide +kernel
theorem dX3_node_61 : decode cX3_node 61 = .ok (.iastore, 1) := by decide +kernel
theorem dX3_node_62 : decode cX3_node 62 = .ok (.iload 4, 2) := by decide +kernel
theorem dX3_node_64 : decode cX3_node 64 = .ok (.sipush 10000, 3) := by decide +kernel
theorem dX3_node_67 : decode cX3_node 67 = .ok (.iadd, 1) := by decide +kernel
theorem dX3_node_68 : decode cX3_node 68 = .ok (.ireturn, 1) := by decide +kernel
set_option maxRecDepth 20000 in
theorem ggX3_lay_X3_pair : GoodIn wsX3_lay wsX3_pair := goodIn_r _ [5] (by decide +kernel) (by decide +kernel)
set_option maxRecDepth 20000 in
theorem gX3_lay_X3_pair : GoodIn wsX3_lay (va_wsS RX3 40 yX3_pair wsX3_pair) := goodIn_app (goodIn_of _ (by decide +kernel)) ggX3_lay_X3_pair
theorem dX3_lay_0 : decode cX3_lay 0 = .ok (.aload_n 0, 1) := by decide +kernel
theorem dX3_lay_1 : decode cX3_lay 1 = .ok (.getfield 7, 3) := by decide +kernel
theorem dX3_lay_4 : decode cX3_lay 4 = .ok (.bipush 24, 2) := by decide +kernel
theorem dX3_lay_6 : decode cX3_lay 6 = .ok (.iload_n 1, 1) := by decide +kernel
theorem dX3_lay_7 : decode cX3_lay 7 = .ok (.iload_n 2, 1) := by decide +kernel
theorem dX3_lay_8 : decode cX3_lay 8 = .ok (.invokestatic 40, 3) := by decide +kernel
theorem dX3_lay_11 : decode cX3_lay 11 = .ok (.iadd, 1) := by decide +kernel
theorem dX3_lay_12 : decode cX3_lay 12 = .ok (.iload_n 3, 1) := by decide +kernel
theorem dX3_lay_13 : decode cX3_lay 13 = .ok (.ifCond .ge 8, 3) := by decide +kernel
theorem dX3_lay_16 : decode cX3_lay 16 = .ok (.bipush (-6), 2) := by decide +kernel
theorem dX3_lay_18 : decode cX3_lay 18 = .ok (.goto 4, 3) := by decide +kernel
theorem dX3_lay_21 : decode cX3_lay 21 = .ok (.iload_n 3, 1) := by decide +kernel
theorem dX3_lay_22 : decode cX3_lay 22 = .ok (.iastore, 1) := by decide +kernel
theorem dX3_lay_23 : decode cX3_lay 23 = .ok (.aload_n 0, 1) := by decide +kernel
theorem dX3_lay_24 : decode cX3_lay 24 = .ok (.getfield 7, 3) := by decide +kernel
theorem dX3_lay_27 : decode cX3_lay 27 = .ok (.bipush 88, 2) := by decide +kernel
theorem dX3_lay_29 : decode cX3_lay 29 = .ok (.iload_n 1, 1) := by decide +kernel
theorem dX3_lay_30 : decode cX3_lay 30 = .ok (.iload_n 2, 1) := by decide +kernel
theorem dX3_lay_31 : decode cX3_lay 31 = .ok (.invokestatic 40, 3) := by decide +kernel
theorem dX3_lay_34 : decode cX3_lay 34 = .ok (.iadd, 1) := by decide +kernel
theorem dX3_lay_35 : decode cX3_lay 35 = .ok (.iconst 0, 1) := by decide +kernel
theorem dX3_lay_36 : decode cX3_lay 36 = .ok (.iastore, 1) := by decide +kernel
theorem dX3_lay_37 : decode cX3_lay 37 = .ok (.return_, 1) := by decide +kernel
set_option maxRecDepth 20000 in
theorem ggX3_edge_X3_isNode : GoodIn wsX3_edge wsX3_isNode := goodIn_r _ [4, 5, 6, 3, 7] (by decide +kernel) (by decide +kernel)
set_option maxRecDepth 20000 in
theorem gX3_edge_X3_isNode : GoodIn wsX3_edge (va_wsS RX3 48 yX3_isNode wsX3_isNode) := goodIn_app (goodIn_of _ (by decide +kernel)) ggX3_edge_X3_isNode
set_option maxRecDepth 20000 in
theorem ggX3_edge_X3_in : GoodIn wsX3_edge wsX3_in := goodIn_r _ [7] (by decide +kernel) (by decide +kernel)
set_option maxRecDepth 20000 in
theorem gX3_edge_X3_in : GoodIn wsX3_edge (va_wsS RX3 36 yX3_in wsX3_in) := goodIn_app (goodIn_of _ (by decide +kernel)) ggX3_edge_X3_in
set_option maxRecDepth 20000 in
theorem ggX3_edge_X3_isEdge : GoodIn wsX3_edge wsX3_isEdge := goodIn_r _ [11, 12, 13, 14, 3, 15, 24, 25, 26, 27, 28, 29, 30, 31, 32, 33, 34] (by decide +kernel) (by decide +kernel)
set_option maxRecDepth 20000 in
theorem gX3_edge_X3_isEdge : GoodIn wsX3_edge (wsV RX3 44 RX3 yX3_isEdge wsX3_isEdge) := goodIn_app (goodIn_of _ (by decide +kernel)) ggX3_edge_X3_isEdge
set_option maxRecDepth 20000 in
theorem ggX3_edge_X3_edges : GoodIn wsX3_edge wsX3_edges := goodIn_r _ [19, 12, 24, 25, 26, 27, 28, 29, 30, 31, 32, 33, 34] (by decide +kernel) (by decide +kernel)
set_option maxRecDepth 20000 in
theorem gX3_edge_X3_edges : GoodIn wsX3_edge (wsV RX3 52 RX3 yX3_edges wsX3_edges) := goodIn_app (goodIn_of _ (by decide +kernel)) ggX3_edge_X3_edges
set_option maxRecDepth 20000 in
theorem ggX3_edge_X3_lay : GoodIn wsX3_edge wsX3_lay := goodIn_r _ [23, 12, 13, 14, 3, 15, 24, 25, 26, 27, 28, 29, 30, 31, 32, 33, 34] (by decide +kernel) (by decide +kernel)
set_option maxRecDepth 20000 in
theorem gX3_edge_X3_lay : GoodIn wsX3_edge (wsV RX3 56 RX3 yX3_lay wsX3_lay) := goodIn_app (goodIn_of _ (by decide +kernel)) ggX3_edge_X3_lay
theorem dX3_edge_0 : decode cX3_edge 0 = .ok (.iload_n 1, 1) := by decide +kernel
theorem dX3_edge_1 : decode cX3_edge 1 = .ok (.invokestatic 48, 3) := by decide +kernel
theorem dX3_edge_4 : decode cX3_edge 4 = .ok (.ifCond .eq 10, 3) := by decide +kernel
theorem dX3_edge_7 : decode cX3_edge 7 = .ok (.iload_n 2, 1) := by decide +kernel
theorem dX3_edge_8 : decode cX3_edge 8 = .ok (.invokestatic 48, 3) := by decide +kernel
theorem dX3_edge_11 : decode cX3_edge 11 = .ok (.ifCond .ne 5, 3) := by decide +kernel
theorem dX3_edge_14 : decode cX3_edge 14 = .ok (.iconst (-1), 1) := by decide +kernel
theorem dX3_edge_15 : decode cX3_edge 15 = .ok (.ireturn, 1) := by decide +kernel
theorem dX3_edge_16 : decode cX3_edge 16 = .ok (.iload_n 1, 1) := by decide +kernel
theorem dX3_edge_17 : decode cX3_edge 17 = .ok (.iload_n 2, 1) := by decide +kernel
theorem dX3_edge_18 : decode cX3_edge 18 = .ok (.if_icmp .eq 12, 3) := by decide +kernel
theorem dX3_edge_21 : decode cX3_edge 21 = .ok (.iload_n 3, 1) := by decide +kernel
theorem dX3_edge_22 : decode cX3_edge 22 = .ok (.iconst (-1), 1) := by decide +kernel
theorem dX3_edge_23 : decode cX3_edge 23 = .ok (.iconst 3, 1) := by decide +kernel
theorem dX3_edge_24 : decode cX3_edge 24 = .ok (.invokestatic 36, 3) := by decide +kernel
theorem dX3_edge_27 : decode cX3_edge 27 = .ok (.ifCond .ne 6, 3) := by decide +kernel
theorem dX3_edge_30 : decode cX3_edge 30 = .ok (.bipush (-2), 2) := by decide +kernel
theorem dX3_edge_32 : decode cX3_edge 32 = .ok (.ireturn, 1) := by decide +kernel
theorem dX3_edge_33 : decode cX3_edge 33 = .ok (.iload_n 3, 1) := by decide +kernel
theorem dX3_edge_34 : decode cX3_edge 34 = .ok (.ifCond .lt 24, 3) := by decide +kernel
theorem dX3_edge_37 : decode cX3_edge 37 = .ok (.aload_n 0, 1) := by decide +kernel
theorem dX3_edge_38 : decode cX3_edge 38 = .ok (.iload_n 1, 1) := by decide +kernel
theorem dX3_edge_39 : decode cX3_edge 39 = .ok (.iload_n 2, 1) := by decide +kernel
theorem dX3_edge_40 : decode cX3_edge 40 = .ok (.invokevirtual 44, 3) := by decide +kernel
theorem dX3_edge_43 : decode cX3_edge 43 = .ok (.ifCond .ne 15, 3) := by decide +kernel
theorem dX3_edge_46 : decode cX3_edge 46 = .ok (.aload_n 0, 1) := by decide +kernel
theorem dX3_edge_47 : decode cX3_edge 47 = .ok (.invokevirtual 52, 3) := by decide +kernel
theorem dX3_edge_50 : decode cX3_edge 50 = .ok (.bipush 12, 2) := by decide +kernel
theorem dX3_edge_52 : decode cX3_edge 52 = .ok (.if_icmp .ne 6, 3) := by decide +kernel
theorem dX3_edge_55 : decode cX3_edge 55 = .ok (.bipush (-4), 2) := by decide +kernel
theorem dX3_edge_57 : decode cX3_edge 57 = .ok (.ireturn, 1) := by decide +kernel
theorem dX3_edge_58 : decode cX3_edge 58 = .ok (.aload_n 0, 1) := by decide +kernel
theorem dX3_edge_59 : decode cX3_edge 59 = .ok (.iload_n 1, 1) := by decide +kernel
theorem dX3_edge_60 : decode cX3_edge 60 = .ok (.iload_n 2, 1) := by decide +kernel
theorem dX3_edge_61 : decode cX3_edge 61 = .ok (.iload_n 3, 1) := by decide +kernel
theorem dX3_edge_62 : decode cX3_edge 62 = .ok (.invokevirtual 56, 3) := by decide +kernel
theorem dX3_edge_65 : decode cX3_edge 65 = .ok (.aload_n 0, 1) := by decide +kernel
theorem dX3_edge_66 : decode cX3_edge 66 = .ok (.invokevirtual 52, 3) := by decide +kernel
theorem dX3_edge_69 : decode cX3_edge 69 = .ok (.ireturn, 1) := by decide +kernel
set_option maxRecDepth 20000 in
theorem ggX3_say_X3_in : GoodIn wsX3_say wsX3_in := goodIn_r _ [6] (by decide +kernel) (by decide +kernel)
set_option maxRecDepth 20000 in
theorem gX3_say_X3_in : GoodIn wsX3_say (va_wsS RX3 36 yX3_in wsX3_in) := goodIn_app (goodIn_of _ (by decide +kernel)) ggX3_say_X3_in
theorem dX3_say_0 : decode cX3_say 0 = .ok (.iload_n 1, 1) := by decide +kernel
theorem dX3_say_1 : decode cX3_say 1 = .ok (.bipush 33, 2) := by decide +kernel
theorem dX3_say_3 : decode cX3_say 3 = .ok (.bipush 126, 2) := by decide +kernel
theorem dX3_say_5 : decode cX3_say 5 = .ok (.invokestatic 36, 3) := by decide +kernel
theorem dX3_say_8 : decode cX3_say 8 = .ok (.ifCond .ne 6, 3) := by decide +kernel
theorem dX3_say_11 : decode cX3_say 11 = .ok (.bipush (-2), 2) := by decide +kernel
theorem dX3_say_13 : decode cX3_say 13 = .ok (.ireturn, 1) := by decide +kernel
theorem dX3_say_14 : decode cX3_say 14 = .ok (.aload_n 0, 1) := by decide +kernel
theorem dX3_say_15 : decode cX3_say 15 = .ok (.getfield 60, 3) := by decide +kernel
theorem dX3_say_18 : decode cX3_say 18 = .ok (.bipush 40, 2) := by decide +kernel
theorem dX3_say_20 : decode cX3_say 20 = .ok (.if_icmp .ne 6, 3) := by decide +kernel
theorem dX3_say_23 : decode cX3_say 23 = .ok (.bipush (-4), 2) := by decide +kernel
theorem dX3_say_25 : decode cX3_say 25 = .ok (.ireturn, 1) := by decide +kernel
theorem dX3_say_26 : decode cX3_say 26 = .ok (.aload_n 0, 1) := by decide +kernel
theorem dX3_say_27 : decode cX3_say 27 = .ok (.getfield 20, 3) := by decide +kernel
theorem dX3_say_30 : decode cX3_say 30 = .ok (.aload_n 0, 1) := by decide +kernel
theorem dX3_say_31 : decode cX3_say 31 = .ok (.getfield 60, 3) := by decide +kernel
theorem dX3_say_34 : decode cX3_say 34 = .ok (.iload_n 1, 1) := by decide +kernel
theorem dX3_say_35 : decode cX3_say 35 = .ok (.iastore, 1) := by decide +kernel
theorem dX3_say_36 : decode cX3_say 36 = .ok (.aload_n 0, 1) := by decide +kernel
theorem dX3_say_37 : decode cX3_say 37 = .ok (.dup, 1) := by decide +kernel
theorem dX3_say_38 : decode cX3_say 38 = .ok (.getfield 60, 3) := by decide +kernel
theorem dX3_say_41 : decode cX3_say 41 = .ok (.iconst 1, 1) := by decide +kernel
theorem dX3_say_42 : decode cX3_say 42 = .ok (.iadd, 1) := by decide +kernel
theorem dX3_say_43 : decode cX3_say 43 = .ok (.putfield 60, 3) := by decide +kernel
theorem dX3_say_46 : decode cX3_say 46 = .ok (.aload_n 0, 1) := by decide +kernel
theorem dX3_say_47 : decode cX3_say 47 = .ok (.getfield 60, 3) := by decide +kernel
theorem dX3_say_50 : decode cX3_say 50 = .ok (.ireturn, 1) := by decide +kernel
theorem dX3_wipe_0 : decode cX3_wipe 0 = .ok (.aload_n 0, 1) := by decide +kernel
theorem dX3_wipe_1 : decode cX3_wipe 1 = .ok (.getfield 60, 3) := by decide +kernel
theorem dX3_wipe_4 : decode cX3_wipe 4 = .ok (.istore_n 1, 1) := by decide +kernel
theorem dX3_wipe_5 : decode cX3_wipe 5 = .ok (.aload_n 0, 1) := by decide +kernel
theorem dX3_wipe_6 : decode cX3_wipe 6 = .ok (.iconst 0, 1) := by decide +kernel
theorem dX3_wipe_7 : decode cX3_wipe 7 = .ok (.putfield 60, 3) := by decide +kernel
theorem dX3_wipe_10 : decode cX3_wipe 10 = .ok (.iload_n 1, 1) := by decide +kernel
theorem dX3_wipe_11 : decode cX3_wipe 11 = .ok (.ireturn, 1) := by decide +kernel
set_option maxRecDepth 20000 in
theorem ggX3_letter_X3_in : GoodIn wsX3_letter wsX3_in := goodIn_r _ [5] (by decide +kernel) (by decide +kernel)
set_option maxRecDepth 20000 in
theorem gX3_letter_X3_in : GoodIn wsX3_letter (va_wsS RX3 36 yX3_in wsX3_in) := goodIn_app (goodIn_of _ (by decide +kernel)) ggX3_letter_X3_in
theorem dX3_letter_0 : decode cX3_letter 0 = .ok (.aload_n 0, 1) := by decide +kernel
theorem dX3_letter_1 : decode cX3_letter 1 = .ok (.getfield 20, 3) := by decide +kernel
theorem dX3_letter_4 : decode cX3_letter 4 = .ok (.iload_n 1, 1) := by decide +kernel
theorem dX3_letter_5 : decode cX3_letter 5 = .ok (.iaload, 1) := by decide +kernel
theorem dX3_letter_6 : decode cX3_letter 6 = .ok (.bipush 97, 2) := by decide +kernel
theorem dX3_letter_8 : decode cX3_letter 8 = .ok (.bipush 104, 2) := by decide +kernel
theorem dX3_letter_10 : decode cX3_letter 10 = .ok (.invokestatic 36, 3) := by decide +kernel
theorem dX3_letter_13 : decode cX3_letter 13 = .ok (.ifCond .eq 15, 3) := by decide +kernel
theorem dX3_letter_16 : decode cX3_letter 16 = .ok (.aload_n 0, 1) := by decide +kernel
theorem dX3_letter_17 : decode cX3_letter 17 = .ok (.getfield 20, 3) := by decide +kernel
theorem dX3_letter_20 : decode cX3_letter 20 = .ok (.iload_n 1, 1) := by decide +kernel
theorem dX3_letter_21 : decode cX3_letter 21 = .ok (.iaload, 1) := by decide +kernel
theorem dX3_letter_22 : decode cX3_letter 22 = .ok (.bipush 97, 2) := by decide +kernel
theorem dX3_letter_24 : decode cX3_letter 24 = .ok (.isub, 1) := by decide +kernel
theorem dX3_letter_25 : decode cX3_letter 25 = .ok (.goto 5, 3) := by decide +kernel
theorem dX3_letter_28 : decode cX3_letter 28 = .ok (.bipush (-6), 2) := by decide +kernel
theorem dX3_letter_30 : decode cX3_letter 30 = .ok (.ireturn, 1) := by decide +kernel
set_option maxRecDepth 20000 in
theorem ggX3_isNew_X3_letter : GoodIn wsX3_isNew wsX3_letter := goodIn_r _ [5, 6, 7, 8, 4, 9, 13, 14, 15, 16, 17, 18, 19, 20, 21, 22, 23] (by decide +kernel) (by decide +kernel)
set_option maxRecDepth 20000 in
theorem gX3_isNew_X3_letter : GoodIn wsX3_isNew (wsV RX3 64 RX3 yX3_letter wsX3_letter) := goodIn_app (goodIn_of _ (by decide +kernel)) ggX3_isNew_X3_letter
set_option maxRecDepth 20000 in
theorem ggX3_isNew_X3_pair : GoodIn wsX3_isNew wsX3_pair := goodIn_r _ [12] (by decide +kernel) (by decide +kernel)
set_option maxRecDepth 20000 in
theorem gX3_isNew_X3_pair : GoodIn wsX3_isNew (va_wsS RX3 40 yX3_pair wsX3_pair) := goodIn_app (goodIn_of _ (by decide +kernel)) ggX3_isNew_X3_pair
theorem dX3_isNew_0 : decode cX3_isNew 0 = .ok (.aload_n 0, 1) := by decide +kernel
theorem dX3_isNew_1 : decode cX3_isNew 1 = .ok (.iload_n 1, 1) := by decide +kernel
theorem dX3_isNew_2 : decode cX3_isNew 2 = .ok (.iconst 1, 1) := by decide +kernel
theorem dX3_isNew_3 : decode cX3_isNew 3 = .ok (.isub, 1) := by decide +kernel
theorem dX3_isNew_4 : decode cX3_isNew 4 = .ok (.invokevirtual 64, 3) := by decide +kernel
theorem dX3_isNew_7 : decode cX3_isNew 7 = .ok (.istore_n 2, 1) := by decide +kernel
theorem dX3_isNew_8 : decode cX3_isNew 8 = .ok (.aload_n 0, 1) := by decide +kernel
theorem dX3_isNew_9 : decode cX3_isNew 9 = .ok (.iload_n 1, 1) := by decide +kernel
theorem dX3_isNew_10 : decode cX3_isNew 10 = .ok (.invokevirtual 64, 3) := by decide +kernel
theorem dX3_isNew_13 : decode cX3_isNew 13 = .ok (.istore_n 3, 1) := by decide +kernel
theorem dX3_isNew_14 : decode cX3_isNew 14 = .ok (.iload_n 3, 1) := by decide +kernel
theorem dX3_isNew_15 : decode cX3_isNew 15 = .ok (.ifCond .lt 8, 3) := by decide +kernel
theorem dX3_isNew_18 : decode cX3_isNew 18 = .ok (.iload_n 2, 1) := by decide +kernel
theorem dX3_isNew_19 : decode cX3_isNew 19 = .ok (.iload_n 3, 1) := by decide +kernel
theorem dX3_isNew_20 : decode cX3_isNew 20 = .ok (.if_icmp .ne 5, 3) := by decide +kernel
theorem dX3_isNew_23 : decode cX3_isNew 23 = .ok (.iconst 0, 1) := by decide +kernel
theorem dX3_isNew_24 : decode cX3_isNew 24 = .ok (.ireturn, 1) := by decide +kernel
theorem dX3_isNew_25 : decode cX3_isNew 25 = .ok (.iconst 1, 1) := by decide +kernel
theorem dX3_isNew_26 : decode cX3_isNew 26 = .ok (.istore 4, 2) := by decide +kernel
theorem dX3_isNew_28 : decode cX3_isNew 28 = .ok (.iconst 1, 1) := by decide +kernel
theorem dX3_isNew_29 : decode cX3_isNew 29 = .ok (.istore 5, 2) := by decide +kernel
theorem dX3_isNew_31 : decode cX3_isNew 31 = .ok (.iload 5, 2) := by decide +kernel
theorem dX3_isNew_33 : decode cX3_isNew 33 = .ok (.iload_n 1, 1) := by decide +kernel
theorem dX3_isNew_34 : decode cX3_isNew 34 = .ok (.if_icmp .ge 46, 3) := by decide +kernel
theorem dX3_isNew_37 : decode cX3_isNew 37 = .ok (.iload 4, 2) := by decide +kernel
theorem dX3_isNew_39 : decode cX3_isNew 39 = .ok (.ifCond .eq 32, 3) := by decide +kernel
theorem dX3_isNew_42 : decode cX3_isNew 42 = .ok (.aload_n 0, 1) := by decide +kernel
theorem dX3_isNew_43 : decode cX3_isNew 43 = .ok (.iload 5, 2) := by decide +kernel
theorem dX3_isNew_45 : decode cX3_isNew 45 = .ok (.iconst 1, 1) := by decide +kernel
theorem dX3_isNew_46 : decode cX3_isNew 46 = .ok (.isub, 1) := by decide +kernel
theorem dX3_isNew_47 : decode cX3_isNew 47 = .ok (.invokevirtual 64, 3) := by decide +kernel
theorem dX3_isNew_50 : decode cX3_isNew 50 = .ok (.aload_n 0, 1) := by decide +kernel
theorem dX3_isNew_51 : decode cX3_isNew 51 = .ok (.iload 5, 2) := by decide +kernel
theorem dX3_isNew_53 : decode cX3_isNew 53 = .ok (.invokevirtual 64, 3) := by decide +kernel
theorem dX3_isNew_56 : decode cX3_isNew 56 = .ok (.invokestatic 40, 3) := by decide +kernel
theorem dX3_isNew_59 : decode cX3_isNew 59 = .ok (.iload_n 2, 1) := by decide +kernel
theorem dX3_isNew_60 : decode cX3_isNew 60 = .ok (.iload_n 3, 1) := by decide +kernel
theorem dX3_isNew_61 : decode cX3_isNew 61 = .ok (.invokestatic 40, 3) := by decide +kernel
theorem dX3_isNew_64 : decode cX3_isNew 64 = .ok (.if_icmp .eq 7, 3) := by decide +kernel
theorem dX3_isNew_67 : decode cX3_isNew 67 = .ok (.iconst 1, 1) := by decide +kernel
theorem dX3_isNew_68 : decode cX3_isNew 68 = .ok (.goto 4, 3) := by decide +kernel
theorem dX3_isNew_71 : decode cX3_isNew 71 = .ok (.iconst 0, 1) := by decide +kernel
theorem dX3_isNew_72 : decode cX3_isNew 72 = .ok (.istore 4, 2) := by decide +kernel
theorem dX3_isNew_74 : decode cX3_isNew 74 = .ok (.iinc 5 3, 3) := by decide +kernel
theorem dX3_isNew_77 : decode cX3_isNew 77 = .ok (.goto (-46), 3) := by decide +kernel
theorem dX3_isNew_80 : decode cX3_isNew 80 = .ok (.iload 4, 2) := by decide +kernel
theorem dX3_isNew_82 : decode cX3_isNew 82 = .ok (.ireturn, 1) := by decide +kernel
set_option maxRecDepth 20000 in
theorem ggX3_canStand_X3_letter : GoodIn wsX3_canStand wsX3_letter := goodIn_r _ [6, 1, 7, 8, 5, 9, 17, 18, 19, 20, 21, 22, 23, 24, 25, 26, 27] (by decide +kernel) (by decide +kernel)
set_option maxRecDepth 20000 in
theorem gX3_canStand_X3_letter : GoodIn wsX3_canStand (wsV RX3 64 RX3 yX3_letter wsX3_letter) := goodIn_app (goodIn_of _ (by decide +kernel)) ggX3_canStand_X3_letter
set_option maxRecDepth 20000 in
theorem ggX3_canStand_X3_isNew : GoodIn wsX3_canStand wsX3_isNew := goodIn_r _ [13, 2, 3, 4, 5, 6, 1, 7, 8, 9, 14, 15, 16, 17, 18, 19, 20, 21, 22, 23, 24, 25, 26, 27] (by decide +kernel) (by decide +kernel)
set_option maxRecDepth 20000 in
theorem gX3_canStand_X3_isNew : GoodIn wsX3_canStand (wsV RX3 68 RX3 yX3_isNew wsX3_isNew) := goodIn_app (goodIn_of _ (by decide +kernel)) ggX3_canStand_X3_isNew
set_option maxRecDepth 20000 in
theorem ggX3_canStand_X3_in : GoodIn wsX3_canStand wsX3_in := goodIn_r _ [9] (by decide +kernel) (by decide +kernel)
set_option maxRecDepth 20000 in
theorem gX3_canStand_X3_in : GoodIn wsX3_canStand (va_wsS RX3 36 yX3_in wsX3_in) := goodIn_app (goodIn_of _ (by decide +kernel)) ggX3_canStand_X3_in
theorem dX3_canStand_0 : decode cX3_canStand 0 = .ok (.iload_n 1, 1) := by decide +kernel
theorem dX3_canStand_1 : decode cX3_canStand 1 = .ok (.iconst 3, 1) := by decide +kernel
theorem dX3_canStand_2 : decode cX3_canStand 2 = .ok (.irem, 1) := by decide +kernel
theorem dX3_canStand_3 : decode cX3_canStand 3 = .ok (.lookupswitch 51 #[(0, 25), (1, 45)], 25) := by decide +kernel
theorem dX3_canStand_28 : decode cX3_canStand 28 = .ok (.aload_n 0, 1) := by decide +kernel
theorem dX3_canStand_29 : decode cX3_canStand 29 = .ok (.iload_n 1, 1) := by decide +kernel
theorem dX3_canStand_30 : decode cX3_canStand 30 = .ok (.invokevirtual 64, 3) := by decide +kernel
theorem dX3_canStand_33 : decode cX3_canStand 33 = .ok (.ifCond .lt 13, 3) := by decide +kernel
theorem dX3_canStand_36 : decode cX3_canStand 36 = .ok (.iload_n 1, 1) := by decide +kernel
theorem dX3_canStand_37 : decode cX3_canStand 37 = .ok (.bipush 36, 2) := by decide +kernel
theorem dX3_canStand_39 : decode cX3_canStand 39 = .ok (.if_icmp .ge 7, 3) := by decide +kernel
theorem dX3_canStand_42 : decode cX3_canStand 42 = .ok (.iconst 1, 1) := by decide +kernel
theorem dX3_canStand_43 : decode cX3_canStand 43 = .ok (.goto 4, 3) := by decide +kernel
theorem dX3_canStand_46 : decode cX3_canStand 46 = .ok (.iconst 0, 1) := by decide +kernel
theorem dX3_canStand_47 : decode cX3_canStand 47 = .ok (.ireturn, 1) := by decide +kernel
theorem dX3_canStand_48 : decode cX3_canStand 48 = .ok (.aload_n 0, 1) := by decide +kernel
theorem dX3_canStand_49 : decode cX3_canStand 49 = .ok (.iload_n 1, 1) := by decide +kernel
theorem dX3_canStand_50 : decode cX3_canStand 50 = .ok (.invokevirtual 68, 3) := by decide +kernel
theorem dX3_canStand_53 : decode cX3_canStand 53 = .ok (.ireturn, 1) := by decide +kernel
theorem dX3_canStand_54 : decode cX3_canStand 54 = .ok (.aload_n 0, 1) := by decide +kernel
theorem dX3_canStand_55 : decode cX3_canStand 55 = .ok (.getfield 20, 3) := by decide +kernel
theorem dX3_canStand_58 : decode cX3_canStand 58 = .ok (.iload_n 1, 1) := by decide +kernel
theorem dX3_canStand_59 : decode cX3_canStand 59 = .ok (.iaload, 1) := by decide +kernel
theorem dX3_canStand_60 : decode cX3_canStand 60 = .ok (.bipush 48, 2) := by decide +kernel
theorem dX3_canStand_62 : decode cX3_canStand 62 = .ok (.bipush 51, 2) := by decide +kernel
theorem dX3_canStand_64 : decode cX3_canStand 64 = .ok (.invokestatic 36, 3) := by decide +kernel
theorem dX3_canStand_67 : decode cX3_canStand 67 = .ok (.ireturn, 1) := by decide +kernel
set_option maxRecDepth 20000 in
theorem ggX3_fault_X3_canStand : GoodIn wsX3_fault wsX3_canStand := goodIn_r _ [6, 7, 8, 9, 10, 5, 11, 12, 13, 14, 15, 16, 17, 18, 19, 20, 21, 22, 23, 24, 25, 26, 27, 28, 29, 30, 31, 32] (by decide +kernel) (by decide +kernel)
set_option maxRecDepth 20000 in
theorem gX3_fault_X3_canStand : GoodIn wsX3_fault (wsV RX3 71 RX3 yX3_canStand wsX3_canStand) := goodIn_app (goodIn_of _ (by decide +kernel)) ggX3_fault_X3_canStand
theorem dX3_fault_0 : decode cX3_fault 0 = .ok (.iconst 0, 1) := by decide +kernel
theorem dX3_fault_1 : decode cX3_fault 1 = .ok (.istore_n 1, 1) := by decide +kernel
theorem dX3_fault_2 : decode cX3_fault 2 = .ok (.iload_n 1, 1) := by decide +kernel
theorem dX3_fault_3 : decode cX3_fault 3 = .ok (.aload_n 0, 1) := by decide +kernel
theorem dX3_fault_4 : decode cX3_fault 4 = .ok (.getfield 60, 3) := by decide +kernel
theorem dX3_fault_7 : decode cX3_fault 7 = .ok (.if_icmp .ge 19, 3) := by decide +kernel
theorem dX3_fault_10 : decode cX3_fault 10 = .ok (.aload_n 0, 1) := by decide +kernel
theorem dX3_fault_11 : decode cX3_fault 11 = .ok (.iload_n 1, 1) := by decide +kernel
theorem dX3_fault_12 : decode cX3_fault 12 = .ok (.invokevirtual 71, 3) := by decide +kernel
theorem dX3_fault_15 : decode cX3_fault 15 = .ok (.ifCond .ne 5, 3) := by decide +kernel
theorem dX3_fault_18 : decode cX3_fault 18 = .ok (.iload_n 1, 1) := by decide +kernel
theorem dX3_fault_19 : decode cX3_fault 19 = .ok (.ireturn, 1) := by decide +kernel
theorem dX3_fault_20 : decode cX3_fault 20 = .ok (.iinc 1 1, 3) := by decide +kernel
theorem dX3_fault_23 : decode cX3_fault 23 = .ok (.goto (-21), 3) := by decide +kernel
theorem dX3_fault_26 : decode cX3_fault 26 = .ok (.aload_n 0, 1) := by decide +kernel
theorem dX3_fault_27 : decode cX3_fault 27 = .ok (.getfield 60, 3) := by decide +kernel
theorem dX3_fault_30 : decode cX3_fault 30 = .ok (.iconst 3, 1) := by decide +kernel
theorem dX3_fault_31 : decode cX3_fault 31 = .ok (.irem, 1) := by decide +kernel
theorem dX3_fault_32 : decode cX3_fault 32 = .ok (.ifCond .ne 8, 3) := by decide +kernel
theorem dX3_fault_35 : decode cX3_fault 35 = .ok (.bipush (-6), 2) := by decide +kernel
theorem dX3_fault_37 : decode cX3_fault 37 = .ok (.goto 7, 3) := by decide +kernel
theorem dX3_fault_40 : decode cX3_fault 40 = .ok (.aload_n 0, 1) := by decide +kernel
theorem dX3_fault_41 : decode cX3_fault 41 = .ok (.getfield 60, 3) := by decide +kernel
theorem dX3_fault_44 : decode cX3_fault 44 = .ok (.ireturn, 1) := by decide +kernel
set_option maxRecDepth 20000 in
theorem ggX3_net_X3_fault : GoodIn wsX3_net wsX3_fault := goodIn_r _ [8, 2, 9, 10, 11, 7, 12, 3, 13, 14, 15, 16, 17, 18, 19, 20, 21, 22, 23, 24, 25, 26, 35, 36, 37, 38, 39, 40, 41, 42, 43, 44, 45] (by decide +kernel) (by decide +kernel)
set_option maxRecDepth 20000 in
theorem gX3_net_X3_fault : GoodIn wsX3_net (wsV RX3 74 RX3 yX3_fault wsX3_fault) := goodIn_app (goodIn_of _ (by decide +kernel)) ggX3_net_X3_fault
set_option maxRecDepth 20000 in
theorem ggX3_net_X3_letter : GoodIn wsX3_net wsX3_letter := goodIn_r _ [16, 3, 17, 18, 7, 19, 35, 36, 37, 38, 39, 40, 41, 42, 43, 44, 45] (by decide +kernel) (by decide +kernel)
set_option maxRecDepth 20000 in
theorem gX3_net_X3_letter : GoodIn wsX3_net (wsV RX3 64 RX3 yX3_letter wsX3_letter) := goodIn_app (goodIn_of _ (by decide +kernel)) ggX3_net_X3_letter
set_option maxRecDepth 20000 in
theorem ggX3_net_X3_lay : GoodIn wsX3_net wsX3_lay := goodIn_r _ [30, 1, 24, 25, 7, 26, 35, 36, 37, 38, 39, 40, 41, 42, 43, 44, 45] (by decide +kernel) (by decide +kernel)
set_option maxRecDepth 20000 in
theorem gX3_net_X3_lay : GoodIn wsX3_net (wsV RX3 56 RX3 yX3_lay wsX3_lay) := goodIn_app (goodIn_of _ (by decide +kernel)) ggX3_net_X3_lay
set_option maxRecDepth 20000 in
theorem ggX3_net_X3_edges : GoodIn wsX3_net wsX3_edges := goodIn_r _ [34, 1, 35, 36, 37, 38, 39, 40, 41, 42, 43, 44, 45] (by decide +kernel) (by decide +kernel)
set_option maxRecDepth 20000 in
theorem gX3_net_X3_edges : GoodIn wsX3_net (wsV RX3 52 RX3 yX3_edges wsX3_edges) := goodIn_app (goodIn_of _ (by decide +kernel)) ggX3_net_X3_edges
theorem dX3_net_0 : decode cX3_net 0 = .ok (.aload_n 0, 1) := by decide +kernel
theorem dX3_net_1 : decode cX3_net 1 = .ok (.invokevirtual 74, 3) := by decide +kernel
theorem dX3_net_4 : decode cX3_net 4 = .ok (.ifCond .lt 6, 3) := by decide +kernel
theorem dX3_net_7 : decode cX3_net 7 = .ok (.bipush (-7), 2) := by decide +kernel
theorem dX3_net_9 : decode cX3_net 9 = .ok (.ireturn, 1) := by decide +kernel
theorem dX3_net_10 : decode cX3_net 10 = .ok (.iconst 0, 1) := by decide +kernel
theorem dX3_net_11 : decode cX3_net 11 = .ok (.istore_n 1, 1) := by decide +kernel
theorem dX3_net_12 : decode cX3_net 12 = .ok (.iload_n 1, 1) := by decide +kernel
theorem dX3_net_13 : decode cX3_net 13 = .ok (.bipush 64, 2) := by decide +kernel
theorem dX3_net_15 : decode cX3_net 15 = .ok (.if_icmp .ge 30, 3) := by decide +kernel
theorem dX3_net_18 : decode cX3_net 18 = .ok (.aload_n 0, 1) := by decide +kernel
theorem dX3_net_19 : decode cX3_net 19 = .ok (.getfield 7, 3) := by decide +kernel
theorem dX3_net_22 : decode cX3_net 22 = .ok (.bipush 24, 2) := by decide +kernel
theorem dX3_net_24 : decode cX3_net 24 = .ok (.iload_n 1, 1) := by decide +kernel
theorem dX3_net_25 : decode cX3_net 25 = .ok (.iadd, 1) := by decide +kernel
theorem dX3_net_26 : decode cX3_net 26 = .ok (.bipush (-6), 2) := by decide +kernel
theorem dX3_net_28 : decode cX3_net 28 = .ok (.iastore, 1) := by decide +kernel
theorem dX3_net_29 : decode cX3_net 29 = .ok (.aload_n 0, 1) := by decide +kernel
theorem dX3_net_30 : decode cX3_net 30 = .ok (.getfield 7, 3) := by decide +kernel
theorem dX3_net_33 : decode cX3_net 33 = .ok (.bipush 88, 2) := by decide +kernel
theorem dX3_net_35 : decode cX3_net 35 = .ok (.iload_n 1, 1) := by decide +kernel
theorem dX3_net_36 : decode cX3_net 36 = .ok (.iadd, 1) := by decide +kernel
theorem dX3_net_37 : decode cX3_net 37 = .ok (.iconst 0, 1) := by decide +kernel
theorem dX3_net_38 : decode cX3_net 38 = .ok (.iastore, 1) := by decide +kernel
theorem dX3_net_39 : decode cX3_net 39 = .ok (.iinc 1 1, 3) := by decide +kernel
theorem dX3_net_42 : decode cX3_net 42 = .ok (.goto (-30), 3) := by decide +kernel
theorem dX3_net_45 : decode cX3_net 45 = .ok (.iconst 0, 1) := by decide +kernel
theorem dX3_net_46 : decode cX3_net 46 = .ok (.istore_n 1, 1) := by decide +kernel
theorem dX3_net_47 : decode cX3_net 47 = .ok (.iload_n 1, 1) := by decide +kernel
theorem dX3_net_48 : decode cX3_net 48 = .ok (.aload_n 0, 1) := by decide +kernel
theorem dX3_net_49 : decode cX3_net 49 = .ok (.getfield 60, 3) := by decide +kernel
theorem dX3_net_52 : decode cX3_net 52 = .ok (.if_icmp .ge 36, 3) := by decide +kernel
theorem dX3_net_55 : decode cX3_net 55 = .ok (.aload_n 0, 1) := by decide +kernel
theorem dX3_net_56 : decode cX3_net 56 = .ok (.aload_n 0, 1) := by decide +kernel
theorem dX3_net_57 : decode cX3_net 57 = .ok (.iload_n 1, 1) := by decide +kernel
theorem dX3_net_58 : decode cX3_net 58 = .ok (.invokevirtual 64, 3) := by decide +kernel
theorem dX3_net_61 : decode cX3_net 61 = .ok (.aload_n 0, 1) := by decide +kernel
theorem dX3_net_62 : decode cX3_net 62 = .ok (.iload_n 1, 1) := by decide +kernel
theorem dX3_net_63 : decode cX3_net 63 = .ok (.iconst 1, 1) := by decide +kernel
theorem dX3_net_64 : decode cX3_net 64 = .ok (.iadd, 1) := by decide +kernel
theorem dX3_net_65 : decode cX3_net 65 = .ok (.invokevirtual 64, 3) := by decide +kernel
theorem dX3_net_68 : decode cX3_net 68 = .ok (.aload_n 0, 1) := by decide +kernel
theorem dX3_net_69 : decode cX3_net 69 = .ok (.getfield 20, 3) := by decide +kernel
theorem dX3_net_72 : decode cX3_net 72 = .ok (.iload_n 1, 1) := by decide +kernel
theorem dX3_net_73 : decode cX3_net 73 = .ok (.iconst 2, 1) := by decide +kernel
theorem dX3_net_74 : decode cX3_net 74 = .ok (.iadd, 1) := by decide +kernel
theorem dX3_net_75 : decode cX3_net 75 = .ok (.iaload, 1) := by decide +kernel
theorem dX3_net_76 : decode cX3_net 76 = .ok (.bipush 48, 2) := by decide +kernel
theorem dX3_net_78 : decode cX3_net 78 = .ok (.isub, 1) := by decide +kernel
theorem dX3_net_79 : decode cX3_net 79 = .ok (.invokevirtual 56, 3) := by decide +kernel
theorem dX3_net_82 : decode cX3_net 82 = .ok (.iinc 1 3, 3) := by decide +kernel
theorem dX3_net_85 : decode cX3_net 85 = .ok (.goto (-38), 3) := by decide +kernel
theorem dX3_net_88 : decode cX3_net 88 = .ok (.aload_n 0, 1) := by decide +kernel
theorem dX3_net_89 : decode cX3_net 89 = .ok (.iconst 0, 1) := by decide +kernel
theorem dX3_net_90 : decode cX3_net 90 = .ok (.putfield 60, 3) := by decide +kernel
theorem dX3_net_93 : decode cX3_net 93 = .ok (.aload_n 0, 1) := by decide +kernel
theorem dX3_net_94 : decode cX3_net 94 = .ok (.invokevirtual 52, 3) := by decide +kernel
theorem dX3_net_97 : decode cX3_net 97 = .ok (.ireturn, 1) := by decide +kernel
set_option maxRecDepth 20000 in
theorem ggX3_jobs_X3_isNode : GoodIn wsX3_jobs wsX3_isNode := goodIn_r _ [5, 6, 7, 4, 8] (by decide +kernel) (by decide +kernel)
set_option maxRecDepth 20000 in
theorem gX3_jobs_X3_isNode : GoodIn wsX3_jobs (va_wsS RX3 48 yX3_isNode wsX3_isNode) := goodIn_app (goodIn_of _ (by decide +kernel)) ggX3_jobs_X3_isNode
theorem dX3_jobs_0 : decode cX3_jobs 0 = .ok (.iload_n 1, 1) := by decide +kernel
theorem dX3_jobs_1 : decode cX3_jobs 1 = .ok (.invokestatic 48, 3) := by decide +kernel
theorem dX3_jobs_4 : decode cX3_jobs 4 = .ok (.ifCond .eq 19, 3) := by decide +kernel
theorem dX3_jobs_7 : decode cX3_jobs 7 = .ok (.aload_n 0, 1) := by decide +kernel
theorem dX3_jobs_8 : decode cX3_jobs 8 = .ok (.getfield 7, 3) := by decide +kernel
theorem dX3_jobs_11 : decode cX3_jobs 11 = .ok (.bipush 8, 2) := by decide +kernel
theorem dX3_jobs_13 : decode cX3_jobs 13 = .ok (.iload_n 1, 1) := by decide +kernel
theorem dX3_jobs_14 : decode cX3_jobs 14 = .ok (.iadd, 1) := by decide +kernel
theorem dX3_jobs_15 : decode cX3_jobs 15 = .ok (.iaload, 1) := by decide +kernel
theorem dX3_jobs_16 : decode cX3_jobs 16 = .ok (.sipush 10000, 3) := by decide +kernel
theorem dX3_jobs_19 : decode cX3_jobs 19 = .ok (.iadd, 1) := by decide +kernel
theorem dX3_jobs_20 : decode cX3_jobs 20 = .ok (.goto 4, 3) := by decide +kernel
theorem dX3_jobs_23 : decode cX3_jobs 23 = .ok (.iconst (-1), 1) := by decide +kernel
theorem dX3_jobs_24 : decode cX3_jobs 24 = .ok (.ireturn, 1) := by decide +kernel
set_option maxRecDepth 20000 in
theorem ggX3_told_X3_isNode : GoodIn wsX3_told wsX3_isNode := goodIn_r _ [5, 6, 7, 4, 8] (by decide +kernel) (by decide +kernel)
set_option maxRecDepth 20000 in
theorem gX3_told_X3_isNode : GoodIn wsX3_told (va_wsS RX3 48 yX3_isNode wsX3_isNode) := goodIn_app (goodIn_of _ (by decide +kernel)) ggX3_told_X3_isNode
set_option maxRecDepth 20000 in
theorem ggX3_told_X3_in : GoodIn wsX3_told wsX3_in := goodIn_r _ [8] (by decide +kernel) (by decide +kernel)
set_option maxRecDepth 20000 in
theorem gX3_told_X3_in : GoodIn wsX3_told (va_wsS RX3 36 yX3_in wsX3_in) := goodIn_app (goodIn_of _ (by decide +kernel)) ggX3_told_X3_in
set_option maxRecDepth 20000 in
theorem ggX3_told_X3_isEdge : GoodIn wsX3_told wsX3_isEdge := goodIn_r _ [12, 1, 13, 14, 4, 15, 20, 21, 22, 23, 24, 25, 26, 27, 28, 29, 30] (by decide +kernel) (by decide +kernel)
set_option maxRecDepth 20000 in
theorem gX3_told_X3_isEdge : GoodIn wsX3_told (wsV RX3 44 RX3 yX3_isEdge wsX3_isEdge) := goodIn_app (goodIn_of _ (by decide +kernel)) ggX3_told_X3_isEdge
set_option maxRecDepth 20000 in
theorem ggX3_told_X3_pair : GoodIn wsX3_told wsX3_pair := goodIn_r _ [15] (by decide +kernel) (by decide +kernel)
set_option maxRecDepth 20000 in
theorem gX3_told_X3_pair : GoodIn wsX3_told (va_wsS RX3 40 yX3_pair wsX3_pair) := goodIn_app (goodIn_of _ (by decide +kernel)) ggX3_told_X3_pair
set_option maxRecDepth 20000 in
theorem ggX3_told_X3_edgesOf : GoodIn wsX3_told wsX3_edgesOf := goodIn_r _ [19, 9, 10, 11, 4, 12, 1, 13, 14, 15, 20, 21, 22, 23, 24, 25, 26, 27, 28, 29, 30] (by decide +kernel) (by decide +kernel)
set_option maxRecDepth 20000 in
theorem gX3_told_X3_edgesOf : GoodIn wsX3_told (wsV RX3 77 RX3 yX3_edgesOf wsX3_edgesOf) := goodIn_app (goodIn_of _ (by decide +kernel)) ggX3_told_X3_edgesOf
theorem dX3_told_0 : decode cX3_told 0 = .ok (.iload_n 1, 1) := by decide +kernel
theorem dX3_told_1 : decode cX3_told 1 = .ok (.invokestatic 48, 3) := by decide +kernel
theorem dX3_told_4 : decode cX3_told 4 = .ok (.ifCond .ne 5, 3) := by decide +kernel
theorem dX3_told_7 : decode cX3_told 7 = .ok (.iconst (-1), 1) := by decide +kernel
theorem dX3_told_8 : decode cX3_told 8 = .ok (.ireturn, 1) := by decide +kernel
theorem dX3_told_9 : decode cX3_told 9 = .ok (.iload_n 2, 1) := by decide +kernel
theorem dX3_told_10 : decode cX3_told 10 = .ok (.bipush 10, 2) := by decide +kernel
theorem dX3_told_12 : decode cX3_told 12 = .ok (.bipush 17, 2) := by decide +kernel
theorem dX3_told_14 : decode cX3_told 14 = .ok (.invokestatic 36, 3) := by decide +kernel
theorem dX3_told_17 : decode cX3_told 17 = .ok (.ifCond .eq 37, 3) := by decide +kernel
theorem dX3_told_20 : decode cX3_told 20 = .ok (.aload_n 0, 1) := by decide +kernel
theorem dX3_told_21 : decode cX3_told 21 = .ok (.iload_n 1, 1) := by decide +kernel
theorem dX3_told_22 : decode cX3_told 22 = .ok (.iload_n 2, 1) := by decide +kernel
theorem dX3_told_23 : decode cX3_told 23 = .ok (.bipush 10, 2) := by decide +kernel
theorem dX3_told_25 : decode cX3_told 25 = .ok (.isub, 1) := by decide +kernel
theorem dX3_told_26 : decode cX3_told 26 = .ok (.invokevirtual 44, 3) := by decide +kernel
theorem dX3_told_29 : decode cX3_told 29 = .ok (.ifCond .eq 22, 3) := by decide +kernel
theorem dX3_told_32 : decode cX3_told 32 = .ok (.aload_n 0, 1) := by decide +kernel
theorem dX3_told_33 : decode cX3_told 33 = .ok (.getfield 7, 3) := by decide +kernel
theorem dX3_told_36 : decode cX3_told 36 = .ok (.bipush 24, 2) := by decide +kernel
theorem dX3_told_38 : decode cX3_told 38 = .ok (.iload_n 1, 1) := by decide +kernel
theorem dX3_told_39 : decode cX3_told 39 = .ok (.iload_n 2, 1) := by decide +kernel
theorem dX3_told_40 : decode cX3_told 40 = .ok (.bipush 10, 2) := by decide +kernel
theorem dX3_told_42 : decode cX3_told 42 = .ok (.isub, 1) := by decide +kernel
theorem dX3_told_43 : decode cX3_told 43 = .ok (.invokestatic 40, 3) := by decide +kernel
theorem dX3_told_46 : decode cX3_told 46 = .ok (.iadd, 1) := by decide +kernel
theorem dX3_told_47 : decode cX3_told 47 = .ok (.iaload, 1) := by decide +kernel
theorem dX3_told_48 : decode cX3_told 48 = .ok (.goto 5, 3) := by decide +kernel
theorem dX3_told_51 : decode cX3_told 51 = .ok (.bipush (-6), 2) := by decide +kernel
theorem dX3_told_53 : decode cX3_told 53 = .ok (.ireturn, 1) := by decide +kernel
theorem dX3_told_54 : decode cX3_told 54 = .ok (.iload_n 2, 1) := by decide +kernel
theorem dX3_told_55 : decode cX3_told 55 = .ok (.tableswitch 58 0 2 #[25, 34, 40], 25) := by decide +kernel
theorem dX3_told_80 : decode cX3_told 80 = .ok (.aload_n 0, 1) := by decide +kernel
theorem dX3_told_81 : decode cX3_told 81 = .ok (.getfield 7, 3) := by decide +kernel
theorem dX3_told_84 : decode cX3_told 84 = .ok (.iconst 0, 1) := by decide +kernel
theorem dX3_told_85 : decode cX3_told 85 = .ok (.iload_n 1, 1) := by decide +kernel
theorem dX3_told_86 : decode cX3_told 86 = .ok (.iadd, 1) := by decide +kernel
theorem dX3_told_87 : decode cX3_told 87 = .ok (.iaload, 1) := by decide +kernel
theorem dX3_told_88 : decode cX3_told 88 = .ok (.ireturn, 1) := by decide +kernel
theorem dX3_told_89 : decode cX3_told 89 = .ok (.aload_n 0, 1) := by decide +kernel
theorem dX3_told_90 : decode cX3_told 90 = .ok (.iload_n 1, 1) := by decide +kernel
theorem dX3_told_91 : decode cX3_told 91 = .ok (.invokevirtual 77, 3) := by decide +kernel
theorem dX3_told_94 : decode cX3_told 94 = .ok (.ireturn, 1) := by decide +kernel
theorem dX3_told_95 : decode cX3_told 95 = .ok (.aload_n 0, 1) := by decide +kernel
theorem dX3_told_96 : decode cX3_told 96 = .ok (.getfield 7, 3) := by decide +kernel
theorem dX3_told_99 : decode cX3_told 99 = .ok (.bipush 16, 2) := by decide +kernel
theorem dX3_told_101 : decode cX3_told 101 = .ok (.iload_n 1, 1) := by decide +kernel
theorem dX3_told_102 : decode cX3_told 102 = .ok (.iadd, 1) := by decide +kernel
theorem dX3_told_103 : decode cX3_told 103 = .ok (.iaload, 1) := by decide +kernel
theorem dX3_told_104 : decode cX3_told 104 = .ok (.aload_n 0, 1) := by decide +kernel
theorem dX3_told_105 : decode cX3_told 105 = .ok (.iload_n 1, 1) := by decide +kernel
theorem dX3_told_106 : decode cX3_told 106 = .ok (.invokevirtual 77, 3) := by decide +kernel
theorem dX3_told_109 : decode cX3_told 109 = .ok (.iconst 1, 1) := by decide +kernel
theorem dX3_told_110 : decode cX3_told 110 = .ok (.iadd, 1) := by decide +kernel
theorem dX3_told_111 : decode cX3_told 111 = .ok (.irem, 1) := by decide +kernel
theorem dX3_told_112 : decode cX3_told 112 = .ok (.ireturn, 1) := by decide +kernel
theorem dX3_told_113 : decode cX3_told 113 = .ok (.bipush (-2), 2) := by decide +kernel
theorem dX3_told_115 : decode cX3_told 115 = .ok (.ireturn, 1) := by decide +kernel
set_option maxRecDepth 20000 in
theorem ggX3_carry_X3_isNode : GoodIn wsX3_carry wsX3_isNode := goodIn_r _ [5, 6, 7, 4, 8] (by decide +kernel) (by decide +kernel)
set_option maxRecDepth 20000 in
theorem gX3_carry_X3_isNode : GoodIn wsX3_carry (va_wsS RX3 48 yX3_isNode wsX3_isNode) := goodIn_app (goodIn_of _ (by decide +kernel)) ggX3_carry_X3_isNode
set_option maxRecDepth 20000 in
theorem ggX3_carry_X3_isEdge : GoodIn wsX3_carry wsX3_isEdge := goodIn_r _ [12, 1, 13, 14, 4, 15, 16, 17, 18, 19, 20, 21, 22, 23, 24, 25, 26] (by decide +kernel) (by decide +kernel)
set_option maxRecDepth 20000 in
theorem gX3_carry_X3_isEdge : GoodIn wsX3_carry (wsV RX3 44 RX3 yX3_isEdge wsX3_isEdge) := goodIn_app (goodIn_of _ (by decide +kernel)) ggX3_carry_X3_isEdge
set_option maxRecDepth 20000 in
theorem ggX3_carry_X3_pair : GoodIn wsX3_carry wsX3_pair := goodIn_r _ [15] (by decide +kernel) (by decide +kernel)
set_option maxRecDepth 20000 in
theorem gX3_carry_X3_pair : GoodIn wsX3_carry (va_wsS RX3 40 yX3_pair wsX3_pair) := goodIn_app (goodIn_of _ (by decide +kernel)) ggX3_carry_X3_pair
theorem dX3_carry_0 : decode cX3_carry 0 = .ok (.iload_n 1, 1) := by decide +kernel
theorem dX3_carry_1 : decode cX3_carry 1 = .ok (.invokestatic 48, 3) := by decide +kernel
theorem dX3_carry_4 : decode cX3_carry 4 = .ok (.ifCond .eq 10, 3) := by decide +kernel
theorem dX3_carry_7 : decode cX3_carry 7 = .ok (.iload_n 2, 1) := by decide +kernel
theorem dX3_carry_8 : decode cX3_carry 8 = .ok (.invokestatic 48, 3) := by decide +kernel
theorem dX3_carry_11 : decode cX3_carry 11 = .ok (.ifCond .ne 5, 3) := by decide +kernel
theorem dX3_carry_14 : decode cX3_carry 14 = .ok (.iconst (-1), 1) := by decide +kernel
theorem dX3_carry_15 : decode cX3_carry 15 = .ok (.ireturn, 1) := by decide +kernel
theorem dX3_carry_16 : decode cX3_carry 16 = .ok (.iload_n 1, 1) := by decide +kernel
theorem dX3_carry_17 : decode cX3_carry 17 = .ok (.iload_n 2, 1) := by decide +kernel
theorem dX3_carry_18 : decode cX3_carry 18 = .ok (.if_icmp .ne 6, 3) := by decide +kernel
theorem dX3_carry_21 : decode cX3_carry 21 = .ok (.bipush (-2), 2) := by decide +kernel
theorem dX3_carry_23 : decode cX3_carry 23 = .ok (.ireturn, 1) := by decide +kernel
theorem dX3_carry_24 : decode cX3_carry 24 = .ok (.aload_n 0, 1) := by decide +kernel
theorem dX3_carry_25 : decode cX3_carry 25 = .ok (.iload_n 1, 1) := by decide +kernel
theorem dX3_carry_26 : decode cX3_carry 26 = .ok (.iload_n 2, 1) := by decide +kernel
theorem dX3_carry_27 : decode cX3_carry 27 = .ok (.invokevirtual 44, 3) := by decide +kernel
theorem dX3_carry_30 : decode cX3_carry 30 = .ok (.ifCond .eq 23, 3) := by decide +kernel
theorem dX3_carry_33 : decode cX3_carry 33 = .ok (.aload_n 0, 1) := by decide +kernel
theorem dX3_carry_34 : decode cX3_carry 34 = .ok (.getfield 7, 3) := by decide +kernel
theorem dX3_carry_37 : decode cX3_carry 37 = .ok (.bipush 88, 2) := by decide +kernel
theorem dX3_carry_39 : decode cX3_carry 39 = .ok (.iload_n 1, 1) := by decide +kernel
theorem dX3_carry_40 : decode cX3_carry 40 = .ok (.iload_n 2, 1) := by decide +kernel
theorem dX3_carry_41 : decode cX3_carry 41 = .ok (.invokestatic 40, 3) := by decide +kernel
theorem dX3_carry_44 : decode cX3_carry 44 = .ok (.iadd, 1) := by decide +kernel
theorem dX3_carry_45 : decode cX3_carry 45 = .ok (.iaload, 1) := by decide +kernel
theorem dX3_carry_46 : decode cX3_carry 46 = .ok (.sipush 10000, 3) := by decide +kernel
theorem dX3_carry_49 : decode cX3_carry 49 = .ok (.iadd, 1) := by decide +kernel
theorem dX3_carry_50 : decode cX3_carry 50 = .ok (.goto 5, 3) := by decide +kernel
theorem dX3_carry_53 : decode cX3_carry 53 = .ok (.bipush (-6), 2) := by decide +kernel
theorem dX3_carry_55 : decode cX3_carry 55 = .ok (.ireturn, 1) := by decide +kernel
set_option maxRecDepth 20000 in
theorem ggX3_measure_X3_edgesOf : GoodIn wsX3_measure wsX3_edgesOf := goodIn_r _ [5, 6, 7, 8, 4, 9, 10, 11, 12, 13, 14, 15, 16, 17, 18, 19, 20, 21, 22, 23, 24] (by decide +kernel) (by decide +kernel)
set_option maxRecDepth 20000 in
theorem gX3_measure_X3_edgesOf : GoodIn wsX3_measure (wsV RX3 77 RX3 yX3_edgesOf wsX3_edgesOf) := goodIn_app (goodIn_of _ (by decide +kernel)) ggX3_measure_X3_edgesOf
theorem dX3_measure_0 : decode cX3_measure 0 = .ok (.iconst 0, 1) := by decide +kernel
theorem dX3_measure_1 : decode cX3_measure 1 = .ok (.istore_n 1, 1) := by decide +kernel
theorem dX3_measure_2 : decode cX3_measure 2 = .ok (.iconst 0, 1) := by decide +kernel
theorem dX3_measure_3 : decode cX3_measure 3 = .ok (.istore_n 2, 1) := by decide +kernel
theorem dX3_measure_4 : decode cX3_measure 4 = .ok (.iload_n 2, 1) := by decide +kernel
theorem dX3_measure_5 : decode cX3_measure 5 = .ok (.bipush 8, 2) := by decide +kernel
theorem dX3_measure_7 : decode cX3_measure 7 = .ok (.if_icmp .ge 28, 3) := by decide +kernel
theorem dX3_measure_10 : decode cX3_measure 10 = .ok (.aload_n 0, 1) := by decide +kernel
theorem dX3_measure_11 : decode cX3_measure 11 = .ok (.iload_n 2, 1) := by decide +kernel
theorem dX3_measure_12 : decode cX3_measure 12 = .ok (.invokevirtual 77, 3) := by decide +kernel
theorem dX3_measure_15 : decode cX3_measure 15 = .ok (.iload_n 1, 1) := by decide +kernel
theorem dX3_measure_16 : decode cX3_measure 16 = .ok (.if_icmp .le 11, 3) := by decide +kernel
theorem dX3_measure_19 : decode cX3_measure 19 = .ok (.aload_n 0, 1) := by decide +kernel
theorem dX3_measure_20 : decode cX3_measure 20 = .ok (.iload_n 2, 1) := by decide +kernel
theorem dX3_measure_21 : decode cX3_measure 21 = .ok (.invokevirtual 77, 3) := by decide +kernel
theorem dX3_measure_24 : decode cX3_measure 24 = .ok (.goto 4, 3) := by decide +kernel
theorem dX3_measure_27 : decode cX3_measure 27 = .ok (.iload_n 1, 1) := by decide +kernel
theorem dX3_measure_28 : decode cX3_measure 28 = .ok (.istore_n 1, 1) := by decide +kernel
theorem dX3_measure_29 : decode cX3_measure 29 = .ok (.iinc 2 1, 3) := by decide +kernel
theorem dX3_measure_32 : decode cX3_measure 32 = .ok (.goto (-28), 3) := by decide +kernel
theorem dX3_measure_35 : decode cX3_measure 35 = .ok (.iconst 4, 1) := by decide +kernel
theorem dX3_measure_36 : decode cX3_measure 36 = .ok (.iconst 1, 1) := by decide +kernel
theorem dX3_measure_37 : decode cX3_measure 37 = .ok (.iload_n 1, 1) := by decide +kernel
theorem dX3_measure_38 : decode cX3_measure 38 = .ok (.iadd, 1) := by decide +kernel
theorem dX3_measure_39 : decode cX3_measure 39 = .ok (.imul, 1) := by decide +kernel
theorem dX3_measure_40 : decode cX3_measure 40 = .ok (.ireturn, 1) := by decide +kernel
theorem dX3_colours_0 : decode cX3_colours 0 = .ok (.iconst 0, 1) := by decide +kernel
theorem dX3_colours_1 : decode cX3_colours 1 = .ok (.istore_n 1, 1) := by decide +kernel
theorem dX3_colours_2 : decode cX3_colours 2 = .ok (.iconst 0, 1) := by decide +kernel
theorem dX3_colours_3 : decode cX3_colours 3 = .ok (.istore_n 2, 1) := by decide +kernel
theorem dX3_colours_4 : decode cX3_colours 4 = .ok (.iload_n 2, 1) := by decide +kernel
theorem dX3_colours_5 : decode cX3_colours 5 = .ok (.bipush 64, 2) := by decide +kernel
theorem dX3_colours_7 : decode cX3_colours 7 = .ok (.if_icmp .ge 36, 3) := by decide +kernel
theorem dX3_colours_10 : decode cX3_colours 10 = .ok (.aload_n 0, 1) := by decide +kernel
theorem dX3_colours_11 : decode cX3_colours 11 = .ok (.getfield 7, 3) := by decide +kernel
theorem dX3_colours_14 : decode cX3_colours 14 = .ok (.bipush 24, 2) := by decide +kernel
theorem dX3_colours_16 : decode cX3_colours 16 = .ok (.iload_n 2, 1) := by decide +kernel
theorem dX3_colours_17 : decode cX3_colours 17 = .ok (.iadd, 1) := by decide +kernel
theorem dX3_colours_18 : decode cX3_colours 18 = .ok (.iaload, 1) := by decide +kernel
theorem dX3_colours_19 : decode cX3_colours 19 = .ok (.iload_n 1, 1) := by decide +kernel
theorem dX3_colours_20 : decode cX3_colours 20 = .ok (.if_icmp .le 15, 3) := by decide +kernel
theorem dX3_colours_23 : decode cX3_colours 23 = .ok (.aload_n 0, 1) := by decide +kernel
theorem dX3_colours_24 : decode cX3_colours 24 = .ok (.getfield 7, 3) := by decide +kernel
theorem dX3_colours_27 : decode cX3_colours 27 = .ok (.bipush 24, 2) := by decide +kernel
theorem dX3_colours_29 : decode cX3_colours 29 = .ok (.iload_n 2, 1) := by decide +kernel
theorem dX3_colours_30 : decode cX3_colours 30 = .ok (.iadd, 1) := by decide +kernel
theorem dX3_colours_31 : decode cX3_colours 31 = .ok (.iaload, 1) := by decide +kernel
theorem dX3_colours_32 : decode cX3_colours 32 = .ok (.goto 4, 3) := by decide +kernel
theorem dX3_colours_35 : decode cX3_colours 35 = .ok (.iload_n 1, 1) := by decide +kernel
theorem dX3_colours_36 : decode cX3_colours 36 = .ok (.istore_n 1, 1) := by decide +kernel
theorem dX3_colours_37 : decode cX3_colours 37 = .ok (.iinc 2 1, 3) := by decide +kernel
theorem dX3_colours_40 : decode cX3_colours 40 = .ok (.goto (-36), 3) := by decide +kernel
theorem dX3_colours_43 : decode cX3_colours 43 = .ok (.iconst 1, 1) := by decide +kernel
theorem dX3_colours_44 : decode cX3_colours 44 = .ok (.iload_n 1, 1) := by decide +kernel
theorem dX3_colours_45 : decode cX3_colours 45 = .ok (.iadd, 1) := by decide +kernel
theorem dX3_colours_46 : decode cX3_colours 46 = .ok (.ireturn, 1) := by decide +kernel
theorem dX3_layNext_0 : decode cX3_layNext 0 = .ok (.iconst 0, 1) := by decide +kernel
theorem dX3_layNext_1 : decode cX3_layNext 1 = .ok (.istore_n 1, 1) := by decide +kernel
theorem dX3_layNext_2 : decode cX3_layNext 2 = .ok (.iload_n 1, 1) := by decide +kernel
theorem dX3_layNext_3 : decode cX3_layNext 3 = .ok (.bipush 8, 2) := by decide +kernel
theorem dX3_layNext_5 : decode cX3_layNext 5 = .ok (.if_icmp .ge 24, 3) := by decide +kernel
theorem dX3_layNext_8 : decode cX3_layNext 8 = .ok (.aload_n 0, 1) := by decide +kernel
theorem dX3_layNext_9 : decode cX3_layNext 9 = .ok (.getfield 23, 3) := by decide +kernel
theorem dX3_layNext_12 : decode cX3_layNext 12 = .ok (.iload_n 1, 1) := by decide +kernel
theorem dX3_layNext_13 : decode cX3_layNext 13 = .ok (.aload_n 0, 1) := by decide +kernel
theorem dX3_layNext_14 : decode cX3_layNext 14 = .ok (.getfield 7, 3) := by decide +kernel
theorem dX3_layNext_17 : decode cX3_layNext 17 = .ok (.bipush 8, 2) := by decide +kernel
theorem dX3_layNext_19 : decode cX3_layNext 19 = .ok (.iload_n 1, 1) := by decide +kernel
theorem dX3_layNext_20 : decode cX3_layNext 20 = .ok (.iadd, 1) := by decide +kernel
theorem dX3_layNext_21 : decode cX3_layNext 21 = .ok (.iaload, 1) := by decide +kernel
theorem dX3_layNext_22 : decode cX3_layNext 22 = .ok (.iastore, 1) := by decide +kernel
theorem dX3_layNext_23 : decode cX3_layNext 23 = .ok (.iinc 1 1, 3) := by decide +kernel
theorem dX3_layNext_26 : decode cX3_layNext 26 = .ok (.goto (-24), 3) := by decide +kernel
theorem dX3_layNext_29 : decode cX3_layNext 29 = .ok (.return_, 1) := by decide +kernel
theorem dX3_takeNext_0 : decode cX3_takeNext 0 = .ok (.iconst 0, 1) := by decide +kernel
theorem dX3_takeNext_1 : decode cX3_takeNext 1 = .ok (.istore_n 1, 1) := by decide +kernel
theorem dX3_takeNext_2 : decode cX3_takeNext 2 = .ok (.iload_n 1, 1) := by decide +kernel
theorem dX3_takeNext_3 : decode cX3_takeNext 3 = .ok (.bipush 8, 2) := by decide +kernel
theorem dX3_takeNext_5 : decode cX3_takeNext 5 = .ok (.if_icmp .ge 24, 3) := by decide +kernel
theorem dX3_takeNext_8 : decode cX3_takeNext 8 = .ok (.aload_n 0, 1) := by decide +kernel
theorem dX3_takeNext_9 : decode cX3_takeNext 9 = .ok (.getfield 7, 3) := by decide +kernel
theorem dX3_takeNext_12 : decode cX3_takeNext 12 = .ok (.bipush 8, 2) := by decide +kernel
theorem dX3_takeNext_14 : decode cX3_takeNext 14 = .ok (.iload_n 1, 1) := by decide +kernel
theorem dX3_takeNext_15 : decode cX3_takeNext 15 = .ok (.iadd, 1) := by decide +kernel
theorem dX3_takeNext_16 : decode cX3_takeNext 16 = .ok (.aload_n 0, 1) := by decide +kernel
theorem dX3_takeNext_17 : decode cX3_takeNext 17 = .ok (.getfield 23, 3) := by decide +kernel
theorem dX3_takeNext_20 : decode cX3_takeNext 20 = .ok (.iload_n 1, 1) := by decide +kernel
theorem dX3_takeNext_21 : decode cX3_takeNext 21 = .ok (.iaload, 1) := by decide +kernel
theorem dX3_takeNext_22 : decode cX3_takeNext 22 = .ok (.iastore, 1) := by decide +kernel
theorem dX3_takeNext_23 : decode cX3_takeNext 23 = .ok (.iinc 1 1, 3) := by decide +kernel
theorem dX3_takeNext_26 : decode cX3_takeNext 26 = .ok (.goto (-24), 3) := by decide +kernel
theorem dX3_takeNext_29 : decode cX3_takeNext 29 = .ok (.return_, 1) := by decide +kernel
set_option maxRecDepth 20000 in
theorem ggX3_flow_X3_measure : GoodIn wsX3_flow wsX3_measure := goodIn_r _ [7, 8, 9, 10, 6, 11, 12, 13, 14, 15, 1, 16, 17, 18, 27, 28, 29, 30, 31, 32, 33, 34, 35, 36, 37] (by decide +kernel) (by decide +kernel)
set_option maxRecDepth 20000 in
theorem gX3_flow_X3_measure : GoodIn wsX3_flow (wsV RX3 80 RX3 yX3_measure wsX3_measure) := goodIn_app (goodIn_of _ (by decide +kernel)) ggX3_flow_X3_measure
set_option maxRecDepth 20000 in
theorem ggX3_flow_X3_layNext : GoodIn wsX3_flow wsX3_layNext := goodIn_r _ [22, 2, 1, 27, 28, 29, 30, 31, 32, 33, 34, 35, 36, 37] (by decide +kernel) (by decide +kernel)
set_option maxRecDepth 20000 in
theorem gX3_flow_X3_layNext : GoodIn wsX3_flow (wsV RX3 83 RX3 yX3_layNext wsX3_layNext) := goodIn_app (goodIn_of _ (by decide +kernel)) ggX3_flow_X3_layNext
set_option maxRecDepth 20000 in
theorem ggX3_flow_X3_takeNext : GoodIn wsX3_flow wsX3_takeNext := goodIn_r _ [26, 1, 2, 27, 28, 29, 30, 31, 32, 33, 34, 35, 36, 37] (by decide +kernel) (by decide +kernel)
set_option maxRecDepth 20000 in
theorem gX3_flow_X3_takeNext : GoodIn wsX3_flow (wsV RX3 86 RX3 yX3_takeNext wsX3_takeNext) := goodIn_app (goodIn_of _ (by decide +kernel)) ggX3_flow_X3_takeNext
theorem dX3_flow_0 : decode cX3_flow 0 = .ok (.aload_n 0, 1) := by decide +kernel
theorem dX3_flow_1 : decode cX3_flow 1 = .ok (.invokevirtual 80, 3) := by decide +kernel
theorem dX3_flow_4 : decode cX3_flow 4 = .ok (.istore_n 1, 1) := by decide +kernel
theorem dX3_flow_5 : decode cX3_flow 5 = .ok (.iconst 0, 1) := by decide +kernel
theorem dX3_flow_6 : decode cX3_flow 6 = .ok (.istore_n 2, 1) := by decide +kernel
theorem dX3_flow_7 : decode cX3_flow 7 = .ok (.aload_n 0, 1) := by decide +kernel
theorem dX3_flow_8 : decode cX3_flow 8 = .ok (.invokevirtual 83, 3) := by decide +kernel
theorem dX3_flow_11 : decode cX3_flow 11 = .ok (.iconst 0, 1) := by decide +kernel
theorem dX3_flow_12 : decode cX3_flow 12 = .ok (.istore_n 3, 1) := by decide +kernel
theorem dX3_flow_13 : decode cX3_flow 13 = .ok (.iload_n 3, 1) := by decide +kernel
theorem dX3_flow_14 : decode cX3_flow 14 = .ok (.bipush 64, 2) := by decide +kernel
theorem dX3_flow_16 : decode cX3_flow 16 = .ok (.if_icmp .ge 148, 3) := by decide +kernel
theorem dX3_flow_19 : decode cX3_flow 19 = .ok (.aload_n 0, 1) := by decide +kernel
theorem dX3_flow_20 : decode cX3_flow 20 = .ok (.getfield 7, 3) := by decide +kernel
theorem dX3_flow_23 : decode cX3_flow 23 = .ok (.bipush 24, 2) := by decide +kernel
theorem dX3_flow_25 : decode cX3_flow 25 = .ok (.iload_n 3, 1) := by decide +kernel
theorem dX3_flow_26 : decode cX3_flow 26 = .ok (.iadd, 1) := by decide +kernel
theorem dX3_flow_27 : decode cX3_flow 27 = .ok (.iaload, 1) := by decide +kernel
theorem dX3_flow_28 : decode cX3_flow 28 = .ok (.ifCond .lt 130, 3) := by decide +kernel
theorem dX3_flow_31 : decode cX3_flow 31 = .ok (.iload_n 3, 1) := by decide +kernel
theorem dX3_flow_32 : decode cX3_flow 32 = .ok (.bipush 8, 2) := by decide +kernel
theorem dX3_flow_34 : decode cX3_flow 34 = .ok (.idiv, 1) := by decide +kernel
theorem dX3_flow_35 : decode cX3_flow 35 = .ok (.istore 4, 2) := by decide +kernel
theorem dX3_flow_37 : decode cX3_flow 37 = .ok (.iload_n 3, 1) := by decide +kernel
theorem dX3_flow_38 : decode cX3_flow 38 = .ok (.bipush 8, 2) := by decide +kernel
theorem dX3_flow_40 : decode cX3_flow 40 = .ok (.irem, 1) := by decide +kernel
theorem dX3_flow_41 : decode cX3_flow 41 = .ok (.istore 5, 2) := by decide +kernel
theorem dX3_flow_43 : decode cX3_flow 43 = .ok (.aload_n 0, 1) := by decide +kernel
theorem dX3_flow_44 : decode cX3_flow 44 = .ok (.getfield 7, 3) := by decide +kernel
theorem dX3_flow_47 : decode cX3_flow 47 = .ok (.bipush 88, 2) := by decide +kernel
theorem dX3_flow_49 : decode cX3_flow 49 = .ok (.iload_n 3, 1) := by decide +kernel
theorem dX3_flow_50 : decode cX3_flow 50 = .ok (.iadd, 1) := by decide +kernel
theorem dX3_flow_51 : decode cX3_flow 51 = .ok (.iaload, 1) := by decide +kernel
theorem dX3_flow_52 : decode cX3_flow 52 = .ok (.aload_n 0, 1) := by decide +kernel
theorem dX3_flow_53 : decode cX3_flow 53 = .ok (.getfield 7, 3) := by decide +kernel
theorem dX3_flow_56 : decode cX3_flow 56 = .ok (.bipush 8, 2) := by decide +kernel
theorem dX3_flow_58 : decode cX3_flow 58 = .ok (.iload 4, 2) := by decide +kernel
theorem dX3_flow_60 : decode cX3_flow 60 = .ok (.iadd, 1) := by decide +kernel
theorem dX3_flow_61 : decode cX3_flow 61 = .ok (.iaload, 1) := by decide +kernel
theorem dX3_flow_62 : decode cX3_flow 62 = .ok (.aload_n 0, 1) := by decide +kernel
theorem dX3_flow_63 : decode cX3_flow 63 = .ok (.getfield 7, 3) := by decide +kernel
theorem dX3_flow_66 : decode cX3_flow 66 = .ok (.iconst 0, 1) := by decide +kernel
theorem dX3_flow_67 : decode cX3_flow 67 = .ok (.iload 5, 2) := by decide +kernel
theorem dX3_flow_69 : decode cX3_flow 69 = .ok (.iadd, 1) := by decide +kernel
theorem dX3_flow_70 : decode cX3_flow 70 = .ok (.iaload, 1) := by decide +kernel
theorem dX3_flow_71 : decode cX3_flow 71 = .ok (.imul, 1) := by decide +kernel
theorem dX3_flow_72 : decode cX3_flow 72 = .ok (.iadd, 1) := by decide +kernel
theorem dX3_flow_73 : decode cX3_flow 73 = .ok (.aload_n 0, 1) := by decide +kernel
theorem dX3_flow_74 : decode cX3_flow 74 = .ok (.getfield 7, 3) := by decide +kernel
theorem dX3_flow_77 : decode cX3_flow 77 = .ok (.bipush 8, 2) := by decide +kernel
theorem dX3_flow_79 : decode cX3_flow 79 = .ok (.iload 5, 2) := by decide +kernel
theorem dX3_flow_81 : decode cX3_flow 81 = .ok (.iadd, 1) := by decide +kernel
theorem dX3_flow_82 : decode cX3_flow 82 = .ok (.iaload, 1) := by decide +kernel
theorem dX3_flow_83 : decode cX3_flow 83 = .ok (.aload_n 0, 1) := by decide +kernel
theorem dX3_flow_84 : decode cX3_flow 84 = .ok (.getfield 7, 3) := by decide +kernel
theorem dX3_flow_87 : decode cX3_flow 87 = .ok (.iconst 0, 1) := by decide +kernel
theorem dX3_flow_88 : decode cX3_flow 88 = .ok (.iload 4, 2) := by decide +kernel
theorem dX3_flow_90 : decode cX3_flow 90 = .ok (.iadd, 1) := by decide +kernel
theorem dX3_flow_91 : decode cX3_flow 91 = .ok (.iaload, 1) := by decide +kernel
theorem dX3_flow_92 : decode cX3_flow 92 = .ok (.imul, 1) := by decide +kernel
theorem dX3_flow_93 : decode cX3_flow 93 = .ok (.isub, 1) := by decide +kernel
theorem dX3_flow_94 : decode cX3_flow 94 = .ok (.istore 6, 2) := by decide +kernel
theorem dX3_flow_96 : decode cX3_flow 96 = .ok (.iload 6, 2) := by decide +kernel
theorem dX3_flow_98 : decode cX3_flow 98 = .ok (.iload_n 1, 1) := by decide +kernel
theorem dX3_flow_99 : decode cX3_flow 99 = .ok (.idiv, 1) := by decide +kernel
theorem dX3_flow_100 : decode cX3_flow 100 = .ok (.istore 7, 2) := by decide +kernel
theorem dX3_flow_102 : decode cX3_flow 102 = .ok (.aload_n 0, 1) := by decide +kernel
theorem dX3_flow_103 : decode cX3_flow 103 = .ok (.getfield 7, 3) := by decide +kernel
theorem dX3_flow_106 : decode cX3_flow 106 = .ok (.bipush 88, 2) := by decide +kernel
theorem dX3_flow_108 : decode cX3_flow 108 = .ok (.iload_n 3, 1) := by decide +kernel
theorem dX3_flow_109 : decode cX3_flow 109 = .ok (.iadd, 1) := by decide +kernel
theorem dX3_flow_110 : decode cX3_flow 110 = .ok (.iload 6, 2) := by decide +kernel
theorem dX3_flow_112 : decode cX3_flow 112 = .ok (.iload_n 1, 1) := by decide +kernel
theorem dX3_flow_113 : decode cX3_flow 113 = .ok (.iload 7, 2) := by decide +kernel
theorem dX3_flow_115 : decode cX3_flow 115 = .ok (.imul, 1) := by decide +kernel
theorem dX3_flow_116 : decode cX3_flow 116 = .ok (.isub, 1) := by decide +kernel
theorem dX3_flow_117 : decode cX3_flow 117 = .ok (.iastore, 1) := by decide +kernel
theorem dX3_flow_118 : decode cX3_flow 118 = .ok (.aload_n 0, 1) := by decide +kernel
theorem dX3_flow_119 : decode cX3_flow 119 = .ok (.getfield 23, 3) := by decide +kernel
theorem dX3_flow_122 : decode cX3_flow 122 = .ok (.iload 4, 2) := by decide +kernel
theorem dX3_flow_124 : decode cX3_flow 124 = .ok (.dup2, 1) := by decide +kernel
theorem dX3_flow_125 : decode cX3_flow 125 = .ok (.iaload, 1) := by decide +kernel
theorem dX3_flow_126 : decode cX3_flow 126 = .ok (.iload 7, 2) := by decide +kernel
theorem dX3_flow_128 : decode cX3_flow 128 = .ok (.isub, 1) := by decide +kernel
theorem dX3_flow_129 : decode cX3_flow 129 = .ok (.iastore, 1) := by decide +kernel
theorem dX3_flow_130 : decode cX3_flow 130 = .ok (.aload_n 0, 1) := by decide +kernel
theorem dX3_flow_131 : decode cX3_flow 131 = .ok (.getfield 23, 3) := by decide +kernel
theorem dX3_flow_134 : decode cX3_flow 134 = .ok (.iload 5, 2) := by decide +kernel
theorem dX3_flow_136 : decode cX3_flow 136 = .ok (.dup2, 1) := by decide +kernel
theorem dX3_flow_137 : decode cX3_flow 137 = .ok (.iaload, 1) := by decide +kernel
theorem dX3_flow_138 : decode cX3_flow 138 = .ok (.iload 7, 2) := by decide +kernel
theorem dX3_flow_140 : decode cX3_flow 140 = .ok (.iadd, 1) := by decide +kernel
theorem dX3_flow_141 : decode cX3_flow 141 = .ok (.iastore, 1) := by decide +kernel
theorem dX3_flow_142 : decode cX3_flow 142 = .ok (.iload_n 2, 1) := by decide +kernel
theorem dX3_flow_143 : decode cX3_flow 143 = .ok (.iload 7, 2) := by decide +kernel
theorem dX3_flow_145 : decode cX3_flow 145 = .ok (.ifCond .ge 9, 3) := by decide +kernel
theorem dX3_flow_148 : decode cX3_flow 148 = .ok (.iload 7, 2) := by decide +kernel
theorem dX3_flow_150 : decode cX3_flow 150 = .ok (.ineg, 1) := by decide +kernel
theorem dX3_flow_151 : decode cX3_flow 151 = .ok (.goto 5, 3) := by decide +kernel
theorem dX3_flow_154 : decode cX3_flow 154 = .ok (.iload 7, 2) := by decide +kernel
theorem dX3_flow_156 : decode cX3_flow 156 = .ok (.iadd, 1) := by decide +kernel
theorem dX3_flow_157 : decode cX3_flow 157 = .ok (.istore_n 2, 1) := by decide +kernel
theorem dX3_flow_158 : decode cX3_flow 158 = .ok (.iinc 3 1, 3) := by decide +kernel
theorem dX3_flow_161 : decode cX3_flow 161 = .ok (.goto (-148), 3) := by decide +kernel
theorem dX3_flow_164 : decode cX3_flow 164 = .ok (.aload_n 0, 1) := by decide +kernel
theorem dX3_flow_165 : decode cX3_flow 165 = .ok (.invokevirtual 86, 3) := by decide +kernel
theorem dX3_flow_168 : decode cX3_flow 168 = .ok (.iload_n 2, 1) := by decide +kernel
theorem dX3_flow_169 : decode cX3_flow 169 = .ok (.ireturn, 1) := by decide +kernel
theorem dX3_down_0 : decode cX3_down 0 = .ok (.iload_n 0, 1) := by decide +kernel
theorem dX3_down_1 : decode cX3_down 1 = .ok (.iload_n 1, 1) := by decide +kernel
theorem dX3_down_2 : decode cX3_down 2 = .ok (.idiv, 1) := by decide +kernel
theorem dX3_down_3 : decode cX3_down 3 = .ok (.istore_n 2, 1) := by decide +kernel
theorem dX3_down_4 : decode cX3_down 4 = .ok (.iload_n 0, 1) := by decide +kernel
theorem dX3_down_5 : decode cX3_down 5 = .ok (.ifCond .ge 16, 3) := by decide +kernel
theorem dX3_down_8 : decode cX3_down 8 = .ok (.iload_n 2, 1) := by decide +kernel
theorem dX3_down_9 : decode cX3_down 9 = .ok (.iload_n 1, 1) := by decide +kernel
theorem dX3_down_10 : decode cX3_down 10 = .ok (.imul, 1) := by decide +kernel
theorem dX3_down_11 : decode cX3_down 11 = .ok (.iload_n 0, 1) := by decide +kernel
theorem dX3_down_12 : decode cX3_down 12 = .ok (.if_icmp .eq 9, 3) := by decide +kernel
theorem dX3_down_15 : decode cX3_down 15 = .ok (.iload_n 2, 1) := by decide +kernel
theorem dX3_down_16 : decode cX3_down 16 = .ok (.iconst 1, 1) := by decide +kernel
theorem dX3_down_17 : decode cX3_down 17 = .ok (.isub, 1) := by decide +kernel
theorem dX3_down_18 : decode cX3_down 18 = .ok (.goto 4, 3) := by decide +kernel
theorem dX3_down_21 : decode cX3_down 21 = .ok (.iload_n 2, 1) := by decide +kernel
theorem dX3_down_22 : decode cX3_down 22 = .ok (.ireturn, 1) := by decide +kernel
set_option maxRecDepth 20000 in
theorem ggX3_even_X3_down : GoodIn wsX3_even wsX3_down := goodIn_r _ [5] (by decide +kernel) (by decide +kernel)
set_option maxRecDepth 20000 in
theorem gX3_even_X3_down : GoodIn wsX3_even (va_wsS RX3 89 yX3_down wsX3_down) := goodIn_app (goodIn_of _ (by decide +kernel)) ggX3_even_X3_down
theorem dX3_even_0 : decode cX3_even 0 = .ok (.aload_n 0, 1) := by decide +kernel
theorem dX3_even_1 : decode cX3_even 1 = .ok (.getfield 7, 3) := by decide +kernel
theorem dX3_even_4 : decode cX3_even 4 = .ok (.bipush 8, 2) := by decide +kernel
theorem dX3_even_6 : decode cX3_even 6 = .ok (.iload_n 1, 1) := by decide +kernel
theorem dX3_even_7 : decode cX3_even 7 = .ok (.iadd, 1) := by decide +kernel
theorem dX3_even_8 : decode cX3_even 8 = .ok (.iaload, 1) := by decide +kernel
theorem dX3_even_9 : decode cX3_even 9 = .ok (.istore_n 3, 1) := by decide +kernel
theorem dX3_even_10 : decode cX3_even 10 = .ok (.aload_n 0, 1) := by decide +kernel
theorem dX3_even_11 : decode cX3_even 11 = .ok (.getfield 7, 3) := by decide +kernel
theorem dX3_even_14 : decode cX3_even 14 = .ok (.bipush 8, 2) := by decide +kernel
theorem dX3_even_16 : decode cX3_even 16 = .ok (.iload_n 2, 1) := by decide +kernel
theorem dX3_even_17 : decode cX3_even 17 = .ok (.iadd, 1) := by decide +kernel
theorem dX3_even_18 : decode cX3_even 18 = .ok (.iaload, 1) := by decide +kernel
theorem dX3_even_19 : decode cX3_even 19 = .ok (.istore 4, 2) := by decide +kernel
theorem dX3_even_21 : decode cX3_even 21 = .ok (.iload_n 3, 1) := by decide +kernel
theorem dX3_even_22 : decode cX3_even 22 = .ok (.iload 4, 2) := by decide +kernel
theorem dX3_even_24 : decode cX3_even 24 = .ok (.iadd, 1) := by decide +kernel
theorem dX3_even_25 : decode cX3_even 25 = .ok (.istore 5, 2) := by decide +kernel
theorem dX3_even_27 : decode cX3_even 27 = .ok (.aload_n 0, 1) := by decide +kernel
theorem dX3_even_28 : decode cX3_even 28 = .ok (.getfield 7, 3) := by decide +kernel
theorem dX3_even_31 : decode cX3_even 31 = .ok (.iconst 0, 1) := by decide +kernel
theorem dX3_even_32 : decode cX3_even 32 = .ok (.iload_n 1, 1) := by decide +kernel
theorem dX3_even_33 : decode cX3_even 33 = .ok (.iadd, 1) := by decide +kernel
theorem dX3_even_34 : decode cX3_even 34 = .ok (.iaload, 1) := by decide +kernel
theorem dX3_even_35 : decode cX3_even 35 = .ok (.aload_n 0, 1) := by decide +kernel
theorem dX3_even_36 : decode cX3_even 36 = .ok (.getfield 7, 3) := by decide +kernel
theorem dX3_even_39 : decode cX3_even 39 = .ok (.iconst 0, 1) := by decide +kernel
theorem dX3_even_40 : decode cX3_even 40 = .ok (.iload_n 2, 1) := by decide +kernel
theorem dX3_even_41 : decode cX3_even 41 = .ok (.iadd, 1) := by decide +kernel
theorem dX3_even_42 : decode cX3_even 42 = .ok (.iaload, 1) := by decide +kernel
theorem dX3_even_43 : decode cX3_even 43 = .ok (.iadd, 1) := by decide +kernel
theorem dX3_even_44 : decode cX3_even 44 = .ok (.istore 6, 2) := by decide +kernel
theorem dX3_even_46 : decode cX3_even 46 = .ok (.aload_n 0, 1) := by decide +kernel
theorem dX3_even_47 : decode cX3_even 47 = .ok (.getfield 7, 3) := by decide +kernel
theorem dX3_even_50 : decode cX3_even 50 = .ok (.iconst 0, 1) := by decide +kernel
theorem dX3_even_51 : decode cX3_even 51 = .ok (.iload_n 1, 1) := by decide +kernel
theorem dX3_even_52 : decode cX3_even 52 = .ok (.iadd, 1) := by decide +kernel
theorem dX3_even_53 : decode cX3_even 53 = .ok (.iaload, 1) := by decide +kernel
theorem dX3_even_54 : decode cX3_even 54 = .ok (.iload 5, 2) := by decide +kernel
theorem dX3_even_56 : decode cX3_even 56 = .ok (.imul, 1) := by decide +kernel
theorem dX3_even_57 : decode cX3_even 57 = .ok (.iload 6, 2) := by decide +kernel
theorem dX3_even_59 : decode cX3_even 59 = .ok (.invokestatic 89, 3) := by decide +kernel
theorem dX3_even_62 : decode cX3_even 62 = .ok (.istore 7, 2) := by decide +kernel
theorem dX3_even_64 : decode cX3_even 64 = .ok (.aload_n 0, 1) := by decide +kernel
theorem dX3_even_65 : decode cX3_even 65 = .ok (.getfield 7, 3) := by decide +kernel
theorem dX3_even_68 : decode cX3_even 68 = .ok (.iconst 0, 1) := by decide +kernel
theorem dX3_even_69 : decode cX3_even 69 = .ok (.iload_n 2, 1) := by decide +kernel
theorem dX3_even_70 : decode cX3_even 70 = .ok (.iadd, 1) := by decide +kernel
theorem dX3_even_71 : decode cX3_even 71 = .ok (.iaload, 1) := by decide +kernel
theorem dX3_even_72 : decode cX3_even 72 = .ok (.iload 5, 2) := by decide +kernel
theorem dX3_even_74 : decode cX3_even 74 = .ok (.imul, 1) := by decide +kernel
theorem dX3_even_75 : decode cX3_even 75 = .ok (.iload 6, 2) := by decide +kernel
theorem dX3_even_77 : decode cX3_even 77 = .ok (.invokestatic 89, 3) := by decide +kernel
theorem dX3_even_80 : decode cX3_even 80 = .ok (.istore 8, 2) := by decide +kernel
theorem dX3_even_82 : decode cX3_even 82 = .ok (.iload 5, 2) := by decide +kernel
theorem dX3_even_84 : decode cX3_even 84 = .ok (.iload 7, 2) := by decide +kernel
theorem dX3_even_86 : decode cX3_even 86 = .ok (.isub, 1) := by decide +kernel
theorem dX3_even_87 : decode cX3_even 87 = .ok (.iload 8, 2) := by decide +kernel
theorem dX3_even_89 : decode cX3_even 89 = .ok (.isub, 1) := by decide +kernel
theorem dX3_even_90 : decode cX3_even 90 = .ok (.istore 9, 2) := by decide +kernel
theorem dX3_even_92 : decode cX3_even 92 = .ok (.iload 7, 2) := by decide +kernel
theorem dX3_even_94 : decode cX3_even 94 = .ok (.iload 9, 2) := by decide +kernel
theorem dX3_even_96 : decode cX3_even 96 = .ok (.ifCond .le 14, 3) := by decide +kernel
theorem dX3_even_99 : decode cX3_even 99 = .ok (.iload_n 3, 1) := by decide +kernel
theorem dX3_even_100 : decode cX3_even 100 = .ok (.iload 4, 2) := by decide +kernel
theorem dX3_even_102 : decode cX3_even 102 = .ok (.if_icmp .lt 8, 3) := by decide +kernel
theorem dX3_even_105 : decode cX3_even 105 = .ok (.iload 9, 2) := by decide +kernel
theorem dX3_even_107 : decode cX3_even 107 = .ok (.goto 4, 3) := by decide +kernel
theorem dX3_even_110 : decode cX3_even 110 = .ok (.iconst 0, 1) := by decide +kernel
theorem dX3_even_111 : decode cX3_even 111 = .ok (.iadd, 1) := by decide +kernel
theorem dX3_even_112 : decode cX3_even 112 = .ok (.istore 7, 2) := by decide +kernel
theorem dX3_even_114 : decode cX3_even 114 = .ok (.aload_n 0, 1) := by decide +kernel
theorem dX3_even_115 : decode cX3_even 115 = .ok (.getfield 7, 3) := by decide +kernel
theorem dX3_even_118 : decode cX3_even 118 = .ok (.bipush 8, 2) := by decide +kernel
theorem dX3_even_120 : decode cX3_even 120 = .ok (.iload_n 1, 1) := by decide +kernel
theorem dX3_even_121 : decode cX3_even 121 = .ok (.iadd, 1) := by decide +kernel
theorem dX3_even_122 : decode cX3_even 122 = .ok (.iload 7, 2) := by decide +kernel
theorem dX3_even_124 : decode cX3_even 124 = .ok (.iastore, 1) := by decide +kernel
theorem dX3_even_125 : decode cX3_even 125 = .ok (.aload_n 0, 1) := by decide +kernel
theorem dX3_even_126 : decode cX3_even 126 = .ok (.getfield 7, 3) := by decide +kernel
theorem dX3_even_129 : decode cX3_even 129 = .ok (.bipush 8, 2) := by decide +kernel
theorem dX3_even_131 : decode cX3_even 131 = .ok (.iload_n 2, 1) := by decide +kernel
theorem dX3_even_132 : decode cX3_even 132 = .ok (.iadd, 1) := by decide +kernel
theorem dX3_even_133 : decode cX3_even 133 = .ok (.iload 5, 2) := by decide +kernel
theorem dX3_even_135 : decode cX3_even 135 = .ok (.iload 7, 2) := by decide +kernel
theorem dX3_even_137 : decode cX3_even 137 = .ok (.isub, 1) := by decide +kernel
theorem dX3_even_138 : decode cX3_even 138 = .ok (.iastore, 1) := by decide +kernel
theorem dX3_even_139 : decode cX3_even 139 = .ok (.iload 7, 2) := by decide +kernel
theorem dX3_even_141 : decode cX3_even 141 = .ok (.iload_n 3, 1) := by decide +kernel
theorem dX3_even_142 : decode cX3_even 142 = .ok (.if_icmp .ge 10, 3) := by decide +kernel
theorem dX3_even_145 : decode cX3_even 145 = .ok (.iload_n 3, 1) := by decide +kernel
theorem dX3_even_146 : decode cX3_even 146 = .ok (.iload 7, 2) := by decide +kernel
theorem dX3_even_148 : decode cX3_even 148 = .ok (.isub, 1) := by decide +kernel
theorem dX3_even_149 : decode cX3_even 149 = .ok (.goto 7, 3) := by decide +kernel
theorem dX3_even_152 : decode cX3_even 152 = .ok (.iload 7, 2) := by decide +kernel
theorem dX3_even_154 : decode cX3_even 154 = .ok (.iload_n 3, 1) := by decide +kernel
theorem dX3_even_155 : decode cX3_even 155 = .ok (.isub, 1) := by decide +kernel
theorem dX3_even_156 : decode cX3_even 156 = .ok (.ireturn, 1) := by decide +kernel
set_option maxRecDepth 20000 in
theorem ggX3_exchange_X3_colours : GoodIn wsX3_exchange wsX3_colours := goodIn_r _ [6, 1, 14, 15, 16, 17, 18, 19, 20, 21, 22, 23, 24] (by decide +kernel) (by decide +kernel)
set_option maxRecDepth 20000 in
theorem gX3_exchange_X3_colours : GoodIn wsX3_exchange (wsV RX3 92 RX3 yX3_colours wsX3_colours) := goodIn_app (goodIn_of _ (by decide +kernel)) ggX3_exchange_X3_colours
set_option maxRecDepth 20000 in
theorem ggX3_exchange_X3_even : GoodIn wsX3_exchange wsX3_even := goodIn_r _ [10, 1, 11, 12, 5, 13, 14, 15, 16, 17, 18, 19, 20, 21, 22, 23, 24] (by decide +kernel) (by decide +kernel)
set_option maxRecDepth 20000 in
theorem gX3_exchange_X3_even : GoodIn wsX3_exchange (wsV RX3 95 RX3 yX3_even wsX3_even) := goodIn_app (goodIn_of _ (by decide +kernel)) ggX3_exchange_X3_even
theorem dX3_exchange_0 : decode cX3_exchange 0 = .ok (.aload_n 0, 1) := by decide +kernel
theorem dX3_exchange_1 : decode cX3_exchange 1 = .ok (.getfield 7, 3) := by decide +kernel
theorem dX3_exchange_4 : decode cX3_exchange 4 = .ok (.sipush 152, 3) := by decide +kernel
theorem dX3_exchange_7 : decode cX3_exchange 7 = .ok (.iaload, 1) := by decide +kernel
theorem dX3_exchange_8 : decode cX3_exchange 8 = .ok (.aload_n 0, 1) := by decide +kernel
theorem dX3_exchange_9 : decode cX3_exchange 9 = .ok (.invokevirtual 92, 3) := by decide +kernel
theorem dX3_exchange_12 : decode cX3_exchange 12 = .ok (.irem, 1) := by decide +kernel
theorem dX3_exchange_13 : decode cX3_exchange 13 = .ok (.istore_n 1, 1) := by decide +kernel
theorem dX3_exchange_14 : decode cX3_exchange 14 = .ok (.iconst 0, 1) := by decide +kernel
theorem dX3_exchange_15 : decode cX3_exchange 15 = .ok (.istore_n 2, 1) := by decide +kernel
theorem dX3_exchange_16 : decode cX3_exchange 16 = .ok (.iconst 0, 1) := by decide +kernel
theorem dX3_exchange_17 : decode cX3_exchange 17 = .ok (.istore_n 3, 1) := by decide +kernel
theorem dX3_exchange_18 : decode cX3_exchange 18 = .ok (.iload_n 3, 1) := by decide +kernel
theorem dX3_exchange_19 : decode cX3_exchange 19 = .ok (.bipush 64, 2) := by decide +kernel
theorem dX3_exchange_21 : decode cX3_exchange 21 = .ok (.if_icmp .ge 41, 3) := by decide +kernel
theorem dX3_exchange_24 : decode cX3_exchange 24 = .ok (.iload_n 2, 1) := by decide +kernel
theorem dX3_exchange_25 : decode cX3_exchange 25 = .ok (.aload_n 0, 1) := by decide +kernel
theorem dX3_exchange_26 : decode cX3_exchange 26 = .ok (.getfield 7, 3) := by decide +kernel
theorem dX3_exchange_29 : decode cX3_exchange 29 = .ok (.bipush 24, 2) := by decide +kernel
theorem dX3_exchange_31 : decode cX3_exchange 31 = .ok (.iload_n 3, 1) := by decide +kernel
theorem dX3_exchange_32 : decode cX3_exchange 32 = .ok (.iadd, 1) := by decide +kernel
theorem dX3_exchange_33 : decode cX3_exchange 33 = .ok (.iaload, 1) := by decide +kernel
theorem dX3_exchange_34 : decode cX3_exchange 34 = .ok (.iload_n 1, 1) := by decide +kernel
theorem dX3_exchange_35 : decode cX3_exchange 35 = .ok (.if_icmp .ne 18, 3) := by decide +kernel
theorem dX3_exchange_38 : decode cX3_exchange 38 = .ok (.aload_n 0, 1) := by decide +kernel
theorem dX3_exchange_39 : decode cX3_exchange 39 = .ok (.iload_n 3, 1) := by decide +kernel
theorem dX3_exchange_40 : decode cX3_exchange 40 = .ok (.bipush 8, 2) := by decide +kernel
theorem dX3_exchange_42 : decode cX3_exchange 42 = .ok (.idiv, 1) := by decide +kernel
theorem dX3_exchange_43 : decode cX3_exchange 43 = .ok (.iload_n 3, 1) := by decide +kernel
theorem dX3_exchange_44 : decode cX3_exchange 44 = .ok (.bipush 8, 2) := by decide +kernel
theorem dX3_exchange_46 : decode cX3_exchange 46 = .ok (.irem, 1) := by decide +kernel
theorem dX3_exchange_47 : decode cX3_exchange 47 = .ok (.invokevirtual 95, 3) := by decide +kernel
theorem dX3_exchange_50 : decode cX3_exchange 50 = .ok (.goto 4, 3) := by decide +kernel
theorem dX3_exchange_53 : decode cX3_exchange 53 = .ok (.iconst 0, 1) := by decide +kernel
theorem dX3_exchange_54 : decode cX3_exchange 54 = .ok (.iadd, 1) := by decide +kernel
theorem dX3_exchange_55 : decode cX3_exchange 55 = .ok (.istore_n 2, 1) := by decide +kernel
theorem dX3_exchange_56 : decode cX3_exchange 56 = .ok (.iinc 3 1, 3) := by decide +kernel
theorem dX3_exchange_59 : decode cX3_exchange 59 = .ok (.goto (-41), 3) := by decide +kernel
theorem dX3_exchange_62 : decode cX3_exchange 62 = .ok (.iload_n 2, 1) := by decide +kernel
theorem dX3_exchange_63 : decode cX3_exchange 63 = .ok (.ireturn, 1) := by decide +kernel
set_option maxRecDepth 20000 in
theorem ggX3_deal_X3_edgesOf : GoodIn wsX3_deal wsX3_edgesOf := goodIn_r _ [7, 8, 9, 10, 6, 11, 1, 12, 13, 14, 15, 16, 17, 18, 19, 20, 21, 22, 23, 24, 25] (by decide +kernel) (by decide +kernel)
set_option maxRecDepth 20000 in
theorem gX3_deal_X3_edgesOf : GoodIn wsX3_deal (wsV RX3 77 RX3 yX3_edgesOf wsX3_edgesOf) := goodIn_app (goodIn_of _ (by decide +kernel)) ggX3_deal_X3_edgesOf
set_option maxRecDepth 20000 in
theorem ggX3_deal_X3_isEdge : GoodIn wsX3_deal wsX3_isEdge := goodIn_r _ [11, 1, 12, 13, 6, 14, 15, 16, 17, 18, 19, 20, 21, 22, 23, 24, 25] (by decide +kernel) (by decide +kernel)
set_option maxRecDepth 20000 in
theorem gX3_deal_X3_isEdge : GoodIn wsX3_deal (wsV RX3 44 RX3 yX3_isEdge wsX3_isEdge) := goodIn_app (goodIn_of _ (by decide +kernel)) ggX3_deal_X3_isEdge
theorem dX3_deal_0 : decode cX3_deal 0 = .ok (.aload_n 0, 1) := by decide +kernel
theorem dX3_deal_1 : decode cX3_deal 1 = .ok (.iload_n 1, 1) := by decide +kernel
theorem dX3_deal_2 : decode cX3_deal 2 = .ok (.invokevirtual 77, 3) := by decide +kernel
theorem dX3_deal_5 : decode cX3_deal 5 = .ok (.iconst 1, 1) := by decide +kernel
theorem dX3_deal_6 : decode cX3_deal 6 = .ok (.iadd, 1) := by decide +kernel
theorem dX3_deal_7 : decode cX3_deal 7 = .ok (.istore_n 2, 1) := by decide +kernel
theorem dX3_deal_8 : decode cX3_deal 8 = .ok (.aload_n 0, 1) := by decide +kernel
theorem dX3_deal_9 : decode cX3_deal 9 = .ok (.getfield 7, 3) := by decide +kernel
theorem dX3_deal_12 : decode cX3_deal 12 = .ok (.bipush 8, 2) := by decide +kernel
theorem dX3_deal_14 : decode cX3_deal 14 = .ok (.iload_n 1, 1) := by decide +kernel
theorem dX3_deal_15 : decode cX3_deal 15 = .ok (.iadd, 1) := by decide +kernel
theorem dX3_deal_16 : decode cX3_deal 16 = .ok (.iaload, 1) := by decide +kernel
theorem dX3_deal_17 : decode cX3_deal 17 = .ok (.iload_n 2, 1) := by decide +kernel
theorem dX3_deal_18 : decode cX3_deal 18 = .ok (.idiv, 1) := by decide +kernel
theorem dX3_deal_19 : decode cX3_deal 19 = .ok (.istore_n 3, 1) := by decide +kernel
theorem dX3_deal_20 : decode cX3_deal 20 = .ok (.aload_n 0, 1) := by decide +kernel
theorem dX3_deal_21 : decode cX3_deal 21 = .ok (.getfield 7, 3) := by decide +kernel
theorem dX3_deal_24 : decode cX3_deal 24 = .ok (.bipush 8, 2) := by decide +kernel
theorem dX3_deal_26 : decode cX3_deal 26 = .ok (.iload_n 1, 1) := by decide +kernel
theorem dX3_deal_27 : decode cX3_deal 27 = .ok (.iadd, 1) := by decide +kernel
theorem dX3_deal_28 : decode cX3_deal 28 = .ok (.iaload, 1) := by decide +kernel
theorem dX3_deal_29 : decode cX3_deal 29 = .ok (.iload_n 2, 1) := by decide +kernel
theorem dX3_deal_30 : decode cX3_deal 30 = .ok (.irem, 1) := by decide +kernel
theorem dX3_deal_31 : decode cX3_deal 31 = .ok (.istore 4, 2) := by decide +kernel
theorem dX3_deal_33 : decode cX3_deal 33 = .ok (.aload_n 0, 1) := by decide +kernel
theorem dX3_deal_34 : decode cX3_deal 34 = .ok (.getfield 7, 3) := by decide +kernel
theorem dX3_deal_37 : decode cX3_deal 37 = .ok (.bipush 16, 2) := by decide +kernel
theorem dX3_deal_39 : decode cX3_deal 39 = .ok (.iload_n 1, 1) := by decide +kernel
theorem dX3_deal_40 : decode cX3_deal 40 = .ok (.iadd, 1) := by decide +kernel
theorem dX3_deal_41 : decode cX3_deal 41 = .ok (.iaload, 1) := by decide +kernel
theorem dX3_deal_42 : decode cX3_deal 42 = .ok (.iload_n 2, 1) := by decide +kernel
theorem dX3_deal_43 : decode cX3_deal 43 = .ok (.irem, 1) := by decide +kernel
theorem dX3_deal_44 : decode cX3_deal 44 = .ok (.istore 5, 2) := by decide +kernel
theorem dX3_deal_46 : decode cX3_deal 46 = .ok (.iconst 0, 1) := by decide +kernel
theorem dX3_deal_47 : decode cX3_deal 47 = .ok (.istore 6, 2) := by decide +kernel
theorem dX3_deal_49 : decode cX3_deal 49 = .ok (.iconst 0, 1) := by decide +kernel
theorem dX3_deal_50 : decode cX3_deal 50 = .ok (.istore 7, 2) := by decide +kernel
theorem dX3_deal_52 : decode cX3_deal 52 = .ok (.iconst 0, 1) := by decide +kernel
theorem dX3_deal_53 : decode cX3_deal 53 = .ok (.istore 8, 2) := by decide +kernel
theorem dX3_deal_55 : decode cX3_deal 55 = .ok (.iload 8, 2) := by decide +kernel
theorem dX3_deal_57 : decode cX3_deal 57 = .ok (.bipush 8, 2) := by decide +kernel
theorem dX3_deal_59 : decode cX3_deal 59 = .ok (.if_icmp .gt 101, 3) := by decide +kernel
theorem dX3_deal_62 : decode cX3_deal 62 = .ok (.iload 8, 2) := by decide +kernel
theorem dX3_deal_64 : decode cX3_deal 64 = .ok (.bipush 8, 2) := by decide +kernel
theorem dX3_deal_66 : decode cX3_deal 66 = .ok (.if_icmp .ne 7, 3) := by decide +kernel
theorem dX3_deal_69 : decode cX3_deal 69 = .ok (.iconst 1, 1) := by decide +kernel
theorem dX3_deal_70 : decode cX3_deal 70 = .ok (.goto 4, 3) := by decide +kernel
theorem dX3_deal_73 : decode cX3_deal 73 = .ok (.iconst 0, 1) := by decide +kernel
theorem dX3_deal_74 : decode cX3_deal 74 = .ok (.istore 9, 2) := by decide +kernel
theorem dX3_deal_76 : decode cX3_deal 76 = .ok (.iload 9, 2) := by decide +kernel
theorem dX3_deal_78 : decode cX3_deal 78 = .ok (.ifCond .ne 13, 3) := by decide +kernel
theorem dX3_deal_81 : decode cX3_deal 81 = .ok (.aload_n 0, 1) := by decide +kernel
theorem dX3_deal_82 : decode cX3_deal 82 = .ok (.iload_n 1, 1) := by decide +kernel
theorem dX3_deal_83 : decode cX3_deal 83 = .ok (.iload 8, 2) := by decide +kernel
theorem dX3_deal_85 : decode cX3_deal 85 = .ok (.invokevirtual 44, 3) := by decide +kernel
theorem dX3_deal_88 : decode cX3_deal 88 = .ok (.ifCond .eq 66, 3) := by decide +kernel
theorem dX3_deal_91 : decode cX3_deal 91 = .ok (.iload_n 3, 1) := by decide +kernel
theorem dX3_deal_92 : decode cX3_deal 92 = .ok (.iload 7, 2) := by decide +kernel
theorem dX3_deal_94 : decode cX3_deal 94 = .ok (.iload 5, 2) := by decide +kernel
theorem dX3_deal_96 : decode cX3_deal 96 = .ok (.isub, 1) := by decide +kernel
theorem dX3_deal_97 : decode cX3_deal 97 = .ok (.iload_n 2, 1) := by decide +kernel
theorem dX3_deal_98 : decode cX3_deal 98 = .ok (.iadd, 1) := by decide +kernel
theorem dX3_deal_99 : decode cX3_deal 99 = .ok (.iload_n 2, 1) := by decide +kernel
theorem dX3_deal_100 : decode cX3_deal 100 = .ok (.irem, 1) := by decide +kernel
theorem dX3_deal_101 : decode cX3_deal 101 = .ok (.iload 4, 2) := by decide +kernel
theorem dX3_deal_103 : decode cX3_deal 103 = .ok (.if_icmp .ge 7, 3) := by decide +kernel
theorem dX3_deal_106 : decode cX3_deal 106 = .ok (.iconst 1, 1) := by decide +kernel
theorem dX3_deal_107 : decode cX3_deal 107 = .ok (.goto 4, 3) := by decide +kernel
theorem dX3_deal_110 : decode cX3_deal 110 = .ok (.iconst 0, 1) := by decide +kernel
theorem dX3_deal_111 : decode cX3_deal 111 = .ok (.iadd, 1) := by decide +kernel
theorem dX3_deal_112 : decode cX3_deal 112 = .ok (.istore 10, 2) := by decide +kernel
theorem dX3_deal_114 : decode cX3_deal 114 = .ok (.aload_n 0, 1) := by decide +kernel
theorem dX3_deal_115 : decode cX3_deal 115 = .ok (.getfield 23, 3) := by decide +kernel
theorem dX3_deal_118 : decode cX3_deal 118 = .ok (.iload 9, 2) := by decide +kernel
theorem dX3_deal_120 : decode cX3_deal 120 = .ok (.ifCond .eq 7, 3) := by decide +kernel
theorem dX3_deal_123 : decode cX3_deal 123 = .ok (.iload_n 1, 1) := by decide +kernel
theorem dX3_deal_124 : decode cX3_deal 124 = .ok (.goto 5, 3) := by decide +kernel
theorem dX3_deal_127 : decode cX3_deal 127 = .ok (.iload 8, 2) := by decide +kernel
theorem dX3_deal_129 : decode cX3_deal 129 = .ok (.dup2, 1) := by decide +kernel
theorem dX3_deal_130 : decode cX3_deal 130 = .ok (.iaload, 1) := by decide +kernel
theorem dX3_deal_131 : decode cX3_deal 131 = .ok (.iload 10, 2) := by decide +kernel
theorem dX3_deal_133 : decode cX3_deal 133 = .ok (.iadd, 1) := by decide +kernel
theorem dX3_deal_134 : decode cX3_deal 134 = .ok (.iastore, 1) := by decide +kernel
theorem dX3_deal_135 : decode cX3_deal 135 = .ok (.iload 6, 2) := by decide +kernel
theorem dX3_deal_137 : decode cX3_deal 137 = .ok (.iload 9, 2) := by decide +kernel
theorem dX3_deal_139 : decode cX3_deal 139 = .ok (.ifCond .eq 7, 3) := by decide +kernel
theorem dX3_deal_142 : decode cX3_deal 142 = .ok (.iconst 0, 1) := by decide +kernel
theorem dX3_deal_143 : decode cX3_deal 143 = .ok (.goto 5, 3) := by decide +kernel
theorem dX3_deal_146 : decode cX3_deal 146 = .ok (.iload 10, 2) := by decide +kernel
theorem dX3_deal_148 : decode cX3_deal 148 = .ok (.iadd, 1) := by decide +kernel
theorem dX3_deal_149 : decode cX3_deal 149 = .ok (.istore 6, 2) := by decide +kernel
theorem dX3_deal_151 : decode cX3_deal 151 = .ok (.iinc 7 1, 3) := by decide +kernel
theorem dX3_deal_154 : decode cX3_deal 154 = .ok (.iinc 8 1, 3) := by decide +kernel
theorem dX3_deal_157 : decode cX3_deal 157 = .ok (.goto (-102), 3) := by decide +kernel
theorem dX3_deal_160 : decode cX3_deal 160 = .ok (.aload_n 0, 1) := by decide +kernel
theorem dX3_deal_161 : decode cX3_deal 161 = .ok (.getfield 7, 3) := by decide +kernel
theorem dX3_deal_164 : decode cX3_deal 164 = .ok (.bipush 16, 2) := by decide +kernel
theorem dX3_deal_166 : decode cX3_deal 166 = .ok (.iload_n 1, 1) := by decide +kernel
theorem dX3_deal_167 : decode cX3_deal 167 = .ok (.iadd, 1) := by decide +kernel
theorem dX3_deal_168 : decode cX3_deal 168 = .ok (.iload 5, 2) := by decide +kernel
theorem dX3_deal_170 : decode cX3_deal 170 = .ok (.iload 4, 2) := by decide +kernel
theorem dX3_deal_172 : decode cX3_deal 172 = .ok (.iadd, 1) := by decide +kernel
theorem dX3_deal_173 : decode cX3_deal 173 = .ok (.iload_n 2, 1) := by decide +kernel
theorem dX3_deal_174 : decode cX3_deal 174 = .ok (.irem, 1) := by decide +kernel
theorem dX3_deal_175 : decode cX3_deal 175 = .ok (.iastore, 1) := by decide +kernel
theorem dX3_deal_176 : decode cX3_deal 176 = .ok (.iload 6, 2) := by decide +kernel
theorem dX3_deal_178 : decode cX3_deal 178 = .ok (.ireturn, 1) := by decide +kernel
set_option maxRecDepth 20000 in
theorem ggX3_rotor_X3_deal : GoodIn wsX3_rotor wsX3_deal := goodIn_r _ [7, 2, 1, 8, 9, 10, 6, 11, 12, 13, 14, 15, 16, 17, 18, 23, 24, 25, 26, 27, 28, 29, 30, 31, 32, 33] (by decide +kernel) (by decide +kernel)
set_option maxRecDepth 20000 in
theorem gX3_rotor_X3_deal : GoodIn wsX3_rotor (wsV RX3 98 RX3 yX3_deal wsX3_deal) := goodIn_app (goodIn_of _ (by decide +kernel)) ggX3_rotor_X3_deal
set_option maxRecDepth 20000 in
theorem ggX3_rotor_X3_takeNext : GoodIn wsX3_rotor wsX3_takeNext := goodIn_r _ [22, 2, 1, 23, 24, 25, 26, 27, 28, 29, 30, 31, 32, 33] (by decide +kernel) (by decide +kernel)
set_option maxRecDepth 20000 in
theorem gX3_rotor_X3_takeNext : GoodIn wsX3_rotor (wsV RX3 86 RX3 yX3_takeNext wsX3_takeNext) := goodIn_app (goodIn_of _ (by decide +kernel)) ggX3_rotor_X3_takeNext
theorem dX3_rotor_0 : decode cX3_rotor 0 = .ok (.iconst 0, 1) := by decide +kernel
theorem dX3_rotor_1 : decode cX3_rotor 1 = .ok (.istore_n 1, 1) := by decide +kernel
theorem dX3_rotor_2 : decode cX3_rotor 2 = .ok (.iconst 0, 1) := by decide +kernel
theorem dX3_rotor_3 : decode cX3_rotor 3 = .ok (.istore_n 2, 1) := by decide +kernel
theorem dX3_rotor_4 : decode cX3_rotor 4 = .ok (.iload_n 2, 1) := by decide +kernel
theorem dX3_rotor_5 : decode cX3_rotor 5 = .ok (.bipush 8, 2) := by decide +kernel
theorem dX3_rotor_7 : decode cX3_rotor 7 = .ok (.if_icmp .ge 40, 3) := by decide +kernel
theorem dX3_rotor_10 : decode cX3_rotor 10 = .ok (.aload_n 0, 1) := by decide +kernel
theorem dX3_rotor_11 : decode cX3_rotor 11 = .ok (.getfield 23, 3) := by decide +kernel
theorem dX3_rotor_14 : decode cX3_rotor 14 = .ok (.iload_n 2, 1) := by decide +kernel
theorem dX3_rotor_15 : decode cX3_rotor 15 = .ok (.aload_n 0, 1) := by decide +kernel
theorem dX3_rotor_16 : decode cX3_rotor 16 = .ok (.getfield 7, 3) := by decide +kernel
theorem dX3_rotor_19 : decode cX3_rotor 19 = .ok (.bipush 8, 2) := by decide +kernel
theorem dX3_rotor_21 : decode cX3_rotor 21 = .ok (.iload_n 2, 1) := by decide +kernel
theorem dX3_rotor_22 : decode cX3_rotor 22 = .ok (.iadd, 1) := by decide +kernel
theorem dX3_rotor_23 : decode cX3_rotor 23 = .ok (.iaload, 1) := by decide +kernel
theorem dX3_rotor_24 : decode cX3_rotor 24 = .ok (.ifCond .le 7, 3) := by decide +kernel
theorem dX3_rotor_27 : decode cX3_rotor 27 = .ok (.iconst 0, 1) := by decide +kernel
theorem dX3_rotor_28 : decode cX3_rotor 28 = .ok (.goto 12, 3) := by decide +kernel
theorem dX3_rotor_31 : decode cX3_rotor 31 = .ok (.aload_n 0, 1) := by decide +kernel
theorem dX3_rotor_32 : decode cX3_rotor 32 = .ok (.getfield 7, 3) := by decide +kernel
theorem dX3_rotor_35 : decode cX3_rotor 35 = .ok (.bipush 8, 2) := by decide +kernel
theorem dX3_rotor_37 : decode cX3_rotor 37 = .ok (.iload_n 2, 1) := by decide +kernel
theorem dX3_rotor_38 : decode cX3_rotor 38 = .ok (.iadd, 1) := by decide +kernel
theorem dX3_rotor_39 : decode cX3_rotor 39 = .ok (.iaload, 1) := by decide +kernel
theorem dX3_rotor_40 : decode cX3_rotor 40 = .ok (.iastore, 1) := by decide +kernel
theorem dX3_rotor_41 : decode cX3_rotor 41 = .ok (.iinc 2 1, 3) := by decide +kernel
theorem dX3_rotor_44 : decode cX3_rotor 44 = .ok (.goto (-40), 3) := by decide +kernel
theorem dX3_rotor_47 : decode cX3_rotor 47 = .ok (.iconst 0, 1) := by decide +kernel
theorem dX3_rotor_48 : decode cX3_rotor 48 = .ok (.istore_n 2, 1) := by decide +kernel
theorem dX3_rotor_49 : decode cX3_rotor 49 = .ok (.iload_n 2, 1) := by decide +kernel
theorem dX3_rotor_50 : decode cX3_rotor 50 = .ok (.bipush 8, 2) := by decide +kernel
theorem dX3_rotor_52 : decode cX3_rotor 52 = .ok (.if_icmp .ge 33, 3) := by decide +kernel
theorem dX3_rotor_55 : decode cX3_rotor 55 = .ok (.iload_n 1, 1) := by decide +kernel
theorem dX3_rotor_56 : decode cX3_rotor 56 = .ok (.aload_n 0, 1) := by decide +kernel
theorem dX3_rotor_57 : decode cX3_rotor 57 = .ok (.getfield 7, 3) := by decide +kernel
theorem dX3_rotor_60 : decode cX3_rotor 60 = .ok (.bipush 8, 2) := by decide +kernel
theorem dX3_rotor_62 : decode cX3_rotor 62 = .ok (.iload_n 2, 1) := by decide +kernel
theorem dX3_rotor_63 : decode cX3_rotor 63 = .ok (.iadd, 1) := by decide +kernel
theorem dX3_rotor_64 : decode cX3_rotor 64 = .ok (.iaload, 1) := by decide +kernel
theorem dX3_rotor_65 : decode cX3_rotor 65 = .ok (.ifCond .le 11, 3) := by decide +kernel
theorem dX3_rotor_68 : decode cX3_rotor 68 = .ok (.aload_n 0, 1) := by decide +kernel
theorem dX3_rotor_69 : decode cX3_rotor 69 = .ok (.iload_n 2, 1) := by decide +kernel
theorem dX3_rotor_70 : decode cX3_rotor 70 = .ok (.invokevirtual 98, 3) := by decide +kernel
theorem dX3_rotor_73 : decode cX3_rotor 73 = .ok (.goto 4, 3) := by decide +kernel
theorem dX3_rotor_76 : decode cX3_rotor 76 = .ok (.iconst 0, 1) := by decide +kernel
theorem dX3_rotor_77 : decode cX3_rotor 77 = .ok (.iadd, 1) := by decide +kernel
theorem dX3_rotor_78 : decode cX3_rotor 78 = .ok (.istore_n 1, 1) := by decide +kernel
theorem dX3_rotor_79 : decode cX3_rotor 79 = .ok (.iinc 2 1, 3) := by decide +kernel
theorem dX3_rotor_82 : decode cX3_rotor 82 = .ok (.goto (-33), 3) := by decide +kernel
theorem dX3_rotor_85 : decode cX3_rotor 85 = .ok (.aload_n 0, 1) := by decide +kernel
theorem dX3_rotor_86 : decode cX3_rotor 86 = .ok (.invokevirtual 86, 3) := by decide +kernel
theorem dX3_rotor_89 : decode cX3_rotor 89 = .ok (.iload_n 1, 1) := by decide +kernel
theorem dX3_rotor_90 : decode cX3_rotor 90 = .ok (.ireturn, 1) := by decide +kernel
set_option maxRecDepth 20000 in
theorem ggX3_round_X3_flow : GoodIn wsX3_round wsX3_flow := goodIn_r _ [6, 1, 7, 8, 9, 10, 5, 11, 12, 13, 14, 15, 16, 17, 18, 19, 20, 21, 22, 23, 24, 25, 26, 27, 28, 29, 30, 54, 55, 56, 57, 58, 59, 60, 61, 62, 63, 64] (by decide +kernel) (by decide +kernel)
set_option maxRecDepth 20000 in
theorem gX3_round_X3_flow : GoodIn wsX3_round (wsV RX3 101 RX3 yX3_flow wsX3_flow) := goodIn_app (goodIn_of _ (by decide +kernel)) ggX3_round_X3_flow
set_option maxRecDepth 20000 in
theorem ggX3_round_X3_exchange : GoodIn wsX3_round wsX3_exchange := goodIn_r _ [34, 1, 35, 36, 37, 5, 38, 39, 40, 41, 42, 43, 44, 45, 54, 55, 56, 57, 58, 59, 60, 61, 62, 63, 64] (by decide +kernel) (by decide +kernel)
set_option maxRecDepth 20000 in
theorem gX3_round_X3_exchange : GoodIn wsX3_round (wsV RX3 104 RX3 yX3_exchange wsX3_exchange) := goodIn_app (goodIn_of _ (by decide +kernel)) ggX3_round_X3_exchange
set_option maxRecDepth 20000 in
theorem ggX3_round_X3_rotor : GoodIn wsX3_round wsX3_rotor := goodIn_r _ [49, 7, 1, 50, 51, 52, 5, 53, 12, 13, 14, 15, 16, 17, 18, 19, 20, 21, 22, 27, 28, 29, 30, 54, 55, 56, 57, 58, 59, 60, 61, 62, 63, 64] (by decide +kernel) (by decide +kernel)
set_option maxRecDepth 20000 in
theorem gX3_round_X3_rotor : GoodIn wsX3_round (wsV RX3 107 RX3 yX3_rotor wsX3_rotor) := goodIn_app (goodIn_of _ (by decide +kernel)) ggX3_round_X3_rotor
theorem dX3_round_0 : decode cX3_round 0 = .ok (.iload_n 1, 1) := by decide +kernel
theorem dX3_round_1 : decode cX3_round 1 = .ok (.ifCond .ne 10, 3) := by decide +kernel
theorem dX3_round_4 : decode cX3_round 4 = .ok (.aload_n 0, 1) := by decide +kernel
theorem dX3_round_5 : decode cX3_round 5 = .ok (.invokevirtual 101, 3) := by decide +kernel
theorem dX3_round_8 : decode cX3_round 8 = .ok (.goto 19, 3) := by decide +kernel
theorem dX3_round_11 : decode cX3_round 11 = .ok (.iload_n 1, 1) := by decide +kernel
theorem dX3_round_12 : decode cX3_round 12 = .ok (.iconst 1, 1) := by decide +kernel
theorem dX3_round_13 : decode cX3_round 13 = .ok (.if_icmp .ne 10, 3) := by decide +kernel
theorem dX3_round_16 : decode cX3_round 16 = .ok (.aload_n 0, 1) := by decide +kernel
theorem dX3_round_17 : decode cX3_round 17 = .ok (.invokevirtual 104, 3) := by decide +kernel
theorem dX3_round_20 : decode cX3_round 20 = .ok (.goto 7, 3) := by decide +kernel
theorem dX3_round_23 : decode cX3_round 23 = .ok (.aload_n 0, 1) := by decide +kernel
theorem dX3_round_24 : decode cX3_round 24 = .ok (.invokevirtual 107, 3) := by decide +kernel
theorem dX3_round_27 : decode cX3_round 27 = .ok (.istore_n 2, 1) := by decide +kernel
theorem dX3_round_28 : decode cX3_round 28 = .ok (.aload_n 0, 1) := by decide +kernel
theorem dX3_round_29 : decode cX3_round 29 = .ok (.getfield 7, 3) := by decide +kernel
theorem dX3_round_32 : decode cX3_round 32 = .ok (.sipush 152, 3) := by decide +kernel
theorem dX3_round_35 : decode cX3_round 35 = .ok (.dup2, 1) := by decide +kernel
theorem dX3_round_36 : decode cX3_round 36 = .ok (.iaload, 1) := by decide +kernel
theorem dX3_round_37 : decode cX3_round 37 = .ok (.iconst 1, 1) := by decide +kernel
theorem dX3_round_38 : decode cX3_round 38 = .ok (.iadd, 1) := by decide +kernel
theorem dX3_round_39 : decode cX3_round 39 = .ok (.iastore, 1) := by decide +kernel
theorem dX3_round_40 : decode cX3_round 40 = .ok (.iload_n 2, 1) := by decide +kernel
theorem dX3_round_41 : decode cX3_round 41 = .ok (.ireturn, 1) := by decide +kernel
set_option maxRecDepth 20000 in
theorem ggX3_run_X3_in : GoodIn wsX3_run wsX3_in := goodIn_r _ [4] (by decide +kernel) (by decide +kernel)
set_option maxRecDepth 20000 in
theorem gX3_run_X3_in : GoodIn wsX3_run (va_wsS RX3 36 yX3_in wsX3_in) := goodIn_app (goodIn_of _ (by decide +kernel)) ggX3_run_X3_in
set_option maxRecDepth 20000 in
theorem ggX3_run_X3_round : GoodIn wsX3_run wsX3_round := goodIn_r _ [8, 9, 10, 11, 12, 3, 13, 14, 15, 16, 17, 18, 19, 20, 21, 22, 23, 24, 25, 26, 27, 28, 29, 30, 31, 32, 33, 34, 35, 36, 37, 38, 39, 40, 41, 42, 43, 44, 45, 46, 47, 48, 49, 50, 51, 52, 53, 54, 55, 56, 57, 58, 59, 60, 61, 62, 63, 64, 65, 66, 67, 68, 69, 70, 71] (by decide +kernel) (by decide +kernel)
set_option maxRecDepth 20000 in
theorem gX3_run_X3_round : GoodIn wsX3_run (wsV RX3 110 RX3 yX3_round wsX3_round) := goodIn_app (goodIn_of _ (by decide +kernel)) ggX3_run_X3_round
theorem dX3_run_0 : decode cX3_run 0 = .ok (.iload_n 1, 1) := by decide +kernel
theorem dX3_run_1 : decode cX3_run 1 = .ok (.iconst 0, 1) := by decide +kernel
theorem dX3_run_2 : decode cX3_run 2 = .ok (.iconst 2, 1) := by decide +kernel
theorem dX3_run_3 : decode cX3_run 3 = .ok (.invokestatic 36, 3) := by decide +kernel
theorem dX3_run_6 : decode cX3_run 6 = .ok (.ifCond .eq 13, 3) := by decide +kernel
theorem dX3_run_9 : decode cX3_run 9 = .ok (.iload_n 2, 1) := by decide +kernel
theorem dX3_run_10 : decode cX3_run 10 = .ok (.iconst 1, 1) := by decide +kernel
theorem dX3_run_11 : decode cX3_run 11 = .ok (.bipush 50, 2) := by decide +kernel
theorem dX3_run_13 : decode cX3_run 13 = .ok (.invokestatic 36, 3) := by decide +kernel
theorem dX3_run_16 : decode cX3_run 16 = .ok (.ifCond .ne 6, 3) := by decide +kernel
theorem dX3_run_19 : decode cX3_run 19 = .ok (.bipush (-2), 2) := by decide +kernel
theorem dX3_run_21 : decode cX3_run 21 = .ok (.ireturn, 1) := by decide +kernel
theorem dX3_run_22 : decode cX3_run 22 = .ok (.iconst 0, 1) := by decide +kernel
theorem dX3_run_23 : decode cX3_run 23 = .ok (.istore_n 3, 1) := by decide +kernel
theorem dX3_run_24 : decode cX3_run 24 = .ok (.iconst 0, 1) := by decide +kernel
theorem dX3_run_25 : decode cX3_run 25 = .ok (.istore 4, 2) := by decide +kernel
theorem dX3_run_27 : decode cX3_run 27 = .ok (.iload 4, 2) := by decide +kernel
theorem dX3_run_29 : decode cX3_run 29 = .ok (.iload_n 2, 1) := by decide +kernel
theorem dX3_run_30 : decode cX3_run 30 = .ok (.if_icmp .ge 17, 3) := by decide +kernel
theorem dX3_run_33 : decode cX3_run 33 = .ok (.iload_n 3, 1) := by decide +kernel
theorem dX3_run_34 : decode cX3_run 34 = .ok (.aload_n 0, 1) := by decide +kernel
theorem dX3_run_35 : decode cX3_run 35 = .ok (.iload_n 1, 1) := by decide +kernel
theorem dX3_run_36 : decode cX3_run 36 = .ok (.invokevirtual 110, 3) := by decide +kernel
theorem dX3_run_39 : decode cX3_run 39 = .ok (.iadd, 1) := by decide +kernel
theorem dX3_run_40 : decode cX3_run 40 = .ok (.istore_n 3, 1) := by decide +kernel
theorem dX3_run_41 : decode cX3_run 41 = .ok (.iinc 4 1, 3) := by decide +kernel
theorem dX3_run_44 : decode cX3_run 44 = .ok (.goto (-17), 3) := by decide +kernel
theorem dX3_run_47 : decode cX3_run 47 = .ok (.iload_n 3, 1) := by decide +kernel
theorem dX3_run_48 : decode cX3_run 48 = .ok (.ireturn, 1) := by decide +kernel
theorem dX3_reset_0 : decode cX3_reset 0 = .ok (.aload_n 0, 1) := by decide +kernel
theorem dX3_reset_1 : decode cX3_reset 1 = .ok (.getfield 7, 3) := by decide +kernel
theorem dX3_reset_4 : decode cX3_reset 4 = .ok (.sipush 152, 3) := by decide +kernel
theorem dX3_reset_7 : decode cX3_reset 7 = .ok (.iaload, 1) := by decide +kernel
theorem dX3_reset_8 : decode cX3_reset 8 = .ok (.istore_n 1, 1) := by decide +kernel
theorem dX3_reset_9 : decode cX3_reset 9 = .ok (.aload_n 0, 1) := by decide +kernel
theorem dX3_reset_10 : decode cX3_reset 10 = .ok (.getfield 7, 3) := by decide +kernel
theorem dX3_reset_13 : decode cX3_reset 13 = .ok (.sipush 152, 3) := by decide +kernel
theorem dX3_reset_16 : decode cX3_reset 16 = .ok (.iconst 0, 1) := by decide +kernel
theorem dX3_reset_17 : decode cX3_reset 17 = .ok (.iastore, 1) := by decide +kernel
theorem dX3_reset_18 : decode cX3_reset 18 = .ok (.iconst 0, 1) := by decide +kernel
theorem dX3_reset_19 : decode cX3_reset 19 = .ok (.istore_n 2, 1) := by decide +kernel
theorem dX3_reset_20 : decode cX3_reset 20 = .ok (.iload_n 2, 1) := by decide +kernel
theorem dX3_reset_21 : decode cX3_reset 21 = .ok (.bipush 8, 2) := by decide +kernel
theorem dX3_reset_23 : decode cX3_reset 23 = .ok (.if_icmp .ge 19, 3) := by decide +kernel
theorem dX3_reset_26 : decode cX3_reset 26 = .ok (.aload_n 0, 1) := by decide +kernel
theorem dX3_reset_27 : decode cX3_reset 27 = .ok (.getfield 7, 3) := by decide +kernel
theorem dX3_reset_30 : decode cX3_reset 30 = .ok (.bipush 16, 2) := by decide +kernel
theorem dX3_reset_32 : decode cX3_reset 32 = .ok (.iload_n 2, 1) := by decide +kernel
theorem dX3_reset_33 : decode cX3_reset 33 = .ok (.iadd, 1) := by decide +kernel
theorem dX3_reset_34 : decode cX3_reset 34 = .ok (.iconst 0, 1) := by decide +kernel
theorem dX3_reset_35 : decode cX3_reset 35 = .ok (.iastore, 1) := by decide +kernel
theorem dX3_reset_36 : decode cX3_reset 36 = .ok (.iinc 2 1, 3) := by decide +kernel
theorem dX3_reset_39 : decode cX3_reset 39 = .ok (.goto (-19), 3) := by decide +kernel
theorem dX3_reset_42 : decode cX3_reset 42 = .ok (.iconst 0, 1) := by decide +kernel
theorem dX3_reset_43 : decode cX3_reset 43 = .ok (.istore_n 2, 1) := by decide +kernel
theorem dX3_reset_44 : decode cX3_reset 44 = .ok (.iload_n 2, 1) := by decide +kernel
theorem dX3_reset_45 : decode cX3_reset 45 = .ok (.bipush 64, 2) := by decide +kernel
theorem dX3_reset_47 : decode cX3_reset 47 = .ok (.if_icmp .ge 19, 3) := by decide +kernel
theorem dX3_reset_50 : decode cX3_reset 50 = .ok (.aload_n 0, 1) := by decide +kernel
theorem dX3_reset_51 : decode cX3_reset 51 = .ok (.getfield 7, 3) := by decide +kernel
theorem dX3_reset_54 : decode cX3_reset 54 = .ok (.bipush 88, 2) := by decide +kernel
theorem dX3_reset_56 : decode cX3_reset 56 = .ok (.iload_n 2, 1) := by decide +kernel
theorem dX3_reset_57 : decode cX3_reset 57 = .ok (.iadd, 1) := by decide +kernel
theorem dX3_reset_58 : decode cX3_reset 58 = .ok (.iconst 0, 1) := by decide +kernel
theorem dX3_reset_59 : decode cX3_reset 59 = .ok (.iastore, 1) := by decide +kernel
theorem dX3_reset_60 : decode cX3_reset 60 = .ok (.iinc 2 1, 3) := by decide +kernel
theorem dX3_reset_63 : decode cX3_reset 63 = .ok (.goto (-19), 3) := by decide +kernel
theorem dX3_reset_66 : decode cX3_reset 66 = .ok (.iload_n 1, 1) := by decide +kernel
theorem dX3_reset_67 : decode cX3_reset 67 = .ok (.ireturn, 1) := by decide +kernel
theorem dX3_layUneven_0 : decode cX3_layUneven 0 = .ok (.iconst 0, 1) := by decide +kernel
theorem dX3_layUneven_1 : decode cX3_layUneven 1 = .ok (.istore_n 1, 1) := by decide +kernel
theorem dX3_layUneven_2 : decode cX3_layUneven 2 = .ok (.iconst 0, 1) := by decide +kernel
theorem dX3_layUneven_3 : decode cX3_layUneven 3 = .ok (.istore_n 2, 1) := by decide +kernel
theorem dX3_layUneven_4 : decode cX3_layUneven 4 = .ok (.iconst 1, 1) := by decide +kernel
theorem dX3_layUneven_5 : decode cX3_layUneven 5 = .ok (.istore_n 3, 1) := by decide +kernel
theorem dX3_layUneven_6 : decode cX3_layUneven 6 = .ok (.iload_n 3, 1) := by decide +kernel
theorem dX3_layUneven_7 : decode cX3_layUneven 7 = .ok (.bipush 8, 2) := by decide +kernel
theorem dX3_layUneven_9 : decode cX3_layUneven 9 = .ok (.if_icmp .ge 99, 3) := by decide +kernel
theorem dX3_layUneven_12 : decode cX3_layUneven 12 = .ok (.aload_n 0, 1) := by decide +kernel
theorem dX3_layUneven_13 : decode cX3_layUneven 13 = .ok (.getfield 7, 3) := by decide +kernel
theorem dX3_layUneven_16 : decode cX3_layUneven 16 = .ok (.bipush 8, 2) := by decide +kernel
theorem dX3_layUneven_18 : decode cX3_layUneven 18 = .ok (.iload_n 3, 1) := by decide +kernel
theorem dX3_layUneven_19 : decode cX3_layUneven 19 = .ok (.iadd, 1) := by decide +kernel
theorem dX3_layUneven_20 : decode cX3_layUneven 20 = .ok (.iaload, 1) := by decide +kernel
theorem dX3_layUneven_21 : decode cX3_layUneven 21 = .ok (.aload_n 0, 1) := by decide +kernel
theorem dX3_layUneven_22 : decode cX3_layUneven 22 = .ok (.getfield 7, 3) := by decide +kernel
theorem dX3_layUneven_25 : decode cX3_layUneven 25 = .ok (.iconst 0, 1) := by decide +kernel
theorem dX3_layUneven_26 : decode cX3_layUneven 26 = .ok (.iload_n 1, 1) := by decide +kernel
theorem dX3_layUneven_27 : decode cX3_layUneven 27 = .ok (.iadd, 1) := by decide +kernel
theorem dX3_layUneven_28 : decode cX3_layUneven 28 = .ok (.iaload, 1) := by decide +kernel
theorem dX3_layUneven_29 : decode cX3_layUneven 29 = .ok (.imul, 1) := by decide +kernel
theorem dX3_layUneven_30 : decode cX3_layUneven 30 = .ok (.aload_n 0, 1) := by decide +kernel
theorem dX3_layUneven_31 : decode cX3_layUneven 31 = .ok (.getfield 7, 3) := by decide +kernel
theorem dX3_layUneven_34 : decode cX3_layUneven 34 = .ok (.bipush 8, 2) := by decide +kernel
theorem dX3_layUneven_36 : decode cX3_layUneven 36 = .ok (.iload_n 1, 1) := by decide +kernel
theorem dX3_layUneven_37 : decode cX3_layUneven 37 = .ok (.iadd, 1) := by decide +kernel
theorem dX3_layUneven_38 : decode cX3_layUneven 38 = .ok (.iaload, 1) := by decide +kernel
theorem dX3_layUneven_39 : decode cX3_layUneven 39 = .ok (.aload_n 0, 1) := by decide +kernel
theorem dX3_layUneven_40 : decode cX3_layUneven 40 = .ok (.getfield 7, 3) := by decide +kernel
theorem dX3_layUneven_43 : decode cX3_layUneven 43 = .ok (.iconst 0, 1) := by decide +kernel
theorem dX3_layUneven_44 : decode cX3_layUneven 44 = .ok (.iload_n 3, 1) := by decide +kernel
theorem dX3_layUneven_45 : decode cX3_layUneven 45 = .ok (.iadd, 1) := by decide +kernel
theorem dX3_layUneven_46 : decode cX3_layUneven 46 = .ok (.iaload, 1) := by decide +kernel
theorem dX3_layUneven_47 : decode cX3_layUneven 47 = .ok (.imul, 1) := by decide +kernel
theorem dX3_layUneven_48 : decode cX3_layUneven 48 = .ok (.if_icmp .le 7, 3) := by decide +kernel
theorem dX3_layUneven_51 : decode cX3_layUneven 51 = .ok (.iload_n 3, 1) := by decide +kernel
theorem dX3_layUneven_52 : decode cX3_layUneven 52 = .ok (.goto 4, 3) := by decide +kernel
theorem dX3_layUneven_55 : decode cX3_layUneven 55 = .ok (.iload_n 1, 1) := by decide +kernel
theorem dX3_layUneven_56 : decode cX3_layUneven 56 = .ok (.istore_n 1, 1) := by decide +kernel
theorem dX3_layUneven_57 : decode cX3_layUneven 57 = .ok (.aload_n 0, 1) := by decide +kernel
theorem dX3_layUneven_58 : decode cX3_layUneven 58 = .ok (.getfield 7, 3) := by decide +kernel
theorem dX3_layUneven_61 : decode cX3_layUneven 61 = .ok (.bipush 8, 2) := by decide +kernel
theorem dX3_layUneven_63 : decode cX3_layUneven 63 = .ok (.iload_n 3, 1) := by decide +kernel
theorem dX3_layUneven_64 : decode cX3_layUneven 64 = .ok (.iadd, 1) := by decide +kernel
theorem dX3_layUneven_65 : decode cX3_layUneven 65 = .ok (.iaload, 1) := by decide +kernel
theorem dX3_layUneven_66 : decode cX3_layUneven 66 = .ok (.aload_n 0, 1) := by decide +kernel
theorem dX3_layUneven_67 : decode cX3_layUneven 67 = .ok (.getfield 7, 3) := by decide +kernel
theorem dX3_layUneven_70 : decode cX3_layUneven 70 = .ok (.iconst 0, 1) := by decide +kernel
theorem dX3_layUneven_71 : decode cX3_layUneven 71 = .ok (.iload_n 2, 1) := by decide +kernel
theorem dX3_layUneven_72 : decode cX3_layUneven 72 = .ok (.iadd, 1) := by decide +kernel
theorem dX3_layUneven_73 : decode cX3_layUneven 73 = .ok (.iaload, 1) := by decide +kernel
theorem dX3_layUneven_74 : decode cX3_layUneven 74 = .ok (.imul, 1) := by decide +kernel
theorem dX3_layUneven_75 : decode cX3_layUneven 75 = .ok (.aload_n 0, 1) := by decide +kernel
theorem dX3_layUneven_76 : decode cX3_layUneven 76 = .ok (.getfield 7, 3) := by decide +kernel
theorem dX3_layUneven_79 : decode cX3_layUneven 79 = .ok (.bipush 8, 2) := by decide +kernel
theorem dX3_layUneven_81 : decode cX3_layUneven 81 = .ok (.iload_n 2, 1) := by decide +kernel
theorem dX3_layUneven_82 : decode cX3_layUneven 82 = .ok (.iadd, 1) := by decide +kernel
theorem dX3_layUneven_83 : decode cX3_layUneven 83 = .ok (.iaload, 1) := by decide +kernel
theorem dX3_layUneven_84 : decode cX3_layUneven 84 = .ok (.aload_n 0, 1) := by decide +kernel
theorem dX3_layUneven_85 : decode cX3_layUneven 85 = .ok (.getfield 7, 3) := by decide +kernel
theorem dX3_layUneven_88 : decode cX3_layUneven 88 = .ok (.iconst 0, 1) := by decide +kernel
theorem dX3_layUneven_89 : decode cX3_layUneven 89 = .ok (.iload_n 3, 1) := by decide +kernel
theorem dX3_layUneven_90 : decode cX3_layUneven 90 = .ok (.iadd, 1) := by decide +kernel
theorem dX3_layUneven_91 : decode cX3_layUneven 91 = .ok (.iaload, 1) := by decide +kernel
theorem dX3_layUneven_92 : decode cX3_layUneven 92 = .ok (.imul, 1) := by decide +kernel
theorem dX3_layUneven_93 : decode cX3_layUneven 93 = .ok (.if_icmp .ge 7, 3) := by decide +kernel
theorem dX3_layUneven_96 : decode cX3_layUneven 96 = .ok (.iload_n 3, 1) := by decide +kernel
theorem dX3_layUneven_97 : decode cX3_layUneven 97 = .ok (.goto 4, 3) := by decide +kernel
theorem dX3_layUneven_100 : decode cX3_layUneven 100 = .ok (.iload_n 2, 1) := by decide +kernel
theorem dX3_layUneven_101 : decode cX3_layUneven 101 = .ok (.istore_n 2, 1) := by decide +kernel
theorem dX3_layUneven_102 : decode cX3_layUneven 102 = .ok (.iinc 3 1, 3) := by decide +kernel
theorem dX3_layUneven_105 : decode cX3_layUneven 105 = .ok (.goto (-99), 3) := by decide +kernel
theorem dX3_layUneven_108 : decode cX3_layUneven 108 = .ok (.aload_n 0, 1) := by decide +kernel
theorem dX3_layUneven_109 : decode cX3_layUneven 109 = .ok (.aload_n 0, 1) := by decide +kernel
theorem dX3_layUneven_110 : decode cX3_layUneven 110 = .ok (.getfield 7, 3) := by decide +kernel
theorem dX3_layUneven_113 : decode cX3_layUneven 113 = .ok (.bipush 8, 2) := by decide +kernel
theorem dX3_layUneven_115 : decode cX3_layUneven 115 = .ok (.iload_n 1, 1) := by decide +kernel
theorem dX3_layUneven_116 : decode cX3_layUneven 116 = .ok (.iadd, 1) := by decide +kernel
theorem dX3_layUneven_117 : decode cX3_layUneven 117 = .ok (.iaload, 1) := by decide +kernel
theorem dX3_layUneven_118 : decode cX3_layUneven 118 = .ok (.aload_n 0, 1) := by decide +kernel
theorem dX3_layUneven_119 : decode cX3_layUneven 119 = .ok (.getfield 7, 3) := by decide +kernel
theorem dX3_layUneven_122 : decode cX3_layUneven 122 = .ok (.iconst 0, 1) := by decide +kernel
theorem dX3_layUneven_123 : decode cX3_layUneven 123 = .ok (.iload_n 2, 1) := by decide +kernel
theorem dX3_layUneven_124 : decode cX3_layUneven 124 = .ok (.iadd, 1) := by decide +kernel
theorem dX3_layUneven_125 : decode cX3_layUneven 125 = .ok (.iaload, 1) := by decide +kernel
theorem dX3_layUneven_126 : decode cX3_layUneven 126 = .ok (.imul, 1) := by decide +kernel
theorem dX3_layUneven_127 : decode cX3_layUneven 127 = .ok (.aload_n 0, 1) := by decide +kernel
theorem dX3_layUneven_128 : decode cX3_layUneven 128 = .ok (.getfield 7, 3) := by decide +kernel
theorem dX3_layUneven_131 : decode cX3_layUneven 131 = .ok (.bipush 8, 2) := by decide +kernel
theorem dX3_layUneven_133 : decode cX3_layUneven 133 = .ok (.iload_n 2, 1) := by decide +kernel
theorem dX3_layUneven_134 : decode cX3_layUneven 134 = .ok (.iadd, 1) := by decide +kernel
theorem dX3_layUneven_135 : decode cX3_layUneven 135 = .ok (.iaload, 1) := by decide +kernel
theorem dX3_layUneven_136 : decode cX3_layUneven 136 = .ok (.aload_n 0, 1) := by decide +kernel
theorem dX3_layUneven_137 : decode cX3_layUneven 137 = .ok (.getfield 7, 3) := by decide +kernel
theorem dX3_layUneven_140 : decode cX3_layUneven 140 = .ok (.iconst 0, 1) := by decide +kernel
theorem dX3_layUneven_141 : decode cX3_layUneven 141 = .ok (.iload_n 1, 1) := by decide +kernel
theorem dX3_layUneven_142 : decode cX3_layUneven 142 = .ok (.iadd, 1) := by decide +kernel
theorem dX3_layUneven_143 : decode cX3_layUneven 143 = .ok (.iaload, 1) := by decide +kernel
theorem dX3_layUneven_144 : decode cX3_layUneven 144 = .ok (.imul, 1) := by decide +kernel
theorem dX3_layUneven_145 : decode cX3_layUneven 145 = .ok (.isub, 1) := by decide +kernel
theorem dX3_layUneven_146 : decode cX3_layUneven 146 = .ok (.putfield 113, 3) := by decide +kernel
theorem dX3_layUneven_149 : decode cX3_layUneven 149 = .ok (.aload_n 0, 1) := by decide +kernel
theorem dX3_layUneven_150 : decode cX3_layUneven 150 = .ok (.aload_n 0, 1) := by decide +kernel
theorem dX3_layUneven_151 : decode cX3_layUneven 151 = .ok (.getfield 7, 3) := by decide +kernel
theorem dX3_layUneven_154 : decode cX3_layUneven 154 = .ok (.iconst 0, 1) := by decide +kernel
theorem dX3_layUneven_155 : decode cX3_layUneven 155 = .ok (.iload_n 1, 1) := by decide +kernel
theorem dX3_layUneven_156 : decode cX3_layUneven 156 = .ok (.iadd, 1) := by decide +kernel
theorem dX3_layUneven_157 : decode cX3_layUneven 157 = .ok (.iaload, 1) := by decide +kernel
theorem dX3_layUneven_158 : decode cX3_layUneven 158 = .ok (.aload_n 0, 1) := by decide +kernel
theorem dX3_layUneven_159 : decode cX3_layUneven 159 = .ok (.getfield 7, 3) := by decide +kernel
theorem dX3_layUneven_162 : decode cX3_layUneven 162 = .ok (.iconst 0, 1) := by decide +kernel
theorem dX3_layUneven_163 : decode cX3_layUneven 163 = .ok (.iload_n 2, 1) := by decide +kernel
theorem dX3_layUneven_164 : decode cX3_layUneven 164 = .ok (.iadd, 1) := by decide +kernel
theorem dX3_layUneven_165 : decode cX3_layUneven 165 = .ok (.iaload, 1) := by decide +kernel
theorem dX3_layUneven_166 : decode cX3_layUneven 166 = .ok (.imul, 1) := by decide +kernel
theorem dX3_layUneven_167 : decode cX3_layUneven 167 = .ok (.putfield 116, 3) := by decide +kernel
theorem dX3_layUneven_170 : decode cX3_layUneven 170 = .ok (.return_, 1) := by decide +kernel
theorem dX3_common_0 : decode cX3_common 0 = .ok (.lload_n 0, 1) := by decide +kernel
theorem dX3_common_1 : decode cX3_common 1 = .ok (.lstore 4, 2) := by decide +kernel
theorem dX3_common_3 : decode cX3_common 3 = .ok (.lload_n 2, 1) := by decide +kernel
theorem dX3_common_4 : decode cX3_common 4 = .ok (.lstore 6, 2) := by decide +kernel
theorem dX3_common_6 : decode cX3_common 6 = .ok (.lload 6, 2) := by decide +kernel
theorem dX3_common_8 : decode cX3_common 8 = .ok (.lconst 0, 1) := by decide +kernel
theorem dX3_common_9 : decode cX3_common 9 = .ok (.lcmp, 1) := by decide +kernel
theorem dX3_common_10 : decode cX3_common 10 = .ok (.ifCond .eq 21, 3) := by decide +kernel
theorem dX3_common_13 : decode cX3_common 13 = .ok (.lload 4, 2) := by decide +kernel
theorem dX3_common_15 : decode cX3_common 15 = .ok (.lload 6, 2) := by decide +kernel
theorem dX3_common_17 : decode cX3_common 17 = .ok (.lrem, 1) := by decide +kernel
theorem dX3_common_18 : decode cX3_common 18 = .ok (.lstore 8, 2) := by decide +kernel
theorem dX3_common_20 : decode cX3_common 20 = .ok (.lload 6, 2) := by decide +kernel
theorem dX3_common_22 : decode cX3_common 22 = .ok (.lstore 4, 2) := by decide +kernel
theorem dX3_common_24 : decode cX3_common 24 = .ok (.lload 8, 2) := by decide +kernel
theorem dX3_common_26 : decode cX3_common 26 = .ok (.lstore 6, 2) := by decide +kernel
theorem dX3_common_28 : decode cX3_common 28 = .ok (.goto (-22), 3) := by decide +kernel
theorem dX3_common_31 : decode cX3_common 31 = .ok (.lload 4, 2) := by decide +kernel
theorem dX3_common_33 : decode cX3_common 33 = .ok (.lreturn, 1) := by decide +kernel
set_option maxRecDepth 20000 in
theorem ggX3_told__X3_common : GoodIn wsX3_told_ wsX3_common := goodIn_r _ [4] (by decide +kernel) (by decide +kernel)
set_option maxRecDepth 20000 in
theorem gX3_told__X3_common : GoodIn wsX3_told_ (va_wsS RX3 119 yX3_common wsX3_common) := goodIn_app (goodIn_of _ (by decide +kernel)) ggX3_told__X3_common
theorem dX3_told__0 : decode cX3_told_ 0 = .ok (.lload_n 2, 1) := by decide +kernel
theorem dX3_told__1 : decode cX3_told_ 1 = .ok (.lload_n 0, 1) := by decide +kernel
theorem dX3_told__2 : decode cX3_told_ 2 = .ok (.invokestatic 119, 3) := by decide +kernel
theorem dX3_told__5 : decode cX3_told_ 5 = .ok (.lstore 5, 2) := by decide +kernel
theorem dX3_told__7 : decode cX3_told_ 7 = .ok (.iload 4, 2) := by decide +kernel
theorem dX3_told__9 : decode cX3_told_ 9 = .ok (.ifCond .ne 10, 3) := by decide +kernel
theorem dX3_told__12 : decode cX3_told_ 12 = .ok (.lload_n 0, 1) := by decide +kernel
theorem dX3_told__13 : decode cX3_told_ 13 = .ok (.lload 5, 2) := by decide +kernel
theorem dX3_told__15 : decode cX3_told_ 15 = .ok (.ldiv, 1) := by decide +kernel
theorem dX3_told__16 : decode cX3_told_ 16 = .ok (.goto 7, 3) := by decide +kernel
theorem dX3_told__19 : decode cX3_told_ 19 = .ok (.lload_n 2, 1) := by decide +kernel
theorem dX3_told__20 : decode cX3_told_ 20 = .ok (.lload 5, 2) := by decide +kernel
theorem dX3_told__22 : decode cX3_told_ 22 = .ok (.ldiv, 1) := by decide +kernel
theorem dX3_told__23 : decode cX3_told_ 23 = .ok (.lreturn, 1) := by decide +kernel
set_option maxRecDepth 20000 in
theorem ggX3_uneven_X3_in : GoodIn wsX3_uneven wsX3_in := goodIn_r _ [6] (by decide +kernel) (by decide +kernel)
set_option maxRecDepth 20000 in
theorem gX3_uneven_X3_in : GoodIn wsX3_uneven (va_wsS RX3 36 yX3_in wsX3_in) := goodIn_app (goodIn_of _ (by decide +kernel)) ggX3_uneven_X3_in
set_option maxRecDepth 20000 in
theorem ggX3_uneven_X3_layUneven : GoodIn wsX3_uneven wsX3_layUneven := goodIn_r _ [10, 11, 1, 2, 18, 19, 20, 21, 22, 23, 24, 25, 26, 27, 28] (by decide +kernel) (by decide +kernel)
set_option maxRecDepth 20000 in
theorem gX3_uneven_X3_layUneven : GoodIn wsX3_uneven (wsV RX3 123 RX3 yX3_layUneven wsX3_layUneven) := goodIn_app (goodIn_of _ (by decide +kernel)) ggX3_uneven_X3_layUneven
set_option maxRecDepth 20000 in
theorem ggX3_uneven_X3_told_ : GoodIn wsX3_uneven wsX3_told_ := goodIn_r _ [14, 15, 16, 5, 17] (by decide +kernel) (by decide +kernel)
set_option maxRecDepth 20000 in
theorem gX3_uneven_X3_told_ : GoodIn wsX3_uneven (va_wsS RX3 126 yX3_told_ wsX3_told_) := goodIn_app (goodIn_of _ (by decide +kernel)) ggX3_uneven_X3_told_
theorem dX3_uneven_0 : decode cX3_uneven 0 = .ok (.iload_n 1, 1) := by decide +kernel
theorem dX3_uneven_1 : decode cX3_uneven 1 = .ok (.iconst 0, 1) := by decide +kernel
theorem dX3_uneven_2 : decode cX3_uneven 2 = .ok (.iconst 1, 1) := by decide +kernel
theorem dX3_uneven_3 : decode cX3_uneven 3 = .ok (.invokestatic 36, 3) := by decide +kernel
theorem dX3_uneven_6 : decode cX3_uneven 6 = .ok (.ifCond .ne 6, 3) := by decide +kernel
theorem dX3_uneven_9 : decode cX3_uneven 9 = .ok (.bipush (-2), 2) := by decide +kernel
theorem dX3_uneven_11 : decode cX3_uneven 11 = .ok (.ireturn, 1) := by decide +kernel
theorem dX3_uneven_12 : decode cX3_uneven 12 = .ok (.aload_n 0, 1) := by decide +kernel
theorem dX3_uneven_13 : decode cX3_uneven 13 = .ok (.invokevirtual 123, 3) := by decide +kernel
theorem dX3_uneven_16 : decode cX3_uneven 16 = .ok (.aload_n 0, 1) := by decide +kernel
theorem dX3_uneven_17 : decode cX3_uneven 17 = .ok (.getfield 113, 3) := by decide +kernel
theorem dX3_uneven_20 : decode cX3_uneven 20 = .ok (.i2l, 1) := by decide +kernel
theorem dX3_uneven_21 : decode cX3_uneven 21 = .ok (.aload_n 0, 1) := by decide +kernel
theorem dX3_uneven_22 : decode cX3_uneven 22 = .ok (.getfield 116, 3) := by decide +kernel
theorem dX3_uneven_25 : decode cX3_uneven 25 = .ok (.i2l, 1) := by decide +kernel
theorem dX3_uneven_26 : decode cX3_uneven 26 = .ok (.iload_n 1, 1) := by decide +kernel
theorem dX3_uneven_27 : decode cX3_uneven 27 = .ok (.invokestatic 126, 3) := by decide +kernel
theorem dX3_uneven_30 : decode cX3_uneven 30 = .ok (.l2i, 1) := by decide +kernel
theorem dX3_uneven_31 : decode cX3_uneven 31 = .ok (.ireturn, 1) := by decide +kernel
theorem dX3_sumOf_0 : decode cX3_sumOf 0 = .ok (.iconst 0, 1) := by decide +kernel
theorem dX3_sumOf_1 : decode cX3_sumOf 1 = .ok (.istore_n 2, 1) := by decide +kernel
theorem dX3_sumOf_2 : decode cX3_sumOf 2 = .ok (.iconst 0, 1) := by decide +kernel
theorem dX3_sumOf_3 : decode cX3_sumOf 3 = .ok (.istore_n 3, 1) := by decide +kernel
theorem dX3_sumOf_4 : decode cX3_sumOf 4 = .ok (.iload_n 3, 1) := by decide +kernel
theorem dX3_sumOf_5 : decode cX3_sumOf 5 = .ok (.bipush 8, 2) := by decide +kernel
theorem dX3_sumOf_7 : decode cX3_sumOf 7 = .ok (.if_icmp .ge 20, 3) := by decide +kernel
theorem dX3_sumOf_10 : decode cX3_sumOf 10 = .ok (.iload_n 2, 1) := by decide +kernel
theorem dX3_sumOf_11 : decode cX3_sumOf 11 = .ok (.aload_n 0, 1) := by decide +kernel
theorem dX3_sumOf_12 : decode cX3_sumOf 12 = .ok (.getfield 7, 3) := by decide +kernel
theorem dX3_sumOf_15 : decode cX3_sumOf 15 = .ok (.iload_n 1, 1) := by decide +kernel
theorem dX3_sumOf_16 : decode cX3_sumOf 16 = .ok (.iload_n 3, 1) := by decide +kernel
theorem dX3_sumOf_17 : decode cX3_sumOf 17 = .ok (.iadd, 1) := by decide +kernel
theorem dX3_sumOf_18 : decode cX3_sumOf 18 = .ok (.iaload, 1) := by decide +kernel
theorem dX3_sumOf_19 : decode cX3_sumOf 19 = .ok (.iadd, 1) := by decide +kernel
theorem dX3_sumOf_20 : decode cX3_sumOf 20 = .ok (.istore_n 2, 1) := by decide +kernel
theorem dX3_sumOf_21 : decode cX3_sumOf 21 = .ok (.iinc 3 1, 3) := by decide +kernel
theorem dX3_sumOf_24 : decode cX3_sumOf 24 = .ok (.goto (-20), 3) := by decide +kernel
theorem dX3_sumOf_27 : decode cX3_sumOf 27 = .ok (.iload_n 2, 1) := by decide +kernel
theorem dX3_sumOf_28 : decode cX3_sumOf 28 = .ok (.ireturn, 1) := by decide +kernel
set_option maxRecDepth 20000 in
theorem ggX3_share_X3_isNode : GoodIn wsX3_share wsX3_isNode := goodIn_r _ [5, 6, 7, 4, 8] (by decide +kernel) (by decide +kernel)
set_option maxRecDepth 20000 in
theorem gX3_share_X3_isNode : GoodIn wsX3_share (va_wsS RX3 48 yX3_isNode wsX3_isNode) := goodIn_app (goodIn_of _ (by decide +kernel)) ggX3_share_X3_isNode
set_option maxRecDepth 20000 in
theorem ggX3_share_X3_in : GoodIn wsX3_share wsX3_in := goodIn_r _ [8] (by decide +kernel) (by decide +kernel)
set_option maxRecDepth 20000 in
theorem gX3_share_X3_in : GoodIn wsX3_share (va_wsS RX3 36 yX3_in wsX3_in) := goodIn_app (goodIn_of _ (by decide +kernel)) ggX3_share_X3_in
set_option maxRecDepth 20000 in
theorem ggX3_share_X3_sumOf : GoodIn wsX3_share wsX3_sumOf := goodIn_r _ [12, 1, 19, 20, 21, 22, 23, 24, 25, 26, 27, 28, 29] (by decide +kernel) (by decide +kernel)
set_option maxRecDepth 20000 in
theorem gX3_share_X3_sumOf : GoodIn wsX3_share (wsV RX3 130 RX3 yX3_sumOf wsX3_sumOf) := goodIn_app (goodIn_of _ (by decide +kernel)) ggX3_share_X3_sumOf
set_option maxRecDepth 20000 in
theorem ggX3_share_X3_told_ : GoodIn wsX3_share wsX3_told_ := goodIn_r _ [15, 16, 17, 4, 18] (by decide +kernel) (by decide +kernel)
set_option maxRecDepth 20000 in
theorem gX3_share_X3_told_ : GoodIn wsX3_share (va_wsS RX3 126 yX3_told_ wsX3_told_) := goodIn_app (goodIn_of _ (by decide +kernel)) ggX3_share_X3_told_
theorem dX3_share_0 : decode cX3_share 0 = .ok (.iload_n 1, 1) := by decide +kernel
theorem dX3_share_1 : decode cX3_share 1 = .ok (.invokestatic 48, 3) := by decide +kernel
theorem dX3_share_4 : decode cX3_share 4 = .ok (.ifCond .ne 5, 3) := by decide +kernel
theorem dX3_share_7 : decode cX3_share 7 = .ok (.iconst (-1), 1) := by decide +kernel
theorem dX3_share_8 : decode cX3_share 8 = .ok (.ireturn, 1) := by decide +kernel
theorem dX3_share_9 : decode cX3_share 9 = .ok (.iload_n 2, 1) := by decide +kernel
theorem dX3_share_10 : decode cX3_share 10 = .ok (.iconst 0, 1) := by decide +kernel
theorem dX3_share_11 : decode cX3_share 11 = .ok (.iconst 1, 1) := by decide +kernel
theorem dX3_share_12 : decode cX3_share 12 = .ok (.invokestatic 36, 3) := by decide +kernel
theorem dX3_share_15 : decode cX3_share 15 = .ok (.ifCond .ne 6, 3) := by decide +kernel
theorem dX3_share_18 : decode cX3_share 18 = .ok (.bipush (-2), 2) := by decide +kernel
theorem dX3_share_20 : decode cX3_share 20 = .ok (.ireturn, 1) := by decide +kernel
theorem dX3_share_21 : decode cX3_share 21 = .ok (.aload_n 0, 1) := by decide +kernel
theorem dX3_share_22 : decode cX3_share 22 = .ok (.bipush 8, 2) := by decide +kernel
theorem dX3_share_24 : decode cX3_share 24 = .ok (.invokevirtual 130, 3) := by decide +kernel
theorem dX3_share_27 : decode cX3_share 27 = .ok (.ifCond .ge 6, 3) := by decide +kernel
theorem dX3_share_30 : decode cX3_share 30 = .ok (.bipush (-3), 2) := by decide +kernel
theorem dX3_share_32 : decode cX3_share 32 = .ok (.ireturn, 1) := by decide +kernel
theorem dX3_share_33 : decode cX3_share 33 = .ok (.aload_n 0, 1) := by decide +kernel
theorem dX3_share_34 : decode cX3_share 34 = .ok (.bipush 8, 2) := by decide +kernel
theorem dX3_share_36 : decode cX3_share 36 = .ok (.invokevirtual 130, 3) := by decide +kernel
theorem dX3_share_39 : decode cX3_share 39 = .ok (.aload_n 0, 1) := by decide +kernel
theorem dX3_share_40 : decode cX3_share 40 = .ok (.getfield 7, 3) := by decide +kernel
theorem dX3_share_43 : decode cX3_share 43 = .ok (.iconst 0, 1) := by decide +kernel
theorem dX3_share_44 : decode cX3_share 44 = .ok (.iload_n 1, 1) := by decide +kernel
theorem dX3_share_45 : decode cX3_share 45 = .ok (.iadd, 1) := by decide +kernel
theorem dX3_share_46 : decode cX3_share 46 = .ok (.iaload, 1) := by decide +kernel
theorem dX3_share_47 : decode cX3_share 47 = .ok (.imul, 1) := by decide +kernel
theorem dX3_share_48 : decode cX3_share 48 = .ok (.i2l, 1) := by decide +kernel
theorem dX3_share_49 : decode cX3_share 49 = .ok (.aload_n 0, 1) := by decide +kernel
theorem dX3_share_50 : decode cX3_share 50 = .ok (.iconst 0, 1) := by decide +kernel
theorem dX3_share_51 : decode cX3_share 51 = .ok (.invokevirtual 130, 3) := by decide +kernel
theorem dX3_share_54 : decode cX3_share 54 = .ok (.i2l, 1) := by decide +kernel
theorem dX3_share_55 : decode cX3_share 55 = .ok (.iload_n 2, 1) := by decide +kernel
theorem dX3_share_56 : decode cX3_share 56 = .ok (.invokestatic 126, 3) := by decide +kernel
theorem dX3_share_59 : decode cX3_share 59 = .ok (.l2i, 1) := by decide +kernel
theorem dX3_share_60 : decode cX3_share 60 = .ok (.ireturn, 1) := by decide +kernel
set_option maxRecDepth 20000 in
theorem ggX3_potential_X3_sumOf : GoodIn wsX3_potential wsX3_sumOf := goodIn_r _ [6, 1, 7, 8, 9, 10, 11, 12, 13, 14, 15, 16, 17] (by decide +kernel) (by decide +kernel)
set_option maxRecDepth 20000 in
theorem gX3_potential_X3_sumOf : GoodIn wsX3_potential (wsV RX3 130 RX3 yX3_sumOf wsX3_sumOf) := goodIn_app (goodIn_of _ (by decide +kernel)) ggX3_potential_X3_sumOf
theorem dX3_potential_0 : decode cX3_potential 0 = .ok (.lconst 0, 1) := by decide +kernel
theorem dX3_potential_1 : decode cX3_potential 1 = .ok (.lstore_n 1, 1) := by decide +kernel
theorem dX3_potential_2 : decode cX3_potential 2 = .ok (.iconst 0, 1) := by decide +kernel
theorem dX3_potential_3 : decode cX3_potential 3 = .ok (.istore_n 3, 1) := by decide +kernel
theorem dX3_potential_4 : decode cX3_potential 4 = .ok (.iload_n 3, 1) := by decide +kernel
theorem dX3_potential_5 : decode cX3_potential 5 = .ok (.bipush 8, 2) := by decide +kernel
theorem dX3_potential_7 : decode cX3_potential 7 = .ok (.if_icmp .ge 54, 3) := by decide +kernel
theorem dX3_potential_10 : decode cX3_potential 10 = .ok (.aload_n 0, 1) := by decide +kernel
theorem dX3_potential_11 : decode cX3_potential 11 = .ok (.getfield 7, 3) := by decide +kernel
theorem dX3_potential_14 : decode cX3_potential 14 = .ok (.bipush 8, 2) := by decide +kernel
theorem dX3_potential_16 : decode cX3_potential 16 = .ok (.iload_n 3, 1) := by decide +kernel
theorem dX3_potential_17 : decode cX3_potential 17 = .ok (.iadd, 1) := by decide +kernel
theorem dX3_potential_18 : decode cX3_potential 18 = .ok (.iaload, 1) := by decide +kernel
theorem dX3_potential_19 : decode cX3_potential 19 = .ok (.i2l, 1) := by decide +kernel
theorem dX3_potential_20 : decode cX3_potential 20 = .ok (.aload_n 0, 1) := by decide +kernel
theorem dX3_potential_21 : decode cX3_potential 21 = .ok (.iconst 0, 1) := by decide +kernel
theorem dX3_potential_22 : decode cX3_potential 22 = .ok (.invokevirtual 130, 3) := by decide +kernel
theorem dX3_potential_25 : decode cX3_potential 25 = .ok (.i2l, 1) := by decide +kernel
theorem dX3_potential_26 : decode cX3_potential 26 = .ok (.lmul, 1) := by decide +kernel
theorem dX3_potential_27 : decode cX3_potential 27 = .ok (.aload_n 0, 1) := by decide +kernel
theorem dX3_potential_28 : decode cX3_potential 28 = .ok (.bipush 8, 2) := by decide +kernel
theorem dX3_potential_30 : decode cX3_potential 30 = .ok (.invokevirtual 130, 3) := by decide +kernel
theorem dX3_potential_33 : decode cX3_potential 33 = .ok (.i2l, 1) := by decide +kernel
theorem dX3_potential_34 : decode cX3_potential 34 = .ok (.aload_n 0, 1) := by decide +kernel
theorem dX3_potential_35 : decode cX3_potential 35 = .ok (.getfield 7, 3) := by decide +kernel
theorem dX3_potential_38 : decode cX3_potential 38 = .ok (.iconst 0, 1) := by decide +kernel
theorem dX3_potential_39 : decode cX3_potential 39 = .ok (.iload_n 3, 1) := by decide +kernel
theorem dX3_potential_40 : decode cX3_potential 40 = .ok (.iadd, 1) := by decide +kernel
theorem dX3_potential_41 : decode cX3_potential 41 = .ok (.iaload, 1) := by decide +kernel
theorem dX3_potential_42 : decode cX3_potential 42 = .ok (.i2l, 1) := by decide +kernel
theorem dX3_potential_43 : decode cX3_potential 43 = .ok (.lmul, 1) := by decide +kernel
theorem dX3_potential_44 : decode cX3_potential 44 = .ok (.lsub, 1) := by decide +kernel
theorem dX3_potential_45 : decode cX3_potential 45 = .ok (.lstore 4, 2) := by decide +kernel
theorem dX3_potential_47 : decode cX3_potential 47 = .ok (.lload_n 1, 1) := by decide +kernel
theorem dX3_potential_48 : decode cX3_potential 48 = .ok (.lload 4, 2) := by decide +kernel
theorem dX3_potential_50 : decode cX3_potential 50 = .ok (.lload 4, 2) := by decide +kernel
theorem dX3_potential_52 : decode cX3_potential 52 = .ok (.lmul, 1) := by decide +kernel
theorem dX3_potential_53 : decode cX3_potential 53 = .ok (.ladd, 1) := by decide +kernel
theorem dX3_potential_54 : decode cX3_potential 54 = .ok (.lstore_n 1, 1) := by decide +kernel
theorem dX3_potential_55 : decode cX3_potential 55 = .ok (.iinc 3 1, 3) := by decide +kernel
theorem dX3_potential_58 : decode cX3_potential 58 = .ok (.goto (-54), 3) := by decide +kernel
theorem dX3_potential_61 : decode cX3_potential 61 = .ok (.lload_n 1, 1) := by decide +kernel
theorem dX3_potential_62 : decode cX3_potential 62 = .ok (.lreturn, 1) := by decide +kernel
theorem dX3_idealRound_0 : decode cX3_idealRound 0 = .ok (.iconst 0, 1) := by decide +kernel
theorem dX3_idealRound_1 : decode cX3_idealRound 1 = .ok (.istore_n 2, 1) := by decide +kernel
theorem dX3_idealRound_2 : decode cX3_idealRound 2 = .ok (.iload_n 2, 1) := by decide +kernel
theorem dX3_idealRound_3 : decode cX3_idealRound 3 = .ok (.bipush 8, 2) := by decide +kernel
theorem dX3_idealRound_5 : decode cX3_idealRound 5 = .ok (.if_icmp .ge 24, 3) := by decide +kernel
theorem dX3_idealRound_8 : decode cX3_idealRound 8 = .ok (.aload_n 0, 1) := by decide +kernel
theorem dX3_idealRound_9 : decode cX3_idealRound 9 = .ok (.getfield 30, 3) := by decide +kernel
theorem dX3_idealRound_12 : decode cX3_idealRound 12 = .ok (.iload_n 2, 1) := by decide +kernel
theorem dX3_idealRound_13 : decode cX3_idealRound 13 = .ok (.iload_n 1, 1) := by decide +kernel
theorem dX3_idealRound_14 : decode cX3_idealRound 14 = .ok (.i2l, 1) := by decide +kernel
theorem dX3_idealRound_15 : decode cX3_idealRound 15 = .ok (.aload_n 0, 1) := by decide +kernel
theorem dX3_idealRound_16 : decode cX3_idealRound 16 = .ok (.getfield 26, 3) := by decide +kernel
theorem dX3_idealRound_19 : decode cX3_idealRound 19 = .ok (.iload_n 2, 1) := by decide +kernel
theorem dX3_idealRound_20 : decode cX3_idealRound 20 = .ok (.laload, 1) := by decide +kernel
theorem dX3_idealRound_21 : decode cX3_idealRound 21 = .ok (.lmul, 1) := by decide +kernel
theorem dX3_idealRound_22 : decode cX3_idealRound 22 = .ok (.lastore, 1) := by decide +kernel
theorem dX3_idealRound_23 : decode cX3_idealRound 23 = .ok (.iinc 2 1, 3) := by decide +kernel
theorem dX3_idealRound_26 : decode cX3_idealRound 26 = .ok (.goto (-24), 3) := by decide +kernel
theorem dX3_idealRound_29 : decode cX3_idealRound 29 = .ok (.iconst 0, 1) := by decide +kernel
theorem dX3_idealRound_30 : decode cX3_idealRound 30 = .ok (.istore_n 2, 1) := by decide +kernel
theorem dX3_idealRound_31 : decode cX3_idealRound 31 = .ok (.iload_n 2, 1) := by decide +kernel
theorem dX3_idealRound_32 : decode cX3_idealRound 32 = .ok (.bipush 64, 2) := by decide +kernel
theorem dX3_idealRound_34 : decode cX3_idealRound 34 = .ok (.if_icmp .ge 93, 3) := by decide +kernel
theorem dX3_idealRound_37 : decode cX3_idealRound 37 = .ok (.aload_n 0, 1) := by decide +kernel
theorem dX3_idealRound_38 : decode cX3_idealRound 38 = .ok (.getfield 7, 3) := by decide +kernel
theorem dX3_idealRound_41 : decode cX3_idealRound 41 = .ok (.bipush 24, 2) := by decide +kernel
theorem dX3_idealRound_43 : decode cX3_idealRound 43 = .ok (.iload_n 2, 1) := by decide +kernel
theorem dX3_idealRound_44 : decode cX3_idealRound 44 = .ok (.iadd, 1) := by decide +kernel
theorem dX3_idealRound_45 : decode cX3_idealRound 45 = .ok (.iaload, 1) := by decide +kernel
theorem dX3_idealRound_46 : decode cX3_idealRound 46 = .ok (.ifCond .lt 75, 3) := by decide +kernel
theorem dX3_idealRound_49 : decode cX3_idealRound 49 = .ok (.aload_n 0, 1) := by decide +kernel
theorem dX3_idealRound_50 : decode cX3_idealRound 50 = .ok (.getfield 26, 3) := by decide +kernel
theorem dX3_idealRound_53 : decode cX3_idealRound 53 = .ok (.iload_n 2, 1) := by decide +kernel
theorem dX3_idealRound_54 : decode cX3_idealRound 54 = .ok (.bipush 8, 2) := by decide +kernel
theorem dX3_idealRound_56 : decode cX3_idealRound 56 = .ok (.idiv, 1) := by decide +kernel
theorem dX3_idealRound_57 : decode cX3_idealRound 57 = .ok (.laload, 1) := by decide +kernel
theorem dX3_idealRound_58 : decode cX3_idealRound 58 = .ok (.aload_n 0, 1) := by decide +kernel
theorem dX3_idealRound_59 : decode cX3_idealRound 59 = .ok (.getfield 7, 3) := by decide +kernel
theorem dX3_idealRound_62 : decode cX3_idealRound 62 = .ok (.iconst 0, 1) := by decide +kernel
theorem dX3_idealRound_63 : decode cX3_idealRound 63 = .ok (.iload_n 2, 1) := by decide +kernel
theorem dX3_idealRound_64 : decode cX3_idealRound 64 = .ok (.bipush 8, 2) := by decide +kernel
theorem dX3_idealRound_66 : decode cX3_idealRound 66 = .ok (.irem, 1) := by decide +kernel
theorem dX3_idealRound_67 : decode cX3_idealRound 67 = .ok (.iadd, 1) := by decide +kernel
theorem dX3_idealRound_68 : decode cX3_idealRound 68 = .ok (.iaload, 1) := by decide +kernel
theorem dX3_idealRound_69 : decode cX3_idealRound 69 = .ok (.i2l, 1) := by decide +kernel
theorem dX3_idealRound_70 : decode cX3_idealRound 70 = .ok (.lmul, 1) := by decide +kernel
theorem dX3_idealRound_71 : decode cX3_idealRound 71 = .ok (.aload_n 0, 1) := by decide +kernel
theorem dX3_idealRound_72 : decode cX3_idealRound 72 = .ok (.getfield 26, 3) := by decide +kernel
theorem dX3_idealRound_75 : decode cX3_idealRound 75 = .ok (.iload_n 2, 1) := by decide +kernel
theorem dX3_idealRound_76 : decode cX3_idealRound 76 = .ok (.bipush 8, 2) := by decide +kernel
theorem dX3_idealRound_78 : decode cX3_idealRound 78 = .ok (.irem, 1) := by decide +kernel
theorem dX3_idealRound_79 : decode cX3_idealRound 79 = .ok (.laload, 1) := by decide +kernel
theorem dX3_idealRound_80 : decode cX3_idealRound 80 = .ok (.aload_n 0, 1) := by decide +kernel
theorem dX3_idealRound_81 : decode cX3_idealRound 81 = .ok (.getfield 7, 3) := by decide +kernel
theorem dX3_idealRound_84 : decode cX3_idealRound 84 = .ok (.iconst 0, 1) := by decide +kernel
theorem dX3_idealRound_85 : decode cX3_idealRound 85 = .ok (.iload_n 2, 1) := by decide +kernel
theorem dX3_idealRound_86 : decode cX3_idealRound 86 = .ok (.bipush 8, 2) := by decide +kernel
theorem dX3_idealRound_88 : decode cX3_idealRound 88 = .ok (.idiv, 1) := by decide +kernel
theorem dX3_idealRound_89 : decode cX3_idealRound 89 = .ok (.iadd, 1) := by decide +kernel
theorem dX3_idealRound_90 : decode cX3_idealRound 90 = .ok (.iaload, 1) := by decide +kernel
theorem dX3_idealRound_91 : decode cX3_idealRound 91 = .ok (.i2l, 1) := by decide +kernel
theorem dX3_idealRound_92 : decode cX3_idealRound 92 = .ok (.lmul, 1) := by decide +kernel
theorem dX3_idealRound_93 : decode cX3_idealRound 93 = .ok (.lsub, 1) := by decide +kernel
theorem dX3_idealRound_94 : decode cX3_idealRound 94 = .ok (.lstore_n 3, 1) := by decide +kernel
theorem dX3_idealRound_95 : decode cX3_idealRound 95 = .ok (.aload_n 0, 1) := by decide +kernel
theorem dX3_idealRound_96 : decode cX3_idealRound 96 = .ok (.getfield 30, 3) := by decide +kernel
theorem dX3_idealRound_99 : decode cX3_idealRound 99 = .ok (.iload_n 2, 1) := by decide +kernel
theorem dX3_idealRound_100 : decode cX3_idealRound 100 = .ok (.bipush 8, 2) := by decide +kernel
theorem dX3_idealRound_102 : decode cX3_idealRound 102 = .ok (.idiv, 1) := by decide +kernel
theorem dX3_idealRound_103 : decode cX3_idealRound 103 = .ok (.dup2, 1) := by decide +kernel
theorem dX3_idealRound_104 : decode cX3_idealRound 104 = .ok (.laload, 1) := by decide +kernel
theorem dX3_idealRound_105 : decode cX3_idealRound 105 = .ok (.lload_n 3, 1) := by decide +kernel
theorem dX3_idealRound_106 : decode cX3_idealRound 106 = .ok (.lsub, 1) := by decide +kernel
theorem dX3_idealRound_107 : decode cX3_idealRound 107 = .ok (.lastore, 1) := by decide +kernel
theorem dX3_idealRound_108 : decode cX3_idealRound 108 = .ok (.aload_n 0, 1) := by decide +kernel
theorem dX3_idealRound_109 : decode cX3_idealRound 109 = .ok (.getfield 30, 3) := by decide +kernel
theorem dX3_idealRound_112 : decode cX3_idealRound 112 = .ok (.iload_n 2, 1) := by decide +kernel
theorem dX3_idealRound_113 : decode cX3_idealRound 113 = .ok (.bipush 8, 2) := by decide +kernel
theorem dX3_idealRound_115 : decode cX3_idealRound 115 = .ok (.irem, 1) := by decide +kernel
theorem dX3_idealRound_116 : decode cX3_idealRound 116 = .ok (.dup2, 1) := by decide +kernel
theorem dX3_idealRound_117 : decode cX3_idealRound 117 = .ok (.laload, 1) := by decide +kernel
theorem dX3_idealRound_118 : decode cX3_idealRound 118 = .ok (.lload_n 3, 1) := by decide +kernel
theorem dX3_idealRound_119 : decode cX3_idealRound 119 = .ok (.ladd, 1) := by decide +kernel
theorem dX3_idealRound_120 : decode cX3_idealRound 120 = .ok (.lastore, 1) := by decide +kernel
theorem dX3_idealRound_121 : decode cX3_idealRound 121 = .ok (.iinc 2 1, 3) := by decide +kernel
theorem dX3_idealRound_124 : decode cX3_idealRound 124 = .ok (.goto (-93), 3) := by decide +kernel
theorem dX3_idealRound_127 : decode cX3_idealRound 127 = .ok (.iconst 0, 1) := by decide +kernel
theorem dX3_idealRound_128 : decode cX3_idealRound 128 = .ok (.istore_n 2, 1) := by decide +kernel
theorem dX3_idealRound_129 : decode cX3_idealRound 129 = .ok (.iload_n 2, 1) := by decide +kernel
theorem dX3_idealRound_130 : decode cX3_idealRound 130 = .ok (.bipush 8, 2) := by decide +kernel
theorem dX3_idealRound_132 : decode cX3_idealRound 132 = .ok (.if_icmp .ge 21, 3) := by decide +kernel
theorem dX3_idealRound_135 : decode cX3_idealRound 135 = .ok (.aload_n 0, 1) := by decide +kernel
theorem dX3_idealRound_136 : decode cX3_idealRound 136 = .ok (.getfield 26, 3) := by decide +kernel
theorem dX3_idealRound_139 : decode cX3_idealRound 139 = .ok (.iload_n 2, 1) := by decide +kernel
theorem dX3_idealRound_140 : decode cX3_idealRound 140 = .ok (.aload_n 0, 1) := by decide +kernel
theorem dX3_idealRound_141 : decode cX3_idealRound 141 = .ok (.getfield 30, 3) := by decide +kernel
theorem dX3_idealRound_144 : decode cX3_idealRound 144 = .ok (.iload_n 2, 1) := by decide +kernel
theorem dX3_idealRound_145 : decode cX3_idealRound 145 = .ok (.laload, 1) := by decide +kernel
theorem dX3_idealRound_146 : decode cX3_idealRound 146 = .ok (.lastore, 1) := by decide +kernel
theorem dX3_idealRound_147 : decode cX3_idealRound 147 = .ok (.iinc 2 1, 3) := by decide +kernel
theorem dX3_idealRound_150 : decode cX3_idealRound 150 = .ok (.goto (-21), 3) := by decide +kernel
theorem dX3_idealRound_153 : decode cX3_idealRound 153 = .ok (.return_, 1) := by decide +kernel
theorem dX3_isAnyBelow_0 : decode cX3_isAnyBelow 0 = .ok (.iconst 0, 1) := by decide +kernel
theorem dX3_isAnyBelow_1 : decode cX3_isAnyBelow 1 = .ok (.istore_n 1, 1) := by decide +kernel
theorem dX3_isAnyBelow_2 : decode cX3_isAnyBelow 2 = .ok (.iconst 0, 1) := by decide +kernel
theorem dX3_isAnyBelow_3 : decode cX3_isAnyBelow 3 = .ok (.istore_n 2, 1) := by decide +kernel
theorem dX3_isAnyBelow_4 : decode cX3_isAnyBelow 4 = .ok (.iload_n 2, 1) := by decide +kernel
theorem dX3_isAnyBelow_5 : decode cX3_isAnyBelow 5 = .ok (.bipush 8, 2) := by decide +kernel
theorem dX3_isAnyBelow_7 : decode cX3_isAnyBelow 7 = .ok (.if_icmp .ge 31, 3) := by decide +kernel
theorem dX3_isAnyBelow_10 : decode cX3_isAnyBelow 10 = .ok (.iload_n 1, 1) := by decide +kernel
theorem dX3_isAnyBelow_11 : decode cX3_isAnyBelow 11 = .ok (.ifCond .ne 15, 3) := by decide +kernel
theorem dX3_isAnyBelow_14 : decode cX3_isAnyBelow 14 = .ok (.aload_n 0, 1) := by decide +kernel
theorem dX3_isAnyBelow_15 : decode cX3_isAnyBelow 15 = .ok (.getfield 7, 3) := by decide +kernel
theorem dX3_isAnyBelow_18 : decode cX3_isAnyBelow 18 = .ok (.bipush 8, 2) := by decide +kernel
theorem dX3_isAnyBelow_20 : decode cX3_isAnyBelow 20 = .ok (.iload_n 2, 1) := by decide +kernel
theorem dX3_isAnyBelow_21 : decode cX3_isAnyBelow 21 = .ok (.iadd, 1) := by decide +kernel
theorem dX3_isAnyBelow_22 : decode cX3_isAnyBelow 22 = .ok (.iaload, 1) := by decide +kernel
theorem dX3_isAnyBelow_23 : decode cX3_isAnyBelow 23 = .ok (.ifCond .ge 7, 3) := by decide +kernel
theorem dX3_isAnyBelow_26 : decode cX3_isAnyBelow 26 = .ok (.iconst 1, 1) := by decide +kernel
theorem dX3_isAnyBelow_27 : decode cX3_isAnyBelow 27 = .ok (.goto 4, 3) := by decide +kernel
theorem dX3_isAnyBelow_30 : decode cX3_isAnyBelow 30 = .ok (.iconst 0, 1) := by decide +kernel
theorem dX3_isAnyBelow_31 : decode cX3_isAnyBelow 31 = .ok (.istore_n 1, 1) := by decide +kernel
theorem dX3_isAnyBelow_32 : decode cX3_isAnyBelow 32 = .ok (.iinc 2 1, 3) := by decide +kernel
theorem dX3_isAnyBelow_35 : decode cX3_isAnyBelow 35 = .ok (.goto (-31), 3) := by decide +kernel
theorem dX3_isAnyBelow_38 : decode cX3_isAnyBelow 38 = .ok (.iload_n 1, 1) := by decide +kernel
theorem dX3_isAnyBelow_39 : decode cX3_isAnyBelow 39 = .ok (.ireturn, 1) := by decide +kernel
set_option maxRecDepth 20000 in
theorem ggX3_ideal_X3_isNode : GoodIn wsX3_ideal wsX3_isNode := goodIn_r _ [9, 10, 11, 8, 12] (by decide +kernel) (by decide +kernel)
set_option maxRecDepth 20000 in
theorem gX3_ideal_X3_isNode : GoodIn wsX3_ideal (va_wsS RX3 48 yX3_isNode wsX3_isNode) := goodIn_app (goodIn_of _ (by decide +kernel)) ggX3_ideal_X3_isNode
set_option maxRecDepth 20000 in
theorem ggX3_ideal_X3_in : GoodIn wsX3_ideal wsX3_in := goodIn_r _ [12] (by decide +kernel) (by decide +kernel)
set_option maxRecDepth 20000 in
theorem gX3_ideal_X3_in : GoodIn wsX3_ideal (va_wsS RX3 36 yX3_in wsX3_in) := goodIn_app (goodIn_of _ (by decide +kernel)) ggX3_ideal_X3_in
set_option maxRecDepth 20000 in
theorem ggX3_ideal_X3_isAnyBelow : GoodIn wsX3_ideal wsX3_isAnyBelow := goodIn_r _ [16, 5, 43, 44, 45, 46, 47, 48, 49, 50, 51, 52, 53] (by decide +kernel) (by decide +kernel)
set_option maxRecDepth 20000 in
theorem gX3_ideal_X3_isAnyBelow : GoodIn wsX3_ideal (wsV RX3 137 RX3 yX3_isAnyBelow wsX3_isAnyBelow) := goodIn_app (goodIn_of _ (by decide +kernel)) ggX3_ideal_X3_isAnyBelow
set_option maxRecDepth 20000 in
theorem ggX3_ideal_X3_measure : GoodIn wsX3_ideal wsX3_measure := goodIn_r _ [20, 21, 22, 23, 8, 24, 25, 26, 27, 28, 5, 29, 30, 31, 43, 44, 45, 46, 47, 48, 49, 50, 51, 52, 53] (by decide +kernel) (by decide +kernel)
set_option maxRecDepth 20000 in
theorem gX3_ideal_X3_measure : GoodIn wsX3_ideal (wsV RX3 80 RX3 yX3_measure wsX3_measure) := goodIn_app (goodIn_of _ (by decide +kernel)) ggX3_ideal_X3_measure
set_option maxRecDepth 20000 in
theorem ggX3_ideal_X3_idealRound : GoodIn wsX3_ideal wsX3_idealRound := goodIn_r _ [35, 36, 4, 5, 43, 44, 45, 46, 47, 48, 49, 50, 51, 52, 53] (by decide +kernel) (by decide +kernel)
set_option maxRecDepth 20000 in
theorem gX3_ideal_X3_idealRound : GoodIn wsX3_ideal (wsV RX3 143 RX3 yX3_idealRound wsX3_idealRound) := goodIn_app (goodIn_of _ (by decide +kernel)) ggX3_ideal_X3_idealRound
set_option maxRecDepth 20000 in
theorem ggX3_ideal_X3_told_ : GoodIn wsX3_ideal wsX3_told_ := goodIn_r _ [39, 40, 41, 8, 42] (by decide +kernel) (by decide +kernel)
set_option maxRecDepth 20000 in
theorem gX3_ideal_X3_told_ : GoodIn wsX3_ideal (va_wsS RX3 126 yX3_told_ wsX3_told_) := goodIn_app (goodIn_of _ (by decide +kernel)) ggX3_ideal_X3_told_
theorem dX3_ideal_0 : decode cX3_ideal 0 = .ok (.iload_n 1, 1) := by decide +kernel
theorem dX3_ideal_1 : decode cX3_ideal 1 = .ok (.invokestatic 48, 3) := by decide +kernel
theorem dX3_ideal_4 : decode cX3_ideal 4 = .ok (.ifCond .ne 7, 3) := by decide +kernel
theorem dX3_ideal_7 : decode cX3_ideal 7 = .ok (.ldc2_w 133, 3) := by decide +kernel
theorem dX3_ideal_10 : decode cX3_ideal 10 = .ok (.lreturn, 1) := by decide +kernel
theorem dX3_ideal_11 : decode cX3_ideal 11 = .ok (.iload_n 2, 1) := by decide +kernel
theorem dX3_ideal_12 : decode cX3_ideal 12 = .ok (.iconst 0, 1) := by decide +kernel
theorem dX3_ideal_13 : decode cX3_ideal 13 = .ok (.bipush 8, 2) := by decide +kernel
theorem dX3_ideal_15 : decode cX3_ideal 15 = .ok (.invokestatic 36, 3) := by decide +kernel
theorem dX3_ideal_18 : decode cX3_ideal 18 = .ok (.ifCond .eq 12, 3) := by decide +kernel
theorem dX3_ideal_21 : decode cX3_ideal 21 = .ok (.iload_n 3, 1) := by decide +kernel
theorem dX3_ideal_22 : decode cX3_ideal 22 = .ok (.iconst 0, 1) := by decide +kernel
theorem dX3_ideal_23 : decode cX3_ideal 23 = .ok (.iconst 1, 1) := by decide +kernel
theorem dX3_ideal_24 : decode cX3_ideal 24 = .ok (.invokestatic 36, 3) := by decide +kernel
theorem dX3_ideal_27 : decode cX3_ideal 27 = .ok (.ifCond .ne 7, 3) := by decide +kernel
theorem dX3_ideal_30 : decode cX3_ideal 30 = .ok (.ldc2_w 135, 3) := by decide +kernel
theorem dX3_ideal_33 : decode cX3_ideal 33 = .ok (.lreturn, 1) := by decide +kernel
theorem dX3_ideal_34 : decode cX3_ideal 34 = .ok (.aload_n 0, 1) := by decide +kernel
theorem dX3_ideal_35 : decode cX3_ideal 35 = .ok (.invokevirtual 137, 3) := by decide +kernel
theorem dX3_ideal_38 : decode cX3_ideal 38 = .ok (.ifCond .eq 7, 3) := by decide +kernel
theorem dX3_ideal_41 : decode cX3_ideal 41 = .ok (.ldc2_w 141, 3) := by decide +kernel
theorem dX3_ideal_44 : decode cX3_ideal 44 = .ok (.lreturn, 1) := by decide +kernel
theorem dX3_ideal_45 : decode cX3_ideal 45 = .ok (.iconst 0, 1) := by decide +kernel
theorem dX3_ideal_46 : decode cX3_ideal 46 = .ok (.istore 4, 2) := by decide +kernel
theorem dX3_ideal_48 : decode cX3_ideal 48 = .ok (.iload 4, 2) := by decide +kernel
theorem dX3_ideal_50 : decode cX3_ideal 50 = .ok (.bipush 8, 2) := by decide +kernel
theorem dX3_ideal_52 : decode cX3_ideal 52 = .ok (.if_icmp .ge 27, 3) := by decide +kernel
theorem dX3_ideal_55 : decode cX3_ideal 55 = .ok (.aload_n 0, 1) := by decide +kernel
theorem dX3_ideal_56 : decode cX3_ideal 56 = .ok (.getfield 26, 3) := by decide +kernel
theorem dX3_ideal_59 : decode cX3_ideal 59 = .ok (.iload 4, 2) := by decide +kernel
theorem dX3_ideal_61 : decode cX3_ideal 61 = .ok (.aload_n 0, 1) := by decide +kernel
theorem dX3_ideal_62 : decode cX3_ideal 62 = .ok (.getfield 7, 3) := by decide +kernel
theorem dX3_ideal_65 : decode cX3_ideal 65 = .ok (.bipush 8, 2) := by decide +kernel
theorem dX3_ideal_67 : decode cX3_ideal 67 = .ok (.iload 4, 2) := by decide +kernel
theorem dX3_ideal_69 : decode cX3_ideal 69 = .ok (.iadd, 1) := by decide +kernel
theorem dX3_ideal_70 : decode cX3_ideal 70 = .ok (.iaload, 1) := by decide +kernel
theorem dX3_ideal_71 : decode cX3_ideal 71 = .ok (.i2l, 1) := by decide +kernel
theorem dX3_ideal_72 : decode cX3_ideal 72 = .ok (.lastore, 1) := by decide +kernel
theorem dX3_ideal_73 : decode cX3_ideal 73 = .ok (.iinc 4 1, 3) := by decide +kernel
theorem dX3_ideal_76 : decode cX3_ideal 76 = .ok (.goto (-28), 3) := by decide +kernel
theorem dX3_ideal_79 : decode cX3_ideal 79 = .ok (.lconst 1, 1) := by decide +kernel
theorem dX3_ideal_80 : decode cX3_ideal 80 = .ok (.lstore 4, 2) := by decide +kernel
theorem dX3_ideal_82 : decode cX3_ideal 82 = .ok (.iconst 0, 1) := by decide +kernel
theorem dX3_ideal_83 : decode cX3_ideal 83 = .ok (.istore 6, 2) := by decide +kernel
theorem dX3_ideal_85 : decode cX3_ideal 85 = .ok (.iload 6, 2) := by decide +kernel
theorem dX3_ideal_87 : decode cX3_ideal 87 = .ok (.iload_n 2, 1) := by decide +kernel
theorem dX3_ideal_88 : decode cX3_ideal 88 = .ok (.if_icmp .ge 27, 3) := by decide +kernel
theorem dX3_ideal_91 : decode cX3_ideal 91 = .ok (.aload_n 0, 1) := by decide +kernel
theorem dX3_ideal_92 : decode cX3_ideal 92 = .ok (.aload_n 0, 1) := by decide +kernel
theorem dX3_ideal_93 : decode cX3_ideal 93 = .ok (.invokevirtual 80, 3) := by decide +kernel
theorem dX3_ideal_96 : decode cX3_ideal 96 = .ok (.invokevirtual 143, 3) := by decide +kernel
theorem dX3_ideal_99 : decode cX3_ideal 99 = .ok (.lload 4, 2) := by decide +kernel
theorem dX3_ideal_101 : decode cX3_ideal 101 = .ok (.aload_n 0, 1) := by decide +kernel
theorem dX3_ideal_102 : decode cX3_ideal 102 = .ok (.invokevirtual 80, 3) := by decide +kernel
theorem dX3_ideal_105 : decode cX3_ideal 105 = .ok (.i2l, 1) := by decide +kernel
theorem dX3_ideal_106 : decode cX3_ideal 106 = .ok (.lmul, 1) := by decide +kernel
theorem dX3_ideal_107 : decode cX3_ideal 107 = .ok (.lstore 4, 2) := by decide +kernel
theorem dX3_ideal_109 : decode cX3_ideal 109 = .ok (.iinc 6 1, 3) := by decide +kernel
theorem dX3_ideal_112 : decode cX3_ideal 112 = .ok (.goto (-27), 3) := by decide +kernel
theorem dX3_ideal_115 : decode cX3_ideal 115 = .ok (.aload_n 0, 1) := by decide +kernel
theorem dX3_ideal_116 : decode cX3_ideal 116 = .ok (.getfield 26, 3) := by decide +kernel
theorem dX3_ideal_119 : decode cX3_ideal 119 = .ok (.iload_n 1, 1) := by decide +kernel
theorem dX3_ideal_120 : decode cX3_ideal 120 = .ok (.laload, 1) := by decide +kernel
theorem dX3_ideal_121 : decode cX3_ideal 121 = .ok (.lload 4, 2) := by decide +kernel
theorem dX3_ideal_123 : decode cX3_ideal 123 = .ok (.iload_n 3, 1) := by decide +kernel
theorem dX3_ideal_124 : decode cX3_ideal 124 = .ok (.invokestatic 126, 3) := by decide +kernel
theorem dX3_ideal_127 : decode cX3_ideal 127 = .ok (.lreturn, 1) := by decide +kernel
theorem dX3_save_0 : decode cX3_save 0 = .ok (.iconst 0, 1) := by decide +kernel
theorem dX3_save_1 : decode cX3_save 1 = .ok (.istore_n 2, 1) := by decide +kernel
theorem dX3_save_2 : decode cX3_save 2 = .ok (.iload_n 2, 1) := by decide +kernel
theorem dX3_save_3 : decode cX3_save 3 = .ok (.sipush 153, 3) := by decide +kernel
theorem dX3_save_6 : decode cX3_save 6 = .ok (.if_icmp .ge 27, 3) := by decide +kernel
theorem dX3_save_9 : decode cX3_save 9 = .ok (.aload_n 0, 1) := by decide +kernel
theorem dX3_save_10 : decode cX3_save 10 = .ok (.getfield 13, 3) := by decide +kernel
theorem dX3_save_13 : decode cX3_save 13 = .ok (.sipush 153, 3) := by decide +kernel
theorem dX3_save_16 : decode cX3_save 16 = .ok (.iload_n 1, 1) := by decide +kernel
theorem dX3_save_17 : decode cX3_save 17 = .ok (.imul, 1) := by decide +kernel
theorem dX3_save_18 : decode cX3_save 18 = .ok (.iload_n 2, 1) := by decide +kernel
theorem dX3_save_19 : decode cX3_save 19 = .ok (.iadd, 1) := by decide +kernel
theorem dX3_save_20 : decode cX3_save 20 = .ok (.aload_n 0, 1) := by decide +kernel
theorem dX3_save_21 : decode cX3_save 21 = .ok (.getfield 7, 3) := by decide +kernel
theorem dX3_save_24 : decode cX3_save 24 = .ok (.iload_n 2, 1) := by decide +kernel
theorem dX3_save_25 : decode cX3_save 25 = .ok (.iaload, 1) := by decide +kernel
theorem dX3_save_26 : decode cX3_save 26 = .ok (.iastore, 1) := by decide +kernel
theorem dX3_save_27 : decode cX3_save 27 = .ok (.iinc 2 1, 3) := by decide +kernel
theorem dX3_save_30 : decode cX3_save 30 = .ok (.goto (-28), 3) := by decide +kernel
theorem dX3_save_33 : decode cX3_save 33 = .ok (.return_, 1) := by decide +kernel
theorem dX3_load_0 : decode cX3_load 0 = .ok (.iconst 0, 1) := by decide +kernel
theorem dX3_load_1 : decode cX3_load 1 = .ok (.istore_n 2, 1) := by decide +kernel
theorem dX3_load_2 : decode cX3_load 2 = .ok (.iload_n 2, 1) := by decide +kernel
theorem dX3_load_3 : decode cX3_load 3 = .ok (.sipush 153, 3) := by decide +kernel
theorem dX3_load_6 : decode cX3_load 6 = .ok (.if_icmp .ge 27, 3) := by decide +kernel
theorem dX3_load_9 : decode cX3_load 9 = .ok (.aload_n 0, 1) := by decide +kernel
theorem dX3_load_10 : decode cX3_load 10 = .ok (.getfield 7, 3) := by decide +kernel
theorem dX3_load_13 : decode cX3_load 13 = .ok (.iload_n 2, 1) := by decide +kernel
theorem dX3_load_14 : decode cX3_load 14 = .ok (.aload_n 0, 1) := by decide +kernel
theorem dX3_load_15 : decode cX3_load 15 = .ok (.getfield 13, 3) := by decide +kernel
theorem dX3_load_18 : decode cX3_load 18 = .ok (.sipush 153, 3) := by decide +kernel
theorem dX3_load_21 : decode cX3_load 21 = .ok (.iload_n 1, 1) := by decide +kernel
theorem dX3_load_22 : decode cX3_load 22 = .ok (.imul, 1) := by decide +kernel
theorem dX3_load_23 : decode cX3_load 23 = .ok (.iload_n 2, 1) := by decide +kernel
theorem dX3_load_24 : decode cX3_load 24 = .ok (.iadd, 1) := by decide +kernel
theorem dX3_load_25 : decode cX3_load 25 = .ok (.iaload, 1) := by decide +kernel
theorem dX3_load_26 : decode cX3_load 26 = .ok (.iastore, 1) := by decide +kernel
theorem dX3_load_27 : decode cX3_load 27 = .ok (.iinc 2 1, 3) := by decide +kernel
theorem dX3_load_30 : decode cX3_load 30 = .ok (.goto (-28), 3) := by decide +kernel
theorem dX3_load_33 : decode cX3_load 33 = .ok (.return_, 1) := by decide +kernel
set_option maxRecDepth 20000 in
theorem ggX3_isEven_X3_layUneven : GoodIn wsX3_isEven wsX3_layUneven := goodIn_r _ [7, 8, 1, 2, 9, 10, 11, 12, 13, 14, 15, 16, 17, 18, 19] (by decide +kernel) (by decide +kernel)
set_option maxRecDepth 20000 in
theorem gX3_isEven_X3_layUneven : GoodIn wsX3_isEven (wsV RX3 123 RX3 yX3_layUneven wsX3_layUneven) := goodIn_app (goodIn_of _ (by decide +kernel)) ggX3_isEven_X3_layUneven
theorem dX3_isEven_0 : decode cX3_isEven 0 = .ok (.aload_n 0, 1) := by decide +kernel
theorem dX3_isEven_1 : decode cX3_isEven 1 = .ok (.invokevirtual 123, 3) := by decide +kernel
theorem dX3_isEven_4 : decode cX3_isEven 4 = .ok (.aload_n 0, 1) := by decide +kernel
theorem dX3_isEven_5 : decode cX3_isEven 5 = .ok (.getfield 113, 3) := by decide +kernel
theorem dX3_isEven_8 : decode cX3_isEven 8 = .ok (.iload_n 1, 1) := by decide +kernel
theorem dX3_isEven_9 : decode cX3_isEven 9 = .ok (.aload_n 0, 1) := by decide +kernel
theorem dX3_isEven_10 : decode cX3_isEven 10 = .ok (.getfield 116, 3) := by decide +kernel
theorem dX3_isEven_13 : decode cX3_isEven 13 = .ok (.imul, 1) := by decide +kernel
theorem dX3_isEven_14 : decode cX3_isEven 14 = .ok (.if_icmp .gt 7, 3) := by decide +kernel
theorem dX3_isEven_17 : decode cX3_isEven 17 = .ok (.iconst 1, 1) := by decide +kernel
theorem dX3_isEven_18 : decode cX3_isEven 18 = .ok (.goto 4, 3) := by decide +kernel
theorem dX3_isEven_21 : decode cX3_isEven 21 = .ok (.iconst 0, 1) := by decide +kernel
theorem dX3_isEven_22 : decode cX3_isEven 22 = .ok (.ireturn, 1) := by decide +kernel
set_option maxRecDepth 20000 in
theorem ggX3_until_X3_in : GoodIn wsX3_until wsX3_in := goodIn_r _ [4] (by decide +kernel) (by decide +kernel)
set_option maxRecDepth 20000 in
theorem gX3_until_X3_in : GoodIn wsX3_until (va_wsS RX3 36 yX3_in wsX3_in) := goodIn_app (goodIn_of _ (by decide +kernel)) ggX3_until_X3_in
set_option maxRecDepth 20000 in
theorem ggX3_until_X3_save : GoodIn wsX3_until wsX3_save := goodIn_r _ [8, 9, 10, 80, 81, 82, 83, 84, 85, 86, 87, 88, 89, 90] (by decide +kernel) (by decide +kernel)
set_option maxRecDepth 20000 in
theorem gX3_until_X3_save : GoodIn wsX3_until (wsV RX3 147 RX3 yX3_save wsX3_save) := goodIn_app (goodIn_of _ (by decide +kernel)) ggX3_until_X3_save
set_option maxRecDepth 20000 in
theorem ggX3_until_X3_isEven : GoodIn wsX3_until wsX3_isEven := goodIn_r _ [14, 15, 16, 17, 18, 19, 3, 20, 10, 80, 81, 82, 83, 84, 85, 86, 87, 88, 89, 90] (by decide +kernel) (by decide +kernel)
set_option maxRecDepth 20000 in
theorem gX3_until_X3_isEven : GoodIn wsX3_until (wsV RX3 150 RX3 yX3_isEven wsX3_isEven) := goodIn_app (goodIn_of _ (by decide +kernel)) ggX3_until_X3_isEven
set_option maxRecDepth 20000 in
theorem ggX3_until_X3_round : GoodIn wsX3_until wsX3_round := goodIn_r _ [24, 10, 25, 26, 27, 3, 28, 29, 30, 31, 32, 33, 34, 35, 36, 37, 38, 39, 40, 41, 42, 43, 44, 45, 46, 47, 48, 49, 50, 51, 52, 53, 54, 55, 56, 57, 58, 59, 60, 61, 62, 63, 64, 65, 66, 67, 68, 69, 70, 71, 72, 73, 74, 75, 80, 81, 82, 83, 84, 85, 86, 87, 88, 89, 90] (by decide +kernel) (by decide +kernel)
set_option maxRecDepth 20000 in
theorem gX3_until_X3_round : GoodIn wsX3_until (wsV RX3 110 RX3 yX3_round wsX3_round) := goodIn_app (goodIn_of _ (by decide +kernel)) ggX3_until_X3_round
set_option maxRecDepth 20000 in
theorem ggX3_until_X3_load : GoodIn wsX3_until wsX3_load := goodIn_r _ [79, 10, 9, 80, 81, 82, 83, 84, 85, 86, 87, 88, 89, 90] (by decide +kernel) (by decide +kernel)
set_option maxRecDepth 20000 in
theorem gX3_until_X3_load : GoodIn wsX3_until (wsV RX3 153 RX3 yX3_load wsX3_load) := goodIn_app (goodIn_of _ (by decide +kernel)) ggX3_until_X3_load
theorem dX3_until_0 : decode cX3_until 0 = .ok (.iload_n 1, 1) := by decide +kernel
theorem dX3_until_1 : decode cX3_until 1 = .ok (.iconst 0, 1) := by decide +kernel
theorem dX3_until_2 : decode cX3_until 2 = .ok (.iconst 2, 1) := by decide +kernel
theorem dX3_until_3 : decode cX3_until 3 = .ok (.invokestatic 36, 3) := by decide +kernel
theorem dX3_until_6 : decode cX3_until 6 = .ok (.ifCond .eq 13, 3) := by decide +kernel
theorem dX3_until_9 : decode cX3_until 9 = .ok (.iload_n 2, 1) := by decide +kernel
theorem dX3_until_10 : decode cX3_until 10 = .ok (.iconst 0, 1) := by decide +kernel
theorem dX3_until_11 : decode cX3_until 11 = .ok (.bipush 99, 2) := by decide +kernel
theorem dX3_until_13 : decode cX3_until 13 = .ok (.invokestatic 36, 3) := by decide +kernel
theorem dX3_until_16 : decode cX3_until 16 = .ok (.ifCond .ne 6, 3) := by decide +kernel
theorem dX3_until_19 : decode cX3_until 19 = .ok (.bipush (-2), 2) := by decide +kernel
theorem dX3_until_21 : decode cX3_until 21 = .ok (.ireturn, 1) := by decide +kernel
theorem dX3_until_22 : decode cX3_until 22 = .ok (.aload_n 0, 1) := by decide +kernel
theorem dX3_until_23 : decode cX3_until 23 = .ok (.iconst 2, 1) := by decide +kernel
theorem dX3_until_24 : decode cX3_until 24 = .ok (.invokevirtual 147, 3) := by decide +kernel
theorem dX3_until_27 : decode cX3_until 27 = .ok (.iconst 0, 1) := by decide +kernel
theorem dX3_until_28 : decode cX3_until 28 = .ok (.istore_n 3, 1) := by decide +kernel
theorem dX3_until_29 : decode cX3_until 29 = .ok (.iload_n 3, 1) := by decide +kernel
theorem dX3_until_30 : decode cX3_until 30 = .ok (.sipush 200, 3) := by decide +kernel
theorem dX3_until_33 : decode cX3_until 33 = .ok (.if_icmp .ge 23, 3) := by decide +kernel
theorem dX3_until_36 : decode cX3_until 36 = .ok (.aload_n 0, 1) := by decide +kernel
theorem dX3_until_37 : decode cX3_until 37 = .ok (.iload_n 2, 1) := by decide +kernel
theorem dX3_until_38 : decode cX3_until 38 = .ok (.invokevirtual 150, 3) := by decide +kernel
theorem dX3_until_41 : decode cX3_until 41 = .ok (.ifCond .ne 15, 3) := by decide +kernel
theorem dX3_until_44 : decode cX3_until 44 = .ok (.aload_n 0, 1) := by decide +kernel
theorem dX3_until_45 : decode cX3_until 45 = .ok (.iload_n 1, 1) := by decide +kernel
theorem dX3_until_46 : decode cX3_until 46 = .ok (.invokevirtual 110, 3) := by decide +kernel
theorem dX3_until_49 : decode cX3_until 49 = .ok (.pop, 1) := by decide +kernel
theorem dX3_until_50 : decode cX3_until 50 = .ok (.iinc 3 1, 3) := by decide +kernel
theorem dX3_until_53 : decode cX3_until 53 = .ok (.goto (-24), 3) := by decide +kernel
theorem dX3_until_56 : decode cX3_until 56 = .ok (.aload_n 0, 1) := by decide +kernel
theorem dX3_until_57 : decode cX3_until 57 = .ok (.iload_n 2, 1) := by decide +kernel
theorem dX3_until_58 : decode cX3_until 58 = .ok (.invokevirtual 150, 3) := by decide +kernel
theorem dX3_until_61 : decode cX3_until 61 = .ok (.istore 4, 2) := by decide +kernel
theorem dX3_until_63 : decode cX3_until 63 = .ok (.aload_n 0, 1) := by decide +kernel
theorem dX3_until_64 : decode cX3_until 64 = .ok (.iconst 2, 1) := by decide +kernel
theorem dX3_until_65 : decode cX3_until 65 = .ok (.invokevirtual 153, 3) := by decide +kernel
theorem dX3_until_68 : decode cX3_until 68 = .ok (.iload 4, 2) := by decide +kernel
theorem dX3_until_70 : decode cX3_until 70 = .ok (.ifCond .eq 7, 3) := by decide +kernel
theorem dX3_until_73 : decode cX3_until 73 = .ok (.iload_n 3, 1) := by decide +kernel
theorem dX3_until_74 : decode cX3_until 74 = .ok (.goto 5, 3) := by decide +kernel
theorem dX3_until_77 : decode cX3_until 77 = .ok (.bipush (-6), 2) := by decide +kernel
theorem dX3_until_79 : decode cX3_until 79 = .ok (.ireturn, 1) := by decide +kernel
set_option maxRecDepth 20000 in
theorem ggX3_layTime_X3_edgesOf : GoodIn wsX3_layTime wsX3_edgesOf := goodIn_r _ [7, 8, 9, 10, 6, 11, 2, 12, 13, 14, 19, 20, 21, 22, 23, 24, 25, 26, 27, 28, 29] (by decide +kernel) (by decide +kernel)
set_option maxRecDepth 20000 in
theorem gX3_layTime_X3_edgesOf : GoodIn wsX3_layTime (wsV RX3 77 RX3 yX3_edgesOf wsX3_edgesOf) := goodIn_app (goodIn_of _ (by decide +kernel)) ggX3_layTime_X3_edgesOf
set_option maxRecDepth 20000 in
theorem ggX3_layTime_X3_colours : GoodIn wsX3_layTime wsX3_colours := goodIn_r _ [18, 2, 19, 20, 21, 22, 23, 24, 25, 26, 27, 28, 29] (by decide +kernel) (by decide +kernel)
set_option maxRecDepth 20000 in
theorem gX3_layTime_X3_colours : GoodIn wsX3_layTime (wsV RX3 92 RX3 yX3_colours wsX3_colours) := goodIn_app (goodIn_of _ (by decide +kernel)) ggX3_layTime_X3_colours
theorem dX3_layTime_0 : decode cX3_layTime 0 = .ok (.iconst 0, 1) := by decide +kernel
theorem dX3_layTime_1 : decode cX3_layTime 1 = .ok (.istore_n 2, 1) := by decide +kernel
theorem dX3_layTime_2 : decode cX3_layTime 2 = .ok (.iload_n 2, 1) := by decide +kernel
theorem dX3_layTime_3 : decode cX3_layTime 3 = .ok (.bipush 8, 2) := by decide +kernel
theorem dX3_layTime_5 : decode cX3_layTime 5 = .ok (.if_icmp .ge 60, 3) := by decide +kernel
theorem dX3_layTime_8 : decode cX3_layTime 8 = .ok (.aload_n 0, 1) := by decide +kernel
theorem dX3_layTime_9 : decode cX3_layTime 9 = .ok (.getfield 33, 3) := by decide +kernel
theorem dX3_layTime_12 : decode cX3_layTime 12 = .ok (.bipush 81, 2) := by decide +kernel
theorem dX3_layTime_14 : decode cX3_layTime 14 = .ok (.iload_n 1, 1) := by decide +kernel
theorem dX3_layTime_15 : decode cX3_layTime 15 = .ok (.imul, 1) := by decide +kernel
theorem dX3_layTime_16 : decode cX3_layTime 16 = .ok (.iload_n 2, 1) := by decide +kernel
theorem dX3_layTime_17 : decode cX3_layTime 17 = .ok (.iadd, 1) := by decide +kernel
theorem dX3_layTime_18 : decode cX3_layTime 18 = .ok (.aload_n 0, 1) := by decide +kernel
theorem dX3_layTime_19 : decode cX3_layTime 19 = .ok (.getfield 7, 3) := by decide +kernel
theorem dX3_layTime_22 : decode cX3_layTime 22 = .ok (.bipush 8, 2) := by decide +kernel
theorem dX3_layTime_24 : decode cX3_layTime 24 = .ok (.iload_n 2, 1) := by decide +kernel
theorem dX3_layTime_25 : decode cX3_layTime 25 = .ok (.iadd, 1) := by decide +kernel
theorem dX3_layTime_26 : decode cX3_layTime 26 = .ok (.iaload, 1) := by decide +kernel
theorem dX3_layTime_27 : decode cX3_layTime 27 = .ok (.iastore, 1) := by decide +kernel
theorem dX3_layTime_28 : decode cX3_layTime 28 = .ok (.aload_n 0, 1) := by decide +kernel
theorem dX3_layTime_29 : decode cX3_layTime 29 = .ok (.getfield 33, 3) := by decide +kernel
theorem dX3_layTime_32 : decode cX3_layTime 32 = .ok (.bipush 81, 2) := by decide +kernel
theorem dX3_layTime_34 : decode cX3_layTime 34 = .ok (.iload_n 1, 1) := by decide +kernel
theorem dX3_layTime_35 : decode cX3_layTime 35 = .ok (.imul, 1) := by decide +kernel
theorem dX3_layTime_36 : decode cX3_layTime 36 = .ok (.bipush 8, 2) := by decide +kernel
theorem dX3_layTime_38 : decode cX3_layTime 38 = .ok (.iadd, 1) := by decide +kernel
theorem dX3_layTime_39 : decode cX3_layTime 39 = .ok (.iload_n 2, 1) := by decide +kernel
theorem dX3_layTime_40 : decode cX3_layTime 40 = .ok (.iadd, 1) := by decide +kernel
theorem dX3_layTime_41 : decode cX3_layTime 41 = .ok (.aload_n 0, 1) := by decide +kernel
theorem dX3_layTime_42 : decode cX3_layTime 42 = .ok (.getfield 7, 3) := by decide +kernel
theorem dX3_layTime_45 : decode cX3_layTime 45 = .ok (.bipush 16, 2) := by decide +kernel
theorem dX3_layTime_47 : decode cX3_layTime 47 = .ok (.iload_n 2, 1) := by decide +kernel
theorem dX3_layTime_48 : decode cX3_layTime 48 = .ok (.iadd, 1) := by decide +kernel
theorem dX3_layTime_49 : decode cX3_layTime 49 = .ok (.iaload, 1) := by decide +kernel
theorem dX3_layTime_50 : decode cX3_layTime 50 = .ok (.aload_n 0, 1) := by decide +kernel
theorem dX3_layTime_51 : decode cX3_layTime 51 = .ok (.iload_n 2, 1) := by decide +kernel
theorem dX3_layTime_52 : decode cX3_layTime 52 = .ok (.invokevirtual 77, 3) := by decide +kernel
theorem dX3_layTime_55 : decode cX3_layTime 55 = .ok (.iconst 1, 1) := by decide +kernel
theorem dX3_layTime_56 : decode cX3_layTime 56 = .ok (.iadd, 1) := by decide +kernel
theorem dX3_layTime_57 : decode cX3_layTime 57 = .ok (.irem, 1) := by decide +kernel
theorem dX3_layTime_58 : decode cX3_layTime 58 = .ok (.iastore, 1) := by decide +kernel
theorem dX3_layTime_59 : decode cX3_layTime 59 = .ok (.iinc 2 1, 3) := by decide +kernel
theorem dX3_layTime_62 : decode cX3_layTime 62 = .ok (.goto (-60), 3) := by decide +kernel
theorem dX3_layTime_65 : decode cX3_layTime 65 = .ok (.iconst 0, 1) := by decide +kernel
theorem dX3_layTime_66 : decode cX3_layTime 66 = .ok (.istore_n 2, 1) := by decide +kernel
theorem dX3_layTime_67 : decode cX3_layTime 67 = .ok (.iload_n 2, 1) := by decide +kernel
theorem dX3_layTime_68 : decode cX3_layTime 68 = .ok (.bipush 64, 2) := by decide +kernel
theorem dX3_layTime_70 : decode cX3_layTime 70 = .ok (.if_icmp .ge 48, 3) := by decide +kernel
theorem dX3_layTime_73 : decode cX3_layTime 73 = .ok (.aload_n 0, 1) := by decide +kernel
theorem dX3_layTime_74 : decode cX3_layTime 74 = .ok (.getfield 33, 3) := by decide +kernel
theorem dX3_layTime_77 : decode cX3_layTime 77 = .ok (.bipush 81, 2) := by decide +kernel
theorem dX3_layTime_79 : decode cX3_layTime 79 = .ok (.iload_n 1, 1) := by decide +kernel
theorem dX3_layTime_80 : decode cX3_layTime 80 = .ok (.imul, 1) := by decide +kernel
theorem dX3_layTime_81 : decode cX3_layTime 81 = .ok (.bipush 16, 2) := by decide +kernel
theorem dX3_layTime_83 : decode cX3_layTime 83 = .ok (.iadd, 1) := by decide +kernel
theorem dX3_layTime_84 : decode cX3_layTime 84 = .ok (.iload_n 2, 1) := by decide +kernel
theorem dX3_layTime_85 : decode cX3_layTime 85 = .ok (.iadd, 1) := by decide +kernel
theorem dX3_layTime_86 : decode cX3_layTime 86 = .ok (.aload_n 0, 1) := by decide +kernel
theorem dX3_layTime_87 : decode cX3_layTime 87 = .ok (.getfield 7, 3) := by decide +kernel
theorem dX3_layTime_90 : decode cX3_layTime 90 = .ok (.bipush 24, 2) := by decide +kernel
theorem dX3_layTime_92 : decode cX3_layTime 92 = .ok (.iload_n 2, 1) := by decide +kernel
theorem dX3_layTime_93 : decode cX3_layTime 93 = .ok (.iadd, 1) := by decide +kernel
theorem dX3_layTime_94 : decode cX3_layTime 94 = .ok (.iaload, 1) := by decide +kernel
theorem dX3_layTime_95 : decode cX3_layTime 95 = .ok (.ifCond .lt 15, 3) := by decide +kernel
theorem dX3_layTime_98 : decode cX3_layTime 98 = .ok (.aload_n 0, 1) := by decide +kernel
theorem dX3_layTime_99 : decode cX3_layTime 99 = .ok (.getfield 7, 3) := by decide +kernel
theorem dX3_layTime_102 : decode cX3_layTime 102 = .ok (.bipush 88, 2) := by decide +kernel
theorem dX3_layTime_104 : decode cX3_layTime 104 = .ok (.iload_n 2, 1) := by decide +kernel
theorem dX3_layTime_105 : decode cX3_layTime 105 = .ok (.iadd, 1) := by decide +kernel
theorem dX3_layTime_106 : decode cX3_layTime 106 = .ok (.iaload, 1) := by decide +kernel
theorem dX3_layTime_107 : decode cX3_layTime 107 = .ok (.goto 4, 3) := by decide +kernel
theorem dX3_layTime_110 : decode cX3_layTime 110 = .ok (.iconst 0, 1) := by decide +kernel
theorem dX3_layTime_111 : decode cX3_layTime 111 = .ok (.iastore, 1) := by decide +kernel
theorem dX3_layTime_112 : decode cX3_layTime 112 = .ok (.iinc 2 1, 3) := by decide +kernel
theorem dX3_layTime_115 : decode cX3_layTime 115 = .ok (.goto (-48), 3) := by decide +kernel
theorem dX3_layTime_118 : decode cX3_layTime 118 = .ok (.aload_n 0, 1) := by decide +kernel
theorem dX3_layTime_119 : decode cX3_layTime 119 = .ok (.getfield 33, 3) := by decide +kernel
theorem dX3_layTime_122 : decode cX3_layTime 122 = .ok (.bipush 81, 2) := by decide +kernel
theorem dX3_layTime_124 : decode cX3_layTime 124 = .ok (.iload_n 1, 1) := by decide +kernel
theorem dX3_layTime_125 : decode cX3_layTime 125 = .ok (.imul, 1) := by decide +kernel
theorem dX3_layTime_126 : decode cX3_layTime 126 = .ok (.bipush 80, 2) := by decide +kernel
theorem dX3_layTime_128 : decode cX3_layTime 128 = .ok (.iadd, 1) := by decide +kernel
theorem dX3_layTime_129 : decode cX3_layTime 129 = .ok (.aload_n 0, 1) := by decide +kernel
theorem dX3_layTime_130 : decode cX3_layTime 130 = .ok (.getfield 7, 3) := by decide +kernel
theorem dX3_layTime_133 : decode cX3_layTime 133 = .ok (.sipush 152, 3) := by decide +kernel
theorem dX3_layTime_136 : decode cX3_layTime 136 = .ok (.iaload, 1) := by decide +kernel
theorem dX3_layTime_137 : decode cX3_layTime 137 = .ok (.aload_n 0, 1) := by decide +kernel
theorem dX3_layTime_138 : decode cX3_layTime 138 = .ok (.invokevirtual 92, 3) := by decide +kernel
theorem dX3_layTime_141 : decode cX3_layTime 141 = .ok (.irem, 1) := by decide +kernel
theorem dX3_layTime_142 : decode cX3_layTime 142 = .ok (.iastore, 1) := by decide +kernel
theorem dX3_layTime_143 : decode cX3_layTime 143 = .ok (.return_, 1) := by decide +kernel
theorem dX3_isAlike_0 : decode cX3_isAlike 0 = .ok (.iconst 0, 1) := by decide +kernel
theorem dX3_isAlike_1 : decode cX3_isAlike 1 = .ok (.istore_n 3, 1) := by decide +kernel
theorem dX3_isAlike_2 : decode cX3_isAlike 2 = .ok (.iload_n 3, 1) := by decide +kernel
theorem dX3_isAlike_3 : decode cX3_isAlike 3 = .ok (.bipush 81, 2) := by decide +kernel
theorem dX3_isAlike_5 : decode cX3_isAlike 5 = .ok (.if_icmp .ge 36, 3) := by decide +kernel
theorem dX3_isAlike_8 : decode cX3_isAlike 8 = .ok (.aload_n 0, 1) := by decide +kernel
theorem dX3_isAlike_9 : decode cX3_isAlike 9 = .ok (.getfield 33, 3) := by decide +kernel
theorem dX3_isAlike_12 : decode cX3_isAlike 12 = .ok (.bipush 81, 2) := by decide +kernel
theorem dX3_isAlike_14 : decode cX3_isAlike 14 = .ok (.iload_n 1, 1) := by decide +kernel
theorem dX3_isAlike_15 : decode cX3_isAlike 15 = .ok (.imul, 1) := by decide +kernel
theorem dX3_isAlike_16 : decode cX3_isAlike 16 = .ok (.iload_n 3, 1) := by decide +kernel
theorem dX3_isAlike_17 : decode cX3_isAlike 17 = .ok (.iadd, 1) := by decide +kernel
theorem dX3_isAlike_18 : decode cX3_isAlike 18 = .ok (.iaload, 1) := by decide +kernel
theorem dX3_isAlike_19 : decode cX3_isAlike 19 = .ok (.aload_n 0, 1) := by decide +kernel
theorem dX3_isAlike_20 : decode cX3_isAlike 20 = .ok (.getfield 33, 3) := by decide +kernel
theorem dX3_isAlike_23 : decode cX3_isAlike 23 = .ok (.bipush 81, 2) := by decide +kernel
theorem dX3_isAlike_25 : decode cX3_isAlike 25 = .ok (.iload_n 2, 1) := by decide +kernel
theorem dX3_isAlike_26 : decode cX3_isAlike 26 = .ok (.imul, 1) := by decide +kernel
theorem dX3_isAlike_27 : decode cX3_isAlike 27 = .ok (.iload_n 3, 1) := by decide +kernel
theorem dX3_isAlike_28 : decode cX3_isAlike 28 = .ok (.iadd, 1) := by decide +kernel
theorem dX3_isAlike_29 : decode cX3_isAlike 29 = .ok (.iaload, 1) := by decide +kernel
theorem dX3_isAlike_30 : decode cX3_isAlike 30 = .ok (.if_icmp .eq 5, 3) := by decide +kernel
theorem dX3_isAlike_33 : decode cX3_isAlike 33 = .ok (.iconst 0, 1) := by decide +kernel
theorem dX3_isAlike_34 : decode cX3_isAlike 34 = .ok (.ireturn, 1) := by decide +kernel
theorem dX3_isAlike_35 : decode cX3_isAlike 35 = .ok (.iinc 3 1, 3) := by decide +kernel
theorem dX3_isAlike_38 : decode cX3_isAlike 38 = .ok (.goto (-36), 3) := by decide +kernel
theorem dX3_isAlike_41 : decode cX3_isAlike 41 = .ok (.iconst 1, 1) := by decide +kernel
theorem dX3_isAlike_42 : decode cX3_isAlike 42 = .ok (.ireturn, 1) := by decide +kernel
set_option maxRecDepth 20000 in
theorem ggX3_ring_X3_in : GoodIn wsX3_ring wsX3_in := goodIn_r _ [4] (by decide +kernel) (by decide +kernel)
set_option maxRecDepth 20000 in
theorem gX3_ring_X3_in : GoodIn wsX3_ring (va_wsS RX3 36 yX3_in wsX3_in) := goodIn_app (goodIn_of _ (by decide +kernel)) ggX3_ring_X3_in
set_option maxRecDepth 20000 in
theorem ggX3_ring_X3_save : GoodIn wsX3_ring wsX3_save := goodIn_r _ [8, 9, 10, 79, 80, 81, 82, 83, 84, 85, 86, 87, 88, 89] (by decide +kernel) (by decide +kernel)
set_option maxRecDepth 20000 in
theorem gX3_ring_X3_save : GoodIn wsX3_ring (wsV RX3 147 RX3 yX3_save wsX3_save) := goodIn_app (goodIn_of _ (by decide +kernel)) ggX3_ring_X3_save
set_option maxRecDepth 20000 in
theorem ggX3_ring_X3_layTime : GoodIn wsX3_ring wsX3_layTime := goodIn_r _ [14, 15, 10, 16, 17, 18, 3, 19, 20, 21, 22, 23, 24, 25, 26, 27, 28, 29, 30, 79, 80, 81, 82, 83, 84, 85, 86, 87, 88, 89] (by decide +kernel) (by decide +kernel)
set_option maxRecDepth 20000 in
theorem gX3_ring_X3_layTime : GoodIn wsX3_ring (wsV RX3 156 RX3 yX3_layTime wsX3_layTime) := goodIn_app (goodIn_of _ (by decide +kernel)) ggX3_ring_X3_layTime
set_option maxRecDepth 20000 in
theorem ggX3_ring_X3_round : GoodIn wsX3_ring wsX3_round := goodIn_r _ [34, 10, 35, 36, 37, 3, 38, 39, 40, 41, 42, 43, 16, 17, 18, 19, 20, 21, 22, 23, 24, 25, 26, 44, 45, 46, 47, 48, 49, 50, 51, 52, 53, 54, 55, 27, 28, 29, 30, 56, 57, 58, 59, 60, 61, 62, 63, 64, 65, 66, 67, 68, 69, 70, 79, 80, 81, 82, 83, 84, 85, 86, 87, 88, 89] (by decide +kernel) (by decide +kernel)
set_option maxRecDepth 20000 in
theorem gX3_ring_X3_round : GoodIn wsX3_ring (wsV RX3 110 RX3 yX3_round wsX3_round) := goodIn_app (goodIn_of _ (by decide +kernel)) ggX3_ring_X3_round
set_option maxRecDepth 20000 in
theorem ggX3_ring_X3_load : GoodIn wsX3_ring wsX3_load := goodIn_r _ [74, 10, 9, 79, 80, 81, 82, 83, 84, 85, 86, 87, 88, 89] (by decide +kernel) (by decide +kernel)
set_option maxRecDepth 20000 in
theorem gX3_ring_X3_load : GoodIn wsX3_ring (wsV RX3 153 RX3 yX3_load wsX3_load) := goodIn_app (goodIn_of _ (by decide +kernel)) ggX3_ring_X3_load
set_option maxRecDepth 20000 in
theorem ggX3_ring_X3_isAlike : GoodIn wsX3_ring wsX3_isAlike := goodIn_r _ [78, 15, 79, 80, 81, 82, 83, 84, 85, 86, 87, 88, 89] (by decide +kernel) (by decide +kernel)
set_option maxRecDepth 20000 in
theorem gX3_ring_X3_isAlike : GoodIn wsX3_ring (wsV RX3 159 RX3 yX3_isAlike wsX3_isAlike) := goodIn_app (goodIn_of _ (by decide +kernel)) ggX3_ring_X3_isAlike
theorem dX3_ring_0 : decode cX3_ring 0 = .ok (.iload_n 1, 1) := by decide +kernel
theorem dX3_ring_1 : decode cX3_ring 1 = .ok (.iconst 0, 1) := by decide +kernel
theorem dX3_ring_2 : decode cX3_ring 2 = .ok (.iconst 2, 1) := by decide +kernel
theorem dX3_ring_3 : decode cX3_ring 3 = .ok (.invokestatic 36, 3) := by decide +kernel
theorem dX3_ring_6 : decode cX3_ring 6 = .ok (.ifCond .eq 12, 3) := by decide +kernel
theorem dX3_ring_9 : decode cX3_ring 9 = .ok (.iload_n 2, 1) := by decide +kernel
theorem dX3_ring_10 : decode cX3_ring 10 = .ok (.iconst 0, 1) := by decide +kernel
theorem dX3_ring_11 : decode cX3_ring 11 = .ok (.iconst 1, 1) := by decide +kernel
theorem dX3_ring_12 : decode cX3_ring 12 = .ok (.invokestatic 36, 3) := by decide +kernel
theorem dX3_ring_15 : decode cX3_ring 15 = .ok (.ifCond .ne 6, 3) := by decide +kernel
theorem dX3_ring_18 : decode cX3_ring 18 = .ok (.bipush (-2), 2) := by decide +kernel
theorem dX3_ring_20 : decode cX3_ring 20 = .ok (.ireturn, 1) := by decide +kernel
theorem dX3_ring_21 : decode cX3_ring 21 = .ok (.aload_n 0, 1) := by decide +kernel
theorem dX3_ring_22 : decode cX3_ring 22 = .ok (.iconst 2, 1) := by decide +kernel
theorem dX3_ring_23 : decode cX3_ring 23 = .ok (.invokevirtual 147, 3) := by decide +kernel
theorem dX3_ring_26 : decode cX3_ring 26 = .ok (.aload_n 0, 1) := by decide +kernel
theorem dX3_ring_27 : decode cX3_ring 27 = .ok (.iconst 0, 1) := by decide +kernel
theorem dX3_ring_28 : decode cX3_ring 28 = .ok (.invokevirtual 156, 3) := by decide +kernel
theorem dX3_ring_31 : decode cX3_ring 31 = .ok (.iconst 1, 1) := by decide +kernel
theorem dX3_ring_32 : decode cX3_ring 32 = .ok (.istore_n 3, 1) := by decide +kernel
theorem dX3_ring_33 : decode cX3_ring 33 = .ok (.iload_n 3, 1) := by decide +kernel
theorem dX3_ring_34 : decode cX3_ring 34 = .ok (.sipush 300, 3) := by decide +kernel
theorem dX3_ring_37 : decode cX3_ring 37 = .ok (.if_icmp .gt 20, 3) := by decide +kernel
theorem dX3_ring_40 : decode cX3_ring 40 = .ok (.aload_n 0, 1) := by decide +kernel
theorem dX3_ring_41 : decode cX3_ring 41 = .ok (.iload_n 1, 1) := by decide +kernel
theorem dX3_ring_42 : decode cX3_ring 42 = .ok (.invokevirtual 110, 3) := by decide +kernel
theorem dX3_ring_45 : decode cX3_ring 45 = .ok (.pop, 1) := by decide +kernel
theorem dX3_ring_46 : decode cX3_ring 46 = .ok (.aload_n 0, 1) := by decide +kernel
theorem dX3_ring_47 : decode cX3_ring 47 = .ok (.iload_n 3, 1) := by decide +kernel
theorem dX3_ring_48 : decode cX3_ring 48 = .ok (.invokevirtual 156, 3) := by decide +kernel
theorem dX3_ring_51 : decode cX3_ring 51 = .ok (.iinc 3 1, 3) := by decide +kernel
theorem dX3_ring_54 : decode cX3_ring 54 = .ok (.goto (-21), 3) := by decide +kernel
theorem dX3_ring_57 : decode cX3_ring 57 = .ok (.aload_n 0, 1) := by decide +kernel
theorem dX3_ring_58 : decode cX3_ring 58 = .ok (.iconst 2, 1) := by decide +kernel
theorem dX3_ring_59 : decode cX3_ring 59 = .ok (.invokevirtual 153, 3) := by decide +kernel
theorem dX3_ring_62 : decode cX3_ring 62 = .ok (.iconst 1, 1) := by decide +kernel
theorem dX3_ring_63 : decode cX3_ring 63 = .ok (.istore_n 3, 1) := by decide +kernel
theorem dX3_ring_64 : decode cX3_ring 64 = .ok (.iload_n 3, 1) := by decide +kernel
theorem dX3_ring_65 : decode cX3_ring 65 = .ok (.sipush 300, 3) := by decide +kernel
theorem dX3_ring_68 : decode cX3_ring 68 = .ok (.if_icmp .gt 52, 3) := by decide +kernel
theorem dX3_ring_71 : decode cX3_ring 71 = .ok (.iconst 0, 1) := by decide +kernel
theorem dX3_ring_72 : decode cX3_ring 72 = .ok (.istore 4, 2) := by decide +kernel
theorem dX3_ring_74 : decode cX3_ring 74 = .ok (.iload 4, 2) := by decide +kernel
theorem dX3_ring_76 : decode cX3_ring 76 = .ok (.iload_n 3, 1) := by decide +kernel
theorem dX3_ring_77 : decode cX3_ring 77 = .ok (.iadd, 1) := by decide +kernel
theorem dX3_ring_78 : decode cX3_ring 78 = .ok (.sipush 300, 3) := by decide +kernel
theorem dX3_ring_81 : decode cX3_ring 81 = .ok (.if_icmp .gt 33, 3) := by decide +kernel
theorem dX3_ring_84 : decode cX3_ring 84 = .ok (.aload_n 0, 1) := by decide +kernel
theorem dX3_ring_85 : decode cX3_ring 85 = .ok (.iload 4, 2) := by decide +kernel
theorem dX3_ring_87 : decode cX3_ring 87 = .ok (.iload 4, 2) := by decide +kernel
theorem dX3_ring_89 : decode cX3_ring 89 = .ok (.iload_n 3, 1) := by decide +kernel
theorem dX3_ring_90 : decode cX3_ring 90 = .ok (.iadd, 1) := by decide +kernel
theorem dX3_ring_91 : decode cX3_ring 91 = .ok (.invokevirtual 159, 3) := by decide +kernel
theorem dX3_ring_94 : decode cX3_ring 94 = .ok (.ifCond .eq 14, 3) := by decide +kernel
theorem dX3_ring_97 : decode cX3_ring 97 = .ok (.iload_n 2, 1) := by decide +kernel
theorem dX3_ring_98 : decode cX3_ring 98 = .ok (.ifCond .ne 8, 3) := by decide +kernel
theorem dX3_ring_101 : decode cX3_ring 101 = .ok (.iload 4, 2) := by decide +kernel
theorem dX3_ring_103 : decode cX3_ring 103 = .ok (.goto 4, 3) := by decide +kernel
theorem dX3_ring_106 : decode cX3_ring 106 = .ok (.iload_n 3, 1) := by decide +kernel
theorem dX3_ring_107 : decode cX3_ring 107 = .ok (.ireturn, 1) := by decide +kernel
theorem dX3_ring_108 : decode cX3_ring 108 = .ok (.iinc 4 1, 3) := by decide +kernel
theorem dX3_ring_111 : decode cX3_ring 111 = .ok (.goto (-37), 3) := by decide +kernel
theorem dX3_ring_114 : decode cX3_ring 114 = .ok (.iinc 3 1, 3) := by decide +kernel
theorem dX3_ring_117 : decode cX3_ring 117 = .ok (.goto (-53), 3) := by decide +kernel
theorem dX3_ring_120 : decode cX3_ring 120 = .ok (.bipush (-6), 2) := by decide +kernel
theorem dX3_ring_122 : decode cX3_ring 122 = .ok (.ireturn, 1) := by decide +kernel
set_option maxRecDepth 20000 in
theorem ggX3_image_X3_in : GoodIn wsX3_image wsX3_in := goodIn_r _ [5] (by decide +kernel) (by decide +kernel)
set_option maxRecDepth 20000 in
theorem gX3_image_X3_in : GoodIn wsX3_image (va_wsS RX3 36 yX3_in wsX3_in) := goodIn_app (goodIn_of _ (by decide +kernel)) ggX3_image_X3_in
set_option maxRecDepth 20000 in
theorem ggX3_image_X3_save : GoodIn wsX3_image wsX3_save := goodIn_r _ [9, 10, 11, 12, 13, 14, 15, 16, 17, 18, 19, 20, 21, 22] (by decide +kernel) (by decide +kernel)
set_option maxRecDepth 20000 in
theorem gX3_image_X3_save : GoodIn wsX3_image (wsV RX3 147 RX3 yX3_save wsX3_save) := goodIn_app (goodIn_of _ (by decide +kernel)) ggX3_image_X3_save
theorem dX3_image_0 : decode cX3_image 0 = .ok (.iload_n 1, 1) := by decide +kernel
theorem dX3_image_1 : decode cX3_image 1 = .ok (.iconst 0, 1) := by decide +kernel
theorem dX3_image_2 : decode cX3_image 2 = .ok (.iconst 1, 1) := by decide +kernel
theorem dX3_image_3 : decode cX3_image 3 = .ok (.invokestatic 36, 3) := by decide +kernel
theorem dX3_image_6 : decode cX3_image 6 = .ok (.ifCond .ne 6, 3) := by decide +kernel
theorem dX3_image_9 : decode cX3_image 9 = .ok (.bipush (-2), 2) := by decide +kernel
theorem dX3_image_11 : decode cX3_image 11 = .ok (.ireturn, 1) := by decide +kernel
theorem dX3_image_12 : decode cX3_image 12 = .ok (.aload_n 0, 1) := by decide +kernel
theorem dX3_image_13 : decode cX3_image 13 = .ok (.iload_n 1, 1) := by decide +kernel
theorem dX3_image_14 : decode cX3_image 14 = .ok (.invokevirtual 147, 3) := by decide +kernel
theorem dX3_image_17 : decode cX3_image 17 = .ok (.aload_n 0, 1) := by decide +kernel
theorem dX3_image_18 : decode cX3_image 18 = .ok (.getfield 16, 3) := by decide +kernel
theorem dX3_image_21 : decode cX3_image 21 = .ok (.iload_n 1, 1) := by decide +kernel
theorem dX3_image_22 : decode cX3_image 22 = .ok (.iconst 1, 1) := by decide +kernel
theorem dX3_image_23 : decode cX3_image 23 = .ok (.bastore, 1) := by decide +kernel
theorem dX3_image_24 : decode cX3_image 24 = .ok (.iconst 1, 1) := by decide +kernel
theorem dX3_image_25 : decode cX3_image 25 = .ok (.ireturn, 1) := by decide +kernel
set_option maxRecDepth 20000 in
theorem ggX3_restore_X3_in : GoodIn wsX3_restore wsX3_in := goodIn_r _ [5] (by decide +kernel) (by decide +kernel)
set_option maxRecDepth 20000 in
theorem gX3_restore_X3_in : GoodIn wsX3_restore (va_wsS RX3 36 yX3_in wsX3_in) := goodIn_app (goodIn_of _ (by decide +kernel)) ggX3_restore_X3_in
set_option maxRecDepth 20000 in
theorem ggX3_restore_X3_load : GoodIn wsX3_restore wsX3_load := goodIn_r _ [9, 10, 11, 12, 13, 14, 15, 16, 17, 18, 19, 20, 21, 22] (by decide +kernel) (by decide +kernel)
set_option maxRecDepth 20000 in
theorem gX3_restore_X3_load : GoodIn wsX3_restore (wsV RX3 153 RX3 yX3_load wsX3_load) := goodIn_app (goodIn_of _ (by decide +kernel)) ggX3_restore_X3_load
theorem dX3_restore_0 : decode cX3_restore 0 = .ok (.iload_n 1, 1) := by decide +kernel
theorem dX3_restore_1 : decode cX3_restore 1 = .ok (.iconst 0, 1) := by decide +kernel
theorem dX3_restore_2 : decode cX3_restore 2 = .ok (.iconst 1, 1) := by decide +kernel
theorem dX3_restore_3 : decode cX3_restore 3 = .ok (.invokestatic 36, 3) := by decide +kernel
theorem dX3_restore_6 : decode cX3_restore 6 = .ok (.ifCond .ne 6, 3) := by decide +kernel
theorem dX3_restore_9 : decode cX3_restore 9 = .ok (.bipush (-2), 2) := by decide +kernel
theorem dX3_restore_11 : decode cX3_restore 11 = .ok (.ireturn, 1) := by decide +kernel
theorem dX3_restore_12 : decode cX3_restore 12 = .ok (.aload_n 0, 1) := by decide +kernel
theorem dX3_restore_13 : decode cX3_restore 13 = .ok (.getfield 16, 3) := by decide +kernel
theorem dX3_restore_16 : decode cX3_restore 16 = .ok (.iload_n 1, 1) := by decide +kernel
theorem dX3_restore_17 : decode cX3_restore 17 = .ok (.baload, 1) := by decide +kernel
theorem dX3_restore_18 : decode cX3_restore 18 = .ok (.ifCond .ne 6, 3) := by decide +kernel
theorem dX3_restore_21 : decode cX3_restore 21 = .ok (.bipush (-3), 2) := by decide +kernel
theorem dX3_restore_23 : decode cX3_restore 23 = .ok (.ireturn, 1) := by decide +kernel
theorem dX3_restore_24 : decode cX3_restore 24 = .ok (.aload_n 0, 1) := by decide +kernel
theorem dX3_restore_25 : decode cX3_restore 25 = .ok (.iload_n 1, 1) := by decide +kernel
theorem dX3_restore_26 : decode cX3_restore 26 = .ok (.invokevirtual 153, 3) := by decide +kernel
theorem dX3_restore_29 : decode cX3_restore 29 = .ok (.iconst 1, 1) := by decide +kernel
theorem dX3_restore_30 : decode cX3_restore 30 = .ok (.ireturn, 1) := by decide +kernel
theorem dX3_below_0 : decode cX3_below 0 = .ok (.iconst 0, 1) := by decide +kernel
theorem dX3_below_1 : decode cX3_below 1 = .ok (.istore_n 1, 1) := by decide +kernel
theorem dX3_below_2 : decode cX3_below 2 = .ok (.iconst 0, 1) := by decide +kernel
theorem dX3_below_3 : decode cX3_below 3 = .ok (.istore_n 2, 1) := by decide +kernel
theorem dX3_below_4 : decode cX3_below 4 = .ok (.iload_n 2, 1) := by decide +kernel
theorem dX3_below_5 : decode cX3_below 5 = .ok (.bipush 8, 2) := by decide +kernel
theorem dX3_below_7 : decode cX3_below 7 = .ok (.if_icmp .ge 29, 3) := by decide +kernel
theorem dX3_below_10 : decode cX3_below 10 = .ok (.iload_n 1, 1) := by decide +kernel
theorem dX3_below_11 : decode cX3_below 11 = .ok (.aload_n 0, 1) := by decide +kernel
theorem dX3_below_12 : decode cX3_below 12 = .ok (.getfield 7, 3) := by decide +kernel
theorem dX3_below_15 : decode cX3_below 15 = .ok (.bipush 8, 2) := by decide +kernel
theorem dX3_below_17 : decode cX3_below 17 = .ok (.iload_n 2, 1) := by decide +kernel
theorem dX3_below_18 : decode cX3_below 18 = .ok (.iadd, 1) := by decide +kernel
theorem dX3_below_19 : decode cX3_below 19 = .ok (.iaload, 1) := by decide +kernel
theorem dX3_below_20 : decode cX3_below 20 = .ok (.ifCond .ge 7, 3) := by decide +kernel
theorem dX3_below_23 : decode cX3_below 23 = .ok (.iconst 1, 1) := by decide +kernel
theorem dX3_below_24 : decode cX3_below 24 = .ok (.goto 4, 3) := by decide +kernel
theorem dX3_below_27 : decode cX3_below 27 = .ok (.iconst 0, 1) := by decide +kernel
theorem dX3_below_28 : decode cX3_below 28 = .ok (.iadd, 1) := by decide +kernel
theorem dX3_below_29 : decode cX3_below 29 = .ok (.istore_n 1, 1) := by decide +kernel
theorem dX3_below_30 : decode cX3_below 30 = .ok (.iinc 2 1, 3) := by decide +kernel
theorem dX3_below_33 : decode cX3_below 33 = .ok (.goto (-29), 3) := by decide +kernel
theorem dX3_below_36 : decode cX3_below 36 = .ok (.iload_n 1, 1) := by decide +kernel
theorem dX3_below_37 : decode cX3_below 37 = .ok (.ireturn, 1) := by decide +kernel
set_option maxRecDepth 20000 in
theorem ggX3_count_X3_edges : GoodIn wsX3_count wsX3_edges := goodIn_r _ [8, 2, 36, 37, 38, 39, 40, 41, 42, 43, 44, 45, 46] (by decide +kernel) (by decide +kernel)
set_option maxRecDepth 20000 in
theorem gX3_count_X3_edges : GoodIn wsX3_count (wsV RX3 52 RX3 yX3_edges wsX3_edges) := goodIn_app (goodIn_of _ (by decide +kernel)) ggX3_count_X3_edges
set_option maxRecDepth 20000 in
theorem ggX3_count_X3_sumOf : GoodIn wsX3_count wsX3_sumOf := goodIn_r _ [12, 2, 36, 37, 38, 39, 40, 41, 42, 43, 44, 45, 46] (by decide +kernel) (by decide +kernel)
set_option maxRecDepth 20000 in
theorem gX3_count_X3_sumOf : GoodIn wsX3_count (wsV RX3 130 RX3 yX3_sumOf wsX3_sumOf) := goodIn_app (goodIn_of _ (by decide +kernel)) ggX3_count_X3_sumOf
set_option maxRecDepth 20000 in
theorem ggX3_count_X3_measure : GoodIn wsX3_count wsX3_measure := goodIn_r _ [16, 17, 18, 19, 7, 20, 21, 22, 23, 24, 2, 25, 26, 27, 36, 37, 38, 39, 40, 41, 42, 43, 44, 45, 46] (by decide +kernel) (by decide +kernel)
set_option maxRecDepth 20000 in
theorem gX3_count_X3_measure : GoodIn wsX3_count (wsV RX3 80 RX3 yX3_measure wsX3_measure) := goodIn_app (goodIn_of _ (by decide +kernel)) ggX3_count_X3_measure
set_option maxRecDepth 20000 in
theorem ggX3_count_X3_colours : GoodIn wsX3_count wsX3_colours := goodIn_r _ [31, 2, 36, 37, 38, 39, 40, 41, 42, 43, 44, 45, 46] (by decide +kernel) (by decide +kernel)
set_option maxRecDepth 20000 in
theorem gX3_count_X3_colours : GoodIn wsX3_count (wsV RX3 92 RX3 yX3_colours wsX3_colours) := goodIn_app (goodIn_of _ (by decide +kernel)) ggX3_count_X3_colours
set_option maxRecDepth 20000 in
theorem ggX3_count_X3_below : GoodIn wsX3_count wsX3_below := goodIn_r _ [35, 2, 36, 37, 38, 39, 40, 41, 42, 43, 44, 45, 46] (by decide +kernel) (by decide +kernel)
set_option maxRecDepth 20000 in
theorem gX3_count_X3_below : GoodIn wsX3_count (wsV RX3 162 RX3 yX3_below wsX3_below) := goodIn_app (goodIn_of _ (by decide +kernel)) ggX3_count_X3_below
theorem dX3_count_0 : decode cX3_count 0 = .ok (.iload_n 1, 1) := by decide +kernel
theorem dX3_count_1 : decode cX3_count 1 = .ok (.tableswitch 122 0 7 #[47, 52, 57, 66, 77, 82, 87, 92], 47) := by decide +kernel
theorem dX3_count_48 : decode cX3_count 48 = .ok (.aload_n 0, 1) := by decide +kernel
theorem dX3_count_49 : decode cX3_count 49 = .ok (.invokevirtual 52, 3) := by decide +kernel
theorem dX3_count_52 : decode cX3_count 52 = .ok (.ireturn, 1) := by decide +kernel
theorem dX3_count_53 : decode cX3_count 53 = .ok (.aload_n 0, 1) := by decide +kernel
theorem dX3_count_54 : decode cX3_count 54 = .ok (.getfield 60, 3) := by decide +kernel
theorem dX3_count_57 : decode cX3_count 57 = .ok (.ireturn, 1) := by decide +kernel
theorem dX3_count_58 : decode cX3_count 58 = .ok (.aload_n 0, 1) := by decide +kernel
theorem dX3_count_59 : decode cX3_count 59 = .ok (.getfield 7, 3) := by decide +kernel
theorem dX3_count_62 : decode cX3_count 62 = .ok (.sipush 152, 3) := by decide +kernel
theorem dX3_count_65 : decode cX3_count 65 = .ok (.iaload, 1) := by decide +kernel
theorem dX3_count_66 : decode cX3_count 66 = .ok (.ireturn, 1) := by decide +kernel
theorem dX3_count_67 : decode cX3_count 67 = .ok (.aload_n 0, 1) := by decide +kernel
theorem dX3_count_68 : decode cX3_count 68 = .ok (.bipush 8, 2) := by decide +kernel
theorem dX3_count_70 : decode cX3_count 70 = .ok (.invokevirtual 130, 3) := by decide +kernel
theorem dX3_count_73 : decode cX3_count 73 = .ok (.sipush 10000, 3) := by decide +kernel
theorem dX3_count_76 : decode cX3_count 76 = .ok (.iadd, 1) := by decide +kernel
theorem dX3_count_77 : decode cX3_count 77 = .ok (.ireturn, 1) := by decide +kernel
theorem dX3_count_78 : decode cX3_count 78 = .ok (.aload_n 0, 1) := by decide +kernel
theorem dX3_count_79 : decode cX3_count 79 = .ok (.invokevirtual 80, 3) := by decide +kernel
theorem dX3_count_82 : decode cX3_count 82 = .ok (.ireturn, 1) := by decide +kernel
theorem dX3_count_83 : decode cX3_count 83 = .ok (.aload_n 0, 1) := by decide +kernel
theorem dX3_count_84 : decode cX3_count 84 = .ok (.invokevirtual 92, 3) := by decide +kernel
theorem dX3_count_87 : decode cX3_count 87 = .ok (.ireturn, 1) := by decide +kernel
theorem dX3_count_88 : decode cX3_count 88 = .ok (.aload_n 0, 1) := by decide +kernel
theorem dX3_count_89 : decode cX3_count 89 = .ok (.invokevirtual 162, 3) := by decide +kernel
theorem dX3_count_92 : decode cX3_count 92 = .ok (.ireturn, 1) := by decide +kernel
theorem dX3_count_93 : decode cX3_count 93 = .ok (.aload_n 0, 1) := by decide +kernel
theorem dX3_count_94 : decode cX3_count 94 = .ok (.getfield 16, 3) := by decide +kernel
theorem dX3_count_97 : decode cX3_count 97 = .ok (.iconst 0, 1) := by decide +kernel
theorem dX3_count_98 : decode cX3_count 98 = .ok (.baload, 1) := by decide +kernel
theorem dX3_count_99 : decode cX3_count 99 = .ok (.ifCond .eq 7, 3) := by decide +kernel
theorem dX3_count_102 : decode cX3_count 102 = .ok (.iconst 1, 1) := by decide +kernel
theorem dX3_count_103 : decode cX3_count 103 = .ok (.goto 4, 3) := by decide +kernel
theorem dX3_count_106 : decode cX3_count 106 = .ok (.iconst 0, 1) := by decide +kernel
theorem dX3_count_107 : decode cX3_count 107 = .ok (.aload_n 0, 1) := by decide +kernel
theorem dX3_count_108 : decode cX3_count 108 = .ok (.getfield 16, 3) := by decide +kernel
theorem dX3_count_111 : decode cX3_count 111 = .ok (.iconst 1, 1) := by decide +kernel
theorem dX3_count_112 : decode cX3_count 112 = .ok (.baload, 1) := by decide +kernel
theorem dX3_count_113 : decode cX3_count 113 = .ok (.ifCond .eq 7, 3) := by decide +kernel
theorem dX3_count_116 : decode cX3_count 116 = .ok (.iconst 2, 1) := by decide +kernel
theorem dX3_count_117 : decode cX3_count 117 = .ok (.goto 4, 3) := by decide +kernel
theorem dX3_count_120 : decode cX3_count 120 = .ok (.iconst 0, 1) := by decide +kernel
theorem dX3_count_121 : decode cX3_count 121 = .ok (.iadd, 1) := by decide +kernel
theorem dX3_count_122 : decode cX3_count 122 = .ok (.ireturn, 1) := by decide +kernel
theorem dX3_count_123 : decode cX3_count 123 = .ok (.bipush (-2), 2) := by decide +kernel
theorem dX3_count_125 : decode cX3_count 125 = .ok (.ireturn, 1) := by decide +kernel
end
section
theorem dJ9_floorDiv_7cf53_0 : decode cJ9_floorDiv_7cf53 0 = .ok (.iload_n 0, 1) := by decide +kernel
theorem dJ9_floorDiv_7cf53_1 : decode cJ9_floorDiv_7cf53 1 = .ok (.iload_n 1, 1) := by decide +kernel
theorem dJ9_floorDiv_7cf53_2 : decode cJ9_floorDiv_7cf53 2 = .ok (.idiv, 1) := by decide +kernel
theorem dJ9_floorDiv_7cf53_3 : decode cJ9_floorDiv_7cf53 3 = .ok (.istore_n 2, 1) := by decide +kernel
theorem dJ9_floorDiv_7cf53_4 : decode cJ9_floorDiv_7cf53 4 = .ok (.iload_n 0, 1) := by decide +kernel
theorem dJ9_floorDiv_7cf53_5 : decode cJ9_floorDiv_7cf53 5 = .ok (.iload_n 1, 1) := by decide +kernel
theorem dJ9_floorDiv_7cf53_6 : decode cJ9_floorDiv_7cf53 6 = .ok (.ixor, 1) := by decide +kernel
theorem dJ9_floorDiv_7cf53_7 : decode cJ9_floorDiv_7cf53 7 = .ok (.ifCond .ge 14, 3) := by decide +kernel
theorem dJ9_floorDiv_7cf53_10 : decode cJ9_floorDiv_7cf53 10 = .ok (.iload_n 2, 1) := by decide +kernel
theorem dJ9_floorDiv_7cf53_11 : decode cJ9_floorDiv_7cf53 11 = .ok (.iload_n 1, 1) := by decide +kernel
theorem dJ9_floorDiv_7cf53_12 : decode cJ9_floorDiv_7cf53 12 = .ok (.imul, 1) := by decide +kernel
theorem dJ9_floorDiv_7cf53_13 : decode cJ9_floorDiv_7cf53 13 = .ok (.iload_n 0, 1) := by decide +kernel
theorem dJ9_floorDiv_7cf53_14 : decode cJ9_floorDiv_7cf53 14 = .ok (.if_icmp .eq 7, 3) := by decide +kernel
theorem dJ9_floorDiv_7cf53_17 : decode cJ9_floorDiv_7cf53 17 = .ok (.iload_n 2, 1) := by decide +kernel
theorem dJ9_floorDiv_7cf53_18 : decode cJ9_floorDiv_7cf53 18 = .ok (.iconst 1, 1) := by decide +kernel
theorem dJ9_floorDiv_7cf53_19 : decode cJ9_floorDiv_7cf53 19 = .ok (.isub, 1) := by decide +kernel
theorem dJ9_floorDiv_7cf53_20 : decode cJ9_floorDiv_7cf53 20 = .ok (.ireturn, 1) := by decide +kernel
theorem dJ9_floorDiv_7cf53_21 : decode cJ9_floorDiv_7cf53 21 = .ok (.iload_n 2, 1) := by decide +kernel
theorem dJ9_floorDiv_7cf53_22 : decode cJ9_floorDiv_7cf53 22 = .ok (.ireturn, 1) := by decide +kernel
theorem dJ9_abs_0f7a4_0 : decode cJ9_abs_0f7a4 0 = .ok (.iload_n 0, 1) := by decide +kernel
theorem dJ9_abs_0f7a4_1 : decode cJ9_abs_0f7a4 1 = .ok (.ifCond .ge 8, 3) := by decide +kernel
theorem dJ9_abs_0f7a4_4 : decode cJ9_abs_0f7a4 4 = .ok (.iload_n 0, 1) := by decide +kernel
theorem dJ9_abs_0f7a4_5 : decode cJ9_abs_0f7a4 5 = .ok (.ineg, 1) := by decide +kernel
theorem dJ9_abs_0f7a4_6 : decode cJ9_abs_0f7a4 6 = .ok (.goto 4, 3) := by decide +kernel
theorem dJ9_abs_0f7a4_9 : decode cJ9_abs_0f7a4 9 = .ok (.iload_n 0, 1) := by decide +kernel
theorem dJ9_abs_0f7a4_10 : decode cJ9_abs_0f7a4 10 = .ok (.ireturn, 1) := by decide +kernel
theorem dJ9_abs_067f4_0 : decode cJ9_abs_067f4 0 = .ok (.lload_n 0, 1) := by decide +kernel
theorem dJ9_abs_067f4_1 : decode cJ9_abs_067f4 1 = .ok (.lconst 0, 1) := by decide +kernel
theorem dJ9_abs_067f4_2 : decode cJ9_abs_067f4 2 = .ok (.lcmp, 1) := by decide +kernel
theorem dJ9_abs_067f4_3 : decode cJ9_abs_067f4 3 = .ok (.ifCond .ge 8, 3) := by decide +kernel
theorem dJ9_abs_067f4_6 : decode cJ9_abs_067f4 6 = .ok (.lload_n 0, 1) := by decide +kernel
theorem dJ9_abs_067f4_7 : decode cJ9_abs_067f4 7 = .ok (.lneg, 1) := by decide +kernel
theorem dJ9_abs_067f4_8 : decode cJ9_abs_067f4 8 = .ok (.goto 4, 3) := by decide +kernel
theorem dJ9_abs_067f4_11 : decode cJ9_abs_067f4 11 = .ok (.lload_n 0, 1) := by decide +kernel
theorem dJ9_abs_067f4_12 : decode cJ9_abs_067f4 12 = .ok (.lreturn, 1) := by decide +kernel
theorem dJ9_max_7cf53_0 : decode cJ9_max_7cf53 0 = .ok (.iload_n 0, 1) := by decide +kernel
theorem dJ9_max_7cf53_1 : decode cJ9_max_7cf53 1 = .ok (.iload_n 1, 1) := by decide +kernel
theorem dJ9_max_7cf53_2 : decode cJ9_max_7cf53 2 = .ok (.if_icmp .lt 7, 3) := by decide +kernel
theorem dJ9_max_7cf53_5 : decode cJ9_max_7cf53 5 = .ok (.iload_n 0, 1) := by decide +kernel
theorem dJ9_max_7cf53_6 : decode cJ9_max_7cf53 6 = .ok (.goto 4, 3) := by decide +kernel
theorem dJ9_max_7cf53_9 : decode cJ9_max_7cf53 9 = .ok (.iload_n 1, 1) := by decide +kernel
theorem dJ9_max_7cf53_10 : decode cJ9_max_7cf53 10 = .ok (.ireturn, 1) := by decide +kernel
end
section
/-! ===== the pure heap of the whole system: block, row, place; and the world it stands for ===== -/
abbrev vwCl : List vw_C := [(RX0, TX0, 9), (RX1, TX1, 2), (RX2, TX2, 9), (RX3, TX3, 11)]
/-- ints (arrays and int fields) and longs, by block, row, place -/
abbrev jp_H : Type := (Nat → Nat → Nat → Int32) × (Nat → Nat → Nat → Int64)
/-- classes and slots, addresses by block and row, the classes of int[], long[], boolean[] -/
abbrev jp_E : Type := va_G × (Nat → Nat → Nat) × ClassId × ClassId × ClassId

def jp_ix : List (Nat × Nat) := [(0, 0), (1, 0), (1, 1), (2, 0), (2, 1), (2, 2), (2, 3), (2, 4), (2, 5), (2, 6), (2, 7), (3, 0), (3, 1), (3, 2), (3, 3), (3, 4), (3, 5), (3, 6), (3, 7), (4, 0), (4, 1), (4, 2), (4, 3), (4, 4), (4, 5), (4, 6), (4, 7), (5, 0), (5, 1), (5, 2), (5, 3), (5, 4), (5, 5), (5, 6), (5, 7), (6, 0), (6, 1), (6, 2), (6, 3), (6, 4), (6, 5), (6, 6), (6, 7), (0, 1), (0, 2), (7, 0), (7, 1), (7, 2), (7, 3), (7, 4), (7, 5), (7, 6), (7, 7), (7, 8)]
def jp_nl (r : Nat) : Nat := match r with
  | 5 => 64
  | 6 => 64
  | _ => 8
def jp_ml (r : Nat) : Nat := match r with
  | 1 => 153
  | 2 => 459
  | 4 => 40
  | 5 => 8
  | _ => 24381
/-- the fields of a Net, of the Pad, of the JobSpread, of the Model -/
def jp_f0 (b : Nat) (E : jp_E) (h : jp_H) : List Value := [.ref (E.2.1 b 1), .ref (E.2.1 b 2), .ref (E.2.1 b 3), .ref (E.2.1 b 4), .ref (E.2.1 b 5), .ref (E.2.1 b 6), .ref (E.2.1 b 7), .int (h.1 b 0 7), .int (h.1 b 0 8)]
def jp_f1 (E : jp_E) (h : jp_H) : List Value := [.ref (E.2.1 1 1), .int (h.1 1 0 1)]
def jp_f2 (E : jp_E) (h : jp_H) : List Value := [.ref (E.2.1 1 0), .ref (E.2.1 2 0), .ref (E.2.1 3 0), .ref (E.2.1 4 0), .int (h.1 0 0 4), .ref (E.2.1 5 0), .ref (E.2.1 6 0), .ref (E.2.1 0 1), .ref (E.2.1 0 2)]
def jp_f3 (E : jp_E) (h : jp_H) : List Value := [.ref (E.2.1 7 1), .ref (E.2.1 7 2), .ref (E.2.1 7 3), .ref (E.2.1 7 4), .int (h.1 7 0 4), .ref (E.2.1 7 5), .int (h.1 7 0 6), .int (h.1 7 0 7), .ref (E.2.1 7 6), .ref (E.2.1 7 7), .ref (E.2.1 7 8)]
def jp_c (E : jp_E) (h : jp_H) (b r : Nat) : va_E := match b, r with
  | 0, 0 => .inr (2, jp_f2 E h)
  | 0, r => .inl (E.2.2.2.1, 8, .inr (.inl (h.2 0 r)))
  | 1, 0 => .inr (1, jp_f1 E h)
  | 1, r => .inl (E.2.2.1, 40, .inl (h.1 1 r))
  | 7, 0 => .inr (3, jp_f3 E h)
  | 7, 3 => .inl (E.2.2.2.2, 2, .inl (h.1 7 3))
  | 7, 6 => .inl (E.2.2.2.1, 8, .inr (.inl (h.2 7 6)))
  | 7, 7 => .inl (E.2.2.2.1, 8, .inr (.inl (h.2 7 7)))
  | 7, r => .inl (E.2.2.1, jp_ml r, .inl (h.1 7 r))
  | b, 0 => .inr (0, jp_f0 b E h)
  | b, r => .inl (E.2.2.1, jp_nl r, .inl (h.1 b r))
def jp_w (E : jp_E) (h : jp_H) : va_W := jp_ix.map (fun q => (E.2.1 q.1 q.2, jp_c E h q.1 q.2))
/-- the cells' addresses are apart -/
def jp_I (E : jp_E) : Prop := ∀ (i j : Nat) (p q : Nat × Nat), jp_ix[i]? = some p → jp_ix[j]? = some q → E.2.1 p.1 p.2 = E.2.1 q.1 q.2 → i = j
def jp_A (E : jp_E) : Nat → Prop := fun a => ∃ q ∈ jp_ix, a = E.2.1 q.1 q.2
def jp_T (E : jp_E) : List (ClassId × FieldType) := [(E.2.2.1, .int), (E.2.2.2.1, .long), (E.2.2.2.2, .boolean)]
theorem jp_w_get {E : jp_E} {h : jp_H} {b r i : Nat} (hi : jp_ix[i]? = some (b, r)) : (jp_w E h)[i]? = some (E.2.1 b r, jp_c E h b r) := by
  unfold jp_w
  rw [List.getElem?_map, hi]
  rfl
theorem jp_w_inv {E : jp_E} {h : jp_H} {i : Nat} {p : Nat × va_E} (hi : (jp_w E h)[i]? = some p) : ∃ q : Nat × Nat, jp_ix[i]? = some q ∧ p = (E.2.1 q.1 q.2, jp_c E h q.1 q.2) := by
  unfold jp_w at hi
  rw [List.getElem?_map] at hi
  cases hq : jp_ix[i]? with
  | none => rw [hq] at hi; cases hi
  | some q => rw [hq] at hi; exact ⟨q, rfl, (Option.some.inj hi).symm⟩
theorem jp_D {E : jp_E} (hI : jp_I E) (h : jp_H) : va_D (jp_A E) (jp_w E h) := by
  refine ⟨fun i j p q hi hj hpq => ?_, fun k q hk => ?_⟩
  · obtain ⟨p', h1, rfl⟩ := jp_w_inv hi
    obtain ⟨q', h2, rfl⟩ := jp_w_inv hj
    exact hI i j p' q' h1 h2 hpq
  · obtain ⟨q', h2, rfl⟩ := jp_w_inv hk
    exact ⟨q', List.mem_of_getElem? h2, rfl⟩
theorem jp_c_congr {E : jp_E} {h h' : jp_H} {b r : Nat} (h1 : h.1 b r = h'.1 b r) (h2 : h.2 b r = h'.2 b r) : jp_c E h b r = jp_c E h' b r := by
  unfold jp_c jp_f0 jp_f1 jp_f2 jp_f3
  split <;> simp_all
theorem jp_ix_nd : jp_ix.Nodup := by decide
theorem jp_w_set {E : jp_E} {h h' : jp_H} {b r i : Nat} {e : va_E} (hi : jp_ix[i]? = some (b, r)) (he : jp_c E h' b r = e) (h1 : ∀ b' r', ¬ (b' = b ∧ r' = r) → h.1 b' r' = h'.1 b' r') (h2 : ∀ b' r', ¬ (b' = b ∧ r' = r) → h.2 b' r' = h'.2 b' r') : (jp_w E h).set i (E.2.1 b r, e) = jp_w E h' := by
  have hl : i < jp_ix.length := (List.getElem?_eq_some_iff.mp hi).1
  apply List.ext_getElem?
  intro j
  by_cases hj : j = i
  · subst hj
    rw [List.getElem?_set_self (by unfold jp_w; rw [List.length_map]; exact hl), jp_w_get hi, he]
  · rw [List.getElem?_set_ne (Ne.symm hj)]
    unfold jp_w
    rw [List.getElem?_map, List.getElem?_map]
    cases hq : jp_ix[j]? with
    | none => rfl
    | some q =>
      have hne : ¬ (q.1 = b ∧ q.2 = r) := by
        rintro ⟨e1, e2⟩
        have hq' : jp_ix[j]? = some (b, r) := by rw [hq, ← e1, ← e2]
        exact hj ((List.getElem?_inj (List.getElem?_eq_some_iff.mp hq').1 jp_ix_nd).mp (hq'.trans hi.symm))
      show some (_, _) = some (_, _)
      rw [jp_c_congr (h1 _ _ hne) (h2 _ _ hne)]
/-- a row laid anew; a place laid anew -/
def jp_sr (h : jp_H) (b r : Nat) (g : Nat → Int32) : jp_H := (va_up h.1 b (va_up (h.1 b) r g), h.2)
def jp_sl (h : jp_H) (b r : Nat) (g : Nat → Int64) : jp_H := (h.1, va_up h.2 b (va_up (h.2 b) r g))
def jp_s (h : jp_H) (b r j : Nat) (x : Int32) : jp_H := jp_sr h b r (upd (h.1 b r) j x)
def jp_sL (h : jp_H) (b r j : Nat) (x : Int64) : jp_H := jp_sl h b r (vp_updL (h.2 b r) j x)
theorem jp_sr_1 (h : jp_H) (b r : Nat) (g : Nat → Int32) : (jp_sr h b r g).1 b r = g := by simp [jp_sr, va_up]
theorem jp_sr_1b (h : jp_H) (b r : Nat) (g : Nat → Int32) : (jp_sr h b r g).1 b = va_up (h.1 b) r g := by simp [jp_sr, va_up]
theorem jp_sr_n (h : jp_H) {b r b' r' : Nat} (g : Nat → Int32) (hn : ¬ (b' = b ∧ r' = r)) : (jp_sr h b r g).1 b' r' = h.1 b' r' := by
  by_cases e : b' = b
  · subst e
    have e2 : r' ≠ r := fun q => hn ⟨rfl, q⟩
    simp [jp_sr, va_up, e2]
  · simp [jp_sr, va_up, e]
theorem jp_sl_1 (h : jp_H) (b r : Nat) (g : Nat → Int64) : (jp_sl h b r g).2 b r = g := by simp [jp_sl, va_up]
theorem jp_sl_n (h : jp_H) {b r b' r' : Nat} (g : Nat → Int64) (hn : ¬ (b' = b ∧ r' = r)) : (jp_sl h b r g).2 b' r' = h.2 b' r' := by
  by_cases e : b' = b
  · subst e
    have e2 : r' ≠ r := fun q => hn ⟨rfl, q⟩
    simp [jp_sl, va_up, e2]
  · simp [jp_sl, va_up, e]
/-- what kinds of cell stand where -/
def jp_Zi (b r n : Nat) : Prop := n < 2 ^ 31 ∧ (b, r) ∈ jp_ix ∧ ∀ (E : jp_E) (h : jp_H), jp_c E h b r = .inl (E.2.2.1, n, .inl (h.1 b r))
def jp_Zz (b r n : Nat) : Prop := n < 2 ^ 31 ∧ (b, r) ∈ jp_ix ∧ ∀ (E : jp_E) (h : jp_H), jp_c E h b r = .inl (E.2.2.2.2, n, .inl (h.1 b r))
def jp_Zl (b r n : Nat) : Prop := n < 2 ^ 31 ∧ (b, r) ∈ jp_ix ∧ ∀ (E : jp_E) (h : jp_H), jp_c E h b r = .inl (E.2.2.2.1, n, .inr (.inl (h.2 b r)))
def jp_Zo (b ci : Nat) (fs : jp_E → jp_H → List Value) : Prop := (b, 0) ∈ jp_ix ∧ ∀ (E : jp_E) (h : jp_H), jp_c E h b 0 = .inr (ci, fs E h)
/-- the blocks of the five nets -/
def jp_net (b : Nat) : Prop := b = 2 ∨ b = 3 ∨ b = 4 ∨ b = 5 ∨ b = 6
theorem jp_net_o {b : Nat} (hb : jp_net b) : jp_Zo b 0 (jp_f0 b) := by
  rcases hb with rfl | rfl | rfl | rfl | rfl <;> exact ⟨by decide, fun E h => rfl⟩
theorem jp_net_1 {b : Nat} (hb : jp_net b) : jp_Zi b 1 8 := by
  rcases hb with rfl | rfl | rfl | rfl | rfl <;> exact ⟨by decide, by decide, fun E h => rfl⟩
theorem jp_net_2 {b : Nat} (hb : jp_net b) : jp_Zi b 2 8 := by
  rcases hb with rfl | rfl | rfl | rfl | rfl <;> exact ⟨by decide, by decide, fun E h => rfl⟩
theorem jp_net_3 {b : Nat} (hb : jp_net b) : jp_Zi b 3 8 := by
  rcases hb with rfl | rfl | rfl | rfl | rfl <;> exact ⟨by decide, by decide, fun E h => rfl⟩
theorem jp_net_4 {b : Nat} (hb : jp_net b) : jp_Zi b 4 8 := by
  rcases hb with rfl | rfl | rfl | rfl | rfl <;> exact ⟨by decide, by decide, fun E h => rfl⟩
theorem jp_net_5 {b : Nat} (hb : jp_net b) : jp_Zi b 5 64 := by
  rcases hb with rfl | rfl | rfl | rfl | rfl <;> exact ⟨by decide, by decide, fun E h => rfl⟩
theorem jp_net_6 {b : Nat} (hb : jp_net b) : jp_Zi b 6 64 := by
  rcases hb with rfl | rfl | rfl | rfl | rfl <;> exact ⟨by decide, by decide, fun E h => rfl⟩
theorem jp_net_7 {b : Nat} (hb : jp_net b) : jp_Zi b 7 8 := by
  rcases hb with rfl | rfl | rfl | rfl | rfl <;> exact ⟨by decide, by decide, fun E h => rfl⟩
theorem jp_pad_o : jp_Zo 1 1 jp_f1 := ⟨by decide, fun E h => rfl⟩
theorem jp_pad_1 : jp_Zi 1 1 40 := ⟨by decide, by decide, fun E h => rfl⟩
theorem jp_js_o : jp_Zo 0 2 jp_f2 := ⟨by decide, fun E h => rfl⟩
theorem jp_js_1 : jp_Zl 0 1 8 := ⟨by decide, by decide, fun E h => rfl⟩
theorem jp_js_2 : jp_Zl 0 2 8 := ⟨by decide, by decide, fun E h => rfl⟩
theorem jp_mo_o : jp_Zo 7 3 jp_f3 := ⟨by decide, fun E h => rfl⟩
theorem jp_mo_1 : jp_Zi 7 1 153 := ⟨by decide, by decide, fun E h => rfl⟩
theorem jp_mo_2 : jp_Zi 7 2 459 := ⟨by decide, by decide, fun E h => rfl⟩
theorem jp_mo_3 : jp_Zz 7 3 2 := ⟨by decide, by decide, fun E h => rfl⟩
theorem jp_mo_4 : jp_Zi 7 4 40 := ⟨by decide, by decide, fun E h => rfl⟩
theorem jp_mo_5 : jp_Zi 7 5 8 := ⟨by decide, by decide, fun E h => rfl⟩
theorem jp_mo_6 : jp_Zl 7 6 8 := ⟨by decide, by decide, fun E h => rfl⟩
theorem jp_mo_7 : jp_Zl 7 7 8 := ⟨by decide, by decide, fun E h => rfl⟩
theorem jp_mo_8 : jp_Zi 7 8 24381 := ⟨by decide, by decide, fun E h => rfl⟩

def jp_nF : List (String × Nat × String × String × String) := [("JobSpread", 76, "JobSpread$Pad", "length", "I"), ("JobSpread", 58, "JobSpread$Net", "speed", "[I"), ("JobSpread", 54, "JobSpread$Net", "jobs", "[I"), ("JobSpread", 97, "JobSpread$Net", "degree", "[I"), ("JobSpread", 107, "JobSpread$Net", "colour", "[I"), ("JobSpread", 113, "JobSpread$Net", "carry", "[I"), ("JobSpread", 65, "JobSpread$Net", "edges", "I"), ("JobSpread", 122, "JobSpread$Net", "rounds", "I")]
def jp_nM : List (String × Nat × MethodName) := [("JobSpread", 9, ⟨"JobSpread$Pad", "<init>", "()V"⟩), ("JobSpread", 18, ⟨"JobSpread$Net", "<init>", "()V"⟩), ("JobSpread", 61, ⟨"JobSpread$Net", "lift", "(II)V"⟩), ("JobSpread$Net", 46, ⟨"JobSpread", "spot", "(II)I"⟩), ("JobSpread", 68, ⟨"JobSpread$Net", "joins", "(II)Z"⟩), ("JobSpread", 72, ⟨"JobSpread$Net", "lay", "(III)V"⟩), ("JobSpread", 79, ⟨"JobSpread$Pad", "add", "(I)V"⟩), ("JobSpread", 83, ⟨"JobSpread$Pad", "firstFault", "()I"⟩), ("JobSpread$Pad", 27, ⟨"JobSpread", "isNode", "(I)Z"⟩), ("JobSpread$Pad", 40, ⟨"JobSpread", "spot", "(II)I"⟩), ("JobSpread$Pad", 36, ⟨"JobSpread", "isWithin", "(III)Z"⟩), ("JobSpread", 87, ⟨"JobSpread$Net", "liftAll", "()V"⟩), ("JobSpread", 90, ⟨"JobSpread$Pad", "nodeAt", "(I)I"⟩), ("JobSpread", 94, ⟨"JobSpread$Pad", "colourAt", "(I)I"⟩), ("JobSpread", 100, ⟨"JobSpread$Net", "rotorLeftOver", "(I)I"⟩), ("JobSpread", 119, ⟨"JobSpread$Net", "goOn", "(II)I"⟩), ("JobSpread", 125, ⟨"JobSpread$Net", "startAgain", "()V"⟩), ("JobSpread", 131, ⟨"JobSpread$Net", "mostLoaded", "()I"⟩), ("JobSpread", 134, ⟨"JobSpread$Net", "leastLoaded", "()I"⟩), ("JobSpread", 137, ⟨"JobSpread$Net", "loadGap", "(II)J"⟩), ("JobSpread", 145, ⟨"JobSpread$Net", "allJobs", "()J"⟩), ("JobSpread", 149, ⟨"JobSpread$Net", "allSpeeds", "()I"⟩), ("JobSpread", 156, ⟨"JobSpread$Net", "nodesBelowZero", "()I"⟩), ("JobSpread", 161, ⟨"JobSpread$Net", "measure", "()I"⟩), ("JobSpread", 173, ⟨"JobSpread$Net", "become", "(LJobSpread$Net;)V"⟩), ("JobSpread", 177, ⟨"JobSpread$Net", "isUnevenAtMost", "(I)Z"⟩), ("JobSpread", 186, ⟨"JobSpread$Net", "isAlike", "(LJobSpread$Net;)Z"⟩), ("JobSpread", 194, ⟨"JobSpread$Net", "colours", "()I"⟩)]
/-- the links among nest mates -/
def jp_N (U : State) : Prop := (∀ q ∈ jp_nF, va_Nw (.fieldLinkNest q.1 q.2.1 q.2.2.1 q.2.2.2.1 q.2.2.2.2 "JobSpread") U) ∧ ∀ q ∈ jp_nM, va_Nw (.methodLinkNest q.1 q.2.1 q.2.2 "JobSpread") U
theorem jp_N.warm {s U : State} (h : jp_N s) (hW : s.WarmedH U.vm) : jp_N U := ⟨fun q hq => va_Nw.warmF hW (h.1 q hq), fun q hq => va_Nw.warmM hW (h.2 q hq)⟩
theorem jp_N.same {s U : State} (h : jp_N s) (hv : s.vm = U.vm) : jp_N U := ⟨fun q hq => va_Nw.same rfl hv (h.1 q hq), fun q hq => va_Nw.same rfl hv (h.2 q hq)⟩
/-- what holds when a method begins, and when it ends -/
def jp_Ok (E : jp_E) (h : jp_H) (U : State) : Prop := va_P E.1 vwCl (jp_w E h) U.heap ∧ va_K E.1 vwCl (jp_T E) U ∧ jp_N U ∧ jp_I E
def jp_Q (E : jp_E) (Q : Option Value → jp_H → Prop) : Array Value → State → Outcome → State → Prop := fun _ st oc t => (∃ (v : Option Value) (h' : jp_H), oc = .returned v ∧ Q v h' ∧ va_P E.1 vwCl (jp_w E h') t.heap) ∧ va_F (jp_A E) st t
/-- a method's contract over the pure heap -/
def jc_M (E : jp_E) (l : Launch) (y : MethodName) (ws : List Cond) (rm : Room) (as : List Value) (h : jp_H) (Q : Option Value → jp_H → Prop) : Prop := Met l y ws rm (va_Pc as (jp_Ok E h)) (jp_Q E Q) 0 0 (jp_A E)
/-- it returns just this, and leaves just this -/
def jp_R (v0 : Option Value) (h1 : jp_H) : Option Value → jp_H → Prop := fun v h' => v = v0 ∧ h' = h1
abbrev jp_X : Type := Nat → List (Nat × Value) → List Value → jp_H → Prop
/-- X pc locals stack heap: the method goes on well from there -/
def jg_C (E : jp_E) (l : Launch) (R : Room) (own : String) (cc : ByteArray) (nL : Nat) (ret : Option FieldType) (Ts : List Cond) (Q : Option Value → jp_H → Prop) (X : jp_X) : Prop :=
  ∃ (p : Program) (e : Env) (s : State) (m : MethodId) (args : Array Value) (below : List Frame) (meth : Method) (c : Code),
    X = (fun pc lv st h => ∀ (ls : Array Slot) (H : Heap) (locs : List Loc), lv_has ls nL lv → va_P E.1 vwCl (jp_w E h) H → va_S (jp_A E) s.heap H locs → W p l e R s m args below meth c H locs 0 0 (MQ below (jp_Q E Q) args s 0 0 (jp_A E)) (F0 m pc ls st)) ∧
    p.tables.exec = Jvm.exec ∧ c.code = cc ∧ c.maxLocals = nL ∧ s.vm.findClass own = some m.cls ∧ (∀ w ∈ Ts, w.before args s = true) ∧ meth.sig.returnType = ret ∧ meth.locks = false ∧ va_K E.1 vwCl (jp_T E) s ∧ jp_N s ∧ jp_I E
def jp_lk : List (Nat × Value) → Nat → Option Value
  | [], _ => none
  | q :: l, i => match Nat.beq q.1 i with
    | true => some q.2
    | false => jp_lk l i
theorem jp_lk_mem : ∀ {lv : List (Nat × Value)} {i : Nat} {v : Value}, jp_lk lv i = some v → (i, v) ∈ lv
  | [], _, _, h => by cases h
  | q :: l, i, v, h => by
    unfold jp_lk at h
    split at h
    · next e =>
      have e1 : q.1 = i := Nat.eq_of_beq_eq_true e
      cases h
      rw [← e1]
      exact List.mem_cons_self
    · exact List.mem_cons_of_mem _ (jp_lk_mem h)
theorem jp_lk_at {ls : Array Slot} {nL : Nat} {lv : List (Nat × Value)} {i : Nat} {v : Value} (hl : lv_has ls nL lv) (h : jp_lk lv i = some v) : ls[i]? = some (.val v) := hl.2.2 (i, v) (jp_lk_mem h)
/-- in its place by number -/
def jp_in (i : Nat) (v : Value) : List (Nat × Value) → List (Nat × Value)
  | [] => [(i, v)]
  | q :: l => match Nat.ble i q.1 with
    | true => (i, v) :: q :: l
    | false => q :: jp_in i v l
theorem jp_in_mem {i : Nat} {v : Value} : ∀ {l : List (Nat × Value)} {q : Nat × Value}, q ∈ jp_in i v l → q ∈ (i, v) :: l
  | [], q, h => h
  | a :: l, q, h => by
    unfold jp_in at h
    split at h
    · exact h
    · rcases List.mem_cons.mp h with h | h
      · exact List.mem_cons_of_mem _ (by rw [h]; exact List.mem_cons_self)
      · rcases List.mem_cons.mp (jp_in_mem h) with h | h
        · rw [h]; exact List.mem_cons_self
        · exact List.mem_cons_of_mem _ (List.mem_cons_of_mem _ h)
/-- a local of one word, of two words, laid anew -/
def jp_l1 (lv : List (Nat × Value)) (i : Nat) (v : Value) : List (Nat × Value) := jp_in i v (lv.filter (fun q => !(q.1 == i) && !(q.1 + 1 == i && q.2.category == 2)))
def jp_l2 (lv : List (Nat × Value)) (i : Nat) (v : Value) : List (Nat × Value) := jp_in i v (lv.filter (fun q => !(q.1 == i) && (!(q.1 == i + 1) && !(q.1 + 1 == i && q.2.category == 2))))
theorem jp_has {ls : Array Slot} {nL : Nat} {lv : List (Nat × Value)} {i : Nat} {v : Value} (h : lv_has ls nL ((i, v) :: lv)) : lv_has ls nL (jp_in i v lv) := ⟨h.1, h.2.1, fun q hq => h.2.2 q (jp_in_mem hq)⟩
def jp_b (c : Bool) : Int32 := match c with
  | true => 1
  | false => 0
section
variable {E : jp_E} {l : Launch} {R : Room} {own : String} {cc : ByteArray} {nL : Nat} {ret : Option FieldType} {Ts : List Cond} {Q : Option Value → jp_H → Prop} {X : jp_X} {pc : Nat} {lv : List (Nat × Value)} {st : List Value} {h : jp_H}
theorem jg_iconst (cx : jg_C E l R own cc nL ret Ts Q X) {n : Int} {v : Int32} (hd : decode cc pc = .ok (.iconst n, 1)) (hv : Int32.ofInt n = v) (k : X (pc + 1) lv (.int v :: st) h) : X pc lv (st) h := by
  obtain ⟨p, e, s, m, args, below, meth, c, rfl, hx, hb, hml, hown, hts, hr, hlk, hK, hN, hI⟩ := cx
  intro ls H locs hl hP hS
  exact lv_iconst hx hb hd hv (k ls H locs hl hP hS)
theorem jg_bipush (cx : jg_C E l R own cc nL ret Ts Q X) {n : Int} {v : Int32} (hd : decode cc pc = .ok (.bipush n, 2)) (hv : (Int8.ofInt n).toInt32 = v) (k : X (pc + 2) lv (.int v :: st) h) : X pc lv (st) h := by
  obtain ⟨p, e, s, m, args, below, meth, c, rfl, hx, hb, hml, hown, hts, hr, hlk, hK, hN, hI⟩ := cx
  intro ls H locs hl hP hS
  exact lv_bipush hx hb hd hv (k ls H locs hl hP hS)
theorem jg_sipush (cx : jg_C E l R own cc nL ret Ts Q X) {n : Int} {v : Int32} (hd : decode cc pc = .ok (.sipush n, 3)) (hv : (Int16.ofInt n).toInt32 = v) (k : X (pc + 3) lv (.int v :: st) h) : X pc lv (st) h := by
  obtain ⟨p, e, s, m, args, below, meth, c, rfl, hx, hb, hml, hown, hts, hr, hlk, hK, hN, hI⟩ := cx
  intro ls H locs hl hP hS
  exact lv_sipush hx hb hd hv (k ls H locs hl hP hS)
theorem jg_lconst (cx : jg_C E l R own cc nL ret Ts Q X) {n : Fin 2} {v : Int64} (hd : decode cc pc = .ok (.lconst n, 1)) (hv : Int64.ofNat (n : Nat) = v) (k : X (pc + 1) lv (.long v :: st) h) : X pc lv (st) h := by
  obtain ⟨p, e, s, m, args, below, meth, c, rfl, hx, hb, hml, hown, hts, hr, hlk, hK, hN, hI⟩ := cx
  intro ls H locs hl hP hS
  exact lv_lconst hx hb hd hv (k ls H locs hl hP hS)
theorem jg_ldc2 (cx : jg_C E l R own cc nL ret Ts Q X) {i : Nat} {v : Int64} (hw : Cond.constantLong own i v ∈ Ts) (hd : decode cc pc = .ok (.ldc2_w i, 3)) (k : X (pc + 3) lv (.long v :: st) h) : X pc lv (st) h := by
  obtain ⟨p, e, s, m, args, below, meth, c, rfl, hx, hb, hml, hown, hts, hr, hlk, hK, hN, hI⟩ := cx
  intro ls H locs hl hP hS
  exact lv_ldc2 hx hb hown (hts _ hw) hd (k ls H locs hl hP hS)
theorem jg_iload_n (cx : jg_C E l R own cc nL ret Ts Q X) {i : Fin 4} {x : Int32} (hd : decode cc pc = .ok (.iload_n i, 1)) (hv : jp_lk lv i.val = some (.int x)) (k : X (pc + 1) lv (.int x :: st) h) : X pc lv (st) h := by
  obtain ⟨p, e, s, m, args, below, meth, c, rfl, hx, hb, hml, hown, hts, hr, hlk, hK, hN, hI⟩ := cx
  intro ls H locs hl hP hS
  exact lv_iload_n hx hb hd rfl (jp_lk_at hl hv) (k ls H locs hl hP hS)
theorem jg_iload (cx : jg_C E l R own cc nL ret Ts Q X) {i : Nat} {x : Int32} (hd : decode cc pc = .ok (.iload i, 2)) (hv : jp_lk lv i = some (.int x)) (k : X (pc + 2) lv (.int x :: st) h) : X pc lv (st) h := by
  obtain ⟨p, e, s, m, args, below, meth, c, rfl, hx, hb, hml, hown, hts, hr, hlk, hK, hN, hI⟩ := cx
  intro ls H locs hl hP hS
  exact lv_iload hx hb hd (jp_lk_at hl hv) (k ls H locs hl hP hS)
theorem jg_istore_n (cx : jg_C E l R own cc nL ret Ts Q X) {i : Fin 4} {x : Int32} {lv' : List (Nat × Value)} (hd : decode cc pc = .ok (.istore_n i, 1)) (hn : i.val < nL) (hl' : jp_l1 lv i.val (.int x) = lv') (k : X (pc + 1) lv' st h) : X pc lv (.int x :: st) h := by
  obtain ⟨p, e, s, m, args, below, meth, c, rfl, hx, hb, hml, hown, hts, hr, hlk, hK, hN, hI⟩ := cx
  intro ls H locs hl hP hS
  exact lv_istore_n hx hb hd rfl hl hn rfl (fun ls' h' => k ls' H locs (hl' ▸ jp_has h') hP hS)
theorem jg_istore (cx : jg_C E l R own cc nL ret Ts Q X) {i : Nat} {x : Int32} {lv' : List (Nat × Value)} (hd : decode cc pc = .ok (.istore i, 2)) (hn : i < nL) (hl' : jp_l1 lv i (.int x) = lv') (k : X (pc + 2) lv' st h) : X pc lv (.int x :: st) h := by
  obtain ⟨p, e, s, m, args, below, meth, c, rfl, hx, hb, hml, hown, hts, hr, hlk, hK, hN, hI⟩ := cx
  intro ls H locs hl hP hS
  exact lv_istore hx hb hd hl hn rfl (fun ls' h' => k ls' H locs (hl' ▸ jp_has h') hP hS)
theorem jg_lload_n (cx : jg_C E l R own cc nL ret Ts Q X) {i : Fin 4} {x : Int64} (hd : decode cc pc = .ok (.lload_n i, 1)) (hv : jp_lk lv i.val = some (.long x)) (k : X (pc + 1) lv (.long x :: st) h) : X pc lv (st) h := by
  obtain ⟨p, e, s, m, args, below, meth, c, rfl, hx, hb, hml, hown, hts, hr, hlk, hK, hN, hI⟩ := cx
  intro ls H locs hl hP hS
  exact lv_lload_n hx hb hd rfl (jp_lk_at hl hv) (k ls H locs hl hP hS)
theorem jg_lload (cx : jg_C E l R own cc nL ret Ts Q X) {i : Nat} {x : Int64} (hd : decode cc pc = .ok (.lload i, 2)) (hv : jp_lk lv i = some (.long x)) (k : X (pc + 2) lv (.long x :: st) h) : X pc lv (st) h := by
  obtain ⟨p, e, s, m, args, below, meth, c, rfl, hx, hb, hml, hown, hts, hr, hlk, hK, hN, hI⟩ := cx
  intro ls H locs hl hP hS
  exact lv_lload hx hb hd (jp_lk_at hl hv) (k ls H locs hl hP hS)
theorem jg_lstore_n (cx : jg_C E l R own cc nL ret Ts Q X) {i : Fin 4} {x : Int64} {lv' : List (Nat × Value)} (hd : decode cc pc = .ok (.lstore_n i, 1)) (hn : i.val + 1 < nL) (hl' : jp_l2 lv i.val (.long x) = lv') (k : X (pc + 1) lv' st h) : X pc lv (.long x :: st) h := by
  obtain ⟨p, e, s, m, args, below, meth, c, rfl, hx, hb, hml, hown, hts, hr, hlk, hK, hN, hI⟩ := cx
  intro ls H locs hl hP hS
  exact lv_lstore_n hx hb hd rfl hl hn rfl (fun ls' h' => k ls' H locs (hl' ▸ jp_has h') hP hS)
theorem jg_lstore (cx : jg_C E l R own cc nL ret Ts Q X) {i : Nat} {x : Int64} {lv' : List (Nat × Value)} (hd : decode cc pc = .ok (.lstore i, 2)) (hn : i + 1 < nL) (hl' : jp_l2 lv i (.long x) = lv') (k : X (pc + 2) lv' st h) : X pc lv (.long x :: st) h := by
  obtain ⟨p, e, s, m, args, below, meth, c, rfl, hx, hb, hml, hown, hts, hr, hlk, hK, hN, hI⟩ := cx
  intro ls H locs hl hP hS
  exact lv_lstore hx hb hd hl hn rfl (fun ls' h' => k ls' H locs (hl' ▸ jp_has h') hP hS)
theorem jg_aload_n (cx : jg_C E l R own cc nL ret Ts Q X) {i : Fin 4} {x : Nat} (hd : decode cc pc = .ok (.aload_n i, 1)) (hv : jp_lk lv i.val = some (.ref x)) (k : X (pc + 1) lv (.ref x :: st) h) : X pc lv (st) h := by
  obtain ⟨p, e, s, m, args, below, meth, c, rfl, hx, hb, hml, hown, hts, hr, hlk, hK, hN, hI⟩ := cx
  intro ls H locs hl hP hS
  exact lv_aload_n hx hb hd rfl (jp_lk_at hl hv) (k ls H locs hl hP hS)
theorem jg_aload (cx : jg_C E l R own cc nL ret Ts Q X) {i : Nat} {x : Nat} (hd : decode cc pc = .ok (.aload i, 2)) (hv : jp_lk lv i = some (.ref x)) (k : X (pc + 2) lv (.ref x :: st) h) : X pc lv (st) h := by
  obtain ⟨p, e, s, m, args, below, meth, c, rfl, hx, hb, hml, hown, hts, hr, hlk, hK, hN, hI⟩ := cx
  intro ls H locs hl hP hS
  exact lv_aload hx hb hd (jp_lk_at hl hv) (k ls H locs hl hP hS)
theorem jg_astore_n (cx : jg_C E l R own cc nL ret Ts Q X) {i : Fin 4} {x : Nat} {lv' : List (Nat × Value)} (hd : decode cc pc = .ok (.astore_n i, 1)) (hn : i.val < nL) (hl' : jp_l1 lv i.val (.ref x) = lv') (k : X (pc + 1) lv' st h) : X pc lv (.ref x :: st) h := by
  obtain ⟨p, e, s, m, args, below, meth, c, rfl, hx, hb, hml, hown, hts, hr, hlk, hK, hN, hI⟩ := cx
  intro ls H locs hl hP hS
  exact lv_astore_n hx hb hd rfl hl hn rfl (fun ls' h' => k ls' H locs (hl' ▸ jp_has h') hP hS)
theorem jg_astore (cx : jg_C E l R own cc nL ret Ts Q X) {i : Nat} {x : Nat} {lv' : List (Nat × Value)} (hd : decode cc pc = .ok (.astore i, 2)) (hn : i < nL) (hl' : jp_l1 lv i (.ref x) = lv') (k : X (pc + 2) lv' st h) : X pc lv (.ref x :: st) h := by
  obtain ⟨p, e, s, m, args, below, meth, c, rfl, hx, hb, hml, hown, hts, hr, hlk, hK, hN, hI⟩ := cx
  intro ls H locs hl hP hS
  exact lv_astore hx hb hd hl hn rfl (fun ls' h' => k ls' H locs (hl' ▸ jp_has h') hP hS)
theorem jg_iinc (cx : jg_C E l R own cc nL ret Ts Q X) {i : Nat} {n : Int} {x v : Int32} {lv' : List (Nat × Value)} (hd : decode cc pc = .ok (.iinc i n, 3)) (hv : jp_lk lv i = some (.int x)) (hxv : x + Int32.ofInt n = v) (hn : i < nL) (hl' : jp_l1 lv i (.int v) = lv') (k : X (pc + 3) lv' st h) : X pc lv st h := by
  obtain ⟨p, e, s, m, args, below, meth, c, rfl, hx, hb, hml, hown, hts, hr, hlk, hK, hN, hI⟩ := cx
  intro ls H locs hl hP hS
  obtain ⟨j, hj⟩ := List.getElem?_of_mem (jp_lk_mem hv)
  exact lv_iinc (v := v) hx hb hd hl hj hxv hn rfl (fun ls' h' => k ls' H locs (hl' ▸ jp_has h') hP hS)
/-- a counter goes on -/
theorem jg_iincN (cx : jg_C E l R own cc nL ret Ts Q X) {i j d : Nat} {n : Int} {lv' : List (Nat × Value)} (hd : decode cc pc = .ok (.iinc i n, 3)) (hv : jp_lk lv i = some (.int (nI j))) (hnd : Int32.ofInt n = nI d) (hn : i < nL) (hl' : jp_l1 lv i (.int (nI (j + d))) = lv') (k : X (pc + 3) lv' st h) : X pc lv st h :=
  jg_iinc cx hd hv (by rw [hnd, nI_add]) hn hl' k
theorem jg_iincI (cx : jg_C E l R own cc nL ret Ts Q X) {i d : Nat} {n : Int} {x : Int32} {lv' : List (Nat × Value)} (hd : decode cc pc = .ok (.iinc i n, 3)) (hv : jp_lk lv i = some (.int x)) (hnd : Int32.ofInt n = nI d) (hn : i < nL) (hl' : jp_l1 lv i (.int (x + nI d)) = lv') (k : X (pc + 3) lv' st h) : X pc lv st h :=
  jg_iinc cx hd hv (by rw [hnd]) hn hl' k
theorem jg_iadd (cx : jg_C E l R own cc nL ret Ts Q X) {x y : Int32} (hd : decode cc pc = .ok (.iadd, 1)) (k : X (pc + 1) lv (.int (x + y) :: st) h) : X pc lv (.int y :: .int x :: st) h := by
  obtain ⟨p, e, s, m, args, below, meth, c, rfl, hx, hb, hml, hown, hts, hr, hlk, hK, hN, hI⟩ := cx
  intro ls H locs hl hP hS
  exact lv_iadd hx hb hd (k ls H locs hl hP hS)
theorem jg_isub (cx : jg_C E l R own cc nL ret Ts Q X) {x y : Int32} (hd : decode cc pc = .ok (.isub, 1)) (k : X (pc + 1) lv (.int (x - y) :: st) h) : X pc lv (.int y :: .int x :: st) h := by
  obtain ⟨p, e, s, m, args, below, meth, c, rfl, hx, hb, hml, hown, hts, hr, hlk, hK, hN, hI⟩ := cx
  intro ls H locs hl hP hS
  exact lv_isub hx hb hd (k ls H locs hl hP hS)
theorem jg_imul (cx : jg_C E l R own cc nL ret Ts Q X) {x y : Int32} (hd : decode cc pc = .ok (.imul, 1)) (k : X (pc + 1) lv (.int (x * y) :: st) h) : X pc lv (.int y :: .int x :: st) h := by
  obtain ⟨p, e, s, m, args, below, meth, c, rfl, hx, hb, hml, hown, hts, hr, hlk, hK, hN, hI⟩ := cx
  intro ls H locs hl hP hS
  exact lv_imul hx hb hd (k ls H locs hl hP hS)
theorem jg_iand (cx : jg_C E l R own cc nL ret Ts Q X) {x y : Int32} (hd : decode cc pc = .ok (.iand, 1)) (k : X (pc + 1) lv (.int (x &&& y) :: st) h) : X pc lv (.int y :: .int x :: st) h := by
  obtain ⟨p, e, s, m, args, below, meth, c, rfl, hx, hb, hml, hown, hts, hr, hlk, hK, hN, hI⟩ := cx
  intro ls H locs hl hP hS
  exact lv_iand hx hb hd (k ls H locs hl hP hS)
theorem jg_ior (cx : jg_C E l R own cc nL ret Ts Q X) {x y : Int32} (hd : decode cc pc = .ok (.ior, 1)) (k : X (pc + 1) lv (.int (x ||| y) :: st) h) : X pc lv (.int y :: .int x :: st) h := by
  obtain ⟨p, e, s, m, args, below, meth, c, rfl, hx, hb, hml, hown, hts, hr, hlk, hK, hN, hI⟩ := cx
  intro ls H locs hl hP hS
  exact lv_ior hx hb hd (k ls H locs hl hP hS)
theorem jg_ixor (cx : jg_C E l R own cc nL ret Ts Q X) {x y : Int32} (hd : decode cc pc = .ok (.ixor, 1)) (k : X (pc + 1) lv (.int (x ^^^ y) :: st) h) : X pc lv (.int y :: .int x :: st) h := by
  obtain ⟨p, e, s, m, args, below, meth, c, rfl, hx, hb, hml, hown, hts, hr, hlk, hK, hN, hI⟩ := cx
  intro ls H locs hl hP hS
  exact lv_ixor hx hb hd (k ls H locs hl hP hS)
theorem jg_idiv (cx : jg_C E l R own cc nL ret Ts Q X) {x y : Int32} (hd : decode cc pc = .ok (.idiv, 1)) (hne : ¬ y = 0) (k : X (pc + 1) lv (.int (x / y) :: st) h) : X pc lv (.int y :: .int x :: st) h := by
  obtain ⟨p, e, s, m, args, below, meth, c, rfl, hx, hb, hml, hown, hts, hr, hlk, hK, hN, hI⟩ := cx
  intro ls H locs hl hP hS
  exact lv_idiv hx hb hd hne (k ls H locs hl hP hS)
theorem jg_irem (cx : jg_C E l R own cc nL ret Ts Q X) {x y : Int32} (hd : decode cc pc = .ok (.irem, 1)) (hne : ¬ y = 0) (k : X (pc + 1) lv (.int (x - x / y * y) :: st) h) : X pc lv (.int y :: .int x :: st) h := by
  obtain ⟨p, e, s, m, args, below, meth, c, rfl, hx, hb, hml, hown, hts, hr, hlk, hK, hN, hI⟩ := cx
  intro ls H locs hl hP hS
  exact lv_irem hx hb hd hne (k ls H locs hl hP hS)
theorem jg_ineg (cx : jg_C E l R own cc nL ret Ts Q X) {x : Int32} (hd : decode cc pc = .ok (.ineg, 1)) (k : X (pc + 1) lv (.int (-x) :: st) h) : X pc lv (.int x :: st) h := by
  obtain ⟨p, e, s, m, args, below, meth, c, rfl, hx, hb, hml, hown, hts, hr, hlk, hK, hN, hI⟩ := cx
  intro ls H locs hl hP hS
  exact lv_ineg hx hb hd (k ls H locs hl hP hS)
theorem jg_ishl (cx : jg_C E l R own cc nL ret Ts Q X) {x y : Int32} (hd : decode cc pc = .ok (.ishl, 1)) (k : X (pc + 1) lv (.int (x <<< (y &&& 31)) :: st) h) : X pc lv (.int y :: .int x :: st) h := by
  obtain ⟨p, e, s, m, args, below, meth, c, rfl, hx, hb, hml, hown, hts, hr, hlk, hK, hN, hI⟩ := cx
  intro ls H locs hl hP hS
  exact lv_ishl hx hb hd (k ls H locs hl hP hS)
theorem jg_ladd (cx : jg_C E l R own cc nL ret Ts Q X) {x y : Int64} (hd : decode cc pc = .ok (.ladd, 1)) (k : X (pc + 1) lv (.long (x + y) :: st) h) : X pc lv (.long y :: .long x :: st) h := by
  obtain ⟨p, e, s, m, args, below, meth, c, rfl, hx, hb, hml, hown, hts, hr, hlk, hK, hN, hI⟩ := cx
  intro ls H locs hl hP hS
  exact lv_ladd hx hb hd (k ls H locs hl hP hS)
theorem jg_lsub (cx : jg_C E l R own cc nL ret Ts Q X) {x y : Int64} (hd : decode cc pc = .ok (.lsub, 1)) (k : X (pc + 1) lv (.long (x - y) :: st) h) : X pc lv (.long y :: .long x :: st) h := by
  obtain ⟨p, e, s, m, args, below, meth, c, rfl, hx, hb, hml, hown, hts, hr, hlk, hK, hN, hI⟩ := cx
  intro ls H locs hl hP hS
  exact lv_lsub hx hb hd (k ls H locs hl hP hS)
theorem jg_lmul (cx : jg_C E l R own cc nL ret Ts Q X) {x y : Int64} (hd : decode cc pc = .ok (.lmul, 1)) (k : X (pc + 1) lv (.long (x * y) :: st) h) : X pc lv (.long y :: .long x :: st) h := by
  obtain ⟨p, e, s, m, args, below, meth, c, rfl, hx, hb, hml, hown, hts, hr, hlk, hK, hN, hI⟩ := cx
  intro ls H locs hl hP hS
  exact lv_lmul hx hb hd (k ls H locs hl hP hS)
theorem jg_ldiv (cx : jg_C E l R own cc nL ret Ts Q X) {x y : Int64} (hd : decode cc pc = .ok (.ldiv, 1)) (hne : ¬ y = 0) (k : X (pc + 1) lv (.long (x / y) :: st) h) : X pc lv (.long y :: .long x :: st) h := by
  obtain ⟨p, e, s, m, args, below, meth, c, rfl, hx, hb, hml, hown, hts, hr, hlk, hK, hN, hI⟩ := cx
  intro ls H locs hl hP hS
  exact lv_ldiv hx hb hd hne (k ls H locs hl hP hS)
theorem jg_lrem (cx : jg_C E l R own cc nL ret Ts Q X) {x y : Int64} (hd : decode cc pc = .ok (.lrem, 1)) (hne : ¬ y = 0) (k : X (pc + 1) lv (.long (x - x / y * y) :: st) h) : X pc lv (.long y :: .long x :: st) h := by
  obtain ⟨p, e, s, m, args, below, meth, c, rfl, hx, hb, hml, hown, hts, hr, hlk, hK, hN, hI⟩ := cx
  intro ls H locs hl hP hS
  exact lv_lrem hx hb hd hne (k ls H locs hl hP hS)
theorem jg_lneg (cx : jg_C E l R own cc nL ret Ts Q X) {x : Int64} (hd : decode cc pc = .ok (.lneg, 1)) (k : X (pc + 1) lv (.long (-x) :: st) h) : X pc lv (.long x :: st) h := by
  obtain ⟨p, e, s, m, args, below, meth, c, rfl, hx, hb, hml, hown, hts, hr, hlk, hK, hN, hI⟩ := cx
  intro ls H locs hl hP hS
  exact lv_lneg hx hb hd (k ls H locs hl hP hS)
theorem jg_lcmp (cx : jg_C E l R own cc nL ret Ts Q X) {x y : Int64} (hd : decode cc pc = .ok (.lcmp, 1)) (k : X (pc + 1) lv (.int (lg_cmp x y) :: st) h) : X pc lv (.long y :: .long x :: st) h := by
  obtain ⟨p, e, s, m, args, below, meth, c, rfl, hx, hb, hml, hown, hts, hr, hlk, hK, hN, hI⟩ := cx
  intro ls H locs hl hP hS
  exact W.lcmp hx hb hd (k ls H locs hl hP hS)
theorem jg_i2l (cx : jg_C E l R own cc nL ret Ts Q X) {x : Int32} (hd : decode cc pc = .ok (.i2l, 1)) (k : X (pc + 1) lv (.long x.toInt64 :: st) h) : X pc lv (.int x :: st) h := by
  obtain ⟨p, e, s, m, args, below, meth, c, rfl, hx, hb, hml, hown, hts, hr, hlk, hK, hN, hI⟩ := cx
  intro ls H locs hl hP hS
  exact lv_i2l hx hb hd rfl (k ls H locs hl hP hS)
theorem jg_l2i (cx : jg_C E l R own cc nL ret Ts Q X) {x : Int64} (hd : decode cc pc = .ok (.l2i, 1)) (k : X (pc + 1) lv (.int x.toInt32 :: st) h) : X pc lv (.long x :: st) h := by
  obtain ⟨p, e, s, m, args, below, meth, c, rfl, hx, hb, hml, hown, hts, hr, hlk, hK, hN, hI⟩ := cx
  intro ls H locs hl hP hS
  exact lv_l2i hx hb hd rfl (k ls H locs hl hP hS)
theorem jg_dup (cx : jg_C E l R own cc nL ret Ts Q X) {v : Value} (hd : decode cc pc = .ok (.dup, 1)) (hv : v.category = 1) (k : X (pc + 1) lv (v :: v :: st) h) : X pc lv (v :: st) h := by
  obtain ⟨p, e, s, m, args, below, meth, c, rfl, hx, hb, hml, hown, hts, hr, hlk, hK, hN, hI⟩ := cx
  intro ls H locs hl hP hS
  exact lv_dup hx hb hd hv (k ls H locs hl hP hS)
theorem jg_pop (cx : jg_C E l R own cc nL ret Ts Q X) {v : Value} (hd : decode cc pc = .ok (.pop, 1)) (hv : v.category = 1) (k : X (pc + 1) lv (st) h) : X pc lv (v :: st) h := by
  obtain ⟨p, e, s, m, args, below, meth, c, rfl, hx, hb, hml, hown, hts, hr, hlk, hK, hN, hI⟩ := cx
  intro ls H locs hl hP hS
  exact lv_pop hx hb hd hv (k ls H locs hl hP hS)
theorem jg_dup2 (cx : jg_C E l R own cc nL ret Ts Q X) {v w : Value} (hd : decode cc pc = .ok (.dup2, 1)) (hv : v.category = 1) (hw : w.category = 1) (k : X (pc + 1) lv (v :: w :: v :: w :: st) h) : X pc lv (v :: w :: st) h := by
  obtain ⟨p, e, s, m, args, below, meth, c, rfl, hx, hb, hml, hown, hts, hr, hlk, hK, hN, hI⟩ := cx
  intro ls H locs hl hP hS
  exact lv_dup2_11 hx hb hd hv hw (k ls H locs hl hP hS)
theorem jg_iaddN (cx : jg_C E l R own cc nL ret Ts Q X) {a b : Nat} (hd : decode cc pc = .ok (.iadd, 1)) (k : X (pc + 1) lv (.int (nI (a + b)) :: st) h) : X pc lv (.int (nI b) :: .int (nI a) :: st) h := by
  obtain ⟨p, e, s, m, args, below, meth, c, rfl, hx, hb, hml, hown, hts, hr, hlk, hK, hN, hI⟩ := cx
  intro ls H locs hl hP hS
  exact lv_iadd hx hb hd (by rw [nI_add]; exact k ls H locs hl hP hS)
theorem jg_imulN (cx : jg_C E l R own cc nL ret Ts Q X) {a b : Nat} (hd : decode cc pc = .ok (.imul, 1)) (k : X (pc + 1) lv (.int (nI (a * b)) :: st) h) : X pc lv (.int (nI b) :: .int (nI a) :: st) h := by
  obtain ⟨p, e, s, m, args, below, meth, c, rfl, hx, hb, hml, hown, hts, hr, hlk, hK, hN, hI⟩ := cx
  intro ls H locs hl hP hS
  exact lv_imul hx hb hd (by rw [pk_mul]; exact k ls H locs hl hP hS)
theorem jg_isubN (cx : jg_C E l R own cc nL ret Ts Q X) {a b : Nat} (hd : decode cc pc = .ok (.isub, 1)) (hab : b ≤ a) (k : X (pc + 1) lv (.int (nI (a - b)) :: st) h) : X pc lv (.int (nI b) :: .int (nI a) :: st) h := by
  obtain ⟨p, e, s, m, args, below, meth, c, rfl, hx, hb, hml, hown, hts, hr, hlk, hK, hN, hI⟩ := cx
  intro ls H locs hl hP hS
  exact lv_isub hx hb hd (by rw [pk_sub hab]; exact k ls H locs hl hP hS)
theorem jg_idivN (cx : jg_C E l R own cc nL ret Ts Q X) {a b : Nat} (hd : decode cc pc = .ok (.idiv, 1)) (ha : a < 2 ^ 31) (h0 : 0 < b) (hb2 : b < 2 ^ 31) (k : X (pc + 1) lv (.int (nI (a / b)) :: st) h) : X pc lv (.int (nI b) :: .int (nI a) :: st) h := by
  obtain ⟨p, e, s, m, args, below, meth, c, rfl, hx, hb, hml, hown, hts, hr, hlk, hK, hN, hI⟩ := cx
  intro ls H locs hl hP hS
  exact lv_idiv hx hb hd (nI_ne0 h0 hb2) (by rw [pk_div ha h0 hb2]; exact k ls H locs hl hP hS)
theorem jg_iremN (cx : jg_C E l R own cc nL ret Ts Q X) {a b : Nat} (hd : decode cc pc = .ok (.irem, 1)) (ha : a < 2 ^ 31) (h0 : 0 < b) (hb2 : b < 2 ^ 31) (k : X (pc + 1) lv (.int (nI (a % b)) :: st) h) : X pc lv (.int (nI b) :: .int (nI a) :: st) h := by
  obtain ⟨p, e, s, m, args, below, meth, c, rfl, hx, hb, hml, hown, hts, hr, hlk, hK, hN, hI⟩ := cx
  intro ls H locs hl hP hS
  exact lv_irem hx hb hd (nI_ne0 h0 hb2) (by rw [pk_rem ha h0 hb2]; exact k ls H locs hl hP hS)
theorem jg_if_eq (cx : jg_C E l R own cc nL ret Ts Q X) {x : Int32} {off : Int} {tgt : Nat} (hd : decode cc pc = .ok (.ifCond .eq off, 3)) (ht : (pc : Int) + off = (tgt : Int)) (kt : x = 0 → X tgt lv st h) (kf : ¬ x = 0 → X (pc + 3) lv st h) : X pc lv (.int x :: st) h := by
  obtain ⟨p, e, s, m, args, below, meth, c, rfl, hx, hb, hml, hown, hts, hr, hlk, hK, hN, hI⟩ := cx
  intro ls H locs hl hP hS
  exact lv_if_eq hx hb hd ht (fun c9 => kt c9 ls H locs hl hP hS) (fun c9 => kf c9 ls H locs hl hP hS)
theorem jg_icmp_eq (cx : jg_C E l R own cc nL ret Ts Q X) {x y : Int32} {off : Int} {tgt : Nat} (hd : decode cc pc = .ok (.if_icmp .eq off, 3)) (ht : (pc : Int) + off = (tgt : Int)) (kt : x = y → X tgt lv st h) (kf : ¬ x = y → X (pc + 3) lv st h) : X pc lv (.int y :: .int x :: st) h := by
  obtain ⟨p, e, s, m, args, below, meth, c, rfl, hx, hb, hml, hown, hts, hr, hlk, hK, hN, hI⟩ := cx
  intro ls H locs hl hP hS
  exact lv_icmp_eq hx hb hd ht (fun c9 => kt c9 ls H locs hl hP hS) (fun c9 => kf c9 ls H locs hl hP hS)
theorem jg_if_ne (cx : jg_C E l R own cc nL ret Ts Q X) {x : Int32} {off : Int} {tgt : Nat} (hd : decode cc pc = .ok (.ifCond .ne off, 3)) (ht : (pc : Int) + off = (tgt : Int)) (kt : ¬ x = 0 → X tgt lv st h) (kf : x = 0 → X (pc + 3) lv st h) : X pc lv (.int x :: st) h := by
  obtain ⟨p, e, s, m, args, below, meth, c, rfl, hx, hb, hml, hown, hts, hr, hlk, hK, hN, hI⟩ := cx
  intro ls H locs hl hP hS
  exact lv_if_ne hx hb hd ht (fun c9 => kt c9 ls H locs hl hP hS) (fun c9 => kf c9 ls H locs hl hP hS)
theorem jg_icmp_ne (cx : jg_C E l R own cc nL ret Ts Q X) {x y : Int32} {off : Int} {tgt : Nat} (hd : decode cc pc = .ok (.if_icmp .ne off, 3)) (ht : (pc : Int) + off = (tgt : Int)) (kt : ¬ x = y → X tgt lv st h) (kf : x = y → X (pc + 3) lv st h) : X pc lv (.int y :: .int x :: st) h := by
  obtain ⟨p, e, s, m, args, below, meth, c, rfl, hx, hb, hml, hown, hts, hr, hlk, hK, hN, hI⟩ := cx
  intro ls H locs hl hP hS
  exact lv_icmp_ne hx hb hd ht (fun c9 => kt c9 ls H locs hl hP hS) (fun c9 => kf c9 ls H locs hl hP hS)
theorem jg_if_lt (cx : jg_C E l R own cc nL ret Ts Q X) {x : Int32} {off : Int} {tgt : Nat} (hd : decode cc pc = .ok (.ifCond .lt off, 3)) (ht : (pc : Int) + off = (tgt : Int)) (kt : x < 0 → X tgt lv st h) (kf : ¬ x < 0 → X (pc + 3) lv st h) : X pc lv (.int x :: st) h := by
  obtain ⟨p, e, s, m, args, below, meth, c, rfl, hx, hb, hml, hown, hts, hr, hlk, hK, hN, hI⟩ := cx
  intro ls H locs hl hP hS
  exact lv_if_lt hx hb hd ht (fun c9 => kt c9 ls H locs hl hP hS) (fun c9 => kf c9 ls H locs hl hP hS)
theorem jg_icmp_lt (cx : jg_C E l R own cc nL ret Ts Q X) {x y : Int32} {off : Int} {tgt : Nat} (hd : decode cc pc = .ok (.if_icmp .lt off, 3)) (ht : (pc : Int) + off = (tgt : Int)) (kt : x < y → X tgt lv st h) (kf : ¬ x < y → X (pc + 3) lv st h) : X pc lv (.int y :: .int x :: st) h := by
  obtain ⟨p, e, s, m, args, below, meth, c, rfl, hx, hb, hml, hown, hts, hr, hlk, hK, hN, hI⟩ := cx
  intro ls H locs hl hP hS
  exact lv_icmp_lt hx hb hd ht (fun c9 => kt c9 ls H locs hl hP hS) (fun c9 => kf c9 ls H locs hl hP hS)
theorem jg_if_ge (cx : jg_C E l R own cc nL ret Ts Q X) {x : Int32} {off : Int} {tgt : Nat} (hd : decode cc pc = .ok (.ifCond .ge off, 3)) (ht : (pc : Int) + off = (tgt : Int)) (kt : 0 ≤ x → X tgt lv st h) (kf : ¬ 0 ≤ x → X (pc + 3) lv st h) : X pc lv (.int x :: st) h := by
  obtain ⟨p, e, s, m, args, below, meth, c, rfl, hx, hb, hml, hown, hts, hr, hlk, hK, hN, hI⟩ := cx
  intro ls H locs hl hP hS
  exact lv_if_ge hx hb hd ht (fun c9 => kt c9 ls H locs hl hP hS) (fun c9 => kf c9 ls H locs hl hP hS)
theorem jg_icmp_ge (cx : jg_C E l R own cc nL ret Ts Q X) {x y : Int32} {off : Int} {tgt : Nat} (hd : decode cc pc = .ok (.if_icmp .ge off, 3)) (ht : (pc : Int) + off = (tgt : Int)) (kt : y ≤ x → X tgt lv st h) (kf : ¬ y ≤ x → X (pc + 3) lv st h) : X pc lv (.int y :: .int x :: st) h := by
  obtain ⟨p, e, s, m, args, below, meth, c, rfl, hx, hb, hml, hown, hts, hr, hlk, hK, hN, hI⟩ := cx
  intro ls H locs hl hP hS
  exact lv_icmp_ge hx hb hd ht (fun c9 => kt c9 ls H locs hl hP hS) (fun c9 => kf c9 ls H locs hl hP hS)
theorem jg_if_gt (cx : jg_C E l R own cc nL ret Ts Q X) {x : Int32} {off : Int} {tgt : Nat} (hd : decode cc pc = .ok (.ifCond .gt off, 3)) (ht : (pc : Int) + off = (tgt : Int)) (kt : 0 < x → X tgt lv st h) (kf : ¬ 0 < x → X (pc + 3) lv st h) : X pc lv (.int x :: st) h := by
  obtain ⟨p, e, s, m, args, below, meth, c, rfl, hx, hb, hml, hown, hts, hr, hlk, hK, hN, hI⟩ := cx
  intro ls H locs hl hP hS
  exact lv_if_gt hx hb hd ht (fun c9 => kt c9 ls H locs hl hP hS) (fun c9 => kf c9 ls H locs hl hP hS)
theorem jg_icmp_gt (cx : jg_C E l R own cc nL ret Ts Q X) {x y : Int32} {off : Int} {tgt : Nat} (hd : decode cc pc = .ok (.if_icmp .gt off, 3)) (ht : (pc : Int) + off = (tgt : Int)) (kt : y < x → X tgt lv st h) (kf : ¬ y < x → X (pc + 3) lv st h) : X pc lv (.int y :: .int x :: st) h := by
  obtain ⟨p, e, s, m, args, below, meth, c, rfl, hx, hb, hml, hown, hts, hr, hlk, hK, hN, hI⟩ := cx
  intro ls H locs hl hP hS
  exact lv_icmp_gt hx hb hd ht (fun c9 => kt c9 ls H locs hl hP hS) (fun c9 => kf c9 ls H locs hl hP hS)
theorem jg_if_le (cx : jg_C E l R own cc nL ret Ts Q X) {x : Int32} {off : Int} {tgt : Nat} (hd : decode cc pc = .ok (.ifCond .le off, 3)) (ht : (pc : Int) + off = (tgt : Int)) (kt : x ≤ 0 → X tgt lv st h) (kf : ¬ x ≤ 0 → X (pc + 3) lv st h) : X pc lv (.int x :: st) h := by
  obtain ⟨p, e, s, m, args, below, meth, c, rfl, hx, hb, hml, hown, hts, hr, hlk, hK, hN, hI⟩ := cx
  intro ls H locs hl hP hS
  exact lv_if_le hx hb hd ht (fun c9 => kt c9 ls H locs hl hP hS) (fun c9 => kf c9 ls H locs hl hP hS)
theorem jg_icmp_le (cx : jg_C E l R own cc nL ret Ts Q X) {x y : Int32} {off : Int} {tgt : Nat} (hd : decode cc pc = .ok (.if_icmp .le off, 3)) (ht : (pc : Int) + off = (tgt : Int)) (kt : x ≤ y → X tgt lv st h) (kf : ¬ x ≤ y → X (pc + 3) lv st h) : X pc lv (.int y :: .int x :: st) h := by
  obtain ⟨p, e, s, m, args, below, meth, c, rfl, hx, hb, hml, hown, hts, hr, hlk, hK, hN, hI⟩ := cx
  intro ls H locs hl hP hS
  exact lv_icmp_le hx hb hd ht (fun c9 => kt c9 ls H locs hl hP hS) (fun c9 => kf c9 ls H locs hl hP hS)
theorem jg_goto (cx : jg_C E l R own cc nL ret Ts Q X) {off : Int} {tgt : Nat} (hd : decode cc pc = .ok (.goto off, 3)) (ht : (pc : Int) + off = (tgt : Int)) (k : X tgt lv st h) : X pc lv st h := by
  obtain ⟨p, e, s, m, args, below, meth, c, rfl, hx, hb, hml, hown, hts, hr, hlk, hK, hN, hI⟩ := cx
  intro ls H locs hl hP hS
  exact lv_goto hx hb hd ht (k ls H locs hl hP hS)
theorem jg_icmpN_ge (cx : jg_C E l R own cc nL ret Ts Q X) {a b : Nat} {off : Int} {tgt : Nat} (hd : decode cc pc = .ok (.if_icmp .ge off, 3)) (ht : (pc : Int) + off = (tgt : Int)) (ha : a < 2 ^ 31) (hb2 : b < 2 ^ 31) (kt : b ≤ a → X tgt lv st h) (kf : a < b → X (pc + 3) lv st h) : X pc lv (.int (nI b) :: .int (nI a) :: st) h :=
  jg_icmp_ge cx hd ht (fun c9 => kt ((nI_leI hb2 ha).mp c9)) (fun c9 => kf (by have c8 : ¬ (b ≤ a) := fun q => c9 ((nI_leI hb2 ha).mpr q); omega))
theorem jg_icmpN_gt (cx : jg_C E l R own cc nL ret Ts Q X) {a b : Nat} {off : Int} {tgt : Nat} (hd : decode cc pc = .ok (.if_icmp .gt off, 3)) (ht : (pc : Int) + off = (tgt : Int)) (ha : a < 2 ^ 31) (hb2 : b < 2 ^ 31) (kt : b < a → X tgt lv st h) (kf : a ≤ b → X (pc + 3) lv st h) : X pc lv (.int (nI b) :: .int (nI a) :: st) h :=
  jg_icmp_gt cx hd ht (fun c9 => kt ((nI_ltI hb2 ha).mp c9)) (fun c9 => kf (by have c8 : ¬ (b < a) := fun q => c9 ((nI_ltI hb2 ha).mpr q); omega))
theorem jg_icmpN_lt (cx : jg_C E l R own cc nL ret Ts Q X) {a b : Nat} {off : Int} {tgt : Nat} (hd : decode cc pc = .ok (.if_icmp .lt off, 3)) (ht : (pc : Int) + off = (tgt : Int)) (ha : a < 2 ^ 31) (hb2 : b < 2 ^ 31) (kt : a < b → X tgt lv st h) (kf : b ≤ a → X (pc + 3) lv st h) : X pc lv (.int (nI b) :: .int (nI a) :: st) h :=
  jg_icmp_lt cx hd ht (fun c9 => kt ((nI_ltI ha hb2).mp c9)) (fun c9 => kf (by have c8 : ¬ (a < b) := fun q => c9 ((nI_ltI ha hb2).mpr q); omega))
theorem jg_icmpN_le (cx : jg_C E l R own cc nL ret Ts Q X) {a b : Nat} {off : Int} {tgt : Nat} (hd : decode cc pc = .ok (.if_icmp .le off, 3)) (ht : (pc : Int) + off = (tgt : Int)) (ha : a < 2 ^ 31) (hb2 : b < 2 ^ 31) (kt : a ≤ b → X tgt lv st h) (kf : b < a → X (pc + 3) lv st h) : X pc lv (.int (nI b) :: .int (nI a) :: st) h :=
  jg_icmp_le cx hd ht (fun c9 => kt ((nI_leI ha hb2).mp c9)) (fun c9 => kf (by have c8 : ¬ (a ≤ b) := fun q => c9 ((nI_leI ha hb2).mpr q); omega))
theorem jg_icmpN_eq (cx : jg_C E l R own cc nL ret Ts Q X) {a b : Nat} {off : Int} {tgt : Nat} (hd : decode cc pc = .ok (.if_icmp .eq off, 3)) (ht : (pc : Int) + off = (tgt : Int)) (ha : a < 2 ^ 31) (hb2 : b < 2 ^ 31) (kt : a = b → X tgt lv st h) (kf : a ≠ b → X (pc + 3) lv st h) : X pc lv (.int (nI b) :: .int (nI a) :: st) h :=
  jg_icmp_eq cx hd ht (fun c9 => kt ((nI_eq ha hb2).mp c9)) (fun c9 => kf (fun q => c9 ((nI_eq ha hb2).mpr q)))
theorem jg_icmpN_ne (cx : jg_C E l R own cc nL ret Ts Q X) {a b : Nat} {off : Int} {tgt : Nat} (hd : decode cc pc = .ok (.if_icmp .ne off, 3)) (ht : (pc : Int) + off = (tgt : Int)) (ha : a < 2 ^ 31) (hb2 : b < 2 ^ 31) (kt : a ≠ b → X tgt lv st h) (kf : a = b → X (pc + 3) lv st h) : X pc lv (.int (nI b) :: .int (nI a) :: st) h :=
  jg_icmp_ne cx hd ht (fun c9 => kt (fun q => c9 ((nI_eq ha hb2).mpr q))) (fun c9 => kf (by first | exact (nI_eq ha hb2).mp c9 | exact (nI_eq ha hb2).mp (Classical.not_not.mp c9)))
/-- branches on a yes or no -/
theorem jg_ifb_eq (cx : jg_C E l R own cc nL ret Ts Q X) {x : Bool} {off : Int} {tgt : Nat} (hd : decode cc pc = .ok (.ifCond .eq off, 3)) (ht : (pc : Int) + off = (tgt : Int)) (kt : x = false → X tgt lv st h) (kf : x = true → X (pc + 3) lv st h) : X pc lv (.int (jp_b x) :: st) h :=
  jg_if_eq cx hd ht (fun c9 => kt (by cases x <;> simp_all [jp_b])) (fun c9 => kf (by cases x <;> simp_all [jp_b]))
theorem jg_ifb_ne (cx : jg_C E l R own cc nL ret Ts Q X) {x : Bool} {off : Int} {tgt : Nat} (hd : decode cc pc = .ok (.ifCond .ne off, 3)) (ht : (pc : Int) + off = (tgt : Int)) (kt : x = true → X tgt lv st h) (kf : x = false → X (pc + 3) lv st h) : X pc lv (.int (jp_b x) :: st) h :=
  jg_if_ne cx hd ht (fun c9 => kt (by cases x <;> simp_all [jp_b])) (fun c9 => kf (by cases x <;> simp_all [jp_b]))
theorem jg_tableIn (cx : jg_C E l R own cc nL ret Ts Q X) {dflt lo hi : Int} {offs : Array Int} {len : Nat} {x : Int32} {off : Int} {tgt : Nat} (hd : decode cc pc = .ok (.tableswitch dflt lo hi offs, len)) (h1 : ¬ x.toInt < lo) (h2 : ¬ hi < x.toInt) (ho : offs[(x.toInt - lo).toNat]? = some off) (ht : (pc : Int) + off = (tgt : Int)) (k : X tgt lv st h) : X pc lv (.int x :: st) h := by
  obtain ⟨p, e, s, m, args, below, meth, c, rfl, hx, hb, hml, hown, hts, hr, hlk, hK, hN, hI⟩ := cx
  intro ls H locs hl hP hS
  exact lv_tableIn hx hb hd h1 h2 ho ht (k ls H locs hl hP hS)
theorem jg_tableOut (cx : jg_C E l R own cc nL ret Ts Q X) {dflt lo hi : Int} {offs : Array Int} {len : Nat} {x : Int32} {tgt : Nat} (hd : decode cc pc = .ok (.tableswitch dflt lo hi offs, len)) (h1 : x.toInt < lo ∨ hi < x.toInt) (ht : (pc : Int) + dflt = (tgt : Int)) (k : X tgt lv st h) : X pc lv (.int x :: st) h := by
  obtain ⟨p, e, s, m, args, below, meth, c, rfl, hx, hb, hml, hown, hts, hr, hlk, hK, hN, hI⟩ := cx
  intro ls H locs hl hP hS
  exact lv_tableOut hx hb hd h1 ht (k ls H locs hl hP hS)
theorem jg_lookup (cx : jg_C E l R own cc nL ret Ts Q X) {dflt : Int} {ps : Array (Int × Int)} {len : Nat} {x : Int32} {off : Int} {tgt : Nat} (hd : decode cc pc = .ok (.lookupswitch dflt ps, len)) (hp : (ps.toList.zip (ps.toList.drop 1)).all (fun (a, next) => a.1 < next.1) = true) (ho : Op.lookupswitch.offset ps.toList dflt x.toInt = off) (ht : (pc : Int) + off = (tgt : Int)) (k : X tgt lv st h) : X pc lv (.int x :: st) h := by
  obtain ⟨p, e, s, m, args, below, meth, c, rfl, hx, hb, hml, hown, hts, hr, hlk, hK, hN, hI⟩ := cx
  intro ls H locs hl hP hS
  exact lv_lookup hx hb hd hp ho ht (k ls H locs hl hP hS)
/-- fewer locals -/
theorem jg_sub (cx : jg_C E l R own cc nL ret Ts Q X) {lv' : List (Nat × Value)} (ks : List Nat) (hk : lv_pick lv ks = lv') (k : X pc lv' st h) : X pc lv st h := by
  obtain ⟨p, e, s, m, args, below, meth, c, rfl, hx, hb, hml, hown, hts, hr, hlk, hK, hN, hI⟩ := cx
  intro ls H locs hl hP hS
  exact k ls H locs (lv_sub hl ks hk) hP hS
theorem jp_pl {E : jp_E} {h : jp_H} {b r : Nat} (hm : (b, r) ∈ jp_ix) : ∃ i : Nat, jp_ix[i]? = some (b, r) ∧ (jp_w E h)[i]? = some (E.2.1 b r, jp_c E h b r) := by
  obtain ⟨i, hi⟩ := List.getElem?_of_mem hm
  exact ⟨i, hi, jp_w_get hi⟩
theorem jg_iald (cx : jg_C E l R own cc nL ret Ts Q X) {b r n j : Nat} {x : Int32} (hd : decode cc pc = .ok (.iaload, 1)) (hz : jp_Zi b r n) (hxj : x = nI j) (hj : j < n) (k : X (pc + 1) lv (.int (h.1 b r j) :: st) h) : X pc lv (.int x :: .ref (E.2.1 b r) :: st) h := by
  obtain ⟨p, e, s, m, args, below, meth, c, rfl, hx, hb, hml, hown, hts, hr, hlk, hK, hN, hI⟩ := cx
  intro ls H locs hl hP hS
  obtain ⟨h31, hm, hc⟩ := hz
  obtain ⟨i, -, hi⟩ := jp_pl (E := E) (h := h) hm
  rw [hc] at hi
  subst hxj
  refine va_iald hx hb hK hP i 0 hi rfl (vp_in_nI hj h31) hd ?_
  rw [nI_clamp (by omega)]
  exact (k ls H locs hl hP hS)
theorem jg_zald (cx : jg_C E l R own cc nL ret Ts Q X) {b r n j : Nat} {x : Int32} (hd : decode cc pc = .ok (.baload, 1)) (hz : jp_Zz b r n) (hxj : x = nI j) (hj : j < n) (k : X (pc + 1) lv (.int (h.1 b r j) :: st) h) : X pc lv (.int x :: .ref (E.2.1 b r) :: st) h := by
  obtain ⟨p, e, s, m, args, below, meth, c, rfl, hx, hb, hml, hown, hts, hr, hlk, hK, hN, hI⟩ := cx
  intro ls H locs hl hP hS
  obtain ⟨h31, hm, hc⟩ := hz
  obtain ⟨i, -, hi⟩ := jp_pl (E := E) (h := h) hm
  rw [hc] at hi
  subst hxj
  refine va_zald hx hb hK hP i 2 hi rfl (vp_in_nI hj h31) hd ?_
  rw [nI_clamp (by omega)]
  exact (k ls H locs hl hP hS)
theorem jg_lald (cx : jg_C E l R own cc nL ret Ts Q X) {b r n j : Nat} {x : Int32} (hd : decode cc pc = .ok (.laload, 1)) (hz : jp_Zl b r n) (hxj : x = nI j) (hj : j < n) (k : X (pc + 1) lv (.long (h.2 b r j) :: st) h) : X pc lv (.int x :: .ref (E.2.1 b r) :: st) h := by
  obtain ⟨p, e, s, m, args, below, meth, c, rfl, hx, hb, hml, hown, hts, hr, hlk, hK, hN, hI⟩ := cx
  intro ls H locs hl hP hS
  obtain ⟨h31, hm, hc⟩ := hz
  obtain ⟨i, -, hi⟩ := jp_pl (E := E) (h := h) hm
  rw [hc] at hi
  subst hxj
  refine va_lald hx hb hK hP i 1 hi rfl (vp_in_nI hj h31) hd ?_
  rw [nI_clamp (by omega)]
  exact (k ls H locs hl hP hS)
theorem jg_iast (cx : jg_C E l R own cc nL ret Ts Q X) {b r n j : Nat} {x : Int32} {v : Int32} (hd : decode cc pc = .ok (.iastore, 1)) (hz : jp_Zi b r n) (hxj : x = nI j) (hj : j < n) (k : X (pc + 1) lv st (jp_s h b r j v)) : X pc lv (.int v :: .int x :: .ref (E.2.1 b r) :: st) h := by
  obtain ⟨p, e, s, m, args, below, meth, c, rfl, hx, hb, hml, hown, hts, hr, hlk, hK, hN, hI⟩ := cx
  intro ls H locs hl hP hS
  obtain ⟨h31, hm, hc⟩ := hz
  obtain ⟨i, hi0, hi⟩ := jp_pl (E := E) (h := h) hm
  rw [hc] at hi
  subst hxj
  refine va_iast hx hb hK hP (jp_D hI h) hS i 0 hi rfl (vp_in_nI hj h31) hd (fun H1 locs1 hP1 hD1 hS1 => ?_)
  rw [nI_clamp (by omega)] at hP1
  refine k ls H1 locs1 hl ?_ hS1
  rw [← jp_w_set (h := h) (h' := jp_s h b r j v) hi0 (hc E _) (fun b' r' hn => ?_) (fun b' r' hn => ?_)]
  · show va_P E.1 vwCl ((jp_w E h).set i (E.2.1 b r, _)) H1
    rw [show (jp_s h b r j v).1 b r = upd (h.1 b r) j v from jp_sr_1 h b r _]
    exact hP1
  · exact (jp_sr_n h _ hn).symm
  · rfl
theorem jg_last (cx : jg_C E l R own cc nL ret Ts Q X) {b r n j : Nat} {x : Int32} {v : Int64} (hd : decode cc pc = .ok (.lastore, 1)) (hz : jp_Zl b r n) (hxj : x = nI j) (hj : j < n) (k : X (pc + 1) lv st (jp_sL h b r j v)) : X pc lv (.long v :: .int x :: .ref (E.2.1 b r) :: st) h := by
  obtain ⟨p, e, s, m, args, below, meth, c, rfl, hx, hb, hml, hown, hts, hr, hlk, hK, hN, hI⟩ := cx
  intro ls H locs hl hP hS
  obtain ⟨h31, hm, hc⟩ := hz
  obtain ⟨i, hi0, hi⟩ := jp_pl (E := E) (h := h) hm
  rw [hc] at hi
  subst hxj
  refine va_last hx hb hK hP (jp_D hI h) hS i 1 hi rfl (vp_in_nI hj h31) hd (fun H1 locs1 hP1 hD1 hS1 => ?_)
  rw [nI_clamp (by omega)] at hP1
  refine k ls H1 locs1 hl ?_ hS1
  rw [← jp_w_set (h := h) (h' := jp_sL h b r j v) hi0 (hc E _) (fun b' r' hn => ?_) (fun b' r' hn => ?_)]
  · show va_P E.1 vwCl ((jp_w E h).set i (E.2.1 b r, _)) H1
    rw [show (jp_sL h b r j v).2 b r = vp_updL (h.2 b r) j v from jp_sl_1 h b r _]
    exact hP1
  · rfl
  · exact (jp_sl_n h _ hn).symm
theorem jg_zast (cx : jg_C E l R own cc nL ret Ts Q X) {b r n j : Nat} {x : Int32} {v : Bool} (hd : decode cc pc = .ok (.bastore, 1)) (hz : jp_Zz b r n) (hxj : x = nI j) (hj : j < n) (k : X (pc + 1) lv st (jp_s h b r j (jp_b v))) : X pc lv (.int (jp_b v) :: .int x :: .ref (E.2.1 b r) :: st) h := by
  obtain ⟨p, e, s, m, args, below, meth, c, rfl, hx, hb, hml, hown, hts, hr, hlk, hK, hN, hI⟩ := cx
  intro ls H locs hl hP hS
  obtain ⟨h31, hm, hc⟩ := hz
  obtain ⟨i, hi0, hi⟩ := jp_pl (E := E) (h := h) hm
  rw [hc] at hi
  subst hxj
  refine va_zast hx hb hK hP (jp_D hI h) hS i 2 hi rfl (vp_in_nI hj h31) hd (fun H1 locs1 hP1 hD1 hS1 => ?_)
  rw [nI_clamp (by omega)] at hP1
  rw [show vp_nar .boolean (jp_b v) = jp_b v by cases v <;> rfl] at hP1
  refine k ls H1 locs1 hl ?_ hS1
  rw [← jp_w_set (h := h) (h' := jp_s h b r j (jp_b v)) hi0 (hc E _) (fun b' r' hn => ?_) (fun b' r' hn => ?_)]
  · show va_P E.1 vwCl ((jp_w E h).set i (E.2.1 b r, _)) H1
    rw [show (jp_s h b r j (jp_b v)).1 b r = upd (h.1 b r) j (jp_b v) from jp_sr_1 h b r _]
    exact hP1
  · exact (jp_sr_n h _ hn).symm
  · rfl
theorem jg_get (cx : jg_C E l R own cc nL ret Ts Q X) {b ci N idx : Nat} {fs : jp_E → jp_H → List Value} {C : String} {T : u_T} (hz : jp_Zo b ci fs) (hcl : vwCl[ci]? = some (C, T, N)) (hin : ∀ w ∈ u_ws C T N, w ∈ Ts) (k : Nat) (hk : k < N) (hw : Cond.fieldLink own idx (T k).1 (T k).2.1 (T k).2.2.1 ∈ Ts) {v : Value} (hv : (fs E h)[k]? = some v) (hd : decode cc pc = .ok (.getfield idx, 3)) (kk : X (pc + 3) lv (v :: st) h) : X pc lv (.ref (E.2.1 b 0) :: st) h := by
  obtain ⟨p, e, s, m, args, below, meth, c, rfl, hx, hb, hml, hown, hts, hr, hlk, hK, hN, hI⟩ := cx
  intro ls H locs hl hP hS
  obtain ⟨hm, hc⟩ := hz
  obtain ⟨i, -, hi⟩ := jp_pl (E := E) (h := h) hm
  rw [hc] at hi
  exact va_get hx hb hts hin hown hK hP i hi hcl k hk (hts _ hw) (fun _ h9 => h9) hv hd (kk ls H locs hl hP hS)
theorem jg_getN (cx : jg_C E l R own cc nL ret Ts Q X) {b ci N idx : Nat} {fs : jp_E → jp_H → List Value} {C : String} {T : u_T} (hz : jp_Zo b ci fs) (hcl : vwCl[ci]? = some (C, T, N)) (hin : ∀ w ∈ u_ws C T N, w ∈ Ts) (k : Nat) (hk : k < N) (hw : (own, idx, (T k).1, (T k).2.1, (T k).2.2.1) ∈ jp_nF) {v : Value} (hv : (fs E h)[k]? = some v) (hd : decode cc pc = .ok (.getfield idx, 3)) (kk : X (pc + 3) lv (v :: st) h) : X pc lv (.ref (E.2.1 b 0) :: st) h := by
  obtain ⟨p, e, s, m, args, below, meth, c, rfl, hx, hb, hml, hown, hts, hr, hlk, hK, hN, hI⟩ := cx
  intro ls H locs hl hP hS
  obtain ⟨hm, hc⟩ := hz
  obtain ⟨i, -, hi⟩ := jp_pl (E := E) (h := h) hm
  rw [hc] at hi
  exact va_getN hx hb hts hin hown hK hP i hi hcl k hk (va_Nw.use rfl (hN.1 _ hw)) (fun _ h9 => h9) hv hd (kk ls H locs hl hP hS)
theorem jg_put (cx : jg_C E l R own cc nL ret Ts Q X) {b ci N idx : Nat} {fs : jp_E → jp_H → List Value} {C : String} {T : u_T} (hz : jp_Zo b ci fs) (hcl : vwCl[ci]? = some (C, T, N)) (hin : ∀ w ∈ u_ws C T N, w ∈ Ts) (ty0 : Nat → FieldType) (hty : ∀ k, k < N → parseFieldDescriptor (T k).2.2.1 = some (ty0 k)) (hnm : ∀ a, a < N → ∀ b, b < N → a ≠ b → (T a).2.1 ≠ (T b).2.1) (k : Nat) (hk : k < N) (hw : Cond.fieldLink own idx (T k).1 (T k).2.1 (T k).2.2.1 ∈ Ts) (hfin : (T k).2.2.2 = false) (hI9 : parseFieldDescriptor (T k).2.2.1 = some .int) {x : Int32} (hlen : k < (fs E h).length) (hset : fs E (jp_s h b 0 k x) = (fs E h).set k (.int x)) (hd : decode cc pc = .ok (.putfield idx, 3)) (kk : X (pc + 3) lv st (jp_s h b 0 k x)) : X pc lv (.int x :: .ref (E.2.1 b 0) :: st) h := by
  obtain ⟨p, e, s, m, args, below, meth, c, rfl, hx, hb, hml, hown, hts, hr, hlk, hK, hN, hI⟩ := cx
  intro ls H locs hl hP hS
  obtain ⟨hm, hc⟩ := hz
  obtain ⟨i, hi0, hi⟩ := jp_pl (E := E) (h := h) hm
  rw [hc] at hi
  refine va_put hx hb hts hin ty0 hty hnm hown hK hP (jp_D hI h) hS i hi hcl k hk (hts _ hw) (fun _ h9 => h9) hfin hI9 rfl rfl hlen hd (fun H1 locs1 hP1 hD1 hS1 => ?_)
  refine kk ls H1 locs1 hl ?_ hS1
  rw [← jp_w_set (h := h) (h' := jp_s h b 0 k x) hi0 ((hc E _).trans (by rw [hset])) (fun b' r' hn => (jp_sr_n h _ hn).symm) (fun b' r' hn => rfl)]
  exact hP1
theorem jg_putN (cx : jg_C E l R own cc nL ret Ts Q X) {b ci N idx : Nat} {fs : jp_E → jp_H → List Value} {C : String} {T : u_T} (hz : jp_Zo b ci fs) (hcl : vwCl[ci]? = some (C, T, N)) (hin : ∀ w ∈ u_ws C T N, w ∈ Ts) (ty0 : Nat → FieldType) (hty : ∀ k, k < N → parseFieldDescriptor (T k).2.2.1 = some (ty0 k)) (hnm : ∀ a, a < N → ∀ b, b < N → a ≠ b → (T a).2.1 ≠ (T b).2.1) (k : Nat) (hk : k < N) (hw : (own, idx, (T k).1, (T k).2.1, (T k).2.2.1) ∈ jp_nF) (hfin : (T k).2.2.2 = false) (hI9 : parseFieldDescriptor (T k).2.2.1 = some .int) {x : Int32} (hlen : k < (fs E h).length) (hset : fs E (jp_s h b 0 k x) = (fs E h).set k (.int x)) (hd : decode cc pc = .ok (.putfield idx, 3)) (kk : X (pc + 3) lv st (jp_s h b 0 k x)) : X pc lv (.int x :: .ref (E.2.1 b 0) :: st) h := by
  obtain ⟨p, e, s, m, args, below, meth, c, rfl, hx, hb, hml, hown, hts, hr, hlk, hK, hN, hI⟩ := cx
  intro ls H locs hl hP hS
  obtain ⟨hm, hc⟩ := hz
  obtain ⟨i, hi0, hi⟩ := jp_pl (E := E) (h := h) hm
  rw [hc] at hi
  refine va_putN hx hb hts hin ty0 hty hnm hown hK hP (jp_D hI h) hS i hi hcl k hk (va_Nw.use rfl (hN.1 _ hw)) (fun _ h9 => h9) hfin hI9 rfl rfl hlen hd (fun H1 locs1 hP1 hD1 hS1 => ?_)
  refine kk ls H1 locs1 hl ?_ hS1
  rw [← jp_w_set (h := h) (h' := jp_s h b 0 k x) hi0 ((hc E _).trans (by rw [hset])) (fun b' r' hn => (jp_sr_n h _ hn).symm) (fun b' r' hn => rfl)]
  exact hP1
theorem jg_iret (cx : jg_C E l R own cc nL (some .int) Ts Q X) {v : Int32} (hd : decode cc pc = .ok (.ireturn, 1)) (hq : Q (some (.int v)) h) : X pc lv [.int v] h := by
  obtain ⟨p, e, s, m, args, below, meth, c, rfl, hx, hb, hml, hown, hts, hr, hlk, hK, hN, hI⟩ := cx
  intro ls H locs hl hP hS
  exact W.iret hx hb hr (fun t ht hW => ⟨⟨_, h, rfl, hq, by rw [ht]; exact hP⟩, hS.F ht⟩) hS.2.2 hd hlk
theorem jg_bret (cx : jg_C E l R own cc nL (some .boolean) Ts Q X) {v : Bool} (hd : decode cc pc = .ok (.ireturn, 1)) (hq : Q (some (.int (jp_b v))) h) : X pc lv [.int (jp_b v)] h := by
  obtain ⟨p, e, s, m, args, below, meth, c, rfl, hx, hb, hml, hown, hts, hr, hlk, hK, hN, hI⟩ := cx
  intro ls H locs hl hP hS
  exact W.zret hx hb hr (by cases v <;> rfl) (fun t ht hW => ⟨⟨_, h, rfl, hq, by rw [ht]; exact hP⟩, hS.F ht⟩) hS.2.2 hd hlk
theorem jg_lret (cx : jg_C E l R own cc nL (some .long) Ts Q X) {v : Int64} (hd : decode cc pc = .ok (.lreturn, 1)) (hq : Q (some (.long v)) h) : X pc lv [.long v] h := by
  obtain ⟨p, e, s, m, args, below, meth, c, rfl, hx, hb, hml, hown, hts, hr, hlk, hK, hN, hI⟩ := cx
  intro ls H locs hl hP hS
  exact W.lret hx hb hr (fun t ht hW => ⟨⟨_, h, rfl, hq, by rw [ht]; exact hP⟩, hS.F ht⟩) hS.2.2 hd hlk
theorem jg_aret {C9 : String} (cx : jg_C E l R own cc nL (some (.object C9)) Ts Q X) {v : Nat} (hd : decode cc pc = .ok (.areturn, 1)) (hq : Q (some (.ref v)) h) : X pc lv [.ref v] h := by
  obtain ⟨p, e, s, m, args, below, meth, c, rfl, hx, hb, hml, hown, hts, hr, hlk, hK, hN, hI⟩ := cx
  intro ls H locs hl hP hS
  exact W.aret hx hb hr (Or.inl ⟨_, rfl⟩) (Or.inr ⟨_, rfl⟩) (fun t ht hW => ⟨⟨_, h, rfl, hq, by rw [ht]; exact hP⟩, hS.F ht⟩) hS.2.2 hd hlk
theorem jg_vret (cx : jg_C E l R own cc nL none Ts Q X) (hd : decode cc pc = .ok (.return_, 1)) (hq : Q none h) : X pc lv [] h := by
  obtain ⟨p, e, s, m, args, below, meth, c, rfl, hx, hb, hml, hown, hts, hr, hlk, hK, hN, hI⟩ := cx
  intro ls H locs hl hP hS
  exact W.vret hx hb hr (fun t ht hW => ⟨⟨_, h, rfl, hq, by rw [ht]; exact hP⟩, hS.F ht⟩) hS.2.2 hd hlk
end
end
section
/-! ===== a method's contract out of its walk; calls ===== -/
theorem jc_of {E : jp_E} {l : Launch} {y : MethodName} {ws ws' : List Cond} {rm : Room} {as : List Value} {h : jp_H} {Q : Option Value → jp_H → Prop} {cc : ByteArray} {maxL : Nat} {ret : Option FieldType} {own : String} {lv : List (Nat × Value)} (hp : plainName y.cls = true) (hw : ws = Cond.code y cc maxL ret :: ws') (hown : y.cls = own) (hlen : (lg_sl as).length ≤ maxL) (hlv : lv_args 0 as = lv) (body : ∀ X : jp_X, jg_C E l rm own cc maxL ret ws Q X → X 0 lv [] h) : jc_M E l y ws rm as h Q := by
  refine Met.ofW (cc := cc) (maxL := maxL) (ret := ret) hp hw ?_
  intro p e s m args below meth c s₁ B hml hv
  obtain ⟨rfl, hP, hK, hN, hI⟩ := hv
  have hts := atoms_spec (ws := ws) B.pre
  have hown' : s.vm.findClass own = some m.cls := hown ▸ findClass_of_methodNamed B.named
  have hl := lv_entry as (n := maxL) hlen
  rw [lg_entry_eq]
  generalize (lg_sl as ++ List.replicate (maxL - (lg_sl as).length) Slot.unset).toArray = ls at hl ⊢
  rw [hlv] at hl
  exact body _ ⟨p, e, s, m, _, below, meth, c, rfl, B.exec, B.bytes, hml, hown', hts, B.returns, B.notSynchronized, hK, hN, hI⟩ ls s.heap [] hl hP va_S.rf
theorem jc_ofF {E : jp_E} {l : Launch} {y : MethodName} {ws ws' : List Cond} {rm : Room} {as : List Value} {h : jp_H} {Q : Option Value → jp_H → Prop} {cc : ByteArray} {maxL : Nat} {ret : Option FieldType} {own : String} {lv : List (Nat × Value)} (hp : plainFor y = true) (hw : ws = Cond.code y cc maxL ret :: ws') (hown : y.cls = own) (hlen : (lg_sl as).length ≤ maxL) (hlv : lv_args 0 as = lv) (body : ∀ X : jp_X, jg_C E l rm own cc maxL ret ws Q X → X 0 lv [] h) : jc_M E l y ws rm as h Q := by
  refine va_MetF (cc := cc) (maxL := maxL) (ret := ret) hp hw ?_
  intro p e s m args below meth c s₁ B hml hv
  obtain ⟨rfl, hP, hK, hN, hI⟩ := hv
  have hts := atoms_spec (ws := ws) B.pre
  have hown' : s.vm.findClass own = some m.cls := hown ▸ findClass_of_methodNamed B.named
  have hl := lv_entry as (n := maxL) hlen
  rw [lg_entry_eq]
  generalize (lg_sl as ++ List.replicate (maxL - (lg_sl as).length) Slot.unset).toArray = ls at hl ⊢
  rw [hlv] at hl
  exact body _ ⟨p, e, s, m, _, below, meth, c, rfl, B.exec, B.bytes, hml, hown', hts, B.returns, B.notSynchronized, hK, hN, hI⟩ ls s.heap [] hl hP va_S.rf
theorem jc_blind {E : jp_E} {as : List Value} {h : jp_H} : FrameBlind (va_Pc as (jp_Ok E h)) := fun a U g mk q => by
  obtain ⟨q0, qP, qK, qN, qI⟩ := q
  exact ⟨q0, qP, va_K.moved (u := U) (U := U.calling g mk a) (Vm.Alike.refl U.vm) qK, qN.same rfl, qI⟩
theorem jw_call {p : Program} {l : Launch} {e : Env} {R : Room} {s : State} {m : MethodId} {args : Array Value} {below : List Frame} {meth : Method} {c : Code} {H H0 : Heap} {locs : List Loc} {cells slots : Nat} {Q : State → Prop} {pc : Nat} {ls : Array Slot} {rest st0 : List Value} {a : Array Value} {E : jp_E} {Qy : Option Value → jp_H → Prop} {A : Nat → Prop}
    (hr : va_Run p l e R s m args below meth c H locs cells slots 0 0 (F0 m pc ls st0) rest (jp_Q E Qy a) (jp_A E)) (hA : ∀ q, jp_A E q → A q) (hS : va_S A H0 H locs)
    (kk : ∀ (v : Option Value) (h' : jp_H) (H1 : Heap) (locs1 : List Loc), Qy v h' → va_P E.1 vwCl (jp_w E h') H1 → va_S A H0 H1 locs1 → W p l e R s m args below meth c H1 locs1 cells slots Q (F0 m (pc + 3) ls (v.toList ++ rest))) : W p l e R s m args below meth c H locs cells slots Q (F0 m pc ls st0) := by
  intro T hT X
  obtain ⟨v, st₀, t, T', L, h0, X', hL, e1, e2, ⟨⟨v', h', hv, hq, hp⟩, hz, hk⟩, st⟩ := hr T hT X
  cases hv
  rw [h0] at hz hk
  obtain ⟨t2, a1, b1⟩ := kk v h' T'.heap (locs ++ L) hq (by rw [e1]; exact hp)
    ⟨Nat.le_trans hS.1 (by rw [e1]; exact hz), fun q h1 h2 => by rw [e1, hk q (Nat.lt_of_lt_of_le h1 hS.1) (fun z => h2 (hA q z))]; exact hS.2.1 q h1 h2, fun q hq => by
      rcases List.mem_append.mp hq with h | h
      · exact hS.2.2 q h
      · exact hA _ (hL q h)⟩ T' rfl X'
  exact ⟨t2, st t2 a1, b1⟩
section
variable {E : jp_E} {l : Launch} {R : Room} {own : String} {cc : ByteArray} {nL : Nat} {ret : Option FieldType} {Ts : List Cond} {Q : Option Value → jp_H → Prop} {X : jp_X} {pc : Nat} {lv : List (Nat × Value)} {st st0 : List Value} {h : jp_H}
variable {y : MethodName} {ws ws' : List Cond} {rm : Room} {bytes : ByteArray} {maxL idx n b ci N : Nat} {rt : Option FieldType} {C : String} {T : u_T} {fs : jp_E → jp_H → List Value} {As : List Value} {Qy : Option Value → jp_H → Prop}
theorem jg_callV (cx : jg_C E l R own cc nL ret Ts Q X) (hM : jc_M E l y ws rm (.ref (E.2.1 b 0) :: As) h Qy) (hg : GoodIn Ts (wsV own idx C y ws)) (hw : ws = Cond.code y bytes maxL rt :: ws') (hrm : rm.cells = 0 ∧ rm.slots = 0) (hR : rm.frames + 1 ≤ R.frames ∧ 8 + (maxL + 11) + rm.locals ≤ R.locals) (hy : y.cls = C ∧ y.cls ≠ "java/lang/invoke/MethodHandle" ∧ y.cls ≠ "java/lang/invoke/VarHandle" ∧ (parseMethodDescriptor y.desc).map (fun d => d.parameters.length) = some n) (hz : jp_Zo b ci fs) (hcl : vwCl[ci]? = some (C, T, N)) (hn : As.length = n) (hst : st0 = As.reverse ++ .ref (E.2.1 b 0) :: st) (hcat : (st.map fun v => v.category).sum ≤ 8) (hd : decode cc pc = .ok (.invokevirtual idx, 3)) (kk : ∀ (v : Option Value) (h' : jp_H), Qy v h' → X (pc + 3) lv (v.toList ++ st) h') : X pc lv st0 h := by
  obtain ⟨p, e, s, m, args, below, meth, c, rfl, hx, hb, hml, hown, hts, hr, hlk, hK, hN, hI⟩ := cx
  intro ls H locs hl hP hS
  obtain ⟨hm, hc⟩ := hz
  obtain ⟨i, -, hi⟩ := jp_pl (E := E) (h := h) hm
  rw [hc] at hi
  exact jw_call (va_runV (As := As) (rest := st) ⟨hx, hb, hml, hown, hts⟩ hM (cwV n hts hg hw hrm.1 hrm.2 hy hR) ⟨jc_blind, va_recv hK hP hcl hi, fun U hU hW => ⟨rfl, by rw [hU]; exact hP, va_K.moved hW.alike hK, hN.warm hW, hI⟩⟩ rfl hn hl.1 hst (lv_room hcat) hd ⟨Nat.zero_le _, Nat.zero_le _⟩) (fun _ h9 => h9) hS (fun v h' H1 locs1 hq hP1 hS1 => kk v h' hq ls H1 locs1 hl hP1 hS1)
theorem jg_callVi (cx : jg_C E l R own cc nL ret Ts Q X) {h1 : jp_H} {r : Int32} (hM : jc_M E l y ws rm (.ref (E.2.1 b 0) :: As) h (jp_R (some (.int r)) h1)) (hg : GoodIn Ts (wsV own idx C y ws)) (hw : ws = Cond.code y bytes maxL rt :: ws') (hrm : rm.cells = 0 ∧ rm.slots = 0) (hR : rm.frames + 1 ≤ R.frames ∧ 8 + (maxL + 11) + rm.locals ≤ R.locals) (hy : y.cls = C ∧ y.cls ≠ "java/lang/invoke/MethodHandle" ∧ y.cls ≠ "java/lang/invoke/VarHandle" ∧ (parseMethodDescriptor y.desc).map (fun d => d.parameters.length) = some n) (hz : jp_Zo b ci fs) (hcl : vwCl[ci]? = some (C, T, N)) (hn : As.length = n) (hst : st0 = As.reverse ++ .ref (E.2.1 b 0) :: st) (hcat : (st.map fun v => v.category).sum ≤ 8) (hd : decode cc pc = .ok (.invokevirtual idx, 3)) (kk : X (pc + 3) lv (.int r :: st) h1) : X pc lv st0 h :=
  jg_callV cx hM hg hw hrm hR hy hz hcl hn hst hcat hd (fun v h' hq => by obtain ⟨rfl, rfl⟩ := hq; exact kk)
theorem jg_callVl (cx : jg_C E l R own cc nL ret Ts Q X) {h1 : jp_H} {r : Int64} (hM : jc_M E l y ws rm (.ref (E.2.1 b 0) :: As) h (jp_R (some (.long r)) h1)) (hg : GoodIn Ts (wsV own idx C y ws)) (hw : ws = Cond.code y bytes maxL rt :: ws') (hrm : rm.cells = 0 ∧ rm.slots = 0) (hR : rm.frames + 1 ≤ R.frames ∧ 8 + (maxL + 11) + rm.locals ≤ R.locals) (hy : y.cls = C ∧ y.cls ≠ "java/lang/invoke/MethodHandle" ∧ y.cls ≠ "java/lang/invoke/VarHandle" ∧ (parseMethodDescriptor y.desc).map (fun d => d.parameters.length) = some n) (hz : jp_Zo b ci fs) (hcl : vwCl[ci]? = some (C, T, N)) (hn : As.length = n) (hst : st0 = As.reverse ++ .ref (E.2.1 b 0) :: st) (hcat : (st.map fun v => v.category).sum ≤ 8) (hd : decode cc pc = .ok (.invokevirtual idx, 3)) (kk : X (pc + 3) lv (.long r :: st) h1) : X pc lv st0 h :=
  jg_callV cx hM hg hw hrm hR hy hz hcl hn hst hcat hd (fun v h' hq => by obtain ⟨rfl, rfl⟩ := hq; exact kk)
theorem jg_callVv (cx : jg_C E l R own cc nL ret Ts Q X) {h1 : jp_H}  (hM : jc_M E l y ws rm (.ref (E.2.1 b 0) :: As) h (jp_R (none) h1)) (hg : GoodIn Ts (wsV own idx C y ws)) (hw : ws = Cond.code y bytes maxL rt :: ws') (hrm : rm.cells = 0 ∧ rm.slots = 0) (hR : rm.frames + 1 ≤ R.frames ∧ 8 + (maxL + 11) + rm.locals ≤ R.locals) (hy : y.cls = C ∧ y.cls ≠ "java/lang/invoke/MethodHandle" ∧ y.cls ≠ "java/lang/invoke/VarHandle" ∧ (parseMethodDescriptor y.desc).map (fun d => d.parameters.length) = some n) (hz : jp_Zo b ci fs) (hcl : vwCl[ci]? = some (C, T, N)) (hn : As.length = n) (hst : st0 = As.reverse ++ .ref (E.2.1 b 0) :: st) (hcat : (st.map fun v => v.category).sum ≤ 8) (hd : decode cc pc = .ok (.invokevirtual idx, 3)) (kk : X (pc + 3) lv (st) h1) : X pc lv st0 h :=
  jg_callV cx hM hg hw hrm hR hy hz hcl hn hst hcat hd (fun v h' hq => by obtain ⟨rfl, rfl⟩ := hq; exact kk)
theorem jg_callVr (cx : jg_C E l R own cc nL ret Ts Q X) {h1 : jp_H} {r : Nat} (hM : jc_M E l y ws rm (.ref (E.2.1 b 0) :: As) h (jp_R (some (.ref r)) h1)) (hg : GoodIn Ts (wsV own idx C y ws)) (hw : ws = Cond.code y bytes maxL rt :: ws') (hrm : rm.cells = 0 ∧ rm.slots = 0) (hR : rm.frames + 1 ≤ R.frames ∧ 8 + (maxL + 11) + rm.locals ≤ R.locals) (hy : y.cls = C ∧ y.cls ≠ "java/lang/invoke/MethodHandle" ∧ y.cls ≠ "java/lang/invoke/VarHandle" ∧ (parseMethodDescriptor y.desc).map (fun d => d.parameters.length) = some n) (hz : jp_Zo b ci fs) (hcl : vwCl[ci]? = some (C, T, N)) (hn : As.length = n) (hst : st0 = As.reverse ++ .ref (E.2.1 b 0) :: st) (hcat : (st.map fun v => v.category).sum ≤ 8) (hd : decode cc pc = .ok (.invokevirtual idx, 3)) (kk : X (pc + 3) lv (.ref r :: st) h1) : X pc lv st0 h :=
  jg_callV cx hM hg hw hrm hR hy hz hcl hn hst hcat hd (fun v h' hq => by obtain ⟨rfl, rfl⟩ := hq; exact kk)
theorem jg_callS (cx : jg_C E l R own cc nL ret Ts Q X) (hM : jc_M E l y ws rm As h Qy) (hg : GoodIn Ts (va_wsS own idx y ws)) (hw : ws = Cond.code y bytes maxL rt :: ws') (hrm : rm.cells = 0 ∧ rm.slots = 0) (hR : rm.frames + 1 ≤ R.frames ∧ 8 + (maxL + 11) + rm.locals ≤ R.locals) (hy : y.cls ≠ "java/lang/invoke/MethodHandle" ∧ y.cls ≠ "java/lang/invoke/VarHandle" ∧ (parseMethodDescriptor y.desc).map (fun d => d.parameters.length) = some n) (hn : As.length = n) (hst : st0 = As.reverse ++ st) (hcat : (st.map fun v => v.category).sum ≤ 8) (hd : decode cc pc = .ok (.invokestatic idx, 3)) (kk : ∀ (v : Option Value) (h' : jp_H), Qy v h' → X (pc + 3) lv (v.toList ++ st) h') : X pc lv st0 h := by
  obtain ⟨p, e, s, m, args, below, meth, c, rfl, hx, hb, hml, hown, hts, hr, hlk, hK, hN, hI⟩ := cx
  intro ls H locs hl hP hS
  exact jw_call (va_runS (As := As) (rest := st) ⟨hx, hb, hml, hown, hts⟩ hM (va_cwS n hts hg hw hrm.1 hrm.2 hy hR) ⟨jc_blind, fun U hU hW => ⟨rfl, by rw [hU]; exact hP, va_K.moved hW.alike hK, hN.warm hW, hI⟩⟩ rfl hn hl.1 hst (lv_room hcat) hd ⟨Nat.zero_le _, Nat.zero_le _⟩) (fun _ h9 => h9) hS (fun v h' H1 locs1 hq hP1 hS1 => kk v h' hq ls H1 locs1 hl hP1 hS1)
theorem jg_callSi (cx : jg_C E l R own cc nL ret Ts Q X) {h1 : jp_H} {r : Int32} (hM : jc_M E l y ws rm As h (jp_R (some (.int r)) h1)) (hg : GoodIn Ts (va_wsS own idx y ws)) (hw : ws = Cond.code y bytes maxL rt :: ws') (hrm : rm.cells = 0 ∧ rm.slots = 0) (hR : rm.frames + 1 ≤ R.frames ∧ 8 + (maxL + 11) + rm.locals ≤ R.locals) (hy : y.cls ≠ "java/lang/invoke/MethodHandle" ∧ y.cls ≠ "java/lang/invoke/VarHandle" ∧ (parseMethodDescriptor y.desc).map (fun d => d.parameters.length) = some n) (hn : As.length = n) (hst : st0 = As.reverse ++ st) (hcat : (st.map fun v => v.category).sum ≤ 8) (hd : decode cc pc = .ok (.invokestatic idx, 3)) (kk : X (pc + 3) lv (.int r :: st) h1) : X pc lv st0 h :=
  jg_callS cx hM hg hw hrm hR hy hn hst hcat hd (fun v h' hq => by obtain ⟨rfl, rfl⟩ := hq; exact kk)
theorem jg_callSl (cx : jg_C E l R own cc nL ret Ts Q X) {h1 : jp_H} {r : Int64} (hM : jc_M E l y ws rm As h (jp_R (some (.long r)) h1)) (hg : GoodIn Ts (va_wsS own idx y ws)) (hw : ws = Cond.code y bytes maxL rt :: ws') (hrm : rm.cells = 0 ∧ rm.slots = 0) (hR : rm.frames + 1 ≤ R.frames ∧ 8 + (maxL + 11) + rm.locals ≤ R.locals) (hy : y.cls ≠ "java/lang/invoke/MethodHandle" ∧ y.cls ≠ "java/lang/invoke/VarHandle" ∧ (parseMethodDescriptor y.desc).map (fun d => d.parameters.length) = some n) (hn : As.length = n) (hst : st0 = As.reverse ++ st) (hcat : (st.map fun v => v.category).sum ≤ 8) (hd : decode cc pc = .ok (.invokestatic idx, 3)) (kk : X (pc + 3) lv (.long r :: st) h1) : X pc lv st0 h :=
  jg_callS cx hM hg hw hrm hR hy hn hst hcat hd (fun v h' hq => by obtain ⟨rfl, rfl⟩ := hq; exact kk)
theorem jg_callSv (cx : jg_C E l R own cc nL ret Ts Q X) {h1 : jp_H}  (hM : jc_M E l y ws rm As h (jp_R (none) h1)) (hg : GoodIn Ts (va_wsS own idx y ws)) (hw : ws = Cond.code y bytes maxL rt :: ws') (hrm : rm.cells = 0 ∧ rm.slots = 0) (hR : rm.frames + 1 ≤ R.frames ∧ 8 + (maxL + 11) + rm.locals ≤ R.locals) (hy : y.cls ≠ "java/lang/invoke/MethodHandle" ∧ y.cls ≠ "java/lang/invoke/VarHandle" ∧ (parseMethodDescriptor y.desc).map (fun d => d.parameters.length) = some n) (hn : As.length = n) (hst : st0 = As.reverse ++ st) (hcat : (st.map fun v => v.category).sum ≤ 8) (hd : decode cc pc = .ok (.invokestatic idx, 3)) (kk : X (pc + 3) lv (st) h1) : X pc lv st0 h :=
  jg_callS cx hM hg hw hrm hR hy hn hst hcat hd (fun v h' hq => by obtain ⟨rfl, rfl⟩ := hq; exact kk)
theorem jg_callSr (cx : jg_C E l R own cc nL ret Ts Q X) {h1 : jp_H} {r : Nat} (hM : jc_M E l y ws rm As h (jp_R (some (.ref r)) h1)) (hg : GoodIn Ts (va_wsS own idx y ws)) (hw : ws = Cond.code y bytes maxL rt :: ws') (hrm : rm.cells = 0 ∧ rm.slots = 0) (hR : rm.frames + 1 ≤ R.frames ∧ 8 + (maxL + 11) + rm.locals ≤ R.locals) (hy : y.cls ≠ "java/lang/invoke/MethodHandle" ∧ y.cls ≠ "java/lang/invoke/VarHandle" ∧ (parseMethodDescriptor y.desc).map (fun d => d.parameters.length) = some n) (hn : As.length = n) (hst : st0 = As.reverse ++ st) (hcat : (st.map fun v => v.category).sum ≤ 8) (hd : decode cc pc = .ok (.invokestatic idx, 3)) (kk : X (pc + 3) lv (.ref r :: st) h1) : X pc lv st0 h :=
  jg_callS cx hM hg hw hrm hR hy hn hst hcat hd (fun v h' hq => by obtain ⟨rfl, rfl⟩ := hq; exact kk)
theorem jg_callVN (cx : jg_C E l R own cc nL ret Ts Q X) (hM : jc_M E l y ws rm (.ref (E.2.1 b 0) :: As) h Qy) (hg : GoodIn Ts ws) (hnl : (own, idx, y) ∈ jp_nM) (hi9 : Cond.initialized y.cls ∈ Ts) (hi8 : Cond.instanceMethod y ∈ Ts) (hi7 : Cond.selects C y y ∈ Ts) (hw : ws = Cond.code y bytes maxL rt :: ws') (hrm : rm.cells = 0 ∧ rm.slots = 0) (hR : rm.frames + 1 ≤ R.frames ∧ 8 + (maxL + 11) + rm.locals ≤ R.locals) (hy : y.cls ≠ "java/lang/invoke/MethodHandle" ∧ y.cls ≠ "java/lang/invoke/VarHandle" ∧ (parseMethodDescriptor y.desc).map (fun d => d.parameters.length) = some n) (hz : jp_Zo b ci fs) (hcl : vwCl[ci]? = some (C, T, N)) (hn : As.length = n) (hst : st0 = As.reverse ++ .ref (E.2.1 b 0) :: st) (hcat : (st.map fun v => v.category).sum ≤ 8) (hd : decode cc pc = .ok (.invokevirtual idx, 3)) (kk : ∀ (v : Option Value) (h' : jp_H), Qy v h' → X (pc + 3) lv (v.toList ++ st) h') : X pc lv st0 h := by
  obtain ⟨p, e, s, m, args, below, meth, c, rfl, hx, hb, hml, hown, hts, hr, hlk, hK, hN, hI⟩ := cx
  intro ls H locs hl hP hS
  obtain ⟨hm, hc⟩ := hz
  obtain ⟨i, -, hi⟩ := jp_pl (E := E) (h := h) hm
  rw [hc] at hi
  exact jw_call (va_runVN (As := As) (rest := st) ⟨hx, hb, hml, hown, hts⟩ hM ⟨va_cnB n hts hg hw hrm.1 hrm.2 (hN.2 _ hnl) (hts _ hi9) hy hR, hts _ hi8, hts _ hi7⟩ ⟨jc_blind, va_recv hK hP hcl hi, fun U hU hW => ⟨rfl, by rw [hU]; exact hP, va_K.moved hW.alike hK, hN.warm hW, hI⟩⟩ rfl hn hl.1 hst (lv_room hcat) hd ⟨Nat.zero_le _, Nat.zero_le _⟩) (fun _ h9 => h9) hS (fun v h' H1 locs1 hq hP1 hS1 => kk v h' hq ls H1 locs1 hl hP1 hS1)
theorem jg_callVNi (cx : jg_C E l R own cc nL ret Ts Q X) {h1 : jp_H} {r : Int32} (hM : jc_M E l y ws rm (.ref (E.2.1 b 0) :: As) h (jp_R (some (.int r)) h1)) (hg : GoodIn Ts ws) (hnl : (own, idx, y) ∈ jp_nM) (hi9 : Cond.initialized y.cls ∈ Ts) (hi8 : Cond.instanceMethod y ∈ Ts) (hi7 : Cond.selects C y y ∈ Ts) (hw : ws = Cond.code y bytes maxL rt :: ws') (hrm : rm.cells = 0 ∧ rm.slots = 0) (hR : rm.frames + 1 ≤ R.frames ∧ 8 + (maxL + 11) + rm.locals ≤ R.locals) (hy : y.cls ≠ "java/lang/invoke/MethodHandle" ∧ y.cls ≠ "java/lang/invoke/VarHandle" ∧ (parseMethodDescriptor y.desc).map (fun d => d.parameters.length) = some n) (hz : jp_Zo b ci fs) (hcl : vwCl[ci]? = some (C, T, N)) (hn : As.length = n) (hst : st0 = As.reverse ++ .ref (E.2.1 b 0) :: st) (hcat : (st.map fun v => v.category).sum ≤ 8) (hd : decode cc pc = .ok (.invokevirtual idx, 3)) (kk : X (pc + 3) lv (.int r :: st) h1) : X pc lv st0 h :=
  jg_callVN cx hM hg hnl hi9 hi8 hi7 hw hrm hR hy hz hcl hn hst hcat hd (fun v h' hq => by obtain ⟨rfl, rfl⟩ := hq; exact kk)
theorem jg_callVNl (cx : jg_C E l R own cc nL ret Ts Q X) {h1 : jp_H} {r : Int64} (hM : jc_M E l y ws rm (.ref (E.2.1 b 0) :: As) h (jp_R (some (.long r)) h1)) (hg : GoodIn Ts ws) (hnl : (own, idx, y) ∈ jp_nM) (hi9 : Cond.initialized y.cls ∈ Ts) (hi8 : Cond.instanceMethod y ∈ Ts) (hi7 : Cond.selects C y y ∈ Ts) (hw : ws = Cond.code y bytes maxL rt :: ws') (hrm : rm.cells = 0 ∧ rm.slots = 0) (hR : rm.frames + 1 ≤ R.frames ∧ 8 + (maxL + 11) + rm.locals ≤ R.locals) (hy : y.cls ≠ "java/lang/invoke/MethodHandle" ∧ y.cls ≠ "java/lang/invoke/VarHandle" ∧ (parseMethodDescriptor y.desc).map (fun d => d.parameters.length) = some n) (hz : jp_Zo b ci fs) (hcl : vwCl[ci]? = some (C, T, N)) (hn : As.length = n) (hst : st0 = As.reverse ++ .ref (E.2.1 b 0) :: st) (hcat : (st.map fun v => v.category).sum ≤ 8) (hd : decode cc pc = .ok (.invokevirtual idx, 3)) (kk : X (pc + 3) lv (.long r :: st) h1) : X pc lv st0 h :=
  jg_callVN cx hM hg hnl hi9 hi8 hi7 hw hrm hR hy hz hcl hn hst hcat hd (fun v h' hq => by obtain ⟨rfl, rfl⟩ := hq; exact kk)
theorem jg_callVNv (cx : jg_C E l R own cc nL ret Ts Q X) {h1 : jp_H}  (hM : jc_M E l y ws rm (.ref (E.2.1 b 0) :: As) h (jp_R (none) h1)) (hg : GoodIn Ts ws) (hnl : (own, idx, y) ∈ jp_nM) (hi9 : Cond.initialized y.cls ∈ Ts) (hi8 : Cond.instanceMethod y ∈ Ts) (hi7 : Cond.selects C y y ∈ Ts) (hw : ws = Cond.code y bytes maxL rt :: ws') (hrm : rm.cells = 0 ∧ rm.slots = 0) (hR : rm.frames + 1 ≤ R.frames ∧ 8 + (maxL + 11) + rm.locals ≤ R.locals) (hy : y.cls ≠ "java/lang/invoke/MethodHandle" ∧ y.cls ≠ "java/lang/invoke/VarHandle" ∧ (parseMethodDescriptor y.desc).map (fun d => d.parameters.length) = some n) (hz : jp_Zo b ci fs) (hcl : vwCl[ci]? = some (C, T, N)) (hn : As.length = n) (hst : st0 = As.reverse ++ .ref (E.2.1 b 0) :: st) (hcat : (st.map fun v => v.category).sum ≤ 8) (hd : decode cc pc = .ok (.invokevirtual idx, 3)) (kk : X (pc + 3) lv (st) h1) : X pc lv st0 h :=
  jg_callVN cx hM hg hnl hi9 hi8 hi7 hw hrm hR hy hz hcl hn hst hcat hd (fun v h' hq => by obtain ⟨rfl, rfl⟩ := hq; exact kk)
theorem jg_callVNr (cx : jg_C E l R own cc nL ret Ts Q X) {h1 : jp_H} {r : Nat} (hM : jc_M E l y ws rm (.ref (E.2.1 b 0) :: As) h (jp_R (some (.ref r)) h1)) (hg : GoodIn Ts ws) (hnl : (own, idx, y) ∈ jp_nM) (hi9 : Cond.initialized y.cls ∈ Ts) (hi8 : Cond.instanceMethod y ∈ Ts) (hi7 : Cond.selects C y y ∈ Ts) (hw : ws = Cond.code y bytes maxL rt :: ws') (hrm : rm.cells = 0 ∧ rm.slots = 0) (hR : rm.frames + 1 ≤ R.frames ∧ 8 + (maxL + 11) + rm.locals ≤ R.locals) (hy : y.cls ≠ "java/lang/invoke/MethodHandle" ∧ y.cls ≠ "java/lang/invoke/VarHandle" ∧ (parseMethodDescriptor y.desc).map (fun d => d.parameters.length) = some n) (hz : jp_Zo b ci fs) (hcl : vwCl[ci]? = some (C, T, N)) (hn : As.length = n) (hst : st0 = As.reverse ++ .ref (E.2.1 b 0) :: st) (hcat : (st.map fun v => v.category).sum ≤ 8) (hd : decode cc pc = .ok (.invokevirtual idx, 3)) (kk : X (pc + 3) lv (.ref r :: st) h1) : X pc lv st0 h :=
  jg_callVN cx hM hg hnl hi9 hi8 hi7 hw hrm hR hy hz hcl hn hst hcat hd (fun v h' hq => by obtain ⟨rfl, rfl⟩ := hq; exact kk)
theorem jg_callSN (cx : jg_C E l R own cc nL ret Ts Q X) (hM : jc_M E l y ws rm As h Qy) (hg : GoodIn Ts ws) (hnl : (own, idx, y) ∈ jp_nM) (hi9 : Cond.initialized y.cls ∈ Ts) (hi8 : Cond.static y ∈ Ts) (hw : ws = Cond.code y bytes maxL rt :: ws') (hrm : rm.cells = 0 ∧ rm.slots = 0) (hR : rm.frames + 1 ≤ R.frames ∧ 8 + (maxL + 11) + rm.locals ≤ R.locals) (hy : y.cls ≠ "java/lang/invoke/MethodHandle" ∧ y.cls ≠ "java/lang/invoke/VarHandle" ∧ (parseMethodDescriptor y.desc).map (fun d => d.parameters.length) = some n) (hn : As.length = n) (hst : st0 = As.reverse ++ st) (hcat : (st.map fun v => v.category).sum ≤ 8) (hd : decode cc pc = .ok (.invokestatic idx, 3)) (kk : ∀ (v : Option Value) (h' : jp_H), Qy v h' → X (pc + 3) lv (v.toList ++ st) h') : X pc lv st0 h := by
  obtain ⟨p, e, s, m, args, below, meth, c, rfl, hx, hb, hml, hown, hts, hr, hlk, hK, hN, hI⟩ := cx
  intro ls H locs hl hP hS
  exact jw_call (va_runSN (As := As) (rest := st) ⟨hx, hb, hml, hown, hts⟩ hM ⟨va_cnB n hts hg hw hrm.1 hrm.2 (hN.2 _ hnl) (hts _ hi9) hy hR, hts _ hi8, trivial⟩ ⟨jc_blind, fun U hU hW => ⟨rfl, by rw [hU]; exact hP, va_K.moved hW.alike hK, hN.warm hW, hI⟩⟩ rfl hn hl.1 hst (lv_room hcat) hd ⟨Nat.zero_le _, Nat.zero_le _⟩) (fun _ h9 => h9) hS (fun v h' H1 locs1 hq hP1 hS1 => kk v h' hq ls H1 locs1 hl hP1 hS1)
theorem jg_callSNi (cx : jg_C E l R own cc nL ret Ts Q X) {h1 : jp_H} {r : Int32} (hM : jc_M E l y ws rm As h (jp_R (some (.int r)) h1)) (hg : GoodIn Ts ws) (hnl : (own, idx, y) ∈ jp_nM) (hi9 : Cond.initialized y.cls ∈ Ts) (hi8 : Cond.static y ∈ Ts) (hw : ws = Cond.code y bytes maxL rt :: ws') (hrm : rm.cells = 0 ∧ rm.slots = 0) (hR : rm.frames + 1 ≤ R.frames ∧ 8 + (maxL + 11) + rm.locals ≤ R.locals) (hy : y.cls ≠ "java/lang/invoke/MethodHandle" ∧ y.cls ≠ "java/lang/invoke/VarHandle" ∧ (parseMethodDescriptor y.desc).map (fun d => d.parameters.length) = some n) (hn : As.length = n) (hst : st0 = As.reverse ++ st) (hcat : (st.map fun v => v.category).sum ≤ 8) (hd : decode cc pc = .ok (.invokestatic idx, 3)) (kk : X (pc + 3) lv (.int r :: st) h1) : X pc lv st0 h :=
  jg_callSN cx hM hg hnl hi9 hi8 hw hrm hR hy hn hst hcat hd (fun v h' hq => by obtain ⟨rfl, rfl⟩ := hq; exact kk)
theorem jg_callSNl (cx : jg_C E l R own cc nL ret Ts Q X) {h1 : jp_H} {r : Int64} (hM : jc_M E l y ws rm As h (jp_R (some (.long r)) h1)) (hg : GoodIn Ts ws) (hnl : (own, idx, y) ∈ jp_nM) (hi9 : Cond.initialized y.cls ∈ Ts) (hi8 : Cond.static y ∈ Ts) (hw : ws = Cond.code y bytes maxL rt :: ws') (hrm : rm.cells = 0 ∧ rm.slots = 0) (hR : rm.frames + 1 ≤ R.frames ∧ 8 + (maxL + 11) + rm.locals ≤ R.locals) (hy : y.cls ≠ "java/lang/invoke/MethodHandle" ∧ y.cls ≠ "java/lang/invoke/VarHandle" ∧ (parseMethodDescriptor y.desc).map (fun d => d.parameters.length) = some n) (hn : As.length = n) (hst : st0 = As.reverse ++ st) (hcat : (st.map fun v => v.category).sum ≤ 8) (hd : decode cc pc = .ok (.invokestatic idx, 3)) (kk : X (pc + 3) lv (.long r :: st) h1) : X pc lv st0 h :=
  jg_callSN cx hM hg hnl hi9 hi8 hw hrm hR hy hn hst hcat hd (fun v h' hq => by obtain ⟨rfl, rfl⟩ := hq; exact kk)
theorem jg_callSNv (cx : jg_C E l R own cc nL ret Ts Q X) {h1 : jp_H}  (hM : jc_M E l y ws rm As h (jp_R (none) h1)) (hg : GoodIn Ts ws) (hnl : (own, idx, y) ∈ jp_nM) (hi9 : Cond.initialized y.cls ∈ Ts) (hi8 : Cond.static y ∈ Ts) (hw : ws = Cond.code y bytes maxL rt :: ws') (hrm : rm.cells = 0 ∧ rm.slots = 0) (hR : rm.frames + 1 ≤ R.frames ∧ 8 + (maxL + 11) + rm.locals ≤ R.locals) (hy : y.cls ≠ "java/lang/invoke/MethodHandle" ∧ y.cls ≠ "java/lang/invoke/VarHandle" ∧ (parseMethodDescriptor y.desc).map (fun d => d.parameters.length) = some n) (hn : As.length = n) (hst : st0 = As.reverse ++ st) (hcat : (st.map fun v => v.category).sum ≤ 8) (hd : decode cc pc = .ok (.invokestatic idx, 3)) (kk : X (pc + 3) lv (st) h1) : X pc lv st0 h :=
  jg_callSN cx hM hg hnl hi9 hi8 hw hrm hR hy hn hst hcat hd (fun v h' hq => by obtain ⟨rfl, rfl⟩ := hq; exact kk)
theorem jg_callSNr (cx : jg_C E l R own cc nL ret Ts Q X) {h1 : jp_H} {r : Nat} (hM : jc_M E l y ws rm As h (jp_R (some (.ref r)) h1)) (hg : GoodIn Ts ws) (hnl : (own, idx, y) ∈ jp_nM) (hi9 : Cond.initialized y.cls ∈ Ts) (hi8 : Cond.static y ∈ Ts) (hw : ws = Cond.code y bytes maxL rt :: ws') (hrm : rm.cells = 0 ∧ rm.slots = 0) (hR : rm.frames + 1 ≤ R.frames ∧ 8 + (maxL + 11) + rm.locals ≤ R.locals) (hy : y.cls ≠ "java/lang/invoke/MethodHandle" ∧ y.cls ≠ "java/lang/invoke/VarHandle" ∧ (parseMethodDescriptor y.desc).map (fun d => d.parameters.length) = some n) (hn : As.length = n) (hst : st0 = As.reverse ++ st) (hcat : (st.map fun v => v.category).sum ≤ 8) (hd : decode cc pc = .ok (.invokestatic idx, 3)) (kk : X (pc + 3) lv (.ref r :: st) h1) : X pc lv st0 h :=
  jg_callSN cx hM hg hnl hi9 hi8 hw hrm hR hy hn hst hcat hd (fun v h' hq => by obtain ⟨rfl, rfl⟩ := hq; exact kk)
theorem jg_max (cx : jg_C E l R own cc nL ret Ts Q X) {x z : Int32} (h1 : Cond.methodLink own idx Lib.Math.max.name ∈ Ts) (h2 : Cond.static Lib.Math.max.name ∈ Ts) (h3 : Cond.initialized "java/lang/Math" ∈ Ts) (h4 : Cond.code Lib.Math.max.name Lib.Math.max.code 2 (some .int) ∈ Ts) (hf : 1 ≤ R.frames) (hlo : (st.map fun v => v.category).sum + 13 ≤ R.locals) (hd : decode cc pc = .ok (.invokestatic idx, 3)) (k : X (pc + 3) lv (.int (if x < z then z else x) :: st) h) : X pc lv (.int z :: .int x :: st) h := by
  obtain ⟨p, e, s, m, args, below, meth, c, rfl, hx, hb, hml, hown, hts, hr, hlk, hK, hN, hI⟩ := cx
  intro ls H locs hl hP hS
  exact va_mmax hx hb (hml.trans hl.1.symm) hown (hts _ h1) (hts _ h2) (hts _ h3) (hts _ h4) hf hlo (Nat.zero_le _) (Nat.zero_le _) hd (k ls H locs hl hP hS)
theorem jg_abs (cx : jg_C E l R own cc nL ret Ts Q X) {x : Int32} (h1 : Cond.methodLink own idx Lib.Math.abs.name ∈ Ts) (h2 : Cond.static Lib.Math.abs.name ∈ Ts) (h3 : Cond.initialized "java/lang/Math" ∈ Ts) (h4 : Cond.code Lib.Math.abs.name Lib.Math.abs.code 1 (some .int) ∈ Ts) (hf : 1 ≤ R.frames) (hlo : (st.map fun v => v.category).sum + 13 ≤ R.locals) (hd : decode cc pc = .ok (.invokestatic idx, 3)) (k : X (pc + 3) lv (.int (if 0 ≤ x then x else 0 - x) :: st) h) : X pc lv (.int x :: st) h := by
  obtain ⟨p, e, s, m, args, below, meth, c, rfl, hx, hb, hml, hown, hts, hr, hlk, hK, hN, hI⟩ := cx
  intro ls H locs hl hP hS
  exact va_mabs hx hb (hml.trans hl.1.symm) hown (hts _ h1) (hts _ h2) (hts _ h3) (hts _ h4) hf hlo (Nat.zero_le _) (Nat.zero_le _) hd (k ls H locs hl hP hS)
theorem jg_labs (cx : jg_C E l R own cc nL ret Ts Q X) {x : Int64} (h1 : Cond.methodLink own idx Lib.MathLoose.abs_long.x ∈ Ts) (h2 : Cond.static Lib.MathLoose.abs_long.x ∈ Ts) (h3 : Cond.initialized "java/lang/Math" ∈ Ts) (h4 : Cond.code Lib.MathLoose.abs_long.x Lib.MathLoose.abs_long.code 2 (some .long) ∈ Ts) (hf : 1 ≤ R.frames) (hlo : (st.map fun v => v.category).sum + 13 ≤ R.locals) (hd : decode cc pc = .ok (.invokestatic idx, 3)) (k : X (pc + 3) lv (.long (if 0 < x then x else -x) :: st) h) : X pc lv (.long x :: st) h := by
  obtain ⟨p, e, s, m, args, below, meth, c, rfl, hx, hb, hml, hown, hts, hr, hlk, hK, hN, hI⟩ := cx
  intro ls H locs hl hP hS
  exact va_mabs_long hx hb (hml.trans hl.1.symm) hown (hts _ h1) (hts _ h2) (hts _ h3) (hts _ h4) hf hlo (Nat.zero_le _) (Nat.zero_le _) hd (k ls H locs hl hP hS)
/-- a whole row is copied over another of the same length -/
theorem jg_copyi (cx : jg_C E l R own cc nL ret Ts Q X) {b0 r0 b1 r1 k0 : Nat} (h1 : Cond.methodLink own idx arraycopyName ∈ Ts) (h2 : Cond.native arraycopyName ∈ Ts) (h3 : Cond.static arraycopyName ∈ Ts) (h4 : Cond.initialized "java/lang/System" ∈ Ts) (hz0 : jp_Zi b0 r0 k0) (hz1 : jp_Zi b1 r1 k0) (hf : 1 ≤ R.frames) (hlo : (st.map fun v => v.category).sum + (nativeFrameWords "java/lang/System" "arraycopy" 5 + 11) ≤ R.locals) (hd : decode cc pc = .ok (.invokestatic idx, 3)) (k : X (pc + 3) lv st (jp_sr h b1 r1 (va_cpy (h.1 b0 r0) (h.1 b1 r1) 0 0 k0))) : X pc lv (.int (nI k0) :: .int (nI 0) :: .ref (E.2.1 b1 r1) :: .int (nI 0) :: .ref (E.2.1 b0 r0) :: st) h := by
  obtain ⟨p, e, s, m, args, below, meth, c, rfl, hx, hb, hml, hown, hts, hr, hlk, hK, hN, hI⟩ := cx
  intro ls H locs hl hP hS
  obtain ⟨hk31, hm0, hc0⟩ := hz0
  obtain ⟨-, hm1, hc1⟩ := hz1
  obtain ⟨i0, -, hi0⟩ := jp_pl (E := E) (h := h) hm0
  obtain ⟨i1, hj1, hi1⟩ := jp_pl (E := E) (h := h) hm1
  rw [hc0] at hi0
  rw [hc1] at hi1
  have e0 : (nI 0).toNatClampNeg = 0 := nI_clamp (by decide)
  have ek : (nI k0).toNatClampNeg = k0 := nI_clamp hk31
  refine va_copyi hx hb (hml.trans hl.1.symm) hown (hts _ h1) (hts _ h2) (hts _ h3) (hts _ h4) hK hP (jp_D hI h) hS i0 i1 0 0 hi0 hi1 rfl rfl rfl (nI_pos (by decide)) (nI_pos (by decide)) (nI_pos hk31) (by rw [e0, ek]; omega) (by rw [e0, ek]; omega) (fun i _ => rfl) hf hlo hd (fun H1 locs1 hP1 hD1 hS1 => ?_)
  rw [e0, ek] at hP1
  refine k ls H1 locs1 hl ?_ hS1
  rw [← jp_w_set (h := h) (h' := jp_sr h b1 r1 (va_cpy (h.1 b0 r0) (h.1 b1 r1) 0 0 k0)) hj1 ((hc1 E _).trans (by rw [jp_sr_1])) (fun b' r' hn => (jp_sr_n h _ hn).symm) (fun b' r' hn => rfl)]
  exact hP1
theorem jg_copyl (cx : jg_C E l R own cc nL ret Ts Q X) {b0 r0 b1 r1 k0 : Nat} (h1 : Cond.methodLink own idx arraycopyName ∈ Ts) (h2 : Cond.native arraycopyName ∈ Ts) (h3 : Cond.static arraycopyName ∈ Ts) (h4 : Cond.initialized "java/lang/System" ∈ Ts) (hz0 : jp_Zl b0 r0 k0) (hz1 : jp_Zl b1 r1 k0) (hf : 1 ≤ R.frames) (hlo : (st.map fun v => v.category).sum + (nativeFrameWords "java/lang/System" "arraycopy" 5 + 11) ≤ R.locals) (hd : decode cc pc = .ok (.invokestatic idx, 3)) (k : X (pc + 3) lv st (jp_sl h b1 r1 (va_cpy (h.2 b0 r0) (h.2 b1 r1) 0 0 k0))) : X pc lv (.int (nI k0) :: .int (nI 0) :: .ref (E.2.1 b1 r1) :: .int (nI 0) :: .ref (E.2.1 b0 r0) :: st) h := by
  obtain ⟨p, e, s, m, args, below, meth, c, rfl, hx, hb, hml, hown, hts, hr, hlk, hK, hN, hI⟩ := cx
  intro ls H locs hl hP hS
  obtain ⟨hk31, hm0, hc0⟩ := hz0
  obtain ⟨-, hm1, hc1⟩ := hz1
  obtain ⟨i0, -, hi0⟩ := jp_pl (E := E) (h := h) hm0
  obtain ⟨i1, hj1, hi1⟩ := jp_pl (E := E) (h := h) hm1
  rw [hc0] at hi0
  rw [hc1] at hi1
  have e0 : (nI 0).toNatClampNeg = 0 := nI_clamp (by decide)
  have ek : (nI k0).toNatClampNeg = k0 := nI_clamp hk31
  refine va_copyl hx hb (hml.trans hl.1.symm) hown (hts _ h1) (hts _ h2) (hts _ h3) (hts _ h4) hK hP (jp_D hI h) hS i0 i1 1 1 hi0 hi1 rfl rfl rfl (nI_pos (by decide)) (nI_pos (by decide)) (nI_pos hk31) (by rw [e0, ek]; omega) (by rw [e0, ek]; omega) (fun i _ => rfl) hf hlo hd (fun H1 locs1 hP1 hD1 hS1 => ?_)
  rw [e0, ek] at hP1
  refine k ls H1 locs1 hl ?_ hS1
  rw [← jp_w_set (h := h) (h' := jp_sl h b1 r1 (va_cpy (h.2 b0 r0) (h.2 b1 r1) 0 0 k0)) hj1 ((hc1 E _).trans (by rw [jp_sl_1])) (fun b' r' hn => rfl) (fun b' r' hn => (jp_sl_n h _ hn).symm)]
  exact hP1
end
end
section
/-! ===== one block's state: N its int rows, L its long rows ===== -/
abbrev jf_B : Type := Nat → Nat → Int32
abbrev jf_L : Type := Nat → Nat → Int64
def jf_w (N : jf_B) (r j : Nat) (x : Int32) : jf_B := va_up N r (upd (N r) j x)
def jf_wL (L : jf_L) (r j : Nat) (x : Int64) : jf_L := va_up L r (vp_updL (L r) j x)
def jp_u (h : jp_H) (b : Nat) (N : jf_B) (L : jf_L) : jp_H := (va_up h.1 b N, va_up h.2 b L)
theorem jp_u_1 (h : jp_H) (b : Nat) (N : jf_B) (L : jf_L) : (jp_u h b N L).1 b = N := by simp [jp_u, va_up]
theorem jp_u_2 (h : jp_H) (b : Nat) (N : jf_B) (L : jf_L) : (jp_u h b N L).2 b = L := by simp [jp_u, va_up]
theorem jp_u_n1 (h : jp_H) {b b' : Nat} (N : jf_B) (L : jf_L) (hn : b' ≠ b) : (jp_u h b N L).1 b' = h.1 b' := by simp [jp_u, va_up, hn]
theorem jp_u_n2 (h : jp_H) {b b' : Nat} (N : jf_B) (L : jf_L) (hn : b' ≠ b) : (jp_u h b N L).2 b' = h.2 b' := by simp [jp_u, va_up, hn]
theorem jp_up_self {α : Type} (f : Nat → α) (b : Nat) : va_up f b (f b) = f := by
  funext j
  simp only [va_up]
  split
  · next e => rw [e]
  · rfl
theorem jp_u_self (h : jp_H) (b : Nat) : jp_u h b (h.1 b) (h.2 b) = h := by
  unfold jp_u
  rw [jp_up_self, jp_up_self]
theorem jp_u_sr (h : jp_H) (b : Nat) (N : jf_B) (L : jf_L) (r : Nat) (g : Nat → Int32) : jp_sr (jp_u h b N L) b r g = jp_u h b (va_up N r g) L := by
  unfold jp_sr
  rw [jp_u_1]
  unfold jp_u
  rw [bx_uu]
theorem jp_u_sl (h : jp_H) (b : Nat) (N : jf_B) (L : jf_L) (r : Nat) (g : Nat → Int64) : jp_sl (jp_u h b N L) b r g = jp_u h b N (va_up L r g) := by
  unfold jp_sl
  rw [jp_u_2]
  unfold jp_u
  rw [bx_uu]
theorem jp_u_s (h : jp_H) (b : Nat) (N : jf_B) (L : jf_L) (r j : Nat) (x : Int32) : jp_s (jp_u h b N L) b r j x = jp_u h b (jf_w N r j x) L := by
  unfold jp_s
  rw [jp_u_sr, jp_u_1]
  rfl
theorem jp_u_sL (h : jp_H) (b : Nat) (N : jf_B) (L : jf_L) (r j : Nat) (x : Int64) : jp_sL (jp_u h b N L) b r j x = jp_u h b N (jf_wL L r j x) := by
  unfold jp_sL
  rw [jp_u_sl, jp_u_2]
  rfl
theorem jp_put0_7 (b : Nat) (E : jp_E) (h : jp_H) (x : Int32) : jp_f0 b E (jp_s h b 0 7 x) = (jp_f0 b E h).set 7 (.int x) := by simp [jp_f0, jp_s, jp_sr, va_up, upd]
theorem jp_put0_8 (b : Nat) (E : jp_E) (h : jp_H) (x : Int32) : jp_f0 b E (jp_s h b 0 8 x) = (jp_f0 b E h).set 8 (.int x) := by simp [jp_f0, jp_s, jp_sr, va_up, upd]
theorem jp_put1_1 (E : jp_E) (h : jp_H) (x : Int32) : jp_f1 E (jp_s h 1 0 1 x) = (jp_f1 E h).set 1 (.int x) := by simp [jp_f1, jp_s, jp_sr, va_up, upd]
theorem jp_put2_4 (E : jp_E) (h : jp_H) (x : Int32) : jp_f2 E (jp_s h 0 0 4 x) = (jp_f2 E h).set 4 (.int x) := by simp [jp_f2, jp_s, jp_sr, va_up, upd]
theorem jp_put3_4 (E : jp_E) (h : jp_H) (x : Int32) : jp_f3 E (jp_s h 7 0 4 x) = (jp_f3 E h).set 4 (.int x) := by simp [jp_f3, jp_s, jp_sr, va_up, upd]
theorem jp_put3_6 (E : jp_E) (h : jp_H) (x : Int32) : jp_f3 E (jp_s h 7 0 6 x) = (jp_f3 E h).set 6 (.int x) := by simp [jp_f3, jp_s, jp_sr, va_up, upd]
theorem jp_put3_7 (E : jp_E) (h : jp_H) (x : Int32) : jp_f3 E (jp_s h 7 0 7 x) = (jp_f3 E h).set 7 (.int x) := by simp [jp_f3, jp_s, jp_sr, va_up, upd]
theorem jp_net2 : jp_net 2 := Or.inl rfl
theorem jp_net3 : jp_net 3 := Or.inr (Or.inl rfl)
theorem jp_net4 : jp_net 4 := Or.inr (Or.inr (Or.inl rfl))
theorem jp_net5 : jp_net 5 := Or.inr (Or.inr (Or.inr (Or.inl rfl)))
theorem jp_net6 : jp_net 6 := Or.inr (Or.inr (Or.inr (Or.inr rfl)))
theorem jg_to {X : jp_X} {pc : Nat} {lv lv' : List (Nat × Value)} {st st' : List Value} {h h' : jp_H} (k : X pc lv' st' h') (e1 : lv = lv') (e2 : st = st') (e3 : h = h') : X pc lv st h := by
  rw [e1, e2, e3]
  exact k
section
variable {E : jp_E} {l : Launch} {R : Room} {own : String} {cc : ByteArray} {nL : Nat} {ret : Option FieldType} {Ts : List Cond} {Q : Option Value → jp_H → Prop} {X : jp_X} {pc : Nat} {lv : List (Nat × Value)} {st : List Value} {h : jp_H} {b : Nat} {N : jf_B} {L : jf_L}
theorem jg_ialdU (cx : jg_C E l R own cc nL ret Ts Q X) {r n j : Nat} {x : Int32} (hd : decode cc pc = .ok (.iaload, 1)) (hz : jp_Zi b r n) (hxj : x = nI j) (hj : j < n) (k : X (pc + 1) lv (.int (N r j) :: st) (jp_u h b N L)) : X pc lv (.int x :: .ref (E.2.1 b r) :: st) (jp_u h b N L) :=
  jg_iald cx hd hz hxj hj (by rw [jp_u_1]; exact k)
theorem jg_zaldU (cx : jg_C E l R own cc nL ret Ts Q X) {r n j : Nat} {x : Int32} (hd : decode cc pc = .ok (.baload, 1)) (hz : jp_Zz b r n) (hxj : x = nI j) (hj : j < n) (k : X (pc + 1) lv (.int (N r j) :: st) (jp_u h b N L)) : X pc lv (.int x :: .ref (E.2.1 b r) :: st) (jp_u h b N L) :=
  jg_zald cx hd hz hxj hj (by rw [jp_u_1]; exact k)
theorem jg_laldU (cx : jg_C E l R own cc nL ret Ts Q X) {r n j : Nat} {x : Int32} (hd : decode cc pc = .ok (.laload, 1)) (hz : jp_Zl b r n) (hxj : x = nI j) (hj : j < n) (k : X (pc + 1) lv (.long (L r j) :: st) (jp_u h b N L)) : X pc lv (.int x :: .ref (E.2.1 b r) :: st) (jp_u h b N L) :=
  jg_lald cx hd hz hxj hj (by rw [jp_u_2]; exact k)
theorem jg_iastU (cx : jg_C E l R own cc nL ret Ts Q X) {r n j : Nat} {x v : Int32} (hd : decode cc pc = .ok (.iastore, 1)) (hz : jp_Zi b r n) (hxj : x = nI j) (hj : j < n) (k : X (pc + 1) lv st (jp_u h b (jf_w N r j v) L)) : X pc lv (.int v :: .int x :: .ref (E.2.1 b r) :: st) (jp_u h b N L) :=
  jg_iast cx hd hz hxj hj (by rw [jp_u_s]; exact k)
theorem jg_zastU (cx : jg_C E l R own cc nL ret Ts Q X) {r n j : Nat} {x : Int32} {v : Bool} (hd : decode cc pc = .ok (.bastore, 1)) (hz : jp_Zz b r n) (hxj : x = nI j) (hj : j < n) (k : X (pc + 1) lv st (jp_u h b (jf_w N r j (jp_b v)) L)) : X pc lv (.int (jp_b v) :: .int x :: .ref (E.2.1 b r) :: st) (jp_u h b N L) :=
  jg_zast cx hd hz hxj hj (by rw [jp_u_s]; exact k)
theorem jg_lastU (cx : jg_C E l R own cc nL ret Ts Q X) {r n j : Nat} {x : Int32} {v : Int64} (hd : decode cc pc = .ok (.lastore, 1)) (hz : jp_Zl b r n) (hxj : x = nI j) (hj : j < n) (k : X (pc + 1) lv st (jp_u h b N (jf_wL L r j v))) : X pc lv (.long v :: .int x :: .ref (E.2.1 b r) :: st) (jp_u h b N L) :=
  jg_last cx hd hz hxj hj (by rw [jp_u_sL]; exact k)
theorem jg_getU (cx : jg_C E l R own cc nL ret Ts Q X) {ci M idx : Nat} {fs : jp_E → jp_H → List Value} {C : String} {T : u_T} (hz : jp_Zo b ci fs) (hcl : vwCl[ci]? = some (C, T, M)) (hin : ∀ w ∈ u_ws C T M, w ∈ Ts) (k : Nat) (hk : k < M) (hw : Cond.fieldLink own idx (T k).1 (T k).2.1 (T k).2.2.1 ∈ Ts) (hv : (fs E (jp_u h b N L))[k]? = some (.int ((jp_u h b N L).1 b 0 k))) (hd : decode cc pc = .ok (.getfield idx, 3)) (kk : X (pc + 3) lv (.int (N 0 k) :: st) (jp_u h b N L)) : X pc lv (.ref (E.2.1 b 0) :: st) (jp_u h b N L) :=
  jg_get cx hz hcl hin k hk hw hv hd (by rw [jp_u_1]; exact kk)
theorem jg_putU (cx : jg_C E l R own cc nL ret Ts Q X) {ci M idx : Nat} {fs : jp_E → jp_H → List Value} {C : String} {T : u_T} (hz : jp_Zo b ci fs) (hcl : vwCl[ci]? = some (C, T, M)) (hin : ∀ w ∈ u_ws C T M, w ∈ Ts) (ty0 : Nat → FieldType) (hty : ∀ k, k < M → parseFieldDescriptor (T k).2.2.1 = some (ty0 k)) (hnm : ∀ a, a < M → ∀ b, b < M → a ≠ b → (T a).2.1 ≠ (T b).2.1) (k : Nat) (hk : k < M) (hw : Cond.fieldLink own idx (T k).1 (T k).2.1 (T k).2.2.1 ∈ Ts) (hfin : (T k).2.2.2 = false) (hI9 : parseFieldDescriptor (T k).2.2.1 = some .int) {x : Int32} (hlen : k < (fs E (jp_u h b N L)).length) (hset : fs E (jp_s (jp_u h b N L) b 0 k x) = (fs E (jp_u h b N L)).set k (.int x)) (hd : decode cc pc = .ok (.putfield idx, 3)) (kk : X (pc + 3) lv st (jp_u h b (jf_w N 0 k x) L)) : X pc lv (.int x :: .ref (E.2.1 b 0) :: st) (jp_u h b N L) :=
  jg_put cx hz hcl hin ty0 hty hnm k hk hw hfin hI9 hlen hset hd (by rw [jp_u_s]; exact kk)
theorem jg_copyU (cx : jg_C E l R own cc nL ret Ts Q X) {b0 r0 r1 k0 idx : Nat} (hne : b0 ≠ b) (h1 : Cond.methodLink own idx arraycopyName ∈ Ts) (h2 : Cond.native arraycopyName ∈ Ts) (h3 : Cond.static arraycopyName ∈ Ts) (h4 : Cond.initialized "java/lang/System" ∈ Ts) (hz0 : jp_Zi b0 r0 k0) (hz1 : jp_Zi b r1 k0) (hf : 1 ≤ R.frames) (hlo : (st.map fun v => v.category).sum + (nativeFrameWords "java/lang/System" "arraycopy" 5 + 11) ≤ R.locals) (hd : decode cc pc = .ok (.invokestatic idx, 3)) (k : X (pc + 3) lv st (jp_u h b (va_up N r1 (va_cpy (h.1 b0 r0) (N r1) 0 0 k0)) L)) : X pc lv (.int (nI k0) :: .int (nI 0) :: .ref (E.2.1 b r1) :: .int (nI 0) :: .ref (E.2.1 b0 r0) :: st) (jp_u h b N L) :=
  jg_copyi cx h1 h2 h3 h4 hz0 hz1 hf hlo hd (by rw [jp_u_sr, jp_u_1, jp_u_n1 h N L hne]; exact k)
end
end
section
/-! ===== small static methods; the net ===== -/
def jf_it {σ : Type} (f : Nat → σ → σ) (s : σ) : Nat → σ
  | 0 => s
  | n + 1 => f n (jf_it f s n)
def jf_fr {σ : Type} (f : Nat → σ → σ) (s : σ) (k : Nat) : Nat → σ
  | 0 => s
  | n + 1 => f (k + n) (jf_fr f s k n)
def jf_spotI (x y : Int32) : Int32 := if y ≤ x then y * nI 8 + x else x * nI 8 + y
def jf_spot (a c : Nat) : Nat := if a < c then a * 8 + c else c * 8 + a
theorem jf_spotI_n {a c : Nat} (ha : a < 2 ^ 31) (hc : c < 2 ^ 31) : jf_spotI (nI a) (nI c) = nI (jf_spot a c) := by
  unfold jf_spotI jf_spot
  simp only [nI_leI hc ha, pk_mul, nI_add]
  by_cases q : c ≤ a
  · rw [if_pos q, if_neg (by omega)]
  · rw [if_neg q, if_pos (by omega)]
theorem jf_spot_lt {a c : Nat} (ha : a < 8) (hc : c < 8) : jf_spot a c < 64 := by
  unfold jf_spot
  split <;> omega
def jf_within (x lo hi : Int32) : Bool := if x < lo then false else if hi < x then false else true
set_option maxHeartbeats 1000000 in
set_option maxRecDepth 100000 in
theorem jc_X2_spot (E : jp_E) (l : Launch) {h : jp_H} {x y : Int32} : jc_M E l yX2_spot wsX2_spot ({ frames := 0, cells := 0, slots := 0, locals := 0 } : Room) [.int x, .int y] h (jp_R (some (.int (jf_spotI x y))) h) := by
  refine jc_of (cc := cX2_spot) (maxL := 2) (ret := some .int) (own := RX2) (lv := [(0, _), (1, _)]) (by decide) rfl rfl (Nat.le_of_ble_eq_true rfl) rfl (fun X cx => ?_)
  refine jg_iload_n cx dX2_spot_0 rfl ?_
  refine jg_iload_n cx dX2_spot_1 rfl ?_
  refine jg_icmp_ge cx (tgt := 14) dX2_spot_2 (by decide) (fun c2 => ?_) (fun c2 => ?_)
  · refine jg_iload_n cx dX2_spot_14 rfl ?_
    refine jg_bipush cx (v := nI 8) dX2_spot_15 (by decide) ?_
    refine jg_imul cx dX2_spot_17 ?_
    refine jg_iload_n cx dX2_spot_18 rfl ?_
    refine jg_iadd cx dX2_spot_19 ?_
    exact jg_iret cx dX2_spot_20 (⟨(by first | with_reducible rfl | (simp only [jf_spotI, if_pos c2, ↓reduceIte, Bool.false_eq_true, Bool.true_eq_false, reduceCtorEq, eq_self, if_true, if_false, Bool.not_true, Bool.not_false]; first | done | rfl)), rfl⟩)
  · refine jg_iload_n cx dX2_spot_5 rfl ?_
    refine jg_bipush cx (v := nI 8) dX2_spot_6 (by decide) ?_
    refine jg_imul cx dX2_spot_8 ?_
    refine jg_iload_n cx dX2_spot_9 rfl ?_
    refine jg_iadd cx dX2_spot_10 ?_
    refine jg_goto cx (tgt := 20) dX2_spot_11 (by decide) ?_
    exact jg_iret cx dX2_spot_20 (⟨(by first | with_reducible rfl | (simp only [jf_spotI, if_neg c2, ↓reduceIte, Bool.false_eq_true, Bool.true_eq_false, reduceCtorEq, eq_self, if_true, if_false, Bool.not_true, Bool.not_false]; first | done | rfl)), rfl⟩)
theorem jc_X2_spotN (E : jp_E) (l : Launch) {h : jp_H} {a c : Nat} (ha : a < 8) (hc : c < 8) : jc_M E l yX2_spot wsX2_spot ({ frames := 0, cells := 0, slots := 0, locals := 0 } : Room) [.int (nI a), .int (nI c)] h (jp_R (some (.int (nI (jf_spot a c)))) h) := by
  rw [← jf_spotI_n (by omega) (by omega)]
  exact jc_X2_spot E l
set_option maxHeartbeats 1000000 in
set_option maxRecDepth 100000 in
theorem jc_X2_isWithin (E : jp_E) (l : Launch) {h : jp_H} {x lo hi : Int32} : jc_M E l yX2_isWithin wsX2_isWithin ({ frames := 0, cells := 0, slots := 0, locals := 0 } : Room) [.int x, .int lo, .int hi] h (jp_R (some (.int (jp_b (jf_within x lo hi)))) h) := by
  refine jc_of (cc := cX2_isWithin) (maxL := 3) (ret := some .boolean) (own := RX2) (lv := [(0, _), (1, _), (2, _)]) (by decide) rfl rfl (Nat.le_of_ble_eq_true rfl) rfl (fun X cx => ?_)
  refine jg_iload_n cx dX2_isWithin_0 rfl ?_
  refine jg_iload_n cx dX2_isWithin_1 rfl ?_
  refine jg_icmp_lt cx (tgt := 14) dX2_isWithin_2 (by decide) (fun c2 => ?_) (fun c2 => ?_)
  · refine jg_iconst cx (v := jp_b false) dX2_isWithin_14 (by decide) ?_
    exact jg_bret cx dX2_isWithin_15 (⟨(by first | with_reducible rfl | (simp only [jf_within, if_pos c2, ↓reduceIte, Bool.false_eq_true, Bool.true_eq_false, reduceCtorEq, eq_self, if_true, if_false, Bool.not_true, Bool.not_false]; first | done | rfl)), rfl⟩)
  · refine jg_iload_n cx dX2_isWithin_5 rfl ?_
    refine jg_iload_n cx dX2_isWithin_6 rfl ?_
    refine jg_icmp_gt cx (tgt := 14) dX2_isWithin_7 (by decide) (fun c7 => ?_) (fun c7 => ?_)
    · refine jg_iconst cx (v := jp_b false) dX2_isWithin_14 (by decide) ?_
      exact jg_bret cx dX2_isWithin_15 (⟨(by first | with_reducible rfl | (simp only [jf_within, if_neg c2, if_pos c7, ↓reduceIte, Bool.false_eq_true, Bool.true_eq_false, reduceCtorEq, eq_self, if_true, if_false, Bool.not_true, Bool.not_false]; first | done | rfl)), rfl⟩)
    · refine jg_iconst cx (v := jp_b true) dX2_isWithin_10 (by decide) ?_
      refine jg_goto cx (tgt := 15) dX2_isWithin_11 (by decide) ?_
      exact jg_bret cx dX2_isWithin_15 (⟨(by first | with_reducible rfl | (simp only [jf_within, if_neg c2, if_neg c7, ↓reduceIte, Bool.false_eq_true, Bool.true_eq_false, reduceCtorEq, eq_self, if_true, if_false, Bool.not_true, Bool.not_false]; first | done | rfl)), rfl⟩)
set_option maxHeartbeats 1000000 in
set_option maxRecDepth 100000 in
theorem jc_X2_isNode (E : jp_E) (l : Launch) {h : jp_H} {x : Int32} : jc_M E l yX2_isNode wsX2_isNode ({ frames := 1, cells := 0, slots := 0, locals := 22 } : Room) [.int x] h (jp_R (some (.int (jp_b (jf_within x (nI 0) (nI 7))))) h) := by
  refine jc_of (cc := cX2_isNode) (maxL := 1) (ret := some .boolean) (own := RX2) (lv := [(0, _)]) (by decide) rfl rfl (Nat.le_of_ble_eq_true rfl) rfl (fun X cx => ?_)
  refine jg_iload_n cx dX2_isNode_0 rfl ?_
  refine jg_iconst cx (v := nI 0) dX2_isNode_1 (by decide) ?_
  refine jg_bipush cx (v := nI 7) dX2_isNode_2 (by decide) ?_
  refine jg_callSi cx (n := 3) (jc_X2_isWithin E l) gX2_isNode_X2_isWithin rfl ⟨rfl, rfl⟩ ⟨(Nat.le_of_ble_eq_true rfl), (Nat.le_of_ble_eq_true rfl)⟩ (by decide +kernel) rfl rfl (Nat.le_of_ble_eq_true rfl) dX2_isNode_4 ?_
  exact jg_bret cx dX2_isNode_7 (⟨rfl, rfl⟩)
set_option maxHeartbeats 1000000 in
set_option maxRecDepth 100000 in
theorem jc_X2_isRule (E : jp_E) (l : Launch) {h : jp_H} {x : Int32} : jc_M E l yX2_isRule wsX2_isRule ({ frames := 1, cells := 0, slots := 0, locals := 22 } : Room) [.int x] h (jp_R (some (.int (jp_b (jf_within x (nI 0) (nI 2))))) h) := by
  refine jc_of (cc := cX2_isRule) (maxL := 1) (ret := some .boolean) (own := RX2) (lv := [(0, _)]) (by decide) rfl rfl (Nat.le_of_ble_eq_true rfl) rfl (fun X cx => ?_)
  refine jg_iload_n cx dX2_isRule_0 rfl ?_
  refine jg_iconst cx (v := nI 0) dX2_isRule_1 (by decide) ?_
  refine jg_iconst cx (v := nI 2) dX2_isRule_2 (by decide) ?_
  refine jg_callSi cx (n := 3) (jc_X2_isWithin E l) gX2_isRule_X2_isWithin rfl ⟨rfl, rfl⟩ ⟨(Nat.le_of_ble_eq_true rfl), (Nat.le_of_ble_eq_true rfl)⟩ (by decide +kernel) rfl rfl (Nat.le_of_ble_eq_true rfl) dX2_isRule_3 ?_
  exact jg_bret cx dX2_isRule_6 (⟨rfl, rfl⟩)
set_option maxHeartbeats 1000000 in
set_option maxRecDepth 100000 in
theorem jc_X2_isPart (E : jp_E) (l : Launch) {h : jp_H} {x : Int32} : jc_M E l yX2_isPart wsX2_isPart ({ frames := 1, cells := 0, slots := 0, locals := 22 } : Room) [.int x] h (jp_R (some (.int (jp_b (jf_within x (nI 0) (nI 1))))) h) := by
  refine jc_of (cc := cX2_isPart) (maxL := 1) (ret := some .boolean) (own := RX2) (lv := [(0, _)]) (by decide) rfl rfl (Nat.le_of_ble_eq_true rfl) rfl (fun X cx => ?_)
  refine jg_iload_n cx dX2_isPart_0 rfl ?_
  refine jg_iconst cx (v := nI 0) dX2_isPart_1 (by decide) ?_
  refine jg_iconst cx (v := nI 1) dX2_isPart_2 (by decide) ?_
  refine jg_callSi cx (n := 3) (jc_X2_isWithin E l) gX2_isPart_X2_isWithin rfl ⟨rfl, rfl⟩ ⟨(Nat.le_of_ble_eq_true rfl), (Nat.le_of_ble_eq_true rfl)⟩ (by decide +kernel) rfl rfl (Nat.le_of_ble_eq_true rfl) dX2_isPart_3 ?_
  exact jg_bret cx dX2_isPart_6 (⟨rfl, rfl⟩)
def jf_fdiv (x y : Int32) : Int32 := if 0 ≤ x ^^^ y then x / y else if x / y * y = x then x / y else x / y - nI 1
set_option maxHeartbeats 1000000 in
set_option maxRecDepth 100000 in
theorem jc_J9_floorDiv_7cf53 (E : jp_E) (l : Launch) {h : jp_H} {x y : Int32} (hy : ¬ y = 0) : jc_M E l yJ9_floorDiv_7cf53 wsJ9_floorDiv_7cf53 ({ frames := 0, cells := 0, slots := 0, locals := 0 } : Room) [.int x, .int y] h (jp_R (some (.int (jf_fdiv x y))) h) := by
  refine jc_ofF (cc := cJ9_floorDiv_7cf53) (maxL := 3) (ret := some .int) (own := RJ9) (lv := [(0, _), (1, _)]) (by decide +kernel) rfl rfl (Nat.le_of_ble_eq_true rfl) rfl (fun X cx => ?_)
  refine jg_iload_n cx dJ9_floorDiv_7cf53_0 rfl ?_
  refine jg_iload_n cx dJ9_floorDiv_7cf53_1 rfl ?_
  refine jg_idiv cx dJ9_floorDiv_7cf53_2 (by assumption) ?_
  refine jg_istore_n cx (lv' := [(0, _), (1, _), (2, _)]) dJ9_floorDiv_7cf53_3 (by decide) rfl ?_
  refine jg_iload_n cx dJ9_floorDiv_7cf53_4 rfl ?_
  refine jg_iload_n cx dJ9_floorDiv_7cf53_5 rfl ?_
  refine jg_ixor cx dJ9_floorDiv_7cf53_6 ?_
  refine jg_if_ge cx (tgt := 21) dJ9_floorDiv_7cf53_7 (by decide) (fun c7 => ?_) (fun c7 => ?_)
  · refine jg_iload_n cx dJ9_floorDiv_7cf53_21 rfl ?_
    exact jg_iret cx dJ9_floorDiv_7cf53_22 (⟨(by first | with_reducible rfl | (simp only [jf_fdiv, if_pos c7, ↓reduceIte, Bool.false_eq_true, Bool.true_eq_false, reduceCtorEq, eq_self, if_true, if_false, Bool.not_true, Bool.not_false]; first | done | rfl)), rfl⟩)
  · refine jg_iload_n cx dJ9_floorDiv_7cf53_10 rfl ?_
    refine jg_iload_n cx dJ9_floorDiv_7cf53_11 rfl ?_
    refine jg_imul cx dJ9_floorDiv_7cf53_12 ?_
    refine jg_iload_n cx dJ9_floorDiv_7cf53_13 rfl ?_
    refine jg_icmp_eq cx (tgt := 21) dJ9_floorDiv_7cf53_14 (by decide) (fun c14 => ?_) (fun c14 => ?_)
    · refine jg_iload_n cx dJ9_floorDiv_7cf53_21 rfl ?_
      exact jg_iret cx dJ9_floorDiv_7cf53_22 (⟨(by first | with_reducible rfl | (simp only [jf_fdiv, if_neg c7, if_pos c14, ↓reduceIte, Bool.false_eq_true, Bool.true_eq_false, reduceCtorEq, eq_self, if_true, if_false, Bool.not_true, Bool.not_false]; first | done | rfl)), rfl⟩)
    · refine jg_iload_n cx dJ9_floorDiv_7cf53_17 rfl ?_
      refine jg_iconst cx (v := nI 1) dJ9_floorDiv_7cf53_18 (by decide) ?_
      refine jg_isub cx dJ9_floorDiv_7cf53_19 ?_
      exact jg_iret cx dJ9_floorDiv_7cf53_20 (⟨(by first | with_reducible rfl | (simp only [jf_fdiv, if_neg c7, if_neg c14, ↓reduceIte, Bool.false_eq_true, Bool.true_eq_false, reduceCtorEq, eq_self, if_true, if_false, Bool.not_true, Bool.not_false]; first | done | rfl)), rfl⟩)
def jf_joins (N : jf_B) (a c : Nat) : Bool := if N 5 (jf_spot a c) = -1 then false else true
set_option maxHeartbeats 1000000 in
set_option maxRecDepth 100000 in
theorem jc_X0_joins (E : jp_E) (l : Launch) {b : Nat} {h : jp_H} {N : jf_B} {L : jf_L} (hb : jp_net b) {a c : Nat} (ha : a < 8) (hc : c < 8) : jc_M E l yX0_joins wsX0_joins ({ frames := 1, cells := 0, slots := 0, locals := 21 } : Room) [.ref (E.2.1 b 0), .int (nI a), .int (nI c)] (jp_u h b N L) (jp_R (some (.int (jp_b (jf_joins N a c)))) (jp_u h b N L)) := by
  refine jc_of (cc := cX0_joins) (maxL := 3) (ret := some .boolean) (own := RX0) (lv := [(0, _), (1, _), (2, _)]) (by decide) rfl rfl (Nat.le_of_ble_eq_true rfl) rfl (fun X cx => ?_)
  have inX0 : ∀ w ∈ u_ws RX0 TX0 9, w ∈ wsX0_joins := by decide +kernel
  have f24 : Cond.fieldLink RX0 24 "JobSpread$Net" "colour" "[I" ∈ wsX0_joins := by decide +kernel
  refine jg_aload_n cx dX0_joins_0 rfl ?_
  refine jg_get cx (jp_net_o hb) rfl inX0 4 (by decide) f24 rfl dX0_joins_1 ?_
  refine jg_iload_n cx dX0_joins_4 rfl ?_
  refine jg_iload_n cx dX0_joins_5 rfl ?_
  refine jg_callSNi cx (n := 2) (jc_X2_spotN E l (by omega) (by omega)) gX0_joins_X2_spot_n46 (by decide +kernel) (by decide +kernel) (by decide +kernel) rfl ⟨rfl, rfl⟩ ⟨(Nat.le_of_ble_eq_true rfl), (Nat.le_of_ble_eq_true rfl)⟩ (by decide +kernel) rfl rfl (Nat.le_of_ble_eq_true rfl) dX0_joins_6 ?_
  refine jg_ialdU cx dX0_joins_9 ((jp_net_5 hb)) rfl (jf_spot_lt (by omega) (by omega)) ?_
  refine jg_iconst cx (v := (-1)) dX0_joins_10 (by decide) ?_
  refine jg_icmp_eq cx (tgt := 18) dX0_joins_11 (by decide) (fun c11 => ?_) (fun c11 => ?_)
  · refine jg_iconst cx (v := jp_b false) dX0_joins_18 (by decide) ?_
    exact jg_bret cx dX0_joins_19 (⟨(by first | with_reducible rfl | (simp only [jf_joins, if_pos c11, ↓reduceIte, Bool.false_eq_true, Bool.true_eq_false, reduceCtorEq, eq_self, if_true, if_false, Bool.not_true, Bool.not_false]; first | done | rfl)), rfl⟩)
  · refine jg_iconst cx (v := jp_b true) dX0_joins_14 (by decide) ?_
    refine jg_goto cx (tgt := 19) dX0_joins_15 (by decide) ?_
    exact jg_bret cx dX0_joins_19 (⟨(by first | with_reducible rfl | (simp only [jf_joins, if_neg c11, ↓reduceIte, Bool.false_eq_true, Bool.true_eq_false, reduceCtorEq, eq_self, if_true, if_false, Bool.not_true, Bool.not_false]; first | done | rfl)), rfl⟩)
def jf_lift (N : jf_B) (a c : Nat) : jf_B :=
  if jf_joins N a c then
    let N1 := jf_w N 5 (jf_spot a c) (-1)
    let N2 := jf_w N1 6 (jf_spot a c) (nI 0)
    let N3 := jf_w N2 4 a (N2 4 a - nI 1)
    let N4 := jf_w N3 4 c (N3 4 c - nI 1)
    jf_w N4 0 7 (N4 0 7 - nI 1)
  else N
set_option maxHeartbeats 1000000 in
set_option maxRecDepth 100000 in
theorem jc_X0_lift (E : jp_E) (l : Launch) {b : Nat} {h : jp_H} {N : jf_B} {L : jf_L} (hb : jp_net b) {a c : Nat} (ha : a < 8) (hc : c < 8) : jc_M E l yX0_lift wsX0_lift ({ frames := 2, cells := 0, slots := 0, locals := 43 } : Room) [.ref (E.2.1 b 0), .int (nI a), .int (nI c)] (jp_u h b N L) (jp_R none (jp_u h b (jf_lift N a c) L)) := by
  refine jc_of (cc := cX0_lift) (maxL := 3) (ret := none) (own := RX0) (lv := [(0, _), (1, _), (2, _)]) (by decide) rfl rfl (Nat.le_of_ble_eq_true rfl) rfl (fun X cx => ?_)
  have inX0 : ∀ w ∈ u_ws RX0 TX0 9, w ∈ wsX0_lift := by decide +kernel
  have f21 : Cond.fieldLink RX0 21 "JobSpread$Net" "degree" "[I" ∈ wsX0_lift := by decide +kernel
  have f24 : Cond.fieldLink RX0 24 "JobSpread$Net" "colour" "[I" ∈ wsX0_lift := by decide +kernel
  have f27 : Cond.fieldLink RX0 27 "JobSpread$Net" "carry" "[I" ∈ wsX0_lift := by decide +kernel
  have f33 : Cond.fieldLink RX0 33 "JobSpread$Net" "edges" "I" ∈ wsX0_lift := by decide +kernel
  refine jg_aload_n cx dX0_lift_0 rfl ?_
  refine jg_iload_n cx dX0_lift_1 rfl ?_
  refine jg_iload_n cx dX0_lift_2 rfl ?_
  refine jg_callVi cx (n := 2) (jc_X0_joins E l hb (by omega) (by omega)) gX0_lift_X0_joins rfl ⟨rfl, rfl⟩ ⟨(Nat.le_of_ble_eq_true rfl), (Nat.le_of_ble_eq_true rfl)⟩ (by decide +kernel) (jp_net_o hb) rfl rfl rfl (Nat.le_of_ble_eq_true rfl) dX0_lift_3 ?_
  refine jg_ifb_ne cx (tgt := 10) dX0_lift_6 (by decide) (fun c6 => ?_) (fun c6 => ?_)
  · refine jg_aload_n cx dX0_lift_10 rfl ?_
    refine jg_get cx (jp_net_o hb) rfl inX0 4 (by decide) f24 rfl dX0_lift_11 ?_
    refine jg_iload_n cx dX0_lift_14 rfl ?_
    refine jg_iload_n cx dX0_lift_15 rfl ?_
    refine jg_callSNi cx (n := 2) (jc_X2_spotN E l (by omega) (by omega)) gX0_lift_X2_spot_n46 (by decide +kernel) (by decide +kernel) (by decide +kernel) rfl ⟨rfl, rfl⟩ ⟨(Nat.le_of_ble_eq_true rfl), (Nat.le_of_ble_eq_true rfl)⟩ (by decide +kernel) rfl rfl (Nat.le_of_ble_eq_true rfl) dX0_lift_16 ?_
    refine jg_iconst cx (v := (-1)) dX0_lift_19 (by decide) ?_
    refine jg_iastU cx dX0_lift_20 ((jp_net_5 hb)) rfl (jf_spot_lt (by omega) (by omega)) ?_
    refine jg_aload_n cx dX0_lift_21 rfl ?_
    refine jg_get cx (jp_net_o hb) rfl inX0 5 (by decide) f27 rfl dX0_lift_22 ?_
    refine jg_iload_n cx dX0_lift_25 rfl ?_
    refine jg_iload_n cx dX0_lift_26 rfl ?_
    refine jg_callSNi cx (n := 2) (jc_X2_spotN E l (by omega) (by omega)) gX0_lift_X2_spot_n46 (by decide +kernel) (by decide +kernel) (by decide +kernel) rfl ⟨rfl, rfl⟩ ⟨(Nat.le_of_ble_eq_true rfl), (Nat.le_of_ble_eq_true rfl)⟩ (by decide +kernel) rfl rfl (Nat.le_of_ble_eq_true rfl) dX0_lift_27 ?_
    refine jg_iconst cx (v := nI 0) dX0_lift_30 (by decide) ?_
    refine jg_iastU cx dX0_lift_31 ((jp_net_6 hb)) rfl (jf_spot_lt (by omega) (by omega)) ?_
    refine jg_aload_n cx dX0_lift_32 rfl ?_
    refine jg_get cx (jp_net_o hb) rfl inX0 3 (by decide) f21 rfl dX0_lift_33 ?_
    refine jg_iload_n cx dX0_lift_36 rfl ?_
    refine jg_dup2 cx dX0_lift_37 rfl rfl ?_
    refine jg_ialdU cx dX0_lift_38 ((jp_net_4 hb)) rfl (by omega) ?_
    refine jg_iconst cx (v := nI 1) dX0_lift_39 (by decide) ?_
    refine jg_isub cx dX0_lift_40 ?_
    refine jg_iastU cx dX0_lift_41 ((jp_net_4 hb)) rfl (by omega) ?_
    refine jg_aload_n cx dX0_lift_42 rfl ?_
    refine jg_get cx (jp_net_o hb) rfl inX0 3 (by decide) f21 rfl dX0_lift_43 ?_
    refine jg_iload_n cx dX0_lift_46 rfl ?_
    refine jg_dup2 cx dX0_lift_47 rfl rfl ?_
    refine jg_ialdU cx dX0_lift_48 ((jp_net_4 hb)) rfl (by omega) ?_
    refine jg_iconst cx (v := nI 1) dX0_lift_49 (by decide) ?_
    refine jg_isub cx dX0_lift_50 ?_
    refine jg_iastU cx dX0_lift_51 ((jp_net_4 hb)) rfl (by omega) ?_
    refine jg_aload_n cx dX0_lift_52 rfl ?_
    refine jg_dup cx dX0_lift_53 rfl ?_
    refine jg_getU cx (jp_net_o hb) rfl inX0 7 (by decide) f33 rfl dX0_lift_54 ?_
    refine jg_iconst cx (v := nI 1) dX0_lift_57 (by decide) ?_
    refine jg_isub cx dX0_lift_58 ?_
    refine jg_putU cx (jp_net_o hb) rfl inX0 tyX0 tyX0_ok nmX0 7 (by decide) f33 rfl (by decide +kernel) (Nat.le_of_ble_eq_true rfl) (jp_put0_7 _ _ _ _) dX0_lift_59 ?_
    exact jg_vret cx dX0_lift_62 (⟨rfl, (by first | with_reducible rfl | (simp only [jf_lift, c6, ↓reduceIte, Bool.false_eq_true, Bool.true_eq_false, reduceCtorEq, eq_self, if_true, if_false, Bool.not_true, Bool.not_false]; first | done | rfl))⟩)
  · exact jg_vret cx dX0_lift_9 (⟨rfl, (by first | with_reducible rfl | (simp only [jf_lift, c6, ↓reduceIte, Bool.false_eq_true, Bool.true_eq_false, reduceCtorEq, eq_self, if_true, if_false, Bool.not_true, Bool.not_false]; first | done | rfl))⟩)
def jf_lay (N : jf_B) (a c : Nat) (k : Int32) : jf_B :=
  let N1 := jf_w (jf_lift N a c) 5 (jf_spot a c) k
  let N2 := jf_w N1 4 a (N1 4 a + nI 1)
  let N3 := jf_w N2 4 c (N2 4 c + nI 1)
  jf_w N3 0 7 (N3 0 7 + nI 1)
set_option maxHeartbeats 1000000 in
set_option maxRecDepth 100000 in
theorem jc_X0_lay (E : jp_E) (l : Launch) {b : Nat} {h : jp_H} {N : jf_B} {L : jf_L} (hb : jp_net b) {a c : Nat} {k : Int32} (ha : a < 8) (hc : c < 8) : jc_M E l yX0_lay wsX0_lay ({ frames := 3, cells := 0, slots := 0, locals := 65 } : Room) [.ref (E.2.1 b 0), .int (nI a), .int (nI c), .int k] (jp_u h b N L) (jp_R none (jp_u h b (jf_lay N a c k) L)) := by
  refine jc_of (cc := cX0_lay) (maxL := 4) (ret := none) (own := RX0) (lv := [(0, _), (1, _), (2, _), (3, _)]) (by decide) rfl rfl (Nat.le_of_ble_eq_true rfl) rfl (fun X cx => ?_)
  have inX0 : ∀ w ∈ u_ws RX0 TX0 9, w ∈ wsX0_lay := by decide +kernel
  have f21 : Cond.fieldLink RX0 21 "JobSpread$Net" "degree" "[I" ∈ wsX0_lay := by decide +kernel
  have f24 : Cond.fieldLink RX0 24 "JobSpread$Net" "colour" "[I" ∈ wsX0_lay := by decide +kernel
  have f33 : Cond.fieldLink RX0 33 "JobSpread$Net" "edges" "I" ∈ wsX0_lay := by decide +kernel
  refine jg_aload_n cx dX0_lay_0 rfl ?_
  refine jg_iload_n cx dX0_lay_1 rfl ?_
  refine jg_iload_n cx dX0_lay_2 rfl ?_
  refine jg_callVv cx (n := 2) (jc_X0_lift E l hb (by omega) (by omega)) gX0_lay_X0_lift rfl ⟨rfl, rfl⟩ ⟨(Nat.le_of_ble_eq_true rfl), (Nat.le_of_ble_eq_true rfl)⟩ (by decide +kernel) (jp_net_o hb) rfl rfl rfl (Nat.le_of_ble_eq_true rfl) dX0_lay_3 ?_
  refine jg_aload_n cx dX0_lay_6 rfl ?_
  refine jg_get cx (jp_net_o hb) rfl inX0 4 (by decide) f24 rfl dX0_lay_7 ?_
  refine jg_iload_n cx dX0_lay_10 rfl ?_
  refine jg_iload_n cx dX0_lay_11 rfl ?_
  refine jg_callSNi cx (n := 2) (jc_X2_spotN E l (by omega) (by omega)) gX0_lay_X2_spot_n46 (by decide +kernel) (by decide +kernel) (by decide +kernel) rfl ⟨rfl, rfl⟩ ⟨(Nat.le_of_ble_eq_true rfl), (Nat.le_of_ble_eq_true rfl)⟩ (by decide +kernel) rfl rfl (Nat.le_of_ble_eq_true rfl) dX0_lay_12 ?_
  refine jg_iload_n cx dX0_lay_15 rfl ?_
  refine jg_iastU cx dX0_lay_16 ((jp_net_5 hb)) rfl (jf_spot_lt (by omega) (by omega)) ?_
  refine jg_aload_n cx dX0_lay_17 rfl ?_
  refine jg_get cx (jp_net_o hb) rfl inX0 3 (by decide) f21 rfl dX0_lay_18 ?_
  refine jg_iload_n cx dX0_lay_21 rfl ?_
  refine jg_dup2 cx dX0_lay_22 rfl rfl ?_
  refine jg_ialdU cx dX0_lay_23 ((jp_net_4 hb)) rfl (by omega) ?_
  refine jg_iconst cx (v := nI 1) dX0_lay_24 (by decide) ?_
  refine jg_iadd cx dX0_lay_25 ?_
  refine jg_iastU cx dX0_lay_26 ((jp_net_4 hb)) rfl (by omega) ?_
  refine jg_aload_n cx dX0_lay_27 rfl ?_
  refine jg_get cx (jp_net_o hb) rfl inX0 3 (by decide) f21 rfl dX0_lay_28 ?_
  refine jg_iload_n cx dX0_lay_31 rfl ?_
  refine jg_dup2 cx dX0_lay_32 rfl rfl ?_
  refine jg_ialdU cx dX0_lay_33 ((jp_net_4 hb)) rfl (by omega) ?_
  refine jg_iconst cx (v := nI 1) dX0_lay_34 (by decide) ?_
  refine jg_iadd cx dX0_lay_35 ?_
  refine jg_iastU cx dX0_lay_36 ((jp_net_4 hb)) rfl (by omega) ?_
  refine jg_aload_n cx dX0_lay_37 rfl ?_
  refine jg_dup cx dX0_lay_38 rfl ?_
  refine jg_getU cx (jp_net_o hb) rfl inX0 7 (by decide) f33 rfl dX0_lay_39 ?_
  refine jg_iconst cx (v := nI 1) dX0_lay_42 (by decide) ?_
  refine jg_iadd cx dX0_lay_43 ?_
  refine jg_putU cx (jp_net_o hb) rfl inX0 tyX0 tyX0_ok nmX0 7 (by decide) f33 rfl (by decide +kernel) (Nat.le_of_ble_eq_true rfl) (jp_put0_7 _ _ _ _) dX0_lay_44 ?_
  exact jg_vret cx dX0_lay_47 (⟨rfl, rfl⟩)
def jf_liftR (a : Nat) (N : jf_B) : jf_B := jf_fr (fun c M => jf_lift M a c) N (a + 1) (8 - (a + 1))
def jf_liftAll (N : jf_B) : jf_B := jf_it jf_liftR N 8
set_option maxHeartbeats 1000000 in
set_option maxRecDepth 100000 in
theorem jc_X0_liftAll (E : jp_E) (l : Launch) {b : Nat} {h : jp_H} {N : jf_B} {L : jf_L} (hb : jp_net b)  : jc_M E l yX0_liftAll wsX0_liftAll ({ frames := 3, cells := 0, slots := 0, locals := 65 } : Room) [.ref (E.2.1 b 0)] (jp_u h b N L) (jp_R none (jp_u h b (jf_liftAll N) L)) := by
  refine jc_of (cc := cX0_liftAll) (maxL := 3) (ret := none) (own := RX0) (lv := [(0, _)]) (by decide) rfl rfl (Nat.le_of_ble_eq_true rfl) rfl (fun X cx => ?_)
  refine jg_iconst cx (v := nI 0) dX0_liftAll_0 (by decide) ?_
  refine jg_istore_n cx (lv' := [(0, _), (1, _)]) dX0_liftAll_1 (by decide) rfl ?_
  have lp2 : ∀ (d2 a : Nat), a + d2 = 8 → X 2 [(0, .ref (E.2.1 b 0)), (1, .int (nI a))] [] (jp_u h b (jf_it jf_liftR N a) L) := by
    intro d2
    induction d2 with
    | zero =>
      intro a  hr2 
      obtain rfl : a = 8 := by omega
      refine jg_iload_n cx dX0_liftAll_2 rfl ?_
      refine jg_bipush cx (v := nI 8) dX0_liftAll_3 (by decide) ?_
      refine jg_icmpN_ge cx (tgt := 36) dX0_liftAll_5 (by decide) (by omega) (by omega) (fun c5 => ?_) (fun c5 => ?_)
      · exact jg_vret cx dX0_liftAll_36 (⟨rfl, rfl⟩)
      · exact absurd hr2 (by omega)
    | succ d2 ih2 =>
      intro a  hr2 
      refine jg_iload_n cx dX0_liftAll_2 rfl ?_
      refine jg_bipush cx (v := nI 8) dX0_liftAll_3 (by decide) ?_
      refine jg_icmpN_ge cx (tgt := 36) dX0_liftAll_5 (by decide) (by omega) (by omega) (fun c5 => ?_) (fun c5 => ?_)
      · exact absurd hr2 (by omega)
      · refine jg_iload_n cx dX0_liftAll_8 rfl ?_
        refine jg_iconst cx (v := nI 1) dX0_liftAll_9 (by decide) ?_
        refine jg_iaddN cx dX0_liftAll_10 ?_
        refine jg_istore_n cx (lv' := [(0, _), (1, _), (2, _)]) dX0_liftAll_11 (by decide) rfl ?_
        have lp12 : ∀ (d12 n : Nat), a + 1 + n + d12 = 8 → X 12 [(0, .ref (E.2.1 b 0)), (1, .int (nI a)), (2, .int (nI (a + 1 + n)))] [] (jp_u h b (jf_fr (fun c M => jf_lift M a c) (jf_it jf_liftR N a) (a + 1) n) L) := by
          intro d12
          induction d12 with
          | zero =>
            intro n  hr12 
            obtain rfl : n = 8 - (a + 1) := by omega
            refine jg_iload_n cx dX0_liftAll_12 rfl ?_
            refine jg_bipush cx (v := nI 8) dX0_liftAll_13 (by decide) ?_
            refine jg_icmpN_ge cx (tgt := 30) dX0_liftAll_15 (by decide) (by omega) (by omega) (fun c15 => ?_) (fun c15 => ?_)
            · refine jg_iincN cx (d := 1) (lv' := [(0, _), (1, _), (2, _)]) dX0_liftAll_30 rfl (by decide) (by decide) rfl ?_
              refine jg_goto cx (tgt := 2) dX0_liftAll_33 (by decide) ?_
              refine jg_sub cx (lv' := [(0, _), (1, _)]) [0, 1] rfl ?_
              exact jg_to (ih2 (a + 1)  (by omega) ) rfl rfl rfl
            · exact absurd hr12 (by omega)
          | succ d12 ih12 =>
            intro n  hr12 
            refine jg_iload_n cx dX0_liftAll_12 rfl ?_
            refine jg_bipush cx (v := nI 8) dX0_liftAll_13 (by decide) ?_
            refine jg_icmpN_ge cx (tgt := 30) dX0_liftAll_15 (by decide) (by omega) (by omega) (fun c15 => ?_) (fun c15 => ?_)
            · exact absurd hr12 (by omega)
            · refine jg_aload_n cx dX0_liftAll_18 rfl ?_
              refine jg_iload_n cx dX0_liftAll_19 rfl ?_
              refine jg_iload_n cx dX0_liftAll_20 rfl ?_
              refine jg_callVv cx (n := 2) (jc_X0_lift E l hb (by omega) (by omega)) gX0_liftAll_X0_lift rfl ⟨rfl, rfl⟩ ⟨(Nat.le_of_ble_eq_true rfl), (Nat.le_of_ble_eq_true rfl)⟩ (by decide +kernel) (jp_net_o hb) rfl rfl rfl (Nat.le_of_ble_eq_true rfl) dX0_liftAll_21 ?_
              refine jg_iincN cx (d := 1) (lv' := [(0, _), (1, _), (2, _)]) dX0_liftAll_24 rfl (by decide) (by decide) rfl ?_
              refine jg_goto cx (tgt := 12) dX0_liftAll_27 (by decide) ?_
              exact jg_to (ih12 (n + 1)  (by omega) ) rfl rfl rfl
        exact jg_to (lp12 (8 - (a + 1)) 0  (by omega) ) rfl rfl rfl
  exact jg_to (lp2 8 0  (by omega) ) rfl rfl rfl
end
section
/-! ===== the net, what it tells ===== -/
abbrev jf_rem (x y : Int32) : Int32 := x - x / y * y
def jf_slots (N : jf_B) (i : Nat) : Int32 := if N 4 i ≤ 0 then nI 1 else N 4 i + nI 1
theorem jf_slots_ne (N : jf_B) (i : Nat) : ¬ jf_slots N i = 0 := by
  unfold jf_slots
  split
  · decide
  · next q =>
    intro e
    apply q
    have e2 : N 4 i = -1 := by
      have := congrArg (· - nI 1) e
      simp only [Int32.add_sub_cancel] at this
      rw [this]
      decide
    rw [e2]
    decide
set_option maxHeartbeats 1000000 in
set_option maxRecDepth 100000 in
theorem jc_X0_slots (E : jp_E) (l : Launch) {b : Nat} {h : jp_H} {N : jf_B} {L : jf_L} (hb : jp_net b) {i : Nat} (hi : i < 8) : jc_M E l yX0_slots wsX0_slots ({ frames := 0, cells := 0, slots := 0, locals := 0 } : Room) [.ref (E.2.1 b 0), .int (nI i)] (jp_u h b N L) (jp_R (some (.int (jf_slots N i))) (jp_u h b N L)) := by
  refine jc_of (cc := cX0_slots) (maxL := 2) (ret := some .int) (own := RX0) (lv := [(0, _), (1, _)]) (by decide) rfl rfl (Nat.le_of_ble_eq_true rfl) rfl (fun X cx => ?_)
  have inX0 : ∀ w ∈ u_ws RX0 TX0 9, w ∈ wsX0_slots := by decide +kernel
  have f21 : Cond.fieldLink RX0 21 "JobSpread$Net" "degree" "[I" ∈ wsX0_slots := by decide +kernel
  refine jg_aload_n cx dX0_slots_0 rfl ?_
  refine jg_get cx (jp_net_o hb) rfl inX0 3 (by decide) f21 rfl dX0_slots_1 ?_
  refine jg_iload_n cx dX0_slots_4 rfl ?_
  refine jg_ialdU cx dX0_slots_5 ((jp_net_4 hb)) rfl (by omega) ?_
  refine jg_if_le cx (tgt := 20) dX0_slots_6 (by decide) (fun c6 => ?_) (fun c6 => ?_)
  · refine jg_iconst cx (v := nI 1) dX0_slots_20 (by decide) ?_
    exact jg_iret cx dX0_slots_21 (⟨(by first | with_reducible rfl | (simp only [jf_slots, if_pos c6, ↓reduceIte, Bool.false_eq_true, Bool.true_eq_false, reduceCtorEq, eq_self, if_true, if_false, Bool.not_true, Bool.not_false]; first | done | rfl)), rfl⟩)
  · refine jg_aload_n cx dX0_slots_9 rfl ?_
    refine jg_get cx (jp_net_o hb) rfl inX0 3 (by decide) f21 rfl dX0_slots_10 ?_
    refine jg_iload_n cx dX0_slots_13 rfl ?_
    refine jg_ialdU cx dX0_slots_14 ((jp_net_4 hb)) rfl (by omega) ?_
    refine jg_iconst cx (v := nI 1) dX0_slots_15 (by decide) ?_
    refine jg_iadd cx dX0_slots_16 ?_
    refine jg_goto cx (tgt := 21) dX0_slots_17 (by decide) ?_
    exact jg_iret cx dX0_slots_21 (⟨(by first | with_reducible rfl | (simp only [jf_slots, if_neg c6, ↓reduceIte, Bool.false_eq_true, Bool.true_eq_false, reduceCtorEq, eq_self, if_true, if_false, Bool.not_true, Bool.not_false]; first | done | rfl)), rfl⟩)
def jf_rlo (N : jf_B) (i : Nat) : Int32 := jf_rem (N 3 i) (jf_slots N i)
set_option maxHeartbeats 1000000 in
set_option maxRecDepth 100000 in
theorem jc_X0_rotorLeftOver (E : jp_E) (l : Launch) {b : Nat} {h : jp_H} {N : jf_B} {L : jf_L} (hb : jp_net b) {i : Nat} (hi : i < 8) : jc_M E l yX0_rotorLeftOver wsX0_rotorLeftOver ({ frames := 1, cells := 0, slots := 0, locals := 21 } : Room) [.ref (E.2.1 b 0), .int (nI i)] (jp_u h b N L) (jp_R (some (.int (jf_rlo N i))) (jp_u h b N L)) := by
  refine jc_of (cc := cX0_rotorLeftOver) (maxL := 2) (ret := some .int) (own := RX0) (lv := [(0, _), (1, _)]) (by decide) rfl rfl (Nat.le_of_ble_eq_true rfl) rfl (fun X cx => ?_)
  have inX0 : ∀ w ∈ u_ws RX0 TX0 9, w ∈ wsX0_rotorLeftOver := by decide +kernel
  have f18 : Cond.fieldLink RX0 18 "JobSpread$Net" "rotor" "[I" ∈ wsX0_rotorLeftOver := by decide +kernel
  refine jg_aload_n cx dX0_rotorLeftOver_0 rfl ?_
  refine jg_get cx (jp_net_o hb) rfl inX0 2 (by decide) f18 rfl dX0_rotorLeftOver_1 ?_
  refine jg_iload_n cx dX0_rotorLeftOver_4 rfl ?_
  refine jg_ialdU cx dX0_rotorLeftOver_5 ((jp_net_3 hb)) rfl (by omega) ?_
  refine jg_aload_n cx dX0_rotorLeftOver_6 rfl ?_
  refine jg_iload_n cx dX0_rotorLeftOver_7 rfl ?_
  refine jg_callVi cx (n := 1) (jc_X0_slots E l hb (by omega)) gX0_rotorLeftOver_X0_slots rfl ⟨rfl, rfl⟩ ⟨(Nat.le_of_ble_eq_true rfl), (Nat.le_of_ble_eq_true rfl)⟩ (by decide +kernel) (jp_net_o hb) rfl rfl rfl (Nat.le_of_ble_eq_true rfl) dX0_rotorLeftOver_8 ?_
  refine jg_irem cx dX0_rotorLeftOver_11 (jf_slots_ne N i) ?_
  exact jg_iret cx dX0_rotorLeftOver_12 (⟨rfl, rfl⟩)
def jf_most (N : jf_B) : Nat → Int32
  | 0 => nI 1
  | n + 1 => if jf_most N n < jf_slots N n then jf_slots N n else jf_most N n
def jf_measure (N : jf_B) : Int32 := nI 4 * jf_most N 8
set_option maxHeartbeats 1000000 in
set_option maxRecDepth 100000 in
theorem jc_X0_measure (E : jp_E) (l : Launch) {b : Nat} {h : jp_H} {N : jf_B} {L : jf_L} (hb : jp_net b)  : jc_M E l yX0_measure wsX0_measure ({ frames := 1, cells := 0, slots := 0, locals := 21 } : Room) [.ref (E.2.1 b 0)] (jp_u h b N L) (jp_R (some (.int (jf_measure N))) (jp_u h b N L)) := by
  refine jc_of (cc := cX0_measure) (maxL := 3) (ret := some .int) (own := RX0) (lv := [(0, _)]) (by decide) rfl rfl (Nat.le_of_ble_eq_true rfl) rfl (fun X cx => ?_)
  refine jg_iconst cx (v := nI 1) dX0_measure_0 (by decide) ?_
  refine jg_istore_n cx (lv' := [(0, _), (1, _)]) dX0_measure_1 (by decide) rfl ?_
  refine jg_iconst cx (v := nI 0) dX0_measure_2 (by decide) ?_
  refine jg_istore_n cx (lv' := [(0, _), (1, _), (2, _)]) dX0_measure_3 (by decide) rfl ?_
  have lp4 : ∀ (d4 i : Nat), i + d4 = 8 → X 4 [(0, .ref (E.2.1 b 0)), (1, .int (jf_most N i)), (2, .int (nI i))] [] (jp_u h b N L) := by
    intro d4
    induction d4 with
    | zero =>
      intro i  hr4 
      obtain rfl : i = 8 := by omega
      refine jg_iload_n cx dX0_measure_4 rfl ?_
      refine jg_bipush cx (v := nI 8) dX0_measure_5 (by decide) ?_
      refine jg_icmpN_ge cx (tgt := 26) dX0_measure_7 (by decide) (by omega) (by omega) (fun c7 => ?_) (fun c7 => ?_)
      · refine jg_iconst cx (v := nI 4) dX0_measure_26 (by decide) ?_
        refine jg_iload_n cx dX0_measure_27 rfl ?_
        refine jg_imul cx dX0_measure_28 ?_
        exact jg_iret cx dX0_measure_29 (⟨rfl, rfl⟩)
      · exact absurd hr4 (by omega)
    | succ d4 ih4 =>
      intro i  hr4 
      refine jg_iload_n cx dX0_measure_4 rfl ?_
      refine jg_bipush cx (v := nI 8) dX0_measure_5 (by decide) ?_
      refine jg_icmpN_ge cx (tgt := 26) dX0_measure_7 (by decide) (by omega) (by omega) (fun c7 => ?_) (fun c7 => ?_)
      · exact absurd hr4 (by omega)
      · refine jg_iload_n cx dX0_measure_10 rfl ?_
        refine jg_aload_n cx dX0_measure_11 rfl ?_
        refine jg_iload_n cx dX0_measure_12 rfl ?_
        refine jg_callVi cx (n := 1) (jc_X0_slots E l hb (by omega)) gX0_measure_X0_slots rfl ⟨rfl, rfl⟩ ⟨(Nat.le_of_ble_eq_true rfl), (Nat.le_of_ble_eq_true rfl)⟩ (by decide +kernel) (jp_net_o hb) rfl rfl rfl (Nat.le_of_ble_eq_true rfl) dX0_measure_13 ?_
        refine jg_max cx (by decide +kernel) (by decide +kernel) (by decide +kernel) (by decide +kernel) (Nat.le_of_ble_eq_true rfl) (Nat.le_of_ble_eq_true rfl) dX0_measure_16 ?_
        refine jg_istore_n cx (lv' := [(0, _), (1, _), (2, _)]) dX0_measure_19 (by decide) rfl ?_
        refine jg_iincN cx (d := 1) (lv' := [(0, _), (1, _), (2, _)]) dX0_measure_20 rfl (by decide) (by decide) rfl ?_
        refine jg_goto cx (tgt := 4) dX0_measure_23 (by decide) ?_
        exact jg_to (ih4 (i + 1)  (by omega) ) rfl rfl rfl
  exact jg_to (lp4 8 0  (by omega) ) rfl rfl rfl
def jf_great (N : jf_B) : Nat → Int32
  | 0 => nI 0
  | n + 1 => if jf_great N n < N 5 n then N 5 n else jf_great N n
def jf_colours (N : jf_B) : Int32 := jf_great N 64 + nI 1
theorem jf_great_ge (N : jf_B) : ∀ n, 0 ≤ jf_great N n
  | 0 => by show (0 : Int32) ≤ nI 0; decide
  | n + 1 => by
    unfold jf_great
    have := jf_great_ge N n
    split
    · next q => exact Int32.le_of_lt (Int32.lt_of_le_of_lt this q)
    · exact this
theorem jf_colours_ne (N : jf_B) : ¬ jf_colours N = 0 := by
  unfold jf_colours
  intro e
  have e2 : jf_great N 64 = -1 := by
    have := congrArg (· - nI 1) e
    simp only [Int32.add_sub_cancel] at this
    rw [this]
    decide
  have := jf_great_ge N 64
  rw [e2] at this
  exact absurd this (by decide)
set_option maxHeartbeats 1000000 in
set_option maxRecDepth 100000 in
theorem jc_X0_colours (E : jp_E) (l : Launch) {b : Nat} {h : jp_H} {N : jf_B} {L : jf_L} (hb : jp_net b)  : jc_M E l yX0_colours wsX0_colours ({ frames := 1, cells := 0, slots := 0, locals := 21 } : Room) [.ref (E.2.1 b 0)] (jp_u h b N L) (jp_R (some (.int (jf_colours N))) (jp_u h b N L)) := by
  refine jc_of (cc := cX0_colours) (maxL := 3) (ret := some .int) (own := RX0) (lv := [(0, _)]) (by decide) rfl rfl (Nat.le_of_ble_eq_true rfl) rfl (fun X cx => ?_)
  have inX0 : ∀ w ∈ u_ws RX0 TX0 9, w ∈ wsX0_colours := by decide +kernel
  have f24 : Cond.fieldLink RX0 24 "JobSpread$Net" "colour" "[I" ∈ wsX0_colours := by decide +kernel
  refine jg_iconst cx (v := nI 0) dX0_colours_0 (by decide) ?_
  refine jg_istore_n cx (lv' := [(0, _), (1, _)]) dX0_colours_1 (by decide) rfl ?_
  refine jg_iconst cx (v := nI 0) dX0_colours_2 (by decide) ?_
  refine jg_istore_n cx (lv' := [(0, _), (1, _), (2, _)]) dX0_colours_3 (by decide) rfl ?_
  have lp4 : ∀ (d4 i : Nat), i + d4 = 64 → X 4 [(0, .ref (E.2.1 b 0)), (1, .int (jf_great N i)), (2, .int (nI i))] [] (jp_u h b N L) := by
    intro d4
    induction d4 with
    | zero =>
      intro i  hr4 
      obtain rfl : i = 64 := by omega
      refine jg_iload_n cx dX0_colours_4 rfl ?_
      refine jg_bipush cx (v := nI 64) dX0_colours_5 (by decide) ?_
      refine jg_icmpN_ge cx (tgt := 27) dX0_colours_7 (by decide) (by omega) (by omega) (fun c7 => ?_) (fun c7 => ?_)
      · refine jg_iload_n cx dX0_colours_27 rfl ?_
        refine jg_iconst cx (v := nI 1) dX0_colours_28 (by decide) ?_
        refine jg_iadd cx dX0_colours_29 ?_
        exact jg_iret cx dX0_colours_30 (⟨rfl, rfl⟩)
      · exact absurd hr4 (by omega)
    | succ d4 ih4 =>
      intro i  hr4 
      refine jg_iload_n cx dX0_colours_4 rfl ?_
      refine jg_bipush cx (v := nI 64) dX0_colours_5 (by decide) ?_
      refine jg_icmpN_ge cx (tgt := 27) dX0_colours_7 (by decide) (by omega) (by omega) (fun c7 => ?_) (fun c7 => ?_)
      · exact absurd hr4 (by omega)
      · refine jg_iload_n cx dX0_colours_10 rfl ?_
        refine jg_aload_n cx dX0_colours_11 rfl ?_
        refine jg_get cx (jp_net_o hb) rfl inX0 4 (by decide) f24 rfl dX0_colours_12 ?_
        refine jg_iload_n cx dX0_colours_15 rfl ?_
        refine jg_ialdU cx dX0_colours_16 ((jp_net_5 hb)) rfl (by omega) ?_
        refine jg_max cx (by decide +kernel) (by decide +kernel) (by decide +kernel) (by decide +kernel) (Nat.le_of_ble_eq_true rfl) (Nat.le_of_ble_eq_true rfl) dX0_colours_17 ?_
        refine jg_istore_n cx (lv' := [(0, _), (1, _), (2, _)]) dX0_colours_20 (by decide) rfl ?_
        refine jg_iincN cx (d := 1) (lv' := [(0, _), (1, _), (2, _)]) dX0_colours_21 rfl (by decide) (by decide) rfl ?_
        refine jg_goto cx (tgt := 4) dX0_colours_24 (by decide) ?_
        exact jg_to (ih4 (i + 1)  (by omega) ) rfl rfl rfl
  exact jg_to (lp4 64 0  (by omega) ) rfl rfl rfl
def jf_sumS (N : jf_B) : Nat → Int32
  | 0 => nI 0
  | n + 1 => jf_sumS N n + N 1 n
def jf_sumJ (N : jf_B) : Nat → Int64
  | 0 => 0
  | n + 1 => jf_sumJ N n + (N 2 n).toInt64
def jf_below (N : jf_B) : Nat → Int32
  | 0 => nI 0
  | n + 1 => if 0 ≤ N 2 n then jf_below N n else jf_below N n + nI 1
set_option maxHeartbeats 1000000 in
set_option maxRecDepth 100000 in
theorem jc_X0_allSpeeds (E : jp_E) (l : Launch) {b : Nat} {h : jp_H} {N : jf_B} {L : jf_L} (hb : jp_net b)  : jc_M E l yX0_allSpeeds wsX0_allSpeeds ({ frames := 0, cells := 0, slots := 0, locals := 0 } : Room) [.ref (E.2.1 b 0)] (jp_u h b N L) (jp_R (some (.int (jf_sumS N 8))) (jp_u h b N L)) := by
  refine jc_of (cc := cX0_allSpeeds) (maxL := 3) (ret := some .int) (own := RX0) (lv := [(0, _)]) (by decide) rfl rfl (Nat.le_of_ble_eq_true rfl) rfl (fun X cx => ?_)
  have inX0 : ∀ w ∈ u_ws RX0 TX0 9, w ∈ wsX0_allSpeeds := by decide +kernel
  have f9 : Cond.fieldLink RX0 9 "JobSpread$Net" "speed" "[I" ∈ wsX0_allSpeeds := by decide +kernel
  refine jg_iconst cx (v := nI 0) dX0_allSpeeds_0 (by decide) ?_
  refine jg_istore_n cx (lv' := [(0, _), (1, _)]) dX0_allSpeeds_1 (by decide) rfl ?_
  refine jg_iconst cx (v := nI 0) dX0_allSpeeds_2 (by decide) ?_
  refine jg_istore_n cx (lv' := [(0, _), (1, _), (2, _)]) dX0_allSpeeds_3 (by decide) rfl ?_
  have lp4 : ∀ (d4 i : Nat), i + d4 = 8 → X 4 [(0, .ref (E.2.1 b 0)), (1, .int (jf_sumS N i)), (2, .int (nI i))] [] (jp_u h b N L) := by
    intro d4
    induction d4 with
    | zero =>
      intro i  hr4 
      obtain rfl : i = 8 := by omega
      refine jg_iload_n cx dX0_allSpeeds_4 rfl ?_
      refine jg_bipush cx (v := nI 8) dX0_allSpeeds_5 (by decide) ?_
      refine jg_icmpN_ge cx (tgt := 25) dX0_allSpeeds_7 (by decide) (by omega) (by omega) (fun c7 => ?_) (fun c7 => ?_)
      · refine jg_iload_n cx dX0_allSpeeds_25 rfl ?_
        exact jg_iret cx dX0_allSpeeds_26 (⟨rfl, rfl⟩)
      · exact absurd hr4 (by omega)
    | succ d4 ih4 =>
      intro i  hr4 
      refine jg_iload_n cx dX0_allSpeeds_4 rfl ?_
      refine jg_bipush cx (v := nI 8) dX0_allSpeeds_5 (by decide) ?_
      refine jg_icmpN_ge cx (tgt := 25) dX0_allSpeeds_7 (by decide) (by omega) (by omega) (fun c7 => ?_) (fun c7 => ?_)
      · exact absurd hr4 (by omega)
      · refine jg_iload_n cx dX0_allSpeeds_10 rfl ?_
        refine jg_aload_n cx dX0_allSpeeds_11 rfl ?_
        refine jg_get cx (jp_net_o hb) rfl inX0 0 (by decide) f9 rfl dX0_allSpeeds_12 ?_
        refine jg_iload_n cx dX0_allSpeeds_15 rfl ?_
        refine jg_ialdU cx dX0_allSpeeds_16 ((jp_net_1 hb)) rfl (by omega) ?_
        refine jg_iadd cx dX0_allSpeeds_17 ?_
        refine jg_istore_n cx (lv' := [(0, _), (1, _), (2, _)]) dX0_allSpeeds_18 (by decide) rfl ?_
        refine jg_iincN cx (d := 1) (lv' := [(0, _), (1, _), (2, _)]) dX0_allSpeeds_19 rfl (by decide) (by decide) rfl ?_
        refine jg_goto cx (tgt := 4) dX0_allSpeeds_22 (by decide) ?_
        exact jg_to (ih4 (i + 1)  (by omega) ) rfl rfl rfl
  exact jg_to (lp4 8 0  (by omega) ) rfl rfl rfl
set_option maxHeartbeats 1000000 in
set_option maxRecDepth 100000 in
theorem jc_X0_allJobs (E : jp_E) (l : Launch) {b : Nat} {h : jp_H} {N : jf_B} {L : jf_L} (hb : jp_net b)  : jc_M E l yX0_allJobs wsX0_allJobs ({ frames := 0, cells := 0, slots := 0, locals := 0 } : Room) [.ref (E.2.1 b 0)] (jp_u h b N L) (jp_R (some (.long (jf_sumJ N 8))) (jp_u h b N L)) := by
  refine jc_of (cc := cX0_allJobs) (maxL := 4) (ret := some .long) (own := RX0) (lv := [(0, _)]) (by decide) rfl rfl (Nat.le_of_ble_eq_true rfl) rfl (fun X cx => ?_)
  have inX0 : ∀ w ∈ u_ws RX0 TX0 9, w ∈ wsX0_allJobs := by decide +kernel
  have f15 : Cond.fieldLink RX0 15 "JobSpread$Net" "jobs" "[I" ∈ wsX0_allJobs := by decide +kernel
  refine jg_lconst cx (v := 0) dX0_allJobs_0 rfl ?_
  refine jg_lstore_n cx (lv' := [(0, _), (1, _)]) dX0_allJobs_1 (by decide) rfl ?_
  refine jg_iconst cx (v := nI 0) dX0_allJobs_2 (by decide) ?_
  refine jg_istore_n cx (lv' := [(0, _), (1, _), (3, _)]) dX0_allJobs_3 (by decide) rfl ?_
  have lp4 : ∀ (d4 i : Nat), i + d4 = 8 → X 4 [(0, .ref (E.2.1 b 0)), (1, .long (jf_sumJ N i)), (3, .int (nI i))] [] (jp_u h b N L) := by
    intro d4
    induction d4 with
    | zero =>
      intro i  hr4 
      obtain rfl : i = 8 := by omega
      refine jg_iload_n cx dX0_allJobs_4 rfl ?_
      refine jg_bipush cx (v := nI 8) dX0_allJobs_5 (by decide) ?_
      refine jg_icmpN_ge cx (tgt := 26) dX0_allJobs_7 (by decide) (by omega) (by omega) (fun c7 => ?_) (fun c7 => ?_)
      · refine jg_lload_n cx dX0_allJobs_26 rfl ?_
        exact jg_lret cx dX0_allJobs_27 (⟨rfl, rfl⟩)
      · exact absurd hr4 (by omega)
    | succ d4 ih4 =>
      intro i  hr4 
      refine jg_iload_n cx dX0_allJobs_4 rfl ?_
      refine jg_bipush cx (v := nI 8) dX0_allJobs_5 (by decide) ?_
      refine jg_icmpN_ge cx (tgt := 26) dX0_allJobs_7 (by decide) (by omega) (by omega) (fun c7 => ?_) (fun c7 => ?_)
      · exact absurd hr4 (by omega)
      · refine jg_lload_n cx dX0_allJobs_10 rfl ?_
        refine jg_aload_n cx dX0_allJobs_11 rfl ?_
        refine jg_get cx (jp_net_o hb) rfl inX0 1 (by decide) f15 rfl dX0_allJobs_12 ?_
        refine jg_iload_n cx dX0_allJobs_15 rfl ?_
        refine jg_ialdU cx dX0_allJobs_16 ((jp_net_2 hb)) rfl (by omega) ?_
        refine jg_i2l cx dX0_allJobs_17 ?_
        refine jg_ladd cx dX0_allJobs_18 ?_
        refine jg_lstore_n cx (lv' := [(0, _), (1, _), (3, _)]) dX0_allJobs_19 (by decide) rfl ?_
        refine jg_iincN cx (d := 1) (lv' := [(0, _), (1, _), (3, _)]) dX0_allJobs_20 rfl (by decide) (by decide) rfl ?_
        refine jg_goto cx (tgt := 4) dX0_allJobs_23 (by decide) ?_
        exact jg_to (ih4 (i + 1)  (by omega) ) rfl rfl rfl
  exact jg_to (lp4 8 0  (by omega) ) rfl rfl rfl
set_option maxHeartbeats 1000000 in
set_option maxRecDepth 100000 in
theorem jc_X0_nodesBelowZero (E : jp_E) (l : Launch) {b : Nat} {h : jp_H} {N : jf_B} {L : jf_L} (hb : jp_net b)  : jc_M E l yX0_nodesBelowZero wsX0_nodesBelowZero ({ frames := 0, cells := 0, slots := 0, locals := 0 } : Room) [.ref (E.2.1 b 0)] (jp_u h b N L) (jp_R (some (.int (jf_below N 8))) (jp_u h b N L)) := by
  refine jc_of (cc := cX0_nodesBelowZero) (maxL := 3) (ret := some .int) (own := RX0) (lv := [(0, _)]) (by decide) rfl rfl (Nat.le_of_ble_eq_true rfl) rfl (fun X cx => ?_)
  have inX0 : ∀ w ∈ u_ws RX0 TX0 9, w ∈ wsX0_nodesBelowZero := by decide +kernel
  have f15 : Cond.fieldLink RX0 15 "JobSpread$Net" "jobs" "[I" ∈ wsX0_nodesBelowZero := by decide +kernel
  refine jg_iconst cx (v := nI 0) dX0_nodesBelowZero_0 (by decide) ?_
  refine jg_istore_n cx (lv' := [(0, _), (1, _)]) dX0_nodesBelowZero_1 (by decide) rfl ?_
  refine jg_iconst cx (v := nI 0) dX0_nodesBelowZero_2 (by decide) ?_
  refine jg_istore_n cx (lv' := [(0, _), (1, _), (2, _)]) dX0_nodesBelowZero_3 (by decide) rfl ?_
  have lp4 : ∀ (d4 i : Nat), i + d4 = 8 → X 4 [(0, .ref (E.2.1 b 0)), (1, .int (jf_below N i)), (2, .int (nI i))] [] (jp_u h b N L) := by
    intro d4
    induction d4 with
    | zero =>
      intro i  hr4 
      obtain rfl : i = 8 := by omega
      refine jg_iload_n cx dX0_nodesBelowZero_4 rfl ?_
      refine jg_bipush cx (v := nI 8) dX0_nodesBelowZero_5 (by decide) ?_
      refine jg_icmpN_ge cx (tgt := 28) dX0_nodesBelowZero_7 (by decide) (by omega) (by omega) (fun c7 => ?_) (fun c7 => ?_)
      · refine jg_iload_n cx dX0_nodesBelowZero_28 rfl ?_
        exact jg_iret cx dX0_nodesBelowZero_29 (⟨rfl, rfl⟩)
      · exact absurd hr4 (by omega)
    | succ d4 ih4 =>
      intro i  hr4 
      refine jg_iload_n cx dX0_nodesBelowZero_4 rfl ?_
      refine jg_bipush cx (v := nI 8) dX0_nodesBelowZero_5 (by decide) ?_
      refine jg_icmpN_ge cx (tgt := 28) dX0_nodesBelowZero_7 (by decide) (by omega) (by omega) (fun c7 => ?_) (fun c7 => ?_)
      · exact absurd hr4 (by omega)
      · refine jg_aload_n cx dX0_nodesBelowZero_10 rfl ?_
        refine jg_get cx (jp_net_o hb) rfl inX0 1 (by decide) f15 rfl dX0_nodesBelowZero_11 ?_
        refine jg_iload_n cx dX0_nodesBelowZero_14 rfl ?_
        refine jg_ialdU cx dX0_nodesBelowZero_15 ((jp_net_2 hb)) rfl (by omega) ?_
        refine jg_if_ge cx (tgt := 22) dX0_nodesBelowZero_16 (by decide) (fun c16 => ?_) (fun c16 => ?_)
        · refine jg_iincN cx (d := 1) (lv' := [(0, _), (1, _), (2, _)]) dX0_nodesBelowZero_22 rfl (by decide) (by decide) rfl ?_
          refine jg_goto cx (tgt := 4) dX0_nodesBelowZero_25 (by decide) ?_
          exact jg_to (ih4 (i + 1)  (by omega) ) (by first | with_reducible rfl | (simp only [jf_below, if_pos c16, ↓reduceIte, Bool.false_eq_true, Bool.true_eq_false, reduceCtorEq, eq_self, if_true, if_false, Bool.not_true, Bool.not_false]; first | done | rfl)) (by first | with_reducible rfl | (simp only [jf_below, if_pos c16, ↓reduceIte, Bool.false_eq_true, Bool.true_eq_false, reduceCtorEq, eq_self, if_true, if_false, Bool.not_true, Bool.not_false]; first | done | rfl)) (by first | with_reducible rfl | (simp only [jf_below, if_pos c16, ↓reduceIte, Bool.false_eq_true, Bool.true_eq_false, reduceCtorEq, eq_self, if_true, if_false, Bool.not_true, Bool.not_false]; first | done | rfl))
        · refine jg_iincI cx (d := 1) (lv' := [(0, _), (1, _), (2, _)]) dX0_nodesBelowZero_19 rfl (by decide) (by decide) rfl ?_
          refine jg_iincN cx (d := 1) (lv' := [(0, _), (1, _), (2, _)]) dX0_nodesBelowZero_22 rfl (by decide) (by decide) rfl ?_
          refine jg_goto cx (tgt := 4) dX0_nodesBelowZero_25 (by decide) ?_
          exact jg_to (ih4 (i + 1)  (by omega) ) (by first | with_reducible rfl | (simp only [jf_below, if_neg c16, ↓reduceIte, Bool.false_eq_true, Bool.true_eq_false, reduceCtorEq, eq_self, if_true, if_false, Bool.not_true, Bool.not_false]; first | done | rfl)) (by first | with_reducible rfl | (simp only [jf_below, if_neg c16, ↓reduceIte, Bool.false_eq_true, Bool.true_eq_false, reduceCtorEq, eq_self, if_true, if_false, Bool.not_true, Bool.not_false]; first | done | rfl)) (by first | with_reducible rfl | (simp only [jf_below, if_neg c16, ↓reduceIte, Bool.false_eq_true, Bool.true_eq_false, reduceCtorEq, eq_self, if_true, if_false, Bool.not_true, Bool.not_false]; first | done | rfl))
  exact jg_to (lp4 8 0  (by omega) ) rfl rfl rfl
def jf_gap (N : jf_B) (i j : Nat) : Int64 := (N 2 i).toInt64 * (N 1 j).toInt64 - (N 2 j).toInt64 * (N 1 i).toInt64
set_option maxHeartbeats 1000000 in
set_option maxRecDepth 100000 in
theorem jc_X0_loadGap (E : jp_E) (l : Launch) {b : Nat} {h : jp_H} {N : jf_B} {L : jf_L} (hb : jp_net b) {i j : Nat} (hi : i < 8) (hj : j < 8) : jc_M E l yX0_loadGap wsX0_loadGap ({ frames := 0, cells := 0, slots := 0, locals := 0 } : Room) [.ref (E.2.1 b 0), .int (nI i), .int (nI j)] (jp_u h b N L) (jp_R (some (.long (jf_gap N i j))) (jp_u h b N L)) := by
  refine jc_of (cc := cX0_loadGap) (maxL := 3) (ret := some .long) (own := RX0) (lv := [(0, _), (1, _), (2, _)]) (by decide) rfl rfl (Nat.le_of_ble_eq_true rfl) rfl (fun X cx => ?_)
  have inX0 : ∀ w ∈ u_ws RX0 TX0 9, w ∈ wsX0_loadGap := by decide +kernel
  have f9 : Cond.fieldLink RX0 9 "JobSpread$Net" "speed" "[I" ∈ wsX0_loadGap := by decide +kernel
  have f15 : Cond.fieldLink RX0 15 "JobSpread$Net" "jobs" "[I" ∈ wsX0_loadGap := by decide +kernel
  refine jg_aload_n cx dX0_loadGap_0 rfl ?_
  refine jg_get cx (jp_net_o hb) rfl inX0 1 (by decide) f15 rfl dX0_loadGap_1 ?_
  refine jg_iload_n cx dX0_loadGap_4 rfl ?_
  refine jg_ialdU cx dX0_loadGap_5 ((jp_net_2 hb)) rfl (by omega) ?_
  refine jg_i2l cx dX0_loadGap_6 ?_
  refine jg_aload_n cx dX0_loadGap_7 rfl ?_
  refine jg_get cx (jp_net_o hb) rfl inX0 0 (by decide) f9 rfl dX0_loadGap_8 ?_
  refine jg_iload_n cx dX0_loadGap_11 rfl ?_
  refine jg_ialdU cx dX0_loadGap_12 ((jp_net_1 hb)) rfl (by omega) ?_
  refine jg_i2l cx dX0_loadGap_13 ?_
  refine jg_lmul cx dX0_loadGap_14 ?_
  refine jg_aload_n cx dX0_loadGap_15 rfl ?_
  refine jg_get cx (jp_net_o hb) rfl inX0 1 (by decide) f15 rfl dX0_loadGap_16 ?_
  refine jg_iload_n cx dX0_loadGap_19 rfl ?_
  refine jg_ialdU cx dX0_loadGap_20 ((jp_net_2 hb)) rfl (by omega) ?_
  refine jg_i2l cx dX0_loadGap_21 ?_
  refine jg_aload_n cx dX0_loadGap_22 rfl ?_
  refine jg_get cx (jp_net_o hb) rfl inX0 0 (by decide) f9 rfl dX0_loadGap_23 ?_
  refine jg_iload_n cx dX0_loadGap_26 rfl ?_
  refine jg_ialdU cx dX0_loadGap_27 ((jp_net_1 hb)) rfl (by omega) ?_
  refine jg_i2l cx dX0_loadGap_28 ?_
  refine jg_lmul cx dX0_loadGap_29 ?_
  refine jg_lsub cx dX0_loadGap_30 ?_
  exact jg_lret cx dX0_loadGap_31 (⟨rfl, rfl⟩)
def jf_hi (N : jf_B) : Nat → Nat
  | 0 => 0
  | i + 1 => if lg_cmp (jf_gap N (i + 1) (jf_hi N i)) 0 ≤ 0 then jf_hi N i else i + 1
theorem jf_hi_le (N : jf_B) : ∀ i, jf_hi N i ≤ i
  | 0 => Nat.le_refl 0
  | i + 1 => by
    unfold jf_hi
    have := jf_hi_le N i
    split <;> omega
set_option maxHeartbeats 1000000 in
set_option maxRecDepth 100000 in
theorem jc_X0_mostLoaded (E : jp_E) (l : Launch) {b : Nat} {h : jp_H} {N : jf_B} {L : jf_L} (hb : jp_net b)  : jc_M E l yX0_mostLoaded wsX0_mostLoaded ({ frames := 1, cells := 0, slots := 0, locals := 22 } : Room) [.ref (E.2.1 b 0)] (jp_u h b N L) (jp_R (some (.int (nI (jf_hi N 7)))) (jp_u h b N L)) := by
  refine jc_of (cc := cX0_mostLoaded) (maxL := 3) (ret := some .int) (own := RX0) (lv := [(0, _)]) (by decide) rfl rfl (Nat.le_of_ble_eq_true rfl) rfl (fun X cx => ?_)
  refine jg_iconst cx (v := nI 0) dX0_mostLoaded_0 (by decide) ?_
  refine jg_istore_n cx (lv' := [(0, _), (1, _)]) dX0_mostLoaded_1 (by decide) rfl ?_
  refine jg_iconst cx (v := nI 1) dX0_mostLoaded_2 (by decide) ?_
  refine jg_istore_n cx (lv' := [(0, _), (1, _), (2, _)]) dX0_mostLoaded_3 (by decide) rfl ?_
  have lp4 : ∀ (d4 i : Nat), i + d4 = 7 → X 4 [(0, .ref (E.2.1 b 0)), (1, .int (nI (jf_hi N i))), (2, .int (nI (i + 1)))] [] (jp_u h b N L) := by
    intro d4
    induction d4 with
    | zero =>
      intro i  hr4 
      have hle := jf_hi_le N i
      refine jg_iload_n cx dX0_mostLoaded_4 rfl ?_
      refine jg_bipush cx (v := nI 8) dX0_mostLoaded_5 (by decide) ?_
      refine jg_icmpN_ge cx (tgt := 29) dX0_mostLoaded_7 (by decide) (by omega) (by omega) (fun c7 => ?_) (fun c7 => ?_)
      · refine jg_iload_n cx dX0_mostLoaded_29 rfl ?_
        exact jg_iret cx dX0_mostLoaded_30 (⟨by rw [show i = 7 by omega], rfl⟩)
      · exact absurd hr4 (by omega)
    | succ d4 ih4 =>
      intro i  hr4 
      have hle := jf_hi_le N i
      refine jg_iload_n cx dX0_mostLoaded_4 rfl ?_
      refine jg_bipush cx (v := nI 8) dX0_mostLoaded_5 (by decide) ?_
      refine jg_icmpN_ge cx (tgt := 29) dX0_mostLoaded_7 (by decide) (by omega) (by omega) (fun c7 => ?_) (fun c7 => ?_)
      · exact absurd hr4 (by omega)
      · refine jg_aload_n cx dX0_mostLoaded_10 rfl ?_
        refine jg_iload_n cx dX0_mostLoaded_11 rfl ?_
        refine jg_iload_n cx dX0_mostLoaded_12 rfl ?_
        refine jg_callVl cx (n := 2) (jc_X0_loadGap E l hb (by omega) (by omega)) gX0_mostLoaded_X0_loadGap rfl ⟨rfl, rfl⟩ ⟨(Nat.le_of_ble_eq_true rfl), (Nat.le_of_ble_eq_true rfl)⟩ (by decide +kernel) (jp_net_o hb) rfl rfl rfl (Nat.le_of_ble_eq_true rfl) dX0_mostLoaded_13 ?_
        refine jg_lconst cx (v := 0) dX0_mostLoaded_16 rfl ?_
        refine jg_lcmp cx dX0_mostLoaded_17 ?_
        refine jg_if_le cx (tgt := 23) dX0_mostLoaded_18 (by decide) (fun c18 => ?_) (fun c18 => ?_)
        · refine jg_iincN cx (d := 1) (lv' := [(0, _), (1, _), (2, _)]) dX0_mostLoaded_23 rfl (by decide) (by decide) rfl ?_
          refine jg_goto cx (tgt := 4) dX0_mostLoaded_26 (by decide) ?_
          exact jg_to (ih4 (i + 1)  (by omega) ) (by first | with_reducible rfl | (simp only [jf_hi, if_pos c18, ↓reduceIte, Bool.false_eq_true, Bool.true_eq_false, reduceCtorEq, eq_self, if_true, if_false, Bool.not_true, Bool.not_false]; first | done | rfl)) (by first | with_reducible rfl | (simp only [jf_hi, if_pos c18, ↓reduceIte, Bool.false_eq_true, Bool.true_eq_false, reduceCtorEq, eq_self, if_true, if_false, Bool.not_true, Bool.not_false]; first | done | rfl)) (by first | with_reducible rfl | (simp only [jf_hi, if_pos c18, ↓reduceIte, Bool.false_eq_true, Bool.true_eq_false, reduceCtorEq, eq_self, if_true, if_false, Bool.not_true, Bool.not_false]; first | done | rfl))
        · refine jg_iload_n cx dX0_mostLoaded_21 rfl ?_
          refine jg_istore_n cx (lv' := [(0, _), (1, _), (2, _)]) dX0_mostLoaded_22 (by decide) rfl ?_
          refine jg_iincN cx (d := 1) (lv' := [(0, _), (1, _), (2, _)]) dX0_mostLoaded_23 rfl (by decide) (by decide) rfl ?_
          refine jg_goto cx (tgt := 4) dX0_mostLoaded_26 (by decide) ?_
          exact jg_to (ih4 (i + 1)  (by omega) ) (by first | with_reducible rfl | (simp only [jf_hi, if_neg c18, ↓reduceIte, Bool.false_eq_true, Bool.true_eq_false, reduceCtorEq, eq_self, if_true, if_false, Bool.not_true, Bool.not_false]; first | done | rfl)) (by first | with_reducible rfl | (simp only [jf_hi, if_neg c18, ↓reduceIte, Bool.false_eq_true, Bool.true_eq_false, reduceCtorEq, eq_self, if_true, if_false, Bool.not_true, Bool.not_false]; first | done | rfl)) (by first | with_reducible rfl | (simp only [jf_hi, if_neg c18, ↓reduceIte, Bool.false_eq_true, Bool.true_eq_false, reduceCtorEq, eq_self, if_true, if_false, Bool.not_true, Bool.not_false]; first | done | rfl))
  exact jg_to (lp4 7 0  (by omega) ) rfl rfl rfl
def jf_lo (N : jf_B) : Nat → Nat
  | 0 => 0
  | i + 1 => if 0 ≤ lg_cmp (jf_gap N (i + 1) (jf_lo N i)) 0 then jf_lo N i else i + 1
theorem jf_lo_le (N : jf_B) : ∀ i, jf_lo N i ≤ i
  | 0 => Nat.le_refl 0
  | i + 1 => by
    unfold jf_lo
    have := jf_lo_le N i
    split <;> omega
set_option maxHeartbeats 1000000 in
set_option maxRecDepth 100000 in
theorem jc_X0_leastLoaded (E : jp_E) (l : Launch) {b : Nat} {h : jp_H} {N : jf_B} {L : jf_L} (hb : jp_net b)  : jc_M E l yX0_leastLoaded wsX0_leastLoaded ({ frames := 1, cells := 0, slots := 0, locals := 22 } : Room) [.ref (E.2.1 b 0)] (jp_u h b N L) (jp_R (some (.int (nI (jf_lo N 7)))) (jp_u h b N L)) := by
  refine jc_of (cc := cX0_leastLoaded) (maxL := 3) (ret := some .int) (own := RX0) (lv := [(0, _)]) (by decide) rfl rfl (Nat.le_of_ble_eq_true rfl) rfl (fun X cx => ?_)
  refine jg_iconst cx (v := nI 0) dX0_leastLoaded_0 (by decide) ?_
  refine jg_istore_n cx (lv' := [(0, _), (1, _)]) dX0_leastLoaded_1 (by decide) rfl ?_
  refine jg_iconst cx (v := nI 1) dX0_leastLoaded_2 (by decide) ?_
  refine jg_istore_n cx (lv' := [(0, _), (1, _), (2, _)]) dX0_leastLoaded_3 (by decide) rfl ?_
  have lp4 : ∀ (d4 i : Nat), i + d4 = 7 → X 4 [(0, .ref (E.2.1 b 0)), (1, .int (nI (jf_lo N i))), (2, .int (nI (i + 1)))] [] (jp_u h b N L) := by
    intro d4
    induction d4 with
    | zero =>
      intro i  hr4 
      have hle := jf_lo_le N i
      refine jg_iload_n cx dX0_leastLoaded_4 rfl ?_
      refine jg_bipush cx (v := nI 8) dX0_leastLoaded_5 (by decide) ?_
      refine jg_icmpN_ge cx (tgt := 29) dX0_leastLoaded_7 (by decide) (by omega) (by omega) (fun c7 => ?_) (fun c7 => ?_)
      · refine jg_iload_n cx dX0_leastLoaded_29 rfl ?_
        exact jg_iret cx dX0_leastLoaded_30 (⟨by rw [show i = 7 by omega], rfl⟩)
      · exact absurd hr4 (by omega)
    | succ d4 ih4 =>
      intro i  hr4 
      have hle := jf_lo_le N i
      refine jg_iload_n cx dX0_leastLoaded_4 rfl ?_
      refine jg_bipush cx (v := nI 8) dX0_leastLoaded_5 (by decide) ?_
      refine jg_icmpN_ge cx (tgt := 29) dX0_leastLoaded_7 (by decide) (by omega) (by omega) (fun c7 => ?_) (fun c7 => ?_)
      · exact absurd hr4 (by omega)
      · refine jg_aload_n cx dX0_leastLoaded_10 rfl ?_
        refine jg_iload_n cx dX0_leastLoaded_11 rfl ?_
        refine jg_iload_n cx dX0_leastLoaded_12 rfl ?_
        refine jg_callVl cx (n := 2) (jc_X0_loadGap E l hb (by omega) (by omega)) gX0_leastLoaded_X0_loadGap rfl ⟨rfl, rfl⟩ ⟨(Nat.le_of_ble_eq_true rfl), (Nat.le_of_ble_eq_true rfl)⟩ (by decide +kernel) (jp_net_o hb) rfl rfl rfl (Nat.le_of_ble_eq_true rfl) dX0_leastLoaded_13 ?_
        refine jg_lconst cx (v := 0) dX0_leastLoaded_16 rfl ?_
        refine jg_lcmp cx dX0_leastLoaded_17 ?_
        refine jg_if_ge cx (tgt := 23) dX0_leastLoaded_18 (by decide) (fun c18 => ?_) (fun c18 => ?_)
        · refine jg_iincN cx (d := 1) (lv' := [(0, _), (1, _), (2, _)]) dX0_leastLoaded_23 rfl (by decide) (by decide) rfl ?_
          refine jg_goto cx (tgt := 4) dX0_leastLoaded_26 (by decide) ?_
          exact jg_to (ih4 (i + 1)  (by omega) ) (by first | with_reducible rfl | (simp only [jf_lo, if_pos c18, ↓reduceIte, Bool.false_eq_true, Bool.true_eq_false, reduceCtorEq, eq_self, if_true, if_false, Bool.not_true, Bool.not_false]; first | done | rfl)) (by first | with_reducible rfl | (simp only [jf_lo, if_pos c18, ↓reduceIte, Bool.false_eq_true, Bool.true_eq_false, reduceCtorEq, eq_self, if_true, if_false, Bool.not_true, Bool.not_false]; first | done | rfl)) (by first | with_reducible rfl | (simp only [jf_lo, if_pos c18, ↓reduceIte, Bool.false_eq_true, Bool.true_eq_false, reduceCtorEq, eq_self, if_true, if_false, Bool.not_true, Bool.not_false]; first | done | rfl))
        · refine jg_iload_n cx dX0_leastLoaded_21 rfl ?_
          refine jg_istore_n cx (lv' := [(0, _), (1, _), (2, _)]) dX0_leastLoaded_22 (by decide) rfl ?_
          refine jg_iincN cx (d := 1) (lv' := [(0, _), (1, _), (2, _)]) dX0_leastLoaded_23 rfl (by decide) (by decide) rfl ?_
          refine jg_goto cx (tgt := 4) dX0_leastLoaded_26 (by decide) ?_
          exact jg_to (ih4 (i + 1)  (by omega) ) (by first | with_reducible rfl | (simp only [jf_lo, if_neg c18, ↓reduceIte, Bool.false_eq_true, Bool.true_eq_false, reduceCtorEq, eq_self, if_true, if_false, Bool.not_true, Bool.not_false]; first | done | rfl)) (by first | with_reducible rfl | (simp only [jf_lo, if_neg c18, ↓reduceIte, Bool.false_eq_true, Bool.true_eq_false, reduceCtorEq, eq_self, if_true, if_false, Bool.not_true, Bool.not_false]; first | done | rfl)) (by first | with_reducible rfl | (simp only [jf_lo, if_neg c18, ↓reduceIte, Bool.false_eq_true, Bool.true_eq_false, reduceCtorEq, eq_self, if_true, if_false, Bool.not_true, Bool.not_false]; first | done | rfl))
  exact jg_to (lp4 7 0  (by omega) ) rfl rfl rfl
def jf_even (N : jf_B) (d : Int32) : Bool := if 0 < lg_cmp (jf_gap N (jf_hi N 7) (jf_lo N 7)) (d.toInt64 * (N 1 (jf_hi N 7)).toInt64 * (N 1 (jf_lo N 7)).toInt64) then false else true
set_option maxHeartbeats 1000000 in
set_option maxRecDepth 100000 in
theorem jc_X0_isUnevenAtMost (E : jp_E) (l : Launch) {b : Nat} {h : jp_H} {N : jf_B} {L : jf_L} (hb : jp_net b) {d : Int32} : jc_M E l yX0_isUnevenAtMost wsX0_isUnevenAtMost ({ frames := 2, cells := 0, slots := 0, locals := 44 } : Room) [.ref (E.2.1 b 0), .int d] (jp_u h b N L) (jp_R (some (.int (jp_b (jf_even N d)))) (jp_u h b N L)) := by
  have hh := jf_hi_le N 7
  have hl9 := jf_lo_le N 7
  refine jc_of (cc := cX0_isUnevenAtMost) (maxL := 4) (ret := some .boolean) (own := RX0) (lv := [(0, _), (1, _)]) (by decide) rfl rfl (Nat.le_of_ble_eq_true rfl) rfl (fun X cx => ?_)
  have inX0 : ∀ w ∈ u_ws RX0 TX0 9, w ∈ wsX0_isUnevenAtMost := by decide +kernel
  have f9 : Cond.fieldLink RX0 9 "JobSpread$Net" "speed" "[I" ∈ wsX0_isUnevenAtMost := by decide +kernel
  refine jg_aload_n cx dX0_isUnevenAtMost_0 rfl ?_
  refine jg_callVi cx (n := 0) (jc_X0_mostLoaded E l hb) gX0_isUnevenAtMost_X0_mostLoaded rfl ⟨rfl, rfl⟩ ⟨(Nat.le_of_ble_eq_true rfl), (Nat.le_of_ble_eq_true rfl)⟩ (by decide +kernel) (jp_net_o hb) rfl rfl rfl (Nat.le_of_ble_eq_true rfl) dX0_isUnevenAtMost_1 ?_
  refine jg_istore_n cx (lv' := [(0, _), (1, _), (2, _)]) dX0_isUnevenAtMost_4 (by decide) rfl ?_
  refine jg_aload_n cx dX0_isUnevenAtMost_5 rfl ?_
  refine jg_callVi cx (n := 0) (jc_X0_leastLoaded E l hb) gX0_isUnevenAtMost_X0_leastLoaded rfl ⟨rfl, rfl⟩ ⟨(Nat.le_of_ble_eq_true rfl), (Nat.le_of_ble_eq_true rfl)⟩ (by decide +kernel) (jp_net_o hb) rfl rfl rfl (Nat.le_of_ble_eq_true rfl) dX0_isUnevenAtMost_6 ?_
  refine jg_istore_n cx (lv' := [(0, _), (1, _), (2, _), (3, _)]) dX0_isUnevenAtMost_9 (by decide) rfl ?_
  refine jg_aload_n cx dX0_isUnevenAtMost_10 rfl ?_
  refine jg_iload_n cx dX0_isUnevenAtMost_11 rfl ?_
  refine jg_iload_n cx dX0_isUnevenAtMost_12 rfl ?_
  refine jg_callVl cx (n := 2) (jc_X0_loadGap E l hb (by omega) (by omega)) gX0_isUnevenAtMost_X0_loadGap rfl ⟨rfl, rfl⟩ ⟨(Nat.le_of_ble_eq_true rfl), (Nat.le_of_ble_eq_true rfl)⟩ (by decide +kernel) (jp_net_o hb) rfl rfl rfl (Nat.le_of_ble_eq_true rfl) dX0_isUnevenAtMost_13 ?_
  refine jg_iload_n cx dX0_isUnevenAtMost_16 rfl ?_
  refine jg_i2l cx dX0_isUnevenAtMost_17 ?_
  refine jg_aload_n cx dX0_isUnevenAtMost_18 rfl ?_
  refine jg_get cx (jp_net_o hb) rfl inX0 0 (by decide) f9 rfl dX0_isUnevenAtMost_19 ?_
  refine jg_iload_n cx dX0_isUnevenAtMost_22 rfl ?_
  refine jg_ialdU cx dX0_isUnevenAtMost_23 ((jp_net_1 hb)) rfl (by omega) ?_
  refine jg_i2l cx dX0_isUnevenAtMost_24 ?_
  refine jg_lmul cx dX0_isUnevenAtMost_25 ?_
  refine jg_aload_n cx dX0_isUnevenAtMost_26 rfl ?_
  refine jg_get cx (jp_net_o hb) rfl inX0 0 (by decide) f9 rfl dX0_isUnevenAtMost_27 ?_
  refine jg_iload_n cx dX0_isUnevenAtMost_30 rfl ?_
  refine jg_ialdU cx dX0_isUnevenAtMost_31 ((jp_net_1 hb)) rfl (by omega) ?_
  refine jg_i2l cx dX0_isUnevenAtMost_32 ?_
  refine jg_lmul cx dX0_isUnevenAtMost_33 ?_
  refine jg_lcmp cx dX0_isUnevenAtMost_34 ?_
  refine jg_if_gt cx (tgt := 42) dX0_isUnevenAtMost_35 (by decide) (fun c35 => ?_) (fun c35 => ?_)
  · refine jg_iconst cx (v := jp_b false) dX0_isUnevenAtMost_42 (by decide) ?_
    exact jg_bret cx dX0_isUnevenAtMost_43 (⟨(by first | with_reducible rfl | (simp only [jf_even, if_pos c35, ↓reduceIte, Bool.false_eq_true, Bool.true_eq_false, reduceCtorEq, eq_self, if_true, if_false, Bool.not_true, Bool.not_false]; first | done | rfl)), rfl⟩)
  · refine jg_iconst cx (v := jp_b true) dX0_isUnevenAtMost_38 (by decide) ?_
    refine jg_goto cx (tgt := 43) dX0_isUnevenAtMost_39 (by decide) ?_
    exact jg_bret cx dX0_isUnevenAtMost_43 (⟨(by first | with_reducible rfl | (simp only [jf_even, if_neg c35, ↓reduceIte, Bool.false_eq_true, Bool.true_eq_false, reduceCtorEq, eq_self, if_true, if_false, Bool.not_true, Bool.not_false]; first | done | rfl)), rfl⟩)
end
section
/-! ===== the net, how it changes ===== -/
theorem jc_X0_rotorLeftOver_h (E : jp_E) (l : Launch) {b i : Nat} {h : jp_H} (hb : jp_net b) (hi : i < 8) : jc_M E l yX0_rotorLeftOver wsX0_rotorLeftOver ({ frames := 1, cells := 0, slots := 0, locals := 21 } : Room) [.ref (E.2.1 b 0), .int (nI i)] h (jp_R (some (.int (jf_rlo (h.1 b) i))) h) := by
  have t9 := jc_X0_rotorLeftOver E l (h := h) (N := h.1 b) (L := h.2 b) hb hi
  rw [jp_u_self] at t9
  exact t9
theorem jc_X0_colours_h (E : jp_E) (l : Launch) {b : Nat} {h : jp_H} (hb : jp_net b) : jc_M E l yX0_colours wsX0_colours ({ frames := 1, cells := 0, slots := 0, locals := 21 } : Room) [.ref (E.2.1 b 0)] h (jp_R (some (.int (jf_colours (h.1 b)))) h) := by
  have t9 := jc_X0_colours E l (h := h) (N := h.1 b) (L := h.2 b) hb
  rw [jp_u_self] at t9
  exact t9
def jf_alJ (N M : jf_B) : Nat → Bool
  | 0 => true
  | n + 1 => if N 2 n = M 2 n then (if jf_rlo N n = jf_rlo M n then jf_alJ N M n else false) else false
def jf_alC (N M : jf_B) : Nat → Bool
  | 0 => true
  | n + 1 => if N 6 n = M 6 n then jf_alC N M n else false
def jf_alike (N M : jf_B) : Bool := jf_alJ N M 8 && (jf_alC N M 64 && (if jf_rem (N 0 8) (jf_colours N) = jf_rem (M 0 8) (jf_colours M) then true else false))
theorem jf_alJ_f {N M : jf_B} {i : Nat} (hf : jf_alJ N M (i + 1) = false) : ∀ d, jf_alJ N M (i + 1 + d) = false
  | 0 => hf
  | d + 1 => by
    show jf_alJ N M ((i + 1 + d) + 1) = false
    unfold jf_alJ
    rw [jf_alJ_f hf d]
    simp
theorem jf_alC_f {N M : jf_B} {i : Nat} (hf : jf_alC N M (i + 1) = false) : ∀ d, jf_alC N M (i + 1 + d) = false
  | 0 => hf
  | d + 1 => by
    show jf_alC N M ((i + 1 + d) + 1) = false
    unfold jf_alC
    rw [jf_alC_f hf d]
    simp
theorem jf_alike_fJ {N M : jf_B} {i : Nat} (hi : i < 8) (hf : jf_alJ N M (i + 1) = false) : jf_alike N M = false := by
  have e8 := jf_alJ_f hf (8 - (i + 1))
  rw [show i + 1 + (8 - (i + 1)) = 8 by omega] at e8
  simp only [jf_alike, e8, Bool.false_and]
theorem jf_alike_fC {N M : jf_B} {i : Nat} (hi : i < 64) (hf : jf_alC N M (i + 1) = false) : jf_alike N M = false := by
  have e8 := jf_alC_f hf (64 - (i + 1))
  rw [show i + 1 + (64 - (i + 1)) = 64 by omega] at e8
  simp only [jf_alike, e8, Bool.false_and, Bool.and_false]
set_option maxHeartbeats 1000000 in
set_option maxRecDepth 100000 in
theorem jc_X0_isAlike (E : jp_E) (l : Launch) {b b2 : Nat} {h : jp_H} (hb : jp_net b) (hb2 : jp_net b2) : jc_M E l yX0_isAlike wsX0_isAlike ({ frames := 2, cells := 0, slots := 0, locals := 43 } : Room) [.ref (E.2.1 b 0), .ref (E.2.1 b2 0)] h (jp_R (some (.int (jp_b (jf_alike (h.1 b) (h.1 b2))))) h) := by
  refine jc_of (cc := cX0_isAlike) (maxL := 3) (ret := some .boolean) (own := RX0) (lv := [(0, _), (1, _)]) (by decide) rfl rfl (Nat.le_of_ble_eq_true rfl) rfl (fun X cx => ?_)
  have inX0 : ∀ w ∈ u_ws RX0 TX0 9, w ∈ wsX0_isAlike := by decide +kernel
  have f15 : Cond.fieldLink RX0 15 "JobSpread$Net" "jobs" "[I" ∈ wsX0_isAlike := by decide +kernel
  have f27 : Cond.fieldLink RX0 27 "JobSpread$Net" "carry" "[I" ∈ wsX0_isAlike := by decide +kernel
  have f37 : Cond.fieldLink RX0 37 "JobSpread$Net" "rounds" "I" ∈ wsX0_isAlike := by decide +kernel
  refine jg_iconst cx (v := nI 0) dX0_isAlike_0 (by decide) ?_
  refine jg_istore_n cx (lv' := [(0, _), (1, _), (2, _)]) dX0_isAlike_1 (by decide) rfl ?_
  have lp2 : ∀ (d2 i : Nat), i + d2 = 8 → (jf_alJ (h.1 b) (h.1 b2) i = true) → X 2 [(0, .ref (E.2.1 b 0)), (1, .ref (E.2.1 b2 0)), (2, .int (nI i))] [] (h) := by
    intro d2
    induction d2 with
    | zero =>
      intro i  hr2 hj
      obtain rfl : i = 8 := by omega
      refine jg_iload_n cx dX0_isAlike_2 rfl ?_
      refine jg_bipush cx (v := nI 8) dX0_isAlike_3 (by decide) ?_
      refine jg_icmpN_ge cx (tgt := 44) dX0_isAlike_5 (by decide) (by omega) (by omega) (fun c5 => ?_) (fun c5 => ?_)
      · refine jg_iconst cx (v := nI 0) dX0_isAlike_44 (by decide) ?_
        refine jg_istore_n cx (lv' := [(0, _), (1, _), (2, _)]) dX0_isAlike_45 (by decide) rfl ?_
        have lp46 : ∀ (d46 j : Nat), j + d46 = 64 → (jf_alC (h.1 b) (h.1 b2) j = true) → X 46 [(0, .ref (E.2.1 b 0)), (1, .ref (E.2.1 b2 0)), (2, .int (nI j))] [] (h) := by
          intro d46
          induction d46 with
          | zero =>
            intro j  hr46 hc9
            obtain rfl : j = 64 := by omega
            refine jg_iload_n cx dX0_isAlike_46 rfl ?_
            refine jg_bipush cx (v := nI 64) dX0_isAlike_47 (by decide) ?_
            refine jg_icmpN_ge cx (tgt := 75) dX0_isAlike_49 (by decide) (by omega) (by omega) (fun c49 => ?_) (fun c49 => ?_)
            · refine jg_aload_n cx dX0_isAlike_75 rfl ?_
              refine jg_get cx (jp_net_o hb) rfl inX0 8 (by decide) f37 rfl dX0_isAlike_76 ?_
              refine jg_aload_n cx dX0_isAlike_79 rfl ?_
              refine jg_callVi cx (n := 0) (jc_X0_colours_h E l hb) gX0_isAlike_X0_colours rfl ⟨rfl, rfl⟩ ⟨(Nat.le_of_ble_eq_true rfl), (Nat.le_of_ble_eq_true rfl)⟩ (by decide +kernel) (jp_net_o hb) rfl rfl rfl (Nat.le_of_ble_eq_true rfl) dX0_isAlike_80 ?_
              refine jg_irem cx dX0_isAlike_83 (jf_colours_ne _) ?_
              refine jg_aload_n cx dX0_isAlike_84 rfl ?_
              refine jg_get cx (jp_net_o hb2) rfl inX0 8 (by decide) f37 rfl dX0_isAlike_85 ?_
              refine jg_aload_n cx dX0_isAlike_88 rfl ?_
              refine jg_callVi cx (n := 0) (jc_X0_colours_h E l hb2) gX0_isAlike_X0_colours rfl ⟨rfl, rfl⟩ ⟨(Nat.le_of_ble_eq_true rfl), (Nat.le_of_ble_eq_true rfl)⟩ (by decide +kernel) (jp_net_o hb2) rfl rfl rfl (Nat.le_of_ble_eq_true rfl) dX0_isAlike_89 ?_
              refine jg_irem cx dX0_isAlike_92 (jf_colours_ne _) ?_
              refine jg_icmp_ne cx (tgt := 100) dX0_isAlike_93 (by decide) (fun c93 => ?_) (fun c93 => ?_)
              · refine jg_iconst cx (v := jp_b false) dX0_isAlike_100 (by decide) ?_
                exact jg_bret cx dX0_isAlike_101 (⟨by unfold jf_alike; rw [hj, hc9]; simp only [jf_rem, if_neg c93, ↓reduceIte, Bool.true_and], rfl⟩)
              · refine jg_iconst cx (v := jp_b true) dX0_isAlike_96 (by decide) ?_
                refine jg_goto cx (tgt := 101) dX0_isAlike_97 (by decide) ?_
                exact jg_bret cx dX0_isAlike_101 (⟨by unfold jf_alike; rw [hj, hc9]; simp only [jf_rem, if_pos c93, ↓reduceIte, Bool.true_and], rfl⟩)
            · exact absurd hr46 (by omega)
          | succ d46 ih46 =>
            intro j  hr46 hc9
            refine jg_iload_n cx dX0_isAlike_46 rfl ?_
            refine jg_bipush cx (v := nI 64) dX0_isAlike_47 (by decide) ?_
            refine jg_icmpN_ge cx (tgt := 75) dX0_isAlike_49 (by decide) (by omega) (by omega) (fun c49 => ?_) (fun c49 => ?_)
            · exact absurd hr46 (by omega)
            · refine jg_aload_n cx dX0_isAlike_52 rfl ?_
              refine jg_get cx (jp_net_o hb) rfl inX0 5 (by decide) f27 rfl dX0_isAlike_53 ?_
              refine jg_iload_n cx dX0_isAlike_56 rfl ?_
              refine jg_iald cx dX0_isAlike_57 ((jp_net_6 hb)) rfl (by omega) ?_
              refine jg_aload_n cx dX0_isAlike_58 rfl ?_
              refine jg_get cx (jp_net_o hb2) rfl inX0 5 (by decide) f27 rfl dX0_isAlike_59 ?_
              refine jg_iload_n cx dX0_isAlike_62 rfl ?_
              refine jg_iald cx dX0_isAlike_63 ((jp_net_6 hb2)) rfl (by omega) ?_
              refine jg_icmp_eq cx (tgt := 69) dX0_isAlike_64 (by decide) (fun c64 => ?_) (fun c64 => ?_)
              · refine jg_iincN cx (d := 1) (lv' := [(0, _), (1, _), (2, _)]) dX0_isAlike_69 rfl (by decide) (by decide) rfl ?_
                refine jg_goto cx (tgt := 46) dX0_isAlike_72 (by decide) ?_
                exact jg_to (ih46 (j + 1)  (by omega) (by first | with_reducible rfl | (simp only [jf_alC, hc9, if_pos c64, ↓reduceIte, Bool.false_eq_true, Bool.true_eq_false, reduceCtorEq, eq_self, if_true, if_false, Bool.not_true, Bool.not_false]; first | done | rfl))) rfl rfl rfl
              · refine jg_iconst cx (v := jp_b false) dX0_isAlike_67 (by decide) ?_
                exact jg_bret cx dX0_isAlike_68 (⟨by rw [jf_alike_fC (i := j) (by omega) (by first | with_reducible rfl | (simp only [jf_alC, if_neg c64, ↓reduceIte, Bool.false_eq_true, Bool.true_eq_false, reduceCtorEq, eq_self, if_true, if_false, Bool.not_true, Bool.not_false]; first | done | rfl))], rfl⟩)
        exact jg_to (lp46 64 0  (by omega) rfl) rfl rfl rfl
      · exact absurd hr2 (by omega)
    | succ d2 ih2 =>
      intro i  hr2 hj
      refine jg_iload_n cx dX0_isAlike_2 rfl ?_
      refine jg_bipush cx (v := nI 8) dX0_isAlike_3 (by decide) ?_
      refine jg_icmpN_ge cx (tgt := 44) dX0_isAlike_5 (by decide) (by omega) (by omega) (fun c5 => ?_) (fun c5 => ?_)
      · exact absurd hr2 (by omega)
      · refine jg_aload_n cx dX0_isAlike_8 rfl ?_
        refine jg_get cx (jp_net_o hb) rfl inX0 1 (by decide) f15 rfl dX0_isAlike_9 ?_
        refine jg_iload_n cx dX0_isAlike_12 rfl ?_
        refine jg_iald cx dX0_isAlike_13 ((jp_net_2 hb)) rfl (by omega) ?_
        refine jg_aload_n cx dX0_isAlike_14 rfl ?_
        refine jg_get cx (jp_net_o hb2) rfl inX0 1 (by decide) f15 rfl dX0_isAlike_15 ?_
        refine jg_iload_n cx dX0_isAlike_18 rfl ?_
        refine jg_iald cx dX0_isAlike_19 ((jp_net_2 hb2)) rfl (by omega) ?_
        refine jg_icmp_ne cx (tgt := 36) dX0_isAlike_20 (by decide) (fun c20 => ?_) (fun c20 => ?_)
        · refine jg_iconst cx (v := jp_b false) dX0_isAlike_36 (by decide) ?_
          exact jg_bret cx dX0_isAlike_37 (⟨by rw [jf_alike_fJ (i := i) (by omega) (by first | with_reducible rfl | (simp only [jf_alJ, if_neg c20, ↓reduceIte, Bool.false_eq_true, Bool.true_eq_false, reduceCtorEq, eq_self, if_true, if_false, Bool.not_true, Bool.not_false]; first | done | rfl))], rfl⟩)
        · refine jg_aload_n cx dX0_isAlike_23 rfl ?_
          refine jg_iload_n cx dX0_isAlike_24 rfl ?_
          refine jg_callVi cx (n := 1) (jc_X0_rotorLeftOver_h E l hb (by omega)) gX0_isAlike_X0_rotorLeftOver rfl ⟨rfl, rfl⟩ ⟨(Nat.le_of_ble_eq_true rfl), (Nat.le_of_ble_eq_true rfl)⟩ (by decide +kernel) (jp_net_o hb) rfl rfl rfl (Nat.le_of_ble_eq_true rfl) dX0_isAlike_25 ?_
          refine jg_aload_n cx dX0_isAlike_28 rfl ?_
          refine jg_iload_n cx dX0_isAlike_29 rfl ?_
          refine jg_callVi cx (n := 1) (jc_X0_rotorLeftOver_h E l hb2 (by omega)) gX0_isAlike_X0_rotorLeftOver rfl ⟨rfl, rfl⟩ ⟨(Nat.le_of_ble_eq_true rfl), (Nat.le_of_ble_eq_true rfl)⟩ (by decide +kernel) (jp_net_o hb2) rfl rfl rfl (Nat.le_of_ble_eq_true rfl) dX0_isAlike_30 ?_
          refine jg_icmp_eq cx (tgt := 38) dX0_isAlike_33 (by decide) (fun c33 => ?_) (fun c33 => ?_)
          · refine jg_iincN cx (d := 1) (lv' := [(0, _), (1, _), (2, _)]) dX0_isAlike_38 rfl (by decide) (by decide) rfl ?_
            refine jg_goto cx (tgt := 2) dX0_isAlike_41 (by decide) ?_
            exact jg_to (ih2 (i + 1)  (by omega) (by first | with_reducible rfl | (simp only [jf_alJ, hj, if_pos c20, if_pos c33, ↓reduceIte, Bool.false_eq_true, Bool.true_eq_false, reduceCtorEq, eq_self, if_true, if_false, Bool.not_true, Bool.not_false]; first | done | rfl))) rfl rfl rfl
          · refine jg_iconst cx (v := jp_b false) dX0_isAlike_36 (by decide) ?_
            exact jg_bret cx dX0_isAlike_37 (⟨by rw [jf_alike_fJ (i := i) (by omega) (by first | with_reducible rfl | (simp only [jf_alJ, if_pos c20, if_neg c33, ↓reduceIte, Bool.false_eq_true, Bool.true_eq_false, reduceCtorEq, eq_self, if_true, if_false, Bool.not_true, Bool.not_false]; first | done | rfl))], rfl⟩)
  exact jg_to (lp2 8 0  (by omega) rfl) rfl rfl rfl
def jf_become (M N : jf_B) : jf_B :=
  let N1 := va_up N 1 (va_cpy (M 1) (N 1) 0 0 8)
  let N2 := va_up N1 2 (va_cpy (M 2) (N1 2) 0 0 8)
  let N3 := va_up N2 3 (va_cpy (M 3) (N2 3) 0 0 8)
  let N4 := va_up N3 4 (va_cpy (M 4) (N3 4) 0 0 8)
  let N5 := va_up N4 5 (va_cpy (M 5) (N4 5) 0 0 64)
  let N6 := va_up N5 6 (va_cpy (M 6) (N5 6) 0 0 64)
  jf_w (jf_w N6 0 7 (M 0 7)) 0 8 (M 0 8)
set_option maxHeartbeats 1000000 in
set_option maxRecDepth 100000 in
theorem jc_X0_become (E : jp_E) (l : Launch) {b : Nat} {h : jp_H} {N : jf_B} {L : jf_L} (hb : jp_net b) {b2 : Nat} (hb2 : jp_net b2) (hne : b2 ≠ b) : jc_M E l yX0_become wsX0_become ({ frames := 1, cells := 0, slots := 0, locals := 40 } : Room) [.ref (E.2.1 b 0), .ref (E.2.1 b2 0)] (jp_u h b N L) (jp_R none (jp_u h b (jf_become (h.1 b2) N) L)) := by
  refine jc_of (cc := cX0_become) (maxL := 2) (ret := none) (own := RX0) (lv := [(0, _), (1, _)]) (by decide) rfl rfl (Nat.le_of_ble_eq_true rfl) rfl (fun X cx => ?_)
  have inX0 : ∀ w ∈ u_ws RX0 TX0 9, w ∈ wsX0_become := by decide +kernel
  have f9 : Cond.fieldLink RX0 9 "JobSpread$Net" "speed" "[I" ∈ wsX0_become := by decide +kernel
  have f15 : Cond.fieldLink RX0 15 "JobSpread$Net" "jobs" "[I" ∈ wsX0_become := by decide +kernel
  have f18 : Cond.fieldLink RX0 18 "JobSpread$Net" "rotor" "[I" ∈ wsX0_become := by decide +kernel
  have f21 : Cond.fieldLink RX0 21 "JobSpread$Net" "degree" "[I" ∈ wsX0_become := by decide +kernel
  have f24 : Cond.fieldLink RX0 24 "JobSpread$Net" "colour" "[I" ∈ wsX0_become := by decide +kernel
  have f27 : Cond.fieldLink RX0 27 "JobSpread$Net" "carry" "[I" ∈ wsX0_become := by decide +kernel
  have f33 : Cond.fieldLink RX0 33 "JobSpread$Net" "edges" "I" ∈ wsX0_become := by decide +kernel
  have f37 : Cond.fieldLink RX0 37 "JobSpread$Net" "rounds" "I" ∈ wsX0_become := by decide +kernel
  refine jg_aload_n cx dX0_become_0 rfl ?_
  refine jg_get cx (jp_net_o hb2) rfl inX0 0 (by decide) f9 rfl dX0_become_1 ?_
  refine jg_iconst cx (v := nI 0) dX0_become_4 (by decide) ?_
  refine jg_aload_n cx dX0_become_5 rfl ?_
  refine jg_get cx (jp_net_o hb) rfl inX0 0 (by decide) f9 rfl dX0_become_6 ?_
  refine jg_iconst cx (v := nI 0) dX0_become_9 (by decide) ?_
  refine jg_bipush cx (v := nI 8) dX0_become_10 (by decide) ?_
  refine jg_copyU cx hne (by decide +kernel) (by decide +kernel) (by decide +kernel) (by decide +kernel) (jp_net_1 hb2) (jp_net_1 hb) (Nat.le_of_ble_eq_true rfl) (Nat.le_of_ble_eq_true rfl) dX0_become_12 ?_
  refine jg_aload_n cx dX0_become_15 rfl ?_
  refine jg_get cx (jp_net_o hb2) rfl inX0 1 (by decide) f15 rfl dX0_become_16 ?_
  refine jg_iconst cx (v := nI 0) dX0_become_19 (by decide) ?_
  refine jg_aload_n cx dX0_become_20 rfl ?_
  refine jg_get cx (jp_net_o hb) rfl inX0 1 (by decide) f15 rfl dX0_become_21 ?_
  refine jg_iconst cx (v := nI 0) dX0_become_24 (by decide) ?_
  refine jg_bipush cx (v := nI 8) dX0_become_25 (by decide) ?_
  refine jg_copyU cx hne (by decide +kernel) (by decide +kernel) (by decide +kernel) (by decide +kernel) (jp_net_2 hb2) (jp_net_2 hb) (Nat.le_of_ble_eq_true rfl) (Nat.le_of_ble_eq_true rfl) dX0_become_27 ?_
  refine jg_aload_n cx dX0_become_30 rfl ?_
  refine jg_get cx (jp_net_o hb2) rfl inX0 2 (by decide) f18 rfl dX0_become_31 ?_
  refine jg_iconst cx (v := nI 0) dX0_become_34 (by decide) ?_
  refine jg_aload_n cx dX0_become_35 rfl ?_
  refine jg_get cx (jp_net_o hb) rfl inX0 2 (by decide) f18 rfl dX0_become_36 ?_
  refine jg_iconst cx (v := nI 0) dX0_become_39 (by decide) ?_
  refine jg_bipush cx (v := nI 8) dX0_become_40 (by decide) ?_
  refine jg_copyU cx hne (by decide +kernel) (by decide +kernel) (by decide +kernel) (by decide +kernel) (jp_net_3 hb2) (jp_net_3 hb) (Nat.le_of_ble_eq_true rfl) (Nat.le_of_ble_eq_true rfl) dX0_become_42 ?_
  refine jg_aload_n cx dX0_become_45 rfl ?_
  refine jg_get cx (jp_net_o hb2) rfl inX0 3 (by decide) f21 rfl dX0_become_46 ?_
  refine jg_iconst cx (v := nI 0) dX0_become_49 (by decide) ?_
  refine jg_aload_n cx dX0_become_50 rfl ?_
  refine jg_get cx (jp_net_o hb) rfl inX0 3 (by decide) f21 rfl dX0_become_51 ?_
  refine jg_iconst cx (v := nI 0) dX0_become_54 (by decide) ?_
  refine jg_bipush cx (v := nI 8) dX0_become_55 (by decide) ?_
  refine jg_copyU cx hne (by decide +kernel) (by decide +kernel) (by decide +kernel) (by decide +kernel) (jp_net_4 hb2) (jp_net_4 hb) (Nat.le_of_ble_eq_true rfl) (Nat.le_of_ble_eq_true rfl) dX0_become_57 ?_
  refine jg_aload_n cx dX0_become_60 rfl ?_
  refine jg_get cx (jp_net_o hb2) rfl inX0 4 (by decide) f24 rfl dX0_become_61 ?_
  refine jg_iconst cx (v := nI 0) dX0_become_64 (by decide) ?_
  refine jg_aload_n cx dX0_become_65 rfl ?_
  refine jg_get cx (jp_net_o hb) rfl inX0 4 (by decide) f24 rfl dX0_become_66 ?_
  refine jg_iconst cx (v := nI 0) dX0_become_69 (by decide) ?_
  refine jg_bipush cx (v := nI 64) dX0_become_70 (by decide) ?_
  refine jg_copyU cx hne (by decide +kernel) (by decide +kernel) (by decide +kernel) (by decide +kernel) (jp_net_5 hb2) (jp_net_5 hb) (Nat.le_of_ble_eq_true rfl) (Nat.le_of_ble_eq_true rfl) dX0_become_72 ?_
  refine jg_aload_n cx dX0_become_75 rfl ?_
  refine jg_get cx (jp_net_o hb2) rfl inX0 5 (by decide) f27 rfl dX0_become_76 ?_
  refine jg_iconst cx (v := nI 0) dX0_become_79 (by decide) ?_
  refine jg_aload_n cx dX0_become_80 rfl ?_
  refine jg_get cx (jp_net_o hb) rfl inX0 5 (by decide) f27 rfl dX0_become_81 ?_
  refine jg_iconst cx (v := nI 0) dX0_become_84 (by decide) ?_
  refine jg_bipush cx (v := nI 64) dX0_become_85 (by decide) ?_
  refine jg_copyU cx hne (by decide +kernel) (by decide +kernel) (by decide +kernel) (by decide +kernel) (jp_net_6 hb2) (jp_net_6 hb) (Nat.le_of_ble_eq_true rfl) (Nat.le_of_ble_eq_true rfl) dX0_become_87 ?_
  refine jg_aload_n cx dX0_become_90 rfl ?_
  refine jg_aload_n cx dX0_become_91 rfl ?_
  refine jg_get cx (jp_net_o hb2) rfl inX0 7 (by decide) f33 rfl dX0_become_92 ?_
  refine jg_putU cx (jp_net_o hb) rfl inX0 tyX0 tyX0_ok nmX0 7 (by decide) f33 rfl (by decide +kernel) (Nat.le_of_ble_eq_true rfl) (jp_put0_7 _ _ _ _) dX0_become_95 ?_
  refine jg_aload_n cx dX0_become_98 rfl ?_
  refine jg_aload_n cx dX0_become_99 rfl ?_
  refine jg_get cx (jp_net_o hb2) rfl inX0 8 (by decide) f37 rfl dX0_become_100 ?_
  refine jg_putU cx (jp_net_o hb) rfl inX0 tyX0 tyX0_ok nmX0 8 (by decide) f37 rfl (by decide +kernel) (Nat.le_of_ble_eq_true rfl) (jp_put0_8 _ _ _ _) dX0_become_103 ?_
  exact jg_vret cx dX0_become_106 (⟨rfl, by simp only [jf_become, jp_u_n1 _ _ _ hne]⟩)
def jf_zero (r n : Nat) (N : jf_B) : jf_B := jf_it (fun i M => jf_w M r i (nI 0)) N n
def jf_again (N : jf_B) : jf_B := jf_w (jf_zero 6 64 (jf_zero 3 8 N)) 0 8 (nI 0)
set_option maxHeartbeats 1000000 in
set_option maxRecDepth 100000 in
theorem jc_X0_startAgain (E : jp_E) (l : Launch) {b : Nat} {h : jp_H} {N : jf_B} {L : jf_L} (hb : jp_net b)  : jc_M E l yX0_startAgain wsX0_startAgain ({ frames := 0, cells := 0, slots := 0, locals := 0 } : Room) [.ref (E.2.1 b 0)] (jp_u h b N L) (jp_R none (jp_u h b (jf_again N) L)) := by
  refine jc_of (cc := cX0_startAgain) (maxL := 2) (ret := none) (own := RX0) (lv := [(0, _)]) (by decide) rfl rfl (Nat.le_of_ble_eq_true rfl) rfl (fun X cx => ?_)
  have inX0 : ∀ w ∈ u_ws RX0 TX0 9, w ∈ wsX0_startAgain := by decide +kernel
  have f18 : Cond.fieldLink RX0 18 "JobSpread$Net" "rotor" "[I" ∈ wsX0_startAgain := by decide +kernel
  have f27 : Cond.fieldLink RX0 27 "JobSpread$Net" "carry" "[I" ∈ wsX0_startAgain := by decide +kernel
  have f37 : Cond.fieldLink RX0 37 "JobSpread$Net" "rounds" "I" ∈ wsX0_startAgain := by decide +kernel
  refine jg_iconst cx (v := nI 0) dX0_startAgain_0 (by decide) ?_
  refine jg_istore_n cx (lv' := [(0, _), (1, _)]) dX0_startAgain_1 (by decide) rfl ?_
  have lp2 : ∀ (d2 i : Nat), i + d2 = 8 → X 2 [(0, .ref (E.2.1 b 0)), (1, .int (nI i))] [] (jp_u h b (jf_zero 3 i N) L) := by
    intro d2
    induction d2 with
    | zero =>
      intro i  hr2 
      obtain rfl : i = 8 := by omega
      refine jg_iload_n cx dX0_startAgain_2 rfl ?_
      refine jg_bipush cx (v := nI 8) dX0_startAgain_3 (by decide) ?_
      refine jg_icmpN_ge cx (tgt := 21) dX0_startAgain_5 (by decide) (by omega) (by omega) (fun c5 => ?_) (fun c5 => ?_)
      · refine jg_iconst cx (v := nI 0) dX0_startAgain_21 (by decide) ?_
        refine jg_istore_n cx (lv' := [(0, _), (1, _)]) dX0_startAgain_22 (by decide) rfl ?_
        have lp23 : ∀ (d23 j : Nat), j + d23 = 64 → X 23 [(0, .ref (E.2.1 b 0)), (1, .int (nI j))] [] (jp_u h b (jf_zero 6 j (jf_zero 3 8 N)) L) := by
          intro d23
          induction d23 with
          | zero =>
            intro j  hr23 
            obtain rfl : j = 64 := by omega
            refine jg_iload_n cx dX0_startAgain_23 rfl ?_
            refine jg_bipush cx (v := nI 64) dX0_startAgain_24 (by decide) ?_
            refine jg_icmpN_ge cx (tgt := 42) dX0_startAgain_26 (by decide) (by omega) (by omega) (fun c26 => ?_) (fun c26 => ?_)
            · refine jg_aload_n cx dX0_startAgain_42 rfl ?_
              refine jg_iconst cx (v := nI 0) dX0_startAgain_43 (by decide) ?_
              refine jg_putU cx (jp_net_o hb) rfl inX0 tyX0 tyX0_ok nmX0 8 (by decide) f37 rfl (by decide +kernel) (Nat.le_of_ble_eq_true rfl) (jp_put0_8 _ _ _ _) dX0_startAgain_44 ?_
              exact jg_vret cx dX0_startAgain_47 (⟨rfl, rfl⟩)
            · exact absurd hr23 (by omega)
          | succ d23 ih23 =>
            intro j  hr23 
            refine jg_iload_n cx dX0_startAgain_23 rfl ?_
            refine jg_bipush cx (v := nI 64) dX0_startAgain_24 (by decide) ?_
            refine jg_icmpN_ge cx (tgt := 42) dX0_startAgain_26 (by decide) (by omega) (by omega) (fun c26 => ?_) (fun c26 => ?_)
            · exact absurd hr23 (by omega)
            · refine jg_aload_n cx dX0_startAgain_29 rfl ?_
              refine jg_get cx (jp_net_o hb) rfl inX0 5 (by decide) f27 rfl dX0_startAgain_30 ?_
              refine jg_iload_n cx dX0_startAgain_33 rfl ?_
              refine jg_iconst cx (v := nI 0) dX0_startAgain_34 (by decide) ?_
              refine jg_iastU cx dX0_startAgain_35 ((jp_net_6 hb)) rfl (by omega) ?_
              refine jg_iincN cx (d := 1) (lv' := [(0, _), (1, _)]) dX0_startAgain_36 rfl (by decide) (by decide) rfl ?_
              refine jg_goto cx (tgt := 23) dX0_startAgain_39 (by decide) ?_
              exact jg_to (ih23 (j + 1)  (by omega) ) rfl rfl rfl
        exact jg_to (lp23 64 0  (by omega) ) rfl rfl rfl
      · exact absurd hr2 (by omega)
    | succ d2 ih2 =>
      intro i  hr2 
      refine jg_iload_n cx dX0_startAgain_2 rfl ?_
      refine jg_bipush cx (v := nI 8) dX0_startAgain_3 (by decide) ?_
      refine jg_icmpN_ge cx (tgt := 21) dX0_startAgain_5 (by decide) (by omega) (by omega) (fun c5 => ?_) (fun c5 => ?_)
      · exact absurd hr2 (by omega)
      · refine jg_aload_n cx dX0_startAgain_8 rfl ?_
        refine jg_get cx (jp_net_o hb) rfl inX0 2 (by decide) f18 rfl dX0_startAgain_9 ?_
        refine jg_iload_n cx dX0_startAgain_12 rfl ?_
        refine jg_iconst cx (v := nI 0) dX0_startAgain_13 (by decide) ?_
        refine jg_iastU cx dX0_startAgain_14 ((jp_net_3 hb)) rfl (by omega) ?_
        refine jg_iincN cx (d := 1) (lv' := [(0, _), (1, _)]) dX0_startAgain_15 rfl (by decide) (by decide) rfl ?_
        refine jg_goto cx (tgt := 2) dX0_startAgain_18 (by decide) ?_
        exact jg_to (ih2 (i + 1)  (by omega) ) rfl rfl rfl
  exact jg_to (lp2 8 0  (by omega) ) rfl rfl rfl
def jf_set1 (i : Nat) (N : jf_B) : jf_B := jf_w (jf_w N 2 i (N 2 i + N 7 i)) 7 i (nI 0)
def jf_settle (N : jf_B) : jf_B := jf_it jf_set1 N 8
theorem jf_w_o (N : jf_B) {r r' : Nat} (j k : Nat) (x : Int32) (hn : r' ≠ r) : jf_w N r j x r' k = N r' k := by simp [jf_w, va_up, hn]
set_option maxHeartbeats 1000000 in
set_option maxRecDepth 100000 in
theorem jc_X0_settle (E : jp_E) (l : Launch) {b : Nat} {h : jp_H} {N : jf_B} {L : jf_L} (hb : jp_net b)  : jc_M E l yX0_settle wsX0_settle ({ frames := 0, cells := 0, slots := 0, locals := 0 } : Room) [.ref (E.2.1 b 0)] (jp_u h b N L) (jp_R none (jp_u h b (jf_settle N) L)) := by
  refine jc_of (cc := cX0_settle) (maxL := 2) (ret := none) (own := RX0) (lv := [(0, _)]) (by decide) rfl rfl (Nat.le_of_ble_eq_true rfl) rfl (fun X cx => ?_)
  have inX0 : ∀ w ∈ u_ws RX0 TX0 9, w ∈ wsX0_settle := by decide +kernel
  have f15 : Cond.fieldLink RX0 15 "JobSpread$Net" "jobs" "[I" ∈ wsX0_settle := by decide +kernel
  have f30 : Cond.fieldLink RX0 30 "JobSpread$Net" "change" "[I" ∈ wsX0_settle := by decide +kernel
  refine jg_iconst cx (v := nI 0) dX0_settle_0 (by decide) ?_
  refine jg_istore_n cx (lv' := [(0, _), (1, _)]) dX0_settle_1 (by decide) rfl ?_
  have lp2 : ∀ (d2 i : Nat), i + d2 = 8 → X 2 [(0, .ref (E.2.1 b 0)), (1, .int (nI i))] [] (jp_u h b (jf_it jf_set1 N i) L) := by
    intro d2
    induction d2 with
    | zero =>
      intro i  hr2 
      obtain rfl : i = 8 := by omega
      refine jg_iload_n cx dX0_settle_2 rfl ?_
      refine jg_bipush cx (v := nI 8) dX0_settle_3 (by decide) ?_
      refine jg_icmpN_ge cx (tgt := 36) dX0_settle_5 (by decide) (by omega) (by omega) (fun c5 => ?_) (fun c5 => ?_)
      · exact jg_vret cx dX0_settle_36 (⟨rfl, rfl⟩)
      · exact absurd hr2 (by omega)
    | succ d2 ih2 =>
      intro i  hr2 
      refine jg_iload_n cx dX0_settle_2 rfl ?_
      refine jg_bipush cx (v := nI 8) dX0_settle_3 (by decide) ?_
      refine jg_icmpN_ge cx (tgt := 36) dX0_settle_5 (by decide) (by omega) (by omega) (fun c5 => ?_) (fun c5 => ?_)
      · exact absurd hr2 (by omega)
      · refine jg_aload_n cx dX0_settle_8 rfl ?_
        refine jg_get cx (jp_net_o hb) rfl inX0 1 (by decide) f15 rfl dX0_settle_9 ?_
        refine jg_iload_n cx dX0_settle_12 rfl ?_
        refine jg_dup2 cx dX0_settle_13 rfl rfl ?_
        refine jg_ialdU cx dX0_settle_14 ((jp_net_2 hb)) rfl (by omega) ?_
        refine jg_aload_n cx dX0_settle_15 rfl ?_
        refine jg_get cx (jp_net_o hb) rfl inX0 6 (by decide) f30 rfl dX0_settle_16 ?_
        refine jg_iload_n cx dX0_settle_19 rfl ?_
        refine jg_ialdU cx dX0_settle_20 ((jp_net_7 hb)) rfl (by omega) ?_
        refine jg_iadd cx dX0_settle_21 ?_
        refine jg_iastU cx dX0_settle_22 ((jp_net_2 hb)) rfl (by omega) ?_
        refine jg_aload_n cx dX0_settle_23 rfl ?_
        refine jg_get cx (jp_net_o hb) rfl inX0 6 (by decide) f30 rfl dX0_settle_24 ?_
        refine jg_iload_n cx dX0_settle_27 rfl ?_
        refine jg_iconst cx (v := nI 0) dX0_settle_28 (by decide) ?_
        refine jg_iastU cx dX0_settle_29 ((jp_net_7 hb)) rfl (by omega) ?_
        refine jg_iincN cx (d := 1) (lv' := [(0, _), (1, _)]) dX0_settle_30 rfl (by decide) (by decide) rfl ?_
        refine jg_goto cx (tgt := 2) dX0_settle_33 (by decide) ?_
        exact jg_to (ih2 (i + 1)  (by omega) ) rfl rfl rfl
  exact jg_to (lp2 8 0  (by omega) ) rfl rfl rfl
end
section
def jf_absI (x : Int32) : Int32 := if 0 ≤ x then x else 0 - x
def jf_want (N : jf_B) (a c : Nat) : Int32 := N 6 (jf_spot a c) + N 2 a * N 1 c - N 2 c * N 1 a
def jf_goes (me want : Int32) : Int32 := if me ≤ 0 then nI 0 else want / me
def jf_along (N : jf_B) (a c : Nat) (me : Int32) : jf_B :=
  let go := jf_goes me (jf_want N a c)
  let N1 := jf_w N 6 (jf_spot a c) (jf_want N a c - me * go)
  let N2 := jf_w N1 7 a (N1 7 a - go)
  jf_w N2 7 c (N2 7 c + go)
set_option maxHeartbeats 1000000 in
set_option maxRecDepth 100000 in
theorem jc_X0_flowAlong (E : jp_E) (l : Launch) {b : Nat} {h : jp_H} {N : jf_B} {L : jf_L} (hb : jp_net b) {a c : Nat} {me : Int32} (ha : a < 8) (hc : c < 8) : jc_M E l yX0_flowAlong wsX0_flowAlong ({ frames := 1, cells := 0, slots := 0, locals := 21 } : Room) [.ref (E.2.1 b 0), .int (nI a), .int (nI c), .int me] (jp_u h b N L) (jp_R (some (.int (jf_absI (jf_goes me (jf_want N a c))))) (jp_u h b (jf_along N a c me) L)) := by
  refine jc_of (cc := cX0_flowAlong) (maxL := 7) (ret := some .int) (own := RX0) (lv := [(0, _), (1, _), (2, _), (3, _)]) (by decide) rfl rfl (Nat.le_of_ble_eq_true rfl) rfl (fun X cx => ?_)
  have inX0 : ∀ w ∈ u_ws RX0 TX0 9, w ∈ wsX0_flowAlong := by decide +kernel
  have f9 : Cond.fieldLink RX0 9 "JobSpread$Net" "speed" "[I" ∈ wsX0_flowAlong := by decide +kernel
  have f15 : Cond.fieldLink RX0 15 "JobSpread$Net" "jobs" "[I" ∈ wsX0_flowAlong := by decide +kernel
  have f27 : Cond.fieldLink RX0 27 "JobSpread$Net" "carry" "[I" ∈ wsX0_flowAlong := by decide +kernel
  have f30 : Cond.fieldLink RX0 30 "JobSpread$Net" "change" "[I" ∈ wsX0_flowAlong := by decide +kernel
  refine jg_iload_n cx dX0_flowAlong_0 rfl ?_
  refine jg_iload_n cx dX0_flowAlong_1 rfl ?_
  refine jg_callSNi cx (n := 2) (jc_X2_spotN E l (by omega) (by omega)) gX0_flowAlong_X2_spot_n46 (by decide +kernel) (by decide +kernel) (by decide +kernel) rfl ⟨rfl, rfl⟩ ⟨(Nat.le_of_ble_eq_true rfl), (Nat.le_of_ble_eq_true rfl)⟩ (by decide +kernel) rfl rfl (Nat.le_of_ble_eq_true rfl) dX0_flowAlong_2 ?_
  refine jg_istore cx (lv' := [(0, _), (1, _), (2, _), (3, _), (4, _)]) dX0_flowAlong_5 (by decide) rfl ?_
  refine jg_aload_n cx dX0_flowAlong_7 rfl ?_
  refine jg_get cx (jp_net_o hb) rfl inX0 5 (by decide) f27 rfl dX0_flowAlong_8 ?_
  refine jg_iload cx dX0_flowAlong_11 rfl ?_
  refine jg_ialdU cx dX0_flowAlong_13 ((jp_net_6 hb)) rfl (jf_spot_lt (by omega) (by omega)) ?_
  refine jg_aload_n cx dX0_flowAlong_14 rfl ?_
  refine jg_get cx (jp_net_o hb) rfl inX0 1 (by decide) f15 rfl dX0_flowAlong_15 ?_
  refine jg_iload_n cx dX0_flowAlong_18 rfl ?_
  refine jg_ialdU cx dX0_flowAlong_19 ((jp_net_2 hb)) rfl (by omega) ?_
  refine jg_aload_n cx dX0_flowAlong_20 rfl ?_
  refine jg_get cx (jp_net_o hb) rfl inX0 0 (by decide) f9 rfl dX0_flowAlong_21 ?_
  refine jg_iload_n cx dX0_flowAlong_24 rfl ?_
  refine jg_ialdU cx dX0_flowAlong_25 ((jp_net_1 hb)) rfl (by omega) ?_
  refine jg_imul cx dX0_flowAlong_26 ?_
  refine jg_iadd cx dX0_flowAlong_27 ?_
  refine jg_aload_n cx dX0_flowAlong_28 rfl ?_
  refine jg_get cx (jp_net_o hb) rfl inX0 1 (by decide) f15 rfl dX0_flowAlong_29 ?_
  refine jg_iload_n cx dX0_flowAlong_32 rfl ?_
  refine jg_ialdU cx dX0_flowAlong_33 ((jp_net_2 hb)) rfl (by omega) ?_
  refine jg_aload_n cx dX0_flowAlong_34 rfl ?_
  refine jg_get cx (jp_net_o hb) rfl inX0 0 (by decide) f9 rfl dX0_flowAlong_35 ?_
  refine jg_iload_n cx dX0_flowAlong_38 rfl ?_
  refine jg_ialdU cx dX0_flowAlong_39 ((jp_net_1 hb)) rfl (by omega) ?_
  refine jg_imul cx dX0_flowAlong_40 ?_
  refine jg_isub cx dX0_flowAlong_41 ?_
  refine jg_istore cx (lv' := [(0, _), (1, _), (2, _), (3, _), (4, _), (5, _)]) dX0_flowAlong_42 (by decide) rfl ?_
  refine jg_iload_n cx dX0_flowAlong_44 rfl ?_
  refine jg_if_le cx (tgt := 55) dX0_flowAlong_45 (by decide) (fun c45 => ?_) (fun c45 => ?_)
  · refine jg_iconst cx (v := nI 0) dX0_flowAlong_55 (by decide) ?_
    refine jg_istore cx (lv' := [(0, _), (1, _), (2, _), (3, _), (4, _), (5, _), (6, _)]) dX0_flowAlong_56 (by decide) rfl ?_
    refine jg_aload_n cx dX0_flowAlong_58 rfl ?_
    refine jg_get cx (jp_net_o hb) rfl inX0 5 (by decide) f27 rfl dX0_flowAlong_59 ?_
    refine jg_iload cx dX0_flowAlong_62 rfl ?_
    refine jg_iload cx dX0_flowAlong_64 rfl ?_
    refine jg_iload_n cx dX0_flowAlong_66 rfl ?_
    refine jg_iload cx dX0_flowAlong_67 rfl ?_
    refine jg_imul cx dX0_flowAlong_69 ?_
    refine jg_isub cx dX0_flowAlong_70 ?_
    refine jg_iastU cx dX0_flowAlong_71 ((jp_net_6 hb)) rfl (jf_spot_lt (by omega) (by omega)) ?_
    refine jg_aload_n cx dX0_flowAlong_72 rfl ?_
    refine jg_get cx (jp_net_o hb) rfl inX0 6 (by decide) f30 rfl dX0_flowAlong_73 ?_
    refine jg_iload_n cx dX0_flowAlong_76 rfl ?_
    refine jg_dup2 cx dX0_flowAlong_77 rfl rfl ?_
    refine jg_ialdU cx dX0_flowAlong_78 ((jp_net_7 hb)) rfl (by omega) ?_
    refine jg_iload cx dX0_flowAlong_79 rfl ?_
    refine jg_isub cx dX0_flowAlong_81 ?_
    refine jg_iastU cx dX0_flowAlong_82 ((jp_net_7 hb)) rfl (by omega) ?_
    refine jg_aload_n cx dX0_flowAlong_83 rfl ?_
    refine jg_get cx (jp_net_o hb) rfl inX0 6 (by decide) f30 rfl dX0_flowAlong_84 ?_
    refine jg_iload_n cx dX0_flowAlong_87 rfl ?_
    refine jg_dup2 cx dX0_flowAlong_88 rfl rfl ?_
    refine jg_ialdU cx dX0_flowAlong_89 ((jp_net_7 hb)) rfl (by omega) ?_
    refine jg_iload cx dX0_flowAlong_90 rfl ?_
    refine jg_iadd cx dX0_flowAlong_92 ?_
    refine jg_iastU cx dX0_flowAlong_93 ((jp_net_7 hb)) rfl (by omega) ?_
    refine jg_iload cx dX0_flowAlong_94 rfl ?_
    refine jg_abs cx (by decide +kernel) (by decide +kernel) (by decide +kernel) (by decide +kernel) (Nat.le_of_ble_eq_true rfl) (Nat.le_of_ble_eq_true rfl) dX0_flowAlong_96 ?_
    exact jg_iret cx dX0_flowAlong_99 (⟨(by first | with_reducible rfl | (simp only [jf_absI, jf_goes, jf_want, if_pos c45, ↓reduceIte, Bool.false_eq_true, Bool.true_eq_false, reduceCtorEq, eq_self, if_true, if_false, Bool.not_true, Bool.not_false]; first | done | rfl)), (by first | with_reducible rfl | (simp only [jf_along, jf_goes, jf_want, if_pos c45, ↓reduceIte, Bool.false_eq_true, Bool.true_eq_false, reduceCtorEq, eq_self, if_true, if_false, Bool.not_true, Bool.not_false]; first | done | rfl))⟩)
  · refine jg_iload cx dX0_flowAlong_48 rfl ?_
    refine jg_iload_n cx dX0_flowAlong_50 rfl ?_
    refine jg_idiv cx dX0_flowAlong_51 (fun q => c45 (by rw [q]; decide)) ?_
    refine jg_goto cx (tgt := 56) dX0_flowAlong_52 (by decide) ?_
    refine jg_istore cx (lv' := [(0, _), (1, _), (2, _), (3, _), (4, _), (5, _), (6, _)]) dX0_flowAlong_56 (by decide) rfl ?_
    refine jg_aload_n cx dX0_flowAlong_58 rfl ?_
    refine jg_get cx (jp_net_o hb) rfl inX0 5 (by decide) f27 rfl dX0_flowAlong_59 ?_
    refine jg_iload cx dX0_flowAlong_62 rfl ?_
    refine jg_iload cx dX0_flowAlong_64 rfl ?_
    refine jg_iload_n cx dX0_flowAlong_66 rfl ?_
    refine jg_iload cx dX0_flowAlong_67 rfl ?_
    refine jg_imul cx dX0_flowAlong_69 ?_
    refine jg_isub cx dX0_flowAlong_70 ?_
    refine jg_iastU cx dX0_flowAlong_71 ((jp_net_6 hb)) rfl (jf_spot_lt (by omega) (by omega)) ?_
    refine jg_aload_n cx dX0_flowAlong_72 rfl ?_
    refine jg_get cx (jp_net_o hb) rfl inX0 6 (by decide) f30 rfl dX0_flowAlong_73 ?_
    refine jg_iload_n cx dX0_flowAlong_76 rfl ?_
    refine jg_dup2 cx dX0_flowAlong_77 rfl rfl ?_
    refine jg_ialdU cx dX0_flowAlong_78 ((jp_net_7 hb)) rfl (by omega) ?_
    refine jg_iload cx dX0_flowAlong_79 rfl ?_
    refine jg_isub cx dX0_flowAlong_81 ?_
    refine jg_iastU cx dX0_flowAlong_82 ((jp_net_7 hb)) rfl (by omega) ?_
    refine jg_aload_n cx dX0_flowAlong_83 rfl ?_
    refine jg_get cx (jp_net_o hb) rfl inX0 6 (by decide) f30 rfl dX0_flowAlong_84 ?_
    refine jg_iload_n cx dX0_flowAlong_87 rfl ?_
    refine jg_dup2 cx dX0_flowAlong_88 rfl rfl ?_
    refine jg_ialdU cx dX0_flowAlong_89 ((jp_net_7 hb)) rfl (by omega) ?_
    refine jg_iload cx dX0_flowAlong_90 rfl ?_
    refine jg_iadd cx dX0_flowAlong_92 ?_
    refine jg_iastU cx dX0_flowAlong_93 ((jp_net_7 hb)) rfl (by omega) ?_
    refine jg_iload cx dX0_flowAlong_94 rfl ?_
    refine jg_abs cx (by decide +kernel) (by decide +kernel) (by decide +kernel) (by decide +kernel) (Nat.le_of_ble_eq_true rfl) (Nat.le_of_ble_eq_true rfl) dX0_flowAlong_96 ?_
    exact jg_iret cx dX0_flowAlong_99 (⟨(by first | with_reducible rfl | (simp only [jf_absI, jf_goes, jf_want, if_neg c45, ↓reduceIte, Bool.false_eq_true, Bool.true_eq_false, reduceCtorEq, eq_self, if_true, if_false, Bool.not_true, Bool.not_false]; first | done | rfl)), (by first | with_reducible rfl | (simp only [jf_along, jf_goes, jf_want, if_neg c45, ↓reduceIte, Bool.false_eq_true, Bool.true_eq_false, reduceCtorEq, eq_self, if_true, if_false, Bool.not_true, Bool.not_false]; first | done | rfl))⟩)
def jf_flS (me : Int32) (a c : Nat) (S : jf_B × Int32) : jf_B × Int32 := if jf_joins S.1 a c then (jf_along S.1 a c me, S.2 + jf_absI (jf_goes me (jf_want S.1 a c))) else S
def jf_flR (me : Int32) (a : Nat) (S : jf_B × Int32) : jf_B × Int32 := jf_fr (jf_flS me a) S (a + 1) (8 - (a + 1))
def jf_flow (N : jf_B) : jf_B × Int32 := (jf_settle (jf_it (jf_flR (jf_measure N)) (N, nI 0) 8).1, (jf_it (jf_flR (jf_measure N)) (N, nI 0) 8).2)
set_option maxHeartbeats 1000000 in
set_option maxRecDepth 100000 in
theorem jc_X0_flow (E : jp_E) (l : Launch) {b : Nat} {h : jp_H} {N : jf_B} {L : jf_L} (hb : jp_net b)  : jc_M E l yX0_flow wsX0_flow ({ frames := 2, cells := 0, slots := 0, locals := 47 } : Room) [.ref (E.2.1 b 0)] (jp_u h b N L) (jp_R (some (.int ((jf_flow N).2))) (jp_u h b ((jf_flow N).1) L)) := by
  refine jc_of (cc := cX0_flow) (maxL := 5) (ret := some .int) (own := RX0) (lv := [(0, _)]) (by decide) rfl rfl (Nat.le_of_ble_eq_true rfl) rfl (fun X cx => ?_)
  refine jg_aload_n cx dX0_flow_0 rfl ?_
  refine jg_callVi cx (n := 0) (jc_X0_measure E l hb) gX0_flow_X0_measure rfl ⟨rfl, rfl⟩ ⟨(Nat.le_of_ble_eq_true rfl), (Nat.le_of_ble_eq_true rfl)⟩ (by decide +kernel) (jp_net_o hb) rfl rfl rfl (Nat.le_of_ble_eq_true rfl) dX0_flow_1 ?_
  refine jg_istore_n cx (lv' := [(0, _), (1, _)]) dX0_flow_4 (by decide) rfl ?_
  refine jg_iconst cx (v := nI 0) dX0_flow_5 (by decide) ?_
  refine jg_istore_n cx (lv' := [(0, _), (1, _), (2, _)]) dX0_flow_6 (by decide) rfl ?_
  refine jg_iconst cx (v := nI 0) dX0_flow_7 (by decide) ?_
  refine jg_istore_n cx (lv' := [(0, _), (1, _), (2, _), (3, _)]) dX0_flow_8 (by decide) rfl ?_
  have lp9 : ∀ (d9 a : Nat), a + d9 = 8 → X 9 [(0, .ref (E.2.1 b 0)), (1, .int (jf_measure N)), (2, .int (jf_it (jf_flR (jf_measure N)) (N, nI 0) a).2), (3, .int (nI a))] [] (jp_u h b (jf_it (jf_flR (jf_measure N)) (N, nI 0) a).1 L) := by
    intro d9
    induction d9 with
    | zero =>
      intro a  hr9 
      obtain rfl : a = 8 := by omega
      refine jg_iload_n cx dX0_flow_9 rfl ?_
      refine jg_bipush cx (v := nI 8) dX0_flow_10 (by decide) ?_
      refine jg_icmpN_ge cx (tgt := 60) dX0_flow_12 (by decide) (by omega) (by omega) (fun c12 => ?_) (fun c12 => ?_)
      · refine jg_aload_n cx dX0_flow_60 rfl ?_
        refine jg_callVv cx (n := 0) (jc_X0_settle E l hb) gX0_flow_X0_settle rfl ⟨rfl, rfl⟩ ⟨(Nat.le_of_ble_eq_true rfl), (Nat.le_of_ble_eq_true rfl)⟩ (by decide +kernel) (jp_net_o hb) rfl rfl rfl (Nat.le_of_ble_eq_true rfl) dX0_flow_61 ?_
        refine jg_iload_n cx dX0_flow_64 rfl ?_
        exact jg_iret cx dX0_flow_65 (⟨(by first | with_reducible rfl | (simp only [jf_flow, ↓reduceIte, Bool.false_eq_true, Bool.true_eq_false, reduceCtorEq, eq_self, if_true, if_false, Bool.not_true, Bool.not_false]; first | done | rfl)), (by first | with_reducible rfl | (simp only [jf_flow, ↓reduceIte, Bool.false_eq_true, Bool.true_eq_false, reduceCtorEq, eq_self, if_true, if_false, Bool.not_true, Bool.not_false]; first | done | rfl))⟩)
      · exact absurd hr9 (by omega)
    | succ d9 ih9 =>
      intro a  hr9 
      refine jg_iload_n cx dX0_flow_9 rfl ?_
      refine jg_bipush cx (v := nI 8) dX0_flow_10 (by decide) ?_
      refine jg_icmpN_ge cx (tgt := 60) dX0_flow_12 (by decide) (by omega) (by omega) (fun c12 => ?_) (fun c12 => ?_)
      · exact absurd hr9 (by omega)
      · refine jg_iload_n cx dX0_flow_15 rfl ?_
        refine jg_iconst cx (v := nI 1) dX0_flow_16 (by decide) ?_
        refine jg_iaddN cx dX0_flow_17 ?_
        refine jg_istore cx (lv' := [(0, _), (1, _), (2, _), (3, _), (4, _)]) dX0_flow_18 (by decide) rfl ?_
        have lp20 : ∀ (d20 n : Nat), a + 1 + n + d20 = 8 → X 20 [(0, .ref (E.2.1 b 0)), (1, .int (jf_measure N)), (2, .int (jf_fr (jf_flS (jf_measure N) a) (jf_it (jf_flR (jf_measure N)) (N, nI 0) a) (a + 1) n).2), (3, .int (nI a)), (4, .int (nI (a + 1 + n)))] [] (jp_u h b (jf_fr (jf_flS (jf_measure N) a) (jf_it (jf_flR (jf_measure N)) (N, nI 0) a) (a + 1) n).1 L) := by
          intro d20
          induction d20 with
          | zero =>
            intro n  hr20 
            obtain rfl : n = 8 - (a + 1) := by omega
            refine jg_iload cx dX0_flow_20 rfl ?_
            refine jg_bipush cx (v := nI 8) dX0_flow_22 (by decide) ?_
            refine jg_icmpN_ge cx (tgt := 54) dX0_flow_24 (by decide) (by omega) (by omega) (fun c24 => ?_) (fun c24 => ?_)
            · refine jg_iincN cx (d := 1) (lv' := [(0, _), (1, _), (2, _), (3, _), (4, _)]) dX0_flow_54 rfl (by decide) (by decide) rfl ?_
              refine jg_goto cx (tgt := 9) dX0_flow_57 (by decide) ?_
              refine jg_sub cx (lv' := [(0, _), (1, _), (2, _), (3, _)]) [0, 1, 2, 3] rfl ?_
              exact jg_to (ih9 (a + 1)  (by omega) ) rfl rfl rfl
            · exact absurd hr20 (by omega)
          | succ d20 ih20 =>
            intro n  hr20 
            refine jg_iload cx dX0_flow_20 rfl ?_
            refine jg_bipush cx (v := nI 8) dX0_flow_22 (by decide) ?_
            refine jg_icmpN_ge cx (tgt := 54) dX0_flow_24 (by decide) (by omega) (by omega) (fun c24 => ?_) (fun c24 => ?_)
            · exact absurd hr20 (by omega)
            · refine jg_aload_n cx dX0_flow_27 rfl ?_
              refine jg_iload_n cx dX0_flow_28 rfl ?_
              refine jg_iload cx dX0_flow_29 rfl ?_
              refine jg_callVi cx (n := 2) (jc_X0_joins E l hb (by omega) (by omega)) gX0_flow_X0_joins rfl ⟨rfl, rfl⟩ ⟨(Nat.le_of_ble_eq_true rfl), (Nat.le_of_ble_eq_true rfl)⟩ (by decide +kernel) (jp_net_o hb) rfl rfl rfl (Nat.le_of_ble_eq_true rfl) dX0_flow_31 ?_
              refine jg_ifb_eq cx (tgt := 48) dX0_flow_34 (by decide) (fun c34 => ?_) (fun c34 => ?_)
              · refine jg_iincN cx (d := 1) (lv' := [(0, _), (1, _), (2, _), (3, _), (4, _)]) dX0_flow_48 rfl (by decide) (by decide) rfl ?_
                refine jg_goto cx (tgt := 20) dX0_flow_51 (by decide) ?_
                exact jg_to (ih20 (n + 1)  (by omega) ) (by first | with_reducible rfl | (simp only [jf_fr, jf_flS, c34, ↓reduceIte, Bool.false_eq_true, Bool.true_eq_false, reduceCtorEq, eq_self, if_true, if_false, Bool.not_true, Bool.not_false]; first | done | rfl)) (by first | with_reducible rfl | (simp only [jf_fr, jf_flS, c34, ↓reduceIte, Bool.false_eq_true, Bool.true_eq_false, reduceCtorEq, eq_self, if_true, if_false, Bool.not_true, Bool.not_false]; first | done | rfl)) (by first | with_reducible rfl | (simp only [jf_fr, jf_flS, c34, ↓reduceIte, Bool.false_eq_true, Bool.true_eq_false, reduceCtorEq, eq_self, if_true, if_false, Bool.not_true, Bool.not_false]; first | done | rfl))
              · refine jg_iload_n cx dX0_flow_37 rfl ?_
                refine jg_aload_n cx dX0_flow_38 rfl ?_
                refine jg_iload_n cx dX0_flow_39 rfl ?_
                refine jg_iload cx dX0_flow_40 rfl ?_
                refine jg_iload_n cx dX0_flow_42 rfl ?_
                refine jg_callVi cx (n := 3) (jc_X0_flowAlong E l hb (by omega) (by omega)) gX0_flow_X0_flowAlong rfl ⟨rfl, rfl⟩ ⟨(Nat.le_of_ble_eq_true rfl), (Nat.le_of_ble_eq_true rfl)⟩ (by decide +kernel) (jp_net_o hb) rfl rfl rfl (Nat.le_of_ble_eq_true rfl) dX0_flow_43 ?_
                refine jg_iadd cx dX0_flow_46 ?_
                refine jg_istore_n cx (lv' := [(0, _), (1, _), (2, _), (3, _), (4, _)]) dX0_flow_47 (by decide) rfl ?_
                refine jg_iincN cx (d := 1) (lv' := [(0, _), (1, _), (2, _), (3, _), (4, _)]) dX0_flow_48 rfl (by decide) (by decide) rfl ?_
                refine jg_goto cx (tgt := 20) dX0_flow_51 (by decide) ?_
                exact jg_to (ih20 (n + 1)  (by omega) ) (by first | with_reducible rfl | (simp only [jf_fr, jf_flS, c34, ↓reduceIte, Bool.false_eq_true, Bool.true_eq_false, reduceCtorEq, eq_self, if_true, if_false, Bool.not_true, Bool.not_false]; first | done | rfl)) (by first | with_reducible rfl | (simp only [jf_fr, jf_flS, c34, ↓reduceIte, Bool.false_eq_true, Bool.true_eq_false, reduceCtorEq, eq_self, if_true, if_false, Bool.not_true, Bool.not_false]; first | done | rfl)) (by first | with_reducible rfl | (simp only [jf_fr, jf_flS, c34, ↓reduceIte, Bool.false_eq_true, Bool.true_eq_false, reduceCtorEq, eq_self, if_true, if_false, Bool.not_true, Bool.not_false]; first | done | rfl))
        exact jg_to (lp20 (8 - (a + 1)) 0  (by omega) ) rfl rfl rfl
  exact jg_to (lp9 8 0  (by omega) ) rfl rfl rfl
end
section
def jf_two (N : jf_B) (a c : Nat) : Int32 := if N 1 a + N 1 c < nI 1 then nI 1 else N 1 a + N 1 c
theorem jf_two_ne (N : jf_B) (a c : Nat) : ¬ jf_two N a c = 0 := by
  unfold jf_two
  split
  · decide
  · next q => intro e; apply q; rw [e]; decide
def jf_exF (N : jf_B) (a c : Nat) : Int32 := if N 2 a < N 2 c then jf_fdiv ((N 2 a + N 2 c) * N 1 a) (jf_two N a c) else N 2 a + N 2 c - jf_fdiv ((N 2 a + N 2 c) * N 1 c) (jf_two N a c)
def jf_exA (N : jf_B) (a c : Nat) : jf_B := jf_w (jf_w N 2 a (jf_exF N a c)) 2 c (N 2 a + N 2 c - jf_exF N a c)
set_option maxHeartbeats 1000000 in
set_option maxRecDepth 100000 in
theorem jc_X0_exchangeAlong (E : jp_E) (l : Launch) {b : Nat} {h : jp_H} {N : jf_B} {L : jf_L} (hb : jp_net b) {a c : Nat} (ha : a < 8) (hc : c < 8) : jc_M E l yX0_exchangeAlong wsX0_exchangeAlong ({ frames := 1, cells := 0, slots := 0, locals := 22 } : Room) [.ref (E.2.1 b 0), .int (nI a), .int (nI c)] (jp_u h b N L) (jp_R (some (.int (jf_absI (jf_exF N a c - N 2 a)))) (jp_u h b (jf_exA N a c) L)) := by
  refine jc_of (cc := cX0_exchangeAlong) (maxL := 8) (ret := some .int) (own := RX0) (lv := [(0, _), (1, _), (2, _)]) (by decide) rfl rfl (Nat.le_of_ble_eq_true rfl) rfl (fun X cx => ?_)
  have inX0 : ∀ w ∈ u_ws RX0 TX0 9, w ∈ wsX0_exchangeAlong := by decide +kernel
  have f9 : Cond.fieldLink RX0 9 "JobSpread$Net" "speed" "[I" ∈ wsX0_exchangeAlong := by decide +kernel
  have f15 : Cond.fieldLink RX0 15 "JobSpread$Net" "jobs" "[I" ∈ wsX0_exchangeAlong := by decide +kernel
  refine jg_aload_n cx dX0_exchangeAlong_0 rfl ?_
  refine jg_get cx (jp_net_o hb) rfl inX0 1 (by decide) f15 rfl dX0_exchangeAlong_1 ?_
  refine jg_iload_n cx dX0_exchangeAlong_4 rfl ?_
  refine jg_ialdU cx dX0_exchangeAlong_5 ((jp_net_2 hb)) rfl (by omega) ?_
  refine jg_aload_n cx dX0_exchangeAlong_6 rfl ?_
  refine jg_get cx (jp_net_o hb) rfl inX0 1 (by decide) f15 rfl dX0_exchangeAlong_7 ?_
  refine jg_iload_n cx dX0_exchangeAlong_10 rfl ?_
  refine jg_ialdU cx dX0_exchangeAlong_11 ((jp_net_2 hb)) rfl (by omega) ?_
  refine jg_iadd cx dX0_exchangeAlong_12 ?_
  refine jg_istore_n cx (lv' := [(0, _), (1, _), (2, _), (3, _)]) dX0_exchangeAlong_13 (by decide) rfl ?_
  refine jg_aload_n cx dX0_exchangeAlong_14 rfl ?_
  refine jg_get cx (jp_net_o hb) rfl inX0 0 (by decide) f9 rfl dX0_exchangeAlong_15 ?_
  refine jg_iload_n cx dX0_exchangeAlong_18 rfl ?_
  refine jg_ialdU cx dX0_exchangeAlong_19 ((jp_net_1 hb)) rfl (by omega) ?_
  refine jg_aload_n cx dX0_exchangeAlong_20 rfl ?_
  refine jg_get cx (jp_net_o hb) rfl inX0 0 (by decide) f9 rfl dX0_exchangeAlong_21 ?_
  refine jg_iload_n cx dX0_exchangeAlong_24 rfl ?_
  refine jg_ialdU cx dX0_exchangeAlong_25 ((jp_net_1 hb)) rfl (by omega) ?_
  refine jg_iadd cx dX0_exchangeAlong_26 ?_
  refine jg_iconst cx (v := nI 1) dX0_exchangeAlong_27 (by decide) ?_
  refine jg_max cx (by decide +kernel) (by decide +kernel) (by decide +kernel) (by decide +kernel) (Nat.le_of_ble_eq_true rfl) (Nat.le_of_ble_eq_true rfl) dX0_exchangeAlong_28 ?_
  refine jg_istore cx (lv' := [(0, _), (1, _), (2, _), (3, _), (4, _)]) dX0_exchangeAlong_31 (by decide) rfl ?_
  refine jg_iload_n cx dX0_exchangeAlong_33 rfl ?_
  refine jg_aload_n cx dX0_exchangeAlong_34 rfl ?_
  refine jg_get cx (jp_net_o hb) rfl inX0 0 (by decide) f9 rfl dX0_exchangeAlong_35 ?_
  refine jg_iload_n cx dX0_exchangeAlong_38 rfl ?_
  refine jg_ialdU cx dX0_exchangeAlong_39 ((jp_net_1 hb)) rfl (by omega) ?_
  refine jg_imul cx dX0_exchangeAlong_40 ?_
  refine jg_iload cx dX0_exchangeAlong_41 rfl ?_
  refine jg_callSi cx (n := 2) (jc_J9_floorDiv_7cf53 E l (jf_two_ne N a c)) gX0_exchangeAlong_J9_floorDiv_7cf53 rfl ⟨rfl, rfl⟩ ⟨(Nat.le_of_ble_eq_true rfl), (Nat.le_of_ble_eq_true rfl)⟩ (by decide +kernel) rfl rfl (Nat.le_of_ble_eq_true rfl) dX0_exchangeAlong_43 ?_
  refine jg_istore cx (lv' := [(0, _), (1, _), (2, _), (3, _), (4, _), (5, _)]) dX0_exchangeAlong_46 (by decide) rfl ?_
  refine jg_iload_n cx dX0_exchangeAlong_48 rfl ?_
  refine jg_aload_n cx dX0_exchangeAlong_49 rfl ?_
  refine jg_get cx (jp_net_o hb) rfl inX0 0 (by decide) f9 rfl dX0_exchangeAlong_50 ?_
  refine jg_iload_n cx dX0_exchangeAlong_53 rfl ?_
  refine jg_ialdU cx dX0_exchangeAlong_54 ((jp_net_1 hb)) rfl (by omega) ?_
  refine jg_imul cx dX0_exchangeAlong_55 ?_
  refine jg_iload cx dX0_exchangeAlong_56 rfl ?_
  refine jg_callSi cx (n := 2) (jc_J9_floorDiv_7cf53 E l (jf_two_ne N a c)) gX0_exchangeAlong_J9_floorDiv_7cf53 rfl ⟨rfl, rfl⟩ ⟨(Nat.le_of_ble_eq_true rfl), (Nat.le_of_ble_eq_true rfl)⟩ (by decide +kernel) rfl rfl (Nat.le_of_ble_eq_true rfl) dX0_exchangeAlong_58 ?_
  refine jg_istore cx (lv' := [(0, _), (1, _), (2, _), (3, _), (4, _), (5, _), (6, _)]) dX0_exchangeAlong_61 (by decide) rfl ?_
  refine jg_aload_n cx dX0_exchangeAlong_63 rfl ?_
  refine jg_get cx (jp_net_o hb) rfl inX0 1 (by decide) f15 rfl dX0_exchangeAlong_64 ?_
  refine jg_iload_n cx dX0_exchangeAlong_67 rfl ?_
  refine jg_ialdU cx dX0_exchangeAlong_68 ((jp_net_2 hb)) rfl (by omega) ?_
  refine jg_aload_n cx dX0_exchangeAlong_69 rfl ?_
  refine jg_get cx (jp_net_o hb) rfl inX0 1 (by decide) f15 rfl dX0_exchangeAlong_70 ?_
  refine jg_iload_n cx dX0_exchangeAlong_73 rfl ?_
  refine jg_ialdU cx dX0_exchangeAlong_74 ((jp_net_2 hb)) rfl (by omega) ?_
  refine jg_icmp_lt cx (tgt := 84) dX0_exchangeAlong_75 (by decide) (fun c75 => ?_) (fun c75 => ?_)
  · refine jg_iload cx dX0_exchangeAlong_84 rfl ?_
    refine jg_aload_n cx dX0_exchangeAlong_86 rfl ?_
    refine jg_get cx (jp_net_o hb) rfl inX0 1 (by decide) f15 rfl dX0_exchangeAlong_87 ?_
    refine jg_iload_n cx dX0_exchangeAlong_90 rfl ?_
    refine jg_ialdU cx dX0_exchangeAlong_91 ((jp_net_2 hb)) rfl (by omega) ?_
    refine jg_isub cx dX0_exchangeAlong_92 ?_
    refine jg_abs cx (by decide +kernel) (by decide +kernel) (by decide +kernel) (by decide +kernel) (Nat.le_of_ble_eq_true rfl) (Nat.le_of_ble_eq_true rfl) dX0_exchangeAlong_93 ?_
    refine jg_istore cx (lv' := [(0, _), (1, _), (2, _), (3, _), (4, _), (5, _), (6, _), (7, _)]) dX0_exchangeAlong_96 (by decide) rfl ?_
    refine jg_aload_n cx dX0_exchangeAlong_98 rfl ?_
    refine jg_get cx (jp_net_o hb) rfl inX0 1 (by decide) f15 rfl dX0_exchangeAlong_99 ?_
    refine jg_iload_n cx dX0_exchangeAlong_102 rfl ?_
    refine jg_iload cx dX0_exchangeAlong_103 rfl ?_
    refine jg_iastU cx dX0_exchangeAlong_105 ((jp_net_2 hb)) rfl (by omega) ?_
    refine jg_aload_n cx dX0_exchangeAlong_106 rfl ?_
    refine jg_get cx (jp_net_o hb) rfl inX0 1 (by decide) f15 rfl dX0_exchangeAlong_107 ?_
    refine jg_iload_n cx dX0_exchangeAlong_110 rfl ?_
    refine jg_iload_n cx dX0_exchangeAlong_111 rfl ?_
    refine jg_iload cx dX0_exchangeAlong_112 rfl ?_
    refine jg_isub cx dX0_exchangeAlong_114 ?_
    refine jg_iastU cx dX0_exchangeAlong_115 ((jp_net_2 hb)) rfl (by omega) ?_
    refine jg_iload cx dX0_exchangeAlong_116 rfl ?_
    exact jg_iret cx dX0_exchangeAlong_118 (⟨(by first | with_reducible rfl | (simp only [jf_absI, jf_exF, if_pos c75, ↓reduceIte, Bool.false_eq_true, Bool.true_eq_false, reduceCtorEq, eq_self, if_true, if_false, Bool.not_true, Bool.not_false]; first | done | rfl)), (by first | with_reducible rfl | (simp only [jf_exA, jf_exF, if_pos c75, ↓reduceIte, Bool.false_eq_true, Bool.true_eq_false, reduceCtorEq, eq_self, if_true, if_false, Bool.not_true, Bool.not_false]; first | done | rfl))⟩)
  · refine jg_iload_n cx dX0_exchangeAlong_78 rfl ?_
    refine jg_iload cx dX0_exchangeAlong_79 rfl ?_
    refine jg_isub cx dX0_exchangeAlong_81 ?_
    refine jg_istore cx (lv' := [(0, _), (1, _), (2, _), (3, _), (4, _), (5, _), (6, _)]) dX0_exchangeAlong_82 (by decide) rfl ?_
    refine jg_iload cx dX0_exchangeAlong_84 rfl ?_
    refine jg_aload_n cx dX0_exchangeAlong_86 rfl ?_
    refine jg_get cx (jp_net_o hb) rfl inX0 1 (by decide) f15 rfl dX0_exchangeAlong_87 ?_
    refine jg_iload_n cx dX0_exchangeAlong_90 rfl ?_
    refine jg_ialdU cx dX0_exchangeAlong_91 ((jp_net_2 hb)) rfl (by omega) ?_
    refine jg_isub cx dX0_exchangeAlong_92 ?_
    refine jg_abs cx (by decide +kernel) (by decide +kernel) (by decide +kernel) (by decide +kernel) (Nat.le_of_ble_eq_true rfl) (Nat.le_of_ble_eq_true rfl) dX0_exchangeAlong_93 ?_
    refine jg_istore cx (lv' := [(0, _), (1, _), (2, _), (3, _), (4, _), (5, _), (6, _), (7, _)]) dX0_exchangeAlong_96 (by decide) rfl ?_
    refine jg_aload_n cx dX0_exchangeAlong_98 rfl ?_
    refine jg_get cx (jp_net_o hb) rfl inX0 1 (by decide) f15 rfl dX0_exchangeAlong_99 ?_
    refine jg_iload_n cx dX0_exchangeAlong_102 rfl ?_
    refine jg_iload cx dX0_exchangeAlong_103 rfl ?_
    refine jg_iastU cx dX0_exchangeAlong_105 ((jp_net_2 hb)) rfl (by omega) ?_
    refine jg_aload_n cx dX0_exchangeAlong_106 rfl ?_
    refine jg_get cx (jp_net_o hb) rfl inX0 1 (by decide) f15 rfl dX0_exchangeAlong_107 ?_
    refine jg_iload_n cx dX0_exchangeAlong_110 rfl ?_
    refine jg_iload_n cx dX0_exchangeAlong_111 rfl ?_
    refine jg_iload cx dX0_exchangeAlong_112 rfl ?_
    refine jg_isub cx dX0_exchangeAlong_114 ?_
    refine jg_iastU cx dX0_exchangeAlong_115 ((jp_net_2 hb)) rfl (by omega) ?_
    refine jg_iload cx dX0_exchangeAlong_116 rfl ?_
    exact jg_iret cx dX0_exchangeAlong_118 (⟨(by first | with_reducible rfl | (simp only [jf_absI, jf_exF, if_neg c75, ↓reduceIte, Bool.false_eq_true, Bool.true_eq_false, reduceCtorEq, eq_self, if_true, if_false, Bool.not_true, Bool.not_false]; first | done | rfl)), (by first | with_reducible rfl | (simp only [jf_exA, jf_exF, if_neg c75, ↓reduceIte, Bool.false_eq_true, Bool.true_eq_false, reduceCtorEq, eq_self, if_true, if_false, Bool.not_true, Bool.not_false]; first | done | rfl))⟩)
def jf_exS (tu : Int32) (a c : Nat) (S : jf_B × Int32) : jf_B × Int32 := if jf_joins S.1 a c then (if S.1 5 (jf_spot a c) = tu then (jf_exA S.1 a c, S.2 + jf_absI (jf_exF S.1 a c - S.1 2 a)) else S) else S
def jf_exR (tu : Int32) (a : Nat) (S : jf_B × Int32) : jf_B × Int32 := jf_fr (jf_exS tu a) S (a + 1) (8 - (a + 1))
def jf_turn (N : jf_B) : Int32 := jf_rem (N 0 8) (jf_colours N)
def jf_exch (N : jf_B) : jf_B × Int32 := jf_it (jf_exR (jf_turn N)) (N, nI 0) 8
set_option maxHeartbeats 1000000 in
set_option maxRecDepth 100000 in
theorem jc_X0_exchange (E : jp_E) (l : Launch) {b : Nat} {h : jp_H} {N : jf_B} {L : jf_L} (hb : jp_net b)  : jc_M E l yX0_exchange wsX0_exchange ({ frames := 2, cells := 0, slots := 0, locals := 49 } : Room) [.ref (E.2.1 b 0)] (jp_u h b N L) (jp_R (some (.int ((jf_exch N).2))) (jp_u h b ((jf_exch N).1) L)) := by
  refine jc_of (cc := cX0_exchange) (maxL := 5) (ret := some .int) (own := RX0) (lv := [(0, _)]) (by decide) rfl rfl (Nat.le_of_ble_eq_true rfl) rfl (fun X cx => ?_)
  have inX0 : ∀ w ∈ u_ws RX0 TX0 9, w ∈ wsX0_exchange := by decide +kernel
  have f24 : Cond.fieldLink RX0 24 "JobSpread$Net" "colour" "[I" ∈ wsX0_exchange := by decide +kernel
  have f37 : Cond.fieldLink RX0 37 "JobSpread$Net" "rounds" "I" ∈ wsX0_exchange := by decide +kernel
  refine jg_aload_n cx dX0_exchange_0 rfl ?_
  refine jg_getU cx (jp_net_o hb) rfl inX0 8 (by decide) f37 rfl dX0_exchange_1 ?_
  refine jg_aload_n cx dX0_exchange_4 rfl ?_
  refine jg_callVi cx (n := 0) (jc_X0_colours E l hb) gX0_exchange_X0_colours rfl ⟨rfl, rfl⟩ ⟨(Nat.le_of_ble_eq_true rfl), (Nat.le_of_ble_eq_true rfl)⟩ (by decide +kernel) (jp_net_o hb) rfl rfl rfl (Nat.le_of_ble_eq_true rfl) dX0_exchange_5 ?_
  refine jg_irem cx dX0_exchange_8 (jf_colours_ne N) ?_
  refine jg_istore_n cx (lv' := [(0, _), (1, _)]) dX0_exchange_9 (by decide) rfl ?_
  refine jg_iconst cx (v := nI 0) dX0_exchange_10 (by decide) ?_
  refine jg_istore_n cx (lv' := [(0, _), (1, _), (2, _)]) dX0_exchange_11 (by decide) rfl ?_
  refine jg_iconst cx (v := nI 0) dX0_exchange_12 (by decide) ?_
  refine jg_istore_n cx (lv' := [(0, _), (1, _), (2, _), (3, _)]) dX0_exchange_13 (by decide) rfl ?_
  have lp14 : ∀ (d14 a : Nat), a + d14 = 8 → X 14 [(0, .ref (E.2.1 b 0)), (1, .int (jf_turn N)), (2, .int (jf_it (jf_exR (jf_turn N)) (N, nI 0) a).2), (3, .int (nI a))] [] (jp_u h b (jf_it (jf_exR (jf_turn N)) (N, nI 0) a).1 L) := by
    intro d14
    induction d14 with
    | zero =>
      intro a  hr14 
      obtain rfl : a = 8 := by omega
      refine jg_iload_n cx dX0_exchange_14 rfl ?_
      refine jg_bipush cx (v := nI 8) dX0_exchange_15 (by decide) ?_
      refine jg_icmpN_ge cx (tgt := 79) dX0_exchange_17 (by decide) (by omega) (by omega) (fun c17 => ?_) (fun c17 => ?_)
      · refine jg_iload_n cx dX0_exchange_79 rfl ?_
        exact jg_iret cx dX0_exchange_80 (⟨(by first | with_reducible rfl | (simp only [jf_exch, ↓reduceIte, Bool.false_eq_true, Bool.true_eq_false, reduceCtorEq, eq_self, if_true, if_false, Bool.not_true, Bool.not_false]; first | done | rfl)), (by first | with_reducible rfl | (simp only [jf_exch, ↓reduceIte, Bool.false_eq_true, Bool.true_eq_false, reduceCtorEq, eq_self, if_true, if_false, Bool.not_true, Bool.not_false]; first | done | rfl))⟩)
      · exact absurd hr14 (by omega)
    | succ d14 ih14 =>
      intro a  hr14 
      refine jg_iload_n cx dX0_exchange_14 rfl ?_
      refine jg_bipush cx (v := nI 8) dX0_exchange_15 (by decide) ?_
      refine jg_icmpN_ge cx (tgt := 79) dX0_exchange_17 (by decide) (by omega) (by omega) (fun c17 => ?_) (fun c17 => ?_)
      · exact absurd hr14 (by omega)
      · refine jg_iload_n cx dX0_exchange_20 rfl ?_
        refine jg_iconst cx (v := nI 1) dX0_exchange_21 (by decide) ?_
        refine jg_iaddN cx dX0_exchange_22 ?_
        refine jg_istore cx (lv' := [(0, _), (1, _), (2, _), (3, _), (4, _)]) dX0_exchange_23 (by decide) rfl ?_
        have lp25 : ∀ (d25 n : Nat), a + 1 + n + d25 = 8 → X 25 [(0, .ref (E.2.1 b 0)), (1, .int (jf_turn N)), (2, .int (jf_fr (jf_exS (jf_turn N) a) (jf_it (jf_exR (jf_turn N)) (N, nI 0) a) (a + 1) n).2), (3, .int (nI a)), (4, .int (nI (a + 1 + n)))] [] (jp_u h b (jf_fr (jf_exS (jf_turn N) a) (jf_it (jf_exR (jf_turn N)) (N, nI 0) a) (a + 1) n).1 L) := by
          intro d25
          induction d25 with
          | zero =>
            intro n  hr25 
            obtain rfl : n = 8 - (a + 1) := by omega
            refine jg_iload cx dX0_exchange_25 rfl ?_
            refine jg_bipush cx (v := nI 8) dX0_exchange_27 (by decide) ?_
            refine jg_icmpN_ge cx (tgt := 73) dX0_exchange_29 (by decide) (by omega) (by omega) (fun c29 => ?_) (fun c29 => ?_)
            · refine jg_iincN cx (d := 1) (lv' := [(0, _), (1, _), (2, _), (3, _), (4, _)]) dX0_exchange_73 rfl (by decide) (by decide) rfl ?_
              refine jg_goto cx (tgt := 14) dX0_exchange_76 (by decide) ?_
              refine jg_sub cx (lv' := [(0, _), (1, _), (2, _), (3, _)]) [0, 1, 2, 3] rfl ?_
              exact jg_to (ih14 (a + 1)  (by omega) ) rfl rfl rfl
            · exact absurd hr25 (by omega)
          | succ d25 ih25 =>
            intro n  hr25 
            refine jg_iload cx dX0_exchange_25 rfl ?_
            refine jg_bipush cx (v := nI 8) dX0_exchange_27 (by decide) ?_
            refine jg_icmpN_ge cx (tgt := 73) dX0_exchange_29 (by decide) (by omega) (by omega) (fun c29 => ?_) (fun c29 => ?_)
            · exact absurd hr25 (by omega)
            · refine jg_aload_n cx dX0_exchange_32 rfl ?_
              refine jg_iload_n cx dX0_exchange_33 rfl ?_
              refine jg_iload cx dX0_exchange_34 rfl ?_
              refine jg_callVi cx (n := 2) (jc_X0_joins E l hb (by omega) (by omega)) gX0_exchange_X0_joins rfl ⟨rfl, rfl⟩ ⟨(Nat.le_of_ble_eq_true rfl), (Nat.le_of_ble_eq_true rfl)⟩ (by decide +kernel) (jp_net_o hb) rfl rfl rfl (Nat.le_of_ble_eq_true rfl) dX0_exchange_36 ?_
              refine jg_ifb_eq cx (tgt := 67) dX0_exchange_39 (by decide) (fun c39 => ?_) (fun c39 => ?_)
              · refine jg_iincN cx (d := 1) (lv' := [(0, _), (1, _), (2, _), (3, _), (4, _)]) dX0_exchange_67 rfl (by decide) (by decide) rfl ?_
                refine jg_goto cx (tgt := 25) dX0_exchange_70 (by decide) ?_
                exact jg_to (ih25 (n + 1)  (by omega) ) (by first | with_reducible rfl | (simp only [jf_fr, jf_exS, c39, ↓reduceIte, Bool.false_eq_true, Bool.true_eq_false, reduceCtorEq, eq_self, if_true, if_false, Bool.not_true, Bool.not_false]; first | done | rfl)) (by first | with_reducible rfl | (simp only [jf_fr, jf_exS, c39, ↓reduceIte, Bool.false_eq_true, Bool.true_eq_false, reduceCtorEq, eq_self, if_true, if_false, Bool.not_true, Bool.not_false]; first | done | rfl)) (by first | with_reducible rfl | (simp only [jf_fr, jf_exS, c39, ↓reduceIte, Bool.false_eq_true, Bool.true_eq_false, reduceCtorEq, eq_self, if_true, if_false, Bool.not_true, Bool.not_false]; first | done | rfl))
              · refine jg_aload_n cx dX0_exchange_42 rfl ?_
                refine jg_get cx (jp_net_o hb) rfl inX0 4 (by decide) f24 rfl dX0_exchange_43 ?_
                refine jg_iload_n cx dX0_exchange_46 rfl ?_
                refine jg_iload cx dX0_exchange_47 rfl ?_
                refine jg_callSNi cx (n := 2) (jc_X2_spotN E l (by omega) (by omega)) gX0_exchange_X2_spot_n46 (by decide +kernel) (by decide +kernel) (by decide +kernel) rfl ⟨rfl, rfl⟩ ⟨(Nat.le_of_ble_eq_true rfl), (Nat.le_of_ble_eq_true rfl)⟩ (by decide +kernel) rfl rfl (Nat.le_of_ble_eq_true rfl) dX0_exchange_49 ?_
                refine jg_ialdU cx dX0_exchange_52 ((jp_net_5 hb)) rfl (jf_spot_lt (by omega) (by omega)) ?_
                refine jg_iload_n cx dX0_exchange_53 rfl ?_
                refine jg_icmp_ne cx (tgt := 67) dX0_exchange_54 (by decide) (fun c54 => ?_) (fun c54 => ?_)
                · refine jg_iincN cx (d := 1) (lv' := [(0, _), (1, _), (2, _), (3, _), (4, _)]) dX0_exchange_67 rfl (by decide) (by decide) rfl ?_
                  refine jg_goto cx (tgt := 25) dX0_exchange_70 (by decide) ?_
                  exact jg_to (ih25 (n + 1)  (by omega) ) (by first | with_reducible rfl | (simp only [jf_fr, jf_exS, c39, if_neg c54, ↓reduceIte, Bool.false_eq_true, Bool.true_eq_false, reduceCtorEq, eq_self, if_true, if_false, Bool.not_true, Bool.not_false]; first | done | rfl)) (by first | with_reducible rfl | (simp only [jf_fr, jf_exS, c39, if_neg c54, ↓reduceIte, Bool.false_eq_true, Bool.true_eq_false, reduceCtorEq, eq_self, if_true, if_false, Bool.not_true, Bool.not_false]; first | done | rfl)) (by first | with_reducible rfl | (simp only [jf_fr, jf_exS, c39, if_neg c54, ↓reduceIte, Bool.false_eq_true, Bool.true_eq_false, reduceCtorEq, eq_self, if_true, if_false, Bool.not_true, Bool.not_false]; first | done | rfl))
                · refine jg_iload_n cx dX0_exchange_57 rfl ?_
                  refine jg_aload_n cx dX0_exchange_58 rfl ?_
                  refine jg_iload_n cx dX0_exchange_59 rfl ?_
                  refine jg_iload cx dX0_exchange_60 rfl ?_
                  refine jg_callVi cx (n := 2) (jc_X0_exchangeAlong E l hb (by omega) (by omega)) gX0_exchange_X0_exchangeAlong rfl ⟨rfl, rfl⟩ ⟨(Nat.le_of_ble_eq_true rfl), (Nat.le_of_ble_eq_true rfl)⟩ (by decide +kernel) (jp_net_o hb) rfl rfl rfl (Nat.le_of_ble_eq_true rfl) dX0_exchange_62 ?_
                  refine jg_iadd cx dX0_exchange_65 ?_
                  refine jg_istore_n cx (lv' := [(0, _), (1, _), (2, _), (3, _), (4, _)]) dX0_exchange_66 (by decide) rfl ?_
                  refine jg_iincN cx (d := 1) (lv' := [(0, _), (1, _), (2, _), (3, _), (4, _)]) dX0_exchange_67 rfl (by decide) (by decide) rfl ?_
                  refine jg_goto cx (tgt := 25) dX0_exchange_70 (by decide) ?_
                  exact jg_to (ih25 (n + 1)  (by omega) ) (by first | with_reducible rfl | (simp only [jf_fr, jf_exS, c39, if_pos c54, ↓reduceIte, Bool.false_eq_true, Bool.true_eq_false, reduceCtorEq, eq_self, if_true, if_false, Bool.not_true, Bool.not_false]; first | done | rfl)) (by first | with_reducible rfl | (simp only [jf_fr, jf_exS, c39, if_pos c54, ↓reduceIte, Bool.false_eq_true, Bool.true_eq_false, reduceCtorEq, eq_self, if_true, if_false, Bool.not_true, Bool.not_false]; first | done | rfl)) (by first | with_reducible rfl | (simp only [jf_fr, jf_exS, c39, if_pos c54, ↓reduceIte, Bool.false_eq_true, Bool.true_eq_false, reduceCtorEq, eq_self, if_true, if_false, Bool.not_true, Bool.not_false]; first | done | rfl))
        exact jg_to (lp25 (8 - (a + 1)) 0  (by omega) ) rfl rfl rfl
  exact jg_to (lp14 8 0  (by omega) ) rfl rfl rfl
end
section
def jf_dfG (sl ea le fi slot : Int32) : Int32 := if le ≤ jf_rem (slot - fi + sl) sl then ea else ea + nI 1
def jf_dfS (sl ea le fi : Int32) (n o : Nat) (T : jf_B × Int32 × Int32) : jf_B × Int32 × Int32 := if jf_joins T.1 n o then (jf_w T.1 7 o (T.1 7 o + jf_dfG sl ea le fi T.2.1), T.2.1 + nI 1, T.2.2 + jf_dfG sl ea le fi T.2.1) else T
def jf_dfT (N : jf_B) (n : Nat) (i : Nat) : jf_B × Int32 × Int32 := jf_it (jf_dfS (jf_slots N n) (N 2 n / jf_slots N n) (jf_rem (N 2 n) (jf_slots N n)) (jf_rlo N n) n) (N, nI 0, nI 0) i
theorem jf_dfT_s (N : jf_B) (n i : Nat) : jf_dfT N n (i + 1) = jf_dfS (jf_slots N n) (N 2 n / jf_slots N n) (jf_rem (N 2 n) (jf_slots N n)) (jf_rlo N n) n i (jf_dfT N n i) := rfl
def jf_dealF (N : jf_B) (n : Nat) : jf_B × Int32 :=
  let T := jf_dfT N n 8
  let N1 := jf_w T.1 7 n (T.1 7 n - T.2.2)
  (jf_w N1 3 n (jf_rem (jf_rlo N n + jf_rem (N 2 n) (jf_slots N n)) (jf_slots N n)), T.2.2)
set_option maxHeartbeats 1000000 in
set_option maxRecDepth 100000 in
theorem jc_X0_dealFrom (E : jp_E) (l : Launch) {b : Nat} {h : jp_H} {N : jf_B} {L : jf_L} (hb : jp_net b) {n : Nat} (hn : n < 8) : jc_M E l yX0_dealFrom wsX0_dealFrom ({ frames := 2, cells := 0, slots := 0, locals := 43 } : Room) [.ref (E.2.1 b 0), .int (nI n)] (jp_u h b N L) (jp_R (some (.int ((jf_dealF N n).2))) (jp_u h b ((jf_dealF N n).1) L)) := by
  refine jc_of (cc := cX0_dealFrom) (maxL := 11) (ret := some .int) (own := RX0) (lv := [(0, _), (1, _)]) (by decide) rfl rfl (Nat.le_of_ble_eq_true rfl) rfl (fun X cx => ?_)
  have inX0 : ∀ w ∈ u_ws RX0 TX0 9, w ∈ wsX0_dealFrom := by decide +kernel
  have f15 : Cond.fieldLink RX0 15 "JobSpread$Net" "jobs" "[I" ∈ wsX0_dealFrom := by decide +kernel
  have f18 : Cond.fieldLink RX0 18 "JobSpread$Net" "rotor" "[I" ∈ wsX0_dealFrom := by decide +kernel
  have f30 : Cond.fieldLink RX0 30 "JobSpread$Net" "change" "[I" ∈ wsX0_dealFrom := by decide +kernel
  refine jg_aload_n cx dX0_dealFrom_0 rfl ?_
  refine jg_iload_n cx dX0_dealFrom_1 rfl ?_
  refine jg_callVi cx (n := 1) (jc_X0_slots E l hb (by omega)) gX0_dealFrom_X0_slots rfl ⟨rfl, rfl⟩ ⟨(Nat.le_of_ble_eq_true rfl), (Nat.le_of_ble_eq_true rfl)⟩ (by decide +kernel) (jp_net_o hb) rfl rfl rfl (Nat.le_of_ble_eq_true rfl) dX0_dealFrom_2 ?_
  refine jg_istore_n cx (lv' := [(0, _), (1, _), (2, _)]) dX0_dealFrom_5 (by decide) rfl ?_
  refine jg_aload_n cx dX0_dealFrom_6 rfl ?_
  refine jg_get cx (jp_net_o hb) rfl inX0 1 (by decide) f15 rfl dX0_dealFrom_7 ?_
  refine jg_iload_n cx dX0_dealFrom_10 rfl ?_
  refine jg_ialdU cx dX0_dealFrom_11 ((jp_net_2 hb)) rfl (by omega) ?_
  refine jg_iload_n cx dX0_dealFrom_12 rfl ?_
  refine jg_idiv cx dX0_dealFrom_13 (jf_slots_ne N n) ?_
  refine jg_istore_n cx (lv' := [(0, _), (1, _), (2, _), (3, _)]) dX0_dealFrom_14 (by decide) rfl ?_
  refine jg_aload_n cx dX0_dealFrom_15 rfl ?_
  refine jg_get cx (jp_net_o hb) rfl inX0 1 (by decide) f15 rfl dX0_dealFrom_16 ?_
  refine jg_iload_n cx dX0_dealFrom_19 rfl ?_
  refine jg_ialdU cx dX0_dealFrom_20 ((jp_net_2 hb)) rfl (by omega) ?_
  refine jg_iload_n cx dX0_dealFrom_21 rfl ?_
  refine jg_irem cx dX0_dealFrom_22 (jf_slots_ne N n) ?_
  refine jg_istore cx (lv' := [(0, _), (1, _), (2, _), (3, _), (4, _)]) dX0_dealFrom_23 (by decide) rfl ?_
  refine jg_aload_n cx dX0_dealFrom_25 rfl ?_
  refine jg_iload_n cx dX0_dealFrom_26 rfl ?_
  refine jg_callVi cx (n := 1) (jc_X0_rotorLeftOver E l hb (by omega)) gX0_dealFrom_X0_rotorLeftOver rfl ⟨rfl, rfl⟩ ⟨(Nat.le_of_ble_eq_true rfl), (Nat.le_of_ble_eq_true rfl)⟩ (by decide +kernel) (jp_net_o hb) rfl rfl rfl (Nat.le_of_ble_eq_true rfl) dX0_dealFrom_27 ?_
  refine jg_istore cx (lv' := [(0, _), (1, _), (2, _), (3, _), (4, _), (5, _)]) dX0_dealFrom_30 (by decide) rfl ?_
  refine jg_iconst cx (v := nI 0) dX0_dealFrom_32 (by decide) ?_
  refine jg_istore cx (lv' := [(0, _), (1, _), (2, _), (3, _), (4, _), (5, _), (6, _)]) dX0_dealFrom_33 (by decide) rfl ?_
  refine jg_iconst cx (v := nI 0) dX0_dealFrom_35 (by decide) ?_
  refine jg_istore cx (lv' := [(0, _), (1, _), (2, _), (3, _), (4, _), (5, _), (6, _), (7, _)]) dX0_dealFrom_36 (by decide) rfl ?_
  refine jg_iconst cx (v := nI 0) dX0_dealFrom_38 (by decide) ?_
  refine jg_istore cx (lv' := [(0, _), (1, _), (2, _), (3, _), (4, _), (5, _), (6, _), (7, _), (8, _)]) dX0_dealFrom_39 (by decide) rfl ?_
  have lp41 : ∀ (d41 i : Nat), i + d41 = 8 → X 41 [(0, .ref (E.2.1 b 0)), (1, .int (nI n)), (2, .int (jf_slots N n)), (3, .int (N 2 n / jf_slots N n)), (4, .int (jf_rem (N 2 n) (jf_slots N n))), (5, .int (jf_rlo N n)), (6, .int (jf_dfT N n i).2.1), (7, .int (jf_dfT N n i).2.2), (8, .int (nI i))] [] (jp_u h b (jf_dfT N n i).1 L) := by
    intro d41
    induction d41 with
    | zero =>
      intro i  hr41 
      obtain rfl : i = 8 := by omega
      refine jg_iload cx dX0_dealFrom_41 rfl ?_
      refine jg_bipush cx (v := nI 8) dX0_dealFrom_43 (by decide) ?_
      refine jg_icmpN_ge cx (tgt := 113) dX0_dealFrom_45 (by decide) (by omega) (by omega) (fun c45 => ?_) (fun c45 => ?_)
      · refine jg_aload_n cx dX0_dealFrom_113 rfl ?_
        refine jg_get cx (jp_net_o hb) rfl inX0 6 (by decide) f30 rfl dX0_dealFrom_114 ?_
        refine jg_iload_n cx dX0_dealFrom_117 rfl ?_
        refine jg_dup2 cx dX0_dealFrom_118 rfl rfl ?_
        refine jg_ialdU cx dX0_dealFrom_119 ((jp_net_7 hb)) rfl (by omega) ?_
        refine jg_iload cx dX0_dealFrom_120 rfl ?_
        refine jg_isub cx dX0_dealFrom_122 ?_
        refine jg_iastU cx dX0_dealFrom_123 ((jp_net_7 hb)) rfl (by omega) ?_
        refine jg_aload_n cx dX0_dealFrom_124 rfl ?_
        refine jg_get cx (jp_net_o hb) rfl inX0 2 (by decide) f18 rfl dX0_dealFrom_125 ?_
        refine jg_iload_n cx dX0_dealFrom_128 rfl ?_
        refine jg_iload cx dX0_dealFrom_129 rfl ?_
        refine jg_iload cx dX0_dealFrom_131 rfl ?_
        refine jg_iadd cx dX0_dealFrom_133 ?_
        refine jg_iload_n cx dX0_dealFrom_134 rfl ?_
        refine jg_irem cx dX0_dealFrom_135 (jf_slots_ne N n) ?_
        refine jg_iastU cx dX0_dealFrom_136 ((jp_net_3 hb)) rfl (by omega) ?_
        refine jg_iload cx dX0_dealFrom_137 rfl ?_
        exact jg_iret cx dX0_dealFrom_139 (⟨(by first | with_reducible rfl | (simp only [jf_dealF, ↓reduceIte, Bool.false_eq_true, Bool.true_eq_false, reduceCtorEq, eq_self, if_true, if_false, Bool.not_true, Bool.not_false]; first | done | rfl)), (by first | with_reducible rfl | (simp only [jf_dealF, ↓reduceIte, Bool.false_eq_true, Bool.true_eq_false, reduceCtorEq, eq_self, if_true, if_false, Bool.not_true, Bool.not_false]; first | done | rfl))⟩)
      · exact absurd hr41 (by omega)
    | succ d41 ih41 =>
      intro i  hr41 
      refine jg_iload cx dX0_dealFrom_41 rfl ?_
      refine jg_bipush cx (v := nI 8) dX0_dealFrom_43 (by decide) ?_
      refine jg_icmpN_ge cx (tgt := 113) dX0_dealFrom_45 (by decide) (by omega) (by omega) (fun c45 => ?_) (fun c45 => ?_)
      · exact absurd hr41 (by omega)
      · refine jg_aload_n cx dX0_dealFrom_48 rfl ?_
        refine jg_iload_n cx dX0_dealFrom_49 rfl ?_
        refine jg_iload cx dX0_dealFrom_50 rfl ?_
        refine jg_callVi cx (n := 2) (jc_X0_joins E l hb (by omega) (by omega)) gX0_dealFrom_X0_joins rfl ⟨rfl, rfl⟩ ⟨(Nat.le_of_ble_eq_true rfl), (Nat.le_of_ble_eq_true rfl)⟩ (by decide +kernel) (jp_net_o hb) rfl rfl rfl (Nat.le_of_ble_eq_true rfl) dX0_dealFrom_52 ?_
        refine jg_ifb_eq cx (tgt := 107) dX0_dealFrom_55 (by decide) (fun c55 => ?_) (fun c55 => ?_)
        · refine jg_iincN cx (d := 1) (lv' := [(0, _), (1, _), (2, _), (3, _), (4, _), (5, _), (6, _), (7, _), (8, _)]) dX0_dealFrom_107 rfl (by decide) (by decide) rfl ?_
          refine jg_goto cx (tgt := 41) dX0_dealFrom_110 (by decide) ?_
          exact jg_to (ih41 (i + 1)  (by omega) ) (by first | with_reducible rfl | (simp only [jf_dfT_s, jf_dfS, jf_dfG, c55, ↓reduceIte, Bool.false_eq_true, Bool.true_eq_false, reduceCtorEq, eq_self, if_true, if_false, Bool.not_true, Bool.not_false]; first | done | rfl)) (by first | with_reducible rfl | (simp only [jf_dfT_s, jf_dfS, jf_dfG, c55, ↓reduceIte, Bool.false_eq_true, Bool.true_eq_false, reduceCtorEq, eq_self, if_true, if_false, Bool.not_true, Bool.not_false]; first | done | rfl)) (by first | with_reducible rfl | (simp only [jf_dfT_s, jf_dfS, jf_dfG, c55, ↓reduceIte, Bool.false_eq_true, Bool.true_eq_false, reduceCtorEq, eq_self, if_true, if_false, Bool.not_true, Bool.not_false]; first | done | rfl))
        · refine jg_iload cx dX0_dealFrom_58 rfl ?_
          refine jg_iload cx dX0_dealFrom_60 rfl ?_
          refine jg_isub cx dX0_dealFrom_62 ?_
          refine jg_iload_n cx dX0_dealFrom_63 rfl ?_
          refine jg_iadd cx dX0_dealFrom_64 ?_
          refine jg_iload_n cx dX0_dealFrom_65 rfl ?_
          refine jg_irem cx dX0_dealFrom_66 (jf_slots_ne N n) ?_
          refine jg_istore cx (lv' := [(0, _), (1, _), (2, _), (3, _), (4, _), (5, _), (6, _), (7, _), (8, _), (9, _)]) dX0_dealFrom_67 (by decide) rfl ?_
          refine jg_iload cx dX0_dealFrom_69 rfl ?_
          refine jg_iload cx dX0_dealFrom_71 rfl ?_
          refine jg_icmp_ge cx (tgt := 82) dX0_dealFrom_73 (by decide) (fun c73 => ?_) (fun c73 => ?_)
          · refine jg_iload_n cx dX0_dealFrom_82 rfl ?_
            refine jg_istore cx (lv' := [(0, _), (1, _), (2, _), (3, _), (4, _), (5, _), (6, _), (7, _), (8, _), (9, _), (10, _)]) dX0_dealFrom_83 (by decide) rfl ?_
            refine jg_aload_n cx dX0_dealFrom_85 rfl ?_
            refine jg_get cx (jp_net_o hb) rfl inX0 6 (by decide) f30 rfl dX0_dealFrom_86 ?_
            refine jg_iload cx dX0_dealFrom_89 rfl ?_
            refine jg_dup2 cx dX0_dealFrom_91 rfl rfl ?_
            refine jg_ialdU cx dX0_dealFrom_92 ((jp_net_7 hb)) rfl (by omega) ?_
            refine jg_iload cx dX0_dealFrom_93 rfl ?_
            refine jg_iadd cx dX0_dealFrom_95 ?_
            refine jg_iastU cx dX0_dealFrom_96 ((jp_net_7 hb)) rfl (by omega) ?_
            refine jg_iload cx dX0_dealFrom_97 rfl ?_
            refine jg_iload cx dX0_dealFrom_99 rfl ?_
            refine jg_iadd cx dX0_dealFrom_101 ?_
            refine jg_istore cx (lv' := [(0, _), (1, _), (2, _), (3, _), (4, _), (5, _), (6, _), (7, _), (8, _), (9, _), (10, _)]) dX0_dealFrom_102 (by decide) rfl ?_
            refine jg_iincI cx (d := 1) (lv' := [(0, _), (1, _), (2, _), (3, _), (4, _), (5, _), (6, _), (7, _), (8, _), (9, _), (10, _)]) dX0_dealFrom_104 rfl (by decide) (by decide) rfl ?_
            refine jg_iincN cx (d := 1) (lv' := [(0, _), (1, _), (2, _), (3, _), (4, _), (5, _), (6, _), (7, _), (8, _), (9, _), (10, _)]) dX0_dealFrom_107 rfl (by decide) (by decide) rfl ?_
            refine jg_goto cx (tgt := 41) dX0_dealFrom_110 (by decide) ?_
            refine jg_sub cx (lv' := [(0, _), (1, _), (2, _), (3, _), (4, _), (5, _), (6, _), (7, _), (8, _)]) [0, 1, 2, 3, 4, 5, 6, 7, 8] rfl ?_
            exact jg_to (ih41 (i + 1)  (by omega) ) (by first | with_reducible rfl | (simp only [jf_dfT_s, jf_dfS, jf_dfG, c55, if_pos c73, ↓reduceIte, Bool.false_eq_true, Bool.true_eq_false, reduceCtorEq, eq_self, if_true, if_false, Bool.not_true, Bool.not_false]; first | done | rfl)) (by first | with_reducible rfl | (simp only [jf_dfT_s, jf_dfS, jf_dfG, c55, if_pos c73, ↓reduceIte, Bool.false_eq_true, Bool.true_eq_false, reduceCtorEq, eq_self, if_true, if_false, Bool.not_true, Bool.not_false]; first | done | rfl)) (by first | with_reducible rfl | (simp only [jf_dfT_s, jf_dfS, jf_dfG, c55, if_pos c73, ↓reduceIte, Bool.false_eq_true, Bool.true_eq_false, reduceCtorEq, eq_self, if_true, if_false, Bool.not_true, Bool.not_false]; first | done | rfl))
          · refine jg_iload_n cx dX0_dealFrom_76 rfl ?_
            refine jg_iconst cx (v := nI 1) dX0_dealFrom_77 (by decide) ?_
            refine jg_iadd cx dX0_dealFrom_78 ?_
            refine jg_goto cx (tgt := 83) dX0_dealFrom_79 (by decide) ?_
            refine jg_istore cx (lv' := [(0, _), (1, _), (2, _), (3, _), (4, _), (5, _), (6, _), (7, _), (8, _), (9, _), (10, _)]) dX0_dealFrom_83 (by decide) rfl ?_
            refine jg_aload_n cx dX0_dealFrom_85 rfl ?_
            refine jg_get cx (jp_net_o hb) rfl inX0 6 (by decide) f30 rfl dX0_dealFrom_86 ?_
            refine jg_iload cx dX0_dealFrom_89 rfl ?_
            refine jg_dup2 cx dX0_dealFrom_91 rfl rfl ?_
            refine jg_ialdU cx dX0_dealFrom_92 ((jp_net_7 hb)) rfl (by omega) ?_
            refine jg_iload cx dX0_dealFrom_93 rfl ?_
            refine jg_iadd cx dX0_dealFrom_95 ?_
            refine jg_iastU cx dX0_dealFrom_96 ((jp_net_7 hb)) rfl (by omega) ?_
            refine jg_iload cx dX0_dealFrom_97 rfl ?_
            refine jg_iload cx dX0_dealFrom_99 rfl ?_
            refine jg_iadd cx dX0_dealFrom_101 ?_
            refine jg_istore cx (lv' := [(0, _), (1, _), (2, _), (3, _), (4, _), (5, _), (6, _), (7, _), (8, _), (9, _), (10, _)]) dX0_dealFrom_102 (by decide) rfl ?_
            refine jg_iincI cx (d := 1) (lv' := [(0, _), (1, _), (2, _), (3, _), (4, _), (5, _), (6, _), (7, _), (8, _), (9, _), (10, _)]) dX0_dealFrom_104 rfl (by decide) (by decide) rfl ?_
            refine jg_iincN cx (d := 1) (lv' := [(0, _), (1, _), (2, _), (3, _), (4, _), (5, _), (6, _), (7, _), (8, _), (9, _), (10, _)]) dX0_dealFrom_107 rfl (by decide) (by decide) rfl ?_
            refine jg_goto cx (tgt := 41) dX0_dealFrom_110 (by decide) ?_
            refine jg_sub cx (lv' := [(0, _), (1, _), (2, _), (3, _), (4, _), (5, _), (6, _), (7, _), (8, _)]) [0, 1, 2, 3, 4, 5, 6, 7, 8] rfl ?_
            exact jg_to (ih41 (i + 1)  (by omega) ) (by first | with_reducible rfl | (simp only [jf_dfT_s, jf_dfS, jf_dfG, c55, if_neg c73, ↓reduceIte, Bool.false_eq_true, Bool.true_eq_false, reduceCtorEq, eq_self, if_true, if_false, Bool.not_true, Bool.not_false]; first | done | rfl)) (by first | with_reducible rfl | (simp only [jf_dfT_s, jf_dfS, jf_dfG, c55, if_neg c73, ↓reduceIte, Bool.false_eq_true, Bool.true_eq_false, reduceCtorEq, eq_self, if_true, if_false, Bool.not_true, Bool.not_false]; first | done | rfl)) (by first | with_reducible rfl | (simp only [jf_dfT_s, jf_dfS, jf_dfG, c55, if_neg c73, ↓reduceIte, Bool.false_eq_true, Bool.true_eq_false, reduceCtorEq, eq_self, if_true, if_false, Bool.not_true, Bool.not_false]; first | done | rfl))
  exact jg_to (lp41 8 0  (by omega) ) rfl rfl rfl
def jf_deS (i : Nat) (S : jf_B × Int32) : jf_B × Int32 := if S.1 2 i ≤ 0 then S else ((jf_dealF S.1 i).1, S.2 + (jf_dealF S.1 i).2)
def jf_deal (N : jf_B) : jf_B × Int32 := (jf_settle (jf_it jf_deS (N, nI 0) 8).1, (jf_it jf_deS (N, nI 0) 8).2)
set_option maxHeartbeats 1000000 in
set_option maxRecDepth 100000 in
theorem jc_X0_deal (E : jp_E) (l : Launch) {b : Nat} {h : jp_H} {N : jf_B} {L : jf_L} (hb : jp_net b)  : jc_M E l yX0_deal wsX0_deal ({ frames := 3, cells := 0, slots := 0, locals := 73 } : Room) [.ref (E.2.1 b 0)] (jp_u h b N L) (jp_R (some (.int ((jf_deal N).2))) (jp_u h b ((jf_deal N).1) L)) := by
  refine jc_of (cc := cX0_deal) (maxL := 3) (ret := some .int) (own := RX0) (lv := [(0, _)]) (by decide) rfl rfl (Nat.le_of_ble_eq_true rfl) rfl (fun X cx => ?_)
  have inX0 : ∀ w ∈ u_ws RX0 TX0 9, w ∈ wsX0_deal := by decide +kernel
  have f15 : Cond.fieldLink RX0 15 "JobSpread$Net" "jobs" "[I" ∈ wsX0_deal := by decide +kernel
  refine jg_iconst cx (v := nI 0) dX0_deal_0 (by decide) ?_
  refine jg_istore_n cx (lv' := [(0, _), (1, _)]) dX0_deal_1 (by decide) rfl ?_
  refine jg_iconst cx (v := nI 0) dX0_deal_2 (by decide) ?_
  refine jg_istore_n cx (lv' := [(0, _), (1, _), (2, _)]) dX0_deal_3 (by decide) rfl ?_
  have lp4 : ∀ (d4 i : Nat), i + d4 = 8 → X 4 [(0, .ref (E.2.1 b 0)), (1, .int (jf_it jf_deS (N, nI 0) i).2), (2, .int (nI i))] [] (jp_u h b (jf_it jf_deS (N, nI 0) i).1 L) := by
    intro d4
    induction d4 with
    | zero =>
      intro i  hr4 
      obtain rfl : i = 8 := by omega
      refine jg_iload_n cx dX0_deal_4 rfl ?_
      refine jg_bipush cx (v := nI 8) dX0_deal_5 (by decide) ?_
      refine jg_icmpN_ge cx (tgt := 33) dX0_deal_7 (by decide) (by omega) (by omega) (fun c7 => ?_) (fun c7 => ?_)
      · refine jg_aload_n cx dX0_deal_33 rfl ?_
        refine jg_callVv cx (n := 0) (jc_X0_settle E l hb) gX0_deal_X0_settle rfl ⟨rfl, rfl⟩ ⟨(Nat.le_of_ble_eq_true rfl), (Nat.le_of_ble_eq_true rfl)⟩ (by decide +kernel) (jp_net_o hb) rfl rfl rfl (Nat.le_of_ble_eq_true rfl) dX0_deal_34 ?_
        refine jg_iload_n cx dX0_deal_37 rfl ?_
        exact jg_iret cx dX0_deal_38 (⟨(by first | with_reducible rfl | (simp only [jf_deal, ↓reduceIte, Bool.false_eq_true, Bool.true_eq_false, reduceCtorEq, eq_self, if_true, if_false, Bool.not_true, Bool.not_false]; first | done | rfl)), (by first | with_reducible rfl | (simp only [jf_deal, ↓reduceIte, Bool.false_eq_true, Bool.true_eq_false, reduceCtorEq, eq_self, if_true, if_false, Bool.not_true, Bool.not_false]; first | done | rfl))⟩)
      · exact absurd hr4 (by omega)
    | succ d4 ih4 =>
      intro i  hr4 
      refine jg_iload_n cx dX0_deal_4 rfl ?_
      refine jg_bipush cx (v := nI 8) dX0_deal_5 (by decide) ?_
      refine jg_icmpN_ge cx (tgt := 33) dX0_deal_7 (by decide) (by omega) (by omega) (fun c7 => ?_) (fun c7 => ?_)
      · exact absurd hr4 (by omega)
      · refine jg_aload_n cx dX0_deal_10 rfl ?_
        refine jg_get cx (jp_net_o hb) rfl inX0 1 (by decide) f15 rfl dX0_deal_11 ?_
        refine jg_iload_n cx dX0_deal_14 rfl ?_
        refine jg_ialdU cx dX0_deal_15 ((jp_net_2 hb)) rfl (by omega) ?_
        refine jg_if_le cx (tgt := 27) dX0_deal_16 (by decide) (fun c16 => ?_) (fun c16 => ?_)
        · refine jg_iincN cx (d := 1) (lv' := [(0, _), (1, _), (2, _)]) dX0_deal_27 rfl (by decide) (by decide) rfl ?_
          refine jg_goto cx (tgt := 4) dX0_deal_30 (by decide) ?_
          exact jg_to (ih4 (i + 1)  (by omega) ) (by first | with_reducible rfl | (simp only [jf_it, jf_deS, if_pos c16, ↓reduceIte, Bool.false_eq_true, Bool.true_eq_false, reduceCtorEq, eq_self, if_true, if_false, Bool.not_true, Bool.not_false]; first | done | rfl)) (by first | with_reducible rfl | (simp only [jf_it, jf_deS, if_pos c16, ↓reduceIte, Bool.false_eq_true, Bool.true_eq_false, reduceCtorEq, eq_self, if_true, if_false, Bool.not_true, Bool.not_false]; first | done | rfl)) (by first | with_reducible rfl | (simp only [jf_it, jf_deS, if_pos c16, ↓reduceIte, Bool.false_eq_true, Bool.true_eq_false, reduceCtorEq, eq_self, if_true, if_false, Bool.not_true, Bool.not_false]; first | done | rfl))
        · refine jg_iload_n cx dX0_deal_19 rfl ?_
          refine jg_aload_n cx dX0_deal_20 rfl ?_
          refine jg_iload_n cx dX0_deal_21 rfl ?_
          refine jg_callVi cx (n := 1) (jc_X0_dealFrom E l hb (by omega)) gX0_deal_X0_dealFrom rfl ⟨rfl, rfl⟩ ⟨(Nat.le_of_ble_eq_true rfl), (Nat.le_of_ble_eq_true rfl)⟩ (by decide +kernel) (jp_net_o hb) rfl rfl rfl (Nat.le_of_ble_eq_true rfl) dX0_deal_22 ?_
          refine jg_iadd cx dX0_deal_25 ?_
          refine jg_istore_n cx (lv' := [(0, _), (1, _), (2, _)]) dX0_deal_26 (by decide) rfl ?_
          refine jg_iincN cx (d := 1) (lv' := [(0, _), (1, _), (2, _)]) dX0_deal_27 rfl (by decide) (by decide) rfl ?_
          refine jg_goto cx (tgt := 4) dX0_deal_30 (by decide) ?_
          exact jg_to (ih4 (i + 1)  (by omega) ) (by first | with_reducible rfl | (simp only [jf_it, jf_deS, if_neg c16, ↓reduceIte, Bool.false_eq_true, Bool.true_eq_false, reduceCtorEq, eq_self, if_true, if_false, Bool.not_true, Bool.not_false]; first | done | rfl)) (by first | with_reducible rfl | (simp only [jf_it, jf_deS, if_neg c16, ↓reduceIte, Bool.false_eq_true, Bool.true_eq_false, reduceCtorEq, eq_self, if_true, if_false, Bool.not_true, Bool.not_false]; first | done | rfl)) (by first | with_reducible rfl | (simp only [jf_it, jf_deS, if_neg c16, ↓reduceIte, Bool.false_eq_true, Bool.true_eq_false, reduceCtorEq, eq_self, if_true, if_false, Bool.not_true, Bool.not_false]; first | done | rfl))
  exact jg_to (lp4 8 0  (by omega) ) rfl rfl rfl
def jf_one (ru : Int32) (N : jf_B) : jf_B × Int32 := if ru = 0 then jf_flow N else if ru = nI 1 then jf_exch N else jf_deal N
def jf_rnd (ru : Int32) (_ : Nat) (S : jf_B × Int32) : jf_B × Int32 := (jf_w (jf_one ru S.1).1 0 8 ((jf_one ru S.1).1 0 8 + nI 1), S.2 + (jf_one ru S.1).2)
def jf_go (ru : Int32) (N : jf_B) (k : Nat) : jf_B × Int32 := jf_it (jf_rnd ru) (N, nI 0) k
theorem jf_go_s (ru : Int32) (N : jf_B) (i : Nat) : jf_go ru N (i + 1) = jf_rnd ru i (jf_go ru N i) := rfl
set_option maxHeartbeats 1000000 in
set_option maxRecDepth 100000 in
theorem jc_X0_goOn (E : jp_E) (l : Launch) {b : Nat} {h : jp_H} {N : jf_B} {L : jf_L} (hb : jp_net b) {ru : Int32} {k : Nat} (hk : k < 2 ^ 31) : jc_M E l yX0_goOn wsX0_goOn ({ frames := 4, cells := 0, slots := 0, locals := 95 } : Room) [.ref (E.2.1 b 0), .int ru, .int (nI k)] (jp_u h b N L) (jp_R (some (.int ((jf_go ru N k).2))) (jp_u h b ((jf_go ru N k).1) L)) := by
  refine jc_of (cc := cX0_goOn) (maxL := 5) (ret := some .int) (own := RX0) (lv := [(0, _), (1, _), (2, _)]) (by decide) rfl rfl (Nat.le_of_ble_eq_true rfl) rfl (fun X cx => ?_)
  have inX0 : ∀ w ∈ u_ws RX0 TX0 9, w ∈ wsX0_goOn := by decide +kernel
  have f37 : Cond.fieldLink RX0 37 "JobSpread$Net" "rounds" "I" ∈ wsX0_goOn := by decide +kernel
  refine jg_iconst cx (v := nI 0) dX0_goOn_0 (by decide) ?_
  refine jg_istore_n cx (lv' := [(0, _), (1, _), (2, _), (3, _)]) dX0_goOn_1 (by decide) rfl ?_
  refine jg_iconst cx (v := nI 0) dX0_goOn_2 (by decide) ?_
  refine jg_istore cx (lv' := [(0, _), (1, _), (2, _), (3, _), (4, _)]) dX0_goOn_3 (by decide) rfl ?_
  have lp5 : ∀ (d5 i : Nat), i + d5 = k → X 5 [(0, .ref (E.2.1 b 0)), (1, .int ru), (2, .int (nI k)), (3, .int (jf_go ru N i).2), (4, .int (nI i))] [] (jp_u h b (jf_go ru N i).1 L) := by
    intro d5
    induction d5 with
    | zero =>
      intro i  hr5 
      refine jg_iload cx dX0_goOn_5 rfl ?_
      refine jg_iload_n cx dX0_goOn_7 rfl ?_
      refine jg_icmpN_ge cx (tgt := 57) dX0_goOn_8 (by decide) (by omega) (by omega) (fun c8 => ?_) (fun c8 => ?_)
      · refine jg_iload_n cx dX0_goOn_57 rfl ?_
        exact jg_iret cx dX0_goOn_58 (by rw [show i = k by omega]; exact ⟨rfl, rfl⟩)
      · exact absurd hr5 (by omega)
    | succ d5 ih5 =>
      intro i  hr5 
      refine jg_iload cx dX0_goOn_5 rfl ?_
      refine jg_iload_n cx dX0_goOn_7 rfl ?_
      refine jg_icmpN_ge cx (tgt := 57) dX0_goOn_8 (by decide) (by omega) (by omega) (fun c8 => ?_) (fun c8 => ?_)
      · exact absurd hr5 (by omega)
      · refine jg_iload_n cx dX0_goOn_11 rfl ?_
        refine jg_iload_n cx dX0_goOn_12 rfl ?_
        refine jg_if_ne cx (tgt := 23) dX0_goOn_13 (by decide) (fun c13 => ?_) (fun c13 => ?_)
        · refine jg_iload_n cx dX0_goOn_23 rfl ?_
          refine jg_iconst cx (v := nI 1) dX0_goOn_24 (by decide) ?_
          refine jg_icmp_ne cx (tgt := 35) dX0_goOn_25 (by decide) (fun c25 => ?_) (fun c25 => ?_)
          · refine jg_aload_n cx dX0_goOn_35 rfl ?_
            refine jg_callVi cx (n := 0) (jc_X0_deal E l hb) gX0_goOn_X0_deal rfl ⟨rfl, rfl⟩ ⟨(Nat.le_of_ble_eq_true rfl), (Nat.le_of_ble_eq_true rfl)⟩ (by decide +kernel) (jp_net_o hb) rfl rfl rfl (Nat.le_of_ble_eq_true rfl) dX0_goOn_36 ?_
            refine jg_iadd cx dX0_goOn_39 ?_
            refine jg_istore_n cx (lv' := [(0, _), (1, _), (2, _), (3, _), (4, _)]) dX0_goOn_40 (by decide) rfl ?_
            refine jg_aload_n cx dX0_goOn_41 rfl ?_
            refine jg_dup cx dX0_goOn_42 rfl ?_
            refine jg_getU cx (jp_net_o hb) rfl inX0 8 (by decide) f37 rfl dX0_goOn_43 ?_
            refine jg_iconst cx (v := nI 1) dX0_goOn_46 (by decide) ?_
            refine jg_iadd cx dX0_goOn_47 ?_
            refine jg_putU cx (jp_net_o hb) rfl inX0 tyX0 tyX0_ok nmX0 8 (by decide) f37 rfl (by decide +kernel) (Nat.le_of_ble_eq_true rfl) (jp_put0_8 _ _ _ _) dX0_goOn_48 ?_
            refine jg_iincN cx (d := 1) (lv' := [(0, _), (1, _), (2, _), (3, _), (4, _)]) dX0_goOn_51 rfl (by decide) (by decide) rfl ?_
            refine jg_goto cx (tgt := 5) dX0_goOn_54 (by decide) ?_
            exact jg_to (ih5 (i + 1)  (by omega) ) (by first | with_reducible rfl | (simp only [jf_go_s, jf_rnd, jf_one, if_neg c13, if_neg c25, ↓reduceIte, Bool.false_eq_true, Bool.true_eq_false, reduceCtorEq, eq_self, if_true, if_false, Bool.not_true, Bool.not_false]; first | done | rfl)) (by first | with_reducible rfl | (simp only [jf_go_s, jf_rnd, jf_one, if_neg c13, if_neg c25, ↓reduceIte, Bool.false_eq_true, Bool.true_eq_false, reduceCtorEq, eq_self, if_true, if_false, Bool.not_true, Bool.not_false]; first | done | rfl)) (by first | with_reducible rfl | (simp only [jf_go_s, jf_rnd, jf_one, if_neg c13, if_neg c25, ↓reduceIte, Bool.false_eq_true, Bool.true_eq_false, reduceCtorEq, eq_self, if_true, if_false, Bool.not_true, Bool.not_false]; first | done | rfl))
          · refine jg_aload_n cx dX0_goOn_28 rfl ?_
            refine jg_callVi cx (n := 0) (jc_X0_exchange E l hb) gX0_goOn_X0_exchange rfl ⟨rfl, rfl⟩ ⟨(Nat.le_of_ble_eq_true rfl), (Nat.le_of_ble_eq_true rfl)⟩ (by decide +kernel) (jp_net_o hb) rfl rfl rfl (Nat.le_of_ble_eq_true rfl) dX0_goOn_29 ?_
            refine jg_goto cx (tgt := 39) dX0_goOn_32 (by decide) ?_
            refine jg_iadd cx dX0_goOn_39 ?_
            refine jg_istore_n cx (lv' := [(0, _), (1, _), (2, _), (3, _), (4, _)]) dX0_goOn_40 (by decide) rfl ?_
            refine jg_aload_n cx dX0_goOn_41 rfl ?_
            refine jg_dup cx dX0_goOn_42 rfl ?_
            refine jg_getU cx (jp_net_o hb) rfl inX0 8 (by decide) f37 rfl dX0_goOn_43 ?_
            refine jg_iconst cx (v := nI 1) dX0_goOn_46 (by decide) ?_
            refine jg_iadd cx dX0_goOn_47 ?_
            refine jg_putU cx (jp_net_o hb) rfl inX0 tyX0 tyX0_ok nmX0 8 (by decide) f37 rfl (by decide +kernel) (Nat.le_of_ble_eq_true rfl) (jp_put0_8 _ _ _ _) dX0_goOn_48 ?_
            refine jg_iincN cx (d := 1) (lv' := [(0, _), (1, _), (2, _), (3, _), (4, _)]) dX0_goOn_51 rfl (by decide) (by decide) rfl ?_
            refine jg_goto cx (tgt := 5) dX0_goOn_54 (by decide) ?_
            exact jg_to (ih5 (i + 1)  (by omega) ) (by first | with_reducible rfl | (simp only [jf_go_s, jf_rnd, jf_one, if_neg c13, if_pos c25, ↓reduceIte, Bool.false_eq_true, Bool.true_eq_false, reduceCtorEq, eq_self, if_true, if_false, Bool.not_true, Bool.not_false]; first | done | rfl)) (by first | with_reducible rfl | (simp only [jf_go_s, jf_rnd, jf_one, if_neg c13, if_pos c25, ↓reduceIte, Bool.false_eq_true, Bool.true_eq_false, reduceCtorEq, eq_self, if_true, if_false, Bool.not_true, Bool.not_false]; first | done | rfl)) (by first | with_reducible rfl | (simp only [jf_go_s, jf_rnd, jf_one, if_neg c13, if_pos c25, ↓reduceIte, Bool.false_eq_true, Bool.true_eq_false, reduceCtorEq, eq_self, if_true, if_false, Bool.not_true, Bool.not_false]; first | done | rfl))
        · refine jg_aload_n cx dX0_goOn_16 rfl ?_
          refine jg_callVi cx (n := 0) (jc_X0_flow E l hb) gX0_goOn_X0_flow rfl ⟨rfl, rfl⟩ ⟨(Nat.le_of_ble_eq_true rfl), (Nat.le_of_ble_eq_true rfl)⟩ (by decide +kernel) (jp_net_o hb) rfl rfl rfl (Nat.le_of_ble_eq_true rfl) dX0_goOn_17 ?_
          refine jg_goto cx (tgt := 39) dX0_goOn_20 (by decide) ?_
          refine jg_iadd cx dX0_goOn_39 ?_
          refine jg_istore_n cx (lv' := [(0, _), (1, _), (2, _), (3, _), (4, _)]) dX0_goOn_40 (by decide) rfl ?_
          refine jg_aload_n cx dX0_goOn_41 rfl ?_
          refine jg_dup cx dX0_goOn_42 rfl ?_
          refine jg_getU cx (jp_net_o hb) rfl inX0 8 (by decide) f37 rfl dX0_goOn_43 ?_
          refine jg_iconst cx (v := nI 1) dX0_goOn_46 (by decide) ?_
          refine jg_iadd cx dX0_goOn_47 ?_
          refine jg_putU cx (jp_net_o hb) rfl inX0 tyX0 tyX0_ok nmX0 8 (by decide) f37 rfl (by decide +kernel) (Nat.le_of_ble_eq_true rfl) (jp_put0_8 _ _ _ _) dX0_goOn_48 ?_
          refine jg_iincN cx (d := 1) (lv' := [(0, _), (1, _), (2, _), (3, _), (4, _)]) dX0_goOn_51 rfl (by decide) (by decide) rfl ?_
          refine jg_goto cx (tgt := 5) dX0_goOn_54 (by decide) ?_
          exact jg_to (ih5 (i + 1)  (by omega) ) (by first | with_reducible rfl | (simp only [jf_go_s, jf_rnd, jf_one, if_pos c13, ↓reduceIte, Bool.false_eq_true, Bool.true_eq_false, reduceCtorEq, eq_self, if_true, if_false, Bool.not_true, Bool.not_false]; first | done | rfl)) (by first | with_reducible rfl | (simp only [jf_go_s, jf_rnd, jf_one, if_pos c13, ↓reduceIte, Bool.false_eq_true, Bool.true_eq_false, reduceCtorEq, eq_self, if_true, if_false, Bool.not_true, Bool.not_false]; first | done | rfl)) (by first | with_reducible rfl | (simp only [jf_go_s, jf_rnd, jf_one, if_pos c13, ↓reduceIte, Bool.false_eq_true, Bool.true_eq_false, reduceCtorEq, eq_self, if_true, if_false, Bool.not_true, Bool.not_false]; first | done | rfl))
  exact jg_to (lp5 k 0  (by omega) ) rfl rfl rfl
end
section
/-! ===== the pad ===== -/
def jf_add (N : jf_B) (n : Nat) (sg : Int32) : jf_B := jf_w (jf_w N 1 n sg) 0 1 (jf_w N 1 n sg 0 1 + nI 1)
set_option maxHeartbeats 1000000 in
set_option maxRecDepth 100000 in
theorem jc_X1_add (E : jp_E) (l : Launch) {h : jp_H} {N : jf_B} {L : jf_L} {n : Nat} {sg : Int32} (hn : N 0 1 = nI n) (hn40 : n < 40) : jc_M E l yX1_add wsX1_add ({ frames := 0, cells := 0, slots := 0, locals := 0 } : Room) [.ref (E.2.1 1 0), .int sg] (jp_u h 1 N L) (jp_R none (jp_u h 1 (jf_add N n sg) L)) := by
  refine jc_of (cc := cX1_add) (maxL := 2) (ret := none) (own := RX1) (lv := [(0, _), (1, _)]) (by decide) rfl rfl (Nat.le_of_ble_eq_true rfl) rfl (fun X cx => ?_)
  have inX1 : ∀ w ∈ u_ws RX1 TX1 2, w ∈ wsX1_add := by decide +kernel
  have f9 : Cond.fieldLink RX1 9 "JobSpread$Pad" "signs" "[I" ∈ wsX1_add := by decide +kernel
  have f15 : Cond.fieldLink RX1 15 "JobSpread$Pad" "length" "I" ∈ wsX1_add := by decide +kernel
  refine jg_aload_n cx dX1_add_0 rfl ?_
  refine jg_getU cx jp_pad_o rfl inX1 1 (by decide) f15 rfl dX1_add_1 ?_
  rw [hn]
  refine jg_bipush cx (v := nI 40) dX1_add_4 (by decide) ?_
  refine jg_icmpN_ge cx (tgt := 29) dX1_add_6 (by decide) (by omega) (by omega) (fun c6 => ?_) (fun c6 => ?_)
  · exact absurd c6 (by omega)
  · refine jg_aload_n cx dX1_add_9 rfl ?_
    refine jg_get cx jp_pad_o rfl inX1 0 (by decide) f9 rfl dX1_add_10 ?_
    refine jg_aload_n cx dX1_add_13 rfl ?_
    refine jg_getU cx jp_pad_o rfl inX1 1 (by decide) f15 rfl dX1_add_14 ?_
    rw [hn]
    refine jg_iload_n cx dX1_add_17 rfl ?_
    refine jg_iastU cx dX1_add_18 (jp_pad_1) rfl (by omega) ?_
    refine jg_aload_n cx dX1_add_19 rfl ?_
    refine jg_dup cx dX1_add_20 rfl ?_
    refine jg_getU cx jp_pad_o rfl inX1 1 (by decide) f15 rfl dX1_add_21 ?_
    refine jg_iconst cx (v := nI 1) dX1_add_24 (by decide) ?_
    refine jg_iadd cx dX1_add_25 ?_
    refine jg_putU cx jp_pad_o rfl inX1 tyX1 tyX1_ok nmX1 1 (by decide) f15 rfl (by decide +kernel) (Nat.le_of_ble_eq_true rfl) (jp_put1_1 _ _ _) dX1_add_26 ?_
    exact jg_vret cx dX1_add_29 (⟨rfl, rfl⟩)
def jf_nd (N : jf_B) (k : Nat) : Int32 := N 1 k - nI 97
def jf_cl (N : jf_B) (k : Nat) : Int32 := N 1 k - nI 48
set_option maxHeartbeats 1000000 in
set_option maxRecDepth 100000 in
theorem jc_X1_nodeAt (E : jp_E) (l : Launch) {h : jp_H} {N : jf_B} {L : jf_L} {k : Nat} (hk : k < 40) : jc_M E l yX1_nodeAt wsX1_nodeAt ({ frames := 0, cells := 0, slots := 0, locals := 0 } : Room) [.ref (E.2.1 1 0), .int (nI k)] (jp_u h 1 N L) (jp_R (some (.int (jf_nd N k))) (jp_u h 1 N L)) := by
  refine jc_of (cc := cX1_nodeAt) (maxL := 2) (ret := some .int) (own := RX1) (lv := [(0, _), (1, _)]) (by decide) rfl rfl (Nat.le_of_ble_eq_true rfl) rfl (fun X cx => ?_)
  have inX1 : ∀ w ∈ u_ws RX1 TX1 2, w ∈ wsX1_nodeAt := by decide +kernel
  have f9 : Cond.fieldLink RX1 9 "JobSpread$Pad" "signs" "[I" ∈ wsX1_nodeAt := by decide +kernel
  refine jg_aload_n cx dX1_nodeAt_0 rfl ?_
  refine jg_get cx jp_pad_o rfl inX1 0 (by decide) f9 rfl dX1_nodeAt_1 ?_
  refine jg_iload_n cx dX1_nodeAt_4 rfl ?_
  refine jg_ialdU cx dX1_nodeAt_5 (jp_pad_1) rfl (by omega) ?_
  refine jg_bipush cx (v := nI 97) dX1_nodeAt_6 (by decide) ?_
  refine jg_isub cx dX1_nodeAt_8 ?_
  exact jg_iret cx dX1_nodeAt_9 (⟨rfl, rfl⟩)
set_option maxHeartbeats 1000000 in
set_option maxRecDepth 100000 in
theorem jc_X1_colourAt (E : jp_E) (l : Launch) {h : jp_H} {N : jf_B} {L : jf_L} {k : Nat} (hk : k < 40) : jc_M E l yX1_colourAt wsX1_colourAt ({ frames := 0, cells := 0, slots := 0, locals := 0 } : Room) [.ref (E.2.1 1 0), .int (nI k)] (jp_u h 1 N L) (jp_R (some (.int (jf_cl N k))) (jp_u h 1 N L)) := by
  refine jc_of (cc := cX1_colourAt) (maxL := 2) (ret := some .int) (own := RX1) (lv := [(0, _), (1, _)]) (by decide) rfl rfl (Nat.le_of_ble_eq_true rfl) rfl (fun X cx => ?_)
  have inX1 : ∀ w ∈ u_ws RX1 TX1 2, w ∈ wsX1_colourAt := by decide +kernel
  have f9 : Cond.fieldLink RX1 9 "JobSpread$Pad" "signs" "[I" ∈ wsX1_colourAt := by decide +kernel
  refine jg_aload_n cx dX1_colourAt_0 rfl ?_
  refine jg_get cx jp_pad_o rfl inX1 0 (by decide) f9 rfl dX1_colourAt_1 ?_
  refine jg_iload_n cx dX1_colourAt_4 rfl ?_
  refine jg_ialdU cx dX1_colourAt_5 (jp_pad_1) rfl (by omega) ?_
  refine jg_bipush cx (v := nI 48) dX1_colourAt_6 (by decide) ?_
  refine jg_isub cx dX1_colourAt_8 ?_
  exact jg_iret cx dX1_colourAt_9 (⟨rfl, rfl⟩)
def jf_tb (N : jf_B) (he : Int32) : Nat → Bool
  | 0 => false
  | i + 1 => if jf_spotI (jf_nd N (3 * i)) (jf_nd N (3 * i + 1)) = he then true else jf_tb N he i
theorem jf_tb_t {N : jf_B} {he : Int32} {i : Nat} (ht : jf_tb N he (i + 1) = true) : ∀ d, jf_tb N he (i + 1 + d) = true
  | 0 => ht
  | d + 1 => by
    show jf_tb N he ((i + 1 + d) + 1) = true
    unfold jf_tb
    rw [jf_tb_t ht d]
    simp
theorem jf_tb_m {N : jf_B} {he : Int32} {i m : Nat} (hi : i < m) (ht : jf_tb N he (i + 1) = true) : jf_tb N he m = true := by
  have := jf_tb_t ht (m - (i + 1))
  rwa [show i + 1 + (m - (i + 1)) = m by omega] at this
set_option maxHeartbeats 1000000 in
set_option maxRecDepth 100000 in
theorem jc_X1_isToldBefore (E : jp_E) (l : Launch) {h : jp_H} {N : jf_B} {L : jf_L} {m : Nat} (hm : 3 * m + 1 < 40) : jc_M E l yX1_isToldBefore wsX1_isToldBefore ({ frames := 1, cells := 0, slots := 0, locals := 21 } : Room) [.ref (E.2.1 1 0), .int (nI (3 * m))] (jp_u h 1 N L) (jp_R (some (.int (jp_b (jf_tb N (jf_spotI (jf_nd N (3 * m)) (jf_nd N (3 * m + 1))) m)))) (jp_u h 1 N L)) := by
  refine jc_of (cc := cX1_isToldBefore) (maxL := 4) (ret := some .boolean) (own := RX1) (lv := [(0, _), (1, _)]) (by decide) rfl rfl (Nat.le_of_ble_eq_true rfl) rfl (fun X cx => ?_)
  refine jg_aload_n cx dX1_isToldBefore_0 rfl ?_
  refine jg_iload_n cx dX1_isToldBefore_1 rfl ?_
  refine jg_callVi cx (n := 1) (jc_X1_nodeAt E l (by omega)) gX1_isToldBefore_X1_nodeAt rfl ⟨rfl, rfl⟩ ⟨(Nat.le_of_ble_eq_true rfl), (Nat.le_of_ble_eq_true rfl)⟩ (by decide +kernel) jp_pad_o rfl rfl rfl (Nat.le_of_ble_eq_true rfl) dX1_isToldBefore_2 ?_
  refine jg_aload_n cx dX1_isToldBefore_5 rfl ?_
  refine jg_iload_n cx dX1_isToldBefore_6 rfl ?_
  refine jg_iconst cx (v := nI 1) dX1_isToldBefore_7 (by decide) ?_
  refine jg_iaddN cx dX1_isToldBefore_8 ?_
  refine jg_callVi cx (n := 1) (jc_X1_nodeAt E l (by omega)) gX1_isToldBefore_X1_nodeAt rfl ⟨rfl, rfl⟩ ⟨(Nat.le_of_ble_eq_true rfl), (Nat.le_of_ble_eq_true rfl)⟩ (by decide +kernel) jp_pad_o rfl rfl rfl (Nat.le_of_ble_eq_true rfl) dX1_isToldBefore_9 ?_
  refine jg_callSNi cx (n := 2) (jc_X2_spot E l) gX1_isToldBefore_X2_spot_n40 (by decide +kernel) (by decide +kernel) (by decide +kernel) rfl ⟨rfl, rfl⟩ ⟨(Nat.le_of_ble_eq_true rfl), (Nat.le_of_ble_eq_true rfl)⟩ (by decide +kernel) rfl rfl (Nat.le_of_ble_eq_true rfl) dX1_isToldBefore_12 ?_
  refine jg_istore_n cx (lv' := [(0, _), (1, _), (2, _)]) dX1_isToldBefore_15 (by decide) rfl ?_
  refine jg_iconst cx (v := nI 0) dX1_isToldBefore_16 (by decide) ?_
  refine jg_istore_n cx (lv' := [(0, _), (1, _), (2, _), (3, _)]) dX1_isToldBefore_17 (by decide) rfl ?_
  have lp18 : ∀ (d18 i : Nat), i + d18 = m → (jf_tb N (jf_spotI (jf_nd N (3 * m)) (jf_nd N (3 * m + 1))) i = false) → X 18 [(0, .ref (E.2.1 1 0)), (1, .int (nI (3 * m))), (2, .int (jf_spotI (jf_nd N (3 * m)) (jf_nd N (3 * m + 1)))), (3, .int (nI (3 * i)))] [] (jp_u h 1 N L) := by
    intro d18
    induction d18 with
    | zero =>
      intro i  hr18 hf
      refine jg_iload_n cx dX1_isToldBefore_18 rfl ?_
      refine jg_iload_n cx dX1_isToldBefore_19 rfl ?_
      refine jg_icmpN_ge cx (tgt := 50) dX1_isToldBefore_20 (by decide) (by omega) (by omega) (fun c20 => ?_) (fun c20 => ?_)
      · refine jg_iconst cx (v := jp_b false) dX1_isToldBefore_50 (by decide) ?_
        exact jg_bret cx dX1_isToldBefore_51 (⟨by rw [show i = m by omega] at hf; rw [hf], rfl⟩)
      · exact absurd hr18 (by omega)
    | succ d18 ih18 =>
      intro i  hr18 hf
      refine jg_iload_n cx dX1_isToldBefore_18 rfl ?_
      refine jg_iload_n cx dX1_isToldBefore_19 rfl ?_
      refine jg_icmpN_ge cx (tgt := 50) dX1_isToldBefore_20 (by decide) (by omega) (by omega) (fun c20 => ?_) (fun c20 => ?_)
      · exact absurd hr18 (by omega)
      · refine jg_aload_n cx dX1_isToldBefore_23 rfl ?_
        refine jg_iload_n cx dX1_isToldBefore_24 rfl ?_
        refine jg_callVi cx (n := 1) (jc_X1_nodeAt E l (by omega)) gX1_isToldBefore_X1_nodeAt rfl ⟨rfl, rfl⟩ ⟨(Nat.le_of_ble_eq_true rfl), (Nat.le_of_ble_eq_true rfl)⟩ (by decide +kernel) jp_pad_o rfl rfl rfl (Nat.le_of_ble_eq_true rfl) dX1_isToldBefore_25 ?_
        refine jg_aload_n cx dX1_isToldBefore_28 rfl ?_
        refine jg_iload_n cx dX1_isToldBefore_29 rfl ?_
        refine jg_iconst cx (v := nI 1) dX1_isToldBefore_30 (by decide) ?_
        refine jg_iaddN cx dX1_isToldBefore_31 ?_
        refine jg_callVi cx (n := 1) (jc_X1_nodeAt E l (by omega)) gX1_isToldBefore_X1_nodeAt rfl ⟨rfl, rfl⟩ ⟨(Nat.le_of_ble_eq_true rfl), (Nat.le_of_ble_eq_true rfl)⟩ (by decide +kernel) jp_pad_o rfl rfl rfl (Nat.le_of_ble_eq_true rfl) dX1_isToldBefore_32 ?_
        refine jg_callSNi cx (n := 2) (jc_X2_spot E l) gX1_isToldBefore_X2_spot_n40 (by decide +kernel) (by decide +kernel) (by decide +kernel) rfl ⟨rfl, rfl⟩ ⟨(Nat.le_of_ble_eq_true rfl), (Nat.le_of_ble_eq_true rfl)⟩ (by decide +kernel) rfl rfl (Nat.le_of_ble_eq_true rfl) dX1_isToldBefore_35 ?_
        refine jg_iload_n cx dX1_isToldBefore_38 rfl ?_
        refine jg_icmp_ne cx (tgt := 44) dX1_isToldBefore_39 (by decide) (fun c39 => ?_) (fun c39 => ?_)
        · refine jg_iincN cx (d := 3) (lv' := [(0, _), (1, _), (2, _), (3, _)]) dX1_isToldBefore_44 rfl (by decide) (by decide) rfl ?_
          refine jg_goto cx (tgt := 18) dX1_isToldBefore_47 (by decide) ?_
          exact jg_to (ih18 (i + 1)  (by omega) (by first | with_reducible rfl | (simp only [jf_tb, hf, if_neg c39, ↓reduceIte, Bool.false_eq_true, Bool.true_eq_false, reduceCtorEq, eq_self, if_true, if_false, Bool.not_true, Bool.not_false]; first | done | rfl))) rfl rfl rfl
        · refine jg_iconst cx (v := jp_b true) dX1_isToldBefore_42 (by decide) ?_
          exact jg_bret cx dX1_isToldBefore_43 (⟨by rw [jf_tb_m (i := i) (by omega) (by first | with_reducible rfl | (simp only [jf_tb, if_pos c39, ↓reduceIte, Bool.false_eq_true, Bool.true_eq_false, reduceCtorEq, eq_self, if_true, if_false, Bool.not_true, Bool.not_false]; first | done | rfl))], rfl⟩)
  exact jg_to (lp18 m 0  (by omega) rfl) rfl rfl rfl
def jf_st1 (N : jf_B) (m : Nat) : Bool := if jf_within (jf_nd N (3 * m + 1)) (nI 0) (nI 7) then (if N 1 (3 * m + 1) = N 1 (3 * m) then false else if jf_tb N (jf_spotI (jf_nd N (3 * m)) (jf_nd N (3 * m + 1))) m then false else true) else false
def jf_stand (N : jf_B) (k : Nat) : Bool := if k < 36 then (if k % 3 = 0 then jf_within (jf_nd N k) (nI 0) (nI 7) else if k % 3 = 1 then jf_st1 N (k / 3) else jf_within (jf_cl N k) (nI 0) (nI 3)) else false
theorem jf_stand_0 {N : jf_B} {k : Nat} (hk : k < 36) (q : k % 3 = 0) : jf_stand N k = jf_within (jf_nd N k) (nI 0) (nI 7) := by unfold jf_stand; rw [if_pos hk, if_pos q]
theorem jf_stand_1 {N : jf_B} {m : Nat} (hk : 3 * m + 1 < 36) : jf_stand N (3 * m + 1) = jf_st1 N m := by unfold jf_stand; rw [if_pos hk, if_neg (by omega), if_pos (by omega), show (3 * m + 1) / 3 = m by omega]
theorem jf_stand_2 {N : jf_B} {k : Nat} (hk : k < 36) (q : k % 3 = 2) : jf_stand N k = jf_within (jf_cl N k) (nI 0) (nI 3) := by unfold jf_stand; rw [if_pos hk, if_neg (by omega), if_neg (by omega)]
theorem jf_stand_3 {N : jf_B} {k : Nat} (hk : 36 ≤ k) : jf_stand N k = false := by unfold jf_stand; rw [if_neg (by omega)]
set_option maxHeartbeats 1000000 in
set_option maxRecDepth 100000 in
theorem jc_X1_canStand (E : jp_E) (l : Launch) {h : jp_H} {N : jf_B} {L : jf_L} {k : Nat} (hk : k < 40) : jc_M E l yX1_canStand wsX1_canStand ({ frames := 2, cells := 0, slots := 0, locals := 44 } : Room) [.ref (E.2.1 1 0), .int (nI k)] (jp_u h 1 N L) (jp_R (some (.int (jp_b (jf_stand N k)))) (jp_u h 1 N L)) := by
  refine jc_of (cc := cX1_canStand) (maxL := 2) (ret := some .boolean) (own := RX1) (lv := [(0, _), (1, _)]) (by decide) rfl rfl (Nat.le_of_ble_eq_true rfl) rfl (fun X cx => ?_)
  have inX1 : ∀ w ∈ u_ws RX1 TX1 2, w ∈ wsX1_canStand := by decide +kernel
  have f9 : Cond.fieldLink RX1 9 "JobSpread$Pad" "signs" "[I" ∈ wsX1_canStand := by decide +kernel
  refine jg_iload_n cx dX1_canStand_0 rfl ?_
  refine jg_bipush cx (v := nI 36) dX1_canStand_1 (by decide) ?_
  refine jg_icmpN_lt cx (tgt := 8) dX1_canStand_3 (by decide) (by omega) (by omega) (fun c3 => ?_) (fun c3 => ?_)
  · refine jg_iload_n cx dX1_canStand_8 rfl ?_
    refine jg_iconst cx (v := nI 3) dX1_canStand_9 (by decide) ?_
    refine jg_iremN cx dX1_canStand_10 (by omega) (by omega) (by omega) ?_
    rcases (show k % 3 = 0 ∨ k % 3 = 1 ∨ k % 3 = 2 by omega) with q | q | q
    · rw [q]
      refine jg_lookup cx (off := 25) (tgt := 36) dX1_canStand_11 (by decide) (by decide) (by decide) ?_
      refine jg_aload_n cx dX1_canStand_36 rfl ?_
      refine jg_iload_n cx dX1_canStand_37 rfl ?_
      refine jg_callVi cx (n := 1) (jc_X1_nodeAt E l (by omega)) gX1_canStand_X1_nodeAt rfl ⟨rfl, rfl⟩ ⟨(Nat.le_of_ble_eq_true rfl), (Nat.le_of_ble_eq_true rfl)⟩ (by decide +kernel) jp_pad_o rfl rfl rfl (Nat.le_of_ble_eq_true rfl) dX1_canStand_38 ?_
      refine jg_callSNi cx (n := 1) (jc_X2_isNode E l) gX1_canStand_X2_isNode_n27 (by decide +kernel) (by decide +kernel) (by decide +kernel) rfl ⟨rfl, rfl⟩ ⟨(Nat.le_of_ble_eq_true rfl), (Nat.le_of_ble_eq_true rfl)⟩ (by decide +kernel) rfl rfl (Nat.le_of_ble_eq_true rfl) dX1_canStand_41 ?_
      exact jg_bret cx dX1_canStand_44 (⟨by rw [jf_stand_0 c3 q], rfl⟩)
    · obtain ⟨m, rfl⟩ : ∃ m, k = 3 * m + 1 := ⟨k / 3, by omega⟩
      rw [q]
      refine jg_lookup cx (off := 34) (tgt := 45) dX1_canStand_11 (by decide) (by decide) (by decide) ?_
      refine jg_aload_n cx dX1_canStand_45 rfl ?_
      refine jg_iload_n cx dX1_canStand_46 rfl ?_
      refine jg_callVi cx (n := 1) (jc_X1_nodeAt E l (by omega)) gX1_canStand_X1_nodeAt rfl ⟨rfl, rfl⟩ ⟨(Nat.le_of_ble_eq_true rfl), (Nat.le_of_ble_eq_true rfl)⟩ (by decide +kernel) jp_pad_o rfl rfl rfl (Nat.le_of_ble_eq_true rfl) dX1_canStand_47 ?_
      refine jg_callSNi cx (n := 1) (jc_X2_isNode E l) gX1_canStand_X2_isNode_n27 (by decide +kernel) (by decide +kernel) (by decide +kernel) rfl ⟨rfl, rfl⟩ ⟨(Nat.le_of_ble_eq_true rfl), (Nat.le_of_ble_eq_true rfl)⟩ (by decide +kernel) rfl rfl (Nat.le_of_ble_eq_true rfl) dX1_canStand_50 ?_
      refine jg_ifb_eq cx (tgt := 87) dX1_canStand_53 (by decide) (fun c53 => ?_) (fun c53 => ?_)
      · refine jg_iconst cx (v := jp_b false) dX1_canStand_87 (by decide) ?_
        exact jg_bret cx dX1_canStand_88 (⟨by rw [jf_stand_1 c3]; simp only [jf_st1, c53, ↓reduceIte, Bool.false_eq_true], rfl⟩)
      · refine jg_aload_n cx dX1_canStand_56 rfl ?_
        refine jg_get cx jp_pad_o rfl inX1 0 (by decide) f9 rfl dX1_canStand_57 ?_
        refine jg_iload_n cx dX1_canStand_60 rfl ?_
        refine jg_ialdU cx dX1_canStand_61 (jp_pad_1) rfl (by omega) ?_
        refine jg_aload_n cx dX1_canStand_62 rfl ?_
        refine jg_get cx jp_pad_o rfl inX1 0 (by decide) f9 rfl dX1_canStand_63 ?_
        refine jg_iload_n cx dX1_canStand_66 rfl ?_
        refine jg_iconst cx (v := nI 1) dX1_canStand_67 (by decide) ?_
        refine jg_isubN cx dX1_canStand_68 (by omega) ?_
        refine jg_ialdU cx dX1_canStand_69 (jp_pad_1) rfl (by omega) ?_
        refine jg_icmp_eq cx (tgt := 87) dX1_canStand_70 (by decide) (fun c70 => ?_) (fun c70 => ?_)
        · rw [show 3 * m + 1 - 1 = 3 * m by omega] at c70
          refine jg_iconst cx (v := jp_b false) dX1_canStand_87 (by decide) ?_
          exact jg_bret cx dX1_canStand_88 (⟨by rw [jf_stand_1 c3]; simp only [jf_st1, c53, if_pos c70, ↓reduceIte, Bool.false_eq_true], rfl⟩)
        · rw [show 3 * m + 1 - 1 = 3 * m by omega] at c70
          refine jg_aload_n cx dX1_canStand_73 rfl ?_
          refine jg_iload_n cx dX1_canStand_74 rfl ?_
          refine jg_iconst cx (v := nI 1) dX1_canStand_75 (by decide) ?_
          refine jg_isubN cx dX1_canStand_76 (by omega) ?_
          refine jg_callVi cx (n := 1) (jc_X1_isToldBefore E l (m := m) (by omega)) gX1_canStand_X1_isToldBefore rfl ⟨rfl, rfl⟩ ⟨(Nat.le_of_ble_eq_true rfl), (Nat.le_of_ble_eq_true rfl)⟩ (by decide +kernel) jp_pad_o rfl rfl rfl (Nat.le_of_ble_eq_true rfl) dX1_canStand_77 ?_
          refine jg_ifb_ne cx (tgt := 87) dX1_canStand_80 (by decide) (fun c80 => ?_) (fun c80 => ?_)
          · refine jg_iconst cx (v := jp_b false) dX1_canStand_87 (by decide) ?_
            exact jg_bret cx dX1_canStand_88 (⟨by rw [jf_stand_1 c3]; simp only [jf_st1, c53, if_neg c70, c80, ↓reduceIte, Bool.false_eq_true], rfl⟩)
          · refine jg_iconst cx (v := jp_b true) dX1_canStand_83 (by decide) ?_
            refine jg_goto cx (tgt := 88) dX1_canStand_84 (by decide) ?_
            exact jg_bret cx dX1_canStand_88 (⟨by rw [jf_stand_1 c3]; simp only [jf_st1, c53, if_neg c70, c80, ↓reduceIte, Bool.false_eq_true], rfl⟩)
    · rw [q]
      refine jg_lookup cx (off := 78) (tgt := 89) dX1_canStand_11 (by decide) (by decide) (by decide) ?_
      refine jg_aload_n cx dX1_canStand_89 rfl ?_
      refine jg_iload_n cx dX1_canStand_90 rfl ?_
      refine jg_callVi cx (n := 1) (jc_X1_colourAt E l (by omega)) gX1_canStand_X1_colourAt rfl ⟨rfl, rfl⟩ ⟨(Nat.le_of_ble_eq_true rfl), (Nat.le_of_ble_eq_true rfl)⟩ (by decide +kernel) jp_pad_o rfl rfl rfl (Nat.le_of_ble_eq_true rfl) dX1_canStand_91 ?_
      refine jg_iconst cx (v := nI 0) dX1_canStand_94 (by decide) ?_
      refine jg_iconst cx (v := nI 3) dX1_canStand_95 (by decide) ?_
      refine jg_callSNi cx (n := 3) (jc_X2_isWithin E l) gX1_canStand_X2_isWithin_n36 (by decide +kernel) (by decide +kernel) (by decide +kernel) rfl ⟨rfl, rfl⟩ ⟨(Nat.le_of_ble_eq_true rfl), (Nat.le_of_ble_eq_true rfl)⟩ (by decide +kernel) rfl rfl (Nat.le_of_ble_eq_true rfl) dX1_canStand_96 ?_
      exact jg_bret cx dX1_canStand_99 (⟨by rw [jf_stand_2 c3 q], rfl⟩)
  · refine jg_iconst cx (v := jp_b false) dX1_canStand_6 (by decide) ?_
    exact jg_bret cx dX1_canStand_7 (⟨by rw [jf_stand_3 (by omega)], rfl⟩)
def jf_ffd (N : jf_B) (n : Nat) : Nat → Nat → Int32
  | 0, _ => if nI (n % 3) = 0 then -6 else nI n
  | d + 1, i => if jf_stand N i then jf_ffd N n d (i + 1) else nI i
def jf_ff (N : jf_B) (n : Nat) : Int32 := jf_ffd N n n 0
set_option maxHeartbeats 1000000 in
set_option maxRecDepth 100000 in
theorem jc_X1_firstFault (E : jp_E) (l : Launch) {h : jp_H} {N : jf_B} {L : jf_L} {n : Nat} (hn : N 0 1 = nI n) (hn40 : n ≤ 40) : jc_M E l yX1_firstFault wsX1_firstFault ({ frames := 3, cells := 0, slots := 0, locals := 65 } : Room) [.ref (E.2.1 1 0)] (jp_u h 1 N L) (jp_R (some (.int (jf_ff N n))) (jp_u h 1 N L)) := by
  refine jc_of (cc := cX1_firstFault) (maxL := 2) (ret := some .int) (own := RX1) (lv := [(0, _)]) (by decide) rfl rfl (Nat.le_of_ble_eq_true rfl) rfl (fun X cx => ?_)
  have inX1 : ∀ w ∈ u_ws RX1 TX1 2, w ∈ wsX1_firstFault := by decide +kernel
  have f15 : Cond.fieldLink RX1 15 "JobSpread$Pad" "length" "I" ∈ wsX1_firstFault := by decide +kernel
  refine jg_iconst cx (v := nI 0) dX1_firstFault_0 (by decide) ?_
  refine jg_istore_n cx (lv' := [(0, _), (1, _)]) dX1_firstFault_1 (by decide) rfl ?_
  have lp2 : ∀ (d2 i : Nat), i + d2 = n → (jf_ffd N n d2 i = jf_ff N n) → X 2 [(0, .ref (E.2.1 1 0)), (1, .int (nI i))] [] (jp_u h 1 N L) := by
    intro d2
    induction d2 with
    | zero =>
      intro i  hr2 hf
      refine jg_iload_n cx dX1_firstFault_2 rfl ?_
      refine jg_aload_n cx dX1_firstFault_3 rfl ?_
      refine jg_getU cx jp_pad_o rfl inX1 1 (by decide) f15 rfl dX1_firstFault_4 ?_
      rw [hn]
      refine jg_icmpN_ge cx (tgt := 26) dX1_firstFault_7 (by decide) (by omega) (by omega) (fun c7 => ?_) (fun c7 => ?_)
      · refine jg_aload_n cx dX1_firstFault_26 rfl ?_
        refine jg_getU cx jp_pad_o rfl inX1 1 (by decide) f15 rfl dX1_firstFault_27 ?_
        rw [hn]
        refine jg_iconst cx (v := nI 3) dX1_firstFault_30 (by decide) ?_
        refine jg_iremN cx dX1_firstFault_31 (by omega) (by omega) (by omega) ?_
        refine jg_if_ne cx (tgt := 40) dX1_firstFault_32 (by decide) (fun c32 => ?_) (fun c32 => ?_)
        · refine jg_aload_n cx dX1_firstFault_40 rfl ?_
          refine jg_getU cx jp_pad_o rfl inX1 1 (by decide) f15 rfl dX1_firstFault_41 ?_
          exact jg_iret cx dX1_firstFault_44 (⟨by rw [← hf]; simp only [jf_ffd, hn, if_neg c32, ↓reduceIte], rfl⟩)
        · refine jg_bipush cx (v := (-6)) dX1_firstFault_35 (by decide) ?_
          refine jg_goto cx (tgt := 44) dX1_firstFault_37 (by decide) ?_
          exact jg_iret cx dX1_firstFault_44 (⟨by rw [← hf]; simp only [jf_ffd, hn, if_pos c32, ↓reduceIte], rfl⟩)
      · exact absurd hr2 (by omega)
    | succ d2 ih2 =>
      intro i  hr2 hf
      refine jg_iload_n cx dX1_firstFault_2 rfl ?_
      refine jg_aload_n cx dX1_firstFault_3 rfl ?_
      refine jg_getU cx jp_pad_o rfl inX1 1 (by decide) f15 rfl dX1_firstFault_4 ?_
      rw [hn]
      refine jg_icmpN_ge cx (tgt := 26) dX1_firstFault_7 (by decide) (by omega) (by omega) (fun c7 => ?_) (fun c7 => ?_)
      · exact absurd hr2 (by omega)
      · refine jg_aload_n cx dX1_firstFault_10 rfl ?_
        refine jg_iload_n cx dX1_firstFault_11 rfl ?_
        refine jg_callVi cx (n := 1) (jc_X1_canStand E l (by omega)) gX1_firstFault_X1_canStand rfl ⟨rfl, rfl⟩ ⟨(Nat.le_of_ble_eq_true rfl), (Nat.le_of_ble_eq_true rfl)⟩ (by decide +kernel) jp_pad_o rfl rfl rfl (Nat.le_of_ble_eq_true rfl) dX1_firstFault_12 ?_
        refine jg_ifb_ne cx (tgt := 20) dX1_firstFault_15 (by decide) (fun c15 => ?_) (fun c15 => ?_)
        · refine jg_iincN cx (d := 1) (lv' := [(0, _), (1, _)]) dX1_firstFault_20 rfl (by decide) (by decide) rfl ?_
          refine jg_goto cx (tgt := 2) dX1_firstFault_23 (by decide) ?_
          exact jg_to (ih2 (i + 1)  (by omega) (by rw [← hf]; simp only [jf_ffd, c15, ↓reduceIte])) rfl rfl rfl
        · refine jg_iload_n cx dX1_firstFault_18 rfl ?_
          exact jg_iret cx dX1_firstFault_19 (⟨by rw [← hf]; simp only [jf_ffd, c15, ↓reduceIte, Bool.false_eq_true], rfl⟩)
  exact jg_to (lp2 n 0  (by omega) rfl) rfl rfl rfl
end
section
/-! ===== the contracts over any heap; JobSpread ===== -/
theorem jc_X0_joins_h (E : jp_E) (l : Launch) {b : Nat} {h : jp_H} (hb : jp_net b) {a c : Nat} (ha : a < 8) (hc : c < 8) : jc_M E l yX0_joins wsX0_joins ({ frames := 1, cells := 0, slots := 0, locals := 21 } : Room) [.ref (E.2.1 b 0), .int (nI a), .int (nI c)] h (jp_R (some (.int (jp_b (jf_joins (h.1 b) a c)))) h) := by
  have t9 := jc_X0_joins E l (h := h) (N := h.1 b) (L := h.2 b) hb ha hc
  rw [jp_u_self] at t9
  exact t9
theorem jc_X0_lift_h (E : jp_E) (l : Launch) {b : Nat} {h : jp_H} (hb : jp_net b) {a c : Nat} (ha : a < 8) (hc : c < 8) : jc_M E l yX0_lift wsX0_lift ({ frames := 2, cells := 0, slots := 0, locals := 43 } : Room) [.ref (E.2.1 b 0), .int (nI a), .int (nI c)] h (jp_R none (jp_u h b (jf_lift (h.1 b) a c) (h.2 b))) := by
  have t9 := jc_X0_lift E l (h := h) (N := h.1 b) (L := h.2 b) hb ha hc
  rw [jp_u_self] at t9
  exact t9
theorem jc_X0_lay_h (E : jp_E) (l : Launch) {b : Nat} {h : jp_H} (hb : jp_net b) {a c : Nat} {k : Int32} (ha : a < 8) (hc : c < 8) : jc_M E l yX0_lay wsX0_lay ({ frames := 3, cells := 0, slots := 0, locals := 65 } : Room) [.ref (E.2.1 b 0), .int (nI a), .int (nI c), .int k] h (jp_R none (jp_u h b (jf_lay (h.1 b) a c k) (h.2 b))) := by
  have t9 := jc_X0_lay E l (h := h) (N := h.1 b) (L := h.2 b) (k := k) hb ha hc
  rw [jp_u_self] at t9
  exact t9
theorem jc_X0_liftAll_h (E : jp_E) (l : Launch) {b : Nat} {h : jp_H} (hb : jp_net b) : jc_M E l yX0_liftAll wsX0_liftAll ({ frames := 3, cells := 0, slots := 0, locals := 65 } : Room) [.ref (E.2.1 b 0)] h (jp_R none (jp_u h b (jf_liftAll (h.1 b)) (h.2 b))) := by
  have t9 := jc_X0_liftAll E l (h := h) (N := h.1 b) (L := h.2 b) hb
  rw [jp_u_self] at t9
  exact t9
theorem jc_X0_goOn_h (E : jp_E) (l : Launch) {b : Nat} {h : jp_H} (hb : jp_net b) {ru : Int32} {k : Nat} (hk : k < 2 ^ 31) : jc_M E l yX0_goOn wsX0_goOn ({ frames := 4, cells := 0, slots := 0, locals := 95 } : Room) [.ref (E.2.1 b 0), .int ru, .int (nI k)] h (jp_R (some (.int ((jf_go ru (h.1 b) k).2))) (jp_u h b ((jf_go ru (h.1 b) k).1) (h.2 b))) := by
  have t9 := jc_X0_goOn E l (h := h) (N := h.1 b) (L := h.2 b) (ru := ru) hb hk
  rw [jp_u_self] at t9
  exact t9
theorem jc_X0_startAgain_h (E : jp_E) (l : Launch) {b : Nat} {h : jp_H} (hb : jp_net b) : jc_M E l yX0_startAgain wsX0_startAgain ({ frames := 0, cells := 0, slots := 0, locals := 0 } : Room) [.ref (E.2.1 b 0)] h (jp_R none (jp_u h b (jf_again (h.1 b)) (h.2 b))) := by
  have t9 := jc_X0_startAgain E l (h := h) (N := h.1 b) (L := h.2 b) hb
  rw [jp_u_self] at t9
  exact t9
theorem jc_X0_mostLoaded_h (E : jp_E) (l : Launch) {b : Nat} {h : jp_H} (hb : jp_net b) : jc_M E l yX0_mostLoaded wsX0_mostLoaded ({ frames := 1, cells := 0, slots := 0, locals := 22 } : Room) [.ref (E.2.1 b 0)] h (jp_R (some (.int (nI (jf_hi (h.1 b) 7)))) h) := by
  have t9 := jc_X0_mostLoaded E l (h := h) (N := h.1 b) (L := h.2 b) hb
  rw [jp_u_self] at t9
  exact t9
theorem jc_X0_leastLoaded_h (E : jp_E) (l : Launch) {b : Nat} {h : jp_H} (hb : jp_net b) : jc_M E l yX0_leastLoaded wsX0_leastLoaded ({ frames := 1, cells := 0, slots := 0, locals := 22 } : Room) [.ref (E.2.1 b 0)] h (jp_R (some (.int (nI (jf_lo (h.1 b) 7)))) h) := by
  have t9 := jc_X0_leastLoaded E l (h := h) (N := h.1 b) (L := h.2 b) hb
  rw [jp_u_self] at t9
  exact t9
theorem jc_X0_loadGap_h (E : jp_E) (l : Launch) {b : Nat} {h : jp_H} (hb : jp_net b) {i j : Nat} (hi : i < 8) (hj : j < 8) : jc_M E l yX0_loadGap wsX0_loadGap ({ frames := 0, cells := 0, slots := 0, locals := 0 } : Room) [.ref (E.2.1 b 0), .int (nI i), .int (nI j)] h (jp_R (some (.long (jf_gap (h.1 b) i j))) h) := by
  have t9 := jc_X0_loadGap E l (h := h) (N := h.1 b) (L := h.2 b) hb hi hj
  rw [jp_u_self] at t9
  exact t9
theorem jc_X0_allJobs_h (E : jp_E) (l : Launch) {b : Nat} {h : jp_H} (hb : jp_net b) : jc_M E l yX0_allJobs wsX0_allJobs ({ frames := 0, cells := 0, slots := 0, locals := 0 } : Room) [.ref (E.2.1 b 0)] h (jp_R (some (.long (jf_sumJ (h.1 b) 8))) h) := by
  have t9 := jc_X0_allJobs E l (h := h) (N := h.1 b) (L := h.2 b) hb
  rw [jp_u_self] at t9
  exact t9
theorem jc_X0_allSpeeds_h (E : jp_E) (l : Launch) {b : Nat} {h : jp_H} (hb : jp_net b) : jc_M E l yX0_allSpeeds wsX0_allSpeeds ({ frames := 0, cells := 0, slots := 0, locals := 0 } : Room) [.ref (E.2.1 b 0)] h (jp_R (some (.int (jf_sumS (h.1 b) 8))) h) := by
  have t9 := jc_X0_allSpeeds E l (h := h) (N := h.1 b) (L := h.2 b) hb
  rw [jp_u_self] at t9
  exact t9
theorem jc_X0_nodesBelowZero_h (E : jp_E) (l : Launch) {b : Nat} {h : jp_H} (hb : jp_net b) : jc_M E l yX0_nodesBelowZero wsX0_nodesBelowZero ({ frames := 0, cells := 0, slots := 0, locals := 0 } : Room) [.ref (E.2.1 b 0)] h (jp_R (some (.int (jf_below (h.1 b) 8))) h) := by
  have t9 := jc_X0_nodesBelowZero E l (h := h) (N := h.1 b) (L := h.2 b) hb
  rw [jp_u_self] at t9
  exact t9
theorem jc_X0_measure_h (E : jp_E) (l : Launch) {b : Nat} {h : jp_H} (hb : jp_net b) : jc_M E l yX0_measure wsX0_measure ({ frames := 1, cells := 0, slots := 0, locals := 21 } : Room) [.ref (E.2.1 b 0)] h (jp_R (some (.int (jf_measure (h.1 b)))) h) := by
  have t9 := jc_X0_measure E l (h := h) (N := h.1 b) (L := h.2 b) hb
  rw [jp_u_self] at t9
  exact t9
theorem jc_X0_become_h (E : jp_E) (l : Launch) {b : Nat} {h : jp_H} (hb : jp_net b) {b2 : Nat} (hb2 : jp_net b2) (hne : b2 ≠ b) : jc_M E l yX0_become wsX0_become ({ frames := 1, cells := 0, slots := 0, locals := 40 } : Room) [.ref (E.2.1 b 0), .ref (E.2.1 b2 0)] h (jp_R none (jp_u h b (jf_become (h.1 b2) (h.1 b)) (h.2 b))) := by
  have t9 := jc_X0_become E l (h := h) (N := h.1 b) (L := h.2 b) hb hb2 hne
  rw [jp_u_self] at t9
  exact t9
theorem jc_X1_add_h (E : jp_E) (l : Launch) {h : jp_H} {n : Nat} {sg : Int32} (hn : h.1 1 0 1 = nI n) (hn40 : n < 40) : jc_M E l yX1_add wsX1_add ({ frames := 0, cells := 0, slots := 0, locals := 0 } : Room) [.ref (E.2.1 1 0), .int sg] h (jp_R none (jp_u h 1 (jf_add (h.1 1) n sg) (h.2 1))) := by
  have t9 := jc_X1_add E l (h := h) (N := h.1 1) (L := h.2 1) (sg := sg) hn hn40
  rw [jp_u_self] at t9
  exact t9
theorem jc_X1_firstFault_h (E : jp_E) (l : Launch) {h : jp_H} {n : Nat} (hn : h.1 1 0 1 = nI n) (hn40 : n ≤ 40) : jc_M E l yX1_firstFault wsX1_firstFault ({ frames := 3, cells := 0, slots := 0, locals := 65 } : Room) [.ref (E.2.1 1 0)] h (jp_R (some (.int (jf_ff (h.1 1) n))) h) := by
  have t9 := jc_X1_firstFault E l (h := h) (N := h.1 1) (L := h.2 1) hn hn40
  rw [jp_u_self] at t9
  exact t9
theorem jf_within_of {x : Int32} {m : Nat} (hm : m < 2 ^ 31) (h : jf_within x (nI 0) (nI m) = true) : ∃ i, i ≤ m ∧ x = nI i := by
  unfold jf_within at h
  split at h
  · cases h
  · next q1 =>
    split at h
    · cases h
    · next q2 =>
      have q3 : ¬ x < 0 := q1
      obtain ⟨j, hj, rfl⟩ := nI_of q3
      refine ⟨j, ?_, rfl⟩
      have q4 : ¬ m < j := fun q => q2 ((nI_ltI hm hj).mpr q)
      omega
theorem jf_within_lo {x : Int32} {lo m : Nat} (hl : lo < 2 ^ 31) (hm : m < 2 ^ 31) (h : jf_within x (nI lo) (nI m) = true) : ∃ i, lo ≤ i ∧ i ≤ m ∧ x = nI i := by
  unfold jf_within at h
  split at h
  · cases h
  · next q1 =>
    split at h
    · cases h
    · next q2 =>
      have q3 : ¬ x < 0 := fun q => q1 (by
        rw [Int32.lt_iff_toInt_lt] at q ⊢
        rw [nI_toInt hl]
        rw [Int32.toInt_zero] at q
        omega)
      obtain ⟨j, hj, rfl⟩ := nI_of q3
      refine ⟨j, ?_, ?_, rfl⟩
      · have q4 : ¬ j < lo := fun q => q1 ((nI_ltI hj hl).mpr q)
        omega
      · have q4 : ¬ m < j := fun q => q2 ((nI_ltI hm hj).mpr q)
        omega
theorem jf_node_of {x : Int32} (h : jf_within x (nI 0) (nI 7) = true) : ∃ i, i < 8 ∧ x = nI i := by
  obtain ⟨i, h1, h2⟩ := jf_within_of (by decide) h
  exact ⟨i, by omega, h2⟩
def jF_node (x s j : Int32) (h : jp_H) : Int32 × jp_H :=
  if jf_within x (nI 0) (nI 7) then
    (if jf_within s (nI 1) (nI 4) then
      (if jf_within j (nI 0) (nI 999) then (h.1 2 2 x.toNatClampNeg + nI 10000, jp_s (jp_s h 2 1 x.toNatClampNeg s) 2 2 x.toNatClampNeg j) else (-2, h))
    else (-2, h))
  else (-1, h)
set_option maxHeartbeats 1000000 in
set_option maxRecDepth 100000 in
theorem jc_X2_node (E : jp_E) (l : Launch) {h : jp_H} {x s j : Int32} : jc_M E l yX2_node wsX2_node ({ frames := 2, cells := 0, slots := 0, locals := 42 } : Room) [.ref (E.2.1 0 0), .int x, .int s, .int j] h (jp_R (some (.int (jF_node x s j h).1)) (jF_node x s j h).2) := by
  refine jc_of (cc := cX2_node) (maxL := 5) (ret := some .int) (own := RX2) (lv := [(0, _), (1, _), (2, _), (3, _)]) (by decide) rfl rfl (Nat.le_of_ble_eq_true rfl) rfl (fun X cx => ?_)
  have inX0 : ∀ w ∈ u_ws RX0 TX0 9, w ∈ wsX2_node := by decide +kernel
  have inX2 : ∀ w ∈ u_ws RX2 TX2 9, w ∈ wsX2_node := by decide +kernel
  have f19 : Cond.fieldLink RX2 19 "JobSpread" "now" "LJobSpread$Net;" ∈ wsX2_node := by decide +kernel
  refine jg_iload_n cx dX2_node_0 rfl ?_
  refine jg_callSi cx (n := 1) (jc_X2_isNode E l) gX2_node_X2_isNode rfl ⟨rfl, rfl⟩ ⟨(Nat.le_of_ble_eq_true rfl), (Nat.le_of_ble_eq_true rfl)⟩ (by decide +kernel) rfl rfl (Nat.le_of_ble_eq_true rfl) dX2_node_1 ?_
  refine jg_ifb_ne cx (tgt := 9) dX2_node_4 (by decide) (fun c4 => ?_) (fun c4 => ?_)
  · obtain ⟨i, hi, rfl⟩ := jf_node_of c4
    have ei : (nI i).toNatClampNeg = i := nI_clamp (by omega)
    refine jg_iload_n cx dX2_node_9 rfl ?_
    refine jg_iconst cx (v := nI 1) dX2_node_10 (by decide) ?_
    refine jg_iconst cx (v := nI 4) dX2_node_11 (by decide) ?_
    refine jg_callSi cx (n := 3) (jc_X2_isWithin E l) gX2_node_X2_isWithin rfl ⟨rfl, rfl⟩ ⟨(Nat.le_of_ble_eq_true rfl), (Nat.le_of_ble_eq_true rfl)⟩ (by decide +kernel) rfl rfl (Nat.le_of_ble_eq_true rfl) dX2_node_12 ?_
    refine jg_ifb_eq cx (tgt := 29) dX2_node_15 (by decide) (fun c15 => ?_) (fun c15 => ?_)
    · refine jg_bipush cx (v := (-2)) dX2_node_29 (by decide) ?_
      exact jg_iret cx dX2_node_31 (⟨(by first | with_reducible rfl | (simp only [jF_node, c4, c15, ↓reduceIte, Bool.false_eq_true, Bool.true_eq_false, reduceCtorEq, eq_self, if_true, if_false, Bool.not_true, Bool.not_false]; first | done | rfl)), (by first | with_reducible rfl | (simp only [jF_node, c4, c15, ↓reduceIte, Bool.false_eq_true, Bool.true_eq_false, reduceCtorEq, eq_self, if_true, if_false, Bool.not_true, Bool.not_false]; first | done | rfl))⟩)
    · refine jg_iload_n cx dX2_node_18 rfl ?_
      refine jg_iconst cx (v := nI 0) dX2_node_19 (by decide) ?_
      refine jg_sipush cx (v := nI 999) dX2_node_20 (by decide) ?_
      refine jg_callSi cx (n := 3) (jc_X2_isWithin E l) gX2_node_X2_isWithin rfl ⟨rfl, rfl⟩ ⟨(Nat.le_of_ble_eq_true rfl), (Nat.le_of_ble_eq_true rfl)⟩ (by decide +kernel) rfl rfl (Nat.le_of_ble_eq_true rfl) dX2_node_23 ?_
      refine jg_ifb_ne cx (tgt := 32) dX2_node_26 (by decide) (fun c26 => ?_) (fun c26 => ?_)
      · refine jg_aload_n cx dX2_node_32 rfl ?_
        refine jg_get cx jp_js_o rfl inX2 1 (by decide) f19 rfl dX2_node_33 ?_
        refine jg_getN cx (jp_net_o jp_net2) rfl inX0 1 (by decide) (by decide +kernel) rfl dX2_node_36 ?_
        refine jg_iload_n cx dX2_node_39 rfl ?_
        refine jg_iald cx dX2_node_40 ((jp_net_2 jp_net2)) rfl (by omega) ?_
        refine jg_istore cx (lv' := [(0, _), (1, _), (2, _), (3, _), (4, _)]) dX2_node_41 (by decide) rfl ?_
        refine jg_aload_n cx dX2_node_43 rfl ?_
        refine jg_get cx jp_js_o rfl inX2 1 (by decide) f19 rfl dX2_node_44 ?_
        refine jg_getN cx (jp_net_o jp_net2) rfl inX0 0 (by decide) (by decide +kernel) rfl dX2_node_47 ?_
        refine jg_iload_n cx dX2_node_50 rfl ?_
        refine jg_iload_n cx dX2_node_51 rfl ?_
        refine jg_iast cx dX2_node_52 ((jp_net_1 jp_net2)) rfl (by omega) ?_
        refine jg_aload_n cx dX2_node_53 rfl ?_
        refine jg_get cx jp_js_o rfl inX2 1 (by decide) f19 rfl dX2_node_54 ?_
        refine jg_getN cx (jp_net_o jp_net2) rfl inX0 1 (by decide) (by decide +kernel) rfl dX2_node_57 ?_
        refine jg_iload_n cx dX2_node_60 rfl ?_
        refine jg_iload_n cx dX2_node_61 rfl ?_
        refine jg_iast cx dX2_node_62 ((jp_net_2 jp_net2)) rfl (by omega) ?_
        refine jg_iload cx dX2_node_63 rfl ?_
        refine jg_sipush cx (v := nI 10000) dX2_node_65 (by decide) ?_
        refine jg_iadd cx dX2_node_68 ?_
        exact jg_iret cx dX2_node_69 (⟨(by first | with_reducible rfl | (simp only [jF_node, ei, c4, c15, c26, ↓reduceIte, Bool.false_eq_true, Bool.true_eq_false, reduceCtorEq, eq_self, if_true, if_false, Bool.not_true, Bool.not_false]; first | done | rfl)), (by first | with_reducible rfl | (simp only [jF_node, ei, c4, c15, c26, ↓reduceIte, Bool.false_eq_true, Bool.true_eq_false, reduceCtorEq, eq_self, if_true, if_false, Bool.not_true, Bool.not_false]; first | done | rfl))⟩)
      · refine jg_bipush cx (v := (-2)) dX2_node_29 (by decide) ?_
        exact jg_iret cx dX2_node_31 (⟨(by first | with_reducible rfl | (simp only [jF_node, c4, c15, c26, ↓reduceIte, Bool.false_eq_true, Bool.true_eq_false, reduceCtorEq, eq_self, if_true, if_false, Bool.not_true, Bool.not_false]; first | done | rfl)), (by first | with_reducible rfl | (simp only [jF_node, c4, c15, c26, ↓reduceIte, Bool.false_eq_true, Bool.true_eq_false, reduceCtorEq, eq_self, if_true, if_false, Bool.not_true, Bool.not_false]; first | done | rfl))⟩)
  · refine jg_iconst cx (v := (-1)) dX2_node_7 (by decide) ?_
    exact jg_iret cx dX2_node_8 (⟨(by first | with_reducible rfl | (simp only [jF_node, c4, ↓reduceIte, Bool.false_eq_true, Bool.true_eq_false, reduceCtorEq, eq_self, if_true, if_false, Bool.not_true, Bool.not_false]; first | done | rfl)), (by first | with_reducible rfl | (simp only [jF_node, c4, ↓reduceIte, Bool.false_eq_true, Bool.true_eq_false, reduceCtorEq, eq_self, if_true, if_false, Bool.not_true, Bool.not_false]; first | done | rfl))⟩)
def jF_edge (x y k : Int32) (h : jp_H) : Int32 × jp_H :=
  if jf_within x (nI 0) (nI 7) then
    (if jf_within y (nI 0) (nI 7) then
      (if x = y then (-2, h) else
        (if jf_within k (-1) (nI 3) then
          (if k = -1 then ((jp_u h 2 (jf_lift (h.1 2) x.toNatClampNeg y.toNatClampNeg) (h.2 2)).1 2 0 7, jp_u h 2 (jf_lift (h.1 2) x.toNatClampNeg y.toNatClampNeg) (h.2 2))
          else (if jf_joins (h.1 2) x.toNatClampNeg y.toNatClampNeg then ((jp_u h 2 (jf_lay (h.1 2) x.toNatClampNeg y.toNatClampNeg k) (h.2 2)).1 2 0 7, jp_u h 2 (jf_lay (h.1 2) x.toNatClampNeg y.toNatClampNeg k) (h.2 2))
            else (if h.1 2 0 7 < nI 12 then ((jp_u h 2 (jf_lay (h.1 2) x.toNatClampNeg y.toNatClampNeg k) (h.2 2)).1 2 0 7, jp_u h 2 (jf_lay (h.1 2) x.toNatClampNeg y.toNatClampNeg k) (h.2 2)) else (-4, h))))
        else (-2, h)))
    else (-1, h))
  else (-1, h)
set_option maxHeartbeats 1000000 in
set_option maxRecDepth 100000 in
theorem jc_X2_edge (E : jp_E) (l : Launch) {h : jp_H} {x y k : Int32} : jc_M E l yX2_edge wsX2_edge ({ frames := 4, cells := 0, slots := 0, locals := 88 } : Room) [.ref (E.2.1 0 0), .int x, .int y, .int k] h (jp_R (some (.int (jF_edge x y k h).1)) (jF_edge x y k h).2) := by
  refine jc_of (cc := cX2_edge) (maxL := 4) (ret := some .int) (own := RX2) (lv := [(0, _), (1, _), (2, _), (3, _)]) (by decide) rfl rfl (Nat.le_of_ble_eq_true rfl) rfl (fun X cx => ?_)
  have inX0 : ∀ w ∈ u_ws RX0 TX0 9, w ∈ wsX2_edge := by decide +kernel
  have inX2 : ∀ w ∈ u_ws RX2 TX2 9, w ∈ wsX2_edge := by decide +kernel
  have f19 : Cond.fieldLink RX2 19 "JobSpread" "now" "LJobSpread$Net;" ∈ wsX2_edge := by decide +kernel
  refine jg_iload_n cx dX2_edge_0 rfl ?_
  refine jg_callSi cx (n := 1) (jc_X2_isNode E l) gX2_edge_X2_isNode rfl ⟨rfl, rfl⟩ ⟨(Nat.le_of_ble_eq_true rfl), (Nat.le_of_ble_eq_true rfl)⟩ (by decide +kernel) rfl rfl (Nat.le_of_ble_eq_true rfl) dX2_edge_1 ?_
  refine jg_ifb_eq cx (tgt := 14) dX2_edge_4 (by decide) (fun c4 => ?_) (fun c4 => ?_)
  · refine jg_iconst cx (v := (-1)) dX2_edge_14 (by decide) ?_
    exact jg_iret cx dX2_edge_15 (⟨(by first | with_reducible rfl | (simp only [jF_edge, c4, ↓reduceIte, Bool.false_eq_true, Bool.true_eq_false, reduceCtorEq, eq_self, if_true, if_false, Bool.not_true, Bool.not_false]; first | done | rfl)), (by first | with_reducible rfl | (simp only [jF_edge, c4, ↓reduceIte, Bool.false_eq_true, Bool.true_eq_false, reduceCtorEq, eq_self, if_true, if_false, Bool.not_true, Bool.not_false]; first | done | rfl))⟩)
  · obtain ⟨a, ha, rfl⟩ := jf_node_of c4
    have ea : (nI a).toNatClampNeg = a := nI_clamp (by omega)
    refine jg_iload_n cx dX2_edge_7 rfl ?_
    refine jg_callSi cx (n := 1) (jc_X2_isNode E l) gX2_edge_X2_isNode rfl ⟨rfl, rfl⟩ ⟨(Nat.le_of_ble_eq_true rfl), (Nat.le_of_ble_eq_true rfl)⟩ (by decide +kernel) rfl rfl (Nat.le_of_ble_eq_true rfl) dX2_edge_8 ?_
    refine jg_ifb_ne cx (tgt := 16) dX2_edge_11 (by decide) (fun c11 => ?_) (fun c11 => ?_)
    · obtain ⟨c, hc, rfl⟩ := jf_node_of c11
      have ec : (nI c).toNatClampNeg = c := nI_clamp (by omega)
      refine jg_iload_n cx dX2_edge_16 rfl ?_
      refine jg_iload_n cx dX2_edge_17 rfl ?_
      refine jg_icmp_eq cx (tgt := 30) dX2_edge_18 (by decide) (fun c18 => ?_) (fun c18 => ?_)
      · refine jg_bipush cx (v := (-2)) dX2_edge_30 (by decide) ?_
        exact jg_iret cx dX2_edge_32 (⟨(by first | with_reducible rfl | (simp only [jF_edge, c4, c11, if_pos c18, ↓reduceIte, Bool.false_eq_true, Bool.true_eq_false, reduceCtorEq, eq_self, if_true, if_false, Bool.not_true, Bool.not_false]; first | done | rfl)), (by first | with_reducible rfl | (simp only [jF_edge, c4, c11, if_pos c18, ↓reduceIte, Bool.false_eq_true, Bool.true_eq_false, reduceCtorEq, eq_self, if_true, if_false, Bool.not_true, Bool.not_false]; first | done | rfl))⟩)
      · refine jg_iload_n cx dX2_edge_21 rfl ?_
        refine jg_iconst cx (v := (-1)) dX2_edge_22 (by decide) ?_
        refine jg_iconst cx (v := nI 3) dX2_edge_23 (by decide) ?_
        refine jg_callSi cx (n := 3) (jc_X2_isWithin E l) gX2_edge_X2_isWithin rfl ⟨rfl, rfl⟩ ⟨(Nat.le_of_ble_eq_true rfl), (Nat.le_of_ble_eq_true rfl)⟩ (by decide +kernel) rfl rfl (Nat.le_of_ble_eq_true rfl) dX2_edge_24 ?_
        refine jg_ifb_ne cx (tgt := 33) dX2_edge_27 (by decide) (fun c27 => ?_) (fun c27 => ?_)
        · refine jg_iload_n cx dX2_edge_33 rfl ?_
          refine jg_iconst cx (v := (-1)) dX2_edge_34 (by decide) ?_
          refine jg_icmp_ne cx (tgt := 55) dX2_edge_35 (by decide) (fun c35 => ?_) (fun c35 => ?_)
          · refine jg_aload_n cx dX2_edge_55 rfl ?_
            refine jg_get cx jp_js_o rfl inX2 1 (by decide) f19 rfl dX2_edge_56 ?_
            refine jg_iload_n cx dX2_edge_59 rfl ?_
            refine jg_iload_n cx dX2_edge_60 rfl ?_
            refine jg_callVNi cx (n := 2) (jc_X0_joins_h E l jp_net2 (by omega) (by omega)) gX2_edge_X0_joins_n68 (by decide +kernel) (by decide +kernel) (by decide +kernel) (by decide +kernel) rfl ⟨rfl, rfl⟩ ⟨(Nat.le_of_ble_eq_true rfl), (Nat.le_of_ble_eq_true rfl)⟩ (by decide +kernel) (jp_net_o jp_net2) rfl rfl rfl (Nat.le_of_ble_eq_true rfl) dX2_edge_61 ?_
            refine jg_ifb_ne cx (tgt := 82) dX2_edge_64 (by decide) (fun c64 => ?_) (fun c64 => ?_)
            · refine jg_aload_n cx dX2_edge_82 rfl ?_
              refine jg_get cx jp_js_o rfl inX2 1 (by decide) f19 rfl dX2_edge_83 ?_
              refine jg_iload_n cx dX2_edge_86 rfl ?_
              refine jg_iload_n cx dX2_edge_87 rfl ?_
              refine jg_iload_n cx dX2_edge_88 rfl ?_
              refine jg_callVNv cx (n := 3) (jc_X0_lay_h E l jp_net2 (by omega) (by omega)) gX2_edge_X0_lay_n72 (by decide +kernel) (by decide +kernel) (by decide +kernel) (by decide +kernel) rfl ⟨rfl, rfl⟩ ⟨(Nat.le_of_ble_eq_true rfl), (Nat.le_of_ble_eq_true rfl)⟩ (by decide +kernel) (jp_net_o jp_net2) rfl rfl rfl (Nat.le_of_ble_eq_true rfl) dX2_edge_89 ?_
              refine jg_aload_n cx dX2_edge_92 rfl ?_
              refine jg_get cx jp_js_o rfl inX2 1 (by decide) f19 rfl dX2_edge_93 ?_
              refine jg_getN cx (jp_net_o jp_net2) rfl inX0 7 (by decide) (by decide +kernel) rfl dX2_edge_96 ?_
              exact jg_iret cx dX2_edge_99 (⟨(by first | with_reducible rfl | (simp only [jF_edge, ea, ec, c4, c11, if_neg c18, c27, if_neg c35, c64, ↓reduceIte, Bool.false_eq_true, Bool.true_eq_false, reduceCtorEq, eq_self, if_true, if_false, Bool.not_true, Bool.not_false]; first | done | rfl)), (by first | with_reducible rfl | (simp only [jF_edge, ea, ec, c4, c11, if_neg c18, c27, if_neg c35, c64, ↓reduceIte, Bool.false_eq_true, Bool.true_eq_false, reduceCtorEq, eq_self, if_true, if_false, Bool.not_true, Bool.not_false]; first | done | rfl))⟩)
            · refine jg_aload_n cx dX2_edge_67 rfl ?_
              refine jg_get cx jp_js_o rfl inX2 1 (by decide) f19 rfl dX2_edge_68 ?_
              refine jg_getN cx (jp_net_o jp_net2) rfl inX0 7 (by decide) (by decide +kernel) rfl dX2_edge_71 ?_
              refine jg_bipush cx (v := nI 12) dX2_edge_74 (by decide) ?_
              refine jg_icmp_lt cx (tgt := 82) dX2_edge_76 (by decide) (fun c76 => ?_) (fun c76 => ?_)
              · refine jg_aload_n cx dX2_edge_82 rfl ?_
                refine jg_get cx jp_js_o rfl inX2 1 (by decide) f19 rfl dX2_edge_83 ?_
                refine jg_iload_n cx dX2_edge_86 rfl ?_
                refine jg_iload_n cx dX2_edge_87 rfl ?_
                refine jg_iload_n cx dX2_edge_88 rfl ?_
                refine jg_callVNv cx (n := 3) (jc_X0_lay_h E l jp_net2 (by omega) (by omega)) gX2_edge_X0_lay_n72 (by decide +kernel) (by decide +kernel) (by decide +kernel) (by decide +kernel) rfl ⟨rfl, rfl⟩ ⟨(Nat.le_of_ble_eq_true rfl), (Nat.le_of_ble_eq_true rfl)⟩ (by decide +kernel) (jp_net_o jp_net2) rfl rfl rfl (Nat.le_of_ble_eq_true rfl) dX2_edge_89 ?_
                refine jg_aload_n cx dX2_edge_92 rfl ?_
                refine jg_get cx jp_js_o rfl inX2 1 (by decide) f19 rfl dX2_edge_93 ?_
                refine jg_getN cx (jp_net_o jp_net2) rfl inX0 7 (by decide) (by decide +kernel) rfl dX2_edge_96 ?_
                exact jg_iret cx dX2_edge_99 (⟨(by first | with_reducible rfl | (simp only [jF_edge, ea, ec, c4, c11, if_neg c18, c27, if_neg c35, c64, if_pos c76, ↓reduceIte, Bool.false_eq_true, Bool.true_eq_false, reduceCtorEq, eq_self, if_true, if_false, Bool.not_true, Bool.not_false]; first | done | rfl)), (by first | with_reducible rfl | (simp only [jF_edge, ea, ec, c4, c11, if_neg c18, c27, if_neg c35, c64, if_pos c76, ↓reduceIte, Bool.false_eq_true, Bool.true_eq_false, reduceCtorEq, eq_self, if_true, if_false, Bool.not_true, Bool.not_false]; first | done | rfl))⟩)
              · refine jg_bipush cx (v := (-4)) dX2_edge_79 (by decide) ?_
                exact jg_iret cx dX2_edge_81 (⟨(by first | with_reducible rfl | (simp only [jF_edge, ea, ec, c4, c11, if_neg c18, c27, if_neg c35, c64, if_neg c76, ↓reduceIte, Bool.false_eq_true, Bool.true_eq_false, reduceCtorEq, eq_self, if_true, if_false, Bool.not_true, Bool.not_false]; first | done | rfl)), (by first | with_reducible rfl | (simp only [jF_edge, ea, ec, c4, c11, if_neg c18, c27, if_neg c35, c64, if_neg c76, ↓reduceIte, Bool.false_eq_true, Bool.true_eq_false, reduceCtorEq, eq_self, if_true, if_false, Bool.not_true, Bool.not_false]; first | done | rfl))⟩)
          · refine jg_aload_n cx dX2_edge_38 rfl ?_
            refine jg_get cx jp_js_o rfl inX2 1 (by decide) f19 rfl dX2_edge_39 ?_
            refine jg_iload_n cx dX2_edge_42 rfl ?_
            refine jg_iload_n cx dX2_edge_43 rfl ?_
            refine jg_callVNv cx (n := 2) (jc_X0_lift_h E l jp_net2 (by omega) (by omega)) gX2_edge_X0_lift_n61 (by decide +kernel) (by decide +kernel) (by decide +kernel) (by decide +kernel) rfl ⟨rfl, rfl⟩ ⟨(Nat.le_of_ble_eq_true rfl), (Nat.le_of_ble_eq_true rfl)⟩ (by decide +kernel) (jp_net_o jp_net2) rfl rfl rfl (Nat.le_of_ble_eq_true rfl) dX2_edge_44 ?_
            refine jg_aload_n cx dX2_edge_47 rfl ?_
            refine jg_get cx jp_js_o rfl inX2 1 (by decide) f19 rfl dX2_edge_48 ?_
            refine jg_getN cx (jp_net_o jp_net2) rfl inX0 7 (by decide) (by decide +kernel) rfl dX2_edge_51 ?_
            exact jg_iret cx dX2_edge_54 (⟨(by first | with_reducible rfl | (simp only [jF_edge, ea, ec, c4, c11, if_neg c18, c27, if_pos c35, ↓reduceIte, Bool.false_eq_true, Bool.true_eq_false, reduceCtorEq, eq_self, if_true, if_false, Bool.not_true, Bool.not_false]; first | done | rfl)), (by first | with_reducible rfl | (simp only [jF_edge, ea, ec, c4, c11, if_neg c18, c27, if_pos c35, ↓reduceIte, Bool.false_eq_true, Bool.true_eq_false, reduceCtorEq, eq_self, if_true, if_false, Bool.not_true, Bool.not_false]; first | done | rfl))⟩)
        · refine jg_bipush cx (v := (-2)) dX2_edge_30 (by decide) ?_
          exact jg_iret cx dX2_edge_32 (⟨(by first | with_reducible rfl | (simp only [jF_edge, c4, c11, if_neg c18, c27, ↓reduceIte, Bool.false_eq_true, Bool.true_eq_false, reduceCtorEq, eq_self, if_true, if_false, Bool.not_true, Bool.not_false]; first | done | rfl)), (by first | with_reducible rfl | (simp only [jF_edge, c4, c11, if_neg c18, c27, ↓reduceIte, Bool.false_eq_true, Bool.true_eq_false, reduceCtorEq, eq_self, if_true, if_false, Bool.not_true, Bool.not_false]; first | done | rfl))⟩)
    · refine jg_iconst cx (v := (-1)) dX2_edge_14 (by decide) ?_
      exact jg_iret cx dX2_edge_15 (⟨(by first | with_reducible rfl | (simp only [jF_edge, c4, c11, ↓reduceIte, Bool.false_eq_true, Bool.true_eq_false, reduceCtorEq, eq_self, if_true, if_false, Bool.not_true, Bool.not_false]; first | done | rfl)), (by first | with_reducible rfl | (simp only [jF_edge, c4, c11, ↓reduceIte, Bool.false_eq_true, Bool.true_eq_false, reduceCtorEq, eq_self, if_true, if_false, Bool.not_true, Bool.not_false]; first | done | rfl))⟩)
def jF_say (sg : Int32) (n : Nat) (h : jp_H) : Int32 × jp_H :=
  if jf_within sg (nI 33) (nI 126) then
    (if n < 40 then ((jp_u h 1 (jf_add (h.1 1) n sg) (h.2 1)).1 1 0 1, jp_u h 1 (jf_add (h.1 1) n sg) (h.2 1)) else (-4, h))
  else (-2, h)
set_option maxHeartbeats 1000000 in
set_option maxRecDepth 100000 in
theorem jc_X2_say (E : jp_E) (l : Launch) {h : jp_H} {sg : Int32} {n : Nat} (hn : h.1 1 0 1 = nI n) (h40 : n ≤ 40) : jc_M E l yX2_say wsX2_say ({ frames := 1, cells := 0, slots := 0, locals := 22 } : Room) [.ref (E.2.1 0 0), .int sg] h (jp_R (some (.int (jF_say sg n h).1)) (jF_say sg n h).2) := by
  refine jc_of (cc := cX2_say) (maxL := 2) (ret := some .int) (own := RX2) (lv := [(0, _), (1, _)]) (by decide) rfl rfl (Nat.le_of_ble_eq_true rfl) rfl (fun X cx => ?_)
  have inX1 : ∀ w ∈ u_ws RX1 TX1 2, w ∈ wsX2_say := by decide +kernel
  have inX2 : ∀ w ∈ u_ws RX2 TX2 9, w ∈ wsX2_say := by decide +kernel
  have f10 : Cond.fieldLink RX2 10 "JobSpread" "pad" "LJobSpread$Pad;" ∈ wsX2_say := by decide +kernel
  refine jg_iload_n cx dX2_say_0 rfl ?_
  refine jg_bipush cx (v := nI 33) dX2_say_1 (by decide) ?_
  refine jg_bipush cx (v := nI 126) dX2_say_3 (by decide) ?_
  refine jg_callSi cx (n := 3) (jc_X2_isWithin E l) gX2_say_X2_isWithin rfl ⟨rfl, rfl⟩ ⟨(Nat.le_of_ble_eq_true rfl), (Nat.le_of_ble_eq_true rfl)⟩ (by decide +kernel) rfl rfl (Nat.le_of_ble_eq_true rfl) dX2_say_5 ?_
  refine jg_ifb_ne cx (tgt := 14) dX2_say_8 (by decide) (fun c8 => ?_) (fun c8 => ?_)
  · refine jg_aload_n cx dX2_say_14 rfl ?_
    refine jg_get cx jp_js_o rfl inX2 0 (by decide) f10 rfl dX2_say_15 ?_
    refine jg_getN cx jp_pad_o rfl inX1 1 (by decide) (by decide +kernel) rfl dX2_say_18 ?_
    rw [hn]
    refine jg_bipush cx (v := nI 40) dX2_say_21 (by decide) ?_
    refine jg_icmpN_lt cx (tgt := 29) dX2_say_23 (by decide) (by omega) (by omega) (fun c23 => ?_) (fun c23 => ?_)
    · refine jg_aload_n cx dX2_say_29 rfl ?_
      refine jg_get cx jp_js_o rfl inX2 0 (by decide) f10 rfl dX2_say_30 ?_
      refine jg_iload_n cx dX2_say_33 rfl ?_
      refine jg_callVNv cx (n := 1) (jc_X1_add_h E l hn c23) gX2_say_X1_add_n79 (by decide +kernel) (by decide +kernel) (by decide +kernel) (by decide +kernel) rfl ⟨rfl, rfl⟩ ⟨(Nat.le_of_ble_eq_true rfl), (Nat.le_of_ble_eq_true rfl)⟩ (by decide +kernel) jp_pad_o rfl rfl rfl (Nat.le_of_ble_eq_true rfl) dX2_say_34 ?_
      refine jg_aload_n cx dX2_say_37 rfl ?_
      refine jg_get cx jp_js_o rfl inX2 0 (by decide) f10 rfl dX2_say_38 ?_
      refine jg_getN cx jp_pad_o rfl inX1 1 (by decide) (by decide +kernel) rfl dX2_say_41 ?_
      exact jg_iret cx dX2_say_44 (⟨by simp only [jF_say, c8, if_pos c23, ↓reduceIte], by simp only [jF_say, c8, if_pos c23, ↓reduceIte]⟩)
    · refine jg_bipush cx (v := (-4)) dX2_say_26 (by decide) ?_
      exact jg_iret cx dX2_say_28 (⟨by simp only [jF_say, c8, if_neg (show ¬ n < 40 by omega), ↓reduceIte], by simp only [jF_say, c8, if_neg (show ¬ n < 40 by omega), ↓reduceIte]⟩)
  · refine jg_bipush cx (v := (-2)) dX2_say_11 (by decide) ?_
    exact jg_iret cx dX2_say_13 (⟨(by first | with_reducible rfl | (simp only [jF_say, c8, ↓reduceIte, Bool.false_eq_true, Bool.true_eq_false, reduceCtorEq, eq_self, if_true, if_false, Bool.not_true, Bool.not_false]; first | done | rfl)), (by first | with_reducible rfl | (simp only [jF_say, c8, ↓reduceIte, Bool.false_eq_true, Bool.true_eq_false, reduceCtorEq, eq_self, if_true, if_false, Bool.not_true, Bool.not_false]; first | done | rfl))⟩)
set_option maxHeartbeats 1000000 in
set_option maxRecDepth 100000 in
theorem jc_X2_wipe (E : jp_E) (l : Launch) {h : jp_H}  : jc_M E l yX2_wipe wsX2_wipe ({ frames := 0, cells := 0, slots := 0, locals := 0 } : Room) [.ref (E.2.1 0 0)] h (jp_R (some (.int (((h.1 1 0 1, jp_s h 1 0 1 (nI 0)) : Int32 × jp_H)).1)) (((h.1 1 0 1, jp_s h 1 0 1 (nI 0)) : Int32 × jp_H)).2) := by
  refine jc_of (cc := cX2_wipe) (maxL := 2) (ret := some .int) (own := RX2) (lv := [(0, _)]) (by decide) rfl rfl (Nat.le_of_ble_eq_true rfl) rfl (fun X cx => ?_)
  have inX1 : ∀ w ∈ u_ws RX1 TX1 2, w ∈ wsX2_wipe := by decide +kernel
  have inX2 : ∀ w ∈ u_ws RX2 TX2 9, w ∈ wsX2_wipe := by decide +kernel
  have f10 : Cond.fieldLink RX2 10 "JobSpread" "pad" "LJobSpread$Pad;" ∈ wsX2_wipe := by decide +kernel
  refine jg_aload_n cx dX2_wipe_0 rfl ?_
  refine jg_get cx jp_js_o rfl inX2 0 (by decide) f10 rfl dX2_wipe_1 ?_
  refine jg_getN cx jp_pad_o rfl inX1 1 (by decide) (by decide +kernel) rfl dX2_wipe_4 ?_
  refine jg_istore_n cx (lv' := [(0, _), (1, _)]) dX2_wipe_7 (by decide) rfl ?_
  refine jg_aload_n cx dX2_wipe_8 rfl ?_
  refine jg_get cx jp_js_o rfl inX2 0 (by decide) f10 rfl dX2_wipe_9 ?_
  refine jg_iconst cx (v := nI 0) dX2_wipe_12 (by decide) ?_
  refine jg_putN cx jp_pad_o rfl inX1 tyX1 tyX1_ok nmX1 1 (by decide) (by decide +kernel) rfl (by decide +kernel) (Nat.le_of_ble_eq_true rfl) (jp_put1_1 _ _ _) dX2_wipe_13 ?_
  refine jg_iload_n cx dX2_wipe_16 rfl ?_
  exact jg_iret cx dX2_wipe_17 (⟨rfl, rfl⟩)
set_option maxHeartbeats 1000000 in
set_option maxRecDepth 100000 in
theorem jc_X2_fault (E : jp_E) (l : Launch) {h : jp_H} {n : Nat} (hn : h.1 1 0 1 = nI n) (h40 : n ≤ 40) : jc_M E l yX2_fault wsX2_fault ({ frames := 4, cells := 0, slots := 0, locals := 86 } : Room) [.ref (E.2.1 0 0)] h (jp_R (some (.int (((jf_ff (h.1 1) n, h) : Int32 × jp_H)).1)) (((jf_ff (h.1 1) n, h) : Int32 × jp_H)).2) := by
  refine jc_of (cc := cX2_fault) (maxL := 1) (ret := some .int) (own := RX2) (lv := [(0, _)]) (by decide) rfl rfl (Nat.le_of_ble_eq_true rfl) rfl (fun X cx => ?_)
  have inX2 : ∀ w ∈ u_ws RX2 TX2 9, w ∈ wsX2_fault := by decide +kernel
  have f10 : Cond.fieldLink RX2 10 "JobSpread" "pad" "LJobSpread$Pad;" ∈ wsX2_fault := by decide +kernel
  refine jg_aload_n cx dX2_fault_0 rfl ?_
  refine jg_get cx jp_js_o rfl inX2 0 (by decide) f10 rfl dX2_fault_1 ?_
  refine jg_callVNi cx (n := 0) (jc_X1_firstFault_h E l hn h40) gX2_fault_X1_firstFault_n83 (by decide +kernel) (by decide +kernel) (by decide +kernel) (by decide +kernel) rfl ⟨rfl, rfl⟩ ⟨(Nat.le_of_ble_eq_true rfl), (Nat.le_of_ble_eq_true rfl)⟩ (by decide +kernel) jp_pad_o rfl rfl rfl (Nat.le_of_ble_eq_true rfl) dX2_fault_4 ?_
  exact jg_iret cx dX2_fault_7 (⟨rfl, rfl⟩)
def jF_jobs (x : Int32) (h : jp_H) : Int32 × jp_H := if jf_within x (nI 0) (nI 7) then (h.1 2 2 x.toNatClampNeg + nI 10000, h) else (-1, h)
set_option maxHeartbeats 1000000 in
set_option maxRecDepth 100000 in
theorem jc_X2_jobs (E : jp_E) (l : Launch) {h : jp_H} {x : Int32} : jc_M E l yX2_jobs wsX2_jobs ({ frames := 2, cells := 0, slots := 0, locals := 42 } : Room) [.ref (E.2.1 0 0), .int x] h (jp_R (some (.int (jF_jobs x h).1)) (jF_jobs x h).2) := by
  refine jc_of (cc := cX2_jobs) (maxL := 2) (ret := some .int) (own := RX2) (lv := [(0, _), (1, _)]) (by decide) rfl rfl (Nat.le_of_ble_eq_true rfl) rfl (fun X cx => ?_)
  have inX0 : ∀ w ∈ u_ws RX0 TX0 9, w ∈ wsX2_jobs := by decide +kernel
  have inX2 : ∀ w ∈ u_ws RX2 TX2 9, w ∈ wsX2_jobs := by decide +kernel
  have f19 : Cond.fieldLink RX2 19 "JobSpread" "now" "LJobSpread$Net;" ∈ wsX2_jobs := by decide +kernel
  refine jg_iload_n cx dX2_jobs_0 rfl ?_
  refine jg_callSi cx (n := 1) (jc_X2_isNode E l) gX2_jobs_X2_isNode rfl ⟨rfl, rfl⟩ ⟨(Nat.le_of_ble_eq_true rfl), (Nat.le_of_ble_eq_true rfl)⟩ (by decide +kernel) rfl rfl (Nat.le_of_ble_eq_true rfl) dX2_jobs_1 ?_
  refine jg_ifb_ne cx (tgt := 9) dX2_jobs_4 (by decide) (fun c4 => ?_) (fun c4 => ?_)
  · obtain ⟨i, hi, rfl⟩ := jf_node_of c4
    have ei : (nI i).toNatClampNeg = i := nI_clamp (by omega)
    refine jg_aload_n cx dX2_jobs_9 rfl ?_
    refine jg_get cx jp_js_o rfl inX2 1 (by decide) f19 rfl dX2_jobs_10 ?_
    refine jg_getN cx (jp_net_o jp_net2) rfl inX0 1 (by decide) (by decide +kernel) rfl dX2_jobs_13 ?_
    refine jg_iload_n cx dX2_jobs_16 rfl ?_
    refine jg_iald cx dX2_jobs_17 ((jp_net_2 jp_net2)) rfl (by omega) ?_
    refine jg_sipush cx (v := nI 10000) dX2_jobs_18 (by decide) ?_
    refine jg_iadd cx dX2_jobs_21 ?_
    exact jg_iret cx dX2_jobs_22 (⟨(by first | with_reducible rfl | (simp only [jF_jobs, ei, c4, ↓reduceIte, Bool.false_eq_true, Bool.true_eq_false, reduceCtorEq, eq_self, if_true, if_false, Bool.not_true, Bool.not_false]; first | done | rfl)), (by first | with_reducible rfl | (simp only [jF_jobs, ei, c4, ↓reduceIte, Bool.false_eq_true, Bool.true_eq_false, reduceCtorEq, eq_self, if_true, if_false, Bool.not_true, Bool.not_false]; first | done | rfl))⟩)
  · refine jg_iconst cx (v := (-1)) dX2_jobs_7 (by decide) ?_
    exact jg_iret cx dX2_jobs_8 (⟨(by first | with_reducible rfl | (simp only [jF_jobs, c4, ↓reduceIte, Bool.false_eq_true, Bool.true_eq_false, reduceCtorEq, eq_self, if_true, if_false, Bool.not_true, Bool.not_false]; first | done | rfl)), (by first | with_reducible rfl | (simp only [jF_jobs, c4, ↓reduceIte, Bool.false_eq_true, Bool.true_eq_false, reduceCtorEq, eq_self, if_true, if_false, Bool.not_true, Bool.not_false]; first | done | rfl))⟩)
def jF_toldC (i : Nat) (w : Int32) (h : jp_H) : Int32 × jp_H :=
  if jf_within w (nI 10) (nI 17) then
    (if jf_joins (h.1 2) i (w.toNatClampNeg - 10) then (h.1 2 5 (jf_spot i (w.toNatClampNeg - 10)), h) else (-6, h))
  else (-2, h)
set_option maxHeartbeats 1000000 in
set_option maxRecDepth 100000 in
theorem jc_X2_toldColour (E : jp_E) (l : Launch) {h : jp_H} {i : Nat} {w : Int32} (hi : i < 8) : jc_M E l yX2_toldColour wsX2_toldColour ({ frames := 2, cells := 0, slots := 0, locals := 43 } : Room) [.ref (E.2.1 0 0), .int (nI i), .int w] h (jp_R (some (.int (jF_toldC i w h).1)) (jF_toldC i w h).2) := by
  refine jc_of (cc := cX2_toldColour) (maxL := 4) (ret := some .int) (own := RX2) (lv := [(0, _), (1, _), (2, _)]) (by decide) rfl rfl (Nat.le_of_ble_eq_true rfl) rfl (fun X cx => ?_)
  have inX0 : ∀ w ∈ u_ws RX0 TX0 9, w ∈ wsX2_toldColour := by decide +kernel
  have inX2 : ∀ w ∈ u_ws RX2 TX2 9, w ∈ wsX2_toldColour := by decide +kernel
  have f19 : Cond.fieldLink RX2 19 "JobSpread" "now" "LJobSpread$Net;" ∈ wsX2_toldColour := by decide +kernel
  refine jg_iload_n cx dX2_toldColour_0 rfl ?_
  refine jg_bipush cx (v := nI 10) dX2_toldColour_1 (by decide) ?_
  refine jg_bipush cx (v := nI 17) dX2_toldColour_3 (by decide) ?_
  refine jg_callSi cx (n := 3) (jc_X2_isWithin E l) gX2_toldColour_X2_isWithin rfl ⟨rfl, rfl⟩ ⟨(Nat.le_of_ble_eq_true rfl), (Nat.le_of_ble_eq_true rfl)⟩ (by decide +kernel) rfl rfl (Nat.le_of_ble_eq_true rfl) dX2_toldColour_5 ?_
  refine jg_ifb_ne cx (tgt := 14) dX2_toldColour_8 (by decide) (fun c8 => ?_) (fun c8 => ?_)
  · obtain ⟨j, hj1, hj2, rfl⟩ := jf_within_lo (by decide) (by decide) c8
    have ej : (nI j).toNatClampNeg = j := nI_clamp (by omega)
    refine jg_iload_n cx dX2_toldColour_14 rfl ?_
    refine jg_bipush cx (v := nI 10) dX2_toldColour_15 (by decide) ?_
    refine jg_isubN cx dX2_toldColour_17 (by omega) ?_
    refine jg_istore_n cx (lv' := [(0, _), (1, _), (2, _), (3, _)]) dX2_toldColour_18 (by decide) rfl ?_
    refine jg_aload_n cx dX2_toldColour_19 rfl ?_
    refine jg_get cx jp_js_o rfl inX2 1 (by decide) f19 rfl dX2_toldColour_20 ?_
    refine jg_iload_n cx dX2_toldColour_23 rfl ?_
    refine jg_iload_n cx dX2_toldColour_24 rfl ?_
    refine jg_callVNi cx (n := 2) (jc_X0_joins_h E l jp_net2 (by omega) (by omega)) gX2_toldColour_X0_joins_n68 (by decide +kernel) (by decide +kernel) (by decide +kernel) (by decide +kernel) rfl ⟨rfl, rfl⟩ ⟨(Nat.le_of_ble_eq_true rfl), (Nat.le_of_ble_eq_true rfl)⟩ (by decide +kernel) (jp_net_o jp_net2) rfl rfl rfl (Nat.le_of_ble_eq_true rfl) dX2_toldColour_25 ?_
    refine jg_ifb_eq cx (tgt := 47) dX2_toldColour_28 (by decide) (fun c28 => ?_) (fun c28 => ?_)
    · refine jg_bipush cx (v := (-6)) dX2_toldColour_47 (by decide) ?_
      exact jg_iret cx dX2_toldColour_49 (⟨(by first | with_reducible rfl | (simp only [jF_toldC, ej, c8, c28, ↓reduceIte, Bool.false_eq_true, Bool.true_eq_false, reduceCtorEq, eq_self, if_true, if_false, Bool.not_true, Bool.not_false]; first | done | rfl)), (by first | with_reducible rfl | (simp only [jF_toldC, ej, c8, c28, ↓reduceIte, Bool.false_eq_true, Bool.true_eq_false, reduceCtorEq, eq_self, if_true, if_false, Bool.not_true, Bool.not_false]; first | done | rfl))⟩)
    · refine jg_aload_n cx dX2_toldColour_31 rfl ?_
      refine jg_get cx jp_js_o rfl inX2 1 (by decide) f19 rfl dX2_toldColour_32 ?_
      refine jg_getN cx (jp_net_o jp_net2) rfl inX0 4 (by decide) (by decide +kernel) rfl dX2_toldColour_35 ?_
      refine jg_iload_n cx dX2_toldColour_38 rfl ?_
      refine jg_iload_n cx dX2_toldColour_39 rfl ?_
      refine jg_callSi cx (n := 2) (jc_X2_spotN E l (by omega) (by omega)) gX2_toldColour_X2_spot rfl ⟨rfl, rfl⟩ ⟨(Nat.le_of_ble_eq_true rfl), (Nat.le_of_ble_eq_true rfl)⟩ (by decide +kernel) rfl rfl (Nat.le_of_ble_eq_true rfl) dX2_toldColour_40 ?_
      refine jg_iald cx dX2_toldColour_43 ((jp_net_5 jp_net2)) rfl (jf_spot_lt (by omega) (by omega)) ?_
      refine jg_goto cx (tgt := 49) dX2_toldColour_44 (by decide) ?_
      exact jg_iret cx dX2_toldColour_49 (⟨(by first | with_reducible rfl | (simp only [jF_toldC, ej, c8, c28, ↓reduceIte, Bool.false_eq_true, Bool.true_eq_false, reduceCtorEq, eq_self, if_true, if_false, Bool.not_true, Bool.not_false]; first | done | rfl)), (by first | with_reducible rfl | (simp only [jF_toldC, ej, c8, c28, ↓reduceIte, Bool.false_eq_true, Bool.true_eq_false, reduceCtorEq, eq_self, if_true, if_false, Bool.not_true, Bool.not_false]; first | done | rfl))⟩)
  · refine jg_bipush cx (v := (-2)) dX2_toldColour_11 (by decide) ?_
    exact jg_iret cx dX2_toldColour_13 (⟨(by first | with_reducible rfl | (simp only [jF_toldC, c8, ↓reduceIte, Bool.false_eq_true, Bool.true_eq_false, reduceCtorEq, eq_self, if_true, if_false, Bool.not_true, Bool.not_false]; first | done | rfl)), (by first | with_reducible rfl | (simp only [jF_toldC, c8, ↓reduceIte, Bool.false_eq_true, Bool.true_eq_false, reduceCtorEq, eq_self, if_true, if_false, Bool.not_true, Bool.not_false]; first | done | rfl))⟩)
def jF_told (x w : Int32) (h : jp_H) : Int32 × jp_H :=
  if jf_within x (nI 0) (nI 7) then
    (if w = nI 0 then (h.1 2 1 x.toNatClampNeg, h) else if w = nI 1 then (h.1 2 4 x.toNatClampNeg, h) else if w = nI 2 then (jf_rlo (h.1 2) x.toNatClampNeg, h) else jF_toldC x.toNatClampNeg w h)
  else (-1, h)
theorem jf_out (w : Int32) (m : Nat) (hm : m < 2 ^ 31) (hq : ∀ j, j ≤ m → ¬ w = nI j) : w.toInt < 0 ∨ (m : Int) < w.toInt := by
  by_cases q : w < 0
  · left
    rw [Int32.lt_iff_toInt_lt, Int32.toInt_zero] at q
    exact q
  · right
    obtain ⟨j, hj, rfl⟩ := nI_of q
    rw [nI_toInt hj]
    have : ¬ j ≤ m := fun z => hq j z rfl
    omega
theorem jf_lt3 {w : Int32} {P : Prop} (q0 : ¬ w = nI 0) (q1 : ¬ w = nI 1) (q2 : ¬ w = nI 2) : ∀ j, j ≤ 2 → ¬ w = nI j := by
  intro j hj
  rcases (show j = 0 ∨ j = 1 ∨ j = 2 by omega) with rfl | rfl | rfl <;> assumption
set_option maxHeartbeats 1000000 in
set_option maxRecDepth 100000 in
theorem jc_X2_told (E : jp_E) (l : Launch) {h : jp_H} {x w : Int32} : jc_M E l yX2_told wsX2_told ({ frames := 3, cells := 0, slots := 0, locals := 66 } : Room) [.ref (E.2.1 0 0), .int x, .int w] h (jp_R (some (.int (jF_told x w h).1)) (jF_told x w h).2) := by
  refine jc_of (cc := cX2_told) (maxL := 3) (ret := some .int) (own := RX2) (lv := [(0, _), (1, _), (2, _)]) (by decide) rfl rfl (Nat.le_of_ble_eq_true rfl) rfl (fun X cx => ?_)
  have inX0 : ∀ w ∈ u_ws RX0 TX0 9, w ∈ wsX2_told := by decide +kernel
  have inX2 : ∀ w ∈ u_ws RX2 TX2 9, w ∈ wsX2_told := by decide +kernel
  have f19 : Cond.fieldLink RX2 19 "JobSpread" "now" "LJobSpread$Net;" ∈ wsX2_told := by decide +kernel
  refine jg_iload_n cx dX2_told_0 rfl ?_
  refine jg_callSi cx (n := 1) (jc_X2_isNode E l) gX2_told_X2_isNode rfl ⟨rfl, rfl⟩ ⟨(Nat.le_of_ble_eq_true rfl), (Nat.le_of_ble_eq_true rfl)⟩ (by decide +kernel) rfl rfl (Nat.le_of_ble_eq_true rfl) dX2_told_1 ?_
  refine jg_ifb_ne cx (tgt := 9) dX2_told_4 (by decide) (fun c4 => ?_) (fun c4 => ?_)
  · obtain ⟨i, hi, rfl⟩ := jf_node_of c4
    have ei : (nI i).toNatClampNeg = i := nI_clamp (by omega)
    refine jg_iload_n cx dX2_told_9 rfl ?_
    rcases Classical.em (w = nI 0) with q0 | q0
    · subst q0
      refine jg_tableIn cx (off := 26) (tgt := 36) dX2_told_10 (by decide) (by decide) (by decide) (by decide) ?_
      refine jg_aload_n cx dX2_told_36 rfl ?_
      refine jg_get cx jp_js_o rfl inX2 1 (by decide) f19 rfl dX2_told_37 ?_
      refine jg_getN cx (jp_net_o jp_net2) rfl inX0 0 (by decide) (by decide +kernel) rfl dX2_told_40 ?_
      refine jg_iload_n cx dX2_told_43 rfl ?_
      refine jg_iald cx dX2_told_44 ((jp_net_1 jp_net2)) rfl (by omega) ?_
      exact jg_iret cx dX2_told_45 (⟨(by first | with_reducible rfl | (simp only [jF_told, ei, c4, ↓reduceIte, Bool.false_eq_true, Bool.true_eq_false, reduceCtorEq, eq_self, if_true, if_false, Bool.not_true, Bool.not_false]; first | done | rfl)), (by first | with_reducible rfl | (simp only [jF_told, ei, c4, ↓reduceIte, Bool.false_eq_true, Bool.true_eq_false, reduceCtorEq, eq_self, if_true, if_false, Bool.not_true, Bool.not_false]; first | done | rfl))⟩)
    · rcases Classical.em (w = nI 1) with q1 | q1
      · subst q1
        refine jg_tableIn cx (off := 36) (tgt := 46) dX2_told_10 (by decide) (by decide) (by decide) (by decide) ?_
        refine jg_aload_n cx dX2_told_46 rfl ?_
        refine jg_get cx jp_js_o rfl inX2 1 (by decide) f19 rfl dX2_told_47 ?_
        refine jg_getN cx (jp_net_o jp_net2) rfl inX0 3 (by decide) (by decide +kernel) rfl dX2_told_50 ?_
        refine jg_iload_n cx dX2_told_53 rfl ?_
        refine jg_iald cx dX2_told_54 ((jp_net_4 jp_net2)) rfl (by omega) ?_
        exact jg_iret cx dX2_told_55 (⟨by simp only [jF_told, c4, ei, ↓reduceIte, if_neg (show ¬ nI 1 = nI 0 by decide)], by simp only [jF_told, c4, ei, ↓reduceIte, if_neg (show ¬ nI 1 = nI 0 by decide)]⟩)
      · rcases Classical.em (w = nI 2) with q2 | q2
        · subst q2
          refine jg_tableIn cx (off := 46) (tgt := 56) dX2_told_10 (by decide) (by decide) (by decide) (by decide) ?_
          refine jg_aload_n cx dX2_told_56 rfl ?_
          refine jg_get cx jp_js_o rfl inX2 1 (by decide) f19 rfl dX2_told_57 ?_
          refine jg_iload_n cx dX2_told_60 rfl ?_
          refine jg_callVNi cx (n := 1) (jc_X0_rotorLeftOver_h E l jp_net2 (by omega)) gX2_told_X0_rotorLeftOver_n100 (by decide +kernel) (by decide +kernel) (by decide +kernel) (by decide +kernel) rfl ⟨rfl, rfl⟩ ⟨(Nat.le_of_ble_eq_true rfl), (Nat.le_of_ble_eq_true rfl)⟩ (by decide +kernel) (jp_net_o jp_net2) rfl rfl rfl (Nat.le_of_ble_eq_true rfl) dX2_told_61 ?_
          exact jg_iret cx dX2_told_64 (⟨by simp only [jF_told, c4, ei, ↓reduceIte, if_neg (show ¬ nI 2 = nI 0 by decide), if_neg (show ¬ nI 2 = nI 1 by decide)], by simp only [jF_told, c4, ei, ↓reduceIte, if_neg (show ¬ nI 2 = nI 0 by decide), if_neg (show ¬ nI 2 = nI 1 by decide)]⟩)
        · refine jg_tableOut cx (tgt := 65) dX2_told_10 (jf_out w 2 (by decide) (jf_lt3 (P := True) q0 q1 q2)) (by decide) ?_
          refine jg_aload_n cx dX2_told_65 rfl ?_
          refine jg_iload_n cx dX2_told_66 rfl ?_
          refine jg_iload_n cx dX2_told_67 rfl ?_
          refine jg_callVi cx (n := 2) (jc_X2_toldColour E l (by omega)) gX2_told_X2_toldColour rfl ⟨rfl, rfl⟩ ⟨(Nat.le_of_ble_eq_true rfl), (Nat.le_of_ble_eq_true rfl)⟩ (by decide +kernel) jp_js_o rfl rfl rfl (Nat.le_of_ble_eq_true rfl) dX2_told_68 ?_
          exact jg_iret cx dX2_told_71 (⟨by simp only [jF_told, c4, ei, ↓reduceIte, if_neg q0, if_neg q1, if_neg q2], by simp only [jF_told, c4, ei, ↓reduceIte, if_neg q0, if_neg q1, if_neg q2]⟩)
  · refine jg_iconst cx (v := (-1)) dX2_told_7 (by decide) ?_
    exact jg_iret cx dX2_told_8 (⟨(by first | with_reducible rfl | (simp only [jF_told, c4, ↓reduceIte, Bool.false_eq_true, Bool.true_eq_false, reduceCtorEq, eq_self, if_true, if_false, Bool.not_true, Bool.not_false]; first | done | rfl)), (by first | with_reducible rfl | (simp only [jF_told, c4, ↓reduceIte, Bool.false_eq_true, Bool.true_eq_false, reduceCtorEq, eq_self, if_true, if_false, Bool.not_true, Bool.not_false]; first | done | rfl))⟩)
def jF_carry (x y : Int32) (h : jp_H) : Int32 × jp_H :=
  if jf_within x (nI 0) (nI 7) then
    (if jf_within y (nI 0) (nI 7) then
      (if x = y then (-2, h) else
        (if jf_joins (h.1 2) x.toNatClampNeg y.toNatClampNeg then (h.1 2 6 (jf_spot x.toNatClampNeg y.toNatClampNeg) + nI 10000, h) else (-6, h)))
    else (-1, h))
  else (-1, h)
set_option maxHeartbeats 1000000 in
set_option maxRecDepth 100000 in
theorem jc_X2_carry (E : jp_E) (l : Launch) {h : jp_H} {x y : Int32} : jc_M E l yX2_carry wsX2_carry ({ frames := 2, cells := 0, slots := 0, locals := 43 } : Room) [.ref (E.2.1 0 0), .int x, .int y] h (jp_R (some (.int (jF_carry x y h).1)) (jF_carry x y h).2) := by
  refine jc_of (cc := cX2_carry) (maxL := 3) (ret := some .int) (own := RX2) (lv := [(0, _), (1, _), (2, _)]) (by decide) rfl rfl (Nat.le_of_ble_eq_true rfl) rfl (fun X cx => ?_)
  have inX0 : ∀ w ∈ u_ws RX0 TX0 9, w ∈ wsX2_carry := by decide +kernel
  have inX2 : ∀ w ∈ u_ws RX2 TX2 9, w ∈ wsX2_carry := by decide +kernel
  have f19 : Cond.fieldLink RX2 19 "JobSpread" "now" "LJobSpread$Net;" ∈ wsX2_carry := by decide +kernel
  refine jg_iload_n cx dX2_carry_0 rfl ?_
  refine jg_callSi cx (n := 1) (jc_X2_isNode E l) gX2_carry_X2_isNode rfl ⟨rfl, rfl⟩ ⟨(Nat.le_of_ble_eq_true rfl), (Nat.le_of_ble_eq_true rfl)⟩ (by decide +kernel) rfl rfl (Nat.le_of_ble_eq_true rfl) dX2_carry_1 ?_
  refine jg_ifb_eq cx (tgt := 14) dX2_carry_4 (by decide) (fun c4 => ?_) (fun c4 => ?_)
  · refine jg_iconst cx (v := (-1)) dX2_carry_14 (by decide) ?_
    exact jg_iret cx dX2_carry_15 (⟨(by first | with_reducible rfl | (simp only [jF_carry, c4, ↓reduceIte, Bool.false_eq_true, Bool.true_eq_false, reduceCtorEq, eq_self, if_true, if_false, Bool.not_true, Bool.not_false]; first | done | rfl)), (by first | with_reducible rfl | (simp only [jF_carry, c4, ↓reduceIte, Bool.false_eq_true, Bool.true_eq_false, reduceCtorEq, eq_self, if_true, if_false, Bool.not_true, Bool.not_false]; first | done | rfl))⟩)
  · obtain ⟨a, ha, rfl⟩ := jf_node_of c4
    have ea : (nI a).toNatClampNeg = a := nI_clamp (by omega)
    refine jg_iload_n cx dX2_carry_7 rfl ?_
    refine jg_callSi cx (n := 1) (jc_X2_isNode E l) gX2_carry_X2_isNode rfl ⟨rfl, rfl⟩ ⟨(Nat.le_of_ble_eq_true rfl), (Nat.le_of_ble_eq_true rfl)⟩ (by decide +kernel) rfl rfl (Nat.le_of_ble_eq_true rfl) dX2_carry_8 ?_
    refine jg_ifb_ne cx (tgt := 16) dX2_carry_11 (by decide) (fun c11 => ?_) (fun c11 => ?_)
    · obtain ⟨c, hc, rfl⟩ := jf_node_of c11
      have ec : (nI c).toNatClampNeg = c := nI_clamp (by omega)
      refine jg_iload_n cx dX2_carry_16 rfl ?_
      refine jg_iload_n cx dX2_carry_17 rfl ?_
      refine jg_icmp_ne cx (tgt := 24) dX2_carry_18 (by decide) (fun c18 => ?_) (fun c18 => ?_)
      · refine jg_aload_n cx dX2_carry_24 rfl ?_
        refine jg_get cx jp_js_o rfl inX2 1 (by decide) f19 rfl dX2_carry_25 ?_
        refine jg_iload_n cx dX2_carry_28 rfl ?_
        refine jg_iload_n cx dX2_carry_29 rfl ?_
        refine jg_callVNi cx (n := 2) (jc_X0_joins_h E l jp_net2 (by omega) (by omega)) gX2_carry_X0_joins_n68 (by decide +kernel) (by decide +kernel) (by decide +kernel) (by decide +kernel) rfl ⟨rfl, rfl⟩ ⟨(Nat.le_of_ble_eq_true rfl), (Nat.le_of_ble_eq_true rfl)⟩ (by decide +kernel) (jp_net_o jp_net2) rfl rfl rfl (Nat.le_of_ble_eq_true rfl) dX2_carry_30 ?_
        refine jg_ifb_eq cx (tgt := 56) dX2_carry_33 (by decide) (fun c33 => ?_) (fun c33 => ?_)
        · refine jg_bipush cx (v := (-6)) dX2_carry_56 (by decide) ?_
          exact jg_iret cx dX2_carry_58 (⟨(by first | with_reducible rfl | (simp only [jF_carry, ea, ec, c4, c11, if_neg c18, c33, ↓reduceIte, Bool.false_eq_true, Bool.true_eq_false, reduceCtorEq, eq_self, if_true, if_false, Bool.not_true, Bool.not_false]; first | done | rfl)), (by first | with_reducible rfl | (simp only [jF_carry, ea, ec, c4, c11, if_neg c18, c33, ↓reduceIte, Bool.false_eq_true, Bool.true_eq_false, reduceCtorEq, eq_self, if_true, if_false, Bool.not_true, Bool.not_false]; first | done | rfl))⟩)
        · refine jg_aload_n cx dX2_carry_36 rfl ?_
          refine jg_get cx jp_js_o rfl inX2 1 (by decide) f19 rfl dX2_carry_37 ?_
          refine jg_getN cx (jp_net_o jp_net2) rfl inX0 5 (by decide) (by decide +kernel) rfl dX2_carry_40 ?_
          refine jg_iload_n cx dX2_carry_43 rfl ?_
          refine jg_iload_n cx dX2_carry_44 rfl ?_
          refine jg_callSi cx (n := 2) (jc_X2_spotN E l (by omega) (by omega)) gX2_carry_X2_spot rfl ⟨rfl, rfl⟩ ⟨(Nat.le_of_ble_eq_true rfl), (Nat.le_of_ble_eq_true rfl)⟩ (by decide +kernel) rfl rfl (Nat.le_of_ble_eq_true rfl) dX2_carry_45 ?_
          refine jg_iald cx dX2_carry_48 ((jp_net_6 jp_net2)) rfl (jf_spot_lt (by omega) (by omega)) ?_
          refine jg_sipush cx (v := nI 10000) dX2_carry_49 (by decide) ?_
          refine jg_iadd cx dX2_carry_52 ?_
          refine jg_goto cx (tgt := 58) dX2_carry_53 (by decide) ?_
          exact jg_iret cx dX2_carry_58 (⟨(by first | with_reducible rfl | (simp only [jF_carry, ea, ec, c4, c11, if_neg c18, c33, ↓reduceIte, Bool.false_eq_true, Bool.true_eq_false, reduceCtorEq, eq_self, if_true, if_false, Bool.not_true, Bool.not_false]; first | done | rfl)), (by first | with_reducible rfl | (simp only [jF_carry, ea, ec, c4, c11, if_neg c18, c33, ↓reduceIte, Bool.false_eq_true, Bool.true_eq_false, reduceCtorEq, eq_self, if_true, if_false, Bool.not_true, Bool.not_false]; first | done | rfl))⟩)
      · refine jg_bipush cx (v := (-2)) dX2_carry_21 (by decide) ?_
        exact jg_iret cx dX2_carry_23 (⟨(by first | with_reducible rfl | (simp only [jF_carry, c4, c11, if_pos c18, ↓reduceIte, Bool.false_eq_true, Bool.true_eq_false, reduceCtorEq, eq_self, if_true, if_false, Bool.not_true, Bool.not_false]; first | done | rfl)), (by first | with_reducible rfl | (simp only [jF_carry, c4, c11, if_pos c18, ↓reduceIte, Bool.false_eq_true, Bool.true_eq_false, reduceCtorEq, eq_self, if_true, if_false, Bool.not_true, Bool.not_false]; first | done | rfl))⟩)
    · refine jg_iconst cx (v := (-1)) dX2_carry_14 (by decide) ?_
      exact jg_iret cx dX2_carry_15 (⟨(by first | with_reducible rfl | (simp only [jF_carry, c4, c11, ↓reduceIte, Bool.false_eq_true, Bool.true_eq_false, reduceCtorEq, eq_self, if_true, if_false, Bool.not_true, Bool.not_false]; first | done | rfl)), (by first | with_reducible rfl | (simp only [jF_carry, c4, c11, ↓reduceIte, Bool.false_eq_true, Bool.true_eq_false, reduceCtorEq, eq_self, if_true, if_false, Bool.not_true, Bool.not_false]; first | done | rfl))⟩)
def jF_run (ru k : Int32) (h : jp_H) : Int32 × jp_H :=
  if jf_within ru (nI 0) (nI 2) then
    (if jf_within k (nI 1) (nI 50) then ((jf_go ru (h.1 2) k.toNatClampNeg).2, jp_u h 2 (jf_go ru (h.1 2) k.toNatClampNeg).1 (h.2 2)) else (-2, h))
  else (-2, h)
set_option maxHeartbeats 1000000 in
set_option maxRecDepth 100000 in
theorem jc_X2_run (E : jp_E) (l : Launch) {h : jp_H} {ru k : Int32} : jc_M E l yX2_run wsX2_run ({ frames := 5, cells := 0, slots := 0, locals := 119 } : Room) [.ref (E.2.1 0 0), .int ru, .int k] h (jp_R (some (.int (jF_run ru k h).1)) (jF_run ru k h).2) := by
  refine jc_of (cc := cX2_run) (maxL := 3) (ret := some .int) (own := RX2) (lv := [(0, _), (1, _), (2, _)]) (by decide) rfl rfl (Nat.le_of_ble_eq_true rfl) rfl (fun X cx => ?_)
  have inX2 : ∀ w ∈ u_ws RX2 TX2 9, w ∈ wsX2_run := by decide +kernel
  have f19 : Cond.fieldLink RX2 19 "JobSpread" "now" "LJobSpread$Net;" ∈ wsX2_run := by decide +kernel
  refine jg_iload_n cx dX2_run_0 rfl ?_
  refine jg_callSi cx (n := 1) (jc_X2_isRule E l) gX2_run_X2_isRule rfl ⟨rfl, rfl⟩ ⟨(Nat.le_of_ble_eq_true rfl), (Nat.le_of_ble_eq_true rfl)⟩ (by decide +kernel) rfl rfl (Nat.le_of_ble_eq_true rfl) dX2_run_1 ?_
  refine jg_ifb_eq cx (tgt := 17) dX2_run_4 (by decide) (fun c4 => ?_) (fun c4 => ?_)
  · refine jg_bipush cx (v := (-2)) dX2_run_17 (by decide) ?_
    exact jg_iret cx dX2_run_19 (⟨(by first | with_reducible rfl | (simp only [jF_run, c4, ↓reduceIte, Bool.false_eq_true, Bool.true_eq_false, reduceCtorEq, eq_self, if_true, if_false, Bool.not_true, Bool.not_false]; first | done | rfl)), (by first | with_reducible rfl | (simp only [jF_run, c4, ↓reduceIte, Bool.false_eq_true, Bool.true_eq_false, reduceCtorEq, eq_self, if_true, if_false, Bool.not_true, Bool.not_false]; first | done | rfl))⟩)
  · refine jg_iload_n cx dX2_run_7 rfl ?_
    refine jg_iconst cx (v := nI 1) dX2_run_8 (by decide) ?_
    refine jg_bipush cx (v := nI 50) dX2_run_9 (by decide) ?_
    refine jg_callSi cx (n := 3) (jc_X2_isWithin E l) gX2_run_X2_isWithin rfl ⟨rfl, rfl⟩ ⟨(Nat.le_of_ble_eq_true rfl), (Nat.le_of_ble_eq_true rfl)⟩ (by decide +kernel) rfl rfl (Nat.le_of_ble_eq_true rfl) dX2_run_11 ?_
    refine jg_ifb_ne cx (tgt := 20) dX2_run_14 (by decide) (fun c14 => ?_) (fun c14 => ?_)
    · obtain ⟨i, hi1, hi2, rfl⟩ := jf_within_lo (by decide) (by decide) c14
      have ei : (nI i).toNatClampNeg = i := nI_clamp (by omega)
      refine jg_aload_n cx dX2_run_20 rfl ?_
      refine jg_get cx jp_js_o rfl inX2 1 (by decide) f19 rfl dX2_run_21 ?_
      refine jg_iload_n cx dX2_run_24 rfl ?_
      refine jg_iload_n cx dX2_run_25 rfl ?_
      refine jg_callVNi cx (n := 2) (jc_X0_goOn_h E l jp_net2 (by omega)) gX2_run_X0_goOn_n119 (by decide +kernel) (by decide +kernel) (by decide +kernel) (by decide +kernel) rfl ⟨rfl, rfl⟩ ⟨(Nat.le_of_ble_eq_true rfl), (Nat.le_of_ble_eq_true rfl)⟩ (by decide +kernel) (jp_net_o jp_net2) rfl rfl rfl (Nat.le_of_ble_eq_true rfl) dX2_run_26 ?_
      exact jg_iret cx dX2_run_29 (⟨(by first | with_reducible rfl | (simp only [jF_run, ei, c4, c14, ↓reduceIte, Bool.false_eq_true, Bool.true_eq_false, reduceCtorEq, eq_self, if_true, if_false, Bool.not_true, Bool.not_false]; first | done | rfl)), (by first | with_reducible rfl | (simp only [jF_run, ei, c4, c14, ↓reduceIte, Bool.false_eq_true, Bool.true_eq_false, reduceCtorEq, eq_self, if_true, if_false, Bool.not_true, Bool.not_false]; first | done | rfl))⟩)
    · refine jg_bipush cx (v := (-2)) dX2_run_17 (by decide) ?_
      exact jg_iret cx dX2_run_19 (⟨(by first | with_reducible rfl | (simp only [jF_run, c4, c14, ↓reduceIte, Bool.false_eq_true, Bool.true_eq_false, reduceCtorEq, eq_self, if_true, if_false, Bool.not_true, Bool.not_false]; first | done | rfl)), (by first | with_reducible rfl | (simp only [jF_run, c4, c14, ↓reduceIte, Bool.false_eq_true, Bool.true_eq_false, reduceCtorEq, eq_self, if_true, if_false, Bool.not_true, Bool.not_false]; first | done | rfl))⟩)
set_option maxHeartbeats 1000000 in
set_option maxRecDepth 100000 in
theorem jc_X2_reset (E : jp_E) (l : Launch) {h : jp_H}  : jc_M E l yX2_reset wsX2_reset ({ frames := 1, cells := 0, slots := 0, locals := 21 } : Room) [.ref (E.2.1 0 0)] h (jp_R (some (.int (((h.1 2 0 8, jp_u h 2 (jf_again (h.1 2)) (h.2 2)) : Int32 × jp_H)).1)) (((h.1 2 0 8, jp_u h 2 (jf_again (h.1 2)) (h.2 2)) : Int32 × jp_H)).2) := by
  refine jc_of (cc := cX2_reset) (maxL := 2) (ret := some .int) (own := RX2) (lv := [(0, _)]) (by decide) rfl rfl (Nat.le_of_ble_eq_true rfl) rfl (fun X cx => ?_)
  have inX0 : ∀ w ∈ u_ws RX0 TX0 9, w ∈ wsX2_reset := by decide +kernel
  have inX2 : ∀ w ∈ u_ws RX2 TX2 9, w ∈ wsX2_reset := by decide +kernel
  have f19 : Cond.fieldLink RX2 19 "JobSpread" "now" "LJobSpread$Net;" ∈ wsX2_reset := by decide +kernel
  refine jg_aload_n cx dX2_reset_0 rfl ?_
  refine jg_get cx jp_js_o rfl inX2 1 (by decide) f19 rfl dX2_reset_1 ?_
  refine jg_getN cx (jp_net_o jp_net2) rfl inX0 8 (by decide) (by decide +kernel) rfl dX2_reset_4 ?_
  refine jg_istore_n cx (lv' := [(0, _), (1, _)]) dX2_reset_7 (by decide) rfl ?_
  refine jg_aload_n cx dX2_reset_8 rfl ?_
  refine jg_get cx jp_js_o rfl inX2 1 (by decide) f19 rfl dX2_reset_9 ?_
  refine jg_callVNv cx (n := 0) (jc_X0_startAgain_h E l jp_net2 ) gX2_reset_X0_startAgain_n125 (by decide +kernel) (by decide +kernel) (by decide +kernel) (by decide +kernel) rfl ⟨rfl, rfl⟩ ⟨(Nat.le_of_ble_eq_true rfl), (Nat.le_of_ble_eq_true rfl)⟩ (by decide +kernel) (jp_net_o jp_net2) rfl rfl rfl (Nat.le_of_ble_eq_true rfl) dX2_reset_12 ?_
  refine jg_iload_n cx dX2_reset_15 rfl ?_
  exact jg_iret cx dX2_reset_16 (⟨rfl, rfl⟩)
end
section
/-! ===== JobSpread, what is asked ===== -/
def jf_labs (x : Int64) : Int64 := if 0 < x then x else -x
def jf_cdL : Nat → Int64 → Int64 → Int64
  | 0, x, _ => x
  | d + 1, x, y => if lg_cmp y 0 = 0 then x else jf_cdL d y (x - x / y * y)
def jf_cd (u v : Int64) : Int64 := jf_cdL 100 (jf_labs u) (jf_labs v)
set_option maxHeartbeats 1000000 in
set_option maxRecDepth 100000 in
theorem jc_X2_commonDivisor (E : jp_E) (l : Launch) {h : jp_H} {u v : Int64} : jc_M E l yX2_commonDivisor wsX2_commonDivisor ({ frames := 1, cells := 0, slots := 0, locals := 21 } : Room) [.long u, .long v] h (jp_R (some (.long (jf_cd u v))) h) := by
  refine jc_of (cc := cX2_commonDivisor) (maxL := 11) (ret := some .long) (own := RX2) (lv := [(0, _), (2, _)]) (by decide) rfl rfl (Nat.le_of_ble_eq_true rfl) rfl (fun X cx => ?_)
  refine jg_lload_n cx dX2_commonDivisor_0 rfl ?_
  refine jg_labs cx (by decide +kernel) (by decide +kernel) (by decide +kernel) (by decide +kernel) (Nat.le_of_ble_eq_true rfl) (Nat.le_of_ble_eq_true rfl) dX2_commonDivisor_1 ?_
  refine jg_lstore cx (lv' := [(0, _), (2, _), (4, _)]) dX2_commonDivisor_4 (by decide) rfl ?_
  refine jg_lload_n cx dX2_commonDivisor_6 rfl ?_
  refine jg_labs cx (by decide +kernel) (by decide +kernel) (by decide +kernel) (by decide +kernel) (Nat.le_of_ble_eq_true rfl) (Nat.le_of_ble_eq_true rfl) dX2_commonDivisor_7 ?_
  refine jg_lstore cx (lv' := [(0, _), (2, _), (4, _), (6, _)]) dX2_commonDivisor_10 (by decide) rfl ?_
  refine jg_iconst cx (v := nI 0) dX2_commonDivisor_12 (by decide) ?_
  refine jg_istore cx (lv' := [(0, _), (2, _), (4, _), (6, _), (8, _)]) dX2_commonDivisor_13 (by decide) rfl ?_
  have lp15 : ∀ (d15 i : Nat) (x : Int64) (y : Int64), i + d15 = 100 → (jf_cdL d15 x y = jf_cd u v) → X 15 [(0, .long u), (2, .long v), (4, .long x), (6, .long y), (8, .int (nI i))] [] (h) := by
    intro d15
    induction d15 with
    | zero =>
      intro i x y hr15 hq
      refine jg_iload cx dX2_commonDivisor_15 rfl ?_
      refine jg_bipush cx (v := nI 100) dX2_commonDivisor_17 (by decide) ?_
      refine jg_icmpN_ge cx (tgt := 50) dX2_commonDivisor_19 (by decide) (by omega) (by omega) (fun c19 => ?_) (fun c19 => ?_)
      · refine jg_lload cx dX2_commonDivisor_50 rfl ?_
        exact jg_lret cx dX2_commonDivisor_52 (⟨by rw [← hq]; first | rfl | (simp only [jf_cdL, if_true]), rfl⟩)
      · exact absurd hr15 (by omega)
    | succ d15 ih15 =>
      intro i x y hr15 hq
      refine jg_iload cx dX2_commonDivisor_15 rfl ?_
      refine jg_bipush cx (v := nI 100) dX2_commonDivisor_17 (by decide) ?_
      refine jg_icmpN_ge cx (tgt := 50) dX2_commonDivisor_19 (by decide) (by omega) (by omega) (fun c19 => ?_) (fun c19 => ?_)
      · exact absurd hr15 (by omega)
      · refine jg_lload cx dX2_commonDivisor_22 rfl ?_
        refine jg_lconst cx (v := 0) dX2_commonDivisor_24 rfl ?_
        refine jg_lcmp cx dX2_commonDivisor_25 ?_
        refine jg_if_eq cx (tgt := 50) dX2_commonDivisor_26 (by decide) (fun c26 => ?_) (fun c26 => ?_)
        · refine jg_lload cx dX2_commonDivisor_50 rfl ?_
          exact jg_lret cx dX2_commonDivisor_52 (⟨by rw [← hq]; first | rfl | (simp only [jf_cdL, if_pos c26, if_true]), rfl⟩)
        · refine jg_lload cx dX2_commonDivisor_29 rfl ?_
          refine jg_lload cx dX2_commonDivisor_31 rfl ?_
          refine jg_lrem cx dX2_commonDivisor_33 (fun q => c26 (by rw [q]; decide)) ?_
          refine jg_lstore cx (lv' := [(0, _), (2, _), (4, _), (6, _), (8, _), (9, _)]) dX2_commonDivisor_34 (by decide) rfl ?_
          refine jg_lload cx dX2_commonDivisor_36 rfl ?_
          refine jg_lstore cx (lv' := [(0, _), (2, _), (4, _), (6, _), (8, _), (9, _)]) dX2_commonDivisor_38 (by decide) rfl ?_
          refine jg_lload cx dX2_commonDivisor_40 rfl ?_
          refine jg_lstore cx (lv' := [(0, _), (2, _), (4, _), (6, _), (8, _), (9, _)]) dX2_commonDivisor_42 (by decide) rfl ?_
          refine jg_iincN cx (d := 1) (lv' := [(0, _), (2, _), (4, _), (6, _), (8, _), (9, _)]) dX2_commonDivisor_44 rfl (by decide) (by decide) rfl ?_
          refine jg_goto cx (tgt := 15) dX2_commonDivisor_47 (by decide) ?_
          refine jg_sub cx (lv' := [(0, _), (2, _), (4, _), (6, _), (8, _)]) [0, 1, 2, 3, 4] rfl ?_
          exact jg_to (ih15 (i + 1) _ _ (by omega) (by rw [← hq]; simp only [jf_cdL, if_neg c26])) rfl rfl rfl
  exact jg_to (lp15 100 0 _ _ (by omega) rfl) rfl rfl rfl
def jf_part (u v : Int64) (pa : Int32) : Int64 := if lg_cmp (jf_cd u v) 0 = 0 then pa.toInt64 else if pa = 0 then u / jf_cd u v else v / jf_cd u v
set_option maxHeartbeats 1000000 in
set_option maxRecDepth 100000 in
theorem jc_X2_partOf (E : jp_E) (l : Launch) {h : jp_H} {u v : Int64} {pa : Int32} : jc_M E l yX2_partOf wsX2_partOf ({ frames := 2, cells := 0, slots := 0, locals := 51 } : Room) [.long u, .long v, .int pa] h (jp_R (some (.long (jf_part u v pa))) h) := by
  refine jc_of (cc := cX2_partOf) (maxL := 7) (ret := some .long) (own := RX2) (lv := [(0, _), (2, _), (4, _)]) (by decide) rfl rfl (Nat.le_of_ble_eq_true rfl) rfl (fun X cx => ?_)
  refine jg_lload_n cx dX2_partOf_0 rfl ?_
  refine jg_lload_n cx dX2_partOf_1 rfl ?_
  refine jg_callSl cx (n := 2) (jc_X2_commonDivisor E l) gX2_partOf_X2_commonDivisor rfl ⟨rfl, rfl⟩ ⟨(Nat.le_of_ble_eq_true rfl), (Nat.le_of_ble_eq_true rfl)⟩ (by decide +kernel) rfl rfl (Nat.le_of_ble_eq_true rfl) dX2_partOf_2 ?_
  refine jg_lstore cx (lv' := [(0, _), (2, _), (4, _), (5, _)]) dX2_partOf_5 (by decide) rfl ?_
  refine jg_lload cx dX2_partOf_7 rfl ?_
  refine jg_lconst cx (v := 0) dX2_partOf_9 rfl ?_
  refine jg_lcmp cx dX2_partOf_10 ?_
  refine jg_if_ne cx (tgt := 18) dX2_partOf_11 (by decide) (fun c11 => ?_) (fun c11 => ?_)
  · refine jg_iload cx dX2_partOf_18 rfl ?_
    refine jg_if_ne cx (tgt := 27) dX2_partOf_20 (by decide) (fun c20 => ?_) (fun c20 => ?_)
    · refine jg_lload_n cx dX2_partOf_27 rfl ?_
      refine jg_lload cx dX2_partOf_28 rfl ?_
      refine jg_ldiv cx dX2_partOf_30 (fun q => c11 (by rw [q]; decide)) ?_
      exact jg_lret cx dX2_partOf_31 (⟨(by first | with_reducible rfl | (simp only [jf_part, if_neg c11, if_neg c20, ↓reduceIte, Bool.false_eq_true, Bool.true_eq_false, reduceCtorEq, eq_self, if_true, if_false, Bool.not_true, Bool.not_false]; first | done | rfl)), rfl⟩)
    · refine jg_lload_n cx dX2_partOf_23 rfl ?_
      refine jg_goto cx (tgt := 28) dX2_partOf_24 (by decide) ?_
      refine jg_lload cx dX2_partOf_28 rfl ?_
      refine jg_ldiv cx dX2_partOf_30 (fun q => c11 (by rw [q]; decide)) ?_
      exact jg_lret cx dX2_partOf_31 (⟨(by first | with_reducible rfl | (simp only [jf_part, if_neg c11, if_pos c20, ↓reduceIte, Bool.false_eq_true, Bool.true_eq_false, reduceCtorEq, eq_self, if_true, if_false, Bool.not_true, Bool.not_false]; first | done | rfl)), rfl⟩)
  · refine jg_iload cx dX2_partOf_14 rfl ?_
    refine jg_i2l cx dX2_partOf_16 ?_
    exact jg_lret cx dX2_partOf_17 (⟨(by first | with_reducible rfl | (simp only [jf_part, if_pos c11, ↓reduceIte, Bool.false_eq_true, Bool.true_eq_false, reduceCtorEq, eq_self, if_true, if_false, Bool.not_true, Bool.not_false]; first | done | rfl)), rfl⟩)
def jF_uneven (pa : Int32) (h : jp_H) : Int32 × jp_H :=
  if jf_within pa (nI 0) (nI 1) then ((jf_part (jf_gap (h.1 2) (jf_hi (h.1 2) 7) (jf_lo (h.1 2) 7)) ((h.1 2 1 (jf_hi (h.1 2) 7)).toInt64 * (h.1 2 1 (jf_lo (h.1 2) 7)).toInt64) pa).toInt32, h) else (-2, h)
set_option maxHeartbeats 1000000 in
set_option maxRecDepth 100000 in
theorem jc_X2_uneven (E : jp_E) (l : Launch) {h : jp_H} {pa : Int32} : jc_M E l yX2_uneven wsX2_uneven ({ frames := 3, cells := 0, slots := 0, locals := 77 } : Room) [.ref (E.2.1 0 0), .int pa] h (jp_R (some (.int (jF_uneven pa h).1)) (jF_uneven pa h).2) := by
  have hh := jf_hi_le (h.1 2) 7
  have hl9 := jf_lo_le (h.1 2) 7
  refine jc_of (cc := cX2_uneven) (maxL := 4) (ret := some .int) (own := RX2) (lv := [(0, _), (1, _)]) (by decide) rfl rfl (Nat.le_of_ble_eq_true rfl) rfl (fun X cx => ?_)
  have inX0 : ∀ w ∈ u_ws RX0 TX0 9, w ∈ wsX2_uneven := by decide +kernel
  have inX2 : ∀ w ∈ u_ws RX2 TX2 9, w ∈ wsX2_uneven := by decide +kernel
  have f19 : Cond.fieldLink RX2 19 "JobSpread" "now" "LJobSpread$Net;" ∈ wsX2_uneven := by decide +kernel
  refine jg_iload_n cx dX2_uneven_0 rfl ?_
  refine jg_callSi cx (n := 1) (jc_X2_isPart E l) gX2_uneven_X2_isPart rfl ⟨rfl, rfl⟩ ⟨(Nat.le_of_ble_eq_true rfl), (Nat.le_of_ble_eq_true rfl)⟩ (by decide +kernel) rfl rfl (Nat.le_of_ble_eq_true rfl) dX2_uneven_1 ?_
  refine jg_ifb_ne cx (tgt := 10) dX2_uneven_4 (by decide) (fun c4 => ?_) (fun c4 => ?_)
  · refine jg_aload_n cx dX2_uneven_10 rfl ?_
    refine jg_get cx jp_js_o rfl inX2 1 (by decide) f19 rfl dX2_uneven_11 ?_
    refine jg_callVNi cx (n := 0) (jc_X0_mostLoaded_h E l jp_net2 ) gX2_uneven_X0_mostLoaded_n131 (by decide +kernel) (by decide +kernel) (by decide +kernel) (by decide +kernel) rfl ⟨rfl, rfl⟩ ⟨(Nat.le_of_ble_eq_true rfl), (Nat.le_of_ble_eq_true rfl)⟩ (by decide +kernel) (jp_net_o jp_net2) rfl rfl rfl (Nat.le_of_ble_eq_true rfl) dX2_uneven_14 ?_
    refine jg_istore_n cx (lv' := [(0, _), (1, _), (2, _)]) dX2_uneven_17 (by decide) rfl ?_
    refine jg_aload_n cx dX2_uneven_18 rfl ?_
    refine jg_get cx jp_js_o rfl inX2 1 (by decide) f19 rfl dX2_uneven_19 ?_
    refine jg_callVNi cx (n := 0) (jc_X0_leastLoaded_h E l jp_net2 ) gX2_uneven_X0_leastLoaded_n134 (by decide +kernel) (by decide +kernel) (by decide +kernel) (by decide +kernel) rfl ⟨rfl, rfl⟩ ⟨(Nat.le_of_ble_eq_true rfl), (Nat.le_of_ble_eq_true rfl)⟩ (by decide +kernel) (jp_net_o jp_net2) rfl rfl rfl (Nat.le_of_ble_eq_true rfl) dX2_uneven_22 ?_
    refine jg_istore_n cx (lv' := [(0, _), (1, _), (2, _), (3, _)]) dX2_uneven_25 (by decide) rfl ?_
    refine jg_aload_n cx dX2_uneven_26 rfl ?_
    refine jg_get cx jp_js_o rfl inX2 1 (by decide) f19 rfl dX2_uneven_27 ?_
    refine jg_iload_n cx dX2_uneven_30 rfl ?_
    refine jg_iload_n cx dX2_uneven_31 rfl ?_
    refine jg_callVNl cx (n := 2) (jc_X0_loadGap_h E l jp_net2 (by omega) (by omega)) gX2_uneven_X0_loadGap_n137 (by decide +kernel) (by decide +kernel) (by decide +kernel) (by decide +kernel) rfl ⟨rfl, rfl⟩ ⟨(Nat.le_of_ble_eq_true rfl), (Nat.le_of_ble_eq_true rfl)⟩ (by decide +kernel) (jp_net_o jp_net2) rfl rfl rfl (Nat.le_of_ble_eq_true rfl) dX2_uneven_32 ?_
    refine jg_aload_n cx dX2_uneven_35 rfl ?_
    refine jg_get cx jp_js_o rfl inX2 1 (by decide) f19 rfl dX2_uneven_36 ?_
    refine jg_getN cx (jp_net_o jp_net2) rfl inX0 0 (by decide) (by decide +kernel) rfl dX2_uneven_39 ?_
    refine jg_iload_n cx dX2_uneven_42 rfl ?_
    refine jg_iald cx dX2_uneven_43 ((jp_net_1 jp_net2)) rfl (by omega) ?_
    refine jg_i2l cx dX2_uneven_44 ?_
    refine jg_aload_n cx dX2_uneven_45 rfl ?_
    refine jg_get cx jp_js_o rfl inX2 1 (by decide) f19 rfl dX2_uneven_46 ?_
    refine jg_getN cx (jp_net_o jp_net2) rfl inX0 0 (by decide) (by decide +kernel) rfl dX2_uneven_49 ?_
    refine jg_iload_n cx dX2_uneven_52 rfl ?_
    refine jg_iald cx dX2_uneven_53 ((jp_net_1 jp_net2)) rfl (by omega) ?_
    refine jg_i2l cx dX2_uneven_54 ?_
    refine jg_lmul cx dX2_uneven_55 ?_
    refine jg_iload_n cx dX2_uneven_56 rfl ?_
    refine jg_callSl cx (n := 3) (jc_X2_partOf E l) gX2_uneven_X2_partOf rfl ⟨rfl, rfl⟩ ⟨(Nat.le_of_ble_eq_true rfl), (Nat.le_of_ble_eq_true rfl)⟩ (by decide +kernel) rfl rfl (Nat.le_of_ble_eq_true rfl) dX2_uneven_57 ?_
    refine jg_l2i cx dX2_uneven_60 ?_
    exact jg_iret cx dX2_uneven_61 (⟨(by first | with_reducible rfl | (simp only [jF_uneven, c4, ↓reduceIte, Bool.false_eq_true, Bool.true_eq_false, reduceCtorEq, eq_self, if_true, if_false, Bool.not_true, Bool.not_false]; first | done | rfl)), (by first | with_reducible rfl | (simp only [jF_uneven, c4, ↓reduceIte, Bool.false_eq_true, Bool.true_eq_false, reduceCtorEq, eq_self, if_true, if_false, Bool.not_true, Bool.not_false]; first | done | rfl))⟩)
  · refine jg_bipush cx (v := (-2)) dX2_uneven_7 (by decide) ?_
    exact jg_iret cx dX2_uneven_9 (⟨(by first | with_reducible rfl | (simp only [jF_uneven, c4, ↓reduceIte, Bool.false_eq_true, Bool.true_eq_false, reduceCtorEq, eq_self, if_true, if_false, Bool.not_true, Bool.not_false]; first | done | rfl)), (by first | with_reducible rfl | (simp only [jF_uneven, c4, ↓reduceIte, Bool.false_eq_true, Bool.true_eq_false, reduceCtorEq, eq_self, if_true, if_false, Bool.not_true, Bool.not_false]; first | done | rfl))⟩)
def jF_share (x pa : Int32) (h : jp_H) : Int32 × jp_H :=
  if jf_within x (nI 0) (nI 7) then
    (if jf_within pa (nI 0) (nI 1) then
      (if 0 ≤ lg_cmp (jf_sumJ (h.1 2) 8) 0 then ((jf_part (jf_sumJ (h.1 2) 8 * (h.1 2 1 x.toNatClampNeg).toInt64) (jf_sumS (h.1 2) 8).toInt64 pa).toInt32, h) else (-3, h))
    else (-2, h))
  else (-1, h)
set_option maxHeartbeats 1000000 in
set_option maxRecDepth 100000 in
theorem jc_X2_share (E : jp_E) (l : Launch) {h : jp_H} {x pa : Int32} : jc_M E l yX2_share wsX2_share ({ frames := 3, cells := 0, slots := 0, locals := 77 } : Room) [.ref (E.2.1 0 0), .int x, .int pa] h (jp_R (some (.int (jF_share x pa h).1)) (jF_share x pa h).2) := by
  refine jc_of (cc := cX2_share) (maxL := 5) (ret := some .int) (own := RX2) (lv := [(0, _), (1, _), (2, _)]) (by decide) rfl rfl (Nat.le_of_ble_eq_true rfl) rfl (fun X cx => ?_)
  have inX0 : ∀ w ∈ u_ws RX0 TX0 9, w ∈ wsX2_share := by decide +kernel
  have inX2 : ∀ w ∈ u_ws RX2 TX2 9, w ∈ wsX2_share := by decide +kernel
  have f19 : Cond.fieldLink RX2 19 "JobSpread" "now" "LJobSpread$Net;" ∈ wsX2_share := by decide +kernel
  refine jg_iload_n cx dX2_share_0 rfl ?_
  refine jg_callSi cx (n := 1) (jc_X2_isNode E l) gX2_share_X2_isNode rfl ⟨rfl, rfl⟩ ⟨(Nat.le_of_ble_eq_true rfl), (Nat.le_of_ble_eq_true rfl)⟩ (by decide +kernel) rfl rfl (Nat.le_of_ble_eq_true rfl) dX2_share_1 ?_
  refine jg_ifb_ne cx (tgt := 9) dX2_share_4 (by decide) (fun c4 => ?_) (fun c4 => ?_)
  · obtain ⟨i, hi, rfl⟩ := jf_node_of c4
    have ei : (nI i).toNatClampNeg = i := nI_clamp (by omega)
    refine jg_iload_n cx dX2_share_9 rfl ?_
    refine jg_callSi cx (n := 1) (jc_X2_isPart E l) gX2_share_X2_isPart rfl ⟨rfl, rfl⟩ ⟨(Nat.le_of_ble_eq_true rfl), (Nat.le_of_ble_eq_true rfl)⟩ (by decide +kernel) rfl rfl (Nat.le_of_ble_eq_true rfl) dX2_share_10 ?_
    refine jg_ifb_ne cx (tgt := 19) dX2_share_13 (by decide) (fun c13 => ?_) (fun c13 => ?_)
    · refine jg_aload_n cx dX2_share_19 rfl ?_
      refine jg_get cx jp_js_o rfl inX2 1 (by decide) f19 rfl dX2_share_20 ?_
      refine jg_callVNl cx (n := 0) (jc_X0_allJobs_h E l jp_net2 ) gX2_share_X0_allJobs_n145 (by decide +kernel) (by decide +kernel) (by decide +kernel) (by decide +kernel) rfl ⟨rfl, rfl⟩ ⟨(Nat.le_of_ble_eq_true rfl), (Nat.le_of_ble_eq_true rfl)⟩ (by decide +kernel) (jp_net_o jp_net2) rfl rfl rfl (Nat.le_of_ble_eq_true rfl) dX2_share_23 ?_
      refine jg_lstore_n cx (lv' := [(0, _), (1, _), (2, _), (3, _)]) dX2_share_26 (by decide) rfl ?_
      refine jg_lload_n cx dX2_share_27 rfl ?_
      refine jg_lconst cx (v := 0) dX2_share_28 rfl ?_
      refine jg_lcmp cx dX2_share_29 ?_
      refine jg_if_ge cx (tgt := 36) dX2_share_30 (by decide) (fun c30 => ?_) (fun c30 => ?_)
      · refine jg_lload_n cx dX2_share_36 rfl ?_
        refine jg_aload_n cx dX2_share_37 rfl ?_
        refine jg_get cx jp_js_o rfl inX2 1 (by decide) f19 rfl dX2_share_38 ?_
        refine jg_getN cx (jp_net_o jp_net2) rfl inX0 0 (by decide) (by decide +kernel) rfl dX2_share_41 ?_
        refine jg_iload_n cx dX2_share_44 rfl ?_
        refine jg_iald cx dX2_share_45 ((jp_net_1 jp_net2)) rfl (by omega) ?_
        refine jg_i2l cx dX2_share_46 ?_
        refine jg_lmul cx dX2_share_47 ?_
        refine jg_aload_n cx dX2_share_48 rfl ?_
        refine jg_get cx jp_js_o rfl inX2 1 (by decide) f19 rfl dX2_share_49 ?_
        refine jg_callVNi cx (n := 0) (jc_X0_allSpeeds_h E l jp_net2 ) gX2_share_X0_allSpeeds_n149 (by decide +kernel) (by decide +kernel) (by decide +kernel) (by decide +kernel) rfl ⟨rfl, rfl⟩ ⟨(Nat.le_of_ble_eq_true rfl), (Nat.le_of_ble_eq_true rfl)⟩ (by decide +kernel) (jp_net_o jp_net2) rfl rfl rfl (Nat.le_of_ble_eq_true rfl) dX2_share_52 ?_
        refine jg_i2l cx dX2_share_55 ?_
        refine jg_iload_n cx dX2_share_56 rfl ?_
        refine jg_callSl cx (n := 3) (jc_X2_partOf E l) gX2_share_X2_partOf rfl ⟨rfl, rfl⟩ ⟨(Nat.le_of_ble_eq_true rfl), (Nat.le_of_ble_eq_true rfl)⟩ (by decide +kernel) rfl rfl (Nat.le_of_ble_eq_true rfl) dX2_share_57 ?_
        refine jg_l2i cx dX2_share_60 ?_
        exact jg_iret cx dX2_share_61 (⟨(by first | with_reducible rfl | (simp only [jF_share, ei, c4, c13, if_pos c30, ↓reduceIte, Bool.false_eq_true, Bool.true_eq_false, reduceCtorEq, eq_self, if_true, if_false, Bool.not_true, Bool.not_false]; first | done | rfl)), (by first | with_reducible rfl | (simp only [jF_share, ei, c4, c13, if_pos c30, ↓reduceIte, Bool.false_eq_true, Bool.true_eq_false, reduceCtorEq, eq_self, if_true, if_false, Bool.not_true, Bool.not_false]; first | done | rfl))⟩)
      · refine jg_bipush cx (v := (-3)) dX2_share_33 (by decide) ?_
        exact jg_iret cx dX2_share_35 (⟨(by first | with_reducible rfl | (simp only [jF_share, c4, c13, if_neg c30, ↓reduceIte, Bool.false_eq_true, Bool.true_eq_false, reduceCtorEq, eq_self, if_true, if_false, Bool.not_true, Bool.not_false]; first | done | rfl)), (by first | with_reducible rfl | (simp only [jF_share, c4, c13, if_neg c30, ↓reduceIte, Bool.false_eq_true, Bool.true_eq_false, reduceCtorEq, eq_self, if_true, if_false, Bool.not_true, Bool.not_false]; first | done | rfl))⟩)
    · refine jg_bipush cx (v := (-2)) dX2_share_16 (by decide) ?_
      exact jg_iret cx dX2_share_18 (⟨(by first | with_reducible rfl | (simp only [jF_share, c4, c13, ↓reduceIte, Bool.false_eq_true, Bool.true_eq_false, reduceCtorEq, eq_self, if_true, if_false, Bool.not_true, Bool.not_false]; first | done | rfl)), (by first | with_reducible rfl | (simp only [jF_share, c4, c13, ↓reduceIte, Bool.false_eq_true, Bool.true_eq_false, reduceCtorEq, eq_self, if_true, if_false, Bool.not_true, Bool.not_false]; first | done | rfl))⟩)
  · refine jg_iconst cx (v := (-1)) dX2_share_7 (by decide) ?_
    exact jg_iret cx dX2_share_8 (⟨(by first | with_reducible rfl | (simp only [jF_share, c4, ↓reduceIte, Bool.false_eq_true, Bool.true_eq_false, reduceCtorEq, eq_self, if_true, if_false, Bool.not_true, Bool.not_false]; first | done | rfl)), (by first | with_reducible rfl | (simp only [jF_share, c4, ↓reduceIte, Bool.false_eq_true, Bool.true_eq_false, reduceCtorEq, eq_self, if_true, if_false, Bool.not_true, Bool.not_false]; first | done | rfl))⟩)
def jf_off (N : jf_B) (i : Nat) : Int64 := (N 2 i).toInt64 * (jf_sumS N 8).toInt64 - jf_sumJ N 8 * (N 1 i).toInt64
def jf_pot (N : jf_B) : Nat → Int64
  | 0 => 0
  | n + 1 => jf_pot N n + jf_off N n * jf_off N n
set_option maxHeartbeats 1000000 in
set_option maxRecDepth 100000 in
theorem jc_X2_potential (E : jp_E) (l : Launch) {h : jp_H}  : jc_M E l yX2_potential wsX2_potential ({ frames := 1, cells := 0, slots := 0, locals := 23 } : Room) [.ref (E.2.1 0 0)] h (jp_R (some (.long (((jf_pot (h.1 2) 8, h) : Int64 × jp_H)).1)) (((jf_pot (h.1 2) 8, h) : Int64 × jp_H)).2) := by
  refine jc_of (cc := cX2_potential) (maxL := 10) (ret := some .long) (own := RX2) (lv := [(0, _)]) (by decide) rfl rfl (Nat.le_of_ble_eq_true rfl) rfl (fun X cx => ?_)
  have inX0 : ∀ w ∈ u_ws RX0 TX0 9, w ∈ wsX2_potential := by decide +kernel
  have inX2 : ∀ w ∈ u_ws RX2 TX2 9, w ∈ wsX2_potential := by decide +kernel
  have f19 : Cond.fieldLink RX2 19 "JobSpread" "now" "LJobSpread$Net;" ∈ wsX2_potential := by decide +kernel
  refine jg_aload_n cx dX2_potential_0 rfl ?_
  refine jg_get cx jp_js_o rfl inX2 1 (by decide) f19 rfl dX2_potential_1 ?_
  refine jg_callVNl cx (n := 0) (jc_X0_allJobs_h E l jp_net2 ) gX2_potential_X0_allJobs_n145 (by decide +kernel) (by decide +kernel) (by decide +kernel) (by decide +kernel) rfl ⟨rfl, rfl⟩ ⟨(Nat.le_of_ble_eq_true rfl), (Nat.le_of_ble_eq_true rfl)⟩ (by decide +kernel) (jp_net_o jp_net2) rfl rfl rfl (Nat.le_of_ble_eq_true rfl) dX2_potential_4 ?_
  refine jg_lstore_n cx (lv' := [(0, _), (1, _)]) dX2_potential_7 (by decide) rfl ?_
  refine jg_aload_n cx dX2_potential_8 rfl ?_
  refine jg_get cx jp_js_o rfl inX2 1 (by decide) f19 rfl dX2_potential_9 ?_
  refine jg_callVNi cx (n := 0) (jc_X0_allSpeeds_h E l jp_net2 ) gX2_potential_X0_allSpeeds_n149 (by decide +kernel) (by decide +kernel) (by decide +kernel) (by decide +kernel) rfl ⟨rfl, rfl⟩ ⟨(Nat.le_of_ble_eq_true rfl), (Nat.le_of_ble_eq_true rfl)⟩ (by decide +kernel) (jp_net_o jp_net2) rfl rfl rfl (Nat.le_of_ble_eq_true rfl) dX2_potential_12 ?_
  refine jg_i2l cx dX2_potential_15 ?_
  refine jg_lstore_n cx (lv' := [(0, _), (1, _), (3, _)]) dX2_potential_16 (by decide) rfl ?_
  refine jg_lconst cx (v := 0) dX2_potential_17 rfl ?_
  refine jg_lstore cx (lv' := [(0, _), (1, _), (3, _), (5, _)]) dX2_potential_18 (by decide) rfl ?_
  refine jg_iconst cx (v := nI 0) dX2_potential_20 (by decide) ?_
  refine jg_istore cx (lv' := [(0, _), (1, _), (3, _), (5, _), (7, _)]) dX2_potential_21 (by decide) rfl ?_
  have lp23 : ∀ (d23 i : Nat), i + d23 = 8 → X 23 [(0, .ref (E.2.1 0 0)), (1, .long (jf_sumJ (h.1 2) 8)), (3, .long (jf_sumS (h.1 2) 8).toInt64), (5, .long (jf_pot (h.1 2) i)), (7, .int (nI i))] [] (h) := by
    intro d23
    induction d23 with
    | zero =>
      intro i  hr23 
      obtain rfl : i = 8 := by omega
      refine jg_iload cx dX2_potential_23 rfl ?_
      refine jg_bipush cx (v := nI 8) dX2_potential_25 (by decide) ?_
      refine jg_icmpN_ge cx (tgt := 75) dX2_potential_27 (by decide) (by omega) (by omega) (fun c27 => ?_) (fun c27 => ?_)
      · refine jg_lload cx dX2_potential_75 rfl ?_
        exact jg_lret cx dX2_potential_77 (⟨rfl, rfl⟩)
      · exact absurd hr23 (by omega)
    | succ d23 ih23 =>
      intro i  hr23 
      refine jg_iload cx dX2_potential_23 rfl ?_
      refine jg_bipush cx (v := nI 8) dX2_potential_25 (by decide) ?_
      refine jg_icmpN_ge cx (tgt := 75) dX2_potential_27 (by decide) (by omega) (by omega) (fun c27 => ?_) (fun c27 => ?_)
      · exact absurd hr23 (by omega)
      · refine jg_aload_n cx dX2_potential_30 rfl ?_
        refine jg_get cx jp_js_o rfl inX2 1 (by decide) f19 rfl dX2_potential_31 ?_
        refine jg_getN cx (jp_net_o jp_net2) rfl inX0 1 (by decide) (by decide +kernel) rfl dX2_potential_34 ?_
        refine jg_iload cx dX2_potential_37 rfl ?_
        refine jg_iald cx dX2_potential_39 ((jp_net_2 jp_net2)) rfl (by omega) ?_
        refine jg_i2l cx dX2_potential_40 ?_
        refine jg_lload_n cx dX2_potential_41 rfl ?_
        refine jg_lmul cx dX2_potential_42 ?_
        refine jg_lload_n cx dX2_potential_43 rfl ?_
        refine jg_aload_n cx dX2_potential_44 rfl ?_
        refine jg_get cx jp_js_o rfl inX2 1 (by decide) f19 rfl dX2_potential_45 ?_
        refine jg_getN cx (jp_net_o jp_net2) rfl inX0 0 (by decide) (by decide +kernel) rfl dX2_potential_48 ?_
        refine jg_iload cx dX2_potential_51 rfl ?_
        refine jg_iald cx dX2_potential_53 ((jp_net_1 jp_net2)) rfl (by omega) ?_
        refine jg_i2l cx dX2_potential_54 ?_
        refine jg_lmul cx dX2_potential_55 ?_
        refine jg_lsub cx dX2_potential_56 ?_
        refine jg_lstore cx (lv' := [(0, _), (1, _), (3, _), (5, _), (7, _), (8, _)]) dX2_potential_57 (by decide) rfl ?_
        refine jg_lload cx dX2_potential_59 rfl ?_
        refine jg_lload cx dX2_potential_61 rfl ?_
        refine jg_lload cx dX2_potential_63 rfl ?_
        refine jg_lmul cx dX2_potential_65 ?_
        refine jg_ladd cx dX2_potential_66 ?_
        refine jg_lstore cx (lv' := [(0, _), (1, _), (3, _), (5, _), (7, _), (8, _)]) dX2_potential_67 (by decide) rfl ?_
        refine jg_iincN cx (d := 1) (lv' := [(0, _), (1, _), (3, _), (5, _), (7, _), (8, _)]) dX2_potential_69 rfl (by decide) (by decide) rfl ?_
        refine jg_goto cx (tgt := 23) dX2_potential_72 (by decide) ?_
        refine jg_sub cx (lv' := [(0, _), (1, _), (3, _), (5, _), (7, _)]) [0, 1, 2, 3, 4] rfl ?_
        exact jg_to (ih23 (i + 1)  (by omega) ) rfl rfl rfl
  exact jg_to (lp23 8 0  (by omega) ) rfl rfl rfl
theorem jp_u_02 (h : jp_H) (N : jf_B) (L : jf_L) : (jp_u h 0 N L).1 2 = h.1 2 := jp_u_n1 h N L (by decide)
theorem jc_joins_02 (E : jp_E) (l : Launch) {h : jp_H} {N : jf_B} {L : jf_L} {a c : Nat} (ha : a < 8) (hc : c < 8) : jc_M E l yX0_joins wsX0_joins ({ frames := 1, cells := 0, slots := 0, locals := 21 } : Room) [.ref (E.2.1 2 0), .int (nI a), .int (nI c)] (jp_u h 0 N L) (jp_R (some (.int (jp_b (jf_joins (h.1 2) a c)))) (jp_u h 0 N L)) := by
  have t9 := jc_X0_joins_h E l (h := jp_u h 0 N L) jp_net2 ha hc
  rw [jp_u_02] at t9
  exact t9
theorem jc_below_02 (E : jp_E) (l : Launch) {h : jp_H} {N : jf_B} {L : jf_L} : jc_M E l yX0_nodesBelowZero wsX0_nodesBelowZero ({ frames := 0, cells := 0, slots := 0, locals := 0 } : Room) [.ref (E.2.1 2 0)] (jp_u h 0 N L) (jp_R (some (.int (jf_below (h.1 2) 8))) (jp_u h 0 N L)) := by
  have t9 := jc_X0_nodesBelowZero_h E l (h := jp_u h 0 N L) jp_net2
  rw [jp_u_02] at t9
  exact t9
theorem jc_measure_02 (E : jp_E) (l : Launch) {h : jp_H} {N : jf_B} {L : jf_L} : jc_M E l yX0_measure wsX0_measure ({ frames := 1, cells := 0, slots := 0, locals := 21 } : Room) [.ref (E.2.1 2 0)] (jp_u h 0 N L) (jp_R (some (.int (jf_measure (h.1 2)))) (jp_u h 0 N L)) := by
  have t9 := jc_X0_measure_h E l (h := jp_u h 0 N L) jp_net2
  rw [jp_u_02] at t9
  exact t9
def jf_un1 (me : Int32) (i : Nat) (L : jf_L) : jf_L := jf_wL L 2 i (L 1 i * me.toInt64)
def jf_unW (A : jf_B) (L : jf_L) (a c : Nat) : Int64 := L 1 a * (A 1 c).toInt64 - L 1 c * (A 1 a).toInt64
def jf_unS (A : jf_B) (a c : Nat) (L : jf_L) : jf_L := if jf_joins A a c then jf_wL (jf_wL L 2 a (L 2 a - jf_unW A L a c)) 2 c (jf_wL L 2 a (L 2 a - jf_unW A L a c) 2 c + jf_unW A L a c) else L
def jf_unR (A : jf_B) (a : Nat) (L : jf_L) : jf_L := jf_fr (jf_unS A a) L (a + 1) (8 - (a + 1))
def jf_unc (A : jf_B) (me : Int32) (L : jf_L) : jf_L := va_up (jf_it (jf_unR A) (jf_it (jf_un1 me) L 8) 8) 1 (va_cpy (jf_it (jf_unR A) (jf_it (jf_un1 me) L 8) 8 2) (jf_it (jf_unR A) (jf_it (jf_un1 me) L 8) 8 1) 0 0 8)
set_option maxHeartbeats 1000000 in
set_option maxRecDepth 100000 in
theorem jc_X2_flowUncut (E : jp_E) (l : Launch) {h : jp_H} {N : jf_B} {L : jf_L} {me : Int32} : jc_M E l yX2_flowUncut wsX2_flowUncut ({ frames := 2, cells := 0, slots := 0, locals := 43 } : Room) [.ref (E.2.1 0 0), .int me] (jp_u h 0 N L) (jp_R none (jp_u h 0 N (jf_unc (h.1 2) me L))) := by
  refine jc_of (cc := cX2_flowUncut) (maxL := 6) (ret := none) (own := RX2) (lv := [(0, _), (1, _)]) (by decide) rfl rfl (Nat.le_of_ble_eq_true rfl) rfl (fun X cx => ?_)
  have inX0 : ∀ w ∈ u_ws RX0 TX0 9, w ∈ wsX2_flowUncut := by decide +kernel
  have inX2 : ∀ w ∈ u_ws RX2 TX2 9, w ∈ wsX2_flowUncut := by decide +kernel
  have f19 : Cond.fieldLink RX2 19 "JobSpread" "now" "LJobSpread$Net;" ∈ wsX2_flowUncut := by decide +kernel
  have f39 : Cond.fieldLink RX2 39 "JobSpread" "level" "[J" ∈ wsX2_flowUncut := by decide +kernel
  have f43 : Cond.fieldLink RX2 43 "JobSpread" "nextLevel" "[J" ∈ wsX2_flowUncut := by decide +kernel
  refine jg_iconst cx (v := nI 0) dX2_flowUncut_0 (by decide) ?_
  refine jg_istore_n cx (lv' := [(0, _), (1, _), (2, _)]) dX2_flowUncut_1 (by decide) rfl ?_
  have lp2 : ∀ (d2 i : Nat), i + d2 = 8 → X 2 [(0, .ref (E.2.1 0 0)), (1, .int me), (2, .int (nI i))] [] (jp_u h 0 N (jf_it (jf_un1 me) L i)) := by
    intro d2
    induction d2 with
    | zero =>
      intro i  hr2 
      obtain rfl : i = 8 := by omega
      refine jg_iload_n cx dX2_flowUncut_2 rfl ?_
      refine jg_bipush cx (v := nI 8) dX2_flowUncut_3 (by decide) ?_
      refine jg_icmpN_ge cx (tgt := 29) dX2_flowUncut_5 (by decide) (by omega) (by omega) (fun c5 => ?_) (fun c5 => ?_)
      · refine jg_iconst cx (v := nI 0) dX2_flowUncut_29 (by decide) ?_
        refine jg_istore_n cx (lv' := [(0, _), (1, _), (2, _)]) dX2_flowUncut_30 (by decide) rfl ?_
        have lp31 : ∀ (d31 a : Nat), a + d31 = 8 → X 31 [(0, .ref (E.2.1 0 0)), (1, .int me), (2, .int (nI a))] [] (jp_u h 0 N (jf_it (jf_unR (h.1 2)) (jf_it (jf_un1 me) L 8) a)) := by
          intro d31
          induction d31 with
          | zero =>
            intro a  hr31 
            obtain rfl : a = 8 := by omega
            refine jg_iload_n cx dX2_flowUncut_31 rfl ?_
            refine jg_bipush cx (v := nI 8) dX2_flowUncut_32 (by decide) ?_
            refine jg_icmpN_ge cx (tgt := 130) dX2_flowUncut_34 (by decide) (by omega) (by omega) (fun c34 => ?_) (fun c34 => ?_)
            · refine jg_aload_n cx dX2_flowUncut_130 rfl ?_
              refine jg_get cx jp_js_o rfl inX2 8 (by decide) f43 rfl dX2_flowUncut_131 ?_
              refine jg_iconst cx (v := nI 0) dX2_flowUncut_134 (by decide) ?_
              refine jg_aload_n cx dX2_flowUncut_135 rfl ?_
              refine jg_get cx jp_js_o rfl inX2 7 (by decide) f39 rfl dX2_flowUncut_136 ?_
              refine jg_iconst cx (v := nI 0) dX2_flowUncut_139 (by decide) ?_
              refine jg_bipush cx (v := nI 8) dX2_flowUncut_140 (by decide) ?_
              refine jg_copyl cx (by decide +kernel) (by decide +kernel) (by decide +kernel) (by decide +kernel) jp_js_2 jp_js_1 (Nat.le_of_ble_eq_true rfl) (Nat.le_of_ble_eq_true rfl) dX2_flowUncut_142 ?_
              rw [jp_u_sl, jp_u_2]
              exact jg_vret cx dX2_flowUncut_145 (⟨rfl, (by first | with_reducible rfl | (simp only [jf_unc, ↓reduceIte, Bool.false_eq_true, Bool.true_eq_false, reduceCtorEq, eq_self, if_true, if_false, Bool.not_true, Bool.not_false]; first | done | rfl))⟩)
            · exact absurd hr31 (by omega)
          | succ d31 ih31 =>
            intro a  hr31 
            refine jg_iload_n cx dX2_flowUncut_31 rfl ?_
            refine jg_bipush cx (v := nI 8) dX2_flowUncut_32 (by decide) ?_
            refine jg_icmpN_ge cx (tgt := 130) dX2_flowUncut_34 (by decide) (by omega) (by omega) (fun c34 => ?_) (fun c34 => ?_)
            · exact absurd hr31 (by omega)
            · refine jg_iload_n cx dX2_flowUncut_37 rfl ?_
              refine jg_iconst cx (v := nI 1) dX2_flowUncut_38 (by decide) ?_
              refine jg_iaddN cx dX2_flowUncut_39 ?_
              refine jg_istore_n cx (lv' := [(0, _), (1, _), (2, _), (3, _)]) dX2_flowUncut_40 (by decide) rfl ?_
              have lp41 : ∀ (d41 n : Nat), a + 1 + n + d41 = 8 → X 41 [(0, .ref (E.2.1 0 0)), (1, .int me), (2, .int (nI a)), (3, .int (nI (a + 1 + n)))] [] (jp_u h 0 N (jf_fr (jf_unS (h.1 2) a) (jf_it (jf_unR (h.1 2)) (jf_it (jf_un1 me) L 8) a) (a + 1) n)) := by
                intro d41
                induction d41 with
                | zero =>
                  intro n  hr41 
                  obtain rfl : n = 8 - (a + 1) := by omega
                  refine jg_iload_n cx dX2_flowUncut_41 rfl ?_
                  refine jg_bipush cx (v := nI 8) dX2_flowUncut_42 (by decide) ?_
                  refine jg_icmpN_ge cx (tgt := 124) dX2_flowUncut_44 (by decide) (by omega) (by omega) (fun c44 => ?_) (fun c44 => ?_)
                  · refine jg_iincN cx (d := 1) (lv' := [(0, _), (1, _), (2, _), (3, _)]) dX2_flowUncut_124 rfl (by decide) (by decide) rfl ?_
                    refine jg_goto cx (tgt := 31) dX2_flowUncut_127 (by decide) ?_
                    refine jg_sub cx (lv' := [(0, _), (1, _), (2, _)]) [0, 1, 2] rfl ?_
                    exact jg_to (ih31 (a + 1)  (by omega) ) rfl rfl rfl
                  · exact absurd hr41 (by omega)
                | succ d41 ih41 =>
                  intro n  hr41 
                  refine jg_iload_n cx dX2_flowUncut_41 rfl ?_
                  refine jg_bipush cx (v := nI 8) dX2_flowUncut_42 (by decide) ?_
                  refine jg_icmpN_ge cx (tgt := 124) dX2_flowUncut_44 (by decide) (by omega) (by omega) (fun c44 => ?_) (fun c44 => ?_)
                  · exact absurd hr41 (by omega)
                  · refine jg_aload_n cx dX2_flowUncut_47 rfl ?_
                    refine jg_get cx jp_js_o rfl inX2 1 (by decide) f19 rfl dX2_flowUncut_48 ?_
                    refine jg_iload_n cx dX2_flowUncut_51 rfl ?_
                    refine jg_iload_n cx dX2_flowUncut_52 rfl ?_
                    refine jg_callVNi cx (n := 2) (jc_joins_02 E l (by omega) (by omega)) gX2_flowUncut_X0_joins_n68 (by decide +kernel) (by decide +kernel) (by decide +kernel) (by decide +kernel) rfl ⟨rfl, rfl⟩ ⟨(Nat.le_of_ble_eq_true rfl), (Nat.le_of_ble_eq_true rfl)⟩ (by decide +kernel) (jp_net_o jp_net2) rfl rfl rfl (Nat.le_of_ble_eq_true rfl) dX2_flowUncut_53 ?_
                    refine jg_ifb_eq cx (tgt := 118) dX2_flowUncut_56 (by decide) (fun c56 => ?_) (fun c56 => ?_)
                    · refine jg_iincN cx (d := 1) (lv' := [(0, _), (1, _), (2, _), (3, _)]) dX2_flowUncut_118 rfl (by decide) (by decide) rfl ?_
                      refine jg_goto cx (tgt := 41) dX2_flowUncut_121 (by decide) ?_
                      exact jg_to (ih41 (n + 1)  (by omega) ) rfl rfl (by first | with_reducible rfl | (simp only [jf_fr, jf_unS, jf_unW, c56, ↓reduceIte, Bool.false_eq_true, Bool.true_eq_false, reduceCtorEq, eq_self, if_true, if_false, Bool.not_true, Bool.not_false]; first | done | rfl))
                    · refine jg_aload_n cx dX2_flowUncut_59 rfl ?_
                      refine jg_get cx jp_js_o rfl inX2 7 (by decide) f39 rfl dX2_flowUncut_60 ?_
                      refine jg_iload_n cx dX2_flowUncut_63 rfl ?_
                      refine jg_laldU cx dX2_flowUncut_64 (jp_js_1) rfl (by omega) ?_
                      refine jg_aload_n cx dX2_flowUncut_65 rfl ?_
                      refine jg_get cx jp_js_o rfl inX2 1 (by decide) f19 rfl dX2_flowUncut_66 ?_
                      refine jg_getN cx (jp_net_o jp_net2) rfl inX0 0 (by decide) (by decide +kernel) rfl dX2_flowUncut_69 ?_
                      refine jg_iload_n cx dX2_flowUncut_72 rfl ?_
                      refine jg_iald cx dX2_flowUncut_73 ((jp_net_1 jp_net2)) rfl (by omega) ?_
                      rw [jp_u_02]
                      refine jg_i2l cx dX2_flowUncut_74 ?_
                      refine jg_lmul cx dX2_flowUncut_75 ?_
                      refine jg_aload_n cx dX2_flowUncut_76 rfl ?_
                      refine jg_get cx jp_js_o rfl inX2 7 (by decide) f39 rfl dX2_flowUncut_77 ?_
                      refine jg_iload_n cx dX2_flowUncut_80 rfl ?_
                      refine jg_laldU cx dX2_flowUncut_81 (jp_js_1) rfl (by omega) ?_
                      refine jg_aload_n cx dX2_flowUncut_82 rfl ?_
                      refine jg_get cx jp_js_o rfl inX2 1 (by decide) f19 rfl dX2_flowUncut_83 ?_
                      refine jg_getN cx (jp_net_o jp_net2) rfl inX0 0 (by decide) (by decide +kernel) rfl dX2_flowUncut_86 ?_
                      refine jg_iload_n cx dX2_flowUncut_89 rfl ?_
                      refine jg_iald cx dX2_flowUncut_90 ((jp_net_1 jp_net2)) rfl (by omega) ?_
                      rw [jp_u_02]
                      refine jg_i2l cx dX2_flowUncut_91 ?_
                      refine jg_lmul cx dX2_flowUncut_92 ?_
                      refine jg_lsub cx dX2_flowUncut_93 ?_
                      refine jg_lstore cx (lv' := [(0, _), (1, _), (2, _), (3, _), (4, _)]) dX2_flowUncut_94 (by decide) rfl ?_
                      refine jg_aload_n cx dX2_flowUncut_96 rfl ?_
                      refine jg_get cx jp_js_o rfl inX2 8 (by decide) f43 rfl dX2_flowUncut_97 ?_
                      refine jg_iload_n cx dX2_flowUncut_100 rfl ?_
                      refine jg_dup2 cx dX2_flowUncut_101 rfl rfl ?_
                      refine jg_laldU cx dX2_flowUncut_102 (jp_js_2) rfl (by omega) ?_
                      refine jg_lload cx dX2_flowUncut_103 rfl ?_
                      refine jg_lsub cx dX2_flowUncut_105 ?_
                      refine jg_lastU cx dX2_flowUncut_106 (jp_js_2) rfl (by omega) ?_
                      refine jg_aload_n cx dX2_flowUncut_107 rfl ?_
                      refine jg_get cx jp_js_o rfl inX2 8 (by decide) f43 rfl dX2_flowUncut_108 ?_
                      refine jg_iload_n cx dX2_flowUncut_111 rfl ?_
                      refine jg_dup2 cx dX2_flowUncut_112 rfl rfl ?_
                      refine jg_laldU cx dX2_flowUncut_113 (jp_js_2) rfl (by omega) ?_
                      refine jg_lload cx dX2_flowUncut_114 rfl ?_
                      refine jg_ladd cx dX2_flowUncut_116 ?_
                      refine jg_lastU cx dX2_flowUncut_117 (jp_js_2) rfl (by omega) ?_
                      refine jg_iincN cx (d := 1) (lv' := [(0, _), (1, _), (2, _), (3, _), (4, _)]) dX2_flowUncut_118 rfl (by decide) (by decide) rfl ?_
                      refine jg_goto cx (tgt := 41) dX2_flowUncut_121 (by decide) ?_
                      refine jg_sub cx (lv' := [(0, _), (1, _), (2, _), (3, _)]) [0, 1, 2, 3] rfl ?_
                      exact jg_to (ih41 (n + 1)  (by omega) ) rfl rfl (by first | with_reducible rfl | (simp only [jf_fr, jf_unS, jf_unW, c56, ↓reduceIte, Bool.false_eq_true, Bool.true_eq_false, reduceCtorEq, eq_self, if_true, if_false, Bool.not_true, Bool.not_false]; first | done | rfl))
              exact jg_to (lp41 (8 - (a + 1)) 0  (by omega) ) rfl rfl rfl
        exact jg_to (lp31 8 0  (by omega) ) rfl rfl rfl
      · exact absurd hr2 (by omega)
    | succ d2 ih2 =>
      intro i  hr2 
      refine jg_iload_n cx dX2_flowUncut_2 rfl ?_
      refine jg_bipush cx (v := nI 8) dX2_flowUncut_3 (by decide) ?_
      refine jg_icmpN_ge cx (tgt := 29) dX2_flowUncut_5 (by decide) (by omega) (by omega) (fun c5 => ?_) (fun c5 => ?_)
      · exact absurd hr2 (by omega)
      · refine jg_aload_n cx dX2_flowUncut_8 rfl ?_
        refine jg_get cx jp_js_o rfl inX2 8 (by decide) f43 rfl dX2_flowUncut_9 ?_
        refine jg_iload_n cx dX2_flowUncut_12 rfl ?_
        refine jg_aload_n cx dX2_flowUncut_13 rfl ?_
        refine jg_get cx jp_js_o rfl inX2 7 (by decide) f39 rfl dX2_flowUncut_14 ?_
        refine jg_iload_n cx dX2_flowUncut_17 rfl ?_
        refine jg_laldU cx dX2_flowUncut_18 (jp_js_1) rfl (by omega) ?_
        refine jg_iload_n cx dX2_flowUncut_19 rfl ?_
        refine jg_i2l cx dX2_flowUncut_20 ?_
        refine jg_lmul cx dX2_flowUncut_21 ?_
        refine jg_lastU cx dX2_flowUncut_22 (jp_js_2) rfl (by omega) ?_
        refine jg_iincN cx (d := 1) (lv' := [(0, _), (1, _), (2, _)]) dX2_flowUncut_23 rfl (by decide) (by decide) rfl ?_
        refine jg_goto cx (tgt := 2) dX2_flowUncut_26 (by decide) ?_
        exact jg_to (ih2 (i + 1)  (by omega) ) rfl rfl rfl
  exact jg_to (lp2 8 0  (by omega) ) rfl rfl rfl
def jf_idL0 (A : jf_B) (L : jf_L) (i : Nat) : jf_L := jf_it (fun j M => jf_wL M 1 j (A 2 j).toInt64) L i
def jf_idS (A : jf_B) (L : jf_L) (r : Nat) : jf_L := jf_it (fun _ M => jf_unc A (jf_measure A) M) (jf_idL0 A L 8) r
def jf_idD (A : jf_B) (r : Nat) : Int64 := jf_it (fun _ x => x * (jf_measure A).toInt64) 1 r
def jF_ideal (x r pa : Int32) (A : jf_B) (L : jf_L) : Int64 × jf_L :=
  if jf_within x (nI 0) (nI 7) then
    (if jf_within r (nI 0) (nI 8) then
      (if jf_within pa (nI 0) (nI 1) then
        (if jf_below A 8 ≤ 0 then (jf_part (jf_idS A L r.toNatClampNeg 1 x.toNatClampNeg) (jf_idD A r.toNatClampNeg) pa, jf_idS A L r.toNatClampNeg) else (-3, L))
      else (-2, L))
    else (-2, L))
  else (-1, L)
set_option maxHeartbeats 1000000 in
set_option maxRecDepth 100000 in
theorem jc_X2_ideal (E : jp_E) (l : Launch) {h : jp_H} {N : jf_B} {L : jf_L} {x r pa : Int32} : jc_M E l yX2_ideal wsX2_ideal ({ frames := 3, cells := 0, slots := 0, locals := 77 } : Room) [.ref (E.2.1 0 0), .int x, .int r, .int pa] (jp_u h 0 N L) (jp_R (some (.long (jF_ideal x r pa (h.1 2) L).1)) (jp_u h 0 N (jF_ideal x r pa (h.1 2) L).2)) := by
  refine jc_of (cc := cX2_ideal) (maxL := 8) (ret := some .long) (own := RX2) (lv := [(0, _), (1, _), (2, _), (3, _)]) (by decide) rfl rfl (Nat.le_of_ble_eq_true rfl) rfl (fun X cx => ?_)
  have inX0 : ∀ w ∈ u_ws RX0 TX0 9, w ∈ wsX2_ideal := by decide +kernel
  have inX2 : ∀ w ∈ u_ws RX2 TX2 9, w ∈ wsX2_ideal := by decide +kernel
  have f19 : Cond.fieldLink RX2 19 "JobSpread" "now" "LJobSpread$Net;" ∈ wsX2_ideal := by decide +kernel
  have f39 : Cond.fieldLink RX2 39 "JobSpread" "level" "[J" ∈ wsX2_ideal := by decide +kernel
  refine jg_iload_n cx dX2_ideal_0 rfl ?_
  refine jg_callSi cx (n := 1) (jc_X2_isNode E l) gX2_ideal_X2_isNode rfl ⟨rfl, rfl⟩ ⟨(Nat.le_of_ble_eq_true rfl), (Nat.le_of_ble_eq_true rfl)⟩ (by decide +kernel) rfl rfl (Nat.le_of_ble_eq_true rfl) dX2_ideal_1 ?_
  refine jg_ifb_ne cx (tgt := 11) dX2_ideal_4 (by decide) (fun c4 => ?_) (fun c4 => ?_)
  · obtain ⟨i, hi, rfl⟩ := jf_node_of c4
    have ei : (nI i).toNatClampNeg = i := nI_clamp (by omega)
    refine jg_iload_n cx dX2_ideal_11 rfl ?_
    refine jg_iconst cx (v := nI 0) dX2_ideal_12 (by decide) ?_
    refine jg_bipush cx (v := nI 8) dX2_ideal_13 (by decide) ?_
    refine jg_callSi cx (n := 3) (jc_X2_isWithin E l) gX2_ideal_X2_isWithin rfl ⟨rfl, rfl⟩ ⟨(Nat.le_of_ble_eq_true rfl), (Nat.le_of_ble_eq_true rfl)⟩ (by decide +kernel) rfl rfl (Nat.le_of_ble_eq_true rfl) dX2_ideal_15 ?_
    refine jg_ifb_eq cx (tgt := 28) dX2_ideal_18 (by decide) (fun c18 => ?_) (fun c18 => ?_)
    · refine jg_ldc2 cx (v := (-2)) (by decide +kernel) dX2_ideal_28 ?_
      exact jg_lret cx dX2_ideal_31 (⟨(by first | with_reducible rfl | (simp only [jF_ideal, c4, c18, ↓reduceIte, Bool.false_eq_true, Bool.true_eq_false, reduceCtorEq, eq_self, if_true, if_false, Bool.not_true, Bool.not_false]; first | done | rfl)), (by first | with_reducible rfl | (simp only [jF_ideal, c4, c18, ↓reduceIte, Bool.false_eq_true, Bool.true_eq_false, reduceCtorEq, eq_self, if_true, if_false, Bool.not_true, Bool.not_false]; first | done | rfl))⟩)
    · obtain ⟨k, hk, rfl⟩ := jf_within_of (by decide) c18
      have ek : (nI k).toNatClampNeg = k := nI_clamp (by omega)
      refine jg_iload_n cx dX2_ideal_21 rfl ?_
      refine jg_callSi cx (n := 1) (jc_X2_isPart E l) gX2_ideal_X2_isPart rfl ⟨rfl, rfl⟩ ⟨(Nat.le_of_ble_eq_true rfl), (Nat.le_of_ble_eq_true rfl)⟩ (by decide +kernel) rfl rfl (Nat.le_of_ble_eq_true rfl) dX2_ideal_22 ?_
      refine jg_ifb_ne cx (tgt := 32) dX2_ideal_25 (by decide) (fun c25 => ?_) (fun c25 => ?_)
      · refine jg_aload_n cx dX2_ideal_32 rfl ?_
        refine jg_get cx jp_js_o rfl inX2 1 (by decide) f19 rfl dX2_ideal_33 ?_
        refine jg_callVNi cx (n := 0) (jc_below_02 E l) gX2_ideal_X0_nodesBelowZero_n156 (by decide +kernel) (by decide +kernel) (by decide +kernel) (by decide +kernel) rfl ⟨rfl, rfl⟩ ⟨(Nat.le_of_ble_eq_true rfl), (Nat.le_of_ble_eq_true rfl)⟩ (by decide +kernel) (jp_net_o jp_net2) rfl rfl rfl (Nat.le_of_ble_eq_true rfl) dX2_ideal_36 ?_
        refine jg_if_le cx (tgt := 46) dX2_ideal_39 (by decide) (fun c39 => ?_) (fun c39 => ?_)
        · refine jg_iconst cx (v := nI 0) dX2_ideal_46 (by decide) ?_
          refine jg_istore cx (lv' := [(0, _), (1, _), (2, _), (3, _), (4, _)]) dX2_ideal_47 (by decide) rfl ?_
          have lp49 : ∀ (d49 j : Nat), j + d49 = 8 → X 49 [(0, .ref (E.2.1 0 0)), (1, .int (nI i)), (2, .int (nI k)), (3, .int pa), (4, .int (nI j))] [] (jp_u h 0 N (jf_idL0 (h.1 2) L j)) := by
            intro d49
            induction d49 with
            | zero =>
              intro j  hr49 
              obtain rfl : j = 8 := by omega
              refine jg_iload cx dX2_ideal_49 rfl ?_
              refine jg_bipush cx (v := nI 8) dX2_ideal_51 (by decide) ?_
              refine jg_icmpN_ge cx (tgt := 80) dX2_ideal_53 (by decide) (by omega) (by omega) (fun c53 => ?_) (fun c53 => ?_)
              · refine jg_aload_n cx dX2_ideal_80 rfl ?_
                refine jg_get cx jp_js_o rfl inX2 1 (by decide) f19 rfl dX2_ideal_81 ?_
                refine jg_callVNi cx (n := 0) (jc_measure_02 E l) gX2_ideal_X0_measure_n161 (by decide +kernel) (by decide +kernel) (by decide +kernel) (by decide +kernel) rfl ⟨rfl, rfl⟩ ⟨(Nat.le_of_ble_eq_true rfl), (Nat.le_of_ble_eq_true rfl)⟩ (by decide +kernel) (jp_net_o jp_net2) rfl rfl rfl (Nat.le_of_ble_eq_true rfl) dX2_ideal_84 ?_
                refine jg_istore cx (lv' := [(0, _), (1, _), (2, _), (3, _), (4, _)]) dX2_ideal_87 (by decide) rfl ?_
                refine jg_lconst cx (v := 1) dX2_ideal_89 rfl ?_
                refine jg_lstore cx (lv' := [(0, _), (1, _), (2, _), (3, _), (4, _), (5, _)]) dX2_ideal_90 (by decide) rfl ?_
                refine jg_iconst cx (v := nI 0) dX2_ideal_92 (by decide) ?_
                refine jg_istore cx (lv' := [(0, _), (1, _), (2, _), (3, _), (4, _), (5, _), (7, _)]) dX2_ideal_93 (by decide) rfl ?_
                have lp95 : ∀ (d95 q : Nat), q + d95 = k → X 95 [(0, .ref (E.2.1 0 0)), (1, .int (nI i)), (2, .int (nI k)), (3, .int pa), (4, .int (jf_measure (h.1 2))), (5, .long (jf_idD (h.1 2) q)), (7, .int (nI q))] [] (jp_u h 0 N (jf_idS (h.1 2) L q)) := by
                  intro d95
                  induction d95 with
                  | zero =>
                    intro q  hr95 
                    refine jg_iload cx dX2_ideal_95 rfl ?_
                    refine jg_iload_n cx dX2_ideal_97 rfl ?_
                    refine jg_icmpN_ge cx (tgt := 121) dX2_ideal_98 (by decide) (by omega) (by omega) (fun c98 => ?_) (fun c98 => ?_)
                    · refine jg_aload_n cx dX2_ideal_121 rfl ?_
                      refine jg_get cx jp_js_o rfl inX2 7 (by decide) f39 rfl dX2_ideal_122 ?_
                      refine jg_iload_n cx dX2_ideal_125 rfl ?_
                      refine jg_laldU cx dX2_ideal_126 (jp_js_1) rfl (by omega) ?_
                      refine jg_lload cx dX2_ideal_127 rfl ?_
                      refine jg_iload_n cx dX2_ideal_129 rfl ?_
                      refine jg_callSl cx (n := 3) (jc_X2_partOf E l) gX2_ideal_X2_partOf rfl ⟨rfl, rfl⟩ ⟨(Nat.le_of_ble_eq_true rfl), (Nat.le_of_ble_eq_true rfl)⟩ (by decide +kernel) rfl rfl (Nat.le_of_ble_eq_true rfl) dX2_ideal_130 ?_
                      exact jg_lret cx dX2_ideal_133 (by rw [show q = k by omega]; exact ⟨by simp only [jF_ideal, c4, c18, c25, if_pos c39, ei, ek, ↓reduceIte], by simp only [jF_ideal, c4, c18, c25, if_pos c39, ei, ek, ↓reduceIte]⟩)
                    · exact absurd hr95 (by omega)
                  | succ d95 ih95 =>
                    intro q  hr95 
                    refine jg_iload cx dX2_ideal_95 rfl ?_
                    refine jg_iload_n cx dX2_ideal_97 rfl ?_
                    refine jg_icmpN_ge cx (tgt := 121) dX2_ideal_98 (by decide) (by omega) (by omega) (fun c98 => ?_) (fun c98 => ?_)
                    · exact absurd hr95 (by omega)
                    · refine jg_aload_n cx dX2_ideal_101 rfl ?_
                      refine jg_iload cx dX2_ideal_102 rfl ?_
                      refine jg_callVv cx (n := 1) (jc_X2_flowUncut E l) gX2_ideal_X2_flowUncut rfl ⟨rfl, rfl⟩ ⟨(Nat.le_of_ble_eq_true rfl), (Nat.le_of_ble_eq_true rfl)⟩ (by decide +kernel) jp_js_o rfl rfl rfl (Nat.le_of_ble_eq_true rfl) dX2_ideal_104 ?_
                      refine jg_lload cx dX2_ideal_107 rfl ?_
                      refine jg_iload cx dX2_ideal_109 rfl ?_
                      refine jg_i2l cx dX2_ideal_111 ?_
                      refine jg_lmul cx dX2_ideal_112 ?_
                      refine jg_lstore cx (lv' := [(0, _), (1, _), (2, _), (3, _), (4, _), (5, _), (7, _)]) dX2_ideal_113 (by decide) rfl ?_
                      refine jg_iincN cx (d := 1) (lv' := [(0, _), (1, _), (2, _), (3, _), (4, _), (5, _), (7, _)]) dX2_ideal_115 rfl (by decide) (by decide) rfl ?_
                      refine jg_goto cx (tgt := 95) dX2_ideal_118 (by decide) ?_
                      exact jg_to (ih95 (q + 1)  (by omega) ) rfl rfl rfl
                exact jg_to (lp95 k 0  (by omega) ) rfl rfl rfl
              · exact absurd hr49 (by omega)
            | succ d49 ih49 =>
              intro j  hr49 
              refine jg_iload cx dX2_ideal_49 rfl ?_
              refine jg_bipush cx (v := nI 8) dX2_ideal_51 (by decide) ?_
              refine jg_icmpN_ge cx (tgt := 80) dX2_ideal_53 (by decide) (by omega) (by omega) (fun c53 => ?_) (fun c53 => ?_)
              · exact absurd hr49 (by omega)
              · refine jg_aload_n cx dX2_ideal_56 rfl ?_
                refine jg_get cx jp_js_o rfl inX2 7 (by decide) f39 rfl dX2_ideal_57 ?_
                refine jg_iload cx dX2_ideal_60 rfl ?_
                refine jg_aload_n cx dX2_ideal_62 rfl ?_
                refine jg_get cx jp_js_o rfl inX2 1 (by decide) f19 rfl dX2_ideal_63 ?_
                refine jg_getN cx (jp_net_o jp_net2) rfl inX0 1 (by decide) (by decide +kernel) rfl dX2_ideal_66 ?_
                refine jg_iload cx dX2_ideal_69 rfl ?_
                refine jg_iald cx dX2_ideal_71 ((jp_net_2 jp_net2)) rfl (by omega) ?_
                rw [jp_u_02]
                refine jg_i2l cx dX2_ideal_72 ?_
                refine jg_lastU cx dX2_ideal_73 (jp_js_1) rfl (by omega) ?_
                refine jg_iincN cx (d := 1) (lv' := [(0, _), (1, _), (2, _), (3, _), (4, _)]) dX2_ideal_74 rfl (by decide) (by decide) rfl ?_
                refine jg_goto cx (tgt := 49) dX2_ideal_77 (by decide) ?_
                exact jg_to (ih49 (j + 1)  (by omega) ) rfl rfl rfl
          exact jg_to (lp49 8 0  (by omega) ) rfl rfl rfl
        · refine jg_ldc2 cx (v := (-3)) (by decide +kernel) dX2_ideal_42 ?_
          exact jg_lret cx dX2_ideal_45 (⟨by simp only [jF_ideal, c4, c18, c25, if_neg c39, ↓reduceIte], by simp only [jF_ideal, c4, c18, c25, if_neg c39, ↓reduceIte]⟩)
      · refine jg_ldc2 cx (v := (-2)) (by decide +kernel) dX2_ideal_28 ?_
        exact jg_lret cx dX2_ideal_31 (⟨(by first | with_reducible rfl | (simp only [jF_ideal, c4, c18, c25, ↓reduceIte, Bool.false_eq_true, Bool.true_eq_false, reduceCtorEq, eq_self, if_true, if_false, Bool.not_true, Bool.not_false]; first | done | rfl)), (by first | with_reducible rfl | (simp only [jF_ideal, c4, c18, c25, ↓reduceIte, Bool.false_eq_true, Bool.true_eq_false, reduceCtorEq, eq_self, if_true, if_false, Bool.not_true, Bool.not_false]; first | done | rfl))⟩)
  · refine jg_ldc2 cx (v := (-1)) (by decide +kernel) dX2_ideal_7 ?_
    exact jg_lret cx dX2_ideal_10 (⟨(by first | with_reducible rfl | (simp only [jF_ideal, c4, ↓reduceIte, Bool.false_eq_true, Bool.true_eq_false, reduceCtorEq, eq_self, if_true, if_false, Bool.not_true, Bool.not_false]; first | done | rfl)), (by first | with_reducible rfl | (simp only [jF_ideal, c4, ↓reduceIte, Bool.false_eq_true, Bool.true_eq_false, reduceCtorEq, eq_self, if_true, if_false, Bool.not_true, Bool.not_false]; first | done | rfl))⟩)
theorem jc_X2_ideal_h (E : jp_E) (l : Launch) {h : jp_H} {x r pa : Int32} : jc_M E l yX2_ideal wsX2_ideal ({ frames := 3, cells := 0, slots := 0, locals := 77 } : Room) [.ref (E.2.1 0 0), .int x, .int r, .int pa] h (jp_R (some (.long (jF_ideal x r pa (h.1 2) (h.2 0)).1)) (jp_u h 0 (h.1 0) (jF_ideal x r pa (h.1 2) (h.2 0)).2)) := by
  have t9 := jc_X2_ideal E l (h := h) (N := h.1 0) (L := h.2 0) (x := x) (r := r) (pa := pa)
  rw [jp_u_self] at t9
  exact t9
end
