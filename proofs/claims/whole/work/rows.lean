section
-- ===== PART A: goes FIRST, ahead of the names: the tables' words, and 'selects' of the private methods out of them =====
/-- a private method of a class that the tables say can be made, by its rows of tables_1 -/
def lw_okq (q : MethodName × Nat) : Prop := (q.1.cls ≠ "java/lang/invoke/MethodHandle" ∧ q.1.cls ≠ "java/lang/invoke/VarHandle") ∧ Cond.instantiable q.1.cls q.2 ∈ tables_1 ∧ Cond.privateMethod q.1 ∈ tables_1 ∧ Cond.instanceMethod q.1 ∈ tables_1
theorem lw_p0 : lw_okq (⟨"BodyRows2", "noteOutputs", "()V"⟩, 14) := ⟨⟨by decide +kernel, by decide +kernel⟩, List.mem_of_getElem? (i := 13) (by decide +kernel), List.mem_of_getElem? (i := 162) (by decide +kernel), List.mem_of_getElem? (i := 163) (by decide +kernel)⟩
theorem lw_p1 : lw_okq (⟨"BodyRows2", "outputNow", "(I)I"⟩, 14) := ⟨⟨by decide +kernel, by decide +kernel⟩, List.mem_of_getElem? (i := 13) (by decide +kernel), List.mem_of_getElem? (i := 166) (by decide +kernel), List.mem_of_getElem? (i := 167) (by decide +kernel)⟩
theorem lw_p2 : lw_okq (⟨"BodyRows2", "isParkingLit", "()Z"⟩, 14) := ⟨⟨by decide +kernel, by decide +kernel⟩, List.mem_of_getElem? (i := 13) (by decide +kernel), List.mem_of_getElem? (i := 170) (by decide +kernel), List.mem_of_getElem? (i := 171) (by decide +kernel)⟩
theorem lw_p3 : lw_okq (⟨"BodyRows2", "wantsLow", "()Z"⟩, 14) := ⟨⟨by decide +kernel, by decide +kernel⟩, List.mem_of_getElem? (i := 13) (by decide +kernel), List.mem_of_getElem? (i := 174) (by decide +kernel), List.mem_of_getElem? (i := 175) (by decide +kernel)⟩
theorem lw_p4 : lw_okq (⟨"BodyRows2", "isLowLit", "()Z"⟩, 14) := ⟨⟨by decide +kernel, by decide +kernel⟩, List.mem_of_getElem? (i := 13) (by decide +kernel), List.mem_of_getElem? (i := 181) (by decide +kernel), List.mem_of_getElem? (i := 182) (by decide +kernel)⟩
theorem lw_p5 : lw_okq (⟨"BodyRows2", "isSideLit", "(I)Z"⟩, 14) := ⟨⟨by decide +kernel, by decide +kernel⟩, List.mem_of_getElem? (i := 13) (by decide +kernel), List.mem_of_getElem? (i := 185) (by decide +kernel), List.mem_of_getElem? (i := 186) (by decide +kernel)⟩
theorem lw_p6 : lw_okq (⟨"BodyRows2", "turnBulbIsOut", "(I)Z"⟩, 14) := ⟨⟨by decide +kernel, by decide +kernel⟩, List.mem_of_getElem? (i := 13) (by decide +kernel), List.mem_of_getElem? (i := 189) (by decide +kernel), List.mem_of_getElem? (i := 190) (by decide +kernel)⟩
theorem lw_p7 : lw_okq (⟨"BodyRows2$Side", "isBright", "(Z)Z"⟩, 3) := ⟨⟨by decide +kernel, by decide +kernel⟩, List.mem_of_getElem? (i := 22) (by decide +kernel), List.mem_of_getElem? (i := 193) (by decide +kernel), List.mem_of_getElem? (i := 194) (by decide +kernel)⟩
theorem lw_p8 : lw_okq (⟨"BodyRows2", "followBrightness", "(I)V"⟩, 14) := ⟨⟨by decide +kernel, by decide +kernel⟩, List.mem_of_getElem? (i := 13) (by decide +kernel), List.mem_of_getElem? (i := 200) (by decide +kernel), List.mem_of_getElem? (i := 201) (by decide +kernel)⟩
theorem lw_p9 : lw_okq (⟨"BodyRows2", "beginWantedSides", "()V"⟩, 14) := ⟨⟨by decide +kernel, by decide +kernel⟩, List.mem_of_getElem? (i := 13) (by decide +kernel), List.mem_of_getElem? (i := 204) (by decide +kernel), List.mem_of_getElem? (i := 205) (by decide +kernel)⟩
theorem lw_p10 : lw_okq (⟨"BodyRows2", "isWanted", "(I)Z"⟩, 14) := ⟨⟨by decide +kernel, by decide +kernel⟩, List.mem_of_getElem? (i := 13) (by decide +kernel), List.mem_of_getElem? (i := 208) (by decide +kernel), List.mem_of_getElem? (i := 209) (by decide +kernel)⟩
theorem lw_p11 : lw_okq (⟨"BodyRows2$Side", "begin", "()V"⟩, 3) := ⟨⟨by decide +kernel, by decide +kernel⟩, List.mem_of_getElem? (i := 22) (by decide +kernel), List.mem_of_getElem? (i := 212) (by decide +kernel), List.mem_of_getElem? (i := 213) (by decide +kernel)⟩
theorem lw_p12 : lw_okq (⟨"BodyRows2", "endUnwantedSide", "(I)V"⟩, 14) := ⟨⟨by decide +kernel, by decide +kernel⟩, List.mem_of_getElem? (i := 13) (by decide +kernel), List.mem_of_getElem? (i := 216) (by decide +kernel), List.mem_of_getElem? (i := 217) (by decide +kernel)⟩
theorem lw_p13 : lw_okq (⟨"BodyRows2", "countChangedOutputs", "()I"⟩, 14) := ⟨⟨by decide +kernel, by decide +kernel⟩, List.mem_of_getElem? (i := 13) (by decide +kernel), List.mem_of_getElem? (i := 220) (by decide +kernel), List.mem_of_getElem? (i := 221) (by decide +kernel)⟩
theorem lw_p14 : lw_okq (⟨"BodyRows2", "tick", "()V"⟩, 14) := ⟨⟨by decide +kernel, by decide +kernel⟩, List.mem_of_getElem? (i := 13) (by decide +kernel), List.mem_of_getElem? (i := 228) (by decide +kernel), List.mem_of_getElem? (i := 229) (by decide +kernel)⟩
theorem lw_p15 : lw_okq (⟨"BodyRows2$Side", "tick", "(ZZ)V"⟩, 3) := ⟨⟨by decide +kernel, by decide +kernel⟩, List.mem_of_getElem? (i := 22) (by decide +kernel), List.mem_of_getElem? (i := 232) (by decide +kernel), List.mem_of_getElem? (i := 233) (by decide +kernel)⟩
def lw_privs_1 : List (MethodName × Nat) := [(⟨"BodyRows2", "noteOutputs", "()V"⟩, 14), (⟨"BodyRows2", "outputNow", "(I)I"⟩, 14), (⟨"BodyRows2", "isParkingLit", "()Z"⟩, 14), (⟨"BodyRows2", "wantsLow", "()Z"⟩, 14), (⟨"BodyRows2", "isLowLit", "()Z"⟩, 14), (⟨"BodyRows2", "isSideLit", "(I)Z"⟩, 14), (⟨"BodyRows2", "turnBulbIsOut", "(I)Z"⟩, 14), (⟨"BodyRows2$Side", "isBright", "(Z)Z"⟩, 3), (⟨"BodyRows2", "followBrightness", "(I)V"⟩, 14), (⟨"BodyRows2", "beginWantedSides", "()V"⟩, 14), (⟨"BodyRows2", "isWanted", "(I)Z"⟩, 14), (⟨"BodyRows2$Side", "begin", "()V"⟩, 3), (⟨"BodyRows2", "endUnwantedSide", "(I)V"⟩, 14), (⟨"BodyRows2", "countChangedOutputs", "()I"⟩, 14), (⟨"BodyRows2", "tick", "()V"⟩, 14), (⟨"BodyRows2$Side", "tick", "(ZZ)V"⟩, 3)]
theorem lw_r1 : ∀ q ∈ lw_privs_1, lw_okq q := List.forall_mem_cons.mpr ⟨lw_p0, List.forall_mem_cons.mpr ⟨lw_p1, List.forall_mem_cons.mpr ⟨lw_p2, List.forall_mem_cons.mpr ⟨lw_p3, List.forall_mem_cons.mpr ⟨lw_p4, List.forall_mem_cons.mpr ⟨lw_p5, List.forall_mem_cons.mpr ⟨lw_p6, List.forall_mem_cons.mpr ⟨lw_p7, List.forall_mem_cons.mpr ⟨lw_p8, List.forall_mem_cons.mpr ⟨lw_p9, List.forall_mem_cons.mpr ⟨lw_p10, List.forall_mem_cons.mpr ⟨lw_p11, List.forall_mem_cons.mpr ⟨lw_p12, List.forall_mem_cons.mpr ⟨lw_p13, List.forall_mem_cons.mpr ⟨lw_p14, List.forall_mem_cons.mpr ⟨lw_p15, fun _ h => absurd h List.not_mem_nil⟩⟩⟩⟩⟩⟩⟩⟩⟩⟩⟩⟩⟩⟩⟩⟩
theorem lw_p16 : lw_okq (⟨"BodyRows2", "wiperSpeed", "()I"⟩, 14) := ⟨⟨by decide +kernel, by decide +kernel⟩, List.mem_of_getElem? (i := 13) (by decide +kernel), List.mem_of_getElem? (i := 236) (by decide +kernel), List.mem_of_getElem? (i := 237) (by decide +kernel)⟩
theorem lw_p17 : lw_okq (⟨"BodyRows2", "rainSpeed", "()I"⟩, 14) := ⟨⟨by decide +kernel, by decide +kernel⟩, List.mem_of_getElem? (i := 13) (by decide +kernel), List.mem_of_getElem? (i := 240) (by decide +kernel), List.mem_of_getElem? (i := 241) (by decide +kernel)⟩
theorem lw_p18 : lw_okq (⟨"BodyRows2", "pauseAfterWiping", "()I"⟩, 14) := ⟨⟨by decide +kernel, by decide +kernel⟩, List.mem_of_getElem? (i := 13) (by decide +kernel), List.mem_of_getElem? (i := 244) (by decide +kernel), List.mem_of_getElem? (i := 245) (by decide +kernel)⟩
theorem lw_p19 : lw_okq (⟨"BodyRows2$Wiper", "tick", "(II)V"⟩, 3) := ⟨⟨by decide +kernel, by decide +kernel⟩, List.mem_of_getElem? (i := 42) (by decide +kernel), List.mem_of_getElem? (i := 248) (by decide +kernel), List.mem_of_getElem? (i := 249) (by decide +kernel)⟩
theorem lw_p20 : lw_okq (⟨"BodyRows2$Wiper", "staysParked", "(I)Z"⟩, 3) := ⟨⟨by decide +kernel, by decide +kernel⟩, List.mem_of_getElem? (i := 42) (by decide +kernel), List.mem_of_getElem? (i := 252) (by decide +kernel), List.mem_of_getElem? (i := 253) (by decide +kernel)⟩
theorem lw_p21 : lw_okq (⟨"BodyRows2", "tickInterior", "()V"⟩, 14) := ⟨⟨by decide +kernel, by decide +kernel⟩, List.mem_of_getElem? (i := 13) (by decide +kernel), List.mem_of_getElem? (i := 259) (by decide +kernel), List.mem_of_getElem? (i := 260) (by decide +kernel)⟩
theorem lw_p22 : lw_okq (⟨"BodyRows2$Window", "tick", "()V"⟩, 3) := ⟨⟨by decide +kernel, by decide +kernel⟩, List.mem_of_getElem? (i := 62) (by decide +kernel), List.mem_of_getElem? (i := 267) (by decide +kernel), List.mem_of_getElem? (i := 268) (by decide +kernel)⟩
theorem lw_p23 : lw_okq (⟨"BodyRows2$Window", "speed", "()I"⟩, 3) := ⟨⟨by decide +kernel, by decide +kernel⟩, List.mem_of_getElem? (i := 62) (by decide +kernel), List.mem_of_getElem? (i := 271) (by decide +kernel), List.mem_of_getElem? (i := 272) (by decide +kernel)⟩
theorem lw_p24 : lw_okq (⟨"BodyRows2$Window", "reverseAt", "(I)Z"⟩, 3) := ⟨⟨by decide +kernel, by decide +kernel⟩, List.mem_of_getElem? (i := 62) (by decide +kernel), List.mem_of_getElem? (i := 281) (by decide +kernel), List.mem_of_getElem? (i := 282) (by decide +kernel)⟩
theorem lw_p25 : lw_okq (⟨"BodyRows2$Window", "learnAtEnd", "()Z"⟩, 3) := ⟨⟨by decide +kernel, by decide +kernel⟩, List.mem_of_getElem? (i := 62) (by decide +kernel), List.mem_of_getElem? (i := 289) (by decide +kernel), List.mem_of_getElem? (i := 290) (by decide +kernel)⟩
theorem lw_p26 : lw_okq (⟨"BodyRows2$Loads", "measure", "(I)V"⟩, 6) := ⟨⟨by decide +kernel, by decide +kernel⟩, List.mem_of_getElem? (i := 80) (by decide +kernel), List.mem_of_getElem? (i := 297) (by decide +kernel), List.mem_of_getElem? (i := 298) (by decide +kernel)⟩
theorem lw_p27 : lw_okq (⟨"BodyRows2$Loads", "findNextToShed", "()I"⟩, 6) := ⟨⟨by decide +kernel, by decide +kernel⟩, List.mem_of_getElem? (i := 80) (by decide +kernel), List.mem_of_getElem? (i := 301) (by decide +kernel), List.mem_of_getElem? (i := 302) (by decide +kernel)⟩
theorem lw_p28 : lw_okq (⟨"BodyRows2$Loads", "setOff", "(IZ)V"⟩, 6) := ⟨⟨by decide +kernel, by decide +kernel⟩, List.mem_of_getElem? (i := 80) (by decide +kernel), List.mem_of_getElem? (i := 305) (by decide +kernel), List.mem_of_getElem? (i := 306) (by decide +kernel)⟩
theorem lw_p29 : lw_okq (⟨"BodyRows2$Loads", "findNextToRestore", "()I"⟩, 6) := ⟨⟨by decide +kernel, by decide +kernel⟩, List.mem_of_getElem? (i := 80) (by decide +kernel), List.mem_of_getElem? (i := 309) (by decide +kernel), List.mem_of_getElem? (i := 310) (by decide +kernel)⟩
theorem lw_p30 : lw_okq (⟨"BodyRows2$Loads", "countOff", "()I"⟩, 6) := ⟨⟨by decide +kernel, by decide +kernel⟩, List.mem_of_getElem? (i := 80) (by decide +kernel), List.mem_of_getElem? (i := 313) (by decide +kernel), List.mem_of_getElem? (i := 314) (by decide +kernel)⟩
theorem lw_p31 : lw_okq (⟨"BodyRows2$Loads", "isFull", "()Z"⟩, 6) := ⟨⟨by decide +kernel, by decide +kernel⟩, List.mem_of_getElem? (i := 80) (by decide +kernel), List.mem_of_getElem? (i := 321) (by decide +kernel), List.mem_of_getElem? (i := 322) (by decide +kernel)⟩
def lw_privs_2 : List (MethodName × Nat) := [(⟨"BodyRows2", "wiperSpeed", "()I"⟩, 14), (⟨"BodyRows2", "rainSpeed", "()I"⟩, 14), (⟨"BodyRows2", "pauseAfterWiping", "()I"⟩, 14), (⟨"BodyRows2$Wiper", "tick", "(II)V"⟩, 3), (⟨"BodyRows2$Wiper", "staysParked", "(I)Z"⟩, 3), (⟨"BodyRows2", "tickInterior", "()V"⟩, 14), (⟨"BodyRows2$Window", "tick", "()V"⟩, 3), (⟨"BodyRows2$Window", "speed", "()I"⟩, 3), (⟨"BodyRows2$Window", "reverseAt", "(I)Z"⟩, 3), (⟨"BodyRows2$Window", "learnAtEnd", "()Z"⟩, 3), (⟨"BodyRows2$Loads", "measure", "(I)V"⟩, 6), (⟨"BodyRows2$Loads", "findNextToShed", "()I"⟩, 6), (⟨"BodyRows2$Loads", "setOff", "(IZ)V"⟩, 6), (⟨"BodyRows2$Loads", "findNextToRestore", "()I"⟩, 6), (⟨"BodyRows2$Loads", "countOff", "()I"⟩, 6), (⟨"BodyRows2$Loads", "isFull", "()Z"⟩, 6)]
theorem lw_r2 : ∀ q ∈ lw_privs_2, lw_okq q := List.forall_mem_cons.mpr ⟨lw_p16, List.forall_mem_cons.mpr ⟨lw_p17, List.forall_mem_cons.mpr ⟨lw_p18, List.forall_mem_cons.mpr ⟨lw_p19, List.forall_mem_cons.mpr ⟨lw_p20, List.forall_mem_cons.mpr ⟨lw_p21, List.forall_mem_cons.mpr ⟨lw_p22, List.forall_mem_cons.mpr ⟨lw_p23, List.forall_mem_cons.mpr ⟨lw_p24, List.forall_mem_cons.mpr ⟨lw_p25, List.forall_mem_cons.mpr ⟨lw_p26, List.forall_mem_cons.mpr ⟨lw_p27, List.forall_mem_cons.mpr ⟨lw_p28, List.forall_mem_cons.mpr ⟨lw_p29, List.forall_mem_cons.mpr ⟨lw_p30, List.forall_mem_cons.mpr ⟨lw_p31, fun _ h => absurd h List.not_mem_nil⟩⟩⟩⟩⟩⟩⟩⟩⟩⟩⟩⟩⟩⟩⟩⟩
theorem lw_p32 : lw_okq (⟨"BodyRows2$Loads", "add", "(IZ)I"⟩, 6) := ⟨⟨by decide +kernel, by decide +kernel⟩, List.mem_of_getElem? (i := 80) (by decide +kernel), List.mem_of_getElem? (i := 325) (by decide +kernel), List.mem_of_getElem? (i := 326) (by decide +kernel)⟩
theorem lw_p33 : lw_okq (⟨"BodyRows2$Loads", "has", "(I)Z"⟩, 6) := ⟨⟨by decide +kernel, by decide +kernel⟩, List.mem_of_getElem? (i := 80) (by decide +kernel), List.mem_of_getElem? (i := 334) (by decide +kernel), List.mem_of_getElem? (i := 335) (by decide +kernel)⟩
theorem lw_p34 : lw_okq (⟨"BodyRows2$Loads", "runs", "(I)Z"⟩, 6) := ⟨⟨by decide +kernel, by decide +kernel⟩, List.mem_of_getElem? (i := 80) (by decide +kernel), List.mem_of_getElem? (i := 338) (by decide +kernel), List.mem_of_getElem? (i := 339) (by decide +kernel)⟩
theorem lw_p35 : lw_okq (⟨"BodyRows2$Window", "ticksToWish", "()I"⟩, 3) := ⟨⟨by decide +kernel, by decide +kernel⟩, List.mem_of_getElem? (i := 62) (by decide +kernel), List.mem_of_getElem? (i := 357) (by decide +kernel), List.mem_of_getElem? (i := 358) (by decide +kernel)⟩
theorem lw_p36 : lw_okq (⟨"BodyRows2", "giveBack", "(II)V"⟩, 14) := ⟨⟨by decide +kernel, by decide +kernel⟩, List.mem_of_getElem? (i := 13) (by decide +kernel), List.mem_of_getElem? (i := 372) (by decide +kernel), List.mem_of_getElem? (i := 373) (by decide +kernel)⟩
theorem lw_p37 : lw_okq (⟨"java/lang/Throwable", "fillInStackTrace", "(I)Ljava/lang/Throwable;"⟩, 6) := ⟨⟨by decide +kernel, by decide +kernel⟩, List.mem_of_getElem? (i := 428) (by decide +kernel), List.mem_of_getElem? (i := 426) (by decide +kernel), List.mem_of_getElem? (i := 427) (by decide +kernel)⟩
theorem lw_p38 : lw_okq (⟨"BodyRows2Model", "value", "(I)I"⟩, 26) := ⟨⟨by decide +kernel, by decide +kernel⟩, List.mem_of_getElem? (i := 458) (by decide +kernel), List.mem_of_getElem? (i := 554) (by decide +kernel), List.mem_of_getElem? (i := 555) (by decide +kernel)⟩
theorem lw_p39 : lw_okq (⟨"BodyRows2Model", "lit", "(I)I"⟩, 26) := ⟨⟨by decide +kernel, by decide +kernel⟩, List.mem_of_getElem? (i := 458) (by decide +kernel), List.mem_of_getElem? (i := 558) (by decide +kernel), List.mem_of_getElem? (i := 559) (by decide +kernel)⟩
theorem lw_p40 : lw_okq (⟨"BodyRows2Model", "period", "(I)I"⟩, 26) := ⟨⟨by decide +kernel, by decide +kernel⟩, List.mem_of_getElem? (i := 458) (by decide +kernel), List.mem_of_getElem? (i := 562) (by decide +kernel), List.mem_of_getElem? (i := 563) (by decide +kernel)⟩
theorem lw_p41 : lw_okq (⟨"BodyRows2Model", "layBy", "()V"⟩, 26) := ⟨⟨by decide +kernel, by decide +kernel⟩, List.mem_of_getElem? (i := 458) (by decide +kernel), List.mem_of_getElem? (i := 573) (by decide +kernel), List.mem_of_getElem? (i := 574) (by decide +kernel)⟩
theorem lw_p42 : lw_okq (⟨"BodyRows2Model", "isWanted", "(I)Z"⟩, 26) := ⟨⟨by decide +kernel, by decide +kernel⟩, List.mem_of_getElem? (i := 458) (by decide +kernel), List.mem_of_getElem? (i := 577) (by decide +kernel), List.mem_of_getElem? (i := 578) (by decide +kernel)⟩
theorem lw_p43 : lw_okq (⟨"BodyRows2Model", "begin", "()V"⟩, 26) := ⟨⟨by decide +kernel, by decide +kernel⟩, List.mem_of_getElem? (i := 458) (by decide +kernel), List.mem_of_getElem? (i := 581) (by decide +kernel), List.mem_of_getElem? (i := 582) (by decide +kernel)⟩
theorem lw_p44 : lw_okq (⟨"BodyRows2Model", "others", "()I"⟩, 26) := ⟨⟨by decide +kernel, by decide +kernel⟩, List.mem_of_getElem? (i := 458) (by decide +kernel), List.mem_of_getElem? (i := 585) (by decide +kernel), List.mem_of_getElem? (i := 586) (by decide +kernel)⟩
theorem lw_p45 : lw_okq (⟨"BodyRows2Model", "tick", "()V"⟩, 26) := ⟨⟨by decide +kernel, by decide +kernel⟩, List.mem_of_getElem? (i := 458) (by decide +kernel), List.mem_of_getElem? (i := 593) (by decide +kernel), List.mem_of_getElem? (i := 594) (by decide +kernel)⟩
theorem lw_p46 : lw_okq (⟨"BodyRows2Model", "tickSide", "(I)V"⟩, 26) := ⟨⟨by decide +kernel, by decide +kernel⟩, List.mem_of_getElem? (i := 458) (by decide +kernel), List.mem_of_getElem? (i := 597) (by decide +kernel), List.mem_of_getElem? (i := 598) (by decide +kernel)⟩
theorem lw_p47 : lw_okq (⟨"BodyRows2Model", "tickWiper", "()V"⟩, 26) := ⟨⟨by decide +kernel, by decide +kernel⟩, List.mem_of_getElem? (i := 458) (by decide +kernel), List.mem_of_getElem? (i := 601) (by decide +kernel), List.mem_of_getElem? (i := 602) (by decide +kernel)⟩
def lw_privs_3 : List (MethodName × Nat) := [(⟨"BodyRows2$Loads", "add", "(IZ)I"⟩, 6), (⟨"BodyRows2$Loads", "has", "(I)Z"⟩, 6), (⟨"BodyRows2$Loads", "runs", "(I)Z"⟩, 6), (⟨"BodyRows2$Window", "ticksToWish", "()I"⟩, 3), (⟨"BodyRows2", "giveBack", "(II)V"⟩, 14), (⟨"java/lang/Throwable", "fillInStackTrace", "(I)Ljava/lang/Throwable;"⟩, 6), (⟨"BodyRows2Model", "value", "(I)I"⟩, 26), (⟨"BodyRows2Model", "lit", "(I)I"⟩, 26), (⟨"BodyRows2Model", "period", "(I)I"⟩, 26), (⟨"BodyRows2Model", "layBy", "()V"⟩, 26), (⟨"BodyRows2Model", "isWanted", "(I)Z"⟩, 26), (⟨"BodyRows2Model", "begin", "()V"⟩, 26), (⟨"BodyRows2Model", "others", "()I"⟩, 26), (⟨"BodyRows2Model", "tick", "()V"⟩, 26), (⟨"BodyRows2Model", "tickSide", "(I)V"⟩, 26), (⟨"BodyRows2Model", "tickWiper", "()V"⟩, 26)]
theorem lw_r3 : ∀ q ∈ lw_privs_3, lw_okq q := List.forall_mem_cons.mpr ⟨lw_p32, List.forall_mem_cons.mpr ⟨lw_p33, List.forall_mem_cons.mpr ⟨lw_p34, List.forall_mem_cons.mpr ⟨lw_p35, List.forall_mem_cons.mpr ⟨lw_p36, List.forall_mem_cons.mpr ⟨lw_p37, List.forall_mem_cons.mpr ⟨lw_p38, List.forall_mem_cons.mpr ⟨lw_p39, List.forall_mem_cons.mpr ⟨lw_p40, List.forall_mem_cons.mpr ⟨lw_p41, List.forall_mem_cons.mpr ⟨lw_p42, List.forall_mem_cons.mpr ⟨lw_p43, List.forall_mem_cons.mpr ⟨lw_p44, List.forall_mem_cons.mpr ⟨lw_p45, List.forall_mem_cons.mpr ⟨lw_p46, List.forall_mem_cons.mpr ⟨lw_p47, fun _ h => absurd h List.not_mem_nil⟩⟩⟩⟩⟩⟩⟩⟩⟩⟩⟩⟩⟩⟩⟩⟩
theorem lw_p48 : lw_okq (⟨"BodyRows2Model", "speed", "()I"⟩, 26) := ⟨⟨by decide +kernel, by decide +kernel⟩, List.mem_of_getElem? (i := 458) (by decide +kernel), List.mem_of_getElem? (i := 605) (by decide +kernel), List.mem_of_getElem? (i := 606) (by decide +kernel)⟩
theorem lw_p49 : lw_okq (⟨"BodyRows2Model", "tickWindow", "(I)V"⟩, 26) := ⟨⟨by decide +kernel, by decide +kernel⟩, List.mem_of_getElem? (i := 458) (by decide +kernel), List.mem_of_getElem? (i := 609) (by decide +kernel), List.mem_of_getElem? (i := 610) (by decide +kernel)⟩
theorem lw_p50 : lw_okq (⟨"BodyRows2Model", "putOff", "()V"⟩, 26) := ⟨⟨by decide +kernel, by decide +kernel⟩, List.mem_of_getElem? (i := 458) (by decide +kernel), List.mem_of_getElem? (i := 640) (by decide +kernel), List.mem_of_getElem? (i := 641) (by decide +kernel)⟩
theorem lw_p51 : lw_okq (⟨"BodyRows2Model", "putOn", "()V"⟩, 26) := ⟨⟨by decide +kernel, by decide +kernel⟩, List.mem_of_getElem? (i := 458) (by decide +kernel), List.mem_of_getElem? (i := 644) (by decide +kernel), List.mem_of_getElem? (i := 645) (by decide +kernel)⟩
def lw_privs_4 : List (MethodName × Nat) := [(⟨"BodyRows2Model", "speed", "()I"⟩, 26), (⟨"BodyRows2Model", "tickWindow", "(I)V"⟩, 26), (⟨"BodyRows2Model", "putOff", "()V"⟩, 26), (⟨"BodyRows2Model", "putOn", "()V"⟩, 26)]
theorem lw_r4 : ∀ q ∈ lw_privs_4, lw_okq q := List.forall_mem_cons.mpr ⟨lw_p48, List.forall_mem_cons.mpr ⟨lw_p49, List.forall_mem_cons.mpr ⟨lw_p50, List.forall_mem_cons.mpr ⟨lw_p51, fun _ h => absurd h List.not_mem_nil⟩⟩⟩⟩
def lw_privs : List (MethodName × Nat) := lw_privs_1 ++ (lw_privs_2 ++ (lw_privs_3 ++ (lw_privs_4)))
def lw_tbl : List Cond := k2_sels lw_privs ++ tables_1
theorem lw_privs_ok : ∀ q ∈ lw_privs, lw_okq q := by
  show ∀ q ∈ lw_privs_1 ++ (lw_privs_2 ++ (lw_privs_3 ++ (lw_privs_4))), lw_okq q
  exact List.forall_mem_append.mpr ⟨lw_r1, List.forall_mem_append.mpr ⟨lw_r2, List.forall_mem_append.mpr ⟨lw_r3, lw_r4⟩⟩⟩
end
section
def R_Side : String := "BodyRows2$Side"
def F_Side : u_T := fun k => match k with
  | 0 => ("BodyRows2$Side", "blinks", "Z", false)
  | 1 => ("BodyRows2$Side", "age", "I", false)
  | _ => ("BodyRows2$Side", "count", "I", false)
def t_Side : Nat → FieldType := fun k => match k with
  | 0 => .boolean
  | 1 => .int
  | _ => .int
theorem n_Side : ∀ a, a < 3 → ∀ b, b < 3 → a ≠ b → (F_Side a).2.1 ≠ (F_Side b).2.1 := by decide +kernel
theorem t_Side_ok : ∀ k, k < 3 → parseFieldDescriptor (F_Side k).2.2.1 = some (t_Side k) := by decide +kernel
def R_Wiper : String := "BodyRows2$Wiper"
def F_Wiper : u_T := fun k => match k with
  | 0 => ("BodyRows2$Wiper", "place", "I", false)
  | 1 => ("BodyRows2$Wiper", "pause", "I", false)
  | _ => ("BodyRows2$Wiper", "went", "I", false)
def t_Wiper : Nat → FieldType := fun k => match k with
  | 0 => .int
  | 1 => .int
  | _ => .int
theorem n_Wiper : ∀ a, a < 3 → ∀ b, b < 3 → a ≠ b → (F_Wiper a).2.1 ≠ (F_Wiper b).2.1 := by decide +kernel
theorem t_Wiper_ok : ∀ k, k < 3 → parseFieldDescriptor (F_Wiper k).2.2.1 = some (t_Wiper k) := by decide +kernel
def R_Window : String := "BodyRows2$Window"
def F_Window : u_T := fun k => match k with
  | 0 => ("BodyRows2$Window", "place", "I", false)
  | 1 => ("BodyRows2$Window", "wish", "I", false)
  | _ => ("BodyRows2$Window", "learned", "Z", false)
def t_Window : Nat → FieldType := fun k => match k with
  | 0 => .int
  | 1 => .int
  | _ => .boolean
theorem n_Window : ∀ a, a < 3 → ∀ b, b < 3 → a ≠ b → (F_Window a).2.1 ≠ (F_Window b).2.1 := by decide +kernel
theorem t_Window_ok : ∀ k, k < 3 → parseFieldDescriptor (F_Window k).2.2.1 = some (t_Window k) := by decide +kernel
def R_Loads : String := "BodyRows2$Loads"
def F_Loads : u_T := fun k => match k with
  | 0 => ("BodyRows2$Loads", "ranks", "[I", true)
  | 1 => ("BodyRows2$Loads", "legal", "[Z", true)
  | 2 => ("BodyRows2$Loads", "off", "[Z", true)
  | 3 => ("BodyRows2$Loads", "size", "I", false)
  | 4 => ("BodyRows2$Loads", "low", "I", false)
  | _ => ("BodyRows2$Loads", "high", "I", false)
def t_Loads : Nat → FieldType := fun k => match k with
  | 0 => .array .int
  | 1 => .array .boolean
  | 2 => .array .boolean
  | 3 => .int
  | 4 => .int
  | _ => .int
theorem n_Loads : ∀ a, a < 6 → ∀ b, b < 6 → a ≠ b → (F_Loads a).2.1 ≠ (F_Loads b).2.1 := by decide +kernel
theorem t_Loads_ok : ∀ k, k < 6 → parseFieldDescriptor (F_Loads k).2.2.1 = some (t_Loads k) := by decide +kernel
def R_B : String := "BodyRows2"
def F_B : u_T := fun k => match k with
  | 0 => ("BodyRows2", "inputs", "[I", true)
  | 1 => ("BodyRows2", "outputsBefore", "[I", true)
  | 2 => ("BodyRows2", "bulbIsOut", "[Z", true)
  | 3 => ("BodyRows2", "sides", "[LBodyRows2$Side;", true)
  | 4 => ("BodyRows2", "wiper", "LBodyRows2$Wiper;", true)
  | 5 => ("BodyRows2", "windows", "[LBodyRows2$Window;", true)
  | 6 => ("BodyRows2", "loads", "LBodyRows2$Loads;", true)
  | 7 => ("BodyRows2", "keys", "[[I", true)
  | 8 => ("BodyRows2", "rainfall", "I", false)
  | 9 => ("BodyRows2", "interior", "I", false)
  | 10 => ("BodyRows2", "ticks", "I", false)
  | 11 => ("BodyRows2", "dark", "Z", false)
  | 12 => ("BodyRows2", "crashed", "Z", false)
  | _ => ("BodyRows2", "hasTrailer", "Z", false)
def t_B : Nat → FieldType := fun k => match k with
  | 0 => .array .int
  | 1 => .array .int
  | 2 => .array .boolean
  | 3 => .array (.object "BodyRows2$Side")
  | 4 => .object "BodyRows2$Wiper"
  | 5 => .array (.object "BodyRows2$Window")
  | 6 => .object "BodyRows2$Loads"
  | 7 => .array (.array .int)
  | 8 => .int
  | 9 => .int
  | 10 => .int
  | 11 => .boolean
  | 12 => .boolean
  | _ => .boolean
theorem n_B : ∀ a, a < 14 → ∀ b, b < 14 → a ≠ b → (F_B a).2.1 ≠ (F_B b).2.1 := by decide +kernel
theorem t_B_ok : ∀ k, k < 14 → parseFieldDescriptor (F_B k).2.2.1 = some (t_B k) := by decide +kernel
def R_M : String := "BodyRows2Model"
def F_M : u_T := fun k => match k with
  | 0 => ("BodyRows2Model", "thrown", "I", false)
  | 1 => ("BodyRows2Model", "inputs", "[I", true)
  | 2 => ("BodyRows2Model", "dark", "Z", false)
  | 3 => ("BodyRows2Model", "crashed", "Z", false)
  | 4 => ("BodyRows2Model", "trailer", "Z", false)
  | 5 => ("BodyRows2Model", "rain", "I", false)
  | 6 => ("BodyRows2Model", "ticks", "I", false)
  | 7 => ("BodyRows2Model", "blinks", "[Z", true)
  | 8 => ("BodyRows2Model", "ages", "[I", true)
  | 9 => ("BodyRows2Model", "counts", "[I", true)
  | 10 => ("BodyRows2Model", "out", "[Z", true)
  | 11 => ("BodyRows2Model", "wiper", "I", false)
  | 12 => ("BodyRows2Model", "pause", "I", false)
  | 13 => ("BodyRows2Model", "went", "I", false)
  | 14 => ("BodyRows2Model", "interior", "I", false)
  | 15 => ("BodyRows2Model", "places", "[I", true)
  | 16 => ("BodyRows2Model", "wishes", "[I", true)
  | 17 => ("BodyRows2Model", "learned", "[Z", true)
  | 18 => ("BodyRows2Model", "loads", "I", false)
  | 19 => ("BodyRows2Model", "ranks", "[I", true)
  | 20 => ("BodyRows2Model", "legals", "[Z", true)
  | 21 => ("BodyRows2Model", "offs", "[Z", true)
  | 22 => ("BodyRows2Model", "low", "I", false)
  | 23 => ("BodyRows2Model", "high", "I", false)
  | 24 => ("BodyRows2Model", "kept", "[I", true)
  | _ => ("BodyRows2Model", "before", "[I", true)
def t_M : Nat → FieldType := fun k => match k with
  | 0 => .int
  | 1 => .array .int
  | 2 => .boolean
  | 3 => .boolean
  | 4 => .boolean
  | 5 => .int
  | 6 => .int
  | 7 => .array .boolean
  | 8 => .array .int
  | 9 => .array .int
  | 10 => .array .boolean
  | 11 => .int
  | 12 => .int
  | 13 => .int
  | 14 => .int
  | 15 => .array .int
  | 16 => .array .int
  | 17 => .array .boolean
  | 18 => .int
  | 19 => .array .int
  | 20 => .array .boolean
  | 21 => .array .boolean
  | 22 => .int
  | 23 => .int
  | 24 => .array .int
  | _ => .array .int
theorem n_M : ∀ a, a < 26 → ∀ b, b < 26 → a ≠ b → (F_M a).2.1 ≠ (F_M b).2.1 := by decide +kernel
theorem t_M_ok : ∀ k, k < 26 → parseFieldDescriptor (F_M k).2.2.1 = some (t_M k) := by decide +kernel
abbrev b_Side_init : ByteArray := prog_3_method_1_code
def y_Side_init : MethodName := ⟨R_Side, "<init>", "()V"⟩
abbrev b_Side_begin : ByteArray := prog_3_method_2_code
def y_Side_begin : MethodName := ⟨R_Side, "begin", "()V"⟩
abbrev b_Side_tick : ByteArray := prog_3_method_3_code
def y_Side_tick : MethodName := ⟨R_Side, "tick", "(ZZ)V"⟩
abbrev b_Side_isBright : ByteArray := prog_3_method_4_code
def y_Side_isBright : MethodName := ⟨R_Side, "isBright", "(Z)Z"⟩
abbrev b_Side_period : ByteArray := prog_3_method_5_code
def y_Side_period : MethodName := ⟨R_Side, "period", "(Z)I"⟩
abbrev b_Wiper_init : ByteArray := prog_5_method_1_code
def y_Wiper_init : MethodName := ⟨R_Wiper, "<init>", "()V"⟩
abbrev b_Wiper_tick : ByteArray := prog_5_method_2_code
def y_Wiper_tick : MethodName := ⟨R_Wiper, "tick", "(II)V"⟩
abbrev b_Wiper_staysParked : ByteArray := prog_5_method_3_code
def y_Wiper_staysParked : MethodName := ⟨R_Wiper, "staysParked", "(I)Z"⟩
abbrev b_Window_init : ByteArray := prog_4_method_1_code
def y_Window_init : MethodName := ⟨R_Window, "<init>", "()V"⟩
abbrev b_Window_tick : ByteArray := prog_4_method_2_code
def y_Window_tick : MethodName := ⟨R_Window, "tick", "()V"⟩
abbrev b_Window_ticksToWish : ByteArray := prog_4_method_3_code
def y_Window_ticksToWish : MethodName := ⟨R_Window, "ticksToWish", "()I"⟩
abbrev b_Window_speed : ByteArray := prog_4_method_4_code
def y_Window_speed : MethodName := ⟨R_Window, "speed", "()I"⟩
abbrev b_Window_reverseAt : ByteArray := prog_4_method_5_code
def y_Window_reverseAt : MethodName := ⟨R_Window, "reverseAt", "(I)Z"⟩
abbrev b_Window_learnAtEnd : ByteArray := prog_4_method_6_code
def y_Window_learnAtEnd : MethodName := ⟨R_Window, "learnAtEnd", "()Z"⟩
abbrev b_Loads_init : ByteArray := prog_2_method_1_code
def y_Loads_init : MethodName := ⟨R_Loads, "<init>", "()V"⟩
abbrev b_Loads_isFull : ByteArray := prog_2_method_2_code
def y_Loads_isFull : MethodName := ⟨R_Loads, "isFull", "()Z"⟩
abbrev b_Loads_add : ByteArray := prog_2_method_3_code
def y_Loads_add : MethodName := ⟨R_Loads, "add", "(IZ)I"⟩
abbrev b_Loads_has : ByteArray := prog_2_method_4_code
def y_Loads_has : MethodName := ⟨R_Loads, "has", "(I)Z"⟩
abbrev b_Loads_runs : ByteArray := prog_2_method_5_code
def y_Loads_runs : MethodName := ⟨R_Loads, "runs", "(I)Z"⟩
abbrev b_Loads_countOff : ByteArray := prog_2_method_6_code
def y_Loads_countOff : MethodName := ⟨R_Loads, "countOff", "()I"⟩
abbrev b_Loads_measure : ByteArray := prog_2_method_7_code
def y_Loads_measure : MethodName := ⟨R_Loads, "measure", "(I)V"⟩
abbrev b_Loads_setOff : ByteArray := prog_2_method_8_code
def y_Loads_setOff : MethodName := ⟨R_Loads, "setOff", "(IZ)V"⟩
abbrev b_Loads_findNextToShed : ByteArray := prog_2_method_9_code
def y_Loads_findNextToShed : MethodName := ⟨R_Loads, "findNextToShed", "()I"⟩
abbrev b_Loads_findNextToRestore : ByteArray := prog_2_method_10_code
def y_Loads_findNextToRestore : MethodName := ⟨R_Loads, "findNextToRestore", "()I"⟩
abbrev b_B_init : ByteArray := prog_1_method_1_code
def y_B_init : MethodName := ⟨R_B, "<init>", "()V"⟩
abbrev b_B_input : ByteArray := prog_1_method_2_code
def y_B_input : MethodName := ⟨R_B, "input", "(II)I"⟩
abbrev b_B_output : ByteArray := prog_1_method_3_code
def y_B_output : MethodName := ⟨R_B, "output", "(I)I"⟩
abbrev b_B_step : ByteArray := prog_1_method_4_code
def y_B_step : MethodName := ⟨R_B, "step", "(I)I"⟩
abbrev b_B_pinch : ByteArray := prog_1_method_5_code
def y_B_pinch : MethodName := ⟨R_B, "pinch", "(II)I"⟩
abbrev b_B_learn : ByteArray := prog_1_method_6_code
def y_B_learn : MethodName := ⟨R_B, "learn", "(I)I"⟩
abbrev b_B_shed : ByteArray := prog_1_method_7_code
def y_B_shed : MethodName := ⟨R_B, "shed", "(I)I"⟩
abbrev b_B_load : ByteArray := prog_1_method_8_code
def y_B_load : MethodName := ⟨R_B, "load", "(IZ)I"⟩
abbrev b_B_isOn : ByteArray := prog_1_method_9_code
def y_B_isOn : MethodName := ⟨R_B, "isOn", "(I)I"⟩
abbrev b_B_bulb : ByteArray := prog_1_method_10_code
def y_B_bulb : MethodName := ⟨R_B, "bulb", "(IZ)I"⟩
abbrev b_B_rain : ByteArray := prog_1_method_11_code
def y_B_rain : MethodName := ⟨R_B, "rain", "(I)I"⟩
abbrev b_B_window : ByteArray := prog_1_method_12_code
def y_B_window : MethodName := ⟨R_B, "window", "(II)I"⟩
abbrev b_B_crash : ByteArray := prog_1_method_13_code
def y_B_crash : MethodName := ⟨R_B, "crash", "()I"⟩
abbrev b_B_memory : ByteArray := prog_1_method_14_code
def y_B_memory : MethodName := ⟨R_B, "memory", "(III)I"⟩
abbrev b_B_trailer : ByteArray := prog_1_method_15_code
def y_B_trailer : MethodName := ⟨R_B, "trailer", "(Z)I"⟩
abbrev b_B_state : ByteArray := prog_1_method_16_code
def y_B_state : MethodName := ⟨R_B, "state", "(I)I"⟩
abbrev b_B_isBelow : ByteArray := prog_1_method_17_code
def y_B_isBelow : MethodName := ⟨R_B, "isBelow", "(II)Z"⟩
abbrev b_B_isUpTo : ByteArray := prog_1_method_18_code
def y_B_isUpTo : MethodName := ⟨R_B, "isUpTo", "(II)Z"⟩
abbrev b_B_bit : ByteArray := prog_1_method_19_code
def y_B_bit : MethodName := ⟨R_B, "bit", "(Z)I"⟩
abbrev b_B_noteOutputs : ByteArray := prog_1_method_20_code
def y_B_noteOutputs : MethodName := ⟨R_B, "noteOutputs", "()V"⟩
abbrev b_B_countChangedOutputs : ByteArray := prog_1_method_21_code
def y_B_countChangedOutputs : MethodName := ⟨R_B, "countChangedOutputs", "()I"⟩
abbrev b_B_outputNow : ByteArray := prog_1_method_22_code
def y_B_outputNow : MethodName := ⟨R_B, "outputNow", "(I)I"⟩
abbrev b_B_isParkingLit : ByteArray := prog_1_method_23_code
def y_B_isParkingLit : MethodName := ⟨R_B, "isParkingLit", "()Z"⟩
abbrev b_B_isLowLit : ByteArray := prog_1_method_24_code
def y_B_isLowLit : MethodName := ⟨R_B, "isLowLit", "()Z"⟩
abbrev b_B_wantsLow : ByteArray := prog_1_method_25_code
def y_B_wantsLow : MethodName := ⟨R_B, "wantsLow", "()Z"⟩
abbrev b_B_followBrightness : ByteArray := prog_1_method_26_code
def y_B_followBrightness : MethodName := ⟨R_B, "followBrightness", "(I)V"⟩
abbrev b_B_isSideLit : ByteArray := prog_1_method_27_code
def y_B_isSideLit : MethodName := ⟨R_B, "isSideLit", "(I)Z"⟩
abbrev b_B_turnBulbIsOut : ByteArray := prog_1_method_28_code
def y_B_turnBulbIsOut : MethodName := ⟨R_B, "turnBulbIsOut", "(I)Z"⟩
abbrev b_B_isWanted : ByteArray := prog_1_method_29_code
def y_B_isWanted : MethodName := ⟨R_B, "isWanted", "(I)Z"⟩
abbrev b_B_beginWantedSides : ByteArray := prog_1_method_30_code
def y_B_beginWantedSides : MethodName := ⟨R_B, "beginWantedSides", "()V"⟩
abbrev b_B_endUnwantedSide : ByteArray := prog_1_method_31_code
def y_B_endUnwantedSide : MethodName := ⟨R_B, "endUnwantedSide", "(I)V"⟩
abbrev b_B_tick : ByteArray := prog_1_method_32_code
def y_B_tick : MethodName := ⟨R_B, "tick", "()V"⟩
abbrev b_B_wiperSpeed : ByteArray := prog_1_method_33_code
def y_B_wiperSpeed : MethodName := ⟨R_B, "wiperSpeed", "()I"⟩
abbrev b_B_rainSpeed : ByteArray := prog_1_method_34_code
def y_B_rainSpeed : MethodName := ⟨R_B, "rainSpeed", "()I"⟩
abbrev b_B_pauseAfterWiping : ByteArray := prog_1_method_35_code
def y_B_pauseAfterWiping : MethodName := ⟨R_B, "pauseAfterWiping", "()I"⟩
abbrev b_B_tickInterior : ByteArray := prog_1_method_36_code
def y_B_tickInterior : MethodName := ⟨R_B, "tickInterior", "()V"⟩
abbrev b_B_giveBack : ByteArray := prog_1_method_37_code
def y_B_giveBack : MethodName := ⟨R_B, "giveBack", "(II)V"⟩
abbrev b_M_init : ByteArray := prog_7_method_1_code
def y_M_init : MethodName := ⟨R_M, "<init>", "()V"⟩
abbrev b_M_thrown : ByteArray := prog_7_method_2_code
def y_M_thrown : MethodName := ⟨R_M, "thrown", "()I"⟩
abbrev b_M_within : ByteArray := prog_7_method_3_code
def y_M_within : MethodName := ⟨R_M, "within", "(III)Z"⟩
abbrev b_M_period : ByteArray := prog_7_method_4_code
def y_M_period : MethodName := ⟨R_M, "period", "(I)I"⟩
abbrev b_M_lit : ByteArray := prog_7_method_5_code
def y_M_lit : MethodName := ⟨R_M, "lit", "(I)I"⟩
abbrev b_M_value : ByteArray := prog_7_method_6_code
def y_M_value : MethodName := ⟨R_M, "value", "(I)I"⟩
abbrev b_M_layBy : ByteArray := prog_7_method_7_code
def y_M_layBy : MethodName := ⟨R_M, "layBy", "()V"⟩
abbrev b_M_others : ByteArray := prog_7_method_8_code
def y_M_others : MethodName := ⟨R_M, "others", "()I"⟩
abbrev b_M_output : ByteArray := prog_7_method_9_code
def y_M_output : MethodName := ⟨R_M, "output", "(I)I"⟩
abbrev b_M_most : ByteArray := prog_7_method_10_code
def y_M_most : MethodName := ⟨R_M, "most", "(I)I"⟩
abbrev b_M_isWanted : ByteArray := prog_7_method_11_code
def y_M_isWanted : MethodName := ⟨R_M, "isWanted", "(I)Z"⟩
abbrev b_M_begin : ByteArray := prog_7_method_12_code
def y_M_begin : MethodName := ⟨R_M, "begin", "()V"⟩
abbrev b_M_input : ByteArray := prog_7_method_13_code
def y_M_input : MethodName := ⟨R_M, "input", "(II)I"⟩
abbrev b_M_tickSide : ByteArray := prog_7_method_14_code
def y_M_tickSide : MethodName := ⟨R_M, "tickSide", "(I)V"⟩
abbrev b_M_speed : ByteArray := prog_7_method_15_code
def y_M_speed : MethodName := ⟨R_M, "speed", "()I"⟩
abbrev b_M_tickWiper : ByteArray := prog_7_method_16_code
def y_M_tickWiper : MethodName := ⟨R_M, "tickWiper", "()V"⟩
abbrev b_M_tickWindow : ByteArray := prog_7_method_17_code
def y_M_tickWindow : MethodName := ⟨R_M, "tickWindow", "(I)V"⟩
abbrev b_M_tick : ByteArray := prog_7_method_18_code
def y_M_tick : MethodName := ⟨R_M, "tick", "()V"⟩
abbrev b_M_step : ByteArray := prog_7_method_19_code
def y_M_step : MethodName := ⟨R_M, "step", "(I)I"⟩
abbrev b_M_isWindow : ByteArray := prog_7_method_20_code
def y_M_isWindow : MethodName := ⟨R_M, "isWindow", "(I)Z"⟩
abbrev b_M_pinch : ByteArray := prog_7_method_21_code
def y_M_pinch : MethodName := ⟨R_M, "pinch", "(II)I"⟩
abbrev b_M_learn : ByteArray := prog_7_method_22_code
def y_M_learn : MethodName := ⟨R_M, "learn", "(I)I"⟩
abbrev b_M_window : ByteArray := prog_7_method_23_code
def y_M_window : MethodName := ⟨R_M, "window", "(II)I"⟩
abbrev b_M_load : ByteArray := prog_7_method_24_code
def y_M_load : MethodName := ⟨R_M, "load", "(IZ)I"⟩
abbrev b_M_isOn : ByteArray := prog_7_method_25_code
def y_M_isOn : MethodName := ⟨R_M, "isOn", "(I)I"⟩
abbrev b_M_putOff : ByteArray := prog_7_method_26_code
def y_M_putOff : MethodName := ⟨R_M, "putOff", "()V"⟩
abbrev b_M_putOn : ByteArray := prog_7_method_27_code
def y_M_putOn : MethodName := ⟨R_M, "putOn", "()V"⟩
abbrev b_M_shed : ByteArray := prog_7_method_28_code
def y_M_shed : MethodName := ⟨R_M, "shed", "(I)I"⟩
abbrev b_M_bulb : ByteArray := prog_7_method_29_code
def y_M_bulb : MethodName := ⟨R_M, "bulb", "(IZ)I"⟩
abbrev b_M_rain : ByteArray := prog_7_method_30_code
def y_M_rain : MethodName := ⟨R_M, "rain", "(I)I"⟩
abbrev b_M_crash : ByteArray := prog_7_method_31_code
def y_M_crash : MethodName := ⟨R_M, "crash", "()I"⟩
abbrev b_M_memory : ByteArray := prog_7_method_32_code
def y_M_memory : MethodName := ⟨R_M, "memory", "(III)I"⟩
abbrev b_M_trailer : ByteArray := prog_7_method_33_code
def y_M_trailer : MethodName := ⟨R_M, "trailer", "(Z)I"⟩
abbrev b_M_state : ByteArray := prog_7_method_34_code
def y_M_state : MethodName := ⟨R_M, "state", "(I)I"⟩
abbrev classes : List vw_C := [(R_Side, F_Side, 3), (R_Wiper, F_Wiper, 3), (R_Window, F_Window, 3), (R_Loads, F_Loads, 6), (R_B, F_B, 14), (R_M, F_M, 26)]
abbrev hk_G : Type := (Nat → ClassId) × (Nat → Nat → Nat) × (Nat → ClassId)
def hk_ty (G : hk_G) : List (ClassId × FieldType) := [(G.2.2 0, .int), (G.2.2 1, .boolean), (G.2.2 2, .object "BodyRows2$Side"), (G.2.2 3, .object "BodyRows2$Window"), (G.2.2 4, .array .int), (G.2.2 5, .long)]
def mx (x y : Int32) : Int32 := if x < y then y else x
def mn (x y : Int32) : Int32 := if y < x then y else x
def ab (x : Int32) : Int32 := if 0 ≤ x then x else 0 - x
def hk_w : List Cond := lw_tbl.filter goodWord
theorem hk_in {w : Cond} (h : w ∈ lw_tbl) (hg : goodWord w = true) : w ∈ hk_w := List.mem_filter.mpr ⟨h, hg⟩
theorem i_Side : ∀ w ∈ u_ws R_Side F_Side 3, w ∈ hk_w := fun w h => hk_in ((by decide +kernel : ∀ w ∈ u_ws R_Side F_Side 3, w ∈ lw_tbl) w h) ((by decide +kernel : ∀ w ∈ u_ws R_Side F_Side 3, goodWord w = true) w h)
theorem i_Wiper : ∀ w ∈ u_ws R_Wiper F_Wiper 3, w ∈ hk_w := fun w h => hk_in ((by decide +kernel : ∀ w ∈ u_ws R_Wiper F_Wiper 3, w ∈ lw_tbl) w h) ((by decide +kernel : ∀ w ∈ u_ws R_Wiper F_Wiper 3, goodWord w = true) w h)
theorem i_Window : ∀ w ∈ u_ws R_Window F_Window 3, w ∈ hk_w := fun w h => hk_in ((by decide +kernel : ∀ w ∈ u_ws R_Window F_Window 3, w ∈ lw_tbl) w h) ((by decide +kernel : ∀ w ∈ u_ws R_Window F_Window 3, goodWord w = true) w h)
theorem i_Loads : ∀ w ∈ u_ws R_Loads F_Loads 6, w ∈ hk_w := fun w h => hk_in ((by decide +kernel : ∀ w ∈ u_ws R_Loads F_Loads 6, w ∈ lw_tbl) w h) ((by decide +kernel : ∀ w ∈ u_ws R_Loads F_Loads 6, goodWord w = true) w h)
theorem i_B : ∀ w ∈ u_ws R_B F_B 14, w ∈ hk_w := fun w h => hk_in ((by decide +kernel : ∀ w ∈ u_ws R_B F_B 14, w ∈ lw_tbl) w h) ((by decide +kernel : ∀ w ∈ u_ws R_B F_B 14, goodWord w = true) w h)
theorem i_M : ∀ w ∈ u_ws R_M F_M 26, w ∈ hk_w := fun w h => hk_in ((by decide +kernel : ∀ w ∈ u_ws R_M F_M 26, w ∈ lw_tbl) w h) ((by decide +kernel : ∀ w ∈ u_ws R_M F_M 26, goodWord w = true) w h)
theorem YM_max : Cond.static Lib.Math.max.name ∈ hk_w ∧ Cond.initialized "java/lang/Math" ∈ hk_w ∧ Cond.code Lib.Math.max.name Lib.Math.max.code 2 (some .int) ∈ hk_w := ⟨hk_in (by decide +kernel) rfl, hk_in (by decide +kernel) rfl, hk_in (List.mem_of_getElem? (i := 309) rfl) rfl⟩
theorem YM_min : Cond.static Lib.Math.min.name ∈ hk_w ∧ Cond.initialized "java/lang/Math" ∈ hk_w ∧ Cond.code Lib.Math.min.name Lib.Math.min.code 2 (some .int) ∈ hk_w := ⟨hk_in (by decide +kernel) rfl, hk_in (by decide +kernel) rfl, hk_in (List.mem_of_getElem? (i := 316) rfl) rfl⟩
theorem YM_abs : Cond.static Lib.Math.abs.name ∈ hk_w ∧ Cond.initialized "java/lang/Math" ∈ hk_w ∧ Cond.code Lib.Math.abs.name Lib.Math.abs.code 1 (some .int) ∈ hk_w := ⟨hk_in (by decide +kernel) rfl, hk_in (by decide +kernel) rfl, hk_in (List.mem_of_getElem? (i := 414) rfl) rfl⟩
theorem YO : Cond.instanceMethod Lib.objectInit ∈ hk_w ∧ Cond.code Lib.objectInit ⟨#[0xb1]⟩ 1 none ∈ hk_w := ⟨hk_in (by decide +kernel) rfl, hk_in (List.mem_of_getElem? (i := 71) rfl) rfl⟩
end
section
theorem d_Side_init_0 : decode b_Side_init 0 = .ok (.aload_n 0, 1) := by decide +kernel
theorem d_Side_init_1 : decode b_Side_init 1 = .ok (.invokespecial 1, 3) := by decide +kernel
theorem d_Side_init_4 : decode b_Side_init 4 = .ok (.return_, 1) := by decide +kernel
theorem d_Side_begin_0 : decode b_Side_begin 0 = .ok (.aload_n 0, 1) := by decide +kernel
theorem d_Side_begin_1 : decode b_Side_begin 1 = .ok (.getfield 7, 3) := by decide +kernel
theorem d_Side_begin_4 : decode b_Side_begin 4 = .ok (.ifCond .ne 18, 3) := by decide +kernel
theorem d_Side_begin_7 : decode b_Side_begin 7 = .ok (.aload_n 0, 1) := by decide +kernel
theorem d_Side_begin_8 : decode b_Side_begin 8 = .ok (.iconst 1, 1) := by decide +kernel
theorem d_Side_begin_9 : decode b_Side_begin 9 = .ok (.putfield 7, 3) := by decide +kernel
theorem d_Side_begin_12 : decode b_Side_begin 12 = .ok (.aload_n 0, 1) := by decide +kernel
theorem d_Side_begin_13 : decode b_Side_begin 13 = .ok (.iconst 0, 1) := by decide +kernel
theorem d_Side_begin_14 : decode b_Side_begin 14 = .ok (.putfield 13, 3) := by decide +kernel
theorem d_Side_begin_17 : decode b_Side_begin 17 = .ok (.aload_n 0, 1) := by decide +kernel
theorem d_Side_begin_18 : decode b_Side_begin 18 = .ok (.iconst 0, 1) := by decide +kernel
theorem d_Side_begin_19 : decode b_Side_begin 19 = .ok (.putfield 17, 3) := by decide +kernel
theorem d_Side_begin_22 : decode b_Side_begin 22 = .ok (.return_, 1) := by decide +kernel
theorem d_Side_tick_0 : decode b_Side_tick 0 = .ok (.aload_n 0, 1) := by decide +kernel
theorem d_Side_tick_1 : decode b_Side_tick 1 = .ok (.getfield 7, 3) := by decide +kernel
theorem d_Side_tick_4 : decode b_Side_tick 4 = .ok (.ifCond .ne 4, 3) := by decide +kernel
theorem d_Side_tick_7 : decode b_Side_tick 7 = .ok (.return_, 1) := by decide +kernel
theorem d_Side_tick_8 : decode b_Side_tick 8 = .ok (.aload_n 0, 1) := by decide +kernel
theorem d_Side_tick_9 : decode b_Side_tick 9 = .ok (.dup, 1) := by decide +kernel
theorem d_Side_tick_10 : decode b_Side_tick 10 = .ok (.getfield 13, 3) := by decide +kernel
theorem d_Side_tick_13 : decode b_Side_tick 13 = .ok (.iconst 1, 1) := by decide +kernel
theorem d_Side_tick_14 : decode b_Side_tick 14 = .ok (.iadd, 1) := by decide +kernel
theorem d_Side_tick_15 : decode b_Side_tick 15 = .ok (.putfield 13, 3) := by decide +kernel
theorem d_Side_tick_18 : decode b_Side_tick 18 = .ok (.aload_n 0, 1) := by decide +kernel
theorem d_Side_tick_19 : decode b_Side_tick 19 = .ok (.getfield 13, 3) := by decide +kernel
theorem d_Side_tick_22 : decode b_Side_tick 22 = .ok (.iload_n 1, 1) := by decide +kernel
theorem d_Side_tick_23 : decode b_Side_tick 23 = .ok (.invokestatic 20, 3) := by decide +kernel
theorem d_Side_tick_26 : decode b_Side_tick 26 = .ok (.if_icmp .lt 39, 3) := by decide +kernel
theorem d_Side_tick_29 : decode b_Side_tick 29 = .ok (.aload_n 0, 1) := by decide +kernel
theorem d_Side_tick_30 : decode b_Side_tick 30 = .ok (.iconst 0, 1) := by decide +kernel
theorem d_Side_tick_31 : decode b_Side_tick 31 = .ok (.putfield 13, 3) := by decide +kernel
theorem d_Side_tick_34 : decode b_Side_tick 34 = .ok (.aload_n 0, 1) := by decide +kernel
theorem d_Side_tick_35 : decode b_Side_tick 35 = .ok (.dup, 1) := by decide +kernel
theorem d_Side_tick_36 : decode b_Side_tick 36 = .ok (.getfield 17, 3) := by decide +kernel
theorem d_Side_tick_39 : decode b_Side_tick 39 = .ok (.iconst 1, 1) := by decide +kernel
theorem d_Side_tick_40 : decode b_Side_tick 40 = .ok (.iadd, 1) := by decide +kernel
theorem d_Side_tick_41 : decode b_Side_tick 41 = .ok (.putfield 17, 3) := by decide +kernel
theorem d_Side_tick_44 : decode b_Side_tick 44 = .ok (.aload_n 0, 1) := by decide +kernel
theorem d_Side_tick_45 : decode b_Side_tick 45 = .ok (.iload_n 2, 1) := by decide +kernel
theorem d_Side_tick_46 : decode b_Side_tick 46 = .ok (.ifCond .ne 11, 3) := by decide +kernel
theorem d_Side_tick_49 : decode b_Side_tick 49 = .ok (.aload_n 0, 1) := by decide +kernel
theorem d_Side_tick_50 : decode b_Side_tick 50 = .ok (.getfield 17, 3) := by decide +kernel
theorem d_Side_tick_53 : decode b_Side_tick 53 = .ok (.iconst 3, 1) := by decide +kernel
theorem d_Side_tick_54 : decode b_Side_tick 54 = .ok (.if_icmp .ge 7, 3) := by decide +kernel
theorem d_Side_tick_57 : decode b_Side_tick 57 = .ok (.iconst 1, 1) := by decide +kernel
theorem d_Side_tick_58 : decode b_Side_tick 58 = .ok (.goto 4, 3) := by decide +kernel
theorem d_Side_tick_61 : decode b_Side_tick 61 = .ok (.iconst 0, 1) := by decide +kernel
theorem d_Side_tick_62 : decode b_Side_tick 62 = .ok (.putfield 7, 3) := by decide +kernel
theorem d_Side_tick_65 : decode b_Side_tick 65 = .ok (.return_, 1) := by decide +kernel
theorem d_Side_isBright_0 : decode b_Side_isBright 0 = .ok (.aload_n 0, 1) := by decide +kernel
theorem d_Side_isBright_1 : decode b_Side_isBright 1 = .ok (.getfield 7, 3) := by decide +kernel
theorem d_Side_isBright_4 : decode b_Side_isBright 4 = .ok (.ifCond .eq 20, 3) := by decide +kernel
theorem d_Side_isBright_7 : decode b_Side_isBright 7 = .ok (.aload_n 0, 1) := by decide +kernel
theorem d_Side_isBright_8 : decode b_Side_isBright 8 = .ok (.getfield 13, 3) := by decide +kernel
theorem d_Side_isBright_11 : decode b_Side_isBright 11 = .ok (.iload_n 1, 1) := by decide +kernel
theorem d_Side_isBright_12 : decode b_Side_isBright 12 = .ok (.invokestatic 20, 3) := by decide +kernel
theorem d_Side_isBright_15 : decode b_Side_isBright 15 = .ok (.iconst 2, 1) := by decide +kernel
theorem d_Side_isBright_16 : decode b_Side_isBright 16 = .ok (.idiv, 1) := by decide +kernel
theorem d_Side_isBright_17 : decode b_Side_isBright 17 = .ok (.if_icmp .ge 7, 3) := by decide +kernel
theorem d_Side_isBright_20 : decode b_Side_isBright 20 = .ok (.iconst 1, 1) := by decide +kernel
theorem d_Side_isBright_21 : decode b_Side_isBright 21 = .ok (.goto 4, 3) := by decide +kernel
theorem d_Side_isBright_24 : decode b_Side_isBright 24 = .ok (.iconst 0, 1) := by decide +kernel
theorem d_Side_isBright_25 : decode b_Side_isBright 25 = .ok (.ireturn, 1) := by decide +kernel
theorem d_Side_period_0 : decode b_Side_period 0 = .ok (.iload_n 0, 1) := by decide +kernel
theorem d_Side_period_1 : decode b_Side_period 1 = .ok (.ifCond .eq 8, 3) := by decide +kernel
theorem d_Side_period_4 : decode b_Side_period 4 = .ok (.bipush 40, 2) := by decide +kernel
theorem d_Side_period_6 : decode b_Side_period 6 = .ok (.goto 5, 3) := by decide +kernel
theorem d_Side_period_9 : decode b_Side_period 9 = .ok (.bipush 80, 2) := by decide +kernel
theorem d_Side_period_11 : decode b_Side_period 11 = .ok (.ireturn, 1) := by decide +kernel
theorem d_Wiper_init_0 : decode b_Wiper_init 0 = .ok (.aload_n 0, 1) := by decide +kernel
theorem d_Wiper_init_1 : decode b_Wiper_init 1 = .ok (.invokespecial 1, 3) := by decide +kernel
theorem d_Wiper_init_4 : decode b_Wiper_init 4 = .ok (.return_, 1) := by decide +kernel
theorem d_Wiper_tick_0 : decode b_Wiper_tick 0 = .ok (.aload_n 0, 1) := by decide +kernel
theorem d_Wiper_tick_1 : decode b_Wiper_tick 1 = .ok (.iconst 0, 1) := by decide +kernel
theorem d_Wiper_tick_2 : decode b_Wiper_tick 2 = .ok (.putfield 7, 3) := by decide +kernel
theorem d_Wiper_tick_5 : decode b_Wiper_tick 5 = .ok (.aload_n 0, 1) := by decide +kernel
theorem d_Wiper_tick_6 : decode b_Wiper_tick 6 = .ok (.getfield 13, 3) := by decide +kernel
theorem d_Wiper_tick_9 : decode b_Wiper_tick 9 = .ok (.ifCond .ne 12, 3) := by decide +kernel
theorem d_Wiper_tick_12 : decode b_Wiper_tick 12 = .ok (.aload_n 0, 1) := by decide +kernel
theorem d_Wiper_tick_13 : decode b_Wiper_tick 13 = .ok (.iload_n 1, 1) := by decide +kernel
theorem d_Wiper_tick_14 : decode b_Wiper_tick 14 = .ok (.invokevirtual 16, 3) := by decide +kernel
theorem d_Wiper_tick_17 : decode b_Wiper_tick 17 = .ok (.ifCond .eq 4, 3) := by decide +kernel
theorem d_Wiper_tick_20 : decode b_Wiper_tick 20 = .ok (.return_, 1) := by decide +kernel
theorem d_Wiper_tick_21 : decode b_Wiper_tick 21 = .ok (.aload_n 0, 1) := by decide +kernel
theorem d_Wiper_tick_22 : decode b_Wiper_tick 22 = .ok (.iload_n 1, 1) := by decide +kernel
theorem d_Wiper_tick_23 : decode b_Wiper_tick 23 = .ok (.iconst 1, 1) := by decide +kernel
theorem d_Wiper_tick_24 : decode b_Wiper_tick 24 = .ok (.invokestatic 20, 3) := by decide +kernel
theorem d_Wiper_tick_27 : decode b_Wiper_tick 27 = .ok (.putfield 7, 3) := by decide +kernel
theorem d_Wiper_tick_30 : decode b_Wiper_tick 30 = .ok (.aload_n 0, 1) := by decide +kernel
theorem d_Wiper_tick_31 : decode b_Wiper_tick 31 = .ok (.dup, 1) := by decide +kernel
theorem d_Wiper_tick_32 : decode b_Wiper_tick 32 = .ok (.getfield 13, 3) := by decide +kernel
theorem d_Wiper_tick_35 : decode b_Wiper_tick 35 = .ok (.aload_n 0, 1) := by decide +kernel
theorem d_Wiper_tick_36 : decode b_Wiper_tick 36 = .ok (.getfield 7, 3) := by decide +kernel
theorem d_Wiper_tick_39 : decode b_Wiper_tick 39 = .ok (.iadd, 1) := by decide +kernel
theorem d_Wiper_tick_40 : decode b_Wiper_tick 40 = .ok (.putfield 13, 3) := by decide +kernel
theorem d_Wiper_tick_43 : decode b_Wiper_tick 43 = .ok (.aload_n 0, 1) := by decide +kernel
theorem d_Wiper_tick_44 : decode b_Wiper_tick 44 = .ok (.getfield 13, 3) := by decide +kernel
theorem d_Wiper_tick_47 : decode b_Wiper_tick 47 = .ok (.bipush 100, 2) := by decide +kernel
theorem d_Wiper_tick_49 : decode b_Wiper_tick 49 = .ok (.if_icmp .lt 13, 3) := by decide +kernel
theorem d_Wiper_tick_52 : decode b_Wiper_tick 52 = .ok (.aload_n 0, 1) := by decide +kernel
theorem d_Wiper_tick_53 : decode b_Wiper_tick 53 = .ok (.iconst 0, 1) := by decide +kernel
theorem d_Wiper_tick_54 : decode b_Wiper_tick 54 = .ok (.putfield 13, 3) := by decide +kernel
theorem d_Wiper_tick_57 : decode b_Wiper_tick 57 = .ok (.aload_n 0, 1) := by decide +kernel
theorem d_Wiper_tick_58 : decode b_Wiper_tick 58 = .ok (.iload_n 2, 1) := by decide +kernel
theorem d_Wiper_tick_59 : decode b_Wiper_tick 59 = .ok (.putfield 26, 3) := by decide +kernel
theorem d_Wiper_tick_62 : decode b_Wiper_tick 62 = .ok (.return_, 1) := by decide +kernel
theorem d_Wiper_staysParked_0 : decode b_Wiper_staysParked 0 = .ok (.iload_n 1, 1) := by decide +kernel
theorem d_Wiper_staysParked_1 : decode b_Wiper_staysParked 1 = .ok (.ifCond .ne 10, 3) := by decide +kernel
theorem d_Wiper_staysParked_4 : decode b_Wiper_staysParked 4 = .ok (.aload_n 0, 1) := by decide +kernel
theorem d_Wiper_staysParked_5 : decode b_Wiper_staysParked 5 = .ok (.iconst 0, 1) := by decide +kernel
theorem d_Wiper_staysParked_6 : decode b_Wiper_staysParked 6 = .ok (.putfield 26, 3) := by decide +kernel
theorem d_Wiper_staysParked_9 : decode b_Wiper_staysParked 9 = .ok (.iconst 1, 1) := by decide +kernel
theorem d_Wiper_staysParked_10 : decode b_Wiper_staysParked 10 = .ok (.ireturn, 1) := by decide +kernel
theorem d_Wiper_staysParked_11 : decode b_Wiper_staysParked 11 = .ok (.aload_n 0, 1) := by decide +kernel
theorem d_Wiper_staysParked_12 : decode b_Wiper_staysParked 12 = .ok (.getfield 26, 3) := by decide +kernel
theorem d_Wiper_staysParked_15 : decode b_Wiper_staysParked 15 = .ok (.ifCond .le 15, 3) := by decide +kernel
theorem d_Wiper_staysParked_18 : decode b_Wiper_staysParked 18 = .ok (.aload_n 0, 1) := by decide +kernel
theorem d_Wiper_staysParked_19 : decode b_Wiper_staysParked 19 = .ok (.dup, 1) := by decide +kernel
theorem d_Wiper_staysParked_20 : decode b_Wiper_staysParked 20 = .ok (.getfield 26, 3) := by decide +kernel
theorem d_Wiper_staysParked_23 : decode b_Wiper_staysParked 23 = .ok (.iconst 1, 1) := by decide +kernel
theorem d_Wiper_staysParked_24 : decode b_Wiper_staysParked 24 = .ok (.isub, 1) := by decide +kernel
theorem d_Wiper_staysParked_25 : decode b_Wiper_staysParked 25 = .ok (.putfield 26, 3) := by decide +kernel
theorem d_Wiper_staysParked_28 : decode b_Wiper_staysParked 28 = .ok (.iconst 1, 1) := by decide +kernel
theorem d_Wiper_staysParked_29 : decode b_Wiper_staysParked 29 = .ok (.ireturn, 1) := by decide +kernel
theorem d_Wiper_staysParked_30 : decode b_Wiper_staysParked 30 = .ok (.iconst 0, 1) := by decide +kernel
theorem d_Wiper_staysParked_31 : decode b_Wiper_staysParked 31 = .ok (.ireturn, 1) := by decide +kernel
theorem d_Window_init_0 : decode b_Window_init 0 = .ok (.aload_n 0, 1) := by decide +kernel
theorem d_Window_init_1 : decode b_Window_init 1 = .ok (.invokespecial 1, 3) := by decide +kernel
theorem d_Window_init_4 : decode b_Window_init 4 = .ok (.return_, 1) := by decide +kernel
theorem d_Window_tick_0 : decode b_Window_tick 0 = .ok (.aload_n 0, 1) := by decide +kernel
theorem d_Window_tick_1 : decode b_Window_tick 1 = .ok (.getfield 7, 3) := by decide +kernel
theorem d_Window_tick_4 : decode b_Window_tick 4 = .ok (.aload_n 0, 1) := by decide +kernel
theorem d_Window_tick_5 : decode b_Window_tick 5 = .ok (.getfield 13, 3) := by decide +kernel
theorem d_Window_tick_8 : decode b_Window_tick 8 = .ok (.if_icmp .ge 26, 3) := by decide +kernel
theorem d_Window_tick_11 : decode b_Window_tick 11 = .ok (.aload_n 0, 1) := by decide +kernel
theorem d_Window_tick_12 : decode b_Window_tick 12 = .ok (.aload_n 0, 1) := by decide +kernel
theorem d_Window_tick_13 : decode b_Window_tick 13 = .ok (.getfield 7, 3) := by decide +kernel
theorem d_Window_tick_16 : decode b_Window_tick 16 = .ok (.aload_n 0, 1) := by decide +kernel
theorem d_Window_tick_17 : decode b_Window_tick 17 = .ok (.invokevirtual 16, 3) := by decide +kernel
theorem d_Window_tick_20 : decode b_Window_tick 20 = .ok (.iadd, 1) := by decide +kernel
theorem d_Window_tick_21 : decode b_Window_tick 21 = .ok (.aload_n 0, 1) := by decide +kernel
theorem d_Window_tick_22 : decode b_Window_tick 22 = .ok (.getfield 13, 3) := by decide +kernel
theorem d_Window_tick_25 : decode b_Window_tick 25 = .ok (.invokestatic 20, 3) := by decide +kernel
theorem d_Window_tick_28 : decode b_Window_tick 28 = .ok (.putfield 7, 3) := by decide +kernel
theorem d_Window_tick_31 : decode b_Window_tick 31 = .ok (.goto 23, 3) := by decide +kernel
theorem d_Window_tick_34 : decode b_Window_tick 34 = .ok (.aload_n 0, 1) := by decide +kernel
theorem d_Window_tick_35 : decode b_Window_tick 35 = .ok (.aload_n 0, 1) := by decide +kernel
theorem d_Window_tick_36 : decode b_Window_tick 36 = .ok (.getfield 7, 3) := by decide +kernel
theorem d_Window_tick_39 : decode b_Window_tick 39 = .ok (.aload_n 0, 1) := by decide +kernel
theorem d_Window_tick_40 : decode b_Window_tick 40 = .ok (.invokevirtual 16, 3) := by decide +kernel
theorem d_Window_tick_43 : decode b_Window_tick 43 = .ok (.isub, 1) := by decide +kernel
theorem d_Window_tick_44 : decode b_Window_tick 44 = .ok (.aload_n 0, 1) := by decide +kernel
theorem d_Window_tick_45 : decode b_Window_tick 45 = .ok (.getfield 13, 3) := by decide +kernel
theorem d_Window_tick_48 : decode b_Window_tick 48 = .ok (.invokestatic 26, 3) := by decide +kernel
theorem d_Window_tick_51 : decode b_Window_tick 51 = .ok (.putfield 7, 3) := by decide +kernel
theorem d_Window_tick_54 : decode b_Window_tick 54 = .ok (.return_, 1) := by decide +kernel
theorem d_Window_ticksToWish_0 : decode b_Window_ticksToWish 0 = .ok (.aload_n 0, 1) := by decide +kernel
theorem d_Window_ticksToWish_1 : decode b_Window_ticksToWish 1 = .ok (.getfield 13, 3) := by decide +kernel
theorem d_Window_ticksToWish_4 : decode b_Window_ticksToWish 4 = .ok (.aload_n 0, 1) := by decide +kernel
theorem d_Window_ticksToWish_5 : decode b_Window_ticksToWish 5 = .ok (.getfield 7, 3) := by decide +kernel
theorem d_Window_ticksToWish_8 : decode b_Window_ticksToWish 8 = .ok (.isub, 1) := by decide +kernel
theorem d_Window_ticksToWish_9 : decode b_Window_ticksToWish 9 = .ok (.invokestatic 29, 3) := by decide +kernel
theorem d_Window_ticksToWish_12 : decode b_Window_ticksToWish 12 = .ok (.istore_n 1, 1) := by decide +kernel
theorem d_Window_ticksToWish_13 : decode b_Window_ticksToWish 13 = .ok (.aload_n 0, 1) := by decide +kernel
theorem d_Window_ticksToWish_14 : decode b_Window_ticksToWish 14 = .ok (.getfield 33, 3) := by decide +kernel
theorem d_Window_ticksToWish_17 : decode b_Window_ticksToWish 17 = .ok (.ifCond .eq 11, 3) := by decide +kernel
theorem d_Window_ticksToWish_20 : decode b_Window_ticksToWish 20 = .ok (.iload_n 1, 1) := by decide +kernel
theorem d_Window_ticksToWish_21 : decode b_Window_ticksToWish 21 = .ok (.iconst 1, 1) := by decide +kernel
theorem d_Window_ticksToWish_22 : decode b_Window_ticksToWish 22 = .ok (.iadd, 1) := by decide +kernel
theorem d_Window_ticksToWish_23 : decode b_Window_ticksToWish 23 = .ok (.iconst 2, 1) := by decide +kernel
theorem d_Window_ticksToWish_24 : decode b_Window_ticksToWish 24 = .ok (.idiv, 1) := by decide +kernel
theorem d_Window_ticksToWish_25 : decode b_Window_ticksToWish 25 = .ok (.goto 4, 3) := by decide +kernel
theorem d_Window_ticksToWish_28 : decode b_Window_ticksToWish 28 = .ok (.iload_n 1, 1) := by decide +kernel
theorem d_Window_ticksToWish_29 : decode b_Window_ticksToWish 29 = .ok (.ireturn, 1) := by decide +kernel
theorem d_Window_speed_0 : decode b_Window_speed 0 = .ok (.aload_n 0, 1) := by decide +kernel
theorem d_Window_speed_1 : decode b_Window_speed 1 = .ok (.getfield 33, 3) := by decide +kernel
theorem d_Window_speed_4 : decode b_Window_speed 4 = .ok (.ifCond .eq 7, 3) := by decide +kernel
theorem d_Window_speed_7 : decode b_Window_speed 7 = .ok (.iconst 2, 1) := by decide +kernel
theorem d_Window_speed_8 : decode b_Window_speed 8 = .ok (.goto 4, 3) := by decide +kernel
theorem d_Window_speed_11 : decode b_Window_speed 11 = .ok (.iconst 1, 1) := by decide +kernel
theorem d_Window_speed_12 : decode b_Window_speed 12 = .ok (.ireturn, 1) := by decide +kernel
theorem d_Window_reverseAt_0 : decode b_Window_reverseAt 0 = .ok (.aload_n 0, 1) := by decide +kernel
theorem d_Window_reverseAt_1 : decode b_Window_reverseAt 1 = .ok (.getfield 13, 3) := by decide +kernel
theorem d_Window_reverseAt_4 : decode b_Window_reverseAt 4 = .ok (.aload_n 0, 1) := by decide +kernel
theorem d_Window_reverseAt_5 : decode b_Window_reverseAt 5 = .ok (.getfield 7, 3) := by decide +kernel
theorem d_Window_reverseAt_8 : decode b_Window_reverseAt 8 = .ok (.if_icmp .le 9, 3) := by decide +kernel
theorem d_Window_reverseAt_11 : decode b_Window_reverseAt 11 = .ok (.iload_n 1, 1) := by decide +kernel
theorem d_Window_reverseAt_12 : decode b_Window_reverseAt 12 = .ok (.bipush 100, 2) := by decide +kernel
theorem d_Window_reverseAt_14 : decode b_Window_reverseAt 14 = .ok (.if_icmp .gt 5, 3) := by decide +kernel
theorem d_Window_reverseAt_17 : decode b_Window_reverseAt 17 = .ok (.iconst 0, 1) := by decide +kernel
theorem d_Window_reverseAt_18 : decode b_Window_reverseAt 18 = .ok (.ireturn, 1) := by decide +kernel
theorem d_Window_reverseAt_19 : decode b_Window_reverseAt 19 = .ok (.aload_n 0, 1) := by decide +kernel
theorem d_Window_reverseAt_20 : decode b_Window_reverseAt 20 = .ok (.aload_n 0, 1) := by decide +kernel
theorem d_Window_reverseAt_21 : decode b_Window_reverseAt 21 = .ok (.getfield 7, 3) := by decide +kernel
theorem d_Window_reverseAt_24 : decode b_Window_reverseAt 24 = .ok (.bipush 60, 2) := by decide +kernel
theorem d_Window_reverseAt_26 : decode b_Window_reverseAt 26 = .ok (.isub, 1) := by decide +kernel
theorem d_Window_reverseAt_27 : decode b_Window_reverseAt 27 = .ok (.iconst 0, 1) := by decide +kernel
theorem d_Window_reverseAt_28 : decode b_Window_reverseAt 28 = .ok (.invokestatic 26, 3) := by decide +kernel
theorem d_Window_reverseAt_31 : decode b_Window_reverseAt 31 = .ok (.putfield 13, 3) := by decide +kernel
theorem d_Window_reverseAt_34 : decode b_Window_reverseAt 34 = .ok (.iconst 1, 1) := by decide +kernel
theorem d_Window_reverseAt_35 : decode b_Window_reverseAt 35 = .ok (.ireturn, 1) := by decide +kernel
theorem d_Window_learnAtEnd_0 : decode b_Window_learnAtEnd 0 = .ok (.aload_n 0, 1) := by decide +kernel
theorem d_Window_learnAtEnd_1 : decode b_Window_learnAtEnd 1 = .ok (.getfield 7, 3) := by decide +kernel
theorem d_Window_learnAtEnd_4 : decode b_Window_learnAtEnd 4 = .ok (.aload_n 0, 1) := by decide +kernel
theorem d_Window_learnAtEnd_5 : decode b_Window_learnAtEnd 5 = .ok (.getfield 13, 3) := by decide +kernel
theorem d_Window_learnAtEnd_8 : decode b_Window_learnAtEnd 8 = .ok (.if_icmp .ne 24, 3) := by decide +kernel
theorem d_Window_learnAtEnd_11 : decode b_Window_learnAtEnd 11 = .ok (.aload_n 0, 1) := by decide +kernel
theorem d_Window_learnAtEnd_12 : decode b_Window_learnAtEnd 12 = .ok (.getfield 7, 3) := by decide +kernel
theorem d_Window_learnAtEnd_15 : decode b_Window_learnAtEnd 15 = .ok (.ifCond .eq 13, 3) := by decide +kernel
theorem d_Window_learnAtEnd_18 : decode b_Window_learnAtEnd 18 = .ok (.aload_n 0, 1) := by decide +kernel
theorem d_Window_learnAtEnd_19 : decode b_Window_learnAtEnd 19 = .ok (.getfield 7, 3) := by decide +kernel
theorem d_Window_learnAtEnd_22 : decode b_Window_learnAtEnd 22 = .ok (.sipush 200, 3) := by decide +kernel
theorem d_Window_learnAtEnd_25 : decode b_Window_learnAtEnd 25 = .ok (.if_icmp .ne 7, 3) := by decide +kernel
theorem d_Window_learnAtEnd_28 : decode b_Window_learnAtEnd 28 = .ok (.iconst 1, 1) := by decide +kernel
theorem d_Window_learnAtEnd_29 : decode b_Window_learnAtEnd 29 = .ok (.goto 4, 3) := by decide +kernel
theorem d_Window_learnAtEnd_32 : decode b_Window_learnAtEnd 32 = .ok (.iconst 0, 1) := by decide +kernel
theorem d_Window_learnAtEnd_33 : decode b_Window_learnAtEnd 33 = .ok (.istore_n 1, 1) := by decide +kernel
theorem d_Window_learnAtEnd_34 : decode b_Window_learnAtEnd 34 = .ok (.aload_n 0, 1) := by decide +kernel
theorem d_Window_learnAtEnd_35 : decode b_Window_learnAtEnd 35 = .ok (.aload_n 0, 1) := by decide +kernel
theorem d_Window_learnAtEnd_36 : decode b_Window_learnAtEnd 36 = .ok (.getfield 33, 3) := by decide +kernel
theorem d_Window_learnAtEnd_39 : decode b_Window_learnAtEnd 39 = .ok (.ifCond .ne 7, 3) := by decide +kernel
theorem d_Window_learnAtEnd_42 : decode b_Window_learnAtEnd 42 = .ok (.iload_n 1, 1) := by decide +kernel
theorem d_Window_learnAtEnd_43 : decode b_Window_learnAtEnd 43 = .ok (.ifCond .eq 7, 3) := by decide +kernel
theorem d_Window_learnAtEnd_46 : decode b_Window_learnAtEnd 46 = .ok (.iconst 1, 1) := by decide +kernel
theorem d_Window_learnAtEnd_47 : decode b_Window_learnAtEnd 47 = .ok (.goto 4, 3) := by decide +kernel
theorem d_Window_learnAtEnd_50 : decode b_Window_learnAtEnd 50 = .ok (.iconst 0, 1) := by decide +kernel
theorem d_Window_learnAtEnd_51 : decode b_Window_learnAtEnd 51 = .ok (.putfield 33, 3) := by decide +kernel
theorem d_Window_learnAtEnd_54 : decode b_Window_learnAtEnd 54 = .ok (.iload_n 1, 1) := by decide +kernel
theorem d_Window_learnAtEnd_55 : decode b_Window_learnAtEnd 55 = .ok (.ireturn, 1) := by decide +kernel
theorem d_Loads_init_0 : decode b_Loads_init 0 = .ok (.aload_n 0, 1) := by decide +kernel
theorem d_Loads_init_1 : decode b_Loads_init 1 = .ok (.invokespecial 3, 3) := by decide +kernel
theorem d_Loads_init_4 : decode b_Loads_init 4 = .ok (.aload_n 0, 1) := by decide +kernel
theorem d_Loads_init_5 : decode b_Loads_init 5 = .ok (.bipush 12, 2) := by decide +kernel
theorem d_Loads_init_7 : decode b_Loads_init 7 = .ok (.newarray .int, 2) := by decide +kernel
theorem d_Loads_init_9 : decode b_Loads_init 9 = .ok (.putfield 11, 3) := by decide +kernel
theorem d_Loads_init_12 : decode b_Loads_init 12 = .ok (.aload_n 0, 1) := by decide +kernel
theorem d_Loads_init_13 : decode b_Loads_init 13 = .ok (.bipush 12, 2) := by decide +kernel
theorem d_Loads_init_15 : decode b_Loads_init 15 = .ok (.newarray .boolean, 2) := by decide +kernel
theorem d_Loads_init_17 : decode b_Loads_init 17 = .ok (.putfield 15, 3) := by decide +kernel
theorem d_Loads_init_20 : decode b_Loads_init 20 = .ok (.aload_n 0, 1) := by decide +kernel
theorem d_Loads_init_21 : decode b_Loads_init 21 = .ok (.bipush 12, 2) := by decide +kernel
theorem d_Loads_init_23 : decode b_Loads_init 23 = .ok (.newarray .boolean, 2) := by decide +kernel
theorem d_Loads_init_25 : decode b_Loads_init 25 = .ok (.putfield 19, 3) := by decide +kernel
theorem d_Loads_init_28 : decode b_Loads_init 28 = .ok (.return_, 1) := by decide +kernel
theorem d_Loads_isFull_0 : decode b_Loads_isFull 0 = .ok (.aload_n 0, 1) := by decide +kernel
theorem d_Loads_isFull_1 : decode b_Loads_isFull 1 = .ok (.getfield 22, 3) := by decide +kernel
theorem d_Loads_isFull_4 : decode b_Loads_isFull 4 = .ok (.bipush 12, 2) := by decide +kernel
theorem d_Loads_isFull_6 : decode b_Loads_isFull 6 = .ok (.if_icmp .lt 7, 3) := by decide +kernel
theorem d_Loads_isFull_9 : decode b_Loads_isFull 9 = .ok (.iconst 1, 1) := by decide +kernel
theorem d_Loads_isFull_10 : decode b_Loads_isFull 10 = .ok (.goto 4, 3) := by decide +kernel
theorem d_Loads_isFull_13 : decode b_Loads_isFull 13 = .ok (.iconst 0, 1) := by decide +kernel
theorem d_Loads_isFull_14 : decode b_Loads_isFull 14 = .ok (.ireturn, 1) := by decide +kernel
theorem d_Loads_add_0 : decode b_Loads_add 0 = .ok (.aload_n 0, 1) := by decide +kernel
theorem d_Loads_add_1 : decode b_Loads_add 1 = .ok (.invokevirtual 26, 3) := by decide +kernel
theorem d_Loads_add_4 : decode b_Loads_add 4 = .ok (.ifCond .eq 6, 3) := by decide +kernel
theorem d_Loads_add_7 : decode b_Loads_add 7 = .ok (.bipush (-4), 2) := by decide +kernel
theorem d_Loads_add_9 : decode b_Loads_add 9 = .ok (.ireturn, 1) := by decide +kernel
theorem d_Loads_add_10 : decode b_Loads_add 10 = .ok (.aload_n 0, 1) := by decide +kernel
theorem d_Loads_add_11 : decode b_Loads_add 11 = .ok (.getfield 11, 3) := by decide +kernel
theorem d_Loads_add_14 : decode b_Loads_add 14 = .ok (.aload_n 0, 1) := by decide +kernel
theorem d_Loads_add_15 : decode b_Loads_add 15 = .ok (.getfield 22, 3) := by decide +kernel
theorem d_Loads_add_18 : decode b_Loads_add 18 = .ok (.iload_n 1, 1) := by decide +kernel
theorem d_Loads_add_19 : decode b_Loads_add 19 = .ok (.iastore, 1) := by decide +kernel
theorem d_Loads_add_20 : decode b_Loads_add 20 = .ok (.aload_n 0, 1) := by decide +kernel
theorem d_Loads_add_21 : decode b_Loads_add 21 = .ok (.getfield 15, 3) := by decide +kernel
theorem d_Loads_add_24 : decode b_Loads_add 24 = .ok (.aload_n 0, 1) := by decide +kernel
theorem d_Loads_add_25 : decode b_Loads_add 25 = .ok (.getfield 22, 3) := by decide +kernel
theorem d_Loads_add_28 : decode b_Loads_add 28 = .ok (.iload_n 2, 1) := by decide +kernel
theorem d_Loads_add_29 : decode b_Loads_add 29 = .ok (.bastore, 1) := by decide +kernel
theorem d_Loads_add_30 : decode b_Loads_add 30 = .ok (.aload_n 0, 1) := by decide +kernel
theorem d_Loads_add_31 : decode b_Loads_add 31 = .ok (.dup, 1) := by decide +kernel
theorem d_Loads_add_32 : decode b_Loads_add 32 = .ok (.getfield 22, 3) := by decide +kernel
theorem d_Loads_add_35 : decode b_Loads_add 35 = .ok (.iconst 1, 1) := by decide +kernel
theorem d_Loads_add_36 : decode b_Loads_add 36 = .ok (.iadd, 1) := by decide +kernel
theorem d_Loads_add_37 : decode b_Loads_add 37 = .ok (.putfield 22, 3) := by decide +kernel
theorem d_Loads_add_40 : decode b_Loads_add 40 = .ok (.aload_n 0, 1) := by decide +kernel
theorem d_Loads_add_41 : decode b_Loads_add 41 = .ok (.getfield 22, 3) := by decide +kernel
theorem d_Loads_add_44 : decode b_Loads_add 44 = .ok (.ireturn, 1) := by decide +kernel
theorem d_Loads_has_0 : decode b_Loads_has 0 = .ok (.iload_n 1, 1) := by decide +kernel
theorem d_Loads_has_1 : decode b_Loads_has 1 = .ok (.iconst 1, 1) := by decide +kernel
theorem d_Loads_has_2 : decode b_Loads_has 2 = .ok (.if_icmp .lt 15, 3) := by decide +kernel
theorem d_Loads_has_5 : decode b_Loads_has 5 = .ok (.iload_n 1, 1) := by decide +kernel
theorem d_Loads_has_6 : decode b_Loads_has 6 = .ok (.aload_n 0, 1) := by decide +kernel
theorem d_Loads_has_7 : decode b_Loads_has 7 = .ok (.getfield 22, 3) := by decide +kernel
theorem d_Loads_has_10 : decode b_Loads_has 10 = .ok (.if_icmp .gt 7, 3) := by decide +kernel
theorem d_Loads_has_13 : decode b_Loads_has 13 = .ok (.iconst 1, 1) := by decide +kernel
theorem d_Loads_has_14 : decode b_Loads_has 14 = .ok (.goto 4, 3) := by decide +kernel
theorem d_Loads_has_17 : decode b_Loads_has 17 = .ok (.iconst 0, 1) := by decide +kernel
theorem d_Loads_has_18 : decode b_Loads_has 18 = .ok (.ireturn, 1) := by decide +kernel
theorem d_Loads_runs_0 : decode b_Loads_runs 0 = .ok (.aload_n 0, 1) := by decide +kernel
theorem d_Loads_runs_1 : decode b_Loads_runs 1 = .ok (.iload_n 1, 1) := by decide +kernel
theorem d_Loads_runs_2 : decode b_Loads_runs 2 = .ok (.invokevirtual 30, 3) := by decide +kernel
theorem d_Loads_runs_5 : decode b_Loads_runs 5 = .ok (.ifCond .eq 18, 3) := by decide +kernel
theorem d_Loads_runs_8 : decode b_Loads_runs 8 = .ok (.aload_n 0, 1) := by decide +kernel
theorem d_Loads_runs_9 : decode b_Loads_runs 9 = .ok (.getfield 19, 3) := by decide +kernel
theorem d_Loads_runs_12 : decode b_Loads_runs 12 = .ok (.iload_n 1, 1) := by decide +kernel
theorem d_Loads_runs_13 : decode b_Loads_runs 13 = .ok (.iconst 1, 1) := by decide +kernel
theorem d_Loads_runs_14 : decode b_Loads_runs 14 = .ok (.isub, 1) := by decide +kernel
theorem d_Loads_runs_15 : decode b_Loads_runs 15 = .ok (.baload, 1) := by decide +kernel
theorem d_Loads_runs_16 : decode b_Loads_runs 16 = .ok (.ifCond .ne 7, 3) := by decide +kernel
theorem d_Loads_runs_19 : decode b_Loads_runs 19 = .ok (.iconst 1, 1) := by decide +kernel
theorem d_Loads_runs_20 : decode b_Loads_runs 20 = .ok (.goto 4, 3) := by decide +kernel
theorem d_Loads_runs_23 : decode b_Loads_runs 23 = .ok (.iconst 0, 1) := by decide +kernel
theorem d_Loads_runs_24 : decode b_Loads_runs 24 = .ok (.ireturn, 1) := by decide +kernel
theorem d_Loads_countOff_0 : decode b_Loads_countOff 0 = .ok (.iconst 0, 1) := by decide +kernel
theorem d_Loads_countOff_1 : decode b_Loads_countOff 1 = .ok (.istore_n 1, 1) := by decide +kernel
theorem d_Loads_countOff_2 : decode b_Loads_countOff 2 = .ok (.iconst 0, 1) := by decide +kernel
theorem d_Loads_countOff_3 : decode b_Loads_countOff 3 = .ok (.istore_n 2, 1) := by decide +kernel
theorem d_Loads_countOff_4 : decode b_Loads_countOff 4 = .ok (.iload_n 2, 1) := by decide +kernel
theorem d_Loads_countOff_5 : decode b_Loads_countOff 5 = .ok (.aload_n 0, 1) := by decide +kernel
theorem d_Loads_countOff_6 : decode b_Loads_countOff 6 = .ok (.getfield 22, 3) := by decide +kernel
theorem d_Loads_countOff_9 : decode b_Loads_countOff 9 = .ok (.if_icmp .ge 21, 3) := by decide +kernel
theorem d_Loads_countOff_12 : decode b_Loads_countOff 12 = .ok (.aload_n 0, 1) := by decide +kernel
theorem d_Loads_countOff_13 : decode b_Loads_countOff 13 = .ok (.getfield 19, 3) := by decide +kernel
theorem d_Loads_countOff_16 : decode b_Loads_countOff 16 = .ok (.iload_n 2, 1) := by decide +kernel
theorem d_Loads_countOff_17 : decode b_Loads_countOff 17 = .ok (.baload, 1) := by decide +kernel
theorem d_Loads_countOff_18 : decode b_Loads_countOff 18 = .ok (.ifCond .eq 6, 3) := by decide +kernel
theorem d_Loads_countOff_21 : decode b_Loads_countOff 21 = .ok (.iinc 1 1, 3) := by decide +kernel
theorem d_Loads_countOff_24 : decode b_Loads_countOff 24 = .ok (.iinc 2 1, 3) := by decide +kernel
theorem d_Loads_countOff_27 : decode b_Loads_countOff 27 = .ok (.goto (-23), 3) := by decide +kernel
theorem d_Loads_countOff_30 : decode b_Loads_countOff 30 = .ok (.iload_n 1, 1) := by decide +kernel
theorem d_Loads_countOff_31 : decode b_Loads_countOff 31 = .ok (.ireturn, 1) := by decide +kernel
theorem d_Loads_measure_0 : decode b_Loads_measure 0 = .ok (.aload_n 0, 1) := by decide +kernel
theorem d_Loads_measure_1 : decode b_Loads_measure 1 = .ok (.iload_n 1, 1) := by decide +kernel
theorem d_Loads_measure_2 : decode b_Loads_measure 2 = .ok (.sipush 11500, 3) := by decide +kernel
theorem d_Loads_measure_5 : decode b_Loads_measure 5 = .ok (.if_icmp .ge 12, 3) := by decide +kernel
theorem d_Loads_measure_8 : decode b_Loads_measure 8 = .ok (.aload_n 0, 1) := by decide +kernel
theorem d_Loads_measure_9 : decode b_Loads_measure 9 = .ok (.getfield 34, 3) := by decide +kernel
theorem d_Loads_measure_12 : decode b_Loads_measure 12 = .ok (.iconst 1, 1) := by decide +kernel
theorem d_Loads_measure_13 : decode b_Loads_measure 13 = .ok (.iadd, 1) := by decide +kernel
theorem d_Loads_measure_14 : decode b_Loads_measure 14 = .ok (.goto 4, 3) := by decide +kernel
theorem d_Loads_measure_17 : decode b_Loads_measure 17 = .ok (.iconst 0, 1) := by decide +kernel
theorem d_Loads_measure_18 : decode b_Loads_measure 18 = .ok (.putfield 34, 3) := by decide +kernel
theorem d_Loads_measure_21 : decode b_Loads_measure 21 = .ok (.aload_n 0, 1) := by decide +kernel
theorem d_Loads_measure_22 : decode b_Loads_measure 22 = .ok (.iload_n 1, 1) := by decide +kernel
theorem d_Loads_measure_23 : decode b_Loads_measure 23 = .ok (.sipush 12500, 3) := by decide +kernel
theorem d_Loads_measure_26 : decode b_Loads_measure 26 = .ok (.if_icmp .le 12, 3) := by decide +kernel
theorem d_Loads_measure_29 : decode b_Loads_measure 29 = .ok (.aload_n 0, 1) := by decide +kernel
theorem d_Loads_measure_30 : decode b_Loads_measure 30 = .ok (.getfield 37, 3) := by decide +kernel
theorem d_Loads_measure_33 : decode b_Loads_measure 33 = .ok (.iconst 1, 1) := by decide +kernel
theorem d_Loads_measure_34 : decode b_Loads_measure 34 = .ok (.iadd, 1) := by decide +kernel
theorem d_Loads_measure_35 : decode b_Loads_measure 35 = .ok (.goto 4, 3) := by decide +kernel
theorem d_Loads_measure_38 : decode b_Loads_measure 38 = .ok (.iconst 0, 1) := by decide +kernel
theorem d_Loads_measure_39 : decode b_Loads_measure 39 = .ok (.putfield 37, 3) := by decide +kernel
theorem d_Loads_measure_42 : decode b_Loads_measure 42 = .ok (.aload_n 0, 1) := by decide +kernel
theorem d_Loads_measure_43 : decode b_Loads_measure 43 = .ok (.getfield 34, 3) := by decide +kernel
theorem d_Loads_measure_46 : decode b_Loads_measure 46 = .ok (.iconst 3, 1) := by decide +kernel
theorem d_Loads_measure_47 : decode b_Loads_measure 47 = .ok (.if_icmp .lt 17, 3) := by decide +kernel
theorem d_Loads_measure_50 : decode b_Loads_measure 50 = .ok (.aload_n 0, 1) := by decide +kernel
theorem d_Loads_measure_51 : decode b_Loads_measure 51 = .ok (.iconst 0, 1) := by decide +kernel
theorem d_Loads_measure_52 : decode b_Loads_measure 52 = .ok (.putfield 34, 3) := by decide +kernel
theorem d_Loads_measure_55 : decode b_Loads_measure 55 = .ok (.aload_n 0, 1) := by decide +kernel
theorem d_Loads_measure_56 : decode b_Loads_measure 56 = .ok (.aload_n 0, 1) := by decide +kernel
theorem d_Loads_measure_57 : decode b_Loads_measure 57 = .ok (.invokevirtual 40, 3) := by decide +kernel
theorem d_Loads_measure_60 : decode b_Loads_measure 60 = .ok (.iconst 1, 1) := by decide +kernel
theorem d_Loads_measure_61 : decode b_Loads_measure 61 = .ok (.invokevirtual 44, 3) := by decide +kernel
theorem d_Loads_measure_64 : decode b_Loads_measure 64 = .ok (.aload_n 0, 1) := by decide +kernel
theorem d_Loads_measure_65 : decode b_Loads_measure 65 = .ok (.getfield 37, 3) := by decide +kernel
theorem d_Loads_measure_68 : decode b_Loads_measure 68 = .ok (.iconst 3, 1) := by decide +kernel
theorem d_Loads_measure_69 : decode b_Loads_measure 69 = .ok (.if_icmp .lt 17, 3) := by decide +kernel
theorem d_Loads_measure_72 : decode b_Loads_measure 72 = .ok (.aload_n 0, 1) := by decide +kernel
theorem d_Loads_measure_73 : decode b_Loads_measure 73 = .ok (.iconst 0, 1) := by decide +kernel
theorem d_Loads_measure_74 : decode b_Loads_measure 74 = .ok (.putfield 37, 3) := by decide +kernel
theorem d_Loads_measure_77 : decode b_Loads_measure 77 = .ok (.aload_n 0, 1) := by decide +kernel
theorem d_Loads_measure_78 : decode b_Loads_measure 78 = .ok (.aload_n 0, 1) := by decide +kernel
theorem d_Loads_measure_79 : decode b_Loads_measure 79 = .ok (.invokevirtual 48, 3) := by decide +kernel
theorem d_Loads_measure_82 : decode b_Loads_measure 82 = .ok (.iconst 0, 1) := by decide +kernel
theorem d_Loads_measure_83 : decode b_Loads_measure 83 = .ok (.invokevirtual 44, 3) := by decide +kernel
theorem d_Loads_measure_86 : decode b_Loads_measure 86 = .ok (.return_, 1) := by decide +kernel
theorem d_Loads_setOff_0 : decode b_Loads_setOff 0 = .ok (.iload_n 1, 1) := by decide +kernel
theorem d_Loads_setOff_1 : decode b_Loads_setOff 1 = .ok (.iconst (-1), 1) := by decide +kernel
theorem d_Loads_setOff_2 : decode b_Loads_setOff 2 = .ok (.if_icmp .eq 10, 3) := by decide +kernel
theorem d_Loads_setOff_5 : decode b_Loads_setOff 5 = .ok (.aload_n 0, 1) := by decide +kernel
theorem d_Loads_setOff_6 : decode b_Loads_setOff 6 = .ok (.getfield 19, 3) := by decide +kernel
theorem d_Loads_setOff_9 : decode b_Loads_setOff 9 = .ok (.iload_n 1, 1) := by decide +kernel
theorem d_Loads_setOff_10 : decode b_Loads_setOff 10 = .ok (.iload_n 2, 1) := by decide +kernel
theorem d_Loads_setOff_11 : decode b_Loads_setOff 11 = .ok (.bastore, 1) := by decide +kernel
theorem d_Loads_setOff_12 : decode b_Loads_setOff 12 = .ok (.return_, 1) := by decide +kernel
theorem d_Loads_findNextToShed_0 : decode b_Loads_findNextToShed 0 = .ok (.iconst (-1), 1) := by decide +kernel
theorem d_Loads_findNextToShed_1 : decode b_Loads_findNextToShed 1 = .ok (.istore_n 1, 1) := by decide +kernel
theorem d_Loads_findNextToShed_2 : decode b_Loads_findNextToShed 2 = .ok (.iconst 0, 1) := by decide +kernel
theorem d_Loads_findNextToShed_3 : decode b_Loads_findNextToShed 3 = .ok (.istore_n 2, 1) := by decide +kernel
theorem d_Loads_findNextToShed_4 : decode b_Loads_findNextToShed 4 = .ok (.iload_n 2, 1) := by decide +kernel
theorem d_Loads_findNextToShed_5 : decode b_Loads_findNextToShed 5 = .ok (.aload_n 0, 1) := by decide +kernel
theorem d_Loads_findNextToShed_6 : decode b_Loads_findNextToShed 6 = .ok (.getfield 22, 3) := by decide +kernel
theorem d_Loads_findNextToShed_9 : decode b_Loads_findNextToShed 9 = .ok (.if_icmp .ge 49, 3) := by decide +kernel
theorem d_Loads_findNextToShed_12 : decode b_Loads_findNextToShed 12 = .ok (.aload_n 0, 1) := by decide +kernel
theorem d_Loads_findNextToShed_13 : decode b_Loads_findNextToShed 13 = .ok (.getfield 19, 3) := by decide +kernel
theorem d_Loads_findNextToShed_16 : decode b_Loads_findNextToShed 16 = .ok (.iload_n 2, 1) := by decide +kernel
theorem d_Loads_findNextToShed_17 : decode b_Loads_findNextToShed 17 = .ok (.baload, 1) := by decide +kernel
theorem d_Loads_findNextToShed_18 : decode b_Loads_findNextToShed 18 = .ok (.ifCond .ne 34, 3) := by decide +kernel
theorem d_Loads_findNextToShed_21 : decode b_Loads_findNextToShed 21 = .ok (.aload_n 0, 1) := by decide +kernel
theorem d_Loads_findNextToShed_22 : decode b_Loads_findNextToShed 22 = .ok (.getfield 15, 3) := by decide +kernel
theorem d_Loads_findNextToShed_25 : decode b_Loads_findNextToShed 25 = .ok (.iload_n 2, 1) := by decide +kernel
theorem d_Loads_findNextToShed_26 : decode b_Loads_findNextToShed 26 = .ok (.baload, 1) := by decide +kernel
theorem d_Loads_findNextToShed_27 : decode b_Loads_findNextToShed 27 = .ok (.ifCond .ne 25, 3) := by decide +kernel
theorem d_Loads_findNextToShed_30 : decode b_Loads_findNextToShed 30 = .ok (.iload_n 1, 1) := by decide +kernel
theorem d_Loads_findNextToShed_31 : decode b_Loads_findNextToShed 31 = .ok (.iconst (-1), 1) := by decide +kernel
theorem d_Loads_findNextToShed_32 : decode b_Loads_findNextToShed 32 = .ok (.if_icmp .eq 18, 3) := by decide +kernel
theorem d_Loads_findNextToShed_35 : decode b_Loads_findNextToShed 35 = .ok (.aload_n 0, 1) := by decide +kernel
theorem d_Loads_findNextToShed_36 : decode b_Loads_findNextToShed 36 = .ok (.getfield 11, 3) := by decide +kernel
theorem d_Loads_findNextToShed_39 : decode b_Loads_findNextToShed 39 = .ok (.iload_n 2, 1) := by decide +kernel
theorem d_Loads_findNextToShed_40 : decode b_Loads_findNextToShed 40 = .ok (.iaload, 1) := by decide +kernel
theorem d_Loads_findNextToShed_41 : decode b_Loads_findNextToShed 41 = .ok (.aload_n 0, 1) := by decide +kernel
theorem d_Loads_findNextToShed_42 : decode b_Loads_findNextToShed 42 = .ok (.getfield 11, 3) := by decide +kernel
theorem d_Loads_findNextToShed_45 : decode b_Loads_findNextToShed 45 = .ok (.iload_n 1, 1) := by decide +kernel
theorem d_Loads_findNextToShed_46 : decode b_Loads_findNextToShed 46 = .ok (.iaload, 1) := by decide +kernel
theorem d_Loads_findNextToShed_47 : decode b_Loads_findNextToShed 47 = .ok (.if_icmp .lt 5, 3) := by decide +kernel
theorem d_Loads_findNextToShed_50 : decode b_Loads_findNextToShed 50 = .ok (.iload_n 2, 1) := by decide +kernel
theorem d_Loads_findNextToShed_51 : decode b_Loads_findNextToShed 51 = .ok (.istore_n 1, 1) := by decide +kernel
theorem d_Loads_findNextToShed_52 : decode b_Loads_findNextToShed 52 = .ok (.iinc 2 1, 3) := by decide +kernel
theorem d_Loads_findNextToShed_55 : decode b_Loads_findNextToShed 55 = .ok (.goto (-51), 3) := by decide +kernel
theorem d_Loads_findNextToShed_58 : decode b_Loads_findNextToShed 58 = .ok (.iload_n 1, 1) := by decide +kernel
theorem d_Loads_findNextToShed_59 : decode b_Loads_findNextToShed 59 = .ok (.ireturn, 1) := by decide +kernel
theorem d_Loads_findNextToRestore_0 : decode b_Loads_findNextToRestore 0 = .ok (.iconst (-1), 1) := by decide +kernel
theorem d_Loads_findNextToRestore_1 : decode b_Loads_findNextToRestore 1 = .ok (.istore_n 1, 1) := by decide +kernel
theorem d_Loads_findNextToRestore_2 : decode b_Loads_findNextToRestore 2 = .ok (.iconst 0, 1) := by decide +kernel
theorem d_Loads_findNextToRestore_3 : decode b_Loads_findNextToRestore 3 = .ok (.istore_n 2, 1) := by decide +kernel
theorem d_Loads_findNextToRestore_4 : decode b_Loads_findNextToRestore 4 = .ok (.iload_n 2, 1) := by decide +kernel
theorem d_Loads_findNextToRestore_5 : decode b_Loads_findNextToRestore 5 = .ok (.aload_n 0, 1) := by decide +kernel
theorem d_Loads_findNextToRestore_6 : decode b_Loads_findNextToRestore 6 = .ok (.getfield 22, 3) := by decide +kernel
theorem d_Loads_findNextToRestore_9 : decode b_Loads_findNextToRestore 9 = .ok (.if_icmp .ge 40, 3) := by decide +kernel
theorem d_Loads_findNextToRestore_12 : decode b_Loads_findNextToRestore 12 = .ok (.aload_n 0, 1) := by decide +kernel
theorem d_Loads_findNextToRestore_13 : decode b_Loads_findNextToRestore 13 = .ok (.getfield 19, 3) := by decide +kernel
theorem d_Loads_findNextToRestore_16 : decode b_Loads_findNextToRestore 16 = .ok (.iload_n 2, 1) := by decide +kernel
theorem d_Loads_findNextToRestore_17 : decode b_Loads_findNextToRestore 17 = .ok (.baload, 1) := by decide +kernel
theorem d_Loads_findNextToRestore_18 : decode b_Loads_findNextToRestore 18 = .ok (.ifCond .eq 25, 3) := by decide +kernel
theorem d_Loads_findNextToRestore_21 : decode b_Loads_findNextToRestore 21 = .ok (.iload_n 1, 1) := by decide +kernel
theorem d_Loads_findNextToRestore_22 : decode b_Loads_findNextToRestore 22 = .ok (.iconst (-1), 1) := by decide +kernel
theorem d_Loads_findNextToRestore_23 : decode b_Loads_findNextToRestore 23 = .ok (.if_icmp .eq 18, 3) := by decide +kernel
theorem d_Loads_findNextToRestore_26 : decode b_Loads_findNextToRestore 26 = .ok (.aload_n 0, 1) := by decide +kernel
theorem d_Loads_findNextToRestore_27 : decode b_Loads_findNextToRestore 27 = .ok (.getfield 11, 3) := by decide +kernel
theorem d_Loads_findNextToRestore_30 : decode b_Loads_findNextToRestore 30 = .ok (.iload_n 2, 1) := by decide +kernel
theorem d_Loads_findNextToRestore_31 : decode b_Loads_findNextToRestore 31 = .ok (.iaload, 1) := by decide +kernel
theorem d_Loads_findNextToRestore_32 : decode b_Loads_findNextToRestore 32 = .ok (.aload_n 0, 1) := by decide +kernel
theorem d_Loads_findNextToRestore_33 : decode b_Loads_findNextToRestore 33 = .ok (.getfield 11, 3) := by decide +kernel
theorem d_Loads_findNextToRestore_36 : decode b_Loads_findNextToRestore 36 = .ok (.iload_n 1, 1) := by decide +kernel
theorem d_Loads_findNextToRestore_37 : decode b_Loads_findNextToRestore 37 = .ok (.iaload, 1) := by decide +kernel
theorem d_Loads_findNextToRestore_38 : decode b_Loads_findNextToRestore 38 = .ok (.if_icmp .ge 5, 3) := by decide +kernel
theorem d_Loads_findNextToRestore_41 : decode b_Loads_findNextToRestore 41 = .ok (.iload_n 2, 1) := by decide +kernel
theorem d_Loads_findNextToRestore_42 : decode b_Loads_findNextToRestore 42 = .ok (.istore_n 1, 1) := by decide +kernel
theorem d_Loads_findNextToRestore_43 : decode b_Loads_findNextToRestore 43 = .ok (.iinc 2 1, 3) := by decide +kernel
theorem d_Loads_findNextToRestore_46 : decode b_Loads_findNextToRestore 46 = .ok (.goto (-42), 3) := by decide +kernel
theorem d_Loads_findNextToRestore_49 : decode b_Loads_findNextToRestore 49 = .ok (.iload_n 1, 1) := by decide +kernel
theorem d_Loads_findNextToRestore_50 : decode b_Loads_findNextToRestore 50 = .ok (.ireturn, 1) := by decide +kernel
end
section
theorem d_B_init_0 : decode b_B_init 0 = .ok (.aload_n 0, 1) := by decide +kernel
theorem d_B_init_1 : decode b_B_init 1 = .ok (.invokespecial 1, 3) := by decide +kernel
theorem d_B_init_4 : decode b_B_init 4 = .ok (.aload_n 0, 1) := by decide +kernel
theorem d_B_init_5 : decode b_B_init 5 = .ok (.bipush 9, 2) := by decide +kernel
theorem d_B_init_7 : decode b_B_init 7 = .ok (.newarray .int, 2) := by decide +kernel
theorem d_B_init_9 : decode b_B_init 9 = .ok (.putfield 9, 3) := by decide +kernel
theorem d_B_init_12 : decode b_B_init 12 = .ok (.aload_n 0, 1) := by decide +kernel
theorem d_B_init_13 : decode b_B_init 13 = .ok (.getfield 9, 3) := by decide +kernel
theorem d_B_init_16 : decode b_B_init 16 = .ok (.iconst 1, 1) := by decide +kernel
theorem d_B_init_17 : decode b_B_init 17 = .ok (.sipush 1000, 3) := by decide +kernel
theorem d_B_init_20 : decode b_B_init 20 = .ok (.iastore, 1) := by decide +kernel
theorem d_B_init_21 : decode b_B_init 21 = .ok (.aload_n 0, 1) := by decide +kernel
theorem d_B_init_22 : decode b_B_init 22 = .ok (.bipush 10, 2) := by decide +kernel
theorem d_B_init_24 : decode b_B_init 24 = .ok (.newarray .int, 2) := by decide +kernel
theorem d_B_init_26 : decode b_B_init 26 = .ok (.putfield 13, 3) := by decide +kernel
theorem d_B_init_29 : decode b_B_init 29 = .ok (.aload_n 0, 1) := by decide +kernel
theorem d_B_init_30 : decode b_B_init 30 = .ok (.bipush 6, 2) := by decide +kernel
theorem d_B_init_32 : decode b_B_init 32 = .ok (.newarray .boolean, 2) := by decide +kernel
theorem d_B_init_34 : decode b_B_init 34 = .ok (.putfield 16, 3) := by decide +kernel
theorem d_B_init_37 : decode b_B_init 37 = .ok (.aload_n 0, 1) := by decide +kernel
theorem d_B_init_38 : decode b_B_init 38 = .ok (.iconst 2, 1) := by decide +kernel
theorem d_B_init_39 : decode b_B_init 39 = .ok (.anewarray 20, 3) := by decide +kernel
theorem d_B_init_42 : decode b_B_init 42 = .ok (.putfield 22, 3) := by decide +kernel
theorem d_B_init_45 : decode b_B_init 45 = .ok (.iconst 0, 1) := by decide +kernel
theorem d_B_init_46 : decode b_B_init 46 = .ok (.istore_n 1, 1) := by decide +kernel
theorem d_B_init_47 : decode b_B_init 47 = .ok (.iload_n 1, 1) := by decide +kernel
theorem d_B_init_48 : decode b_B_init 48 = .ok (.iconst 2, 1) := by decide +kernel
theorem d_B_init_49 : decode b_B_init 49 = .ok (.if_icmp .ge 22, 3) := by decide +kernel
theorem d_B_init_52 : decode b_B_init 52 = .ok (.aload_n 0, 1) := by decide +kernel
theorem d_B_init_53 : decode b_B_init 53 = .ok (.getfield 22, 3) := by decide +kernel
theorem d_B_init_56 : decode b_B_init 56 = .ok (.iload_n 1, 1) := by decide +kernel
theorem d_B_init_57 : decode b_B_init 57 = .ok (.new 20, 3) := by decide +kernel
theorem d_B_init_60 : decode b_B_init 60 = .ok (.dup, 1) := by decide +kernel
theorem d_B_init_61 : decode b_B_init 61 = .ok (.invokespecial 26, 3) := by decide +kernel
theorem d_B_init_64 : decode b_B_init 64 = .ok (.aastore, 1) := by decide +kernel
theorem d_B_init_65 : decode b_B_init 65 = .ok (.iinc 1 1, 3) := by decide +kernel
theorem d_B_init_68 : decode b_B_init 68 = .ok (.goto (-21), 3) := by decide +kernel
theorem d_B_init_71 : decode b_B_init 71 = .ok (.aload_n 0, 1) := by decide +kernel
theorem d_B_init_72 : decode b_B_init 72 = .ok (.new 27, 3) := by decide +kernel
theorem d_B_init_75 : decode b_B_init 75 = .ok (.dup, 1) := by decide +kernel
theorem d_B_init_76 : decode b_B_init 76 = .ok (.invokespecial 29, 3) := by decide +kernel
theorem d_B_init_79 : decode b_B_init 79 = .ok (.putfield 30, 3) := by decide +kernel
theorem d_B_init_82 : decode b_B_init 82 = .ok (.aload_n 0, 1) := by decide +kernel
theorem d_B_init_83 : decode b_B_init 83 = .ok (.iconst 4, 1) := by decide +kernel
theorem d_B_init_84 : decode b_B_init 84 = .ok (.anewarray 34, 3) := by decide +kernel
theorem d_B_init_87 : decode b_B_init 87 = .ok (.putfield 36, 3) := by decide +kernel
theorem d_B_init_90 : decode b_B_init 90 = .ok (.iconst 0, 1) := by decide +kernel
theorem d_B_init_91 : decode b_B_init 91 = .ok (.istore_n 1, 1) := by decide +kernel
theorem d_B_init_92 : decode b_B_init 92 = .ok (.iload_n 1, 1) := by decide +kernel
theorem d_B_init_93 : decode b_B_init 93 = .ok (.iconst 4, 1) := by decide +kernel
theorem d_B_init_94 : decode b_B_init 94 = .ok (.if_icmp .ge 22, 3) := by decide +kernel
theorem d_B_init_97 : decode b_B_init 97 = .ok (.aload_n 0, 1) := by decide +kernel
theorem d_B_init_98 : decode b_B_init 98 = .ok (.getfield 36, 3) := by decide +kernel
theorem d_B_init_101 : decode b_B_init 101 = .ok (.iload_n 1, 1) := by decide +kernel
theorem d_B_init_102 : decode b_B_init 102 = .ok (.new 34, 3) := by decide +kernel
theorem d_B_init_105 : decode b_B_init 105 = .ok (.dup, 1) := by decide +kernel
theorem d_B_init_106 : decode b_B_init 106 = .ok (.invokespecial 40, 3) := by decide +kernel
theorem d_B_init_109 : decode b_B_init 109 = .ok (.aastore, 1) := by decide +kernel
theorem d_B_init_110 : decode b_B_init 110 = .ok (.iinc 1 1, 3) := by decide +kernel
theorem d_B_init_113 : decode b_B_init 113 = .ok (.goto (-21), 3) := by decide +kernel
theorem d_B_init_116 : decode b_B_init 116 = .ok (.aload_n 0, 1) := by decide +kernel
theorem d_B_init_117 : decode b_B_init 117 = .ok (.new 41, 3) := by decide +kernel
theorem d_B_init_120 : decode b_B_init 120 = .ok (.dup, 1) := by decide +kernel
theorem d_B_init_121 : decode b_B_init 121 = .ok (.invokespecial 43, 3) := by decide +kernel
theorem d_B_init_124 : decode b_B_init 124 = .ok (.putfield 44, 3) := by decide +kernel
theorem d_B_init_127 : decode b_B_init 127 = .ok (.aload_n 0, 1) := by decide +kernel
theorem d_B_init_128 : decode b_B_init 128 = .ok (.iconst 4, 1) := by decide +kernel
theorem d_B_init_129 : decode b_B_init 129 = .ok (.iconst 5, 1) := by decide +kernel
theorem d_B_init_130 : decode b_B_init 130 = .ok (.multianewarray 48 2, 4) := by decide +kernel
theorem d_B_init_134 : decode b_B_init 134 = .ok (.putfield 50, 3) := by decide +kernel
theorem d_B_init_137 : decode b_B_init 137 = .ok (.iconst 0, 1) := by decide +kernel
theorem d_B_init_138 : decode b_B_init 138 = .ok (.istore_n 1, 1) := by decide +kernel
theorem d_B_init_139 : decode b_B_init 139 = .ok (.iload_n 1, 1) := by decide +kernel
theorem d_B_init_140 : decode b_B_init 140 = .ok (.iconst 4, 1) := by decide +kernel
theorem d_B_init_141 : decode b_B_init 141 = .ok (.if_icmp .ge 31, 3) := by decide +kernel
theorem d_B_init_144 : decode b_B_init 144 = .ok (.iconst 0, 1) := by decide +kernel
theorem d_B_init_145 : decode b_B_init 145 = .ok (.istore_n 2, 1) := by decide +kernel
theorem d_B_init_146 : decode b_B_init 146 = .ok (.iload_n 2, 1) := by decide +kernel
theorem d_B_init_147 : decode b_B_init 147 = .ok (.iconst 5, 1) := by decide +kernel
theorem d_B_init_148 : decode b_B_init 148 = .ok (.if_icmp .ge 18, 3) := by decide +kernel
theorem d_B_init_151 : decode b_B_init 151 = .ok (.aload_n 0, 1) := by decide +kernel
theorem d_B_init_152 : decode b_B_init 152 = .ok (.getfield 50, 3) := by decide +kernel
theorem d_B_init_155 : decode b_B_init 155 = .ok (.iload_n 1, 1) := by decide +kernel
theorem d_B_init_156 : decode b_B_init 156 = .ok (.aaload, 1) := by decide +kernel
theorem d_B_init_157 : decode b_B_init 157 = .ok (.iload_n 2, 1) := by decide +kernel
theorem d_B_init_158 : decode b_B_init 158 = .ok (.iconst (-1), 1) := by decide +kernel
theorem d_B_init_159 : decode b_B_init 159 = .ok (.iastore, 1) := by decide +kernel
theorem d_B_init_160 : decode b_B_init 160 = .ok (.iinc 2 1, 3) := by decide +kernel
theorem d_B_init_163 : decode b_B_init 163 = .ok (.goto (-17), 3) := by decide +kernel
theorem d_B_init_166 : decode b_B_init 166 = .ok (.iinc 1 1, 3) := by decide +kernel
theorem d_B_init_169 : decode b_B_init 169 = .ok (.goto (-30), 3) := by decide +kernel
theorem d_B_init_172 : decode b_B_init 172 = .ok (.return_, 1) := by decide +kernel
theorem d_B_input_0 : decode b_B_input 0 = .ok (.iload_n 1, 1) := by decide +kernel
theorem d_B_input_1 : decode b_B_input 1 = .ok (.bipush 9, 2) := by decide +kernel
theorem d_B_input_3 : decode b_B_input 3 = .ok (.invokestatic 53, 3) := by decide +kernel
theorem d_B_input_6 : decode b_B_input 6 = .ok (.ifCond .ne 5, 3) := by decide +kernel
theorem d_B_input_9 : decode b_B_input 9 = .ok (.iconst (-1), 1) := by decide +kernel
theorem d_B_input_10 : decode b_B_input 10 = .ok (.ireturn, 1) := by decide +kernel
theorem d_B_input_11 : decode b_B_input 11 = .ok (.iload_n 2, 1) := by decide +kernel
theorem d_B_input_12 : decode b_B_input 12 = .ok (.getstatic 57, 3) := by decide +kernel
theorem d_B_input_15 : decode b_B_input 15 = .ok (.iload_n 1, 1) := by decide +kernel
theorem d_B_input_16 : decode b_B_input 16 = .ok (.iaload, 1) := by decide +kernel
theorem d_B_input_17 : decode b_B_input 17 = .ok (.invokestatic 60, 3) := by decide +kernel
theorem d_B_input_20 : decode b_B_input 20 = .ok (.ifCond .ne 6, 3) := by decide +kernel
theorem d_B_input_23 : decode b_B_input 23 = .ok (.bipush (-2), 2) := by decide +kernel
theorem d_B_input_25 : decode b_B_input 25 = .ok (.ireturn, 1) := by decide +kernel
theorem d_B_input_26 : decode b_B_input 26 = .ok (.aload_n 0, 1) := by decide +kernel
theorem d_B_input_27 : decode b_B_input 27 = .ok (.invokevirtual 63, 3) := by decide +kernel
theorem d_B_input_30 : decode b_B_input 30 = .ok (.aload_n 0, 1) := by decide +kernel
theorem d_B_input_31 : decode b_B_input 31 = .ok (.getfield 9, 3) := by decide +kernel
theorem d_B_input_34 : decode b_B_input 34 = .ok (.iload_n 1, 1) := by decide +kernel
theorem d_B_input_35 : decode b_B_input 35 = .ok (.iload_n 2, 1) := by decide +kernel
theorem d_B_input_36 : decode b_B_input 36 = .ok (.iastore, 1) := by decide +kernel
theorem d_B_input_37 : decode b_B_input 37 = .ok (.iload_n 1, 1) := by decide +kernel
theorem d_B_input_38 : decode b_B_input 38 = .ok (.iconst 1, 1) := by decide +kernel
theorem d_B_input_39 : decode b_B_input 39 = .ok (.if_icmp .ne 8, 3) := by decide +kernel
theorem d_B_input_42 : decode b_B_input 42 = .ok (.aload_n 0, 1) := by decide +kernel
theorem d_B_input_43 : decode b_B_input 43 = .ok (.iload_n 2, 1) := by decide +kernel
theorem d_B_input_44 : decode b_B_input 44 = .ok (.invokevirtual 66, 3) := by decide +kernel
theorem d_B_input_47 : decode b_B_input 47 = .ok (.aload_n 0, 1) := by decide +kernel
theorem d_B_input_48 : decode b_B_input 48 = .ok (.invokevirtual 70, 3) := by decide +kernel
theorem d_B_input_51 : decode b_B_input 51 = .ok (.iload_n 1, 1) := by decide +kernel
theorem d_B_input_52 : decode b_B_input 52 = .ok (.iconst 2, 1) := by decide +kernel
theorem d_B_input_53 : decode b_B_input 53 = .ok (.if_icmp .ne 14, 3) := by decide +kernel
theorem d_B_input_56 : decode b_B_input 56 = .ok (.iload_n 2, 1) := by decide +kernel
theorem d_B_input_57 : decode b_B_input 57 = .ok (.ifCond .eq 10, 3) := by decide +kernel
theorem d_B_input_60 : decode b_B_input 60 = .ok (.aload_n 0, 1) := by decide +kernel
theorem d_B_input_61 : decode b_B_input 61 = .ok (.iconst 2, 1) := by decide +kernel
theorem d_B_input_62 : decode b_B_input 62 = .ok (.iload_n 2, 1) := by decide +kernel
theorem d_B_input_63 : decode b_B_input 63 = .ok (.isub, 1) := by decide +kernel
theorem d_B_input_64 : decode b_B_input 64 = .ok (.invokevirtual 73, 3) := by decide +kernel
theorem d_B_input_67 : decode b_B_input 67 = .ok (.aload_n 0, 1) := by decide +kernel
theorem d_B_input_68 : decode b_B_input 68 = .ok (.invokevirtual 76, 3) := by decide +kernel
theorem d_B_input_71 : decode b_B_input 71 = .ok (.ireturn, 1) := by decide +kernel
theorem d_B_output_0 : decode b_B_output 0 = .ok (.iload_n 1, 1) := by decide +kernel
theorem d_B_output_1 : decode b_B_output 1 = .ok (.bipush 10, 2) := by decide +kernel
theorem d_B_output_3 : decode b_B_output 3 = .ok (.invokestatic 53, 3) := by decide +kernel
theorem d_B_output_6 : decode b_B_output 6 = .ok (.ifCond .ne 13, 3) := by decide +kernel
theorem d_B_output_9 : decode b_B_output 9 = .ok (.new 80, 3) := by decide +kernel
theorem d_B_output_12 : decode b_B_output 12 = .ok (.dup, 1) := by decide +kernel
theorem d_B_output_13 : decode b_B_output 13 = .ok (.ldc 82, 2) := by decide +kernel
theorem d_B_output_15 : decode b_B_output 15 = .ok (.invokespecial 84, 3) := by decide +kernel
theorem d_B_output_18 : decode b_B_output 18 = .ok (.athrow, 1) := by decide +kernel
theorem d_B_output_19 : decode b_B_output 19 = .ok (.aload_n 0, 1) := by decide +kernel
theorem d_B_output_20 : decode b_B_output 20 = .ok (.iload_n 1, 1) := by decide +kernel
theorem d_B_output_21 : decode b_B_output 21 = .ok (.invokevirtual 87, 3) := by decide +kernel
theorem d_B_output_24 : decode b_B_output 24 = .ok (.ireturn, 1) := by decide +kernel
theorem d_B_step_0 : decode b_B_step 0 = .ok (.iload_n 1, 1) := by decide +kernel
theorem d_B_step_1 : decode b_B_step 1 = .ok (.sipush 1000, 3) := by decide +kernel
theorem d_B_step_4 : decode b_B_step 4 = .ok (.invokestatic 60, 3) := by decide +kernel
theorem d_B_step_7 : decode b_B_step 7 = .ok (.ifCond .ne 6, 3) := by decide +kernel
theorem d_B_step_10 : decode b_B_step 10 = .ok (.bipush (-2), 2) := by decide +kernel
theorem d_B_step_12 : decode b_B_step 12 = .ok (.ireturn, 1) := by decide +kernel
theorem d_B_step_13 : decode b_B_step 13 = .ok (.aload_n 0, 1) := by decide +kernel
theorem d_B_step_14 : decode b_B_step 14 = .ok (.invokevirtual 63, 3) := by decide +kernel
theorem d_B_step_17 : decode b_B_step 17 = .ok (.iconst 0, 1) := by decide +kernel
theorem d_B_step_18 : decode b_B_step 18 = .ok (.istore_n 2, 1) := by decide +kernel
theorem d_B_step_19 : decode b_B_step 19 = .ok (.iload_n 2, 1) := by decide +kernel
theorem d_B_step_20 : decode b_B_step 20 = .ok (.iload_n 1, 1) := by decide +kernel
theorem d_B_step_21 : decode b_B_step 21 = .ok (.if_icmp .ge 13, 3) := by decide +kernel
theorem d_B_step_24 : decode b_B_step 24 = .ok (.aload_n 0, 1) := by decide +kernel
theorem d_B_step_25 : decode b_B_step 25 = .ok (.invokevirtual 91, 3) := by decide +kernel
theorem d_B_step_28 : decode b_B_step 28 = .ok (.iinc 2 1, 3) := by decide +kernel
theorem d_B_step_31 : decode b_B_step 31 = .ok (.goto (-12), 3) := by decide +kernel
theorem d_B_step_34 : decode b_B_step 34 = .ok (.aload_n 0, 1) := by decide +kernel
theorem d_B_step_35 : decode b_B_step 35 = .ok (.invokevirtual 76, 3) := by decide +kernel
theorem d_B_step_38 : decode b_B_step 38 = .ok (.ireturn, 1) := by decide +kernel
theorem d_B_pinch_0 : decode b_B_pinch 0 = .ok (.iload_n 1, 1) := by decide +kernel
theorem d_B_pinch_1 : decode b_B_pinch 1 = .ok (.iconst 4, 1) := by decide +kernel
theorem d_B_pinch_2 : decode b_B_pinch 2 = .ok (.invokestatic 53, 3) := by decide +kernel
theorem d_B_pinch_5 : decode b_B_pinch 5 = .ok (.ifCond .ne 5, 3) := by decide +kernel
theorem d_B_pinch_8 : decode b_B_pinch 8 = .ok (.iconst (-1), 1) := by decide +kernel
theorem d_B_pinch_9 : decode b_B_pinch 9 = .ok (.ireturn, 1) := by decide +kernel
theorem d_B_pinch_10 : decode b_B_pinch 10 = .ok (.iload_n 2, 1) := by decide +kernel
theorem d_B_pinch_11 : decode b_B_pinch 11 = .ok (.sipush 1000, 3) := by decide +kernel
theorem d_B_pinch_14 : decode b_B_pinch 14 = .ok (.invokestatic 60, 3) := by decide +kernel
theorem d_B_pinch_17 : decode b_B_pinch 17 = .ok (.ifCond .ne 6, 3) := by decide +kernel
theorem d_B_pinch_20 : decode b_B_pinch 20 = .ok (.bipush (-2), 2) := by decide +kernel
theorem d_B_pinch_22 : decode b_B_pinch 22 = .ok (.ireturn, 1) := by decide +kernel
theorem d_B_pinch_23 : decode b_B_pinch 23 = .ok (.aload_n 0, 1) := by decide +kernel
theorem d_B_pinch_24 : decode b_B_pinch 24 = .ok (.getfield 36, 3) := by decide +kernel
theorem d_B_pinch_27 : decode b_B_pinch 27 = .ok (.iload_n 1, 1) := by decide +kernel
theorem d_B_pinch_28 : decode b_B_pinch 28 = .ok (.aaload, 1) := by decide +kernel
theorem d_B_pinch_29 : decode b_B_pinch 29 = .ok (.iload_n 2, 1) := by decide +kernel
theorem d_B_pinch_30 : decode b_B_pinch 30 = .ok (.invokevirtual 94, 3) := by decide +kernel
theorem d_B_pinch_33 : decode b_B_pinch 33 = .ok (.invokestatic 98, 3) := by decide +kernel
theorem d_B_pinch_36 : decode b_B_pinch 36 = .ok (.ireturn, 1) := by decide +kernel
theorem d_B_learn_0 : decode b_B_learn 0 = .ok (.iload_n 1, 1) := by decide +kernel
theorem d_B_learn_1 : decode b_B_learn 1 = .ok (.iconst 4, 1) := by decide +kernel
theorem d_B_learn_2 : decode b_B_learn 2 = .ok (.invokestatic 53, 3) := by decide +kernel
theorem d_B_learn_5 : decode b_B_learn 5 = .ok (.ifCond .ne 5, 3) := by decide +kernel
theorem d_B_learn_8 : decode b_B_learn 8 = .ok (.iconst (-1), 1) := by decide +kernel
theorem d_B_learn_9 : decode b_B_learn 9 = .ok (.ireturn, 1) := by decide +kernel
theorem d_B_learn_10 : decode b_B_learn 10 = .ok (.aload_n 0, 1) := by decide +kernel
theorem d_B_learn_11 : decode b_B_learn 11 = .ok (.getfield 36, 3) := by decide +kernel
theorem d_B_learn_14 : decode b_B_learn 14 = .ok (.iload_n 1, 1) := by decide +kernel
theorem d_B_learn_15 : decode b_B_learn 15 = .ok (.aaload, 1) := by decide +kernel
theorem d_B_learn_16 : decode b_B_learn 16 = .ok (.invokevirtual 102, 3) := by decide +kernel
theorem d_B_learn_19 : decode b_B_learn 19 = .ok (.invokestatic 98, 3) := by decide +kernel
theorem d_B_learn_22 : decode b_B_learn 22 = .ok (.ireturn, 1) := by decide +kernel
theorem d_B_shed_0 : decode b_B_shed 0 = .ok (.iload_n 1, 1) := by decide +kernel
theorem d_B_shed_1 : decode b_B_shed 1 = .ok (.sipush 20000, 3) := by decide +kernel
theorem d_B_shed_4 : decode b_B_shed 4 = .ok (.invokestatic 60, 3) := by decide +kernel
theorem d_B_shed_7 : decode b_B_shed 7 = .ok (.ifCond .ne 6, 3) := by decide +kernel
theorem d_B_shed_10 : decode b_B_shed 10 = .ok (.bipush (-2), 2) := by decide +kernel
theorem d_B_shed_12 : decode b_B_shed 12 = .ok (.ireturn, 1) := by decide +kernel
theorem d_B_shed_13 : decode b_B_shed 13 = .ok (.aload_n 0, 1) := by decide +kernel
theorem d_B_shed_14 : decode b_B_shed 14 = .ok (.getfield 44, 3) := by decide +kernel
theorem d_B_shed_17 : decode b_B_shed 17 = .ok (.iload_n 1, 1) := by decide +kernel
theorem d_B_shed_18 : decode b_B_shed 18 = .ok (.invokevirtual 106, 3) := by decide +kernel
theorem d_B_shed_21 : decode b_B_shed 21 = .ok (.aload_n 0, 1) := by decide +kernel
theorem d_B_shed_22 : decode b_B_shed 22 = .ok (.getfield 44, 3) := by decide +kernel
theorem d_B_shed_25 : decode b_B_shed 25 = .ok (.invokevirtual 109, 3) := by decide +kernel
theorem d_B_shed_28 : decode b_B_shed 28 = .ok (.ireturn, 1) := by decide +kernel
theorem d_B_load_0 : decode b_B_load 0 = .ok (.iload_n 1, 1) := by decide +kernel
theorem d_B_load_1 : decode b_B_load 1 = .ok (.bipush 9, 2) := by decide +kernel
theorem d_B_load_3 : decode b_B_load 3 = .ok (.invokestatic 60, 3) := by decide +kernel
theorem d_B_load_6 : decode b_B_load 6 = .ok (.ifCond .ne 6, 3) := by decide +kernel
theorem d_B_load_9 : decode b_B_load 9 = .ok (.bipush (-2), 2) := by decide +kernel
theorem d_B_load_11 : decode b_B_load 11 = .ok (.ireturn, 1) := by decide +kernel
theorem d_B_load_12 : decode b_B_load 12 = .ok (.aload_n 0, 1) := by decide +kernel
theorem d_B_load_13 : decode b_B_load 13 = .ok (.getfield 44, 3) := by decide +kernel
theorem d_B_load_16 : decode b_B_load 16 = .ok (.invokevirtual 112, 3) := by decide +kernel
theorem d_B_load_19 : decode b_B_load 19 = .ok (.ifCond .eq 6, 3) := by decide +kernel
theorem d_B_load_22 : decode b_B_load 22 = .ok (.bipush (-4), 2) := by decide +kernel
theorem d_B_load_24 : decode b_B_load 24 = .ok (.ireturn, 1) := by decide +kernel
theorem d_B_load_25 : decode b_B_load 25 = .ok (.aload_n 0, 1) := by decide +kernel
theorem d_B_load_26 : decode b_B_load 26 = .ok (.getfield 44, 3) := by decide +kernel
theorem d_B_load_29 : decode b_B_load 29 = .ok (.iload_n 1, 1) := by decide +kernel
theorem d_B_load_30 : decode b_B_load 30 = .ok (.iload_n 2, 1) := by decide +kernel
theorem d_B_load_31 : decode b_B_load 31 = .ok (.invokevirtual 115, 3) := by decide +kernel
theorem d_B_load_34 : decode b_B_load 34 = .ok (.ireturn, 1) := by decide +kernel
theorem d_B_isOn_0 : decode b_B_isOn 0 = .ok (.aload_n 0, 1) := by decide +kernel
theorem d_B_isOn_1 : decode b_B_isOn 1 = .ok (.getfield 44, 3) := by decide +kernel
theorem d_B_isOn_4 : decode b_B_isOn 4 = .ok (.iload_n 1, 1) := by decide +kernel
theorem d_B_isOn_5 : decode b_B_isOn 5 = .ok (.invokevirtual 119, 3) := by decide +kernel
theorem d_B_isOn_8 : decode b_B_isOn 8 = .ok (.ifCond .ne 5, 3) := by decide +kernel
theorem d_B_isOn_11 : decode b_B_isOn 11 = .ok (.iconst (-1), 1) := by decide +kernel
theorem d_B_isOn_12 : decode b_B_isOn 12 = .ok (.ireturn, 1) := by decide +kernel
theorem d_B_isOn_13 : decode b_B_isOn 13 = .ok (.aload_n 0, 1) := by decide +kernel
theorem d_B_isOn_14 : decode b_B_isOn 14 = .ok (.getfield 44, 3) := by decide +kernel
theorem d_B_isOn_17 : decode b_B_isOn 17 = .ok (.iload_n 1, 1) := by decide +kernel
theorem d_B_isOn_18 : decode b_B_isOn 18 = .ok (.invokevirtual 122, 3) := by decide +kernel
theorem d_B_isOn_21 : decode b_B_isOn 21 = .ok (.invokestatic 98, 3) := by decide +kernel
theorem d_B_isOn_24 : decode b_B_isOn 24 = .ok (.ireturn, 1) := by decide +kernel
theorem d_B_bulb_0 : decode b_B_bulb 0 = .ok (.iload_n 1, 1) := by decide +kernel
theorem d_B_bulb_1 : decode b_B_bulb 1 = .ok (.bipush 6, 2) := by decide +kernel
theorem d_B_bulb_3 : decode b_B_bulb 3 = .ok (.invokestatic 53, 3) := by decide +kernel
theorem d_B_bulb_6 : decode b_B_bulb 6 = .ok (.ifCond .ne 5, 3) := by decide +kernel
theorem d_B_bulb_9 : decode b_B_bulb 9 = .ok (.iconst (-1), 1) := by decide +kernel
theorem d_B_bulb_10 : decode b_B_bulb 10 = .ok (.ireturn, 1) := by decide +kernel
theorem d_B_bulb_11 : decode b_B_bulb 11 = .ok (.aload_n 0, 1) := by decide +kernel
theorem d_B_bulb_12 : decode b_B_bulb 12 = .ok (.getfield 16, 3) := by decide +kernel
theorem d_B_bulb_15 : decode b_B_bulb 15 = .ok (.iload_n 1, 1) := by decide +kernel
theorem d_B_bulb_16 : decode b_B_bulb 16 = .ok (.iload_n 2, 1) := by decide +kernel
theorem d_B_bulb_17 : decode b_B_bulb 17 = .ok (.ifCond .ne 7, 3) := by decide +kernel
theorem d_B_bulb_20 : decode b_B_bulb 20 = .ok (.iconst 1, 1) := by decide +kernel
theorem d_B_bulb_21 : decode b_B_bulb 21 = .ok (.goto 4, 3) := by decide +kernel
theorem d_B_bulb_24 : decode b_B_bulb 24 = .ok (.iconst 0, 1) := by decide +kernel
theorem d_B_bulb_25 : decode b_B_bulb 25 = .ok (.bastore, 1) := by decide +kernel
theorem d_B_bulb_26 : decode b_B_bulb 26 = .ok (.getstatic 125, 3) := by decide +kernel
theorem d_B_bulb_29 : decode b_B_bulb 29 = .ok (.iload_n 1, 1) := by decide +kernel
theorem d_B_bulb_30 : decode b_B_bulb 30 = .ok (.iaload, 1) := by decide +kernel
theorem d_B_bulb_31 : decode b_B_bulb 31 = .ok (.istore_n 3, 1) := by decide +kernel
theorem d_B_bulb_32 : decode b_B_bulb 32 = .ok (.iload_n 2, 1) := by decide +kernel
theorem d_B_bulb_33 : decode b_B_bulb 33 = .ok (.ifCond .ne 12, 3) := by decide +kernel
theorem d_B_bulb_36 : decode b_B_bulb 36 = .ok (.aload_n 0, 1) := by decide +kernel
theorem d_B_bulb_37 : decode b_B_bulb 37 = .ok (.getfield 16, 3) := by decide +kernel
theorem d_B_bulb_40 : decode b_B_bulb 40 = .ok (.iload_n 3, 1) := by decide +kernel
theorem d_B_bulb_41 : decode b_B_bulb 41 = .ok (.baload, 1) := by decide +kernel
theorem d_B_bulb_42 : decode b_B_bulb 42 = .ok (.ifCond .eq 7, 3) := by decide +kernel
theorem d_B_bulb_45 : decode b_B_bulb 45 = .ok (.iconst 0, 1) := by decide +kernel
theorem d_B_bulb_46 : decode b_B_bulb 46 = .ok (.goto 6, 3) := by decide +kernel
theorem d_B_bulb_49 : decode b_B_bulb 49 = .ok (.iload_n 3, 1) := by decide +kernel
theorem d_B_bulb_50 : decode b_B_bulb 50 = .ok (.iconst 1, 1) := by decide +kernel
theorem d_B_bulb_51 : decode b_B_bulb 51 = .ok (.iadd, 1) := by decide +kernel
theorem d_B_bulb_52 : decode b_B_bulb 52 = .ok (.ireturn, 1) := by decide +kernel
theorem d_B_rain_0 : decode b_B_rain 0 = .ok (.iload_n 1, 1) := by decide +kernel
theorem d_B_rain_1 : decode b_B_rain 1 = .ok (.bipush 9, 2) := by decide +kernel
theorem d_B_rain_3 : decode b_B_rain 3 = .ok (.invokestatic 60, 3) := by decide +kernel
theorem d_B_rain_6 : decode b_B_rain 6 = .ok (.ifCond .ne 6, 3) := by decide +kernel
theorem d_B_rain_9 : decode b_B_rain 9 = .ok (.bipush (-2), 2) := by decide +kernel
theorem d_B_rain_11 : decode b_B_rain 11 = .ok (.ireturn, 1) := by decide +kernel
theorem d_B_rain_12 : decode b_B_rain 12 = .ok (.aload_n 0, 1) := by decide +kernel
theorem d_B_rain_13 : decode b_B_rain 13 = .ok (.getfield 128, 3) := by decide +kernel
theorem d_B_rain_16 : decode b_B_rain 16 = .ok (.istore_n 2, 1) := by decide +kernel
theorem d_B_rain_17 : decode b_B_rain 17 = .ok (.aload_n 0, 1) := by decide +kernel
theorem d_B_rain_18 : decode b_B_rain 18 = .ok (.iload_n 1, 1) := by decide +kernel
theorem d_B_rain_19 : decode b_B_rain 19 = .ok (.putfield 128, 3) := by decide +kernel
theorem d_B_rain_22 : decode b_B_rain 22 = .ok (.iload_n 2, 1) := by decide +kernel
theorem d_B_rain_23 : decode b_B_rain 23 = .ok (.ireturn, 1) := by decide +kernel
theorem d_B_window_0 : decode b_B_window 0 = .ok (.iload_n 1, 1) := by decide +kernel
theorem d_B_window_1 : decode b_B_window 1 = .ok (.iconst 4, 1) := by decide +kernel
theorem d_B_window_2 : decode b_B_window 2 = .ok (.invokestatic 53, 3) := by decide +kernel
theorem d_B_window_5 : decode b_B_window 5 = .ok (.ifCond .ne 5, 3) := by decide +kernel
theorem d_B_window_8 : decode b_B_window 8 = .ok (.iconst (-1), 1) := by decide +kernel
theorem d_B_window_9 : decode b_B_window 9 = .ok (.ireturn, 1) := by decide +kernel
theorem d_B_window_10 : decode b_B_window 10 = .ok (.iload_n 2, 1) := by decide +kernel
theorem d_B_window_11 : decode b_B_window 11 = .ok (.sipush 200, 3) := by decide +kernel
theorem d_B_window_14 : decode b_B_window 14 = .ok (.invokestatic 60, 3) := by decide +kernel
theorem d_B_window_17 : decode b_B_window 17 = .ok (.ifCond .ne 6, 3) := by decide +kernel
theorem d_B_window_20 : decode b_B_window 20 = .ok (.bipush (-2), 2) := by decide +kernel
theorem d_B_window_22 : decode b_B_window 22 = .ok (.ireturn, 1) := by decide +kernel
theorem d_B_window_23 : decode b_B_window 23 = .ok (.aload_n 0, 1) := by decide +kernel
theorem d_B_window_24 : decode b_B_window 24 = .ok (.getfield 36, 3) := by decide +kernel
theorem d_B_window_27 : decode b_B_window 27 = .ok (.iload_n 1, 1) := by decide +kernel
theorem d_B_window_28 : decode b_B_window 28 = .ok (.aaload, 1) := by decide +kernel
theorem d_B_window_29 : decode b_B_window 29 = .ok (.iload_n 2, 1) := by decide +kernel
theorem d_B_window_30 : decode b_B_window 30 = .ok (.putfield 132, 3) := by decide +kernel
theorem d_B_window_33 : decode b_B_window 33 = .ok (.aload_n 0, 1) := by decide +kernel
theorem d_B_window_34 : decode b_B_window 34 = .ok (.getfield 36, 3) := by decide +kernel
theorem d_B_window_37 : decode b_B_window 37 = .ok (.iload_n 1, 1) := by decide +kernel
theorem d_B_window_38 : decode b_B_window 38 = .ok (.aaload, 1) := by decide +kernel
theorem d_B_window_39 : decode b_B_window 39 = .ok (.invokevirtual 135, 3) := by decide +kernel
theorem d_B_window_42 : decode b_B_window 42 = .ok (.ireturn, 1) := by decide +kernel
theorem d_B_crash_0 : decode b_B_crash 0 = .ok (.aload_n 0, 1) := by decide +kernel
theorem d_B_crash_1 : decode b_B_crash 1 = .ok (.getfield 138, 3) := by decide +kernel
theorem d_B_crash_4 : decode b_B_crash 4 = .ok (.ifCond .eq 6, 3) := by decide +kernel
theorem d_B_crash_7 : decode b_B_crash 7 = .ok (.bipush (-3), 2) := by decide +kernel
theorem d_B_crash_9 : decode b_B_crash 9 = .ok (.ireturn, 1) := by decide +kernel
theorem d_B_crash_10 : decode b_B_crash 10 = .ok (.aload_n 0, 1) := by decide +kernel
theorem d_B_crash_11 : decode b_B_crash 11 = .ok (.invokevirtual 63, 3) := by decide +kernel
theorem d_B_crash_14 : decode b_B_crash 14 = .ok (.aload_n 0, 1) := by decide +kernel
theorem d_B_crash_15 : decode b_B_crash 15 = .ok (.iconst 1, 1) := by decide +kernel
theorem d_B_crash_16 : decode b_B_crash 16 = .ok (.putfield 138, 3) := by decide +kernel
theorem d_B_crash_19 : decode b_B_crash 19 = .ok (.aload_n 0, 1) := by decide +kernel
theorem d_B_crash_20 : decode b_B_crash 20 = .ok (.invokevirtual 70, 3) := by decide +kernel
theorem d_B_crash_23 : decode b_B_crash 23 = .ok (.iconst 0, 1) := by decide +kernel
theorem d_B_crash_24 : decode b_B_crash 24 = .ok (.istore_n 1, 1) := by decide +kernel
theorem d_B_crash_25 : decode b_B_crash 25 = .ok (.iload_n 1, 1) := by decide +kernel
theorem d_B_crash_26 : decode b_B_crash 26 = .ok (.iconst 4, 1) := by decide +kernel
theorem d_B_crash_27 : decode b_B_crash 27 = .ok (.if_icmp .ge 19, 3) := by decide +kernel
theorem d_B_crash_30 : decode b_B_crash 30 = .ok (.aload_n 0, 1) := by decide +kernel
theorem d_B_crash_31 : decode b_B_crash 31 = .ok (.getfield 36, 3) := by decide +kernel
theorem d_B_crash_34 : decode b_B_crash 34 = .ok (.iload_n 1, 1) := by decide +kernel
theorem d_B_crash_35 : decode b_B_crash 35 = .ok (.aaload, 1) := by decide +kernel
theorem d_B_crash_36 : decode b_B_crash 36 = .ok (.iconst 0, 1) := by decide +kernel
theorem d_B_crash_37 : decode b_B_crash 37 = .ok (.putfield 132, 3) := by decide +kernel
theorem d_B_crash_40 : decode b_B_crash 40 = .ok (.iinc 1 1, 3) := by decide +kernel
theorem d_B_crash_43 : decode b_B_crash 43 = .ok (.goto (-18), 3) := by decide +kernel
theorem d_B_crash_46 : decode b_B_crash 46 = .ok (.aload_n 0, 1) := by decide +kernel
theorem d_B_crash_47 : decode b_B_crash 47 = .ok (.invokevirtual 76, 3) := by decide +kernel
theorem d_B_crash_50 : decode b_B_crash 50 = .ok (.ireturn, 1) := by decide +kernel
theorem d_B_memory_0 : decode b_B_memory 0 = .ok (.iload_n 1, 1) := by decide +kernel
theorem d_B_memory_1 : decode b_B_memory 1 = .ok (.iconst 4, 1) := by decide +kernel
theorem d_B_memory_2 : decode b_B_memory 2 = .ok (.invokestatic 53, 3) := by decide +kernel
theorem d_B_memory_5 : decode b_B_memory 5 = .ok (.ifCond .ne 5, 3) := by decide +kernel
theorem d_B_memory_8 : decode b_B_memory 8 = .ok (.iconst (-1), 1) := by decide +kernel
theorem d_B_memory_9 : decode b_B_memory 9 = .ok (.ireturn, 1) := by decide +kernel
theorem d_B_memory_10 : decode b_B_memory 10 = .ok (.iload_n 2, 1) := by decide +kernel
theorem d_B_memory_11 : decode b_B_memory 11 = .ok (.iconst 5, 1) := by decide +kernel
theorem d_B_memory_12 : decode b_B_memory 12 = .ok (.invokestatic 53, 3) := by decide +kernel
theorem d_B_memory_15 : decode b_B_memory 15 = .ok (.ifCond .eq 11, 3) := by decide +kernel
theorem d_B_memory_18 : decode b_B_memory 18 = .ok (.iload_n 3, 1) := by decide +kernel
theorem d_B_memory_19 : decode b_B_memory 19 = .ok (.iconst 1, 1) := by decide +kernel
theorem d_B_memory_20 : decode b_B_memory 20 = .ok (.invokestatic 60, 3) := by decide +kernel
theorem d_B_memory_23 : decode b_B_memory 23 = .ok (.ifCond .ne 6, 3) := by decide +kernel
theorem d_B_memory_26 : decode b_B_memory 26 = .ok (.bipush (-2), 2) := by decide +kernel
theorem d_B_memory_28 : decode b_B_memory 28 = .ok (.ireturn, 1) := by decide +kernel
theorem d_B_memory_29 : decode b_B_memory 29 = .ok (.iload_n 3, 1) := by decide +kernel
theorem d_B_memory_30 : decode b_B_memory 30 = .ok (.ifCond .ne 35, 3) := by decide +kernel
theorem d_B_memory_33 : decode b_B_memory 33 = .ok (.aload_n 0, 1) := by decide +kernel
theorem d_B_memory_34 : decode b_B_memory 34 = .ok (.getfield 50, 3) := by decide +kernel
theorem d_B_memory_37 : decode b_B_memory 37 = .ok (.iload_n 1, 1) := by decide +kernel
theorem d_B_memory_38 : decode b_B_memory 38 = .ok (.aaload, 1) := by decide +kernel
theorem d_B_memory_39 : decode b_B_memory 39 = .ok (.iload_n 2, 1) := by decide +kernel
theorem d_B_memory_40 : decode b_B_memory 40 = .ok (.iload_n 2, 1) := by decide +kernel
theorem d_B_memory_41 : decode b_B_memory 41 = .ok (.iconst 4, 1) := by decide +kernel
theorem d_B_memory_42 : decode b_B_memory 42 = .ok (.if_icmp .ge 15, 3) := by decide +kernel
theorem d_B_memory_45 : decode b_B_memory 45 = .ok (.aload_n 0, 1) := by decide +kernel
theorem d_B_memory_46 : decode b_B_memory 46 = .ok (.getfield 36, 3) := by decide +kernel
theorem d_B_memory_49 : decode b_B_memory 49 = .ok (.iload_n 2, 1) := by decide +kernel
theorem d_B_memory_50 : decode b_B_memory 50 = .ok (.aaload, 1) := by decide +kernel
theorem d_B_memory_51 : decode b_B_memory 51 = .ok (.getfield 132, 3) := by decide +kernel
theorem d_B_memory_54 : decode b_B_memory 54 = .ok (.goto 7, 3) := by decide +kernel
theorem d_B_memory_57 : decode b_B_memory 57 = .ok (.aload_n 0, 1) := by decide +kernel
theorem d_B_memory_58 : decode b_B_memory 58 = .ok (.getfield 142, 3) := by decide +kernel
theorem d_B_memory_61 : decode b_B_memory 61 = .ok (.iastore, 1) := by decide +kernel
theorem d_B_memory_62 : decode b_B_memory 62 = .ok (.goto 16, 3) := by decide +kernel
theorem d_B_memory_65 : decode b_B_memory 65 = .ok (.aload_n 0, 1) := by decide +kernel
theorem d_B_memory_66 : decode b_B_memory 66 = .ok (.iload_n 2, 1) := by decide +kernel
theorem d_B_memory_67 : decode b_B_memory 67 = .ok (.aload_n 0, 1) := by decide +kernel
theorem d_B_memory_68 : decode b_B_memory 68 = .ok (.getfield 50, 3) := by decide +kernel
theorem d_B_memory_71 : decode b_B_memory 71 = .ok (.iload_n 1, 1) := by decide +kernel
theorem d_B_memory_72 : decode b_B_memory 72 = .ok (.aaload, 1) := by decide +kernel
theorem d_B_memory_73 : decode b_B_memory 73 = .ok (.iload_n 2, 1) := by decide +kernel
theorem d_B_memory_74 : decode b_B_memory 74 = .ok (.iaload, 1) := by decide +kernel
theorem d_B_memory_75 : decode b_B_memory 75 = .ok (.invokevirtual 145, 3) := by decide +kernel
theorem d_B_memory_78 : decode b_B_memory 78 = .ok (.aload_n 0, 1) := by decide +kernel
theorem d_B_memory_79 : decode b_B_memory 79 = .ok (.getfield 50, 3) := by decide +kernel
theorem d_B_memory_82 : decode b_B_memory 82 = .ok (.iload_n 1, 1) := by decide +kernel
theorem d_B_memory_83 : decode b_B_memory 83 = .ok (.aaload, 1) := by decide +kernel
theorem d_B_memory_84 : decode b_B_memory 84 = .ok (.iload_n 2, 1) := by decide +kernel
theorem d_B_memory_85 : decode b_B_memory 85 = .ok (.iaload, 1) := by decide +kernel
theorem d_B_memory_86 : decode b_B_memory 86 = .ok (.ireturn, 1) := by decide +kernel
theorem d_B_trailer_0 : decode b_B_trailer 0 = .ok (.aload_n 0, 1) := by decide +kernel
theorem d_B_trailer_1 : decode b_B_trailer 1 = .ok (.invokevirtual 63, 3) := by decide +kernel
theorem d_B_trailer_4 : decode b_B_trailer 4 = .ok (.aload_n 0, 1) := by decide +kernel
theorem d_B_trailer_5 : decode b_B_trailer 5 = .ok (.iload_n 1, 1) := by decide +kernel
theorem d_B_trailer_6 : decode b_B_trailer 6 = .ok (.putfield 149, 3) := by decide +kernel
theorem d_B_trailer_9 : decode b_B_trailer 9 = .ok (.aload_n 0, 1) := by decide +kernel
theorem d_B_trailer_10 : decode b_B_trailer 10 = .ok (.invokevirtual 76, 3) := by decide +kernel
theorem d_B_trailer_13 : decode b_B_trailer 13 = .ok (.ireturn, 1) := by decide +kernel
theorem d_B_state_0 : decode b_B_state 0 = .ok (.iload_n 1, 1) := by decide +kernel
theorem d_B_state_1 : decode b_B_state 1 = .ok (.tableswitch 107 0 9 #[55, 55, 55, 55, 65, 73, 81, 81, 94, 102], 55) := by decide +kernel
theorem d_B_state_56 : decode b_B_state 56 = .ok (.aload_n 0, 1) := by decide +kernel
theorem d_B_state_57 : decode b_B_state 57 = .ok (.getfield 36, 3) := by decide +kernel
theorem d_B_state_60 : decode b_B_state 60 = .ok (.iload_n 1, 1) := by decide +kernel
theorem d_B_state_61 : decode b_B_state 61 = .ok (.aaload, 1) := by decide +kernel
theorem d_B_state_62 : decode b_B_state 62 = .ok (.getfield 152, 3) := by decide +kernel
theorem d_B_state_65 : decode b_B_state 65 = .ok (.ireturn, 1) := by decide +kernel
theorem d_B_state_66 : decode b_B_state 66 = .ok (.aload_n 0, 1) := by decide +kernel
theorem d_B_state_67 : decode b_B_state 67 = .ok (.getfield 30, 3) := by decide +kernel
theorem d_B_state_70 : decode b_B_state 70 = .ok (.getfield 155, 3) := by decide +kernel
theorem d_B_state_73 : decode b_B_state 73 = .ok (.ireturn, 1) := by decide +kernel
theorem d_B_state_74 : decode b_B_state 74 = .ok (.aload_n 0, 1) := by decide +kernel
theorem d_B_state_75 : decode b_B_state 75 = .ok (.getfield 30, 3) := by decide +kernel
theorem d_B_state_78 : decode b_B_state 78 = .ok (.getfield 156, 3) := by decide +kernel
theorem d_B_state_81 : decode b_B_state 81 = .ok (.ireturn, 1) := by decide +kernel
theorem d_B_state_82 : decode b_B_state 82 = .ok (.aload_n 0, 1) := by decide +kernel
theorem d_B_state_83 : decode b_B_state 83 = .ok (.getfield 22, 3) := by decide +kernel
theorem d_B_state_86 : decode b_B_state 86 = .ok (.iload_n 1, 1) := by decide +kernel
theorem d_B_state_87 : decode b_B_state 87 = .ok (.bipush 6, 2) := by decide +kernel
theorem d_B_state_89 : decode b_B_state 89 = .ok (.isub, 1) := by decide +kernel
theorem d_B_state_90 : decode b_B_state 90 = .ok (.aaload, 1) := by decide +kernel
theorem d_B_state_91 : decode b_B_state 91 = .ok (.getfield 159, 3) := by decide +kernel
theorem d_B_state_94 : decode b_B_state 94 = .ok (.ireturn, 1) := by decide +kernel
theorem d_B_state_95 : decode b_B_state 95 = .ok (.aload_n 0, 1) := by decide +kernel
theorem d_B_state_96 : decode b_B_state 96 = .ok (.getfield 162, 3) := by decide +kernel
theorem d_B_state_99 : decode b_B_state 99 = .ok (.invokestatic 98, 3) := by decide +kernel
theorem d_B_state_102 : decode b_B_state 102 = .ok (.ireturn, 1) := by decide +kernel
theorem d_B_state_103 : decode b_B_state 103 = .ok (.aload_n 0, 1) := by decide +kernel
theorem d_B_state_104 : decode b_B_state 104 = .ok (.getfield 165, 3) := by decide +kernel
theorem d_B_state_107 : decode b_B_state 107 = .ok (.ireturn, 1) := by decide +kernel
theorem d_B_state_108 : decode b_B_state 108 = .ok (.bipush (-2), 2) := by decide +kernel
theorem d_B_state_110 : decode b_B_state 110 = .ok (.ireturn, 1) := by decide +kernel
theorem d_B_isBelow_0 : decode b_B_isBelow 0 = .ok (.iload_n 0, 1) := by decide +kernel
theorem d_B_isBelow_1 : decode b_B_isBelow 1 = .ok (.ifCond .lt 12, 3) := by decide +kernel
theorem d_B_isBelow_4 : decode b_B_isBelow 4 = .ok (.iload_n 0, 1) := by decide +kernel
theorem d_B_isBelow_5 : decode b_B_isBelow 5 = .ok (.iload_n 1, 1) := by decide +kernel
theorem d_B_isBelow_6 : decode b_B_isBelow 6 = .ok (.if_icmp .ge 7, 3) := by decide +kernel
theorem d_B_isBelow_9 : decode b_B_isBelow 9 = .ok (.iconst 1, 1) := by decide +kernel
theorem d_B_isBelow_10 : decode b_B_isBelow 10 = .ok (.goto 4, 3) := by decide +kernel
theorem d_B_isBelow_13 : decode b_B_isBelow 13 = .ok (.iconst 0, 1) := by decide +kernel
theorem d_B_isBelow_14 : decode b_B_isBelow 14 = .ok (.ireturn, 1) := by decide +kernel
theorem d_B_isUpTo_0 : decode b_B_isUpTo 0 = .ok (.iload_n 0, 1) := by decide +kernel
theorem d_B_isUpTo_1 : decode b_B_isUpTo 1 = .ok (.ifCond .lt 12, 3) := by decide +kernel
theorem d_B_isUpTo_4 : decode b_B_isUpTo 4 = .ok (.iload_n 0, 1) := by decide +kernel
theorem d_B_isUpTo_5 : decode b_B_isUpTo 5 = .ok (.iload_n 1, 1) := by decide +kernel
theorem d_B_isUpTo_6 : decode b_B_isUpTo 6 = .ok (.if_icmp .gt 7, 3) := by decide +kernel
theorem d_B_isUpTo_9 : decode b_B_isUpTo 9 = .ok (.iconst 1, 1) := by decide +kernel
theorem d_B_isUpTo_10 : decode b_B_isUpTo 10 = .ok (.goto 4, 3) := by decide +kernel
theorem d_B_isUpTo_13 : decode b_B_isUpTo 13 = .ok (.iconst 0, 1) := by decide +kernel
theorem d_B_isUpTo_14 : decode b_B_isUpTo 14 = .ok (.ireturn, 1) := by decide +kernel
theorem d_B_bit_0 : decode b_B_bit 0 = .ok (.iload_n 0, 1) := by decide +kernel
theorem d_B_bit_1 : decode b_B_bit 1 = .ok (.ifCond .eq 7, 3) := by decide +kernel
theorem d_B_bit_4 : decode b_B_bit 4 = .ok (.iconst 1, 1) := by decide +kernel
theorem d_B_bit_5 : decode b_B_bit 5 = .ok (.goto 4, 3) := by decide +kernel
theorem d_B_bit_8 : decode b_B_bit 8 = .ok (.iconst 0, 1) := by decide +kernel
theorem d_B_bit_9 : decode b_B_bit 9 = .ok (.ireturn, 1) := by decide +kernel
theorem d_B_noteOutputs_0 : decode b_B_noteOutputs 0 = .ok (.iconst 0, 1) := by decide +kernel
theorem d_B_noteOutputs_1 : decode b_B_noteOutputs 1 = .ok (.istore_n 1, 1) := by decide +kernel
theorem d_B_noteOutputs_2 : decode b_B_noteOutputs 2 = .ok (.iload_n 1, 1) := by decide +kernel
theorem d_B_noteOutputs_3 : decode b_B_noteOutputs 3 = .ok (.bipush 10, 2) := by decide +kernel
theorem d_B_noteOutputs_5 : decode b_B_noteOutputs 5 = .ok (.if_icmp .ge 20, 3) := by decide +kernel
theorem d_B_noteOutputs_8 : decode b_B_noteOutputs 8 = .ok (.aload_n 0, 1) := by decide +kernel
theorem d_B_noteOutputs_9 : decode b_B_noteOutputs 9 = .ok (.getfield 13, 3) := by decide +kernel
theorem d_B_noteOutputs_12 : decode b_B_noteOutputs 12 = .ok (.iload_n 1, 1) := by decide +kernel
theorem d_B_noteOutputs_13 : decode b_B_noteOutputs 13 = .ok (.aload_n 0, 1) := by decide +kernel
theorem d_B_noteOutputs_14 : decode b_B_noteOutputs 14 = .ok (.iload_n 1, 1) := by decide +kernel
theorem d_B_noteOutputs_15 : decode b_B_noteOutputs 15 = .ok (.invokevirtual 87, 3) := by decide +kernel
theorem d_B_noteOutputs_18 : decode b_B_noteOutputs 18 = .ok (.iastore, 1) := by decide +kernel
theorem d_B_noteOutputs_19 : decode b_B_noteOutputs 19 = .ok (.iinc 1 1, 3) := by decide +kernel
theorem d_B_noteOutputs_22 : decode b_B_noteOutputs 22 = .ok (.goto (-20), 3) := by decide +kernel
theorem d_B_noteOutputs_25 : decode b_B_noteOutputs 25 = .ok (.return_, 1) := by decide +kernel
theorem d_B_countChangedOutputs_0 : decode b_B_countChangedOutputs 0 = .ok (.iconst 0, 1) := by decide +kernel
theorem d_B_countChangedOutputs_1 : decode b_B_countChangedOutputs 1 = .ok (.istore_n 1, 1) := by decide +kernel
theorem d_B_countChangedOutputs_2 : decode b_B_countChangedOutputs 2 = .ok (.iconst 0, 1) := by decide +kernel
theorem d_B_countChangedOutputs_3 : decode b_B_countChangedOutputs 3 = .ok (.istore_n 2, 1) := by decide +kernel
theorem d_B_countChangedOutputs_4 : decode b_B_countChangedOutputs 4 = .ok (.iload_n 2, 1) := by decide +kernel
theorem d_B_countChangedOutputs_5 : decode b_B_countChangedOutputs 5 = .ok (.bipush 10, 2) := by decide +kernel
theorem d_B_countChangedOutputs_7 : decode b_B_countChangedOutputs 7 = .ok (.if_icmp .ge 26, 3) := by decide +kernel
theorem d_B_countChangedOutputs_10 : decode b_B_countChangedOutputs 10 = .ok (.aload_n 0, 1) := by decide +kernel
theorem d_B_countChangedOutputs_11 : decode b_B_countChangedOutputs 11 = .ok (.iload_n 2, 1) := by decide +kernel
theorem d_B_countChangedOutputs_12 : decode b_B_countChangedOutputs 12 = .ok (.invokevirtual 87, 3) := by decide +kernel
theorem d_B_countChangedOutputs_15 : decode b_B_countChangedOutputs 15 = .ok (.aload_n 0, 1) := by decide +kernel
theorem d_B_countChangedOutputs_16 : decode b_B_countChangedOutputs 16 = .ok (.getfield 13, 3) := by decide +kernel
theorem d_B_countChangedOutputs_19 : decode b_B_countChangedOutputs 19 = .ok (.iload_n 2, 1) := by decide +kernel
theorem d_B_countChangedOutputs_20 : decode b_B_countChangedOutputs 20 = .ok (.iaload, 1) := by decide +kernel
theorem d_B_countChangedOutputs_21 : decode b_B_countChangedOutputs 21 = .ok (.if_icmp .eq 6, 3) := by decide +kernel
theorem d_B_countChangedOutputs_24 : decode b_B_countChangedOutputs 24 = .ok (.iinc 1 1, 3) := by decide +kernel
theorem d_B_countChangedOutputs_27 : decode b_B_countChangedOutputs 27 = .ok (.iinc 2 1, 3) := by decide +kernel
theorem d_B_countChangedOutputs_30 : decode b_B_countChangedOutputs 30 = .ok (.goto (-26), 3) := by decide +kernel
theorem d_B_countChangedOutputs_33 : decode b_B_countChangedOutputs 33 = .ok (.iload_n 1, 1) := by decide +kernel
theorem d_B_countChangedOutputs_34 : decode b_B_countChangedOutputs 34 = .ok (.ireturn, 1) := by decide +kernel
theorem d_B_outputNow_0 : decode b_B_outputNow 0 = .ok (.iload_n 1, 1) := by decide +kernel
theorem d_B_outputNow_1 : decode b_B_outputNow 1 = .ok (.tableswitch 157 0 9 #[55, 63, 71, 98, 98, 109, 117, 125, 130, 130], 55) := by decide +kernel
theorem d_B_outputNow_56 : decode b_B_outputNow 56 = .ok (.aload_n 0, 1) := by decide +kernel
theorem d_B_outputNow_57 : decode b_B_outputNow 57 = .ok (.invokevirtual 168, 3) := by decide +kernel
theorem d_B_outputNow_60 : decode b_B_outputNow 60 = .ok (.invokestatic 98, 3) := by decide +kernel
theorem d_B_outputNow_63 : decode b_B_outputNow 63 = .ok (.ireturn, 1) := by decide +kernel
theorem d_B_outputNow_64 : decode b_B_outputNow 64 = .ok (.aload_n 0, 1) := by decide +kernel
theorem d_B_outputNow_65 : decode b_B_outputNow 65 = .ok (.invokevirtual 171, 3) := by decide +kernel
theorem d_B_outputNow_68 : decode b_B_outputNow 68 = .ok (.invokestatic 98, 3) := by decide +kernel
theorem d_B_outputNow_71 : decode b_B_outputNow 71 = .ok (.ireturn, 1) := by decide +kernel
theorem d_B_outputNow_72 : decode b_B_outputNow 72 = .ok (.aload_n 0, 1) := by decide +kernel
theorem d_B_outputNow_73 : decode b_B_outputNow 73 = .ok (.invokevirtual 171, 3) := by decide +kernel
theorem d_B_outputNow_76 : decode b_B_outputNow 76 = .ok (.ifCond .eq 18, 3) := by decide +kernel
theorem d_B_outputNow_79 : decode b_B_outputNow 79 = .ok (.aload_n 0, 1) := by decide +kernel
theorem d_B_outputNow_80 : decode b_B_outputNow 80 = .ok (.getfield 9, 3) := by decide +kernel
theorem d_B_outputNow_83 : decode b_B_outputNow 83 = .ok (.bipush 6, 2) := by decide +kernel
theorem d_B_outputNow_85 : decode b_B_outputNow 85 = .ok (.iaload, 1) := by decide +kernel
theorem d_B_outputNow_86 : decode b_B_outputNow 86 = .ok (.iconst 1, 1) := by decide +kernel
theorem d_B_outputNow_87 : decode b_B_outputNow 87 = .ok (.if_icmp .ne 7, 3) := by decide +kernel
theorem d_B_outputNow_90 : decode b_B_outputNow 90 = .ok (.iconst 1, 1) := by decide +kernel
theorem d_B_outputNow_91 : decode b_B_outputNow 91 = .ok (.goto 4, 3) := by decide +kernel
theorem d_B_outputNow_94 : decode b_B_outputNow 94 = .ok (.iconst 0, 1) := by decide +kernel
theorem d_B_outputNow_95 : decode b_B_outputNow 95 = .ok (.invokestatic 98, 3) := by decide +kernel
theorem d_B_outputNow_98 : decode b_B_outputNow 98 = .ok (.ireturn, 1) := by decide +kernel
theorem d_B_outputNow_99 : decode b_B_outputNow 99 = .ok (.aload_n 0, 1) := by decide +kernel
theorem d_B_outputNow_100 : decode b_B_outputNow 100 = .ok (.iload_n 1, 1) := by decide +kernel
theorem d_B_outputNow_101 : decode b_B_outputNow 101 = .ok (.iconst 3, 1) := by decide +kernel
theorem d_B_outputNow_102 : decode b_B_outputNow 102 = .ok (.isub, 1) := by decide +kernel
theorem d_B_outputNow_103 : decode b_B_outputNow 103 = .ok (.invokevirtual 174, 3) := by decide +kernel
theorem d_B_outputNow_106 : decode b_B_outputNow 106 = .ok (.invokestatic 98, 3) := by decide +kernel
theorem d_B_outputNow_109 : decode b_B_outputNow 109 = .ok (.ireturn, 1) := by decide +kernel
theorem d_B_outputNow_110 : decode b_B_outputNow 110 = .ok (.aload_n 0, 1) := by decide +kernel
theorem d_B_outputNow_111 : decode b_B_outputNow 111 = .ok (.getfield 30, 3) := by decide +kernel
theorem d_B_outputNow_114 : decode b_B_outputNow 114 = .ok (.getfield 177, 3) := by decide +kernel
theorem d_B_outputNow_117 : decode b_B_outputNow 117 = .ok (.ireturn, 1) := by decide +kernel
theorem d_B_outputNow_118 : decode b_B_outputNow 118 = .ok (.aload_n 0, 1) := by decide +kernel
theorem d_B_outputNow_119 : decode b_B_outputNow 119 = .ok (.getfield 9, 3) := by decide +kernel
theorem d_B_outputNow_122 : decode b_B_outputNow 122 = .ok (.bipush 7, 2) := by decide +kernel
theorem d_B_outputNow_124 : decode b_B_outputNow 124 = .ok (.iaload, 1) := by decide +kernel
theorem d_B_outputNow_125 : decode b_B_outputNow 125 = .ok (.ireturn, 1) := by decide +kernel
theorem d_B_outputNow_126 : decode b_B_outputNow 126 = .ok (.aload_n 0, 1) := by decide +kernel
theorem d_B_outputNow_127 : decode b_B_outputNow 127 = .ok (.getfield 142, 3) := by decide +kernel
theorem d_B_outputNow_130 : decode b_B_outputNow 130 = .ok (.ireturn, 1) := by decide +kernel
theorem d_B_outputNow_131 : decode b_B_outputNow 131 = .ok (.aload_n 0, 1) := by decide +kernel
theorem d_B_outputNow_132 : decode b_B_outputNow 132 = .ok (.getfield 149, 3) := by decide +kernel
theorem d_B_outputNow_135 : decode b_B_outputNow 135 = .ok (.ifCond .eq 18, 3) := by decide +kernel
theorem d_B_outputNow_138 : decode b_B_outputNow 138 = .ok (.aload_n 0, 1) := by decide +kernel
theorem d_B_outputNow_139 : decode b_B_outputNow 139 = .ok (.iload_n 1, 1) := by decide +kernel
theorem d_B_outputNow_140 : decode b_B_outputNow 140 = .ok (.bipush 8, 2) := by decide +kernel
theorem d_B_outputNow_142 : decode b_B_outputNow 142 = .ok (.isub, 1) := by decide +kernel
theorem d_B_outputNow_143 : decode b_B_outputNow 143 = .ok (.invokevirtual 174, 3) := by decide +kernel
theorem d_B_outputNow_146 : decode b_B_outputNow 146 = .ok (.ifCond .eq 7, 3) := by decide +kernel
theorem d_B_outputNow_149 : decode b_B_outputNow 149 = .ok (.iconst 1, 1) := by decide +kernel
theorem d_B_outputNow_150 : decode b_B_outputNow 150 = .ok (.goto 4, 3) := by decide +kernel
theorem d_B_outputNow_153 : decode b_B_outputNow 153 = .ok (.iconst 0, 1) := by decide +kernel
theorem d_B_outputNow_154 : decode b_B_outputNow 154 = .ok (.invokestatic 98, 3) := by decide +kernel
theorem d_B_outputNow_157 : decode b_B_outputNow 157 = .ok (.ireturn, 1) := by decide +kernel
theorem d_B_outputNow_158 : decode b_B_outputNow 158 = .ok (.iconst 0, 1) := by decide +kernel
theorem d_B_outputNow_159 : decode b_B_outputNow 159 = .ok (.ireturn, 1) := by decide +kernel
theorem d_B_isParkingLit_0 : decode b_B_isParkingLit 0 = .ok (.aload_n 0, 1) := by decide +kernel
theorem d_B_isParkingLit_1 : decode b_B_isParkingLit 1 = .ok (.getfield 138, 3) := by decide +kernel
theorem d_B_isParkingLit_4 : decode b_B_isParkingLit 4 = .ok (.ifCond .ne 20, 3) := by decide +kernel
theorem d_B_isParkingLit_7 : decode b_B_isParkingLit 7 = .ok (.aload_n 0, 1) := by decide +kernel
theorem d_B_isParkingLit_8 : decode b_B_isParkingLit 8 = .ok (.getfield 9, 3) := by decide +kernel
theorem d_B_isParkingLit_11 : decode b_B_isParkingLit 11 = .ok (.iconst 0, 1) := by decide +kernel
theorem d_B_isParkingLit_12 : decode b_B_isParkingLit 12 = .ok (.iaload, 1) := by decide +kernel
theorem d_B_isParkingLit_13 : decode b_B_isParkingLit 13 = .ok (.iconst 1, 1) := by decide +kernel
theorem d_B_isParkingLit_14 : decode b_B_isParkingLit 14 = .ok (.if_icmp .eq 10, 3) := by decide +kernel
theorem d_B_isParkingLit_17 : decode b_B_isParkingLit 17 = .ok (.aload_n 0, 1) := by decide +kernel
theorem d_B_isParkingLit_18 : decode b_B_isParkingLit 18 = .ok (.invokevirtual 180, 3) := by decide +kernel
theorem d_B_isParkingLit_21 : decode b_B_isParkingLit 21 = .ok (.ifCond .eq 7, 3) := by decide +kernel
theorem d_B_isParkingLit_24 : decode b_B_isParkingLit 24 = .ok (.iconst 1, 1) := by decide +kernel
theorem d_B_isParkingLit_25 : decode b_B_isParkingLit 25 = .ok (.goto 4, 3) := by decide +kernel
theorem d_B_isParkingLit_28 : decode b_B_isParkingLit 28 = .ok (.iconst 0, 1) := by decide +kernel
theorem d_B_isParkingLit_29 : decode b_B_isParkingLit 29 = .ok (.ireturn, 1) := by decide +kernel
theorem d_B_isLowLit_0 : decode b_B_isLowLit 0 = .ok (.aload_n 0, 1) := by decide +kernel
theorem d_B_isLowLit_1 : decode b_B_isLowLit 1 = .ok (.getfield 9, 3) := by decide +kernel
theorem d_B_isLowLit_4 : decode b_B_isLowLit 4 = .ok (.iconst 5, 1) := by decide +kernel
theorem d_B_isLowLit_5 : decode b_B_isLowLit 5 = .ok (.iaload, 1) := by decide +kernel
theorem d_B_isLowLit_6 : decode b_B_isLowLit 6 = .ok (.iconst 1, 1) := by decide +kernel
theorem d_B_isLowLit_7 : decode b_B_isLowLit 7 = .ok (.if_icmp .ne 14, 3) := by decide +kernel
theorem d_B_isLowLit_10 : decode b_B_isLowLit 10 = .ok (.aload_n 0, 1) := by decide +kernel
theorem d_B_isLowLit_11 : decode b_B_isLowLit 11 = .ok (.invokevirtual 180, 3) := by decide +kernel
theorem d_B_isLowLit_14 : decode b_B_isLowLit 14 = .ok (.ifCond .eq 7, 3) := by decide +kernel
theorem d_B_isLowLit_17 : decode b_B_isLowLit 17 = .ok (.iconst 1, 1) := by decide +kernel
theorem d_B_isLowLit_18 : decode b_B_isLowLit 18 = .ok (.goto 4, 3) := by decide +kernel
theorem d_B_isLowLit_21 : decode b_B_isLowLit 21 = .ok (.iconst 0, 1) := by decide +kernel
theorem d_B_isLowLit_22 : decode b_B_isLowLit 22 = .ok (.ireturn, 1) := by decide +kernel
theorem d_B_wantsLow_0 : decode b_B_wantsLow 0 = .ok (.aload_n 0, 1) := by decide +kernel
theorem d_B_wantsLow_1 : decode b_B_wantsLow 1 = .ok (.getfield 9, 3) := by decide +kernel
theorem d_B_wantsLow_4 : decode b_B_wantsLow 4 = .ok (.iconst 0, 1) := by decide +kernel
theorem d_B_wantsLow_5 : decode b_B_wantsLow 5 = .ok (.iaload, 1) := by decide +kernel
theorem d_B_wantsLow_6 : decode b_B_wantsLow 6 = .ok (.iconst 2, 1) := by decide +kernel
theorem d_B_wantsLow_7 : decode b_B_wantsLow 7 = .ok (.if_icmp .eq 20, 3) := by decide +kernel
theorem d_B_wantsLow_10 : decode b_B_wantsLow 10 = .ok (.aload_n 0, 1) := by decide +kernel
theorem d_B_wantsLow_11 : decode b_B_wantsLow 11 = .ok (.getfield 9, 3) := by decide +kernel
theorem d_B_wantsLow_14 : decode b_B_wantsLow 14 = .ok (.iconst 0, 1) := by decide +kernel
theorem d_B_wantsLow_15 : decode b_B_wantsLow 15 = .ok (.iaload, 1) := by decide +kernel
theorem d_B_wantsLow_16 : decode b_B_wantsLow 16 = .ok (.iconst 3, 1) := by decide +kernel
theorem d_B_wantsLow_17 : decode b_B_wantsLow 17 = .ok (.if_icmp .ne 14, 3) := by decide +kernel
theorem d_B_wantsLow_20 : decode b_B_wantsLow 20 = .ok (.aload_n 0, 1) := by decide +kernel
theorem d_B_wantsLow_21 : decode b_B_wantsLow 21 = .ok (.getfield 162, 3) := by decide +kernel
theorem d_B_wantsLow_24 : decode b_B_wantsLow 24 = .ok (.ifCond .eq 7, 3) := by decide +kernel
theorem d_B_wantsLow_27 : decode b_B_wantsLow 27 = .ok (.iconst 1, 1) := by decide +kernel
theorem d_B_wantsLow_28 : decode b_B_wantsLow 28 = .ok (.goto 4, 3) := by decide +kernel
theorem d_B_wantsLow_31 : decode b_B_wantsLow 31 = .ok (.iconst 0, 1) := by decide +kernel
theorem d_B_wantsLow_32 : decode b_B_wantsLow 32 = .ok (.ireturn, 1) := by decide +kernel
theorem d_B_followBrightness_0 : decode b_B_followBrightness 0 = .ok (.iload_n 1, 1) := by decide +kernel
theorem d_B_followBrightness_1 : decode b_B_followBrightness 1 = .ok (.sipush 200, 3) := by decide +kernel
theorem d_B_followBrightness_4 : decode b_B_followBrightness 4 = .ok (.if_icmp .ge 11, 3) := by decide +kernel
theorem d_B_followBrightness_7 : decode b_B_followBrightness 7 = .ok (.aload_n 0, 1) := by decide +kernel
theorem d_B_followBrightness_8 : decode b_B_followBrightness 8 = .ok (.iconst 1, 1) := by decide +kernel
theorem d_B_followBrightness_9 : decode b_B_followBrightness 9 = .ok (.putfield 162, 3) := by decide +kernel
theorem d_B_followBrightness_12 : decode b_B_followBrightness 12 = .ok (.goto 15, 3) := by decide +kernel
theorem d_B_followBrightness_15 : decode b_B_followBrightness 15 = .ok (.iload_n 1, 1) := by decide +kernel
theorem d_B_followBrightness_16 : decode b_B_followBrightness 16 = .ok (.sipush 400, 3) := by decide +kernel
theorem d_B_followBrightness_19 : decode b_B_followBrightness 19 = .ok (.if_icmp .le 8, 3) := by decide +kernel
theorem d_B_followBrightness_22 : decode b_B_followBrightness 22 = .ok (.aload_n 0, 1) := by decide +kernel
theorem d_B_followBrightness_23 : decode b_B_followBrightness 23 = .ok (.iconst 0, 1) := by decide +kernel
theorem d_B_followBrightness_24 : decode b_B_followBrightness 24 = .ok (.putfield 162, 3) := by decide +kernel
theorem d_B_followBrightness_27 : decode b_B_followBrightness 27 = .ok (.return_, 1) := by decide +kernel
theorem d_B_isSideLit_0 : decode b_B_isSideLit 0 = .ok (.aload_n 0, 1) := by decide +kernel
theorem d_B_isSideLit_1 : decode b_B_isSideLit 1 = .ok (.getfield 22, 3) := by decide +kernel
theorem d_B_isSideLit_4 : decode b_B_isSideLit 4 = .ok (.iload_n 1, 1) := by decide +kernel
theorem d_B_isSideLit_5 : decode b_B_isSideLit 5 = .ok (.aaload, 1) := by decide +kernel
theorem d_B_isSideLit_6 : decode b_B_isSideLit 6 = .ok (.aload_n 0, 1) := by decide +kernel
theorem d_B_isSideLit_7 : decode b_B_isSideLit 7 = .ok (.iload_n 1, 1) := by decide +kernel
theorem d_B_isSideLit_8 : decode b_B_isSideLit 8 = .ok (.invokevirtual 183, 3) := by decide +kernel
theorem d_B_isSideLit_11 : decode b_B_isSideLit 11 = .ok (.invokevirtual 186, 3) := by decide +kernel
theorem d_B_isSideLit_14 : decode b_B_isSideLit 14 = .ok (.ireturn, 1) := by decide +kernel
theorem d_B_turnBulbIsOut_0 : decode b_B_turnBulbIsOut 0 = .ok (.aload_n 0, 1) := by decide +kernel
theorem d_B_turnBulbIsOut_1 : decode b_B_turnBulbIsOut 1 = .ok (.getfield 16, 3) := by decide +kernel
theorem d_B_turnBulbIsOut_4 : decode b_B_turnBulbIsOut 4 = .ok (.iconst 4, 1) := by decide +kernel
theorem d_B_turnBulbIsOut_5 : decode b_B_turnBulbIsOut 5 = .ok (.iload_n 1, 1) := by decide +kernel
theorem d_B_turnBulbIsOut_6 : decode b_B_turnBulbIsOut 6 = .ok (.iadd, 1) := by decide +kernel
theorem d_B_turnBulbIsOut_7 : decode b_B_turnBulbIsOut 7 = .ok (.baload, 1) := by decide +kernel
theorem d_B_turnBulbIsOut_8 : decode b_B_turnBulbIsOut 8 = .ok (.ireturn, 1) := by decide +kernel
theorem d_B_isWanted_0 : decode b_B_isWanted 0 = .ok (.aload_n 0, 1) := by decide +kernel
theorem d_B_isWanted_1 : decode b_B_isWanted 1 = .ok (.getfield 138, 3) := by decide +kernel
theorem d_B_isWanted_4 : decode b_B_isWanted 4 = .ok (.ifCond .ne 25, 3) := by decide +kernel
theorem d_B_isWanted_7 : decode b_B_isWanted 7 = .ok (.aload_n 0, 1) := by decide +kernel
theorem d_B_isWanted_8 : decode b_B_isWanted 8 = .ok (.getfield 9, 3) := by decide +kernel
theorem d_B_isWanted_11 : decode b_B_isWanted 11 = .ok (.iconst 3, 1) := by decide +kernel
theorem d_B_isWanted_12 : decode b_B_isWanted 12 = .ok (.iaload, 1) := by decide +kernel
theorem d_B_isWanted_13 : decode b_B_isWanted 13 = .ok (.iconst 1, 1) := by decide +kernel
theorem d_B_isWanted_14 : decode b_B_isWanted 14 = .ok (.if_icmp .eq 15, 3) := by decide +kernel
theorem d_B_isWanted_17 : decode b_B_isWanted 17 = .ok (.aload_n 0, 1) := by decide +kernel
theorem d_B_isWanted_18 : decode b_B_isWanted 18 = .ok (.getfield 9, 3) := by decide +kernel
theorem d_B_isWanted_21 : decode b_B_isWanted 21 = .ok (.iconst 2, 1) := by decide +kernel
theorem d_B_isWanted_22 : decode b_B_isWanted 22 = .ok (.iaload, 1) := by decide +kernel
theorem d_B_isWanted_23 : decode b_B_isWanted 23 = .ok (.iload_n 1, 1) := by decide +kernel
theorem d_B_isWanted_24 : decode b_B_isWanted 24 = .ok (.iconst 1, 1) := by decide +kernel
theorem d_B_isWanted_25 : decode b_B_isWanted 25 = .ok (.iadd, 1) := by decide +kernel
theorem d_B_isWanted_26 : decode b_B_isWanted 26 = .ok (.if_icmp .ne 7, 3) := by decide +kernel
theorem d_B_isWanted_29 : decode b_B_isWanted 29 = .ok (.iconst 1, 1) := by decide +kernel
theorem d_B_isWanted_30 : decode b_B_isWanted 30 = .ok (.goto 4, 3) := by decide +kernel
theorem d_B_isWanted_33 : decode b_B_isWanted 33 = .ok (.iconst 0, 1) := by decide +kernel
theorem d_B_isWanted_34 : decode b_B_isWanted 34 = .ok (.ireturn, 1) := by decide +kernel
theorem d_B_beginWantedSides_0 : decode b_B_beginWantedSides 0 = .ok (.iconst 0, 1) := by decide +kernel
theorem d_B_beginWantedSides_1 : decode b_B_beginWantedSides 1 = .ok (.istore_n 1, 1) := by decide +kernel
theorem d_B_beginWantedSides_2 : decode b_B_beginWantedSides 2 = .ok (.iload_n 1, 1) := by decide +kernel
theorem d_B_beginWantedSides_3 : decode b_B_beginWantedSides 3 = .ok (.iconst 2, 1) := by decide +kernel
theorem d_B_beginWantedSides_4 : decode b_B_beginWantedSides 4 = .ok (.if_icmp .ge 26, 3) := by decide +kernel
theorem d_B_beginWantedSides_7 : decode b_B_beginWantedSides 7 = .ok (.aload_n 0, 1) := by decide +kernel
theorem d_B_beginWantedSides_8 : decode b_B_beginWantedSides 8 = .ok (.iload_n 1, 1) := by decide +kernel
theorem d_B_beginWantedSides_9 : decode b_B_beginWantedSides 9 = .ok (.invokevirtual 190, 3) := by decide +kernel
theorem d_B_beginWantedSides_12 : decode b_B_beginWantedSides 12 = .ok (.ifCond .eq 12, 3) := by decide +kernel
theorem d_B_beginWantedSides_15 : decode b_B_beginWantedSides 15 = .ok (.aload_n 0, 1) := by decide +kernel
theorem d_B_beginWantedSides_16 : decode b_B_beginWantedSides 16 = .ok (.getfield 22, 3) := by decide +kernel
theorem d_B_beginWantedSides_19 : decode b_B_beginWantedSides 19 = .ok (.iload_n 1, 1) := by decide +kernel
theorem d_B_beginWantedSides_20 : decode b_B_beginWantedSides 20 = .ok (.aaload, 1) := by decide +kernel
theorem d_B_beginWantedSides_21 : decode b_B_beginWantedSides 21 = .ok (.invokevirtual 193, 3) := by decide +kernel
theorem d_B_beginWantedSides_24 : decode b_B_beginWantedSides 24 = .ok (.iinc 1 1, 3) := by decide +kernel
theorem d_B_beginWantedSides_27 : decode b_B_beginWantedSides 27 = .ok (.goto (-25), 3) := by decide +kernel
theorem d_B_beginWantedSides_30 : decode b_B_beginWantedSides 30 = .ok (.return_, 1) := by decide +kernel
theorem d_B_endUnwantedSide_0 : decode b_B_endUnwantedSide 0 = .ok (.iload_n 1, 1) := by decide +kernel
theorem d_B_endUnwantedSide_1 : decode b_B_endUnwantedSide 1 = .ok (.iconst 2, 1) := by decide +kernel
theorem d_B_endUnwantedSide_2 : decode b_B_endUnwantedSide 2 = .ok (.invokestatic 53, 3) := by decide +kernel
theorem d_B_endUnwantedSide_5 : decode b_B_endUnwantedSide 5 = .ok (.ifCond .eq 21, 3) := by decide +kernel
theorem d_B_endUnwantedSide_8 : decode b_B_endUnwantedSide 8 = .ok (.aload_n 0, 1) := by decide +kernel
theorem d_B_endUnwantedSide_9 : decode b_B_endUnwantedSide 9 = .ok (.iload_n 1, 1) := by decide +kernel
theorem d_B_endUnwantedSide_10 : decode b_B_endUnwantedSide 10 = .ok (.invokevirtual 190, 3) := by decide +kernel
theorem d_B_endUnwantedSide_13 : decode b_B_endUnwantedSide 13 = .ok (.ifCond .ne 13, 3) := by decide +kernel
theorem d_B_endUnwantedSide_16 : decode b_B_endUnwantedSide 16 = .ok (.aload_n 0, 1) := by decide +kernel
theorem d_B_endUnwantedSide_17 : decode b_B_endUnwantedSide 17 = .ok (.getfield 22, 3) := by decide +kernel
theorem d_B_endUnwantedSide_20 : decode b_B_endUnwantedSide 20 = .ok (.iload_n 1, 1) := by decide +kernel
theorem d_B_endUnwantedSide_21 : decode b_B_endUnwantedSide 21 = .ok (.aaload, 1) := by decide +kernel
theorem d_B_endUnwantedSide_22 : decode b_B_endUnwantedSide 22 = .ok (.iconst 0, 1) := by decide +kernel
theorem d_B_endUnwantedSide_23 : decode b_B_endUnwantedSide 23 = .ok (.putfield 196, 3) := by decide +kernel
theorem d_B_endUnwantedSide_26 : decode b_B_endUnwantedSide 26 = .ok (.return_, 1) := by decide +kernel
theorem d_B_tick_0 : decode b_B_tick 0 = .ok (.iconst 0, 1) := by decide +kernel
theorem d_B_tick_1 : decode b_B_tick 1 = .ok (.istore_n 1, 1) := by decide +kernel
theorem d_B_tick_2 : decode b_B_tick 2 = .ok (.iload_n 1, 1) := by decide +kernel
theorem d_B_tick_3 : decode b_B_tick 3 = .ok (.iconst 2, 1) := by decide +kernel
theorem d_B_tick_4 : decode b_B_tick 4 = .ok (.if_icmp .ge 28, 3) := by decide +kernel
theorem d_B_tick_7 : decode b_B_tick 7 = .ok (.aload_n 0, 1) := by decide +kernel
theorem d_B_tick_8 : decode b_B_tick 8 = .ok (.getfield 22, 3) := by decide +kernel
theorem d_B_tick_11 : decode b_B_tick 11 = .ok (.iload_n 1, 1) := by decide +kernel
theorem d_B_tick_12 : decode b_B_tick 12 = .ok (.aaload, 1) := by decide +kernel
theorem d_B_tick_13 : decode b_B_tick 13 = .ok (.aload_n 0, 1) := by decide +kernel
theorem d_B_tick_14 : decode b_B_tick 14 = .ok (.iload_n 1, 1) := by decide +kernel
theorem d_B_tick_15 : decode b_B_tick 15 = .ok (.invokevirtual 183, 3) := by decide +kernel
theorem d_B_tick_18 : decode b_B_tick 18 = .ok (.aload_n 0, 1) := by decide +kernel
theorem d_B_tick_19 : decode b_B_tick 19 = .ok (.iload_n 1, 1) := by decide +kernel
theorem d_B_tick_20 : decode b_B_tick 20 = .ok (.invokevirtual 190, 3) := by decide +kernel
theorem d_B_tick_23 : decode b_B_tick 23 = .ok (.invokevirtual 199, 3) := by decide +kernel
theorem d_B_tick_26 : decode b_B_tick 26 = .ok (.iinc 1 1, 3) := by decide +kernel
theorem d_B_tick_29 : decode b_B_tick 29 = .ok (.goto (-27), 3) := by decide +kernel
theorem d_B_tick_32 : decode b_B_tick 32 = .ok (.aload_n 0, 1) := by decide +kernel
theorem d_B_tick_33 : decode b_B_tick 33 = .ok (.getfield 30, 3) := by decide +kernel
theorem d_B_tick_36 : decode b_B_tick 36 = .ok (.aload_n 0, 1) := by decide +kernel
theorem d_B_tick_37 : decode b_B_tick 37 = .ok (.invokevirtual 202, 3) := by decide +kernel
theorem d_B_tick_40 : decode b_B_tick 40 = .ok (.aload_n 0, 1) := by decide +kernel
theorem d_B_tick_41 : decode b_B_tick 41 = .ok (.invokevirtual 205, 3) := by decide +kernel
theorem d_B_tick_44 : decode b_B_tick 44 = .ok (.invokevirtual 208, 3) := by decide +kernel
theorem d_B_tick_47 : decode b_B_tick 47 = .ok (.aload_n 0, 1) := by decide +kernel
theorem d_B_tick_48 : decode b_B_tick 48 = .ok (.invokevirtual 210, 3) := by decide +kernel
theorem d_B_tick_51 : decode b_B_tick 51 = .ok (.iconst 0, 1) := by decide +kernel
theorem d_B_tick_52 : decode b_B_tick 52 = .ok (.istore_n 1, 1) := by decide +kernel
theorem d_B_tick_53 : decode b_B_tick 53 = .ok (.iload_n 1, 1) := by decide +kernel
theorem d_B_tick_54 : decode b_B_tick 54 = .ok (.iconst 4, 1) := by decide +kernel
theorem d_B_tick_55 : decode b_B_tick 55 = .ok (.if_icmp .ge 18, 3) := by decide +kernel
theorem d_B_tick_58 : decode b_B_tick 58 = .ok (.aload_n 0, 1) := by decide +kernel
theorem d_B_tick_59 : decode b_B_tick 59 = .ok (.getfield 36, 3) := by decide +kernel
theorem d_B_tick_62 : decode b_B_tick 62 = .ok (.iload_n 1, 1) := by decide +kernel
theorem d_B_tick_63 : decode b_B_tick 63 = .ok (.aaload, 1) := by decide +kernel
theorem d_B_tick_64 : decode b_B_tick 64 = .ok (.invokevirtual 213, 3) := by decide +kernel
theorem d_B_tick_67 : decode b_B_tick 67 = .ok (.iinc 1 1, 3) := by decide +kernel
theorem d_B_tick_70 : decode b_B_tick 70 = .ok (.goto (-17), 3) := by decide +kernel
theorem d_B_tick_73 : decode b_B_tick 73 = .ok (.aload_n 0, 1) := by decide +kernel
theorem d_B_tick_74 : decode b_B_tick 74 = .ok (.dup, 1) := by decide +kernel
theorem d_B_tick_75 : decode b_B_tick 75 = .ok (.getfield 165, 3) := by decide +kernel
theorem d_B_tick_78 : decode b_B_tick 78 = .ok (.iconst 1, 1) := by decide +kernel
theorem d_B_tick_79 : decode b_B_tick 79 = .ok (.iadd, 1) := by decide +kernel
theorem d_B_tick_80 : decode b_B_tick 80 = .ok (.putfield 165, 3) := by decide +kernel
theorem d_B_tick_83 : decode b_B_tick 83 = .ok (.return_, 1) := by decide +kernel
theorem d_B_wiperSpeed_0 : decode b_B_wiperSpeed 0 = .ok (.aload_n 0, 1) := by decide +kernel
theorem d_B_wiperSpeed_1 : decode b_B_wiperSpeed 1 = .ok (.getfield 9, 3) := by decide +kernel
theorem d_B_wiperSpeed_4 : decode b_B_wiperSpeed 4 = .ok (.iconst 5, 1) := by decide +kernel
theorem d_B_wiperSpeed_5 : decode b_B_wiperSpeed 5 = .ok (.iaload, 1) := by decide +kernel
theorem d_B_wiperSpeed_6 : decode b_B_wiperSpeed 6 = .ok (.ifCond .ne 5, 3) := by decide +kernel
theorem d_B_wiperSpeed_9 : decode b_B_wiperSpeed 9 = .ok (.iconst 0, 1) := by decide +kernel
theorem d_B_wiperSpeed_10 : decode b_B_wiperSpeed 10 = .ok (.ireturn, 1) := by decide +kernel
theorem d_B_wiperSpeed_11 : decode b_B_wiperSpeed 11 = .ok (.aload_n 0, 1) := by decide +kernel
theorem d_B_wiperSpeed_12 : decode b_B_wiperSpeed 12 = .ok (.getfield 9, 3) := by decide +kernel
theorem d_B_wiperSpeed_15 : decode b_B_wiperSpeed 15 = .ok (.iconst 4, 1) := by decide +kernel
theorem d_B_wiperSpeed_16 : decode b_B_wiperSpeed 16 = .ok (.iaload, 1) := by decide +kernel
theorem d_B_wiperSpeed_17 : decode b_B_wiperSpeed 17 = .ok (.tableswitch 36 1 3 #[27, 32, 34], 27) := by decide +kernel
theorem d_B_wiperSpeed_44 : decode b_B_wiperSpeed 44 = .ok (.aload_n 0, 1) := by decide +kernel
theorem d_B_wiperSpeed_45 : decode b_B_wiperSpeed 45 = .ok (.invokevirtual 214, 3) := by decide +kernel
theorem d_B_wiperSpeed_48 : decode b_B_wiperSpeed 48 = .ok (.ireturn, 1) := by decide +kernel
theorem d_B_wiperSpeed_49 : decode b_B_wiperSpeed 49 = .ok (.iconst 1, 1) := by decide +kernel
theorem d_B_wiperSpeed_50 : decode b_B_wiperSpeed 50 = .ok (.ireturn, 1) := by decide +kernel
theorem d_B_wiperSpeed_51 : decode b_B_wiperSpeed 51 = .ok (.iconst 2, 1) := by decide +kernel
theorem d_B_wiperSpeed_52 : decode b_B_wiperSpeed 52 = .ok (.ireturn, 1) := by decide +kernel
theorem d_B_wiperSpeed_53 : decode b_B_wiperSpeed 53 = .ok (.iconst 0, 1) := by decide +kernel
theorem d_B_wiperSpeed_54 : decode b_B_wiperSpeed 54 = .ok (.ireturn, 1) := by decide +kernel
theorem d_B_rainSpeed_0 : decode b_B_rainSpeed 0 = .ok (.aload_n 0, 1) := by decide +kernel
theorem d_B_rainSpeed_1 : decode b_B_rainSpeed 1 = .ok (.getfield 128, 3) := by decide +kernel
theorem d_B_rainSpeed_4 : decode b_B_rainSpeed 4 = .ok (.ifCond .ne 5, 3) := by decide +kernel
theorem d_B_rainSpeed_7 : decode b_B_rainSpeed 7 = .ok (.iconst 0, 1) := by decide +kernel
theorem d_B_rainSpeed_8 : decode b_B_rainSpeed 8 = .ok (.ireturn, 1) := by decide +kernel
theorem d_B_rainSpeed_9 : decode b_B_rainSpeed 9 = .ok (.aload_n 0, 1) := by decide +kernel
theorem d_B_rainSpeed_10 : decode b_B_rainSpeed 10 = .ok (.getfield 128, 3) := by decide +kernel
theorem d_B_rainSpeed_13 : decode b_B_rainSpeed 13 = .ok (.bipush 8, 2) := by decide +kernel
theorem d_B_rainSpeed_15 : decode b_B_rainSpeed 15 = .ok (.if_icmp .ge 7, 3) := by decide +kernel
theorem d_B_rainSpeed_18 : decode b_B_rainSpeed 18 = .ok (.iconst 1, 1) := by decide +kernel
theorem d_B_rainSpeed_19 : decode b_B_rainSpeed 19 = .ok (.goto 4, 3) := by decide +kernel
theorem d_B_rainSpeed_22 : decode b_B_rainSpeed 22 = .ok (.iconst 2, 1) := by decide +kernel
theorem d_B_rainSpeed_23 : decode b_B_rainSpeed 23 = .ok (.ireturn, 1) := by decide +kernel
theorem d_B_pauseAfterWiping_0 : decode b_B_pauseAfterWiping 0 = .ok (.aload_n 0, 1) := by decide +kernel
theorem d_B_pauseAfterWiping_1 : decode b_B_pauseAfterWiping 1 = .ok (.getfield 9, 3) := by decide +kernel
theorem d_B_pauseAfterWiping_4 : decode b_B_pauseAfterWiping 4 = .ok (.iconst 4, 1) := by decide +kernel
theorem d_B_pauseAfterWiping_5 : decode b_B_pauseAfterWiping 5 = .ok (.iaload, 1) := by decide +kernel
theorem d_B_pauseAfterWiping_6 : decode b_B_pauseAfterWiping 6 = .ok (.iconst 1, 1) := by decide +kernel
theorem d_B_pauseAfterWiping_7 : decode b_B_pauseAfterWiping 7 = .ok (.if_icmp .ne 23, 3) := by decide +kernel
theorem d_B_pauseAfterWiping_10 : decode b_B_pauseAfterWiping 10 = .ok (.aload_n 0, 1) := by decide +kernel
theorem d_B_pauseAfterWiping_11 : decode b_B_pauseAfterWiping 11 = .ok (.getfield 128, 3) := by decide +kernel
theorem d_B_pauseAfterWiping_14 : decode b_B_pauseAfterWiping 14 = .ok (.iconst 1, 1) := by decide +kernel
theorem d_B_pauseAfterWiping_15 : decode b_B_pauseAfterWiping 15 = .ok (.if_icmp .lt 15, 3) := by decide +kernel
theorem d_B_pauseAfterWiping_18 : decode b_B_pauseAfterWiping 18 = .ok (.aload_n 0, 1) := by decide +kernel
theorem d_B_pauseAfterWiping_19 : decode b_B_pauseAfterWiping 19 = .ok (.getfield 128, 3) := by decide +kernel
theorem d_B_pauseAfterWiping_22 : decode b_B_pauseAfterWiping 22 = .ok (.iconst 4, 1) := by decide +kernel
theorem d_B_pauseAfterWiping_23 : decode b_B_pauseAfterWiping 23 = .ok (.if_icmp .gt 7, 3) := by decide +kernel
theorem d_B_pauseAfterWiping_26 : decode b_B_pauseAfterWiping 26 = .ok (.iconst 1, 1) := by decide +kernel
theorem d_B_pauseAfterWiping_27 : decode b_B_pauseAfterWiping 27 = .ok (.goto 4, 3) := by decide +kernel
theorem d_B_pauseAfterWiping_30 : decode b_B_pauseAfterWiping 30 = .ok (.iconst 0, 1) := by decide +kernel
theorem d_B_pauseAfterWiping_31 : decode b_B_pauseAfterWiping 31 = .ok (.istore_n 1, 1) := by decide +kernel
theorem d_B_pauseAfterWiping_32 : decode b_B_pauseAfterWiping 32 = .ok (.iload_n 1, 1) := by decide +kernel
theorem d_B_pauseAfterWiping_33 : decode b_B_pauseAfterWiping 33 = .ok (.ifCond .eq 17, 3) := by decide +kernel
theorem d_B_pauseAfterWiping_36 : decode b_B_pauseAfterWiping 36 = .ok (.sipush 400, 3) := by decide +kernel
theorem d_B_pauseAfterWiping_39 : decode b_B_pauseAfterWiping 39 = .ok (.bipush 80, 2) := by decide +kernel
theorem d_B_pauseAfterWiping_41 : decode b_B_pauseAfterWiping 41 = .ok (.aload_n 0, 1) := by decide +kernel
theorem d_B_pauseAfterWiping_42 : decode b_B_pauseAfterWiping 42 = .ok (.getfield 128, 3) := by decide +kernel
theorem d_B_pauseAfterWiping_45 : decode b_B_pauseAfterWiping 45 = .ok (.imul, 1) := by decide +kernel
theorem d_B_pauseAfterWiping_46 : decode b_B_pauseAfterWiping 46 = .ok (.isub, 1) := by decide +kernel
theorem d_B_pauseAfterWiping_47 : decode b_B_pauseAfterWiping 47 = .ok (.goto 4, 3) := by decide +kernel
theorem d_B_pauseAfterWiping_50 : decode b_B_pauseAfterWiping 50 = .ok (.iconst 0, 1) := by decide +kernel
theorem d_B_pauseAfterWiping_51 : decode b_B_pauseAfterWiping 51 = .ok (.ireturn, 1) := by decide +kernel
theorem d_B_tickInterior_0 : decode b_B_tickInterior 0 = .ok (.aload_n 0, 1) := by decide +kernel
theorem d_B_tickInterior_1 : decode b_B_tickInterior 1 = .ok (.getfield 138, 3) := by decide +kernel
theorem d_B_tickInterior_4 : decode b_B_tickInterior 4 = .ok (.ifCond .ne 14, 3) := by decide +kernel
theorem d_B_tickInterior_7 : decode b_B_tickInterior 7 = .ok (.aload_n 0, 1) := by decide +kernel
theorem d_B_tickInterior_8 : decode b_B_tickInterior 8 = .ok (.getfield 9, 3) := by decide +kernel
theorem d_B_tickInterior_11 : decode b_B_tickInterior 11 = .ok (.bipush 8, 2) := by decide +kernel
theorem d_B_tickInterior_13 : decode b_B_tickInterior 13 = .ok (.iaload, 1) := by decide +kernel
theorem d_B_tickInterior_14 : decode b_B_tickInterior 14 = .ok (.iconst 1, 1) := by decide +kernel
theorem d_B_tickInterior_15 : decode b_B_tickInterior 15 = .ok (.if_icmp .ne 21, 3) := by decide +kernel
theorem d_B_tickInterior_18 : decode b_B_tickInterior 18 = .ok (.aload_n 0, 1) := by decide +kernel
theorem d_B_tickInterior_19 : decode b_B_tickInterior 19 = .ok (.aload_n 0, 1) := by decide +kernel
theorem d_B_tickInterior_20 : decode b_B_tickInterior 20 = .ok (.getfield 142, 3) := by decide +kernel
theorem d_B_tickInterior_23 : decode b_B_tickInterior 23 = .ok (.iconst 1, 1) := by decide +kernel
theorem d_B_tickInterior_24 : decode b_B_tickInterior 24 = .ok (.iadd, 1) := by decide +kernel
theorem d_B_tickInterior_25 : decode b_B_tickInterior 25 = .ok (.bipush 100, 2) := by decide +kernel
theorem d_B_tickInterior_27 : decode b_B_tickInterior 27 = .ok (.invokestatic 217, 3) := by decide +kernel
theorem d_B_tickInterior_30 : decode b_B_tickInterior 30 = .ok (.putfield 142, 3) := by decide +kernel
theorem d_B_tickInterior_33 : decode b_B_tickInterior 33 = .ok (.goto 17, 3) := by decide +kernel
theorem d_B_tickInterior_36 : decode b_B_tickInterior 36 = .ok (.aload_n 0, 1) := by decide +kernel
theorem d_B_tickInterior_37 : decode b_B_tickInterior 37 = .ok (.aload_n 0, 1) := by decide +kernel
theorem d_B_tickInterior_38 : decode b_B_tickInterior 38 = .ok (.getfield 142, 3) := by decide +kernel
theorem d_B_tickInterior_41 : decode b_B_tickInterior 41 = .ok (.iconst 1, 1) := by decide +kernel
theorem d_B_tickInterior_42 : decode b_B_tickInterior 42 = .ok (.isub, 1) := by decide +kernel
theorem d_B_tickInterior_43 : decode b_B_tickInterior 43 = .ok (.iconst 0, 1) := by decide +kernel
theorem d_B_tickInterior_44 : decode b_B_tickInterior 44 = .ok (.invokestatic 223, 3) := by decide +kernel
theorem d_B_tickInterior_47 : decode b_B_tickInterior 47 = .ok (.putfield 142, 3) := by decide +kernel
theorem d_B_tickInterior_50 : decode b_B_tickInterior 50 = .ok (.return_, 1) := by decide +kernel
theorem d_B_giveBack_0 : decode b_B_giveBack 0 = .ok (.iload_n 2, 1) := by decide +kernel
theorem d_B_giveBack_1 : decode b_B_giveBack 1 = .ok (.iconst (-1), 1) := by decide +kernel
theorem d_B_giveBack_2 : decode b_B_giveBack 2 = .ok (.if_icmp .ne 4, 3) := by decide +kernel
theorem d_B_giveBack_5 : decode b_B_giveBack 5 = .ok (.return_, 1) := by decide +kernel
theorem d_B_giveBack_6 : decode b_B_giveBack 6 = .ok (.iload_n 1, 1) := by decide +kernel
theorem d_B_giveBack_7 : decode b_B_giveBack 7 = .ok (.iconst 4, 1) := by decide +kernel
theorem d_B_giveBack_8 : decode b_B_giveBack 8 = .ok (.invokestatic 53, 3) := by decide +kernel
theorem d_B_giveBack_11 : decode b_B_giveBack 11 = .ok (.ifCond .eq 16, 3) := by decide +kernel
theorem d_B_giveBack_14 : decode b_B_giveBack 14 = .ok (.aload_n 0, 1) := by decide +kernel
theorem d_B_giveBack_15 : decode b_B_giveBack 15 = .ok (.getfield 36, 3) := by decide +kernel
theorem d_B_giveBack_18 : decode b_B_giveBack 18 = .ok (.iload_n 1, 1) := by decide +kernel
theorem d_B_giveBack_19 : decode b_B_giveBack 19 = .ok (.aaload, 1) := by decide +kernel
theorem d_B_giveBack_20 : decode b_B_giveBack 20 = .ok (.iload_n 2, 1) := by decide +kernel
theorem d_B_giveBack_21 : decode b_B_giveBack 21 = .ok (.putfield 132, 3) := by decide +kernel
theorem d_B_giveBack_24 : decode b_B_giveBack 24 = .ok (.goto 8, 3) := by decide +kernel
theorem d_B_giveBack_27 : decode b_B_giveBack 27 = .ok (.aload_n 0, 1) := by decide +kernel
theorem d_B_giveBack_28 : decode b_B_giveBack 28 = .ok (.iload_n 2, 1) := by decide +kernel
theorem d_B_giveBack_29 : decode b_B_giveBack 29 = .ok (.putfield 142, 3) := by decide +kernel
theorem d_B_giveBack_32 : decode b_B_giveBack 32 = .ok (.return_, 1) := by decide +kernel
end
section
theorem d_M_init_0 : decode b_M_init 0 = .ok (.aload_n 0, 1) := by decide +kernel
theorem d_M_init_1 : decode b_M_init 1 = .ok (.invokespecial 1, 3) := by decide +kernel
theorem d_M_init_4 : decode b_M_init 4 = .ok (.aload_n 0, 1) := by decide +kernel
theorem d_M_init_5 : decode b_M_init 5 = .ok (.bipush 9, 2) := by decide +kernel
theorem d_M_init_7 : decode b_M_init 7 = .ok (.newarray .int, 2) := by decide +kernel
theorem d_M_init_9 : decode b_M_init 9 = .ok (.putfield 7, 3) := by decide +kernel
theorem d_M_init_12 : decode b_M_init 12 = .ok (.aload_n 0, 1) := by decide +kernel
theorem d_M_init_13 : decode b_M_init 13 = .ok (.iconst 2, 1) := by decide +kernel
theorem d_M_init_14 : decode b_M_init 14 = .ok (.newarray .boolean, 2) := by decide +kernel
theorem d_M_init_16 : decode b_M_init 16 = .ok (.putfield 13, 3) := by decide +kernel
theorem d_M_init_19 : decode b_M_init 19 = .ok (.aload_n 0, 1) := by decide +kernel
theorem d_M_init_20 : decode b_M_init 20 = .ok (.iconst 2, 1) := by decide +kernel
theorem d_M_init_21 : decode b_M_init 21 = .ok (.newarray .int, 2) := by decide +kernel
theorem d_M_init_23 : decode b_M_init 23 = .ok (.putfield 17, 3) := by decide +kernel
theorem d_M_init_26 : decode b_M_init 26 = .ok (.aload_n 0, 1) := by decide +kernel
theorem d_M_init_27 : decode b_M_init 27 = .ok (.iconst 2, 1) := by decide +kernel
theorem d_M_init_28 : decode b_M_init 28 = .ok (.newarray .int, 2) := by decide +kernel
theorem d_M_init_30 : decode b_M_init 30 = .ok (.putfield 20, 3) := by decide +kernel
theorem d_M_init_33 : decode b_M_init 33 = .ok (.aload_n 0, 1) := by decide +kernel
theorem d_M_init_34 : decode b_M_init 34 = .ok (.bipush 6, 2) := by decide +kernel
theorem d_M_init_36 : decode b_M_init 36 = .ok (.newarray .boolean, 2) := by decide +kernel
theorem d_M_init_38 : decode b_M_init 38 = .ok (.putfield 23, 3) := by decide +kernel
theorem d_M_init_41 : decode b_M_init 41 = .ok (.aload_n 0, 1) := by decide +kernel
theorem d_M_init_42 : decode b_M_init 42 = .ok (.iconst 4, 1) := by decide +kernel
theorem d_M_init_43 : decode b_M_init 43 = .ok (.newarray .int, 2) := by decide +kernel
theorem d_M_init_45 : decode b_M_init 45 = .ok (.putfield 26, 3) := by decide +kernel
theorem d_M_init_48 : decode b_M_init 48 = .ok (.aload_n 0, 1) := by decide +kernel
theorem d_M_init_49 : decode b_M_init 49 = .ok (.iconst 4, 1) := by decide +kernel
theorem d_M_init_50 : decode b_M_init 50 = .ok (.newarray .int, 2) := by decide +kernel
theorem d_M_init_52 : decode b_M_init 52 = .ok (.putfield 29, 3) := by decide +kernel
theorem d_M_init_55 : decode b_M_init 55 = .ok (.aload_n 0, 1) := by decide +kernel
theorem d_M_init_56 : decode b_M_init 56 = .ok (.iconst 4, 1) := by decide +kernel
theorem d_M_init_57 : decode b_M_init 57 = .ok (.newarray .boolean, 2) := by decide +kernel
theorem d_M_init_59 : decode b_M_init 59 = .ok (.putfield 32, 3) := by decide +kernel
theorem d_M_init_62 : decode b_M_init 62 = .ok (.aload_n 0, 1) := by decide +kernel
theorem d_M_init_63 : decode b_M_init 63 = .ok (.bipush 13, 2) := by decide +kernel
theorem d_M_init_65 : decode b_M_init 65 = .ok (.newarray .int, 2) := by decide +kernel
theorem d_M_init_67 : decode b_M_init 67 = .ok (.putfield 35, 3) := by decide +kernel
theorem d_M_init_70 : decode b_M_init 70 = .ok (.aload_n 0, 1) := by decide +kernel
theorem d_M_init_71 : decode b_M_init 71 = .ok (.bipush 13, 2) := by decide +kernel
theorem d_M_init_73 : decode b_M_init 73 = .ok (.newarray .boolean, 2) := by decide +kernel
theorem d_M_init_75 : decode b_M_init 75 = .ok (.putfield 38, 3) := by decide +kernel
theorem d_M_init_78 : decode b_M_init 78 = .ok (.aload_n 0, 1) := by decide +kernel
theorem d_M_init_79 : decode b_M_init 79 = .ok (.bipush 13, 2) := by decide +kernel
theorem d_M_init_81 : decode b_M_init 81 = .ok (.newarray .boolean, 2) := by decide +kernel
theorem d_M_init_83 : decode b_M_init 83 = .ok (.putfield 41, 3) := by decide +kernel
theorem d_M_init_86 : decode b_M_init 86 = .ok (.aload_n 0, 1) := by decide +kernel
theorem d_M_init_87 : decode b_M_init 87 = .ok (.bipush 20, 2) := by decide +kernel
theorem d_M_init_89 : decode b_M_init 89 = .ok (.newarray .int, 2) := by decide +kernel
theorem d_M_init_91 : decode b_M_init 91 = .ok (.putfield 44, 3) := by decide +kernel
theorem d_M_init_94 : decode b_M_init 94 = .ok (.aload_n 0, 1) := by decide +kernel
theorem d_M_init_95 : decode b_M_init 95 = .ok (.bipush 10, 2) := by decide +kernel
theorem d_M_init_97 : decode b_M_init 97 = .ok (.newarray .int, 2) := by decide +kernel
theorem d_M_init_99 : decode b_M_init 99 = .ok (.putfield 47, 3) := by decide +kernel
theorem d_M_init_102 : decode b_M_init 102 = .ok (.aload_n 0, 1) := by decide +kernel
theorem d_M_init_103 : decode b_M_init 103 = .ok (.getfield 7, 3) := by decide +kernel
theorem d_M_init_106 : decode b_M_init 106 = .ok (.iconst 1, 1) := by decide +kernel
theorem d_M_init_107 : decode b_M_init 107 = .ok (.sipush 1000, 3) := by decide +kernel
theorem d_M_init_110 : decode b_M_init 110 = .ok (.iastore, 1) := by decide +kernel
theorem d_M_init_111 : decode b_M_init 111 = .ok (.iconst 0, 1) := by decide +kernel
theorem d_M_init_112 : decode b_M_init 112 = .ok (.istore_n 1, 1) := by decide +kernel
theorem d_M_init_113 : decode b_M_init 113 = .ok (.iload_n 1, 1) := by decide +kernel
theorem d_M_init_114 : decode b_M_init 114 = .ok (.bipush 20, 2) := by decide +kernel
theorem d_M_init_116 : decode b_M_init 116 = .ok (.if_icmp .ge 16, 3) := by decide +kernel
theorem d_M_init_119 : decode b_M_init 119 = .ok (.aload_n 0, 1) := by decide +kernel
theorem d_M_init_120 : decode b_M_init 120 = .ok (.getfield 44, 3) := by decide +kernel
theorem d_M_init_123 : decode b_M_init 123 = .ok (.iload_n 1, 1) := by decide +kernel
theorem d_M_init_124 : decode b_M_init 124 = .ok (.iconst (-1), 1) := by decide +kernel
theorem d_M_init_125 : decode b_M_init 125 = .ok (.iastore, 1) := by decide +kernel
theorem d_M_init_126 : decode b_M_init 126 = .ok (.iinc 1 1, 3) := by decide +kernel
theorem d_M_init_129 : decode b_M_init 129 = .ok (.goto (-16), 3) := by decide +kernel
theorem d_M_init_132 : decode b_M_init 132 = .ok (.return_, 1) := by decide +kernel
theorem d_M_thrown_0 : decode b_M_thrown 0 = .ok (.aload_n 0, 1) := by decide +kernel
theorem d_M_thrown_1 : decode b_M_thrown 1 = .ok (.getfield 50, 3) := by decide +kernel
theorem d_M_thrown_4 : decode b_M_thrown 4 = .ok (.ireturn, 1) := by decide +kernel
theorem d_M_within_0 : decode b_M_within 0 = .ok (.iload_n 0, 1) := by decide +kernel
theorem d_M_within_1 : decode b_M_within 1 = .ok (.iload_n 1, 1) := by decide +kernel
theorem d_M_within_2 : decode b_M_within 2 = .ok (.if_icmp .lt 12, 3) := by decide +kernel
theorem d_M_within_5 : decode b_M_within 5 = .ok (.iload_n 0, 1) := by decide +kernel
theorem d_M_within_6 : decode b_M_within 6 = .ok (.iload_n 2, 1) := by decide +kernel
theorem d_M_within_7 : decode b_M_within 7 = .ok (.if_icmp .gt 7, 3) := by decide +kernel
theorem d_M_within_10 : decode b_M_within 10 = .ok (.iconst 1, 1) := by decide +kernel
theorem d_M_within_11 : decode b_M_within 11 = .ok (.goto 4, 3) := by decide +kernel
theorem d_M_within_14 : decode b_M_within 14 = .ok (.iconst 0, 1) := by decide +kernel
theorem d_M_within_15 : decode b_M_within 15 = .ok (.ireturn, 1) := by decide +kernel
theorem d_M_period_0 : decode b_M_period 0 = .ok (.aload_n 0, 1) := by decide +kernel
theorem d_M_period_1 : decode b_M_period 1 = .ok (.getfield 23, 3) := by decide +kernel
theorem d_M_period_4 : decode b_M_period 4 = .ok (.iconst 4, 1) := by decide +kernel
theorem d_M_period_5 : decode b_M_period 5 = .ok (.iload_n 1, 1) := by decide +kernel
theorem d_M_period_6 : decode b_M_period 6 = .ok (.iadd, 1) := by decide +kernel
theorem d_M_period_7 : decode b_M_period 7 = .ok (.baload, 1) := by decide +kernel
theorem d_M_period_8 : decode b_M_period 8 = .ok (.ifCond .eq 8, 3) := by decide +kernel
theorem d_M_period_11 : decode b_M_period 11 = .ok (.bipush 40, 2) := by decide +kernel
theorem d_M_period_13 : decode b_M_period 13 = .ok (.goto 5, 3) := by decide +kernel
theorem d_M_period_16 : decode b_M_period 16 = .ok (.bipush 80, 2) := by decide +kernel
theorem d_M_period_18 : decode b_M_period 18 = .ok (.ireturn, 1) := by decide +kernel
theorem d_M_lit_0 : decode b_M_lit 0 = .ok (.aload_n 0, 1) := by decide +kernel
theorem d_M_lit_1 : decode b_M_lit 1 = .ok (.getfield 13, 3) := by decide +kernel
theorem d_M_lit_4 : decode b_M_lit 4 = .ok (.iload_n 1, 1) := by decide +kernel
theorem d_M_lit_5 : decode b_M_lit 5 = .ok (.baload, 1) := by decide +kernel
theorem d_M_lit_6 : decode b_M_lit 6 = .ok (.ifCond .eq 23, 3) := by decide +kernel
theorem d_M_lit_9 : decode b_M_lit 9 = .ok (.iconst 2, 1) := by decide +kernel
theorem d_M_lit_10 : decode b_M_lit 10 = .ok (.aload_n 0, 1) := by decide +kernel
theorem d_M_lit_11 : decode b_M_lit 11 = .ok (.getfield 17, 3) := by decide +kernel
theorem d_M_lit_14 : decode b_M_lit 14 = .ok (.iload_n 1, 1) := by decide +kernel
theorem d_M_lit_15 : decode b_M_lit 15 = .ok (.iaload, 1) := by decide +kernel
theorem d_M_lit_16 : decode b_M_lit 16 = .ok (.imul, 1) := by decide +kernel
theorem d_M_lit_17 : decode b_M_lit 17 = .ok (.aload_n 0, 1) := by decide +kernel
theorem d_M_lit_18 : decode b_M_lit 18 = .ok (.iload_n 1, 1) := by decide +kernel
theorem d_M_lit_19 : decode b_M_lit 19 = .ok (.invokevirtual 54, 3) := by decide +kernel
theorem d_M_lit_22 : decode b_M_lit 22 = .ok (.if_icmp .ge 7, 3) := by decide +kernel
theorem d_M_lit_25 : decode b_M_lit 25 = .ok (.iconst 1, 1) := by decide +kernel
theorem d_M_lit_26 : decode b_M_lit 26 = .ok (.goto 4, 3) := by decide +kernel
theorem d_M_lit_29 : decode b_M_lit 29 = .ok (.iconst 0, 1) := by decide +kernel
theorem d_M_lit_30 : decode b_M_lit 30 = .ok (.ireturn, 1) := by decide +kernel
theorem d_M_value_0 : decode b_M_value 0 = .ok (.aload_n 0, 1) := by decide +kernel
theorem d_M_value_1 : decode b_M_value 1 = .ok (.getfield 7, 3) := by decide +kernel
theorem d_M_value_4 : decode b_M_value 4 = .ok (.iconst 0, 1) := by decide +kernel
theorem d_M_value_5 : decode b_M_value 5 = .ok (.iaload, 1) := by decide +kernel
theorem d_M_value_6 : decode b_M_value 6 = .ok (.iconst 2, 1) := by decide +kernel
theorem d_M_value_7 : decode b_M_value 7 = .ok (.if_icmp .eq 20, 3) := by decide +kernel
theorem d_M_value_10 : decode b_M_value 10 = .ok (.aload_n 0, 1) := by decide +kernel
theorem d_M_value_11 : decode b_M_value 11 = .ok (.getfield 7, 3) := by decide +kernel
theorem d_M_value_14 : decode b_M_value 14 = .ok (.iconst 0, 1) := by decide +kernel
theorem d_M_value_15 : decode b_M_value 15 = .ok (.iaload, 1) := by decide +kernel
theorem d_M_value_16 : decode b_M_value 16 = .ok (.iconst 3, 1) := by decide +kernel
theorem d_M_value_17 : decode b_M_value 17 = .ok (.if_icmp .ne 14, 3) := by decide +kernel
theorem d_M_value_20 : decode b_M_value 20 = .ok (.aload_n 0, 1) := by decide +kernel
theorem d_M_value_21 : decode b_M_value 21 = .ok (.getfield 58, 3) := by decide +kernel
theorem d_M_value_24 : decode b_M_value 24 = .ok (.ifCond .eq 7, 3) := by decide +kernel
theorem d_M_value_27 : decode b_M_value 27 = .ok (.iconst 1, 1) := by decide +kernel
theorem d_M_value_28 : decode b_M_value 28 = .ok (.goto 4, 3) := by decide +kernel
theorem d_M_value_31 : decode b_M_value 31 = .ok (.iconst 0, 1) := by decide +kernel
theorem d_M_value_32 : decode b_M_value 32 = .ok (.istore_n 2, 1) := by decide +kernel
theorem d_M_value_33 : decode b_M_value 33 = .ok (.iload_n 2, 1) := by decide +kernel
theorem d_M_value_34 : decode b_M_value 34 = .ok (.ifCond .eq 17, 3) := by decide +kernel
theorem d_M_value_37 : decode b_M_value 37 = .ok (.aload_n 0, 1) := by decide +kernel
theorem d_M_value_38 : decode b_M_value 38 = .ok (.getfield 7, 3) := by decide +kernel
theorem d_M_value_41 : decode b_M_value 41 = .ok (.iconst 5, 1) := by decide +kernel
theorem d_M_value_42 : decode b_M_value 42 = .ok (.iaload, 1) := by decide +kernel
theorem d_M_value_43 : decode b_M_value 43 = .ok (.iconst 1, 1) := by decide +kernel
theorem d_M_value_44 : decode b_M_value 44 = .ok (.if_icmp .ne 7, 3) := by decide +kernel
theorem d_M_value_47 : decode b_M_value 47 = .ok (.iconst 1, 1) := by decide +kernel
theorem d_M_value_48 : decode b_M_value 48 = .ok (.goto 4, 3) := by decide +kernel
theorem d_M_value_51 : decode b_M_value 51 = .ok (.iconst 0, 1) := by decide +kernel
theorem d_M_value_52 : decode b_M_value 52 = .ok (.istore_n 3, 1) := by decide +kernel
theorem d_M_value_53 : decode b_M_value 53 = .ok (.iload_n 1, 1) := by decide +kernel
theorem d_M_value_54 : decode b_M_value 54 = .ok (.tableswitch 130 0 7 #[46, 73, 83, 104, 104, 112, 117, 125], 46) := by decide +kernel
theorem d_M_value_100 : decode b_M_value 100 = .ok (.iload_n 2, 1) := by decide +kernel
theorem d_M_value_101 : decode b_M_value 101 = .ok (.ifCond .ne 20, 3) := by decide +kernel
theorem d_M_value_104 : decode b_M_value 104 = .ok (.aload_n 0, 1) := by decide +kernel
theorem d_M_value_105 : decode b_M_value 105 = .ok (.getfield 7, 3) := by decide +kernel
theorem d_M_value_108 : decode b_M_value 108 = .ok (.iconst 0, 1) := by decide +kernel
theorem d_M_value_109 : decode b_M_value 109 = .ok (.iaload, 1) := by decide +kernel
theorem d_M_value_110 : decode b_M_value 110 = .ok (.iconst 1, 1) := by decide +kernel
theorem d_M_value_111 : decode b_M_value 111 = .ok (.if_icmp .eq 10, 3) := by decide +kernel
theorem d_M_value_114 : decode b_M_value 114 = .ok (.aload_n 0, 1) := by decide +kernel
theorem d_M_value_115 : decode b_M_value 115 = .ok (.getfield 62, 3) := by decide +kernel
theorem d_M_value_118 : decode b_M_value 118 = .ok (.ifCond .eq 7, 3) := by decide +kernel
theorem d_M_value_121 : decode b_M_value 121 = .ok (.iconst 1, 1) := by decide +kernel
theorem d_M_value_122 : decode b_M_value 122 = .ok (.goto 4, 3) := by decide +kernel
theorem d_M_value_125 : decode b_M_value 125 = .ok (.iconst 0, 1) := by decide +kernel
theorem d_M_value_126 : decode b_M_value 126 = .ok (.ireturn, 1) := by decide +kernel
theorem d_M_value_127 : decode b_M_value 127 = .ok (.iload_n 3, 1) := by decide +kernel
theorem d_M_value_128 : decode b_M_value 128 = .ok (.ifCond .eq 7, 3) := by decide +kernel
theorem d_M_value_131 : decode b_M_value 131 = .ok (.iconst 1, 1) := by decide +kernel
theorem d_M_value_132 : decode b_M_value 132 = .ok (.goto 4, 3) := by decide +kernel
theorem d_M_value_135 : decode b_M_value 135 = .ok (.iconst 0, 1) := by decide +kernel
theorem d_M_value_136 : decode b_M_value 136 = .ok (.ireturn, 1) := by decide +kernel
theorem d_M_value_137 : decode b_M_value 137 = .ok (.iload_n 3, 1) := by decide +kernel
theorem d_M_value_138 : decode b_M_value 138 = .ok (.ifCond .eq 18, 3) := by decide +kernel
theorem d_M_value_141 : decode b_M_value 141 = .ok (.aload_n 0, 1) := by decide +kernel
theorem d_M_value_142 : decode b_M_value 142 = .ok (.getfield 7, 3) := by decide +kernel
theorem d_M_value_145 : decode b_M_value 145 = .ok (.bipush 6, 2) := by decide +kernel
theorem d_M_value_147 : decode b_M_value 147 = .ok (.iaload, 1) := by decide +kernel
theorem d_M_value_148 : decode b_M_value 148 = .ok (.iconst 1, 1) := by decide +kernel
theorem d_M_value_149 : decode b_M_value 149 = .ok (.if_icmp .ne 7, 3) := by decide +kernel
theorem d_M_value_152 : decode b_M_value 152 = .ok (.iconst 1, 1) := by decide +kernel
theorem d_M_value_153 : decode b_M_value 153 = .ok (.goto 4, 3) := by decide +kernel
theorem d_M_value_156 : decode b_M_value 156 = .ok (.iconst 0, 1) := by decide +kernel
theorem d_M_value_157 : decode b_M_value 157 = .ok (.ireturn, 1) := by decide +kernel
theorem d_M_value_158 : decode b_M_value 158 = .ok (.aload_n 0, 1) := by decide +kernel
theorem d_M_value_159 : decode b_M_value 159 = .ok (.iload_n 1, 1) := by decide +kernel
theorem d_M_value_160 : decode b_M_value 160 = .ok (.iconst 3, 1) := by decide +kernel
theorem d_M_value_161 : decode b_M_value 161 = .ok (.isub, 1) := by decide +kernel
theorem d_M_value_162 : decode b_M_value 162 = .ok (.invokevirtual 65, 3) := by decide +kernel
theorem d_M_value_165 : decode b_M_value 165 = .ok (.ireturn, 1) := by decide +kernel
theorem d_M_value_166 : decode b_M_value 166 = .ok (.aload_n 0, 1) := by decide +kernel
theorem d_M_value_167 : decode b_M_value 167 = .ok (.getfield 68, 3) := by decide +kernel
theorem d_M_value_170 : decode b_M_value 170 = .ok (.ireturn, 1) := by decide +kernel
theorem d_M_value_171 : decode b_M_value 171 = .ok (.aload_n 0, 1) := by decide +kernel
theorem d_M_value_172 : decode b_M_value 172 = .ok (.getfield 7, 3) := by decide +kernel
theorem d_M_value_175 : decode b_M_value 175 = .ok (.bipush 7, 2) := by decide +kernel
theorem d_M_value_177 : decode b_M_value 177 = .ok (.iaload, 1) := by decide +kernel
theorem d_M_value_178 : decode b_M_value 178 = .ok (.ireturn, 1) := by decide +kernel
theorem d_M_value_179 : decode b_M_value 179 = .ok (.aload_n 0, 1) := by decide +kernel
theorem d_M_value_180 : decode b_M_value 180 = .ok (.getfield 71, 3) := by decide +kernel
theorem d_M_value_183 : decode b_M_value 183 = .ok (.ireturn, 1) := by decide +kernel
theorem d_M_value_184 : decode b_M_value 184 = .ok (.aload_n 0, 1) := by decide +kernel
theorem d_M_value_185 : decode b_M_value 185 = .ok (.getfield 74, 3) := by decide +kernel
theorem d_M_value_188 : decode b_M_value 188 = .ok (.ifCond .eq 14, 3) := by decide +kernel
theorem d_M_value_191 : decode b_M_value 191 = .ok (.aload_n 0, 1) := by decide +kernel
theorem d_M_value_192 : decode b_M_value 192 = .ok (.iload_n 1, 1) := by decide +kernel
theorem d_M_value_193 : decode b_M_value 193 = .ok (.bipush 8, 2) := by decide +kernel
theorem d_M_value_195 : decode b_M_value 195 = .ok (.isub, 1) := by decide +kernel
theorem d_M_value_196 : decode b_M_value 196 = .ok (.invokevirtual 65, 3) := by decide +kernel
theorem d_M_value_199 : decode b_M_value 199 = .ok (.goto 4, 3) := by decide +kernel
theorem d_M_value_202 : decode b_M_value 202 = .ok (.iconst 0, 1) := by decide +kernel
theorem d_M_value_203 : decode b_M_value 203 = .ok (.ireturn, 1) := by decide +kernel
theorem d_M_layBy_0 : decode b_M_layBy 0 = .ok (.iconst 0, 1) := by decide +kernel
theorem d_M_layBy_1 : decode b_M_layBy 1 = .ok (.istore_n 1, 1) := by decide +kernel
theorem d_M_layBy_2 : decode b_M_layBy 2 = .ok (.iload_n 1, 1) := by decide +kernel
theorem d_M_layBy_3 : decode b_M_layBy 3 = .ok (.bipush 10, 2) := by decide +kernel
theorem d_M_layBy_5 : decode b_M_layBy 5 = .ok (.if_icmp .ge 20, 3) := by decide +kernel
theorem d_M_layBy_8 : decode b_M_layBy 8 = .ok (.aload_n 0, 1) := by decide +kernel
theorem d_M_layBy_9 : decode b_M_layBy 9 = .ok (.getfield 47, 3) := by decide +kernel
theorem d_M_layBy_12 : decode b_M_layBy 12 = .ok (.iload_n 1, 1) := by decide +kernel
theorem d_M_layBy_13 : decode b_M_layBy 13 = .ok (.aload_n 0, 1) := by decide +kernel
theorem d_M_layBy_14 : decode b_M_layBy 14 = .ok (.iload_n 1, 1) := by decide +kernel
theorem d_M_layBy_15 : decode b_M_layBy 15 = .ok (.invokevirtual 77, 3) := by decide +kernel
theorem d_M_layBy_18 : decode b_M_layBy 18 = .ok (.iastore, 1) := by decide +kernel
theorem d_M_layBy_19 : decode b_M_layBy 19 = .ok (.iinc 1 1, 3) := by decide +kernel
theorem d_M_layBy_22 : decode b_M_layBy 22 = .ok (.goto (-20), 3) := by decide +kernel
theorem d_M_layBy_25 : decode b_M_layBy 25 = .ok (.return_, 1) := by decide +kernel
theorem d_M_others_0 : decode b_M_others 0 = .ok (.iconst 0, 1) := by decide +kernel
theorem d_M_others_1 : decode b_M_others 1 = .ok (.istore_n 1, 1) := by decide +kernel
theorem d_M_others_2 : decode b_M_others 2 = .ok (.iconst 0, 1) := by decide +kernel
theorem d_M_others_3 : decode b_M_others 3 = .ok (.istore_n 2, 1) := by decide +kernel
theorem d_M_others_4 : decode b_M_others 4 = .ok (.iload_n 2, 1) := by decide +kernel
theorem d_M_others_5 : decode b_M_others 5 = .ok (.bipush 10, 2) := by decide +kernel
theorem d_M_others_7 : decode b_M_others 7 = .ok (.if_icmp .ge 31, 3) := by decide +kernel
theorem d_M_others_10 : decode b_M_others 10 = .ok (.iload_n 1, 1) := by decide +kernel
theorem d_M_others_11 : decode b_M_others 11 = .ok (.aload_n 0, 1) := by decide +kernel
theorem d_M_others_12 : decode b_M_others 12 = .ok (.getfield 47, 3) := by decide +kernel
theorem d_M_others_15 : decode b_M_others 15 = .ok (.iload_n 2, 1) := by decide +kernel
theorem d_M_others_16 : decode b_M_others 16 = .ok (.iaload, 1) := by decide +kernel
theorem d_M_others_17 : decode b_M_others 17 = .ok (.aload_n 0, 1) := by decide +kernel
theorem d_M_others_18 : decode b_M_others 18 = .ok (.iload_n 2, 1) := by decide +kernel
theorem d_M_others_19 : decode b_M_others 19 = .ok (.invokevirtual 77, 3) := by decide +kernel
theorem d_M_others_22 : decode b_M_others 22 = .ok (.if_icmp .eq 7, 3) := by decide +kernel
theorem d_M_others_25 : decode b_M_others 25 = .ok (.iconst 1, 1) := by decide +kernel
theorem d_M_others_26 : decode b_M_others 26 = .ok (.goto 4, 3) := by decide +kernel
theorem d_M_others_29 : decode b_M_others 29 = .ok (.iconst 0, 1) := by decide +kernel
theorem d_M_others_30 : decode b_M_others 30 = .ok (.iadd, 1) := by decide +kernel
theorem d_M_others_31 : decode b_M_others 31 = .ok (.istore_n 1, 1) := by decide +kernel
theorem d_M_others_32 : decode b_M_others 32 = .ok (.iinc 2 1, 3) := by decide +kernel
theorem d_M_others_35 : decode b_M_others 35 = .ok (.goto (-31), 3) := by decide +kernel
theorem d_M_others_38 : decode b_M_others 38 = .ok (.iload_n 1, 1) := by decide +kernel
theorem d_M_others_39 : decode b_M_others 39 = .ok (.ireturn, 1) := by decide +kernel
theorem d_M_output_0 : decode b_M_output 0 = .ok (.aload_n 0, 1) := by decide +kernel
theorem d_M_output_1 : decode b_M_output 1 = .ok (.iload_n 1, 1) := by decide +kernel
theorem d_M_output_2 : decode b_M_output 2 = .ok (.iconst 0, 1) := by decide +kernel
theorem d_M_output_3 : decode b_M_output 3 = .ok (.bipush 9, 2) := by decide +kernel
theorem d_M_output_5 : decode b_M_output 5 = .ok (.invokestatic 80, 3) := by decide +kernel
theorem d_M_output_8 : decode b_M_output 8 = .ok (.ifCond .eq 7, 3) := by decide +kernel
theorem d_M_output_11 : decode b_M_output 11 = .ok (.iconst 0, 1) := by decide +kernel
theorem d_M_output_12 : decode b_M_output 12 = .ok (.goto 4, 3) := by decide +kernel
theorem d_M_output_15 : decode b_M_output 15 = .ok (.iconst 1, 1) := by decide +kernel
theorem d_M_output_16 : decode b_M_output 16 = .ok (.putfield 50, 3) := by decide +kernel
theorem d_M_output_19 : decode b_M_output 19 = .ok (.aload_n 0, 1) := by decide +kernel
theorem d_M_output_20 : decode b_M_output 20 = .ok (.getfield 50, 3) := by decide +kernel
theorem d_M_output_23 : decode b_M_output 23 = .ok (.ifCond .le 7, 3) := by decide +kernel
theorem d_M_output_26 : decode b_M_output 26 = .ok (.iconst 0, 1) := by decide +kernel
theorem d_M_output_27 : decode b_M_output 27 = .ok (.goto 8, 3) := by decide +kernel
theorem d_M_output_30 : decode b_M_output 30 = .ok (.aload_n 0, 1) := by decide +kernel
theorem d_M_output_31 : decode b_M_output 31 = .ok (.iload_n 1, 1) := by decide +kernel
theorem d_M_output_32 : decode b_M_output 32 = .ok (.invokevirtual 77, 3) := by decide +kernel
theorem d_M_output_35 : decode b_M_output 35 = .ok (.ireturn, 1) := by decide +kernel
theorem d_M_most_0 : decode b_M_most 0 = .ok (.iload_n 0, 1) := by decide +kernel
theorem d_M_most_1 : decode b_M_most 1 = .ok (.ifCond .eq 8, 3) := by decide +kernel
theorem d_M_most_4 : decode b_M_most 4 = .ok (.iload_n 0, 1) := by decide +kernel
theorem d_M_most_5 : decode b_M_most 5 = .ok (.iconst 4, 1) := by decide +kernel
theorem d_M_most_6 : decode b_M_most 6 = .ok (.if_icmp .ne 7, 3) := by decide +kernel
theorem d_M_most_9 : decode b_M_most 9 = .ok (.iconst 3, 1) := by decide +kernel
theorem d_M_most_10 : decode b_M_most 10 = .ok (.goto 24, 3) := by decide +kernel
theorem d_M_most_13 : decode b_M_most 13 = .ok (.iload_n 0, 1) := by decide +kernel
theorem d_M_most_14 : decode b_M_most 14 = .ok (.iconst 1, 1) := by decide +kernel
theorem d_M_most_15 : decode b_M_most 15 = .ok (.if_icmp .ne 9, 3) := by decide +kernel
theorem d_M_most_18 : decode b_M_most 18 = .ok (.sipush 1000, 3) := by decide +kernel
theorem d_M_most_21 : decode b_M_most 21 = .ok (.goto 13, 3) := by decide +kernel
theorem d_M_most_24 : decode b_M_most 24 = .ok (.iload_n 0, 1) := by decide +kernel
theorem d_M_most_25 : decode b_M_most 25 = .ok (.iconst 2, 1) := by decide +kernel
theorem d_M_most_26 : decode b_M_most 26 = .ok (.if_icmp .ne 7, 3) := by decide +kernel
theorem d_M_most_29 : decode b_M_most 29 = .ok (.iconst 2, 1) := by decide +kernel
theorem d_M_most_30 : decode b_M_most 30 = .ok (.goto 4, 3) := by decide +kernel
theorem d_M_most_33 : decode b_M_most 33 = .ok (.iconst 1, 1) := by decide +kernel
theorem d_M_most_34 : decode b_M_most 34 = .ok (.ireturn, 1) := by decide +kernel
theorem d_M_isWanted_0 : decode b_M_isWanted 0 = .ok (.aload_n 0, 1) := by decide +kernel
theorem d_M_isWanted_1 : decode b_M_isWanted 1 = .ok (.getfield 7, 3) := by decide +kernel
theorem d_M_isWanted_4 : decode b_M_isWanted 4 = .ok (.iconst 3, 1) := by decide +kernel
theorem d_M_isWanted_5 : decode b_M_isWanted 5 = .ok (.iaload, 1) := by decide +kernel
theorem d_M_isWanted_6 : decode b_M_isWanted 6 = .ok (.iconst 1, 1) := by decide +kernel
theorem d_M_isWanted_7 : decode b_M_isWanted 7 = .ok (.if_icmp .eq 22, 3) := by decide +kernel
theorem d_M_isWanted_10 : decode b_M_isWanted 10 = .ok (.aload_n 0, 1) := by decide +kernel
theorem d_M_isWanted_11 : decode b_M_isWanted 11 = .ok (.getfield 62, 3) := by decide +kernel
theorem d_M_isWanted_14 : decode b_M_isWanted 14 = .ok (.ifCond .ne 15, 3) := by decide +kernel
theorem d_M_isWanted_17 : decode b_M_isWanted 17 = .ok (.aload_n 0, 1) := by decide +kernel
theorem d_M_isWanted_18 : decode b_M_isWanted 18 = .ok (.getfield 7, 3) := by decide +kernel
theorem d_M_isWanted_21 : decode b_M_isWanted 21 = .ok (.iconst 2, 1) := by decide +kernel
theorem d_M_isWanted_22 : decode b_M_isWanted 22 = .ok (.iaload, 1) := by decide +kernel
theorem d_M_isWanted_23 : decode b_M_isWanted 23 = .ok (.iload_n 1, 1) := by decide +kernel
theorem d_M_isWanted_24 : decode b_M_isWanted 24 = .ok (.iconst 1, 1) := by decide +kernel
theorem d_M_isWanted_25 : decode b_M_isWanted 25 = .ok (.iadd, 1) := by decide +kernel
theorem d_M_isWanted_26 : decode b_M_isWanted 26 = .ok (.if_icmp .ne 7, 3) := by decide +kernel
theorem d_M_isWanted_29 : decode b_M_isWanted 29 = .ok (.iconst 1, 1) := by decide +kernel
theorem d_M_isWanted_30 : decode b_M_isWanted 30 = .ok (.goto 4, 3) := by decide +kernel
theorem d_M_isWanted_33 : decode b_M_isWanted 33 = .ok (.iconst 0, 1) := by decide +kernel
theorem d_M_isWanted_34 : decode b_M_isWanted 34 = .ok (.ireturn, 1) := by decide +kernel
theorem d_M_begin_0 : decode b_M_begin 0 = .ok (.iconst 0, 1) := by decide +kernel
theorem d_M_begin_1 : decode b_M_begin 1 = .ok (.istore_n 1, 1) := by decide +kernel
theorem d_M_begin_2 : decode b_M_begin 2 = .ok (.iload_n 1, 1) := by decide +kernel
theorem d_M_begin_3 : decode b_M_begin 3 = .ok (.iconst 2, 1) := by decide +kernel
theorem d_M_begin_4 : decode b_M_begin 4 = .ok (.if_icmp .ge 47, 3) := by decide +kernel
theorem d_M_begin_7 : decode b_M_begin 7 = .ok (.aload_n 0, 1) := by decide +kernel
theorem d_M_begin_8 : decode b_M_begin 8 = .ok (.iload_n 1, 1) := by decide +kernel
theorem d_M_begin_9 : decode b_M_begin 9 = .ok (.invokevirtual 84, 3) := by decide +kernel
theorem d_M_begin_12 : decode b_M_begin 12 = .ok (.ifCond .eq 33, 3) := by decide +kernel
theorem d_M_begin_15 : decode b_M_begin 15 = .ok (.aload_n 0, 1) := by decide +kernel
theorem d_M_begin_16 : decode b_M_begin 16 = .ok (.getfield 13, 3) := by decide +kernel
theorem d_M_begin_19 : decode b_M_begin 19 = .ok (.iload_n 1, 1) := by decide +kernel
theorem d_M_begin_20 : decode b_M_begin 20 = .ok (.baload, 1) := by decide +kernel
theorem d_M_begin_21 : decode b_M_begin 21 = .ok (.ifCond .ne 24, 3) := by decide +kernel
theorem d_M_begin_24 : decode b_M_begin 24 = .ok (.aload_n 0, 1) := by decide +kernel
theorem d_M_begin_25 : decode b_M_begin 25 = .ok (.getfield 13, 3) := by decide +kernel
theorem d_M_begin_28 : decode b_M_begin 28 = .ok (.iload_n 1, 1) := by decide +kernel
theorem d_M_begin_29 : decode b_M_begin 29 = .ok (.iconst 1, 1) := by decide +kernel
theorem d_M_begin_30 : decode b_M_begin 30 = .ok (.bastore, 1) := by decide +kernel
theorem d_M_begin_31 : decode b_M_begin 31 = .ok (.aload_n 0, 1) := by decide +kernel
theorem d_M_begin_32 : decode b_M_begin 32 = .ok (.getfield 17, 3) := by decide +kernel
theorem d_M_begin_35 : decode b_M_begin 35 = .ok (.iload_n 1, 1) := by decide +kernel
theorem d_M_begin_36 : decode b_M_begin 36 = .ok (.iconst 0, 1) := by decide +kernel
theorem d_M_begin_37 : decode b_M_begin 37 = .ok (.iastore, 1) := by decide +kernel
theorem d_M_begin_38 : decode b_M_begin 38 = .ok (.aload_n 0, 1) := by decide +kernel
theorem d_M_begin_39 : decode b_M_begin 39 = .ok (.getfield 20, 3) := by decide +kernel
theorem d_M_begin_42 : decode b_M_begin 42 = .ok (.iload_n 1, 1) := by decide +kernel
theorem d_M_begin_43 : decode b_M_begin 43 = .ok (.iconst 0, 1) := by decide +kernel
theorem d_M_begin_44 : decode b_M_begin 44 = .ok (.iastore, 1) := by decide +kernel
theorem d_M_begin_45 : decode b_M_begin 45 = .ok (.iinc 1 1, 3) := by decide +kernel
theorem d_M_begin_48 : decode b_M_begin 48 = .ok (.goto (-46), 3) := by decide +kernel
theorem d_M_begin_51 : decode b_M_begin 51 = .ok (.return_, 1) := by decide +kernel
theorem d_M_input_0 : decode b_M_input 0 = .ok (.aload_n 0, 1) := by decide +kernel
theorem d_M_input_1 : decode b_M_input 1 = .ok (.iconst 0, 1) := by decide +kernel
theorem d_M_input_2 : decode b_M_input 2 = .ok (.putfield 50, 3) := by decide +kernel
theorem d_M_input_5 : decode b_M_input 5 = .ok (.iload_n 1, 1) := by decide +kernel
theorem d_M_input_6 : decode b_M_input 6 = .ok (.iconst 0, 1) := by decide +kernel
theorem d_M_input_7 : decode b_M_input 7 = .ok (.bipush 8, 2) := by decide +kernel
theorem d_M_input_9 : decode b_M_input 9 = .ok (.invokestatic 80, 3) := by decide +kernel
theorem d_M_input_12 : decode b_M_input 12 = .ok (.ifCond .ne 5, 3) := by decide +kernel
theorem d_M_input_15 : decode b_M_input 15 = .ok (.iconst (-1), 1) := by decide +kernel
theorem d_M_input_16 : decode b_M_input 16 = .ok (.ireturn, 1) := by decide +kernel
theorem d_M_input_17 : decode b_M_input 17 = .ok (.iload_n 2, 1) := by decide +kernel
theorem d_M_input_18 : decode b_M_input 18 = .ok (.iconst 0, 1) := by decide +kernel
theorem d_M_input_19 : decode b_M_input 19 = .ok (.iload_n 1, 1) := by decide +kernel
theorem d_M_input_20 : decode b_M_input 20 = .ok (.invokestatic 88, 3) := by decide +kernel
theorem d_M_input_23 : decode b_M_input 23 = .ok (.invokestatic 80, 3) := by decide +kernel
theorem d_M_input_26 : decode b_M_input 26 = .ok (.ifCond .ne 6, 3) := by decide +kernel
theorem d_M_input_29 : decode b_M_input 29 = .ok (.bipush (-2), 2) := by decide +kernel
theorem d_M_input_31 : decode b_M_input 31 = .ok (.ireturn, 1) := by decide +kernel
theorem d_M_input_32 : decode b_M_input 32 = .ok (.aload_n 0, 1) := by decide +kernel
theorem d_M_input_33 : decode b_M_input 33 = .ok (.invokevirtual 91, 3) := by decide +kernel
theorem d_M_input_36 : decode b_M_input 36 = .ok (.aload_n 0, 1) := by decide +kernel
theorem d_M_input_37 : decode b_M_input 37 = .ok (.getfield 7, 3) := by decide +kernel
theorem d_M_input_40 : decode b_M_input 40 = .ok (.iload_n 1, 1) := by decide +kernel
theorem d_M_input_41 : decode b_M_input 41 = .ok (.iload_n 2, 1) := by decide +kernel
theorem d_M_input_42 : decode b_M_input 42 = .ok (.iastore, 1) := by decide +kernel
theorem d_M_input_43 : decode b_M_input 43 = .ok (.iload_n 1, 1) := by decide +kernel
theorem d_M_input_44 : decode b_M_input 44 = .ok (.iconst 1, 1) := by decide +kernel
theorem d_M_input_45 : decode b_M_input 45 = .ok (.if_icmp .ne 33, 3) := by decide +kernel
theorem d_M_input_48 : decode b_M_input 48 = .ok (.aload_n 0, 1) := by decide +kernel
theorem d_M_input_49 : decode b_M_input 49 = .ok (.iload_n 2, 1) := by decide +kernel
theorem d_M_input_50 : decode b_M_input 50 = .ok (.sipush 200, 3) := by decide +kernel
theorem d_M_input_53 : decode b_M_input 53 = .ok (.if_icmp .lt 17, 3) := by decide +kernel
theorem d_M_input_56 : decode b_M_input 56 = .ok (.aload_n 0, 1) := by decide +kernel
theorem d_M_input_57 : decode b_M_input 57 = .ok (.getfield 58, 3) := by decide +kernel
theorem d_M_input_60 : decode b_M_input 60 = .ok (.ifCond .eq 14, 3) := by decide +kernel
theorem d_M_input_63 : decode b_M_input 63 = .ok (.iload_n 2, 1) := by decide +kernel
theorem d_M_input_64 : decode b_M_input 64 = .ok (.sipush 400, 3) := by decide +kernel
theorem d_M_input_67 : decode b_M_input 67 = .ok (.if_icmp .gt 7, 3) := by decide +kernel
theorem d_M_input_70 : decode b_M_input 70 = .ok (.iconst 1, 1) := by decide +kernel
theorem d_M_input_71 : decode b_M_input 71 = .ok (.goto 4, 3) := by decide +kernel
theorem d_M_input_74 : decode b_M_input 74 = .ok (.iconst 0, 1) := by decide +kernel
theorem d_M_input_75 : decode b_M_input 75 = .ok (.putfield 58, 3) := by decide +kernel
theorem d_M_input_78 : decode b_M_input 78 = .ok (.iload_n 1, 1) := by decide +kernel
theorem d_M_input_79 : decode b_M_input 79 = .ok (.iconst 2, 1) := by decide +kernel
theorem d_M_input_80 : decode b_M_input 80 = .ok (.if_icmp .ne 46, 3) := by decide +kernel
theorem d_M_input_83 : decode b_M_input 83 = .ok (.iload_n 2, 1) := by decide +kernel
theorem d_M_input_84 : decode b_M_input 84 = .ok (.ifCond .le 42, 3) := by decide +kernel
theorem d_M_input_87 : decode b_M_input 87 = .ok (.iload_n 2, 1) := by decide +kernel
theorem d_M_input_88 : decode b_M_input 88 = .ok (.iconst 1, 1) := by decide +kernel
theorem d_M_input_89 : decode b_M_input 89 = .ok (.if_icmp .ne 7, 3) := by decide +kernel
theorem d_M_input_92 : decode b_M_input 92 = .ok (.iconst 1, 1) := by decide +kernel
theorem d_M_input_93 : decode b_M_input 93 = .ok (.goto 4, 3) := by decide +kernel
theorem d_M_input_96 : decode b_M_input 96 = .ok (.iconst 0, 1) := by decide +kernel
theorem d_M_input_97 : decode b_M_input 97 = .ok (.istore_n 3, 1) := by decide +kernel
theorem d_M_input_98 : decode b_M_input 98 = .ok (.aload_n 0, 1) := by decide +kernel
theorem d_M_input_99 : decode b_M_input 99 = .ok (.getfield 13, 3) := by decide +kernel
theorem d_M_input_102 : decode b_M_input 102 = .ok (.iload_n 3, 1) := by decide +kernel
theorem d_M_input_103 : decode b_M_input 103 = .ok (.aload_n 0, 1) := by decide +kernel
theorem d_M_input_104 : decode b_M_input 104 = .ok (.getfield 13, 3) := by decide +kernel
theorem d_M_input_107 : decode b_M_input 107 = .ok (.iload_n 3, 1) := by decide +kernel
theorem d_M_input_108 : decode b_M_input 108 = .ok (.baload, 1) := by decide +kernel
theorem d_M_input_109 : decode b_M_input 109 = .ok (.ifCond .eq 15, 3) := by decide +kernel
theorem d_M_input_112 : decode b_M_input 112 = .ok (.aload_n 0, 1) := by decide +kernel
theorem d_M_input_113 : decode b_M_input 113 = .ok (.iload_n 3, 1) := by decide +kernel
theorem d_M_input_114 : decode b_M_input 114 = .ok (.invokevirtual 84, 3) := by decide +kernel
theorem d_M_input_117 : decode b_M_input 117 = .ok (.ifCond .eq 7, 3) := by decide +kernel
theorem d_M_input_120 : decode b_M_input 120 = .ok (.iconst 1, 1) := by decide +kernel
theorem d_M_input_121 : decode b_M_input 121 = .ok (.goto 4, 3) := by decide +kernel
theorem d_M_input_124 : decode b_M_input 124 = .ok (.iconst 0, 1) := by decide +kernel
theorem d_M_input_125 : decode b_M_input 125 = .ok (.bastore, 1) := by decide +kernel
theorem d_M_input_126 : decode b_M_input 126 = .ok (.aload_n 0, 1) := by decide +kernel
theorem d_M_input_127 : decode b_M_input 127 = .ok (.invokevirtual 94, 3) := by decide +kernel
theorem d_M_input_130 : decode b_M_input 130 = .ok (.aload_n 0, 1) := by decide +kernel
theorem d_M_input_131 : decode b_M_input 131 = .ok (.invokevirtual 97, 3) := by decide +kernel
theorem d_M_input_134 : decode b_M_input 134 = .ok (.ireturn, 1) := by decide +kernel
theorem d_M_tickSide_0 : decode b_M_tickSide 0 = .ok (.aload_n 0, 1) := by decide +kernel
theorem d_M_tickSide_1 : decode b_M_tickSide 1 = .ok (.getfield 13, 3) := by decide +kernel
theorem d_M_tickSide_4 : decode b_M_tickSide 4 = .ok (.iload_n 1, 1) := by decide +kernel
theorem d_M_tickSide_5 : decode b_M_tickSide 5 = .ok (.baload, 1) := by decide +kernel
theorem d_M_tickSide_6 : decode b_M_tickSide 6 = .ok (.ifCond .ne 4, 3) := by decide +kernel
theorem d_M_tickSide_9 : decode b_M_tickSide 9 = .ok (.return_, 1) := by decide +kernel
theorem d_M_tickSide_10 : decode b_M_tickSide 10 = .ok (.aload_n 0, 1) := by decide +kernel
theorem d_M_tickSide_11 : decode b_M_tickSide 11 = .ok (.getfield 17, 3) := by decide +kernel
theorem d_M_tickSide_14 : decode b_M_tickSide 14 = .ok (.iload_n 1, 1) := by decide +kernel
theorem d_M_tickSide_15 : decode b_M_tickSide 15 = .ok (.dup2, 1) := by decide +kernel
theorem d_M_tickSide_16 : decode b_M_tickSide 16 = .ok (.iaload, 1) := by decide +kernel
theorem d_M_tickSide_17 : decode b_M_tickSide 17 = .ok (.iconst 1, 1) := by decide +kernel
theorem d_M_tickSide_18 : decode b_M_tickSide 18 = .ok (.iadd, 1) := by decide +kernel
theorem d_M_tickSide_19 : decode b_M_tickSide 19 = .ok (.iastore, 1) := by decide +kernel
theorem d_M_tickSide_20 : decode b_M_tickSide 20 = .ok (.aload_n 0, 1) := by decide +kernel
theorem d_M_tickSide_21 : decode b_M_tickSide 21 = .ok (.getfield 17, 3) := by decide +kernel
theorem d_M_tickSide_24 : decode b_M_tickSide 24 = .ok (.iload_n 1, 1) := by decide +kernel
theorem d_M_tickSide_25 : decode b_M_tickSide 25 = .ok (.iaload, 1) := by decide +kernel
theorem d_M_tickSide_26 : decode b_M_tickSide 26 = .ok (.aload_n 0, 1) := by decide +kernel
theorem d_M_tickSide_27 : decode b_M_tickSide 27 = .ok (.iload_n 1, 1) := by decide +kernel
theorem d_M_tickSide_28 : decode b_M_tickSide 28 = .ok (.invokevirtual 54, 3) := by decide +kernel
theorem d_M_tickSide_31 : decode b_M_tickSide 31 = .ok (.if_icmp .ge 4, 3) := by decide +kernel
theorem d_M_tickSide_34 : decode b_M_tickSide 34 = .ok (.return_, 1) := by decide +kernel
theorem d_M_tickSide_35 : decode b_M_tickSide 35 = .ok (.aload_n 0, 1) := by decide +kernel
theorem d_M_tickSide_36 : decode b_M_tickSide 36 = .ok (.getfield 17, 3) := by decide +kernel
theorem d_M_tickSide_39 : decode b_M_tickSide 39 = .ok (.iload_n 1, 1) := by decide +kernel
theorem d_M_tickSide_40 : decode b_M_tickSide 40 = .ok (.iconst 0, 1) := by decide +kernel
theorem d_M_tickSide_41 : decode b_M_tickSide 41 = .ok (.iastore, 1) := by decide +kernel
theorem d_M_tickSide_42 : decode b_M_tickSide 42 = .ok (.aload_n 0, 1) := by decide +kernel
theorem d_M_tickSide_43 : decode b_M_tickSide 43 = .ok (.getfield 20, 3) := by decide +kernel
theorem d_M_tickSide_46 : decode b_M_tickSide 46 = .ok (.iload_n 1, 1) := by decide +kernel
theorem d_M_tickSide_47 : decode b_M_tickSide 47 = .ok (.dup2, 1) := by decide +kernel
theorem d_M_tickSide_48 : decode b_M_tickSide 48 = .ok (.iaload, 1) := by decide +kernel
theorem d_M_tickSide_49 : decode b_M_tickSide 49 = .ok (.iconst 1, 1) := by decide +kernel
theorem d_M_tickSide_50 : decode b_M_tickSide 50 = .ok (.iadd, 1) := by decide +kernel
theorem d_M_tickSide_51 : decode b_M_tickSide 51 = .ok (.iastore, 1) := by decide +kernel
theorem d_M_tickSide_52 : decode b_M_tickSide 52 = .ok (.aload_n 0, 1) := by decide +kernel
theorem d_M_tickSide_53 : decode b_M_tickSide 53 = .ok (.getfield 13, 3) := by decide +kernel
theorem d_M_tickSide_56 : decode b_M_tickSide 56 = .ok (.iload_n 1, 1) := by decide +kernel
theorem d_M_tickSide_57 : decode b_M_tickSide 57 = .ok (.aload_n 0, 1) := by decide +kernel
theorem d_M_tickSide_58 : decode b_M_tickSide 58 = .ok (.iload_n 1, 1) := by decide +kernel
theorem d_M_tickSide_59 : decode b_M_tickSide 59 = .ok (.invokevirtual 84, 3) := by decide +kernel
theorem d_M_tickSide_62 : decode b_M_tickSide 62 = .ok (.ifCond .ne 13, 3) := by decide +kernel
theorem d_M_tickSide_65 : decode b_M_tickSide 65 = .ok (.aload_n 0, 1) := by decide +kernel
theorem d_M_tickSide_66 : decode b_M_tickSide 66 = .ok (.getfield 20, 3) := by decide +kernel
theorem d_M_tickSide_69 : decode b_M_tickSide 69 = .ok (.iload_n 1, 1) := by decide +kernel
theorem d_M_tickSide_70 : decode b_M_tickSide 70 = .ok (.iaload, 1) := by decide +kernel
theorem d_M_tickSide_71 : decode b_M_tickSide 71 = .ok (.iconst 3, 1) := by decide +kernel
theorem d_M_tickSide_72 : decode b_M_tickSide 72 = .ok (.if_icmp .ge 7, 3) := by decide +kernel
theorem d_M_tickSide_75 : decode b_M_tickSide 75 = .ok (.iconst 1, 1) := by decide +kernel
theorem d_M_tickSide_76 : decode b_M_tickSide 76 = .ok (.goto 4, 3) := by decide +kernel
theorem d_M_tickSide_79 : decode b_M_tickSide 79 = .ok (.iconst 0, 1) := by decide +kernel
theorem d_M_tickSide_80 : decode b_M_tickSide 80 = .ok (.bastore, 1) := by decide +kernel
theorem d_M_tickSide_81 : decode b_M_tickSide 81 = .ok (.return_, 1) := by decide +kernel
theorem d_M_speed_0 : decode b_M_speed 0 = .ok (.aload_n 0, 1) := by decide +kernel
theorem d_M_speed_1 : decode b_M_speed 1 = .ok (.getfield 7, 3) := by decide +kernel
theorem d_M_speed_4 : decode b_M_speed 4 = .ok (.iconst 5, 1) := by decide +kernel
theorem d_M_speed_5 : decode b_M_speed 5 = .ok (.iaload, 1) := by decide +kernel
theorem d_M_speed_6 : decode b_M_speed 6 = .ok (.ifCond .ne 5, 3) := by decide +kernel
theorem d_M_speed_9 : decode b_M_speed 9 = .ok (.iconst 0, 1) := by decide +kernel
theorem d_M_speed_10 : decode b_M_speed 10 = .ok (.ireturn, 1) := by decide +kernel
theorem d_M_speed_11 : decode b_M_speed 11 = .ok (.aload_n 0, 1) := by decide +kernel
theorem d_M_speed_12 : decode b_M_speed 12 = .ok (.getfield 7, 3) := by decide +kernel
theorem d_M_speed_15 : decode b_M_speed 15 = .ok (.iconst 4, 1) := by decide +kernel
theorem d_M_speed_16 : decode b_M_speed 16 = .ok (.iaload, 1) := by decide +kernel
theorem d_M_speed_17 : decode b_M_speed 17 = .ok (.iconst 1, 1) := by decide +kernel
theorem d_M_speed_18 : decode b_M_speed 18 = .ok (.if_icmp .ne 29, 3) := by decide +kernel
theorem d_M_speed_21 : decode b_M_speed 21 = .ok (.aload_n 0, 1) := by decide +kernel
theorem d_M_speed_22 : decode b_M_speed 22 = .ok (.getfield 101, 3) := by decide +kernel
theorem d_M_speed_25 : decode b_M_speed 25 = .ok (.ifCond .ne 7, 3) := by decide +kernel
theorem d_M_speed_28 : decode b_M_speed 28 = .ok (.iconst 0, 1) := by decide +kernel
theorem d_M_speed_29 : decode b_M_speed 29 = .ok (.goto 17, 3) := by decide +kernel
theorem d_M_speed_32 : decode b_M_speed 32 = .ok (.aload_n 0, 1) := by decide +kernel
theorem d_M_speed_33 : decode b_M_speed 33 = .ok (.getfield 101, 3) := by decide +kernel
theorem d_M_speed_36 : decode b_M_speed 36 = .ok (.bipush 8, 2) := by decide +kernel
theorem d_M_speed_38 : decode b_M_speed 38 = .ok (.if_icmp .ge 7, 3) := by decide +kernel
theorem d_M_speed_41 : decode b_M_speed 41 = .ok (.iconst 1, 1) := by decide +kernel
theorem d_M_speed_42 : decode b_M_speed 42 = .ok (.goto 4, 3) := by decide +kernel
theorem d_M_speed_45 : decode b_M_speed 45 = .ok (.iconst 2, 1) := by decide +kernel
theorem d_M_speed_46 : decode b_M_speed 46 = .ok (.ireturn, 1) := by decide +kernel
theorem d_M_speed_47 : decode b_M_speed 47 = .ok (.aload_n 0, 1) := by decide +kernel
theorem d_M_speed_48 : decode b_M_speed 48 = .ok (.getfield 7, 3) := by decide +kernel
theorem d_M_speed_51 : decode b_M_speed 51 = .ok (.iconst 4, 1) := by decide +kernel
theorem d_M_speed_52 : decode b_M_speed 52 = .ok (.iaload, 1) := by decide +kernel
theorem d_M_speed_53 : decode b_M_speed 53 = .ok (.ifCond .ne 7, 3) := by decide +kernel
theorem d_M_speed_56 : decode b_M_speed 56 = .ok (.iconst 0, 1) := by decide +kernel
theorem d_M_speed_57 : decode b_M_speed 57 = .ok (.goto 11, 3) := by decide +kernel
theorem d_M_speed_60 : decode b_M_speed 60 = .ok (.aload_n 0, 1) := by decide +kernel
theorem d_M_speed_61 : decode b_M_speed 61 = .ok (.getfield 7, 3) := by decide +kernel
theorem d_M_speed_64 : decode b_M_speed 64 = .ok (.iconst 4, 1) := by decide +kernel
theorem d_M_speed_65 : decode b_M_speed 65 = .ok (.iaload, 1) := by decide +kernel
theorem d_M_speed_66 : decode b_M_speed 66 = .ok (.iconst 1, 1) := by decide +kernel
theorem d_M_speed_67 : decode b_M_speed 67 = .ok (.isub, 1) := by decide +kernel
theorem d_M_speed_68 : decode b_M_speed 68 = .ok (.ireturn, 1) := by decide +kernel
theorem d_M_tickWiper_0 : decode b_M_tickWiper 0 = .ok (.aload_n 0, 1) := by decide +kernel
theorem d_M_tickWiper_1 : decode b_M_tickWiper 1 = .ok (.invokevirtual 104, 3) := by decide +kernel
theorem d_M_tickWiper_4 : decode b_M_tickWiper 4 = .ok (.istore_n 1, 1) := by decide +kernel
theorem d_M_tickWiper_5 : decode b_M_tickWiper 5 = .ok (.aload_n 0, 1) := by decide +kernel
theorem d_M_tickWiper_6 : decode b_M_tickWiper 6 = .ok (.iconst 0, 1) := by decide +kernel
theorem d_M_tickWiper_7 : decode b_M_tickWiper 7 = .ok (.putfield 68, 3) := by decide +kernel
theorem d_M_tickWiper_10 : decode b_M_tickWiper 10 = .ok (.aload_n 0, 1) := by decide +kernel
theorem d_M_tickWiper_11 : decode b_M_tickWiper 11 = .ok (.getfield 107, 3) := by decide +kernel
theorem d_M_tickWiper_14 : decode b_M_tickWiper 14 = .ok (.ifCond .ne 13, 3) := by decide +kernel
theorem d_M_tickWiper_17 : decode b_M_tickWiper 17 = .ok (.iload_n 1, 1) := by decide +kernel
theorem d_M_tickWiper_18 : decode b_M_tickWiper 18 = .ok (.ifCond .ne 9, 3) := by decide +kernel
theorem d_M_tickWiper_21 : decode b_M_tickWiper 21 = .ok (.aload_n 0, 1) := by decide +kernel
theorem d_M_tickWiper_22 : decode b_M_tickWiper 22 = .ok (.iconst 0, 1) := by decide +kernel
theorem d_M_tickWiper_23 : decode b_M_tickWiper 23 = .ok (.putfield 110, 3) := by decide +kernel
theorem d_M_tickWiper_26 : decode b_M_tickWiper 26 = .ok (.return_, 1) := by decide +kernel
theorem d_M_tickWiper_27 : decode b_M_tickWiper 27 = .ok (.aload_n 0, 1) := by decide +kernel
theorem d_M_tickWiper_28 : decode b_M_tickWiper 28 = .ok (.getfield 107, 3) := by decide +kernel
theorem d_M_tickWiper_31 : decode b_M_tickWiper 31 = .ok (.ifCond .ne 21, 3) := by decide +kernel
theorem d_M_tickWiper_34 : decode b_M_tickWiper 34 = .ok (.aload_n 0, 1) := by decide +kernel
theorem d_M_tickWiper_35 : decode b_M_tickWiper 35 = .ok (.getfield 110, 3) := by decide +kernel
theorem d_M_tickWiper_38 : decode b_M_tickWiper 38 = .ok (.ifCond .le 14, 3) := by decide +kernel
theorem d_M_tickWiper_41 : decode b_M_tickWiper 41 = .ok (.aload_n 0, 1) := by decide +kernel
theorem d_M_tickWiper_42 : decode b_M_tickWiper 42 = .ok (.dup, 1) := by decide +kernel
theorem d_M_tickWiper_43 : decode b_M_tickWiper 43 = .ok (.getfield 110, 3) := by decide +kernel
theorem d_M_tickWiper_46 : decode b_M_tickWiper 46 = .ok (.iconst 1, 1) := by decide +kernel
theorem d_M_tickWiper_47 : decode b_M_tickWiper 47 = .ok (.isub, 1) := by decide +kernel
theorem d_M_tickWiper_48 : decode b_M_tickWiper 48 = .ok (.putfield 110, 3) := by decide +kernel
theorem d_M_tickWiper_51 : decode b_M_tickWiper 51 = .ok (.return_, 1) := by decide +kernel
theorem d_M_tickWiper_52 : decode b_M_tickWiper 52 = .ok (.aload_n 0, 1) := by decide +kernel
theorem d_M_tickWiper_53 : decode b_M_tickWiper 53 = .ok (.iload_n 1, 1) := by decide +kernel
theorem d_M_tickWiper_54 : decode b_M_tickWiper 54 = .ok (.ifCond .ne 7, 3) := by decide +kernel
theorem d_M_tickWiper_57 : decode b_M_tickWiper 57 = .ok (.iconst 1, 1) := by decide +kernel
theorem d_M_tickWiper_58 : decode b_M_tickWiper 58 = .ok (.goto 4, 3) := by decide +kernel
theorem d_M_tickWiper_61 : decode b_M_tickWiper 61 = .ok (.iload_n 1, 1) := by decide +kernel
theorem d_M_tickWiper_62 : decode b_M_tickWiper 62 = .ok (.putfield 68, 3) := by decide +kernel
theorem d_M_tickWiper_65 : decode b_M_tickWiper 65 = .ok (.aload_n 0, 1) := by decide +kernel
theorem d_M_tickWiper_66 : decode b_M_tickWiper 66 = .ok (.dup, 1) := by decide +kernel
theorem d_M_tickWiper_67 : decode b_M_tickWiper 67 = .ok (.getfield 107, 3) := by decide +kernel
theorem d_M_tickWiper_70 : decode b_M_tickWiper 70 = .ok (.aload_n 0, 1) := by decide +kernel
theorem d_M_tickWiper_71 : decode b_M_tickWiper 71 = .ok (.getfield 68, 3) := by decide +kernel
theorem d_M_tickWiper_74 : decode b_M_tickWiper 74 = .ok (.iadd, 1) := by decide +kernel
theorem d_M_tickWiper_75 : decode b_M_tickWiper 75 = .ok (.putfield 107, 3) := by decide +kernel
theorem d_M_tickWiper_78 : decode b_M_tickWiper 78 = .ok (.aload_n 0, 1) := by decide +kernel
theorem d_M_tickWiper_79 : decode b_M_tickWiper 79 = .ok (.getfield 107, 3) := by decide +kernel
theorem d_M_tickWiper_82 : decode b_M_tickWiper 82 = .ok (.bipush 100, 2) := by decide +kernel
theorem d_M_tickWiper_84 : decode b_M_tickWiper 84 = .ok (.if_icmp .ge 4, 3) := by decide +kernel
theorem d_M_tickWiper_87 : decode b_M_tickWiper 87 = .ok (.return_, 1) := by decide +kernel
theorem d_M_tickWiper_88 : decode b_M_tickWiper 88 = .ok (.aload_n 0, 1) := by decide +kernel
theorem d_M_tickWiper_89 : decode b_M_tickWiper 89 = .ok (.iconst 0, 1) := by decide +kernel
theorem d_M_tickWiper_90 : decode b_M_tickWiper 90 = .ok (.putfield 107, 3) := by decide +kernel
theorem d_M_tickWiper_93 : decode b_M_tickWiper 93 = .ok (.aload_n 0, 1) := by decide +kernel
theorem d_M_tickWiper_94 : decode b_M_tickWiper 94 = .ok (.getfield 7, 3) := by decide +kernel
theorem d_M_tickWiper_97 : decode b_M_tickWiper 97 = .ok (.iconst 4, 1) := by decide +kernel
theorem d_M_tickWiper_98 : decode b_M_tickWiper 98 = .ok (.iaload, 1) := by decide +kernel
theorem d_M_tickWiper_99 : decode b_M_tickWiper 99 = .ok (.iconst 1, 1) := by decide +kernel
theorem d_M_tickWiper_100 : decode b_M_tickWiper 100 = .ok (.if_icmp .ne 30, 3) := by decide +kernel
theorem d_M_tickWiper_103 : decode b_M_tickWiper 103 = .ok (.aload_n 0, 1) := by decide +kernel
theorem d_M_tickWiper_104 : decode b_M_tickWiper 104 = .ok (.getfield 101, 3) := by decide +kernel
theorem d_M_tickWiper_107 : decode b_M_tickWiper 107 = .ok (.iconst 1, 1) := by decide +kernel
theorem d_M_tickWiper_108 : decode b_M_tickWiper 108 = .ok (.iconst 4, 1) := by decide +kernel
theorem d_M_tickWiper_109 : decode b_M_tickWiper 109 = .ok (.invokestatic 80, 3) := by decide +kernel
theorem d_M_tickWiper_112 : decode b_M_tickWiper 112 = .ok (.ifCond .eq 18, 3) := by decide +kernel
theorem d_M_tickWiper_115 : decode b_M_tickWiper 115 = .ok (.aload_n 0, 1) := by decide +kernel
theorem d_M_tickWiper_116 : decode b_M_tickWiper 116 = .ok (.sipush 400, 3) := by decide +kernel
theorem d_M_tickWiper_119 : decode b_M_tickWiper 119 = .ok (.bipush 80, 2) := by decide +kernel
theorem d_M_tickWiper_121 : decode b_M_tickWiper 121 = .ok (.aload_n 0, 1) := by decide +kernel
theorem d_M_tickWiper_122 : decode b_M_tickWiper 122 = .ok (.getfield 101, 3) := by decide +kernel
theorem d_M_tickWiper_125 : decode b_M_tickWiper 125 = .ok (.imul, 1) := by decide +kernel
theorem d_M_tickWiper_126 : decode b_M_tickWiper 126 = .ok (.isub, 1) := by decide +kernel
theorem d_M_tickWiper_127 : decode b_M_tickWiper 127 = .ok (.putfield 110, 3) := by decide +kernel
theorem d_M_tickWiper_130 : decode b_M_tickWiper 130 = .ok (.return_, 1) := by decide +kernel
theorem d_M_tickWindow_0 : decode b_M_tickWindow 0 = .ok (.aload_n 0, 1) := by decide +kernel
theorem d_M_tickWindow_1 : decode b_M_tickWindow 1 = .ok (.getfield 32, 3) := by decide +kernel
theorem d_M_tickWindow_4 : decode b_M_tickWindow 4 = .ok (.iload_n 1, 1) := by decide +kernel
theorem d_M_tickWindow_5 : decode b_M_tickWindow 5 = .ok (.baload, 1) := by decide +kernel
theorem d_M_tickWindow_6 : decode b_M_tickWindow 6 = .ok (.ifCond .eq 7, 3) := by decide +kernel
theorem d_M_tickWindow_9 : decode b_M_tickWindow 9 = .ok (.iconst 2, 1) := by decide +kernel
theorem d_M_tickWindow_10 : decode b_M_tickWindow 10 = .ok (.goto 4, 3) := by decide +kernel
theorem d_M_tickWindow_13 : decode b_M_tickWindow 13 = .ok (.iconst 1, 1) := by decide +kernel
theorem d_M_tickWindow_14 : decode b_M_tickWindow 14 = .ok (.istore_n 2, 1) := by decide +kernel
theorem d_M_tickWindow_15 : decode b_M_tickWindow 15 = .ok (.aload_n 0, 1) := by decide +kernel
theorem d_M_tickWindow_16 : decode b_M_tickWindow 16 = .ok (.getfield 29, 3) := by decide +kernel
theorem d_M_tickWindow_19 : decode b_M_tickWindow 19 = .ok (.iload_n 1, 1) := by decide +kernel
theorem d_M_tickWindow_20 : decode b_M_tickWindow 20 = .ok (.iaload, 1) := by decide +kernel
theorem d_M_tickWindow_21 : decode b_M_tickWindow 21 = .ok (.aload_n 0, 1) := by decide +kernel
theorem d_M_tickWindow_22 : decode b_M_tickWindow 22 = .ok (.getfield 26, 3) := by decide +kernel
theorem d_M_tickWindow_25 : decode b_M_tickWindow 25 = .ok (.iload_n 1, 1) := by decide +kernel
theorem d_M_tickWindow_26 : decode b_M_tickWindow 26 = .ok (.iaload, 1) := by decide +kernel
theorem d_M_tickWindow_27 : decode b_M_tickWindow 27 = .ok (.isub, 1) := by decide +kernel
theorem d_M_tickWindow_28 : decode b_M_tickWindow 28 = .ok (.istore_n 3, 1) := by decide +kernel
theorem d_M_tickWindow_29 : decode b_M_tickWindow 29 = .ok (.aload_n 0, 1) := by decide +kernel
theorem d_M_tickWindow_30 : decode b_M_tickWindow 30 = .ok (.getfield 26, 3) := by decide +kernel
theorem d_M_tickWindow_33 : decode b_M_tickWindow 33 = .ok (.iload_n 1, 1) := by decide +kernel
theorem d_M_tickWindow_34 : decode b_M_tickWindow 34 = .ok (.dup2, 1) := by decide +kernel
theorem d_M_tickWindow_35 : decode b_M_tickWindow 35 = .ok (.iaload, 1) := by decide +kernel
theorem d_M_tickWindow_36 : decode b_M_tickWindow 36 = .ok (.iload_n 3, 1) := by decide +kernel
theorem d_M_tickWindow_37 : decode b_M_tickWindow 37 = .ok (.iload_n 2, 1) := by decide +kernel
theorem d_M_tickWindow_38 : decode b_M_tickWindow 38 = .ok (.if_icmp .le 7, 3) := by decide +kernel
theorem d_M_tickWindow_41 : decode b_M_tickWindow 41 = .ok (.iload_n 2, 1) := by decide +kernel
theorem d_M_tickWindow_42 : decode b_M_tickWindow 42 = .ok (.goto 15, 3) := by decide +kernel
theorem d_M_tickWindow_45 : decode b_M_tickWindow 45 = .ok (.iload_n 3, 1) := by decide +kernel
theorem d_M_tickWindow_46 : decode b_M_tickWindow 46 = .ok (.iload_n 2, 1) := by decide +kernel
theorem d_M_tickWindow_47 : decode b_M_tickWindow 47 = .ok (.ineg, 1) := by decide +kernel
theorem d_M_tickWindow_48 : decode b_M_tickWindow 48 = .ok (.if_icmp .ge 8, 3) := by decide +kernel
theorem d_M_tickWindow_51 : decode b_M_tickWindow 51 = .ok (.iload_n 2, 1) := by decide +kernel
theorem d_M_tickWindow_52 : decode b_M_tickWindow 52 = .ok (.ineg, 1) := by decide +kernel
theorem d_M_tickWindow_53 : decode b_M_tickWindow 53 = .ok (.goto 4, 3) := by decide +kernel
theorem d_M_tickWindow_56 : decode b_M_tickWindow 56 = .ok (.iload_n 3, 1) := by decide +kernel
theorem d_M_tickWindow_57 : decode b_M_tickWindow 57 = .ok (.iadd, 1) := by decide +kernel
theorem d_M_tickWindow_58 : decode b_M_tickWindow 58 = .ok (.iastore, 1) := by decide +kernel
theorem d_M_tickWindow_59 : decode b_M_tickWindow 59 = .ok (.return_, 1) := by decide +kernel
theorem d_M_tick_0 : decode b_M_tick 0 = .ok (.aload_n 0, 1) := by decide +kernel
theorem d_M_tick_1 : decode b_M_tick 1 = .ok (.dup, 1) := by decide +kernel
theorem d_M_tick_2 : decode b_M_tick 2 = .ok (.getfield 113, 3) := by decide +kernel
theorem d_M_tick_5 : decode b_M_tick 5 = .ok (.iconst 1, 1) := by decide +kernel
theorem d_M_tick_6 : decode b_M_tick 6 = .ok (.iadd, 1) := by decide +kernel
theorem d_M_tick_7 : decode b_M_tick 7 = .ok (.putfield 113, 3) := by decide +kernel
theorem d_M_tick_10 : decode b_M_tick 10 = .ok (.aload_n 0, 1) := by decide +kernel
theorem d_M_tick_11 : decode b_M_tick 11 = .ok (.iconst 0, 1) := by decide +kernel
theorem d_M_tick_12 : decode b_M_tick 12 = .ok (.invokevirtual 116, 3) := by decide +kernel
theorem d_M_tick_15 : decode b_M_tick 15 = .ok (.aload_n 0, 1) := by decide +kernel
theorem d_M_tick_16 : decode b_M_tick 16 = .ok (.iconst 1, 1) := by decide +kernel
theorem d_M_tick_17 : decode b_M_tick 17 = .ok (.invokevirtual 116, 3) := by decide +kernel
theorem d_M_tick_20 : decode b_M_tick 20 = .ok (.aload_n 0, 1) := by decide +kernel
theorem d_M_tick_21 : decode b_M_tick 21 = .ok (.invokevirtual 120, 3) := by decide +kernel
theorem d_M_tick_24 : decode b_M_tick 24 = .ok (.aload_n 0, 1) := by decide +kernel
theorem d_M_tick_25 : decode b_M_tick 25 = .ok (.getfield 7, 3) := by decide +kernel
theorem d_M_tick_28 : decode b_M_tick 28 = .ok (.bipush 8, 2) := by decide +kernel
theorem d_M_tick_30 : decode b_M_tick 30 = .ok (.iaload, 1) := by decide +kernel
theorem d_M_tick_31 : decode b_M_tick 31 = .ok (.iconst 1, 1) := by decide +kernel
theorem d_M_tick_32 : decode b_M_tick 32 = .ok (.if_icmp .eq 10, 3) := by decide +kernel
theorem d_M_tick_35 : decode b_M_tick 35 = .ok (.aload_n 0, 1) := by decide +kernel
theorem d_M_tick_36 : decode b_M_tick 36 = .ok (.getfield 62, 3) := by decide +kernel
theorem d_M_tick_39 : decode b_M_tick 39 = .ok (.ifCond .eq 7, 3) := by decide +kernel
theorem d_M_tick_42 : decode b_M_tick 42 = .ok (.iconst 1, 1) := by decide +kernel
theorem d_M_tick_43 : decode b_M_tick 43 = .ok (.goto 4, 3) := by decide +kernel
theorem d_M_tick_46 : decode b_M_tick 46 = .ok (.iconst 0, 1) := by decide +kernel
theorem d_M_tick_47 : decode b_M_tick 47 = .ok (.istore_n 1, 1) := by decide +kernel
theorem d_M_tick_48 : decode b_M_tick 48 = .ok (.aload_n 0, 1) := by decide +kernel
theorem d_M_tick_49 : decode b_M_tick 49 = .ok (.dup, 1) := by decide +kernel
theorem d_M_tick_50 : decode b_M_tick 50 = .ok (.getfield 71, 3) := by decide +kernel
theorem d_M_tick_53 : decode b_M_tick 53 = .ok (.iload_n 1, 1) := by decide +kernel
theorem d_M_tick_54 : decode b_M_tick 54 = .ok (.ifCond .eq 20, 3) := by decide +kernel
theorem d_M_tick_57 : decode b_M_tick 57 = .ok (.aload_n 0, 1) := by decide +kernel
theorem d_M_tick_58 : decode b_M_tick 58 = .ok (.getfield 71, 3) := by decide +kernel
theorem d_M_tick_61 : decode b_M_tick 61 = .ok (.bipush 100, 2) := by decide +kernel
theorem d_M_tick_63 : decode b_M_tick 63 = .ok (.if_icmp .ge 7, 3) := by decide +kernel
theorem d_M_tick_66 : decode b_M_tick 66 = .ok (.iconst 1, 1) := by decide +kernel
theorem d_M_tick_67 : decode b_M_tick 67 = .ok (.goto 19, 3) := by decide +kernel
theorem d_M_tick_70 : decode b_M_tick 70 = .ok (.iconst 0, 1) := by decide +kernel
theorem d_M_tick_71 : decode b_M_tick 71 = .ok (.goto 15, 3) := by decide +kernel
theorem d_M_tick_74 : decode b_M_tick 74 = .ok (.aload_n 0, 1) := by decide +kernel
theorem d_M_tick_75 : decode b_M_tick 75 = .ok (.getfield 71, 3) := by decide +kernel
theorem d_M_tick_78 : decode b_M_tick 78 = .ok (.ifCond .le 7, 3) := by decide +kernel
theorem d_M_tick_81 : decode b_M_tick 81 = .ok (.iconst (-1), 1) := by decide +kernel
theorem d_M_tick_82 : decode b_M_tick 82 = .ok (.goto 4, 3) := by decide +kernel
theorem d_M_tick_85 : decode b_M_tick 85 = .ok (.iconst 0, 1) := by decide +kernel
theorem d_M_tick_86 : decode b_M_tick 86 = .ok (.iadd, 1) := by decide +kernel
theorem d_M_tick_87 : decode b_M_tick 87 = .ok (.putfield 71, 3) := by decide +kernel
theorem d_M_tick_90 : decode b_M_tick 90 = .ok (.iconst 0, 1) := by decide +kernel
theorem d_M_tick_91 : decode b_M_tick 91 = .ok (.istore_n 2, 1) := by decide +kernel
theorem d_M_tick_92 : decode b_M_tick 92 = .ok (.iload_n 2, 1) := by decide +kernel
theorem d_M_tick_93 : decode b_M_tick 93 = .ok (.iconst 4, 1) := by decide +kernel
theorem d_M_tick_94 : decode b_M_tick 94 = .ok (.if_icmp .ge 14, 3) := by decide +kernel
theorem d_M_tick_97 : decode b_M_tick 97 = .ok (.aload_n 0, 1) := by decide +kernel
theorem d_M_tick_98 : decode b_M_tick 98 = .ok (.iload_n 2, 1) := by decide +kernel
theorem d_M_tick_99 : decode b_M_tick 99 = .ok (.invokevirtual 123, 3) := by decide +kernel
theorem d_M_tick_102 : decode b_M_tick 102 = .ok (.iinc 2 1, 3) := by decide +kernel
theorem d_M_tick_105 : decode b_M_tick 105 = .ok (.goto (-13), 3) := by decide +kernel
theorem d_M_tick_108 : decode b_M_tick 108 = .ok (.return_, 1) := by decide +kernel
theorem d_M_step_0 : decode b_M_step 0 = .ok (.aload_n 0, 1) := by decide +kernel
theorem d_M_step_1 : decode b_M_step 1 = .ok (.iconst 0, 1) := by decide +kernel
theorem d_M_step_2 : decode b_M_step 2 = .ok (.putfield 50, 3) := by decide +kernel
theorem d_M_step_5 : decode b_M_step 5 = .ok (.iload_n 1, 1) := by decide +kernel
theorem d_M_step_6 : decode b_M_step 6 = .ok (.iconst 0, 1) := by decide +kernel
theorem d_M_step_7 : decode b_M_step 7 = .ok (.sipush 1000, 3) := by decide +kernel
theorem d_M_step_10 : decode b_M_step 10 = .ok (.invokestatic 80, 3) := by decide +kernel
theorem d_M_step_13 : decode b_M_step 13 = .ok (.ifCond .ne 6, 3) := by decide +kernel
theorem d_M_step_16 : decode b_M_step 16 = .ok (.bipush (-2), 2) := by decide +kernel
theorem d_M_step_18 : decode b_M_step 18 = .ok (.ireturn, 1) := by decide +kernel
theorem d_M_step_19 : decode b_M_step 19 = .ok (.aload_n 0, 1) := by decide +kernel
theorem d_M_step_20 : decode b_M_step 20 = .ok (.invokevirtual 91, 3) := by decide +kernel
theorem d_M_step_23 : decode b_M_step 23 = .ok (.iconst 0, 1) := by decide +kernel
theorem d_M_step_24 : decode b_M_step 24 = .ok (.istore_n 2, 1) := by decide +kernel
theorem d_M_step_25 : decode b_M_step 25 = .ok (.iload_n 2, 1) := by decide +kernel
theorem d_M_step_26 : decode b_M_step 26 = .ok (.iload_n 1, 1) := by decide +kernel
theorem d_M_step_27 : decode b_M_step 27 = .ok (.if_icmp .ge 13, 3) := by decide +kernel
theorem d_M_step_30 : decode b_M_step 30 = .ok (.aload_n 0, 1) := by decide +kernel
theorem d_M_step_31 : decode b_M_step 31 = .ok (.invokevirtual 126, 3) := by decide +kernel
theorem d_M_step_34 : decode b_M_step 34 = .ok (.iinc 2 1, 3) := by decide +kernel
theorem d_M_step_37 : decode b_M_step 37 = .ok (.goto (-12), 3) := by decide +kernel
theorem d_M_step_40 : decode b_M_step 40 = .ok (.aload_n 0, 1) := by decide +kernel
theorem d_M_step_41 : decode b_M_step 41 = .ok (.invokevirtual 97, 3) := by decide +kernel
theorem d_M_step_44 : decode b_M_step 44 = .ok (.ireturn, 1) := by decide +kernel
theorem d_M_isWindow_0 : decode b_M_isWindow 0 = .ok (.iload_n 0, 1) := by decide +kernel
theorem d_M_isWindow_1 : decode b_M_isWindow 1 = .ok (.iconst 0, 1) := by decide +kernel
theorem d_M_isWindow_2 : decode b_M_isWindow 2 = .ok (.iconst 3, 1) := by decide +kernel
theorem d_M_isWindow_3 : decode b_M_isWindow 3 = .ok (.invokestatic 80, 3) := by decide +kernel
theorem d_M_isWindow_6 : decode b_M_isWindow 6 = .ok (.ireturn, 1) := by decide +kernel
theorem d_M_pinch_0 : decode b_M_pinch 0 = .ok (.aload_n 0, 1) := by decide +kernel
theorem d_M_pinch_1 : decode b_M_pinch 1 = .ok (.iconst 0, 1) := by decide +kernel
theorem d_M_pinch_2 : decode b_M_pinch 2 = .ok (.putfield 50, 3) := by decide +kernel
theorem d_M_pinch_5 : decode b_M_pinch 5 = .ok (.iload_n 1, 1) := by decide +kernel
theorem d_M_pinch_6 : decode b_M_pinch 6 = .ok (.invokestatic 129, 3) := by decide +kernel
theorem d_M_pinch_9 : decode b_M_pinch 9 = .ok (.ifCond .ne 5, 3) := by decide +kernel
theorem d_M_pinch_12 : decode b_M_pinch 12 = .ok (.iconst (-1), 1) := by decide +kernel
theorem d_M_pinch_13 : decode b_M_pinch 13 = .ok (.ireturn, 1) := by decide +kernel
theorem d_M_pinch_14 : decode b_M_pinch 14 = .ok (.iload_n 2, 1) := by decide +kernel
theorem d_M_pinch_15 : decode b_M_pinch 15 = .ok (.iconst 0, 1) := by decide +kernel
theorem d_M_pinch_16 : decode b_M_pinch 16 = .ok (.sipush 1000, 3) := by decide +kernel
theorem d_M_pinch_19 : decode b_M_pinch 19 = .ok (.invokestatic 80, 3) := by decide +kernel
theorem d_M_pinch_22 : decode b_M_pinch 22 = .ok (.ifCond .ne 6, 3) := by decide +kernel
theorem d_M_pinch_25 : decode b_M_pinch 25 = .ok (.bipush (-2), 2) := by decide +kernel
theorem d_M_pinch_27 : decode b_M_pinch 27 = .ok (.ireturn, 1) := by decide +kernel
theorem d_M_pinch_28 : decode b_M_pinch 28 = .ok (.aload_n 0, 1) := by decide +kernel
theorem d_M_pinch_29 : decode b_M_pinch 29 = .ok (.getfield 29, 3) := by decide +kernel
theorem d_M_pinch_32 : decode b_M_pinch 32 = .ok (.iload_n 1, 1) := by decide +kernel
theorem d_M_pinch_33 : decode b_M_pinch 33 = .ok (.iaload, 1) := by decide +kernel
theorem d_M_pinch_34 : decode b_M_pinch 34 = .ok (.aload_n 0, 1) := by decide +kernel
theorem d_M_pinch_35 : decode b_M_pinch 35 = .ok (.getfield 26, 3) := by decide +kernel
theorem d_M_pinch_38 : decode b_M_pinch 38 = .ok (.iload_n 1, 1) := by decide +kernel
theorem d_M_pinch_39 : decode b_M_pinch 39 = .ok (.iaload, 1) := by decide +kernel
theorem d_M_pinch_40 : decode b_M_pinch 40 = .ok (.if_icmp .le 9, 3) := by decide +kernel
theorem d_M_pinch_43 : decode b_M_pinch 43 = .ok (.iload_n 2, 1) := by decide +kernel
theorem d_M_pinch_44 : decode b_M_pinch 44 = .ok (.bipush 100, 2) := by decide +kernel
theorem d_M_pinch_46 : decode b_M_pinch 46 = .ok (.if_icmp .gt 5, 3) := by decide +kernel
theorem d_M_pinch_49 : decode b_M_pinch 49 = .ok (.iconst 0, 1) := by decide +kernel
theorem d_M_pinch_50 : decode b_M_pinch 50 = .ok (.ireturn, 1) := by decide +kernel
theorem d_M_pinch_51 : decode b_M_pinch 51 = .ok (.aload_n 0, 1) := by decide +kernel
theorem d_M_pinch_52 : decode b_M_pinch 52 = .ok (.getfield 29, 3) := by decide +kernel
theorem d_M_pinch_55 : decode b_M_pinch 55 = .ok (.iload_n 1, 1) := by decide +kernel
theorem d_M_pinch_56 : decode b_M_pinch 56 = .ok (.aload_n 0, 1) := by decide +kernel
theorem d_M_pinch_57 : decode b_M_pinch 57 = .ok (.getfield 26, 3) := by decide +kernel
theorem d_M_pinch_60 : decode b_M_pinch 60 = .ok (.iload_n 1, 1) := by decide +kernel
theorem d_M_pinch_61 : decode b_M_pinch 61 = .ok (.iaload, 1) := by decide +kernel
theorem d_M_pinch_62 : decode b_M_pinch 62 = .ok (.bipush 60, 2) := by decide +kernel
theorem d_M_pinch_64 : decode b_M_pinch 64 = .ok (.if_icmp .le 15, 3) := by decide +kernel
theorem d_M_pinch_67 : decode b_M_pinch 67 = .ok (.aload_n 0, 1) := by decide +kernel
theorem d_M_pinch_68 : decode b_M_pinch 68 = .ok (.getfield 26, 3) := by decide +kernel
theorem d_M_pinch_71 : decode b_M_pinch 71 = .ok (.iload_n 1, 1) := by decide +kernel
theorem d_M_pinch_72 : decode b_M_pinch 72 = .ok (.iaload, 1) := by decide +kernel
theorem d_M_pinch_73 : decode b_M_pinch 73 = .ok (.bipush 60, 2) := by decide +kernel
theorem d_M_pinch_75 : decode b_M_pinch 75 = .ok (.isub, 1) := by decide +kernel
theorem d_M_pinch_76 : decode b_M_pinch 76 = .ok (.goto 4, 3) := by decide +kernel
theorem d_M_pinch_79 : decode b_M_pinch 79 = .ok (.iconst 0, 1) := by decide +kernel
theorem d_M_pinch_80 : decode b_M_pinch 80 = .ok (.iastore, 1) := by decide +kernel
theorem d_M_pinch_81 : decode b_M_pinch 81 = .ok (.iconst 1, 1) := by decide +kernel
theorem d_M_pinch_82 : decode b_M_pinch 82 = .ok (.ireturn, 1) := by decide +kernel
theorem d_M_learn_0 : decode b_M_learn 0 = .ok (.aload_n 0, 1) := by decide +kernel
theorem d_M_learn_1 : decode b_M_learn 1 = .ok (.iconst 0, 1) := by decide +kernel
theorem d_M_learn_2 : decode b_M_learn 2 = .ok (.putfield 50, 3) := by decide +kernel
theorem d_M_learn_5 : decode b_M_learn 5 = .ok (.iload_n 1, 1) := by decide +kernel
theorem d_M_learn_6 : decode b_M_learn 6 = .ok (.invokestatic 129, 3) := by decide +kernel
theorem d_M_learn_9 : decode b_M_learn 9 = .ok (.ifCond .ne 5, 3) := by decide +kernel
theorem d_M_learn_12 : decode b_M_learn 12 = .ok (.iconst (-1), 1) := by decide +kernel
theorem d_M_learn_13 : decode b_M_learn 13 = .ok (.ireturn, 1) := by decide +kernel
theorem d_M_learn_14 : decode b_M_learn 14 = .ok (.aload_n 0, 1) := by decide +kernel
theorem d_M_learn_15 : decode b_M_learn 15 = .ok (.getfield 26, 3) := by decide +kernel
theorem d_M_learn_18 : decode b_M_learn 18 = .ok (.iload_n 1, 1) := by decide +kernel
theorem d_M_learn_19 : decode b_M_learn 19 = .ok (.iaload, 1) := by decide +kernel
theorem d_M_learn_20 : decode b_M_learn 20 = .ok (.aload_n 0, 1) := by decide +kernel
theorem d_M_learn_21 : decode b_M_learn 21 = .ok (.getfield 29, 3) := by decide +kernel
theorem d_M_learn_24 : decode b_M_learn 24 = .ok (.iload_n 1, 1) := by decide +kernel
theorem d_M_learn_25 : decode b_M_learn 25 = .ok (.iaload, 1) := by decide +kernel
theorem d_M_learn_26 : decode b_M_learn 26 = .ok (.if_icmp .ne 28, 3) := by decide +kernel
theorem d_M_learn_29 : decode b_M_learn 29 = .ok (.aload_n 0, 1) := by decide +kernel
theorem d_M_learn_30 : decode b_M_learn 30 = .ok (.getfield 26, 3) := by decide +kernel
theorem d_M_learn_33 : decode b_M_learn 33 = .ok (.iload_n 1, 1) := by decide +kernel
theorem d_M_learn_34 : decode b_M_learn 34 = .ok (.iaload, 1) := by decide +kernel
theorem d_M_learn_35 : decode b_M_learn 35 = .ok (.ifCond .eq 15, 3) := by decide +kernel
theorem d_M_learn_38 : decode b_M_learn 38 = .ok (.aload_n 0, 1) := by decide +kernel
theorem d_M_learn_39 : decode b_M_learn 39 = .ok (.getfield 26, 3) := by decide +kernel
theorem d_M_learn_42 : decode b_M_learn 42 = .ok (.iload_n 1, 1) := by decide +kernel
theorem d_M_learn_43 : decode b_M_learn 43 = .ok (.iaload, 1) := by decide +kernel
theorem d_M_learn_44 : decode b_M_learn 44 = .ok (.sipush 200, 3) := by decide +kernel
theorem d_M_learn_47 : decode b_M_learn 47 = .ok (.if_icmp .ne 7, 3) := by decide +kernel
theorem d_M_learn_50 : decode b_M_learn 50 = .ok (.iconst 1, 1) := by decide +kernel
theorem d_M_learn_51 : decode b_M_learn 51 = .ok (.goto 4, 3) := by decide +kernel
theorem d_M_learn_54 : decode b_M_learn 54 = .ok (.iconst 0, 1) := by decide +kernel
theorem d_M_learn_55 : decode b_M_learn 55 = .ok (.istore_n 2, 1) := by decide +kernel
theorem d_M_learn_56 : decode b_M_learn 56 = .ok (.aload_n 0, 1) := by decide +kernel
theorem d_M_learn_57 : decode b_M_learn 57 = .ok (.getfield 32, 3) := by decide +kernel
theorem d_M_learn_60 : decode b_M_learn 60 = .ok (.iload_n 1, 1) := by decide +kernel
theorem d_M_learn_61 : decode b_M_learn 61 = .ok (.aload_n 0, 1) := by decide +kernel
theorem d_M_learn_62 : decode b_M_learn 62 = .ok (.getfield 32, 3) := by decide +kernel
theorem d_M_learn_65 : decode b_M_learn 65 = .ok (.iload_n 1, 1) := by decide +kernel
theorem d_M_learn_66 : decode b_M_learn 66 = .ok (.baload, 1) := by decide +kernel
theorem d_M_learn_67 : decode b_M_learn 67 = .ok (.ifCond .ne 7, 3) := by decide +kernel
theorem d_M_learn_70 : decode b_M_learn 70 = .ok (.iload_n 2, 1) := by decide +kernel
theorem d_M_learn_71 : decode b_M_learn 71 = .ok (.ifCond .eq 7, 3) := by decide +kernel
theorem d_M_learn_74 : decode b_M_learn 74 = .ok (.iconst 1, 1) := by decide +kernel
theorem d_M_learn_75 : decode b_M_learn 75 = .ok (.goto 4, 3) := by decide +kernel
theorem d_M_learn_78 : decode b_M_learn 78 = .ok (.iconst 0, 1) := by decide +kernel
theorem d_M_learn_79 : decode b_M_learn 79 = .ok (.bastore, 1) := by decide +kernel
theorem d_M_learn_80 : decode b_M_learn 80 = .ok (.iload_n 2, 1) := by decide +kernel
theorem d_M_learn_81 : decode b_M_learn 81 = .ok (.ifCond .eq 7, 3) := by decide +kernel
theorem d_M_learn_84 : decode b_M_learn 84 = .ok (.iconst 1, 1) := by decide +kernel
theorem d_M_learn_85 : decode b_M_learn 85 = .ok (.goto 4, 3) := by decide +kernel
theorem d_M_learn_88 : decode b_M_learn 88 = .ok (.iconst 0, 1) := by decide +kernel
theorem d_M_learn_89 : decode b_M_learn 89 = .ok (.ireturn, 1) := by decide +kernel
theorem d_M_window_0 : decode b_M_window 0 = .ok (.aload_n 0, 1) := by decide +kernel
theorem d_M_window_1 : decode b_M_window 1 = .ok (.iconst 0, 1) := by decide +kernel
theorem d_M_window_2 : decode b_M_window 2 = .ok (.putfield 50, 3) := by decide +kernel
theorem d_M_window_5 : decode b_M_window 5 = .ok (.iload_n 1, 1) := by decide +kernel
theorem d_M_window_6 : decode b_M_window 6 = .ok (.invokestatic 129, 3) := by decide +kernel
theorem d_M_window_9 : decode b_M_window 9 = .ok (.ifCond .ne 5, 3) := by decide +kernel
theorem d_M_window_12 : decode b_M_window 12 = .ok (.iconst (-1), 1) := by decide +kernel
theorem d_M_window_13 : decode b_M_window 13 = .ok (.ireturn, 1) := by decide +kernel
theorem d_M_window_14 : decode b_M_window 14 = .ok (.iload_n 2, 1) := by decide +kernel
theorem d_M_window_15 : decode b_M_window 15 = .ok (.iconst 0, 1) := by decide +kernel
theorem d_M_window_16 : decode b_M_window 16 = .ok (.sipush 200, 3) := by decide +kernel
theorem d_M_window_19 : decode b_M_window 19 = .ok (.invokestatic 80, 3) := by decide +kernel
theorem d_M_window_22 : decode b_M_window 22 = .ok (.ifCond .ne 6, 3) := by decide +kernel
theorem d_M_window_25 : decode b_M_window 25 = .ok (.bipush (-2), 2) := by decide +kernel
theorem d_M_window_27 : decode b_M_window 27 = .ok (.ireturn, 1) := by decide +kernel
theorem d_M_window_28 : decode b_M_window 28 = .ok (.aload_n 0, 1) := by decide +kernel
theorem d_M_window_29 : decode b_M_window 29 = .ok (.getfield 29, 3) := by decide +kernel
theorem d_M_window_32 : decode b_M_window 32 = .ok (.iload_n 1, 1) := by decide +kernel
theorem d_M_window_33 : decode b_M_window 33 = .ok (.iload_n 2, 1) := by decide +kernel
theorem d_M_window_34 : decode b_M_window 34 = .ok (.iastore, 1) := by decide +kernel
theorem d_M_window_35 : decode b_M_window 35 = .ok (.iload_n 2, 1) := by decide +kernel
theorem d_M_window_36 : decode b_M_window 36 = .ok (.aload_n 0, 1) := by decide +kernel
theorem d_M_window_37 : decode b_M_window 37 = .ok (.getfield 26, 3) := by decide +kernel
theorem d_M_window_40 : decode b_M_window 40 = .ok (.iload_n 1, 1) := by decide +kernel
theorem d_M_window_41 : decode b_M_window 41 = .ok (.iaload, 1) := by decide +kernel
theorem d_M_window_42 : decode b_M_window 42 = .ok (.if_icmp .le 14, 3) := by decide +kernel
theorem d_M_window_45 : decode b_M_window 45 = .ok (.iload_n 2, 1) := by decide +kernel
theorem d_M_window_46 : decode b_M_window 46 = .ok (.aload_n 0, 1) := by decide +kernel
theorem d_M_window_47 : decode b_M_window 47 = .ok (.getfield 26, 3) := by decide +kernel
theorem d_M_window_50 : decode b_M_window 50 = .ok (.iload_n 1, 1) := by decide +kernel
theorem d_M_window_51 : decode b_M_window 51 = .ok (.iaload, 1) := by decide +kernel
theorem d_M_window_52 : decode b_M_window 52 = .ok (.isub, 1) := by decide +kernel
theorem d_M_window_53 : decode b_M_window 53 = .ok (.goto 11, 3) := by decide +kernel
theorem d_M_window_56 : decode b_M_window 56 = .ok (.aload_n 0, 1) := by decide +kernel
theorem d_M_window_57 : decode b_M_window 57 = .ok (.getfield 26, 3) := by decide +kernel
theorem d_M_window_60 : decode b_M_window 60 = .ok (.iload_n 1, 1) := by decide +kernel
theorem d_M_window_61 : decode b_M_window 61 = .ok (.iaload, 1) := by decide +kernel
theorem d_M_window_62 : decode b_M_window 62 = .ok (.iload_n 2, 1) := by decide +kernel
theorem d_M_window_63 : decode b_M_window 63 = .ok (.isub, 1) := by decide +kernel
theorem d_M_window_64 : decode b_M_window 64 = .ok (.istore_n 3, 1) := by decide +kernel
theorem d_M_window_65 : decode b_M_window 65 = .ok (.aload_n 0, 1) := by decide +kernel
theorem d_M_window_66 : decode b_M_window 66 = .ok (.getfield 32, 3) := by decide +kernel
theorem d_M_window_69 : decode b_M_window 69 = .ok (.iload_n 1, 1) := by decide +kernel
theorem d_M_window_70 : decode b_M_window 70 = .ok (.baload, 1) := by decide +kernel
theorem d_M_window_71 : decode b_M_window 71 = .ok (.ifCond .eq 11, 3) := by decide +kernel
theorem d_M_window_74 : decode b_M_window 74 = .ok (.iload_n 3, 1) := by decide +kernel
theorem d_M_window_75 : decode b_M_window 75 = .ok (.iconst 1, 1) := by decide +kernel
theorem d_M_window_76 : decode b_M_window 76 = .ok (.iadd, 1) := by decide +kernel
theorem d_M_window_77 : decode b_M_window 77 = .ok (.iconst 2, 1) := by decide +kernel
theorem d_M_window_78 : decode b_M_window 78 = .ok (.idiv, 1) := by decide +kernel
theorem d_M_window_79 : decode b_M_window 79 = .ok (.goto 4, 3) := by decide +kernel
theorem d_M_window_82 : decode b_M_window 82 = .ok (.iload_n 3, 1) := by decide +kernel
theorem d_M_window_83 : decode b_M_window 83 = .ok (.ireturn, 1) := by decide +kernel
theorem d_M_load_0 : decode b_M_load 0 = .ok (.aload_n 0, 1) := by decide +kernel
theorem d_M_load_1 : decode b_M_load 1 = .ok (.iconst 0, 1) := by decide +kernel
theorem d_M_load_2 : decode b_M_load 2 = .ok (.putfield 50, 3) := by decide +kernel
theorem d_M_load_5 : decode b_M_load 5 = .ok (.iload_n 1, 1) := by decide +kernel
theorem d_M_load_6 : decode b_M_load 6 = .ok (.iconst 0, 1) := by decide +kernel
theorem d_M_load_7 : decode b_M_load 7 = .ok (.bipush 9, 2) := by decide +kernel
theorem d_M_load_9 : decode b_M_load 9 = .ok (.invokestatic 80, 3) := by decide +kernel
theorem d_M_load_12 : decode b_M_load 12 = .ok (.ifCond .ne 6, 3) := by decide +kernel
theorem d_M_load_15 : decode b_M_load 15 = .ok (.bipush (-2), 2) := by decide +kernel
theorem d_M_load_17 : decode b_M_load 17 = .ok (.ireturn, 1) := by decide +kernel
theorem d_M_load_18 : decode b_M_load 18 = .ok (.aload_n 0, 1) := by decide +kernel
theorem d_M_load_19 : decode b_M_load 19 = .ok (.getfield 132, 3) := by decide +kernel
theorem d_M_load_22 : decode b_M_load 22 = .ok (.bipush 12, 2) := by decide +kernel
theorem d_M_load_24 : decode b_M_load 24 = .ok (.if_icmp .ne 6, 3) := by decide +kernel
theorem d_M_load_27 : decode b_M_load 27 = .ok (.bipush (-4), 2) := by decide +kernel
theorem d_M_load_29 : decode b_M_load 29 = .ok (.ireturn, 1) := by decide +kernel
theorem d_M_load_30 : decode b_M_load 30 = .ok (.aload_n 0, 1) := by decide +kernel
theorem d_M_load_31 : decode b_M_load 31 = .ok (.dup, 1) := by decide +kernel
theorem d_M_load_32 : decode b_M_load 32 = .ok (.getfield 132, 3) := by decide +kernel
theorem d_M_load_35 : decode b_M_load 35 = .ok (.iconst 1, 1) := by decide +kernel
theorem d_M_load_36 : decode b_M_load 36 = .ok (.iadd, 1) := by decide +kernel
theorem d_M_load_37 : decode b_M_load 37 = .ok (.putfield 132, 3) := by decide +kernel
theorem d_M_load_40 : decode b_M_load 40 = .ok (.aload_n 0, 1) := by decide +kernel
theorem d_M_load_41 : decode b_M_load 41 = .ok (.getfield 35, 3) := by decide +kernel
theorem d_M_load_44 : decode b_M_load 44 = .ok (.aload_n 0, 1) := by decide +kernel
theorem d_M_load_45 : decode b_M_load 45 = .ok (.getfield 132, 3) := by decide +kernel
theorem d_M_load_48 : decode b_M_load 48 = .ok (.iload_n 1, 1) := by decide +kernel
theorem d_M_load_49 : decode b_M_load 49 = .ok (.iastore, 1) := by decide +kernel
theorem d_M_load_50 : decode b_M_load 50 = .ok (.aload_n 0, 1) := by decide +kernel
theorem d_M_load_51 : decode b_M_load 51 = .ok (.getfield 38, 3) := by decide +kernel
theorem d_M_load_54 : decode b_M_load 54 = .ok (.aload_n 0, 1) := by decide +kernel
theorem d_M_load_55 : decode b_M_load 55 = .ok (.getfield 132, 3) := by decide +kernel
theorem d_M_load_58 : decode b_M_load 58 = .ok (.iload_n 2, 1) := by decide +kernel
theorem d_M_load_59 : decode b_M_load 59 = .ok (.bastore, 1) := by decide +kernel
theorem d_M_load_60 : decode b_M_load 60 = .ok (.aload_n 0, 1) := by decide +kernel
theorem d_M_load_61 : decode b_M_load 61 = .ok (.getfield 132, 3) := by decide +kernel
theorem d_M_load_64 : decode b_M_load 64 = .ok (.ireturn, 1) := by decide +kernel
theorem d_M_isOn_0 : decode b_M_isOn 0 = .ok (.aload_n 0, 1) := by decide +kernel
theorem d_M_isOn_1 : decode b_M_isOn 1 = .ok (.iconst 0, 1) := by decide +kernel
theorem d_M_isOn_2 : decode b_M_isOn 2 = .ok (.putfield 50, 3) := by decide +kernel
theorem d_M_isOn_5 : decode b_M_isOn 5 = .ok (.iload_n 1, 1) := by decide +kernel
theorem d_M_isOn_6 : decode b_M_isOn 6 = .ok (.iconst 1, 1) := by decide +kernel
theorem d_M_isOn_7 : decode b_M_isOn 7 = .ok (.aload_n 0, 1) := by decide +kernel
theorem d_M_isOn_8 : decode b_M_isOn 8 = .ok (.getfield 132, 3) := by decide +kernel
theorem d_M_isOn_11 : decode b_M_isOn 11 = .ok (.invokestatic 80, 3) := by decide +kernel
theorem d_M_isOn_14 : decode b_M_isOn 14 = .ok (.ifCond .ne 5, 3) := by decide +kernel
theorem d_M_isOn_17 : decode b_M_isOn 17 = .ok (.iconst (-1), 1) := by decide +kernel
theorem d_M_isOn_18 : decode b_M_isOn 18 = .ok (.ireturn, 1) := by decide +kernel
theorem d_M_isOn_19 : decode b_M_isOn 19 = .ok (.aload_n 0, 1) := by decide +kernel
theorem d_M_isOn_20 : decode b_M_isOn 20 = .ok (.getfield 41, 3) := by decide +kernel
theorem d_M_isOn_23 : decode b_M_isOn 23 = .ok (.iload_n 1, 1) := by decide +kernel
theorem d_M_isOn_24 : decode b_M_isOn 24 = .ok (.baload, 1) := by decide +kernel
theorem d_M_isOn_25 : decode b_M_isOn 25 = .ok (.ifCond .eq 7, 3) := by decide +kernel
theorem d_M_isOn_28 : decode b_M_isOn 28 = .ok (.iconst 0, 1) := by decide +kernel
theorem d_M_isOn_29 : decode b_M_isOn 29 = .ok (.goto 4, 3) := by decide +kernel
theorem d_M_isOn_32 : decode b_M_isOn 32 = .ok (.iconst 1, 1) := by decide +kernel
theorem d_M_isOn_33 : decode b_M_isOn 33 = .ok (.ireturn, 1) := by decide +kernel
theorem d_M_putOff_0 : decode b_M_putOff 0 = .ok (.iconst 0, 1) := by decide +kernel
theorem d_M_putOff_1 : decode b_M_putOff 1 = .ok (.istore_n 1, 1) := by decide +kernel
theorem d_M_putOff_2 : decode b_M_putOff 2 = .ok (.iconst 1, 1) := by decide +kernel
theorem d_M_putOff_3 : decode b_M_putOff 3 = .ok (.istore_n 2, 1) := by decide +kernel
theorem d_M_putOff_4 : decode b_M_putOff 4 = .ok (.iload_n 2, 1) := by decide +kernel
theorem d_M_putOff_5 : decode b_M_putOff 5 = .ok (.aload_n 0, 1) := by decide +kernel
theorem d_M_putOff_6 : decode b_M_putOff 6 = .ok (.getfield 132, 3) := by decide +kernel
theorem d_M_putOff_9 : decode b_M_putOff 9 = .ok (.if_icmp .gt 48, 3) := by decide +kernel
theorem d_M_putOff_12 : decode b_M_putOff 12 = .ok (.aload_n 0, 1) := by decide +kernel
theorem d_M_putOff_13 : decode b_M_putOff 13 = .ok (.getfield 41, 3) := by decide +kernel
theorem d_M_putOff_16 : decode b_M_putOff 16 = .ok (.iload_n 2, 1) := by decide +kernel
theorem d_M_putOff_17 : decode b_M_putOff 17 = .ok (.baload, 1) := by decide +kernel
theorem d_M_putOff_18 : decode b_M_putOff 18 = .ok (.ifCond .ne 33, 3) := by decide +kernel
theorem d_M_putOff_21 : decode b_M_putOff 21 = .ok (.aload_n 0, 1) := by decide +kernel
theorem d_M_putOff_22 : decode b_M_putOff 22 = .ok (.getfield 38, 3) := by decide +kernel
theorem d_M_putOff_25 : decode b_M_putOff 25 = .ok (.iload_n 2, 1) := by decide +kernel
theorem d_M_putOff_26 : decode b_M_putOff 26 = .ok (.baload, 1) := by decide +kernel
theorem d_M_putOff_27 : decode b_M_putOff 27 = .ok (.ifCond .ne 24, 3) := by decide +kernel
theorem d_M_putOff_30 : decode b_M_putOff 30 = .ok (.iload_n 1, 1) := by decide +kernel
theorem d_M_putOff_31 : decode b_M_putOff 31 = .ok (.ifCond .eq 18, 3) := by decide +kernel
theorem d_M_putOff_34 : decode b_M_putOff 34 = .ok (.aload_n 0, 1) := by decide +kernel
theorem d_M_putOff_35 : decode b_M_putOff 35 = .ok (.getfield 35, 3) := by decide +kernel
theorem d_M_putOff_38 : decode b_M_putOff 38 = .ok (.iload_n 2, 1) := by decide +kernel
theorem d_M_putOff_39 : decode b_M_putOff 39 = .ok (.iaload, 1) := by decide +kernel
theorem d_M_putOff_40 : decode b_M_putOff 40 = .ok (.aload_n 0, 1) := by decide +kernel
theorem d_M_putOff_41 : decode b_M_putOff 41 = .ok (.getfield 35, 3) := by decide +kernel
theorem d_M_putOff_44 : decode b_M_putOff 44 = .ok (.iload_n 1, 1) := by decide +kernel
theorem d_M_putOff_45 : decode b_M_putOff 45 = .ok (.iaload, 1) := by decide +kernel
theorem d_M_putOff_46 : decode b_M_putOff 46 = .ok (.if_icmp .lt 5, 3) := by decide +kernel
theorem d_M_putOff_49 : decode b_M_putOff 49 = .ok (.iload_n 2, 1) := by decide +kernel
theorem d_M_putOff_50 : decode b_M_putOff 50 = .ok (.istore_n 1, 1) := by decide +kernel
theorem d_M_putOff_51 : decode b_M_putOff 51 = .ok (.iinc 2 1, 3) := by decide +kernel
theorem d_M_putOff_54 : decode b_M_putOff 54 = .ok (.goto (-50), 3) := by decide +kernel
theorem d_M_putOff_57 : decode b_M_putOff 57 = .ok (.aload_n 0, 1) := by decide +kernel
theorem d_M_putOff_58 : decode b_M_putOff 58 = .ok (.getfield 41, 3) := by decide +kernel
theorem d_M_putOff_61 : decode b_M_putOff 61 = .ok (.iload_n 1, 1) := by decide +kernel
theorem d_M_putOff_62 : decode b_M_putOff 62 = .ok (.iload_n 1, 1) := by decide +kernel
theorem d_M_putOff_63 : decode b_M_putOff 63 = .ok (.ifCond .le 7, 3) := by decide +kernel
theorem d_M_putOff_66 : decode b_M_putOff 66 = .ok (.iconst 1, 1) := by decide +kernel
theorem d_M_putOff_67 : decode b_M_putOff 67 = .ok (.goto 4, 3) := by decide +kernel
theorem d_M_putOff_70 : decode b_M_putOff 70 = .ok (.iconst 0, 1) := by decide +kernel
theorem d_M_putOff_71 : decode b_M_putOff 71 = .ok (.bastore, 1) := by decide +kernel
theorem d_M_putOff_72 : decode b_M_putOff 72 = .ok (.return_, 1) := by decide +kernel
theorem d_M_putOn_0 : decode b_M_putOn 0 = .ok (.iconst 0, 1) := by decide +kernel
theorem d_M_putOn_1 : decode b_M_putOn 1 = .ok (.istore_n 1, 1) := by decide +kernel
theorem d_M_putOn_2 : decode b_M_putOn 2 = .ok (.iconst 1, 1) := by decide +kernel
theorem d_M_putOn_3 : decode b_M_putOn 3 = .ok (.istore_n 2, 1) := by decide +kernel
theorem d_M_putOn_4 : decode b_M_putOn 4 = .ok (.iload_n 2, 1) := by decide +kernel
theorem d_M_putOn_5 : decode b_M_putOn 5 = .ok (.aload_n 0, 1) := by decide +kernel
theorem d_M_putOn_6 : decode b_M_putOn 6 = .ok (.getfield 132, 3) := by decide +kernel
theorem d_M_putOn_9 : decode b_M_putOn 9 = .ok (.if_icmp .gt 39, 3) := by decide +kernel
theorem d_M_putOn_12 : decode b_M_putOn 12 = .ok (.aload_n 0, 1) := by decide +kernel
theorem d_M_putOn_13 : decode b_M_putOn 13 = .ok (.getfield 41, 3) := by decide +kernel
theorem d_M_putOn_16 : decode b_M_putOn 16 = .ok (.iload_n 2, 1) := by decide +kernel
theorem d_M_putOn_17 : decode b_M_putOn 17 = .ok (.baload, 1) := by decide +kernel
theorem d_M_putOn_18 : decode b_M_putOn 18 = .ok (.ifCond .eq 24, 3) := by decide +kernel
theorem d_M_putOn_21 : decode b_M_putOn 21 = .ok (.iload_n 1, 1) := by decide +kernel
theorem d_M_putOn_22 : decode b_M_putOn 22 = .ok (.ifCond .eq 18, 3) := by decide +kernel
theorem d_M_putOn_25 : decode b_M_putOn 25 = .ok (.aload_n 0, 1) := by decide +kernel
theorem d_M_putOn_26 : decode b_M_putOn 26 = .ok (.getfield 35, 3) := by decide +kernel
theorem d_M_putOn_29 : decode b_M_putOn 29 = .ok (.iload_n 2, 1) := by decide +kernel
theorem d_M_putOn_30 : decode b_M_putOn 30 = .ok (.iaload, 1) := by decide +kernel
theorem d_M_putOn_31 : decode b_M_putOn 31 = .ok (.aload_n 0, 1) := by decide +kernel
theorem d_M_putOn_32 : decode b_M_putOn 32 = .ok (.getfield 35, 3) := by decide +kernel
theorem d_M_putOn_35 : decode b_M_putOn 35 = .ok (.iload_n 1, 1) := by decide +kernel
theorem d_M_putOn_36 : decode b_M_putOn 36 = .ok (.iaload, 1) := by decide +kernel
theorem d_M_putOn_37 : decode b_M_putOn 37 = .ok (.if_icmp .ge 5, 3) := by decide +kernel
theorem d_M_putOn_40 : decode b_M_putOn 40 = .ok (.iload_n 2, 1) := by decide +kernel
theorem d_M_putOn_41 : decode b_M_putOn 41 = .ok (.istore_n 1, 1) := by decide +kernel
theorem d_M_putOn_42 : decode b_M_putOn 42 = .ok (.iinc 2 1, 3) := by decide +kernel
theorem d_M_putOn_45 : decode b_M_putOn 45 = .ok (.goto (-41), 3) := by decide +kernel
theorem d_M_putOn_48 : decode b_M_putOn 48 = .ok (.aload_n 0, 1) := by decide +kernel
theorem d_M_putOn_49 : decode b_M_putOn 49 = .ok (.getfield 41, 3) := by decide +kernel
theorem d_M_putOn_52 : decode b_M_putOn 52 = .ok (.iload_n 1, 1) := by decide +kernel
theorem d_M_putOn_53 : decode b_M_putOn 53 = .ok (.iconst 0, 1) := by decide +kernel
theorem d_M_putOn_54 : decode b_M_putOn 54 = .ok (.bastore, 1) := by decide +kernel
theorem d_M_putOn_55 : decode b_M_putOn 55 = .ok (.return_, 1) := by decide +kernel
theorem d_M_shed_0 : decode b_M_shed 0 = .ok (.aload_n 0, 1) := by decide +kernel
theorem d_M_shed_1 : decode b_M_shed 1 = .ok (.iconst 0, 1) := by decide +kernel
theorem d_M_shed_2 : decode b_M_shed 2 = .ok (.putfield 50, 3) := by decide +kernel
theorem d_M_shed_5 : decode b_M_shed 5 = .ok (.iload_n 1, 1) := by decide +kernel
theorem d_M_shed_6 : decode b_M_shed 6 = .ok (.iconst 0, 1) := by decide +kernel
theorem d_M_shed_7 : decode b_M_shed 7 = .ok (.sipush 20000, 3) := by decide +kernel
theorem d_M_shed_10 : decode b_M_shed 10 = .ok (.invokestatic 80, 3) := by decide +kernel
theorem d_M_shed_13 : decode b_M_shed 13 = .ok (.ifCond .ne 6, 3) := by decide +kernel
theorem d_M_shed_16 : decode b_M_shed 16 = .ok (.bipush (-2), 2) := by decide +kernel
theorem d_M_shed_18 : decode b_M_shed 18 = .ok (.ireturn, 1) := by decide +kernel
theorem d_M_shed_19 : decode b_M_shed 19 = .ok (.aload_n 0, 1) := by decide +kernel
theorem d_M_shed_20 : decode b_M_shed 20 = .ok (.iload_n 1, 1) := by decide +kernel
theorem d_M_shed_21 : decode b_M_shed 21 = .ok (.sipush 11500, 3) := by decide +kernel
theorem d_M_shed_24 : decode b_M_shed 24 = .ok (.if_icmp .ge 12, 3) := by decide +kernel
theorem d_M_shed_27 : decode b_M_shed 27 = .ok (.aload_n 0, 1) := by decide +kernel
theorem d_M_shed_28 : decode b_M_shed 28 = .ok (.getfield 135, 3) := by decide +kernel
theorem d_M_shed_31 : decode b_M_shed 31 = .ok (.iconst 1, 1) := by decide +kernel
theorem d_M_shed_32 : decode b_M_shed 32 = .ok (.iadd, 1) := by decide +kernel
theorem d_M_shed_33 : decode b_M_shed 33 = .ok (.goto 4, 3) := by decide +kernel
theorem d_M_shed_36 : decode b_M_shed 36 = .ok (.iconst 0, 1) := by decide +kernel
theorem d_M_shed_37 : decode b_M_shed 37 = .ok (.putfield 135, 3) := by decide +kernel
theorem d_M_shed_40 : decode b_M_shed 40 = .ok (.aload_n 0, 1) := by decide +kernel
theorem d_M_shed_41 : decode b_M_shed 41 = .ok (.iload_n 1, 1) := by decide +kernel
theorem d_M_shed_42 : decode b_M_shed 42 = .ok (.sipush 12500, 3) := by decide +kernel
theorem d_M_shed_45 : decode b_M_shed 45 = .ok (.if_icmp .le 12, 3) := by decide +kernel
theorem d_M_shed_48 : decode b_M_shed 48 = .ok (.aload_n 0, 1) := by decide +kernel
theorem d_M_shed_49 : decode b_M_shed 49 = .ok (.getfield 138, 3) := by decide +kernel
theorem d_M_shed_52 : decode b_M_shed 52 = .ok (.iconst 1, 1) := by decide +kernel
theorem d_M_shed_53 : decode b_M_shed 53 = .ok (.iadd, 1) := by decide +kernel
theorem d_M_shed_54 : decode b_M_shed 54 = .ok (.goto 4, 3) := by decide +kernel
theorem d_M_shed_57 : decode b_M_shed 57 = .ok (.iconst 0, 1) := by decide +kernel
theorem d_M_shed_58 : decode b_M_shed 58 = .ok (.putfield 138, 3) := by decide +kernel
theorem d_M_shed_61 : decode b_M_shed 61 = .ok (.aload_n 0, 1) := by decide +kernel
theorem d_M_shed_62 : decode b_M_shed 62 = .ok (.getfield 135, 3) := by decide +kernel
theorem d_M_shed_65 : decode b_M_shed 65 = .ok (.iconst 3, 1) := by decide +kernel
theorem d_M_shed_66 : decode b_M_shed 66 = .ok (.if_icmp .ne 12, 3) := by decide +kernel
theorem d_M_shed_69 : decode b_M_shed 69 = .ok (.aload_n 0, 1) := by decide +kernel
theorem d_M_shed_70 : decode b_M_shed 70 = .ok (.invokevirtual 141, 3) := by decide +kernel
theorem d_M_shed_73 : decode b_M_shed 73 = .ok (.aload_n 0, 1) := by decide +kernel
theorem d_M_shed_74 : decode b_M_shed 74 = .ok (.iconst 0, 1) := by decide +kernel
theorem d_M_shed_75 : decode b_M_shed 75 = .ok (.putfield 135, 3) := by decide +kernel
theorem d_M_shed_78 : decode b_M_shed 78 = .ok (.aload_n 0, 1) := by decide +kernel
theorem d_M_shed_79 : decode b_M_shed 79 = .ok (.getfield 138, 3) := by decide +kernel
theorem d_M_shed_82 : decode b_M_shed 82 = .ok (.iconst 3, 1) := by decide +kernel
theorem d_M_shed_83 : decode b_M_shed 83 = .ok (.if_icmp .ne 12, 3) := by decide +kernel
theorem d_M_shed_86 : decode b_M_shed 86 = .ok (.aload_n 0, 1) := by decide +kernel
theorem d_M_shed_87 : decode b_M_shed 87 = .ok (.invokevirtual 144, 3) := by decide +kernel
theorem d_M_shed_90 : decode b_M_shed 90 = .ok (.aload_n 0, 1) := by decide +kernel
theorem d_M_shed_91 : decode b_M_shed 91 = .ok (.iconst 0, 1) := by decide +kernel
theorem d_M_shed_92 : decode b_M_shed 92 = .ok (.putfield 138, 3) := by decide +kernel
theorem d_M_shed_95 : decode b_M_shed 95 = .ok (.iconst 0, 1) := by decide +kernel
theorem d_M_shed_96 : decode b_M_shed 96 = .ok (.istore_n 2, 1) := by decide +kernel
theorem d_M_shed_97 : decode b_M_shed 97 = .ok (.iconst 1, 1) := by decide +kernel
theorem d_M_shed_98 : decode b_M_shed 98 = .ok (.istore_n 3, 1) := by decide +kernel
theorem d_M_shed_99 : decode b_M_shed 99 = .ok (.iload_n 3, 1) := by decide +kernel
theorem d_M_shed_100 : decode b_M_shed 100 = .ok (.aload_n 0, 1) := by decide +kernel
theorem d_M_shed_101 : decode b_M_shed 101 = .ok (.getfield 132, 3) := by decide +kernel
theorem d_M_shed_104 : decode b_M_shed 104 = .ok (.if_icmp .gt 26, 3) := by decide +kernel
theorem d_M_shed_107 : decode b_M_shed 107 = .ok (.iload_n 2, 1) := by decide +kernel
theorem d_M_shed_108 : decode b_M_shed 108 = .ok (.aload_n 0, 1) := by decide +kernel
theorem d_M_shed_109 : decode b_M_shed 109 = .ok (.getfield 41, 3) := by decide +kernel
theorem d_M_shed_112 : decode b_M_shed 112 = .ok (.iload_n 3, 1) := by decide +kernel
theorem d_M_shed_113 : decode b_M_shed 113 = .ok (.baload, 1) := by decide +kernel
theorem d_M_shed_114 : decode b_M_shed 114 = .ok (.ifCond .eq 7, 3) := by decide +kernel
theorem d_M_shed_117 : decode b_M_shed 117 = .ok (.iconst 1, 1) := by decide +kernel
theorem d_M_shed_118 : decode b_M_shed 118 = .ok (.goto 4, 3) := by decide +kernel
theorem d_M_shed_121 : decode b_M_shed 121 = .ok (.iconst 0, 1) := by decide +kernel
theorem d_M_shed_122 : decode b_M_shed 122 = .ok (.iadd, 1) := by decide +kernel
theorem d_M_shed_123 : decode b_M_shed 123 = .ok (.istore_n 2, 1) := by decide +kernel
theorem d_M_shed_124 : decode b_M_shed 124 = .ok (.iinc 3 1, 3) := by decide +kernel
theorem d_M_shed_127 : decode b_M_shed 127 = .ok (.goto (-28), 3) := by decide +kernel
theorem d_M_shed_130 : decode b_M_shed 130 = .ok (.iload_n 2, 1) := by decide +kernel
theorem d_M_shed_131 : decode b_M_shed 131 = .ok (.ireturn, 1) := by decide +kernel
theorem d_M_bulb_0 : decode b_M_bulb 0 = .ok (.aload_n 0, 1) := by decide +kernel
theorem d_M_bulb_1 : decode b_M_bulb 1 = .ok (.iconst 0, 1) := by decide +kernel
theorem d_M_bulb_2 : decode b_M_bulb 2 = .ok (.putfield 50, 3) := by decide +kernel
theorem d_M_bulb_5 : decode b_M_bulb 5 = .ok (.iload_n 1, 1) := by decide +kernel
theorem d_M_bulb_6 : decode b_M_bulb 6 = .ok (.iconst 0, 1) := by decide +kernel
theorem d_M_bulb_7 : decode b_M_bulb 7 = .ok (.iconst 5, 1) := by decide +kernel
theorem d_M_bulb_8 : decode b_M_bulb 8 = .ok (.invokestatic 80, 3) := by decide +kernel
theorem d_M_bulb_11 : decode b_M_bulb 11 = .ok (.ifCond .ne 5, 3) := by decide +kernel
theorem d_M_bulb_14 : decode b_M_bulb 14 = .ok (.iconst (-1), 1) := by decide +kernel
theorem d_M_bulb_15 : decode b_M_bulb 15 = .ok (.ireturn, 1) := by decide +kernel
theorem d_M_bulb_16 : decode b_M_bulb 16 = .ok (.aload_n 0, 1) := by decide +kernel
theorem d_M_bulb_17 : decode b_M_bulb 17 = .ok (.getfield 23, 3) := by decide +kernel
theorem d_M_bulb_20 : decode b_M_bulb 20 = .ok (.iload_n 1, 1) := by decide +kernel
theorem d_M_bulb_21 : decode b_M_bulb 21 = .ok (.iload_n 2, 1) := by decide +kernel
theorem d_M_bulb_22 : decode b_M_bulb 22 = .ok (.ifCond .ne 7, 3) := by decide +kernel
theorem d_M_bulb_25 : decode b_M_bulb 25 = .ok (.iconst 1, 1) := by decide +kernel
theorem d_M_bulb_26 : decode b_M_bulb 26 = .ok (.goto 4, 3) := by decide +kernel
theorem d_M_bulb_29 : decode b_M_bulb 29 = .ok (.iconst 0, 1) := by decide +kernel
theorem d_M_bulb_30 : decode b_M_bulb 30 = .ok (.bastore, 1) := by decide +kernel
theorem d_M_bulb_31 : decode b_M_bulb 31 = .ok (.iload_n 1, 1) := by decide +kernel
theorem d_M_bulb_32 : decode b_M_bulb 32 = .ok (.iconst 3, 1) := by decide +kernel
theorem d_M_bulb_33 : decode b_M_bulb 33 = .ok (.if_icmp .le 9, 3) := by decide +kernel
theorem d_M_bulb_36 : decode b_M_bulb 36 = .ok (.iload_n 1, 1) := by decide +kernel
theorem d_M_bulb_37 : decode b_M_bulb 37 = .ok (.iconst 4, 1) := by decide +kernel
theorem d_M_bulb_38 : decode b_M_bulb 38 = .ok (.isub, 1) := by decide +kernel
theorem d_M_bulb_39 : decode b_M_bulb 39 = .ok (.goto 18, 3) := by decide +kernel
theorem d_M_bulb_42 : decode b_M_bulb 42 = .ok (.iload_n 1, 1) := by decide +kernel
theorem d_M_bulb_43 : decode b_M_bulb 43 = .ok (.iconst 2, 1) := by decide +kernel
theorem d_M_bulb_44 : decode b_M_bulb 44 = .ok (.irem, 1) := by decide +kernel
theorem d_M_bulb_45 : decode b_M_bulb 45 = .ok (.ifCond .ne 9, 3) := by decide +kernel
theorem d_M_bulb_48 : decode b_M_bulb 48 = .ok (.iload_n 1, 1) := by decide +kernel
theorem d_M_bulb_49 : decode b_M_bulb 49 = .ok (.iconst 1, 1) := by decide +kernel
theorem d_M_bulb_50 : decode b_M_bulb 50 = .ok (.iadd, 1) := by decide +kernel
theorem d_M_bulb_51 : decode b_M_bulb 51 = .ok (.goto 6, 3) := by decide +kernel
theorem d_M_bulb_54 : decode b_M_bulb 54 = .ok (.iload_n 1, 1) := by decide +kernel
theorem d_M_bulb_55 : decode b_M_bulb 55 = .ok (.iconst 1, 1) := by decide +kernel
theorem d_M_bulb_56 : decode b_M_bulb 56 = .ok (.isub, 1) := by decide +kernel
theorem d_M_bulb_57 : decode b_M_bulb 57 = .ok (.istore_n 3, 1) := by decide +kernel
theorem d_M_bulb_58 : decode b_M_bulb 58 = .ok (.iload_n 2, 1) := by decide +kernel
theorem d_M_bulb_59 : decode b_M_bulb 59 = .ok (.ifCond .ne 12, 3) := by decide +kernel
theorem d_M_bulb_62 : decode b_M_bulb 62 = .ok (.aload_n 0, 1) := by decide +kernel
theorem d_M_bulb_63 : decode b_M_bulb 63 = .ok (.getfield 23, 3) := by decide +kernel
theorem d_M_bulb_66 : decode b_M_bulb 66 = .ok (.iload_n 3, 1) := by decide +kernel
theorem d_M_bulb_67 : decode b_M_bulb 67 = .ok (.baload, 1) := by decide +kernel
theorem d_M_bulb_68 : decode b_M_bulb 68 = .ok (.ifCond .eq 7, 3) := by decide +kernel
theorem d_M_bulb_71 : decode b_M_bulb 71 = .ok (.iconst 0, 1) := by decide +kernel
theorem d_M_bulb_72 : decode b_M_bulb 72 = .ok (.goto 6, 3) := by decide +kernel
theorem d_M_bulb_75 : decode b_M_bulb 75 = .ok (.iload_n 3, 1) := by decide +kernel
theorem d_M_bulb_76 : decode b_M_bulb 76 = .ok (.iconst 1, 1) := by decide +kernel
theorem d_M_bulb_77 : decode b_M_bulb 77 = .ok (.iadd, 1) := by decide +kernel
theorem d_M_bulb_78 : decode b_M_bulb 78 = .ok (.ireturn, 1) := by decide +kernel
theorem d_M_rain_0 : decode b_M_rain 0 = .ok (.aload_n 0, 1) := by decide +kernel
theorem d_M_rain_1 : decode b_M_rain 1 = .ok (.iconst 0, 1) := by decide +kernel
theorem d_M_rain_2 : decode b_M_rain 2 = .ok (.putfield 50, 3) := by decide +kernel
theorem d_M_rain_5 : decode b_M_rain 5 = .ok (.iload_n 1, 1) := by decide +kernel
theorem d_M_rain_6 : decode b_M_rain 6 = .ok (.iconst 0, 1) := by decide +kernel
theorem d_M_rain_7 : decode b_M_rain 7 = .ok (.bipush 9, 2) := by decide +kernel
theorem d_M_rain_9 : decode b_M_rain 9 = .ok (.invokestatic 80, 3) := by decide +kernel
theorem d_M_rain_12 : decode b_M_rain 12 = .ok (.ifCond .ne 6, 3) := by decide +kernel
theorem d_M_rain_15 : decode b_M_rain 15 = .ok (.bipush (-2), 2) := by decide +kernel
theorem d_M_rain_17 : decode b_M_rain 17 = .ok (.ireturn, 1) := by decide +kernel
theorem d_M_rain_18 : decode b_M_rain 18 = .ok (.aload_n 0, 1) := by decide +kernel
theorem d_M_rain_19 : decode b_M_rain 19 = .ok (.getfield 101, 3) := by decide +kernel
theorem d_M_rain_22 : decode b_M_rain 22 = .ok (.istore_n 2, 1) := by decide +kernel
theorem d_M_rain_23 : decode b_M_rain 23 = .ok (.aload_n 0, 1) := by decide +kernel
theorem d_M_rain_24 : decode b_M_rain 24 = .ok (.iload_n 1, 1) := by decide +kernel
theorem d_M_rain_25 : decode b_M_rain 25 = .ok (.putfield 101, 3) := by decide +kernel
theorem d_M_rain_28 : decode b_M_rain 28 = .ok (.iload_n 2, 1) := by decide +kernel
theorem d_M_rain_29 : decode b_M_rain 29 = .ok (.ireturn, 1) := by decide +kernel
theorem d_M_crash_0 : decode b_M_crash 0 = .ok (.aload_n 0, 1) := by decide +kernel
theorem d_M_crash_1 : decode b_M_crash 1 = .ok (.iconst 0, 1) := by decide +kernel
theorem d_M_crash_2 : decode b_M_crash 2 = .ok (.putfield 50, 3) := by decide +kernel
theorem d_M_crash_5 : decode b_M_crash 5 = .ok (.aload_n 0, 1) := by decide +kernel
theorem d_M_crash_6 : decode b_M_crash 6 = .ok (.getfield 62, 3) := by decide +kernel
theorem d_M_crash_9 : decode b_M_crash 9 = .ok (.ifCond .eq 6, 3) := by decide +kernel
theorem d_M_crash_12 : decode b_M_crash 12 = .ok (.bipush (-3), 2) := by decide +kernel
theorem d_M_crash_14 : decode b_M_crash 14 = .ok (.ireturn, 1) := by decide +kernel
theorem d_M_crash_15 : decode b_M_crash 15 = .ok (.aload_n 0, 1) := by decide +kernel
theorem d_M_crash_16 : decode b_M_crash 16 = .ok (.invokevirtual 91, 3) := by decide +kernel
theorem d_M_crash_19 : decode b_M_crash 19 = .ok (.aload_n 0, 1) := by decide +kernel
theorem d_M_crash_20 : decode b_M_crash 20 = .ok (.iconst 1, 1) := by decide +kernel
theorem d_M_crash_21 : decode b_M_crash 21 = .ok (.putfield 62, 3) := by decide +kernel
theorem d_M_crash_24 : decode b_M_crash 24 = .ok (.iconst 0, 1) := by decide +kernel
theorem d_M_crash_25 : decode b_M_crash 25 = .ok (.istore_n 1, 1) := by decide +kernel
theorem d_M_crash_26 : decode b_M_crash 26 = .ok (.iload_n 1, 1) := by decide +kernel
theorem d_M_crash_27 : decode b_M_crash 27 = .ok (.iconst 4, 1) := by decide +kernel
theorem d_M_crash_28 : decode b_M_crash 28 = .ok (.if_icmp .ge 16, 3) := by decide +kernel
theorem d_M_crash_31 : decode b_M_crash 31 = .ok (.aload_n 0, 1) := by decide +kernel
theorem d_M_crash_32 : decode b_M_crash 32 = .ok (.getfield 29, 3) := by decide +kernel
theorem d_M_crash_35 : decode b_M_crash 35 = .ok (.iload_n 1, 1) := by decide +kernel
theorem d_M_crash_36 : decode b_M_crash 36 = .ok (.iconst 0, 1) := by decide +kernel
theorem d_M_crash_37 : decode b_M_crash 37 = .ok (.iastore, 1) := by decide +kernel
theorem d_M_crash_38 : decode b_M_crash 38 = .ok (.iinc 1 1, 3) := by decide +kernel
theorem d_M_crash_41 : decode b_M_crash 41 = .ok (.goto (-15), 3) := by decide +kernel
theorem d_M_crash_44 : decode b_M_crash 44 = .ok (.aload_n 0, 1) := by decide +kernel
theorem d_M_crash_45 : decode b_M_crash 45 = .ok (.invokevirtual 94, 3) := by decide +kernel
theorem d_M_crash_48 : decode b_M_crash 48 = .ok (.aload_n 0, 1) := by decide +kernel
theorem d_M_crash_49 : decode b_M_crash 49 = .ok (.invokevirtual 97, 3) := by decide +kernel
theorem d_M_crash_52 : decode b_M_crash 52 = .ok (.ireturn, 1) := by decide +kernel
theorem d_M_memory_0 : decode b_M_memory 0 = .ok (.aload_n 0, 1) := by decide +kernel
theorem d_M_memory_1 : decode b_M_memory 1 = .ok (.iconst 0, 1) := by decide +kernel
theorem d_M_memory_2 : decode b_M_memory 2 = .ok (.putfield 50, 3) := by decide +kernel
theorem d_M_memory_5 : decode b_M_memory 5 = .ok (.iload_n 1, 1) := by decide +kernel
theorem d_M_memory_6 : decode b_M_memory 6 = .ok (.iconst 0, 1) := by decide +kernel
theorem d_M_memory_7 : decode b_M_memory 7 = .ok (.iconst 3, 1) := by decide +kernel
theorem d_M_memory_8 : decode b_M_memory 8 = .ok (.invokestatic 80, 3) := by decide +kernel
theorem d_M_memory_11 : decode b_M_memory 11 = .ok (.ifCond .ne 5, 3) := by decide +kernel
theorem d_M_memory_14 : decode b_M_memory 14 = .ok (.iconst (-1), 1) := by decide +kernel
theorem d_M_memory_15 : decode b_M_memory 15 = .ok (.ireturn, 1) := by decide +kernel
theorem d_M_memory_16 : decode b_M_memory 16 = .ok (.iload_n 2, 1) := by decide +kernel
theorem d_M_memory_17 : decode b_M_memory 17 = .ok (.iconst 0, 1) := by decide +kernel
theorem d_M_memory_18 : decode b_M_memory 18 = .ok (.iconst 4, 1) := by decide +kernel
theorem d_M_memory_19 : decode b_M_memory 19 = .ok (.invokestatic 80, 3) := by decide +kernel
theorem d_M_memory_22 : decode b_M_memory 22 = .ok (.ifCond .eq 12, 3) := by decide +kernel
theorem d_M_memory_25 : decode b_M_memory 25 = .ok (.iload_n 3, 1) := by decide +kernel
theorem d_M_memory_26 : decode b_M_memory 26 = .ok (.iconst 0, 1) := by decide +kernel
theorem d_M_memory_27 : decode b_M_memory 27 = .ok (.iconst 1, 1) := by decide +kernel
theorem d_M_memory_28 : decode b_M_memory 28 = .ok (.invokestatic 80, 3) := by decide +kernel
theorem d_M_memory_31 : decode b_M_memory 31 = .ok (.ifCond .ne 6, 3) := by decide +kernel
theorem d_M_memory_34 : decode b_M_memory 34 = .ok (.bipush (-2), 2) := by decide +kernel
theorem d_M_memory_36 : decode b_M_memory 36 = .ok (.ireturn, 1) := by decide +kernel
theorem d_M_memory_37 : decode b_M_memory 37 = .ok (.iconst 5, 1) := by decide +kernel
theorem d_M_memory_38 : decode b_M_memory 38 = .ok (.iload_n 1, 1) := by decide +kernel
theorem d_M_memory_39 : decode b_M_memory 39 = .ok (.imul, 1) := by decide +kernel
theorem d_M_memory_40 : decode b_M_memory 40 = .ok (.iload_n 2, 1) := by decide +kernel
theorem d_M_memory_41 : decode b_M_memory 41 = .ok (.iadd, 1) := by decide +kernel
theorem d_M_memory_42 : decode b_M_memory 42 = .ok (.istore 4, 2) := by decide +kernel
theorem d_M_memory_44 : decode b_M_memory 44 = .ok (.iload_n 3, 1) := by decide +kernel
theorem d_M_memory_45 : decode b_M_memory 45 = .ok (.ifCond .ne 31, 3) := by decide +kernel
theorem d_M_memory_48 : decode b_M_memory 48 = .ok (.aload_n 0, 1) := by decide +kernel
theorem d_M_memory_49 : decode b_M_memory 49 = .ok (.getfield 44, 3) := by decide +kernel
theorem d_M_memory_52 : decode b_M_memory 52 = .ok (.iload 4, 2) := by decide +kernel
theorem d_M_memory_54 : decode b_M_memory 54 = .ok (.iload_n 2, 1) := by decide +kernel
theorem d_M_memory_55 : decode b_M_memory 55 = .ok (.iconst 4, 1) := by decide +kernel
theorem d_M_memory_56 : decode b_M_memory 56 = .ok (.if_icmp .ne 10, 3) := by decide +kernel
theorem d_M_memory_59 : decode b_M_memory 59 = .ok (.aload_n 0, 1) := by decide +kernel
theorem d_M_memory_60 : decode b_M_memory 60 = .ok (.getfield 71, 3) := by decide +kernel
theorem d_M_memory_63 : decode b_M_memory 63 = .ok (.goto 9, 3) := by decide +kernel
theorem d_M_memory_66 : decode b_M_memory 66 = .ok (.aload_n 0, 1) := by decide +kernel
theorem d_M_memory_67 : decode b_M_memory 67 = .ok (.getfield 29, 3) := by decide +kernel
theorem d_M_memory_70 : decode b_M_memory 70 = .ok (.iload_n 2, 1) := by decide +kernel
theorem d_M_memory_71 : decode b_M_memory 71 = .ok (.iaload, 1) := by decide +kernel
theorem d_M_memory_72 : decode b_M_memory 72 = .ok (.iastore, 1) := by decide +kernel
theorem d_M_memory_73 : decode b_M_memory 73 = .ok (.goto 45, 3) := by decide +kernel
theorem d_M_memory_76 : decode b_M_memory 76 = .ok (.aload_n 0, 1) := by decide +kernel
theorem d_M_memory_77 : decode b_M_memory 77 = .ok (.getfield 44, 3) := by decide +kernel
theorem d_M_memory_80 : decode b_M_memory 80 = .ok (.iload 4, 2) := by decide +kernel
theorem d_M_memory_82 : decode b_M_memory 82 = .ok (.iaload, 1) := by decide +kernel
theorem d_M_memory_83 : decode b_M_memory 83 = .ok (.ifCond .lt 35, 3) := by decide +kernel
theorem d_M_memory_86 : decode b_M_memory 86 = .ok (.iload_n 2, 1) := by decide +kernel
theorem d_M_memory_87 : decode b_M_memory 87 = .ok (.iconst 4, 1) := by decide +kernel
theorem d_M_memory_88 : decode b_M_memory 88 = .ok (.if_icmp .ne 17, 3) := by decide +kernel
theorem d_M_memory_91 : decode b_M_memory 91 = .ok (.aload_n 0, 1) := by decide +kernel
theorem d_M_memory_92 : decode b_M_memory 92 = .ok (.aload_n 0, 1) := by decide +kernel
theorem d_M_memory_93 : decode b_M_memory 93 = .ok (.getfield 44, 3) := by decide +kernel
theorem d_M_memory_96 : decode b_M_memory 96 = .ok (.iload 4, 2) := by decide +kernel
theorem d_M_memory_98 : decode b_M_memory 98 = .ok (.iaload, 1) := by decide +kernel
theorem d_M_memory_99 : decode b_M_memory 99 = .ok (.putfield 71, 3) := by decide +kernel
theorem d_M_memory_102 : decode b_M_memory 102 = .ok (.goto 16, 3) := by decide +kernel
theorem d_M_memory_105 : decode b_M_memory 105 = .ok (.aload_n 0, 1) := by decide +kernel
theorem d_M_memory_106 : decode b_M_memory 106 = .ok (.getfield 29, 3) := by decide +kernel
theorem d_M_memory_109 : decode b_M_memory 109 = .ok (.iload_n 2, 1) := by decide +kernel
theorem d_M_memory_110 : decode b_M_memory 110 = .ok (.aload_n 0, 1) := by decide +kernel
theorem d_M_memory_111 : decode b_M_memory 111 = .ok (.getfield 44, 3) := by decide +kernel
theorem d_M_memory_114 : decode b_M_memory 114 = .ok (.iload 4, 2) := by decide +kernel
theorem d_M_memory_116 : decode b_M_memory 116 = .ok (.iaload, 1) := by decide +kernel
theorem d_M_memory_117 : decode b_M_memory 117 = .ok (.iastore, 1) := by decide +kernel
theorem d_M_memory_118 : decode b_M_memory 118 = .ok (.aload_n 0, 1) := by decide +kernel
theorem d_M_memory_119 : decode b_M_memory 119 = .ok (.getfield 44, 3) := by decide +kernel
theorem d_M_memory_122 : decode b_M_memory 122 = .ok (.iload 4, 2) := by decide +kernel
theorem d_M_memory_124 : decode b_M_memory 124 = .ok (.iaload, 1) := by decide +kernel
theorem d_M_memory_125 : decode b_M_memory 125 = .ok (.ireturn, 1) := by decide +kernel
theorem d_M_trailer_0 : decode b_M_trailer 0 = .ok (.aload_n 0, 1) := by decide +kernel
theorem d_M_trailer_1 : decode b_M_trailer 1 = .ok (.iconst 0, 1) := by decide +kernel
theorem d_M_trailer_2 : decode b_M_trailer 2 = .ok (.putfield 50, 3) := by decide +kernel
theorem d_M_trailer_5 : decode b_M_trailer 5 = .ok (.aload_n 0, 1) := by decide +kernel
theorem d_M_trailer_6 : decode b_M_trailer 6 = .ok (.invokevirtual 91, 3) := by decide +kernel
theorem d_M_trailer_9 : decode b_M_trailer 9 = .ok (.aload_n 0, 1) := by decide +kernel
theorem d_M_trailer_10 : decode b_M_trailer 10 = .ok (.iload_n 1, 1) := by decide +kernel
theorem d_M_trailer_11 : decode b_M_trailer 11 = .ok (.putfield 74, 3) := by decide +kernel
theorem d_M_trailer_14 : decode b_M_trailer 14 = .ok (.aload_n 0, 1) := by decide +kernel
theorem d_M_trailer_15 : decode b_M_trailer 15 = .ok (.invokevirtual 97, 3) := by decide +kernel
theorem d_M_trailer_18 : decode b_M_trailer 18 = .ok (.ireturn, 1) := by decide +kernel
theorem d_M_state_0 : decode b_M_state 0 = .ok (.aload_n 0, 1) := by decide +kernel
theorem d_M_state_1 : decode b_M_state 1 = .ok (.iconst 0, 1) := by decide +kernel
theorem d_M_state_2 : decode b_M_state 2 = .ok (.putfield 50, 3) := by decide +kernel
theorem d_M_state_5 : decode b_M_state 5 = .ok (.iload_n 1, 1) := by decide +kernel
theorem d_M_state_6 : decode b_M_state 6 = .ok (.iconst 0, 1) := by decide +kernel
theorem d_M_state_7 : decode b_M_state 7 = .ok (.bipush 9, 2) := by decide +kernel
theorem d_M_state_9 : decode b_M_state 9 = .ok (.invokestatic 80, 3) := by decide +kernel
theorem d_M_state_12 : decode b_M_state 12 = .ok (.ifCond .ne 6, 3) := by decide +kernel
theorem d_M_state_15 : decode b_M_state 15 = .ok (.bipush (-2), 2) := by decide +kernel
theorem d_M_state_17 : decode b_M_state 17 = .ok (.ireturn, 1) := by decide +kernel
theorem d_M_state_18 : decode b_M_state 18 = .ok (.iload_n 1, 1) := by decide +kernel
theorem d_M_state_19 : decode b_M_state 19 = .ok (.iconst 4, 1) := by decide +kernel
theorem d_M_state_20 : decode b_M_state 20 = .ok (.if_icmp .ge 12, 3) := by decide +kernel
theorem d_M_state_23 : decode b_M_state 23 = .ok (.aload_n 0, 1) := by decide +kernel
theorem d_M_state_24 : decode b_M_state 24 = .ok (.getfield 26, 3) := by decide +kernel
theorem d_M_state_27 : decode b_M_state 27 = .ok (.iload_n 1, 1) := by decide +kernel
theorem d_M_state_28 : decode b_M_state 28 = .ok (.iaload, 1) := by decide +kernel
theorem d_M_state_29 : decode b_M_state 29 = .ok (.goto 70, 3) := by decide +kernel
theorem d_M_state_32 : decode b_M_state 32 = .ok (.iload_n 1, 1) := by decide +kernel
theorem d_M_state_33 : decode b_M_state 33 = .ok (.iconst 4, 1) := by decide +kernel
theorem d_M_state_34 : decode b_M_state 34 = .ok (.if_icmp .ne 10, 3) := by decide +kernel
theorem d_M_state_37 : decode b_M_state 37 = .ok (.aload_n 0, 1) := by decide +kernel
theorem d_M_state_38 : decode b_M_state 38 = .ok (.getfield 107, 3) := by decide +kernel
theorem d_M_state_41 : decode b_M_state 41 = .ok (.goto 58, 3) := by decide +kernel
theorem d_M_state_44 : decode b_M_state 44 = .ok (.iload_n 1, 1) := by decide +kernel
theorem d_M_state_45 : decode b_M_state 45 = .ok (.iconst 5, 1) := by decide +kernel
theorem d_M_state_46 : decode b_M_state 46 = .ok (.if_icmp .ne 10, 3) := by decide +kernel
theorem d_M_state_49 : decode b_M_state 49 = .ok (.aload_n 0, 1) := by decide +kernel
theorem d_M_state_50 : decode b_M_state 50 = .ok (.getfield 110, 3) := by decide +kernel
theorem d_M_state_53 : decode b_M_state 53 = .ok (.goto 46, 3) := by decide +kernel
theorem d_M_state_56 : decode b_M_state 56 = .ok (.iload_n 1, 1) := by decide +kernel
theorem d_M_state_57 : decode b_M_state 57 = .ok (.bipush 8, 2) := by decide +kernel
theorem d_M_state_59 : decode b_M_state 59 = .ok (.if_icmp .ge 15, 3) := by decide +kernel
theorem d_M_state_62 : decode b_M_state 62 = .ok (.aload_n 0, 1) := by decide +kernel
theorem d_M_state_63 : decode b_M_state 63 = .ok (.getfield 20, 3) := by decide +kernel
theorem d_M_state_66 : decode b_M_state 66 = .ok (.iload_n 1, 1) := by decide +kernel
theorem d_M_state_67 : decode b_M_state 67 = .ok (.bipush 6, 2) := by decide +kernel
theorem d_M_state_69 : decode b_M_state 69 = .ok (.isub, 1) := by decide +kernel
theorem d_M_state_70 : decode b_M_state 70 = .ok (.iaload, 1) := by decide +kernel
theorem d_M_state_71 : decode b_M_state 71 = .ok (.goto 28, 3) := by decide +kernel
theorem d_M_state_74 : decode b_M_state 74 = .ok (.iload_n 1, 1) := by decide +kernel
theorem d_M_state_75 : decode b_M_state 75 = .ok (.bipush 8, 2) := by decide +kernel
theorem d_M_state_77 : decode b_M_state 77 = .ok (.if_icmp .ne 18, 3) := by decide +kernel
theorem d_M_state_80 : decode b_M_state 80 = .ok (.aload_n 0, 1) := by decide +kernel
theorem d_M_state_81 : decode b_M_state 81 = .ok (.getfield 58, 3) := by decide +kernel
theorem d_M_state_84 : decode b_M_state 84 = .ok (.ifCond .eq 7, 3) := by decide +kernel
theorem d_M_state_87 : decode b_M_state 87 = .ok (.iconst 1, 1) := by decide +kernel
theorem d_M_state_88 : decode b_M_state 88 = .ok (.goto 11, 3) := by decide +kernel
theorem d_M_state_91 : decode b_M_state 91 = .ok (.iconst 0, 1) := by decide +kernel
theorem d_M_state_92 : decode b_M_state 92 = .ok (.goto 7, 3) := by decide +kernel
theorem d_M_state_95 : decode b_M_state 95 = .ok (.aload_n 0, 1) := by decide +kernel
theorem d_M_state_96 : decode b_M_state 96 = .ok (.getfield 113, 3) := by decide +kernel
theorem d_M_state_99 : decode b_M_state 99 = .ok (.ireturn, 1) := by decide +kernel
end
section
/-! HK: one list of words for all methods; contracts whose answer and world are functions of the start; the calls in one row each. -/
theorem hk_all {ws : List Cond} (h : ∀ w ∈ ws, w ∈ hk_w) : GoodIn hk_w ws := fun w hw => ⟨h w hw, good_of_word (List.mem_filter.mp (h w hw)).2⟩
def hk_isNest : Cond → Bool
  | .fieldLinkNest .. => true
  | .methodLinkNest .. => true
  | _ => false
theorem hk_Nw_warm {w : Cond} (hn : hk_isNest w = true) {s U : State} (hW : s.WarmedH U.vm) (h : va_Nw w s) : va_Nw w U := by
  cases w <;> first | exact va_Nw.warmF hW h | exact va_Nw.warmM hW h | (simp [hk_isNest] at hn)
theorem hk_Nw_same {w : Cond} (hn : hk_isNest w = true) {s U : State} (hW : s.vm = U.vm) (h : va_Nw w s) : va_Nw w U := by
  cases w <;> first | exact va_Nw.same rfl hW h | (simp [hk_isNest] at hn)
abbrev hk_D (G : hk_G) : va_G := (G.1, G.2.1)
def hk_AOA (U : State) : Prop := (Cond.arrayOver (.array .int)).before #[] U = true
theorem hk_AOA.moved {u U : State} (hvm : u.vm.Alike U.vm) (h : hk_AOA u) : hk_AOA U := by
  unfold hk_AOA at h ⊢
  simp only [Cond.before, Cond.holds, Cond.value] at h ⊢
  rw [hvm.findClass]
  cases hf : u.vm.findClass (FieldType.array .int).toString with
  | none => rw [hf] at h; simp at h
  | some comp =>
    rw [hf] at h
    simp only [Option.bind_some] at h ⊢
    rw [hvm.findIdx_congr _ (fun _ _ _ _ => rfl)]
    generalize hF : (u.vm.classes.findIdx? fun (x : Class) => match x.kind with | .array component _ => component == comp | _ => false) = fi at h ⊢
    cases fi with
    | none => simp at h
    | some c =>
      simp only [Option.bind_some] at h ⊢
      cases hk : u.vm.classes[c]? with
      | none => rw [hk] at h; simp at h
      | some k =>
        obtain ⟨k', hk', ek⟩ := hvm.2.2 _ _ hk
        rw [hk] at h
        rw [hk', hvm.findClass]
        have ekind : k'.kind = k.kind := by rw [ek]
        simp only [Option.map_some] at h ⊢
        rw [ekind]
        exact h
def hk_AO (U : State) : Prop := va_AO "BodyRows2$Side" U ∧ va_AO "BodyRows2$Window" U ∧ hk_AOA U
theorem hk_AO.moved {u U : State} (hvm : u.vm.Alike U.vm) (h : hk_AO u) : hk_AO U := ⟨va_AO.moved hvm h.1, va_AO.moved hvm h.2.1, hk_AOA.moved hvm h.2.2⟩
def hk_E (G : hk_G) (U : State) : Prop := va_K (hk_D G) classes (hk_ty G) U ∧ (∀ w ∈ lw_tbl, hk_isNest w = true → va_Nw w U) ∧ hk_AO U
theorem hk_E.warm {G : hk_G} {s U : State} (h : hk_E G s) (hW : s.WarmedH U.vm) : hk_E G U := ⟨va_K.moved hW.alike h.1, fun w hw hn => hk_Nw_warm hn hW (h.2.1 w hw hn), hk_AO.moved hW.alike h.2.2⟩
theorem hk_E.calling {G : hk_G} {U : State} (h : hk_E G U) (g : JFrame) (mk : MethodId) (a : Array Value) : hk_E G (U.calling g mk a) := ⟨va_K.moved (u := U) (U := U.calling g mk a) (Vm.Alike.refl U.vm) h.1, fun w hw hn => hk_Nw_same (s := U) (U := U.calling g mk a) hn rfl (h.2.1 w hw hn), hk_AO.moved (u := U) (U := U.calling g mk a) (Vm.Alike.refl U.vm) h.2.2⟩
def hk_P (G : hk_G) (w0 : va_W) (sz : Nat) (U : State) : Prop := U.heap.size = sz ∧ va_P (hk_D G) classes w0 U.heap ∧ hk_E G U ∧ va_D (fun _ => True) w0
def hk_B (G : hk_G) (w0 w1 : va_W) (sz : Nat) (_ : Unit) (t : State) : Prop := va_P (hk_D G) classes w1 t.heap ∧ va_D (va_A w0 sz) w1
/-- a method with an int's (or boolean's) answer that makes no cell -/
def hk_I (l : Launch) (G : hk_G) (y : MethodName) (b : ByteArray) (n : Nat) (ret : Option FieldType) (rm : Room) (av : List Value) (w0 : va_W) (r : Int32) (w1 : va_W) : Prop :=
  ∀ sz : Nat, Met l y (Cond.code y b n ret :: hk_w) rm (va_Pc av (hk_P G w0 sz)) (va_Qi (fun (x : Int32) (_ : Unit) => x = r) (hk_B G w0 w1 sz) (va_A w0 sz)) 0 0 (va_A w0 sz)
/-- a void method that makes no cell -/
def hk_V (l : Launch) (G : hk_G) (y : MethodName) (b : ByteArray) (n : Nat) (rm : Room) (av : List Value) (w0 : va_W) (w1 : va_W) : Prop :=
  ∀ sz : Nat, Met l y (Cond.code y b n none :: hk_w) rm (va_Pc av (hk_P G w0 sz)) (va_Qv (fun (_ : Unit) => True) (hk_B G w0 w1 sz) (va_A w0 sz)) 0 0 (va_A w0 sz)
/-- what a walk begins with -/
def hk_C (p : Program) (s : State) (m : MethodId) (meth : Method) (c : Code) (own : String) (b : ByteArray) (n : Nat) (ret : Option FieldType) (args : Array Value) (G : hk_G) : Prop :=
  p.tables.exec = Jvm.exec ∧ c.code = b ∧ meth.sig.returnType = ret ∧ c.maxLocals = n ∧ s.vm.findClass own = some m.cls ∧ (∀ w ∈ hk_w, w.before args s = true) ∧ meth.locks = false ∧ hk_E G s
theorem hk_I_of {l : Launch} {G : hk_G} {y : MethodName} {b : ByteArray} {n : Nat} {ret : Option FieldType} {rm : Room} {av : List Value} {w0 : va_W} {r : Int32} {w1 : va_W} (hy : plainName y.cls = true) (hn : (lg_sl av).length ≤ n)
    (body : ∀ (p : Program) (e : Env) (s : State) (m : MethodId) (below : List Frame) (meth : Method) (c : Code) (A : Nat → Prop) (ls : Array Slot),
      hk_C p s m meth c y.cls b n ret av.toArray G → va_A w0 s.heap.size = A → (∀ q : Nat, s.heap.size ≤ q → A q) → va_P (hk_D G) classes w0 s.heap → va_D A w0 → va_S A s.heap s.heap [] → lv_has ls n (lv_args 0 av) →
      W p l e rm s m av.toArray below meth c s.heap [] 0 0 (MQ below (va_Qi (fun (x : Int32) (_ : Unit) => x = r) (hk_B G w0 w1 s.heap.size) A) av.toArray s 0 0 A) (F0 m 0 ls [])) : hk_I l G y b n ret rm av w0 r w1 := by
  intro sz
  refine Met.ofW (cc := b) (maxL := n) (ret := ret) hy rfl ?_
  intro p e s m args below meth c s₁ B hml hv
  obtain ⟨rfl, hsz, hP, hE, hD0⟩ := hv
  subst hsz
  have hts := atoms_spec (ws := Cond.code y b n ret :: hk_w) B.pre
  rw [lg_entry_eq]
  exact body p e s m below meth c (va_A w0 s.heap.size) _ ⟨B.exec, B.bytes, B.returns, hml, findClass_of_methodNamed B.named, fun w h => hts w (List.mem_cons_of_mem _ h), B.notSynchronized, hE⟩ rfl (fun q h => Or.inr h) hP hD0.self va_S.rf (lv_entry av hn)
theorem hk_V_of {l : Launch} {G : hk_G} {y : MethodName} {b : ByteArray} {n : Nat} {rm : Room} {av : List Value} {w0 : va_W} {w1 : va_W} (hy : plainName y.cls = true) (hn : (lg_sl av).length ≤ n)
    (body : ∀ (p : Program) (e : Env) (s : State) (m : MethodId) (below : List Frame) (meth : Method) (c : Code) (A : Nat → Prop) (ls : Array Slot),
      hk_C p s m meth c y.cls b n none av.toArray G → va_A w0 s.heap.size = A → (∀ q : Nat, s.heap.size ≤ q → A q) → va_P (hk_D G) classes w0 s.heap → va_D A w0 → va_S A s.heap s.heap [] → lv_has ls n (lv_args 0 av) →
      W p l e rm s m av.toArray below meth c s.heap [] 0 0 (MQ below (va_Qv (fun (_ : Unit) => True) (hk_B G w0 w1 s.heap.size) A) av.toArray s 0 0 A) (F0 m 0 ls [])) : hk_V l G y b n rm av w0 w1 := by
  intro sz
  refine Met.ofW (cc := b) (maxL := n) (ret := none) hy rfl ?_
  intro p e s m args below meth c s₁ B hml hv
  obtain ⟨rfl, hsz, hP, hE, hD0⟩ := hv
  subst hsz
  have hts := atoms_spec (ws := Cond.code y b n none :: hk_w) B.pre
  rw [lg_entry_eq]
  exact body p e s m below meth c (va_A w0 s.heap.size) _ ⟨B.exec, B.bytes, B.returns, hml, findClass_of_methodNamed B.named, fun w h => hts w (List.mem_cons_of_mem _ h), B.notSynchronized, hE⟩ rfl (fun q h => Or.inr h) hP hD0.self va_S.rf (lv_entry av hn)
def hk_PZ (G : hk_G) (w0 : va_W) (Z : (Nat → Prop) → State → Heap → Prop) (sz : Nat) (U : State) : Prop := hk_P G w0 sz U ∧ Z (va_A w0 sz) U U.heap
/-- the same, of a method that reads a table that stands in a static field -/
def hk_IZ (l : Launch) (G : hk_G) (y : MethodName) (b : ByteArray) (n : Nat) (ret : Option FieldType) (rm : Room) (av : List Value) (w0 : va_W) (r : Int32) (w1 : va_W) (Z : (Nat → Prop) → State → Heap → Prop) : Prop :=
  ∀ sz : Nat, Met l y (Cond.code y b n ret :: hk_w) rm (va_Pc av (hk_PZ G w0 Z sz)) (va_Qi (fun (x : Int32) (_ : Unit) => x = r) (hk_B G w0 w1 sz) (va_A w0 sz)) 0 0 (va_A w0 sz)
theorem hk_IZ_of {l : Launch} {G : hk_G} {y : MethodName} {b : ByteArray} {n : Nat} {ret : Option FieldType} {rm : Room} {av : List Value} {w0 : va_W} {r : Int32} {w1 : va_W} {Z : (Nat → Prop) → State → Heap → Prop} (hy : plainName y.cls = true) (hn : (lg_sl av).length ≤ n)
    (body : ∀ (p : Program) (e : Env) (s : State) (m : MethodId) (below : List Frame) (meth : Method) (c : Code) (A : Nat → Prop) (ls : Array Slot),
      hk_C p s m meth c y.cls b n ret av.toArray G → va_A w0 s.heap.size = A → (∀ q : Nat, s.heap.size ≤ q → A q) → va_P (hk_D G) classes w0 s.heap → va_D A w0 → va_S A s.heap s.heap [] → lv_has ls n (lv_args 0 av) → Z A s s.heap →
      W p l e rm s m av.toArray below meth c s.heap [] 0 0 (MQ below (va_Qi (fun (x : Int32) (_ : Unit) => x = r) (hk_B G w0 w1 s.heap.size) A) av.toArray s 0 0 A) (F0 m 0 ls [])) : hk_IZ l G y b n ret rm av w0 r w1 Z := by
  intro sz
  refine Met.ofW (cc := b) (maxL := n) (ret := ret) hy rfl ?_
  intro p e s m args below meth c s₁ B hml hv
  obtain ⟨rfl, ⟨hsz, hP, hE, hD0⟩, hZ⟩ := hv
  subst hsz
  have hts := atoms_spec (ws := Cond.code y b n ret :: hk_w) B.pre
  rw [lg_entry_eq]
  exact body p e s m below meth c (va_A w0 s.heap.size) _ ⟨B.exec, B.bytes, B.returns, hml, findClass_of_methodNamed B.named, fun w h => hts w (List.mem_cons_of_mem _ h), B.notSynchronized, hE⟩ rfl (fun q h => Or.inr h) hP hD0.self va_S.rf (lv_entry av hn) hZ
theorem hk_nb {v : Int32} (h : v = 0 ∨ v = 1) : narrow .boolean (.int v) = .int v := by rcases h with rfl | rfl <;> rfl
theorem hk_fb {v : Int32} (h : v = 0 ∨ v = 1) : fits .boolean (.int v) = true := by rcases h with rfl | rfl <;> rfl
section HKW
variable {p : Program} {l : Launch} {e : Env} {R : Room} {s : State} {m : MethodId} {args : Array Value} {below : List Frame} {meth : Method} {c : Code} {H : Heap} {locs : List Loc} {cells slots : Nat} {Q : State → Prop}
variable {own : String} {b cc : ByteArray} {n nL : Nat} {ret ret0 : Option FieldType} {G : hk_G} {A : Nat → Prop} {w0 w1 w : va_W} {pc : Nat} {ls : Array Slot} {rest st : List Value} {H0 : Heap} {ws wc w2 : va_W}
theorem hk_ri {r v : Int32} (C : hk_C p s m meth c own b n (some .int) args G) (hA : va_A w0 s.heap.size = A) (hP : va_P (hk_D G) classes w H) (hD : va_D A w) (hS : va_S A s.heap H locs) (hv : v = r) (hw : w = w1) (hdg : decode b pc = .ok (.ireturn, 1)) :
    W p l e R s m args below meth c H locs 0 0 (MQ below (va_Qi (fun (x : Int32) (_ : Unit) => x = r) (hk_B G w0 w1 s.heap.size) A) args s 0 0 A) (F0 m pc ls [.int v]) := by
  subst hv
  subst hw
  subst hA
  exact W.iret C.1 C.2.1 C.2.2.1 (fun t ht hW => ⟨⟨v, (), rfl, rfl, by rw [ht]; exact hP, hD⟩, hS.F ht⟩) hS.2.2 hdg C.2.2.2.2.2.2.1
theorem hk_rz {r v : Int32} (C : hk_C p s m meth c own b n (some .boolean) args G) (hA : va_A w0 s.heap.size = A) (hP : va_P (hk_D G) classes w H) (hD : va_D A w) (hS : va_S A s.heap H locs) (h01 : v = 0 ∨ v = 1) (hv : v = r) (hw : w = w1) (hdg : decode b pc = .ok (.ireturn, 1)) :
    W p l e R s m args below meth c H locs 0 0 (MQ below (va_Qi (fun (x : Int32) (_ : Unit) => x = r) (hk_B G w0 w1 s.heap.size) A) args s 0 0 A) (F0 m pc ls [.int v]) := by
  subst hv
  subst hw
  subst hA
  exact W.zret C.1 C.2.1 C.2.2.1 (hk_nb h01) (fun t ht hW => ⟨⟨v, (), rfl, rfl, by rw [ht]; exact hP, hD⟩, hS.F ht⟩) hS.2.2 hdg C.2.2.2.2.2.2.1
theorem hk_rv (C : hk_C p s m meth c own b n none args G) (hA : va_A w0 s.heap.size = A) (hP : va_P (hk_D G) classes w H) (hD : va_D A w) (hS : va_S A s.heap H locs) (hw : w = w1) (hdg : decode b pc = .ok (.return_, 1)) :
    W p l e R s m args below meth c H locs 0 0 (MQ below (va_Qv (fun (_ : Unit) => True) (hk_B G w0 w1 s.heap.size) A) args s 0 0 A) (F0 m pc ls []) := by
  subst hw
  subst hA
  exact W.vret C.1 C.2.1 C.2.2.1 (fun t ht hW => ⟨⟨(), rfl, trivial, by rw [ht]; exact hP, hD⟩, hS.F ht⟩) hS.2.2 hdg C.2.2.2.2.2.2.1
/-- a callee on an object: its words -/
def hk_Y (y : MethodName) (b : ByteArray) (n : Nat) (ret : Option FieldType) (k : Nat) : Prop :=
  Cond.instanceMethod y ∈ hk_w ∧ Cond.selects y.cls y y ∈ hk_w ∧ Cond.initialized y.cls ∈ hk_w ∧ Cond.code y b n ret ∈ hk_w ∧ y.cls ≠ "java/lang/invoke/MethodHandle" ∧ y.cls ≠ "java/lang/invoke/VarHandle" ∧ (parseMethodDescriptor y.desc).map (fun d => d.parameters.length) = some k
/-- a static callee: its words -/
def hk_YS (y : MethodName) (b : ByteArray) (n : Nat) (ret : Option FieldType) (k : Nat) : Prop :=
  Cond.static y ∈ hk_w ∧ Cond.initialized y.cls ∈ hk_w ∧ Cond.code y b n ret ∈ hk_w ∧ y.cls ≠ "java/lang/invoke/MethodHandle" ∧ y.cls ≠ "java/lang/invoke/VarHandle" ∧ (parseMethodDescriptor y.desc).map (fun d => d.parameters.length) = some k
variable {y : MethodName} {yb : ByteArray} {yn k idx : Nat} {rm : Room} {Qc : Array Value → State → Outcome → State → Prop} {free : Addr → Prop} {a : Nat} {As : List Value} {mc ms : Nat}
theorem hk_blind {av : List Value} {w0 : va_W} {sz : Nat} : FrameBlind (va_Pc av (hk_P G w0 sz)) := fun a U g mk q => by
  obtain ⟨q0, q1, qP, qE, qD⟩ := q
  exact ⟨q0, q1, qP, hk_E.calling qE g mk a, qD⟩
theorem hk_pre {av : List Value} (C : hk_C p s m meth c own cc nL ret0 args G) (hPc : va_P (hk_D G) classes wc H) (hDc : va_D A wc) : PreS s H (va_Pc av (hk_P G wc H.size)) av :=
  ⟨hk_blind, fun U hU hW => ⟨rfl, by rw [hU], by rw [hU]; exact hPc, hk_E.warm C.2.2.2.2.2.2.2 hW, hDc.weaken (fun _ _ _ _ => trivial)⟩⟩
/-- invokevirtual of a method whose link is an ordinary one -/
theorem hk_kV (C : hk_C p s m meth c own cc nL ret0 args G) (hM : Met l y (Cond.code y yb yn ret :: hk_w) rm (va_Pc (.ref a :: As) (hk_P G wc H.size)) Qc mc ms free) (hY : hk_Y y yb yn ret k) (hl : Cond.methodLink own idx y ∈ hk_w)
    (hrc : rm.cells = mc) (hrs : rm.slots = ms) (hR : rm.frames + 1 ≤ R.frames ∧ 8 + (yn + 11) + rm.locals ≤ R.locals)
    (hrv : ∃ cell : Cell, H[a]? = some cell ∧ cell.vm.isStatics = false ∧ s.vm.findClass y.cls = some cell.cls) (hPc : va_P (hk_D G) classes wc H) (hDc : va_D A wc)
    (hk : As.length = k) (hls : ls.size = nL) (hst : st = As.reverse ++ .ref a :: rest) (hrm : (rest.map fun v => v.category).sum ≤ 8) (hdg : decode cc pc = .ok (.invokevirtual idx, 3)) (hcs : cells + mc ≤ R.cells ∧ slots + ms ≤ R.slots) :
    va_Run p l e R s m args below meth c H locs cells slots mc ms (F0 m pc ls st) rest (Qc (Value.ref a :: As).toArray) free := by
  obtain ⟨h1, h2, h3, h4, h5⟩ := hY
  have hT : GoodIn hk_w (wsV own idx y.cls y (Cond.code y yb yn ret :: hk_w)) := hk_all (by
    intro w hw
    unfold wsV at hw
    rcases List.mem_append.mp hw with h | h
    · simp only [List.mem_cons, List.not_mem_nil, or_false] at h
      rcases h with rfl | rfl | rfl | rfl <;> assumption
    · rcases List.mem_cons.mp h with rfl | h
      · exact h4
      · exact h)
  have hp := hk_pre (av := .ref a :: As) C hPc hDc
  exact va_runV ⟨C.1, C.2.1, C.2.2.2.1, C.2.2.2.2.1, C.2.2.2.2.2.1⟩ hM (cwV k C.2.2.2.2.2.1 hT rfl hrc hrs ⟨rfl, h5⟩ hR) ⟨hp.1, hrv, hp.2⟩ rfl hk hls hst (lv_room hrm) hdg hcs
/-- invokevirtual of a nest mate's private method -/
theorem hk_kN {host : String} (C : hk_C p s m meth c own cc nL ret0 args G) (hM : Met l y (Cond.code y yb yn ret :: hk_w) rm (va_Pc (.ref a :: As) (hk_P G wc H.size)) Qc mc ms free) (hY : hk_Y y yb yn ret k) (hl : Cond.methodLinkNest own idx y host ∈ lw_tbl)
    (hrc : rm.cells = mc) (hrs : rm.slots = ms) (hR : rm.frames + 1 ≤ R.frames ∧ 8 + (yn + 11) + rm.locals ≤ R.locals)
    (hrv : ∃ cell : Cell, H[a]? = some cell ∧ cell.vm.isStatics = false ∧ s.vm.findClass y.cls = some cell.cls) (hPc : va_P (hk_D G) classes wc H) (hDc : va_D A wc)
    (hk : As.length = k) (hls : ls.size = nL) (hst : st = As.reverse ++ .ref a :: rest) (hrm : (rest.map fun v => v.category).sum ≤ 8) (hdg : decode cc pc = .ok (.invokevirtual idx, 3)) (hcs : cells + mc ≤ R.cells ∧ slots + ms ≤ R.slots) :
    va_Run p l e R s m args below meth c H locs cells slots mc ms (F0 m pc ls st) rest (Qc (Value.ref a :: As).toArray) free := by
  obtain ⟨h1, h2, h3, h4, h5⟩ := hY
  have hG : GoodIn hk_w (Cond.code y yb yn ret :: hk_w) := hk_all (by
    intro w hw
    rcases List.mem_cons.mp hw with rfl | h
    · exact h4
    · exact h)
  have hts := C.2.2.2.2.2.1
  have hp := hk_pre (av := .ref a :: As) C hPc hDc
  exact va_runVN ⟨C.1, C.2.1, C.2.2.2.1, C.2.2.2.2.1, hts⟩ hM ⟨va_cnB k hts hG rfl hrc hrs (C.2.2.2.2.2.2.2.2.1 _ hl rfl) (hts _ h3) h5 hR, hts _ h1, hts _ h2⟩ ⟨hp.1, hrv, hp.2⟩ rfl hk hls hst (lv_room hrm) hdg hcs
/-- invokestatic of a class of ours -/
theorem hk_kS (C : hk_C p s m meth c own cc nL ret0 args G) (hM : Met l y (Cond.code y yb yn ret :: hk_w) rm (va_Pc As (hk_P G wc H.size)) Qc mc ms free) (hY : hk_YS y yb yn ret k) (hl : Cond.methodLink own idx y ∈ hk_w)
    (hrc : rm.cells = mc) (hrs : rm.slots = ms) (hR : rm.frames + 1 ≤ R.frames ∧ 8 + (yn + 11) + rm.locals ≤ R.locals) (hPc : va_P (hk_D G) classes wc H) (hDc : va_D A wc)
    (hk : As.length = k) (hls : ls.size = nL) (hst : st = As.reverse ++ rest) (hrm : (rest.map fun v => v.category).sum ≤ 8) (hdg : decode cc pc = .ok (.invokestatic idx, 3)) (hcs : cells + mc ≤ R.cells ∧ slots + ms ≤ R.slots) :
    va_Run p l e R s m args below meth c H locs cells slots mc ms (F0 m pc ls st) rest (Qc As.toArray) free := by
  obtain ⟨h1, h3, h4, h5⟩ := hY
  have hT : GoodIn hk_w (va_wsS own idx y (Cond.code y yb yn ret :: hk_w)) := hk_all (by
    intro w hw
    unfold va_wsS at hw
    rcases List.mem_append.mp hw with h | h
    · simp only [List.mem_cons, List.not_mem_nil, or_false] at h
      rcases h with rfl | rfl | rfl <;> assumption
    · rcases List.mem_cons.mp h with rfl | h
      · exact h4
      · exact h)
  have hp := hk_pre (av := As) C hPc hDc
  exact va_runS ⟨C.1, C.2.1, C.2.2.2.1, C.2.2.2.2.1, C.2.2.2.2.2.1⟩ hM (va_cwS k C.2.2.2.2.2.1 hT rfl hrc hrs h5 hR) hp rfl hk hls hst (lv_room hrm) hdg hcs
theorem hk_fr (hD : va_D A ws) (hS : va_S A H0 H locs) (hA : ∀ q, H0.size ≤ q → A q) (is : List Nat) (hC : is.map (fun i => ws[i]?) = wc.map some) : ∀ q, va_A wc H.size q → A q := va_free hD hS hA is hC
theorem hk_fm {α : Type} {f : Nat → Option α} {is : List Nat} {l : List α} (h : is.map f = l.map some) : is.filterMap f = l := by
  have e : is.filterMap f = (is.map f).filterMap id := by rw [List.filterMap_map]; rfl
  rw [e, h, List.filterMap_map]
  simp
/-- behind a call over the whole world: an int comes -/
theorem hk_goI {r : Int32} {av : Array Value} (hr : va_Run p l e R s m args below meth c H locs cells slots 0 0 (F0 m pc ls st) rest (va_Qi (fun (x : Int32) (_ : Unit) => x = r) (hk_B G ws w1 H.size) (va_A ws H.size) av) (va_A ws H.size)) (hD : va_D A ws) (hS : va_S A H0 H locs) (hA : ∀ q, H0.size ≤ q → A q)
    (kk : ∀ (H1 : Heap) (locs1 : List Loc), va_P (hk_D G) classes w1 H1 → va_D A w1 → va_S A H0 H1 locs1 → W p l e R s m args below meth c H1 locs1 cells slots Q (F0 m (pc + 3) ls (.int r :: rest))) : W p l e R s m args below meth c H locs cells slots Q (F0 m pc ls st) := by
  have hF : ∀ q, va_A ws H.size q → A q := fun q hq => by
    rcases hq with ⟨k, e, h⟩ | h
    · exact hD.2 k _ h
    · exact hA q (Nat.le_trans hS.1 h)
  refine va_calli hr hS (fun q _ h => hF q h) hF (fun r' u t H1 locs1 ht hvm hp hB hz hk hS1 => ?_)
  have hp : r' = r := hp
  subst hp
  obtain ⟨hP1, hD1⟩ := hB
  rw [ht] at hP1
  exact kk H1 locs1 hP1 (hD1.weaken (fun _ _ _ h => hF _ h)) hS1
theorem hk_goV {av : Array Value} (hr : va_Run p l e R s m args below meth c H locs cells slots 0 0 (F0 m pc ls st) rest (va_Qv (fun (_ : Unit) => True) (hk_B G ws w1 H.size) (va_A ws H.size) av) (va_A ws H.size)) (hD : va_D A ws) (hS : va_S A H0 H locs) (hA : ∀ q, H0.size ≤ q → A q)
    (kk : ∀ (H1 : Heap) (locs1 : List Loc), va_P (hk_D G) classes w1 H1 → va_D A w1 → va_S A H0 H1 locs1 → W p l e R s m args below meth c H1 locs1 cells slots Q (F0 m (pc + 3) ls rest)) : W p l e R s m args below meth c H locs cells slots Q (F0 m pc ls st) := by
  have hF : ∀ q, va_A ws H.size q → A q := fun q hq => by
    rcases hq with ⟨k, e, h⟩ | h
    · exact hD.2 k _ h
    · exact hA q (Nat.le_trans hS.1 h)
  refine va_callv hr hS (fun q _ h => hF q h) hF (fun u t H1 locs1 ht hvm hp hB hz hk hS1 => ?_)
  obtain ⟨hP1, hD1⟩ := hB
  rw [ht] at hP1
  exact kk H1 locs1 hP1 (hD1.weaken (fun _ _ _ h => hF _ h)) hS1
/-- behind a call over a part of the world (places isC; the rest isR; isN puts them into w2's order): an int comes -/
theorem hk_goIc {r : Int32} {av : Array Value} {wc1 : va_W} (hr : va_Run p l e R s m args below meth c H locs cells slots 0 0 (F0 m pc ls st) rest (va_Qi (fun (x : Int32) (_ : Unit) => x = r) (hk_B G wc wc1 H.size) (va_A wc H.size) av) (va_A wc H.size)) (hP : va_P (hk_D G) classes ws H) (hD : va_D A ws) (hS : va_S A H0 H locs) (hA : ∀ q, H0.size ≤ q → A q)
    (isC isR isN : List Nat) (hC : isC.map (fun i => ws[i]?) = wc.map some) (hRs : isR.map (fun i => ws[i]?) = (isR.filterMap (fun i => ws[i]?)).map some) (hn : va_nd isR = true) (hdis : ∀ i ∈ isR, i ∉ isC) (hN : isN.map (fun i => (isR.filterMap (fun i => ws[i]?) ++ wc1)[i]?) = w2.map some) (hnN : va_nd isN = true)
    (kk : ∀ (H1 : Heap) (locs1 : List Loc), va_P (hk_D G) classes w2 H1 → va_D A w2 → va_S A H0 H1 locs1 → W p l e R s m args below meth c H1 locs1 cells slots Q (F0 m (pc + 3) ls (.int r :: rest))) : W p l e R s m args below meth c H locs cells slots Q (F0 m pc ls st) := by
  have hF := hk_fr hD hS hA isC hC
  refine va_calli hr hS (fun q _ h => hF q h) hF (fun r' u t H1 locs1 ht hvm hp hB hz hk hS1 => ?_)
  have hp : r' = r := hp
  subst hp
  obtain ⟨hP1, hD1⟩ := hB
  rw [ht] at hP1
  obtain ⟨hP2, hD2⟩ := va_join hP hD isC isR hC hRs hn hdis hk hF hP1 hD1
  exact kk H1 locs1 (hP2.sub isN (hk_fm hN)) (hD2.sub isN hnN hN) hS1
theorem hk_goVc {av : Array Value} {wc1 : va_W} (hr : va_Run p l e R s m args below meth c H locs cells slots 0 0 (F0 m pc ls st) rest (va_Qv (fun (_ : Unit) => True) (hk_B G wc wc1 H.size) (va_A wc H.size) av) (va_A wc H.size)) (hP : va_P (hk_D G) classes ws H) (hD : va_D A ws) (hS : va_S A H0 H locs) (hA : ∀ q, H0.size ≤ q → A q)
    (isC isR isN : List Nat) (hC : isC.map (fun i => ws[i]?) = wc.map some) (hRs : isR.map (fun i => ws[i]?) = (isR.filterMap (fun i => ws[i]?)).map some) (hn : va_nd isR = true) (hdis : ∀ i ∈ isR, i ∉ isC) (hN : isN.map (fun i => (isR.filterMap (fun i => ws[i]?) ++ wc1)[i]?) = w2.map some) (hnN : va_nd isN = true)
    (kk : ∀ (H1 : Heap) (locs1 : List Loc), va_P (hk_D G) classes w2 H1 → va_D A w2 → va_S A H0 H1 locs1 → W p l e R s m args below meth c H1 locs1 cells slots Q (F0 m (pc + 3) ls rest)) : W p l e R s m args below meth c H locs cells slots Q (F0 m pc ls st) := by
  have hF := hk_fr hD hS hA isC hC
  refine va_callv hr hS (fun q _ h => hF q h) hF (fun u t H1 locs1 ht hvm hp hB hz hk hS1 => ?_)
  obtain ⟨hP1, hD1⟩ := hB
  rw [ht] at hP1
  obtain ⟨hP2, hD2⟩ := va_join hP hD isC isR hC hRs hn hdis hk hF hP1 hD1
  exact kk H1 locs1 (hP2.sub isN (hk_fm hN)) (hD2.sub isN hnN hN) hS1
/-- behind a call that needs no cell: an int comes, the world stays -/
theorem hk_goIe {r : Int32} {av : Array Value} (hr : va_Run p l e R s m args below meth c H locs cells slots 0 0 (F0 m pc ls st) rest (va_Qi (fun (x : Int32) (_ : Unit) => x = r) (hk_B G [] [] H.size) (va_A [] H.size) av) (va_A [] H.size)) (hP : va_P (hk_D G) classes ws H) (hS : va_S A H0 H locs) (hA : ∀ q, H0.size ≤ q → A q)
    (kk : ∀ (H1 : Heap) (locs1 : List Loc), va_P (hk_D G) classes ws H1 → va_S A H0 H1 locs1 → W p l e R s m args below meth c H1 locs1 cells slots Q (F0 m (pc + 3) ls (.int r :: rest))) : W p l e R s m args below meth c H locs cells slots Q (F0 m pc ls st) := by
  have hF : ∀ q, va_A [] H.size q → A q := fun q hq => by
    rcases hq with ⟨k, e, h⟩ | h
    · simp at h
    · exact hA q (Nat.le_trans hS.1 h)
  refine va_calli hr hS (fun q _ h => hF q h) hF (fun r' u t H1 locs1 ht hvm hp hB hz hk hS1 => ?_)
  have hp : r' = r := hp
  subst hp
  refine kk H1 locs1 (hP.kept fun k q hq => hk q.1 (hP k q hq).lt fun z => ?_) hS1
  have hlt := (hP k q hq).lt
  rcases z with ⟨k, e, h⟩ | h
  · simp at h
  · omega
/-- getfield of the own class -/
theorem hk_get (C : hk_C p s m meth c own cc nL ret0 args G) (hP : va_P (hk_D G) classes ws H) (q0 ci k : Nat) {Cn : String} {T : u_T} {N : Nat} (hin : ∀ w ∈ u_ws Cn T N, w ∈ hk_w) {fs : List Value} (he : ws[q0]? = some (a, .inr (ci, fs))) (hc : classes[ci]? = some (Cn, T, N)) (hk : k < N) (hl : Cond.fieldLink own idx (T k).1 (T k).2.1 (T k).2.2.1 ∈ hk_w) {v : Value} (hv : fs[k]? = some v) (hdg : decode cc pc = .ok (.getfield idx, 3))
    (kk : W p l e R s m args below meth c H locs cells slots Q (F0 m (pc + 3) ls (v :: rest))) : W p l e R s m args below meth c H locs cells slots Q (F0 m pc ls (.ref a :: rest)) :=
  va_get C.1 C.2.1 C.2.2.2.2.2.1 hin C.2.2.2.2.1 C.2.2.2.2.2.2.2.1 hP q0 he hc k hk (C.2.2.2.2.2.1 _ hl) (fun _ h9 => h9) hv hdg kk
/-- getfield of a nest mate's private field -/
theorem hk_getN {host : String} (C : hk_C p s m meth c own cc nL ret0 args G) (hP : va_P (hk_D G) classes ws H) (q0 ci k : Nat) {Cn : String} {T : u_T} {N : Nat} (hin : ∀ w ∈ u_ws Cn T N, w ∈ hk_w) {fs : List Value} (he : ws[q0]? = some (a, .inr (ci, fs))) (hc : classes[ci]? = some (Cn, T, N)) (hk : k < N) (hl : Cond.fieldLinkNest own idx (T k).1 (T k).2.1 (T k).2.2.1 host ∈ lw_tbl) {v : Value} (hv : fs[k]? = some v) (hdg : decode cc pc = .ok (.getfield idx, 3))
    (kk : W p l e R s m args below meth c H locs cells slots Q (F0 m (pc + 3) ls (v :: rest))) : W p l e R s m args below meth c H locs cells slots Q (F0 m pc ls (.ref a :: rest)) :=
  va_getN C.1 C.2.1 C.2.2.2.2.2.1 hin C.2.2.2.2.1 C.2.2.2.2.2.2.2.1 hP q0 he hc k hk (va_Nw.use rfl (C.2.2.2.2.2.2.2.2.1 _ hl rfl)) (fun _ h9 => h9) hv hdg kk
/-- putfield of the own class -/
theorem hk_put (C : hk_C p s m meth c own cc nL ret0 args G) (hP : va_P (hk_D G) classes ws H) (hD : va_D A ws) (hS : va_S A H0 H locs) (q0 ci k : Nat) {Cn : String} {T : u_T} {N : Nat} (hin : ∀ w ∈ u_ws Cn T N, w ∈ hk_w) {ty0 : Nat → FieldType} (hty : ∀ k, k < N → parseFieldDescriptor (T k).2.2.1 = some (ty0 k)) (hnm : ∀ a, a < N → ∀ b, b < N → a ≠ b → (T a).2.1 ≠ (T b).2.1) {fs : List Value} (he : ws[q0]? = some (a, .inr (ci, fs))) (hc : classes[ci]? = some (Cn, T, N)) (hk : k < N) (hl : Cond.fieldLink own idx (T k).1 (T k).2.1 (T k).2.2.1 ∈ hk_w) (hfin : (T k).2.2.2 = false) {ty : FieldType} {v : Value} (hd : parseFieldDescriptor (T k).2.2.1 = some ty) (hn : narrow ty v = v) (hfit : fits ty v = true) (hlen : k < fs.length) (hw : ws.set q0 (a, .inr (ci, fs.set k v)) = w2) (hdg : decode cc pc = .ok (.putfield idx, 3))
    (kk : ∀ (H1 : Heap) (locs1 : List Loc), va_P (hk_D G) classes w2 H1 → va_D A w2 → va_S A H0 H1 locs1 → W p l e R s m args below meth c H1 locs1 cells slots Q (F0 m (pc + 3) ls rest)) : W p l e R s m args below meth c H locs cells slots Q (F0 m pc ls (v :: .ref a :: rest)) := by
  subst hw
  exact va_put C.1 C.2.1 C.2.2.2.2.2.1 hin ty0 hty hnm C.2.2.2.2.1 C.2.2.2.2.2.2.2.1 hP hD hS q0 he hc k hk (C.2.2.2.2.2.1 _ hl) (fun _ h9 => h9) hfin hd hn hfit hlen hdg kk
/-- putfield of a nest mate's private field -/
theorem hk_putN {host : String} (C : hk_C p s m meth c own cc nL ret0 args G) (hP : va_P (hk_D G) classes ws H) (hD : va_D A ws) (hS : va_S A H0 H locs) (q0 ci k : Nat) {Cn : String} {T : u_T} {N : Nat} (hin : ∀ w ∈ u_ws Cn T N, w ∈ hk_w) {ty0 : Nat → FieldType} (hty : ∀ k, k < N → parseFieldDescriptor (T k).2.2.1 = some (ty0 k)) (hnm : ∀ a, a < N → ∀ b, b < N → a ≠ b → (T a).2.1 ≠ (T b).2.1) {fs : List Value} (he : ws[q0]? = some (a, .inr (ci, fs))) (hc : classes[ci]? = some (Cn, T, N)) (hk : k < N) (hl : Cond.fieldLinkNest own idx (T k).1 (T k).2.1 (T k).2.2.1 host ∈ lw_tbl) (hfin : (T k).2.2.2 = false) {ty : FieldType} {v : Value} (hd : parseFieldDescriptor (T k).2.2.1 = some ty) (hn : narrow ty v = v) (hfit : fits ty v = true) (hlen : k < fs.length) (hw : ws.set q0 (a, .inr (ci, fs.set k v)) = w2) (hdg : decode cc pc = .ok (.putfield idx, 3))
    (kk : ∀ (H1 : Heap) (locs1 : List Loc), va_P (hk_D G) classes w2 H1 → va_D A w2 → va_S A H0 H1 locs1 → W p l e R s m args below meth c H1 locs1 cells slots Q (F0 m (pc + 3) ls rest)) : W p l e R s m args below meth c H locs cells slots Q (F0 m pc ls (v :: .ref a :: rest)) := by
  subst hw
  exact va_putN C.1 C.2.1 C.2.2.2.2.2.1 hin ty0 hty hnm C.2.2.2.2.1 C.2.2.2.2.2.2.2.1 hP hD hS q0 he hc k hk (va_Nw.use rfl (C.2.2.2.2.2.2.2.2.1 _ hl rfl)) (fun _ h9 => h9) hfin hd hn hfit hlen hdg kk
theorem hk_ild (C : hk_C p s m meth c own cc nL ret0 args G) (hP : va_P (hk_D G) classes ws H) (q0 t0 : Nat) {cA : ClassId} {N : Nat} {f : Nat → Int32} (ha : ws[q0]? = some (a, .inl (cA, N, .inl f))) (ht : (hk_ty G)[t0]? = some (cA, .int)) {i v : Int32} (hin : vp_in i N) (hv : f i.toNatClampNeg = v) (hdg : decode cc pc = .ok (.iaload, 1))
    (kk : W p l e R s m args below meth c H locs cells slots Q (F0 m (pc + 1) ls (.int v :: rest))) : W p l e R s m args below meth c H locs cells slots Q (F0 m pc ls (.int i :: .ref a :: rest)) := by
  subst hv
  exact va_iald C.1 C.2.1 C.2.2.2.2.2.2.2.1 hP q0 t0 ha ht hin hdg kk
theorem hk_zld (C : hk_C p s m meth c own cc nL ret0 args G) (hP : va_P (hk_D G) classes ws H) (q0 t0 : Nat) {cA : ClassId} {N : Nat} {f : Nat → Int32} (ha : ws[q0]? = some (a, .inl (cA, N, .inl f))) (ht : (hk_ty G)[t0]? = some (cA, .boolean)) {i v : Int32} (hin : vp_in i N) (hv : f i.toNatClampNeg = v) (hdg : decode cc pc = .ok (.baload, 1))
    (kk : W p l e R s m args below meth c H locs cells slots Q (F0 m (pc + 1) ls (.int v :: rest))) : W p l e R s m args below meth c H locs cells slots Q (F0 m pc ls (.int i :: .ref a :: rest)) := by
  subst hv
  exact va_zald C.1 C.2.1 C.2.2.2.2.2.2.2.1 hP q0 t0 ha ht hin hdg kk
theorem hk_ist (C : hk_C p s m meth c own cc nL ret0 args G) (hP : va_P (hk_D G) classes ws H) (hD : va_D A ws) (hS : va_S A H0 H locs) (q0 t0 : Nat) {cA : ClassId} {N : Nat} {f : Nat → Int32} (ha : ws[q0]? = some (a, .inl (cA, N, .inl f))) (ht : (hk_ty G)[t0]? = some (cA, .int)) {i x : Int32} (hin : vp_in i N) (hw : ws.set q0 (a, .inl (cA, N, .inl (upd f i.toNatClampNeg x))) = w2) (hdg : decode cc pc = .ok (.iastore, 1))
    (kk : ∀ (H1 : Heap) (locs1 : List Loc), va_P (hk_D G) classes w2 H1 → va_D A w2 → va_S A H0 H1 locs1 → W p l e R s m args below meth c H1 locs1 cells slots Q (F0 m (pc + 1) ls rest)) : W p l e R s m args below meth c H locs cells slots Q (F0 m pc ls (.int x :: .int i :: .ref a :: rest)) := by
  subst hw
  exact va_iast C.1 C.2.1 C.2.2.2.2.2.2.2.1 hP hD hS q0 t0 ha ht hin hdg kk
theorem hk_nar01 {x : Int32} (h : x = 0 ∨ x = 1) : vp_nar .boolean x = x := by rcases h with rfl | rfl <;> rfl
theorem hk_zst (C : hk_C p s m meth c own cc nL ret0 args G) (hP : va_P (hk_D G) classes ws H) (hD : va_D A ws) (hS : va_S A H0 H locs) (q0 t0 : Nat) {cA : ClassId} {N : Nat} {f : Nat → Int32} (ha : ws[q0]? = some (a, .inl (cA, N, .inl f))) (ht : (hk_ty G)[t0]? = some (cA, .boolean)) {i x : Int32} (hin : vp_in i N) (h01 : x = 0 ∨ x = 1) (hw : ws.set q0 (a, .inl (cA, N, .inl (upd f i.toNatClampNeg x))) = w2) (hdg : decode cc pc = .ok (.bastore, 1))
    (kk : ∀ (H1 : Heap) (locs1 : List Loc), va_P (hk_D G) classes w2 H1 → va_D A w2 → va_S A H0 H1 locs1 → W p l e R s m args below meth c H1 locs1 cells slots Q (F0 m (pc + 1) ls rest)) : W p l e R s m args below meth c H locs cells slots Q (F0 m pc ls (.int x :: .int i :: .ref a :: rest)) := by
  subst hw
  refine va_zast C.1 C.2.1 C.2.2.2.2.2.2.2.1 hP hD hS q0 t0 ha ht hin hdg ?_
  rw [hk_nar01 h01]
  exact kk
/-- aaload, from an array of objects -/
theorem hk_ald (C : hk_C p s m meth c own cc nL ret0 args G) (hP : va_P (hk_D G) classes ws H) (q0 t0 : Nat) {cA : ClassId} {Cn : String} {N : Nat} {f : Nat → Option Nat} (ha : ws[q0]? = some (a, .inl (cA, N, .inr (.inr (.inr (.inr f)))))) (ht : (hk_ty G)[t0]? = some (cA, .object Cn)) {i : Int32} {v : Nat} (hin : vp_in i N) (hv : f i.toNatClampNeg = some v) (hdg : decode cc pc = .ok (.aaload, 1))
    (kk : W p l e R s m args below meth c H locs cells slots Q (F0 m (pc + 1) ls (.ref v :: rest))) : W p l e R s m args below meth c H locs cells slots Q (F0 m pc ls (.int i :: .ref a :: rest)) := by
  refine va_aldq C.1 C.2.1 C.2.2.2.2.2.2.2.1 hP q0 t0 ha ht hin hdg ?_
  rw [hv]
  exact kk
/-- aaload, from an array of arrays of ints -/
theorem hk_aldg (C : hk_C p s m meth c own cc nL ret0 args G) (hP : va_P (hk_D G) classes ws H) (q0 t0 : Nat) {cA : ClassId} {N : Nat} {f : Nat → Option Nat} (ha : ws[q0]? = some (a, .inl (cA, N, .inr (.inr (.inr (.inr f)))))) (ht : (hk_ty G)[t0]? = some (cA, .array .int)) {i : Int32} {v : Nat} (hin : vp_in i N) (hv : f i.toNatClampNeg = some v) (hdg : decode cc pc = .ok (.aaload, 1))
    (kk : W p l e R s m args below meth c H locs cells slots Q (F0 m (pc + 1) ls (.ref v :: rest))) : W p l e R s m args below meth c H locs cells slots Q (F0 m pc ls (.int i :: .ref a :: rest)) := by
  have hlt : i.toNatClampNeg < N := Nat.not_le.mp fun q => hin (Or.inr q)
  have hK := C.2.2.2.2.2.2.2.1
  refine W.aald (v := va_rf (f i.toNatClampNeg)) (ty := .array .int) C.1 C.2.1 (hP q0 _ ha) ((hK.2 t0 _ ht).1 N (fun j => va_rf (f j))) rfl (fun q => by cases q) (by show ¬ (i < 0 ∨ (arrV _ _ _).slots.size ≤ _); rw [arrV_size]; exact hin) (by show (arrV _ _ _).slots[_]? = _; rw [arrV_read _ _ hlt]) rfl rfl hdg ?_
  rw [hv]
  exact kk
theorem hk_fold {x z : Int32} (h : x = z) (kk : W p l e R s m args below meth c H locs cells slots Q (F0 m pc ls (.int z :: rest))) : W p l e R s m args below meth c H locs cells slots Q (F0 m pc ls (.int x :: rest)) := by
  subst h
  exact kk
theorem hk_mmax (C : hk_C p s m meth c own cc nL ret0 args G) (hl : Cond.methodLink own idx Lib.Math.max.name ∈ hk_w) (hf : 1 ≤ R.frames) (hlo : (rest.map fun v => v.category).sum + 13 ≤ R.locals) (hc : cells ≤ R.cells) (hs : slots ≤ R.slots) (hls : ls.size = nL) {x z : Int32} (hdg : decode cc pc = .ok (.invokestatic idx, 3))
    (kk : W p l e R s m args below meth c H locs cells slots Q (F0 m (pc + 3) ls (.int (mx x z) :: rest))) : W p l e R s m args below meth c H locs cells slots Q (F0 m pc ls (.int z :: .int x :: rest)) :=
  va_mmax C.1 C.2.1 (C.2.2.2.1.trans hls.symm) C.2.2.2.2.1 (C.2.2.2.2.2.1 _ hl) (C.2.2.2.2.2.1 _ YM_max.1) (C.2.2.2.2.2.1 _ YM_max.2.1) (C.2.2.2.2.2.1 _ YM_max.2.2) hf hlo hc hs hdg kk
theorem hk_mmin (C : hk_C p s m meth c own cc nL ret0 args G) (hl : Cond.methodLink own idx Lib.Math.min.name ∈ hk_w) (hf : 1 ≤ R.frames) (hlo : (rest.map fun v => v.category).sum + 13 ≤ R.locals) (hc : cells ≤ R.cells) (hs : slots ≤ R.slots) (hls : ls.size = nL) {x z : Int32} (hdg : decode cc pc = .ok (.invokestatic idx, 3))
    (kk : W p l e R s m args below meth c H locs cells slots Q (F0 m (pc + 3) ls (.int (mn x z) :: rest))) : W p l e R s m args below meth c H locs cells slots Q (F0 m pc ls (.int z :: .int x :: rest)) :=
  va_mmin C.1 C.2.1 (C.2.2.2.1.trans hls.symm) C.2.2.2.2.1 (C.2.2.2.2.2.1 _ hl) (C.2.2.2.2.2.1 _ YM_min.1) (C.2.2.2.2.2.1 _ YM_min.2.1) (C.2.2.2.2.2.1 _ YM_min.2.2) hf hlo hc hs hdg kk
theorem hk_mabs (C : hk_C p s m meth c own cc nL ret0 args G) (hl : Cond.methodLink own idx Lib.Math.abs.name ∈ hk_w) (hf : 1 ≤ R.frames) (hlo : (rest.map fun v => v.category).sum + 13 ≤ R.locals) (hc : cells ≤ R.cells) (hs : slots ≤ R.slots) (hls : ls.size = nL) {x : Int32} (hdg : decode cc pc = .ok (.invokestatic idx, 3))
    (kk : W p l e R s m args below meth c H locs cells slots Q (F0 m (pc + 3) ls (.int (ab x) :: rest))) : W p l e R s m args below meth c H locs cells slots Q (F0 m pc ls (.int x :: rest)) :=
  va_mabs C.1 C.2.1 (C.2.2.2.1.trans hls.symm) C.2.2.2.2.1 (C.2.2.2.2.2.1 _ hl) (C.2.2.2.2.2.1 _ YM_abs.1) (C.2.2.2.2.2.1 _ YM_abs.2.1) (C.2.2.2.2.2.1 _ YM_abs.2.2) hf hlo hc hs hdg kk
end HKW
end
section
/-! WORLDS: the pictures of the objects -/
abbrev cS : Type := Int32 × Int32 × Int32
abbrev cL : Type := (Nat → Int32) × (Nat → Int32) × (Nat → Int32) × Int32 × Int32 × Int32
abbrev cB : Type := (Nat → Int32) × (Nat → Int32) × (Nat → Int32) × (Nat → cS) × cS × (Nat → cS) × cL × (Nat → Nat → Int32) × Int32 × Int32 × Int32 × Int32 × Int32 × Int32
def l0 (u : cL) : Nat → Int32 := u.1
def l1 (u : cL) : Nat → Int32 := u.2.1
def l2 (u : cL) : Nat → Int32 := u.2.2.1
def l3 (u : cL) : Int32 := u.2.2.2.1
def l4 (u : cL) : Int32 := u.2.2.2.2.1
def l5 (u : cL) : Int32 := u.2.2.2.2.2
def t0 (u : cL) (v : Nat → Int32) : cL := (v, u.2)
def t1 (u : cL) (v : Nat → Int32) : cL := (u.1, v, u.2.2)
def t2 (u : cL) (v : Nat → Int32) : cL := (u.1, u.2.1, v, u.2.2.2)
def t3 (u : cL) (v : Int32) : cL := (u.1, u.2.1, u.2.2.1, v, u.2.2.2.2)
def t4 (u : cL) (v : Int32) : cL := (u.1, u.2.1, u.2.2.1, u.2.2.2.1, v, u.2.2.2.2.2)
def t5 (u : cL) (v : Int32) : cL := (u.1, u.2.1, u.2.2.1, u.2.2.2.1, u.2.2.2.2.1, v)
def b0 (u : cB) : Nat → Int32 := u.1
def b1 (u : cB) : Nat → Int32 := u.2.1
def b2 (u : cB) : Nat → Int32 := u.2.2.1
def b3 (u : cB) : Nat → cS := u.2.2.2.1
def b4 (u : cB) : cS := u.2.2.2.2.1
def b5 (u : cB) : Nat → cS := u.2.2.2.2.2.1
def b6 (u : cB) : cL := u.2.2.2.2.2.2.1
def b7 (u : cB) : Nat → Nat → Int32 := u.2.2.2.2.2.2.2.1
def b8 (u : cB) : Int32 := u.2.2.2.2.2.2.2.2.1
def b9 (u : cB) : Int32 := u.2.2.2.2.2.2.2.2.2.1
def b10 (u : cB) : Int32 := u.2.2.2.2.2.2.2.2.2.2.1
def b11 (u : cB) : Int32 := u.2.2.2.2.2.2.2.2.2.2.2.1
def b12 (u : cB) : Int32 := u.2.2.2.2.2.2.2.2.2.2.2.2.1
def b13 (u : cB) : Int32 := u.2.2.2.2.2.2.2.2.2.2.2.2.2
def s0 (u : cB) (v : Nat → Int32) : cB := (v, u.2)
def s1 (u : cB) (v : Nat → Int32) : cB := (u.1, v, u.2.2)
def s2 (u : cB) (v : Nat → Int32) : cB := (u.1, u.2.1, v, u.2.2.2)
def s3 (u : cB) (v : Nat → cS) : cB := (u.1, u.2.1, u.2.2.1, v, u.2.2.2.2)
def s4 (u : cB) (v : cS) : cB := (u.1, u.2.1, u.2.2.1, u.2.2.2.1, v, u.2.2.2.2.2)
def s5 (u : cB) (v : Nat → cS) : cB := (u.1, u.2.1, u.2.2.1, u.2.2.2.1, u.2.2.2.2.1, v, u.2.2.2.2.2.2)
def s6 (u : cB) (v : cL) : cB := (u.1, u.2.1, u.2.2.1, u.2.2.2.1, u.2.2.2.2.1, u.2.2.2.2.2.1, v, u.2.2.2.2.2.2.2)
def s7 (u : cB) (v : Nat → Nat → Int32) : cB := (u.1, u.2.1, u.2.2.1, u.2.2.2.1, u.2.2.2.2.1, u.2.2.2.2.2.1, u.2.2.2.2.2.2.1, v, u.2.2.2.2.2.2.2.2)
def s8 (u : cB) (v : Int32) : cB := (u.1, u.2.1, u.2.2.1, u.2.2.2.1, u.2.2.2.2.1, u.2.2.2.2.2.1, u.2.2.2.2.2.2.1, u.2.2.2.2.2.2.2.1, v, u.2.2.2.2.2.2.2.2.2)
def s9 (u : cB) (v : Int32) : cB := (u.1, u.2.1, u.2.2.1, u.2.2.2.1, u.2.2.2.2.1, u.2.2.2.2.2.1, u.2.2.2.2.2.2.1, u.2.2.2.2.2.2.2.1, u.2.2.2.2.2.2.2.2.1, v, u.2.2.2.2.2.2.2.2.2.2)
def s10 (u : cB) (v : Int32) : cB := (u.1, u.2.1, u.2.2.1, u.2.2.2.1, u.2.2.2.2.1, u.2.2.2.2.2.1, u.2.2.2.2.2.2.1, u.2.2.2.2.2.2.2.1, u.2.2.2.2.2.2.2.2.1, u.2.2.2.2.2.2.2.2.2.1, v, u.2.2.2.2.2.2.2.2.2.2.2)
def s11 (u : cB) (v : Int32) : cB := (u.1, u.2.1, u.2.2.1, u.2.2.2.1, u.2.2.2.2.1, u.2.2.2.2.2.1, u.2.2.2.2.2.2.1, u.2.2.2.2.2.2.2.1, u.2.2.2.2.2.2.2.2.1, u.2.2.2.2.2.2.2.2.2.1, u.2.2.2.2.2.2.2.2.2.2.1, v, u.2.2.2.2.2.2.2.2.2.2.2.2)
def s12 (u : cB) (v : Int32) : cB := (u.1, u.2.1, u.2.2.1, u.2.2.2.1, u.2.2.2.2.1, u.2.2.2.2.2.1, u.2.2.2.2.2.2.1, u.2.2.2.2.2.2.2.1, u.2.2.2.2.2.2.2.2.1, u.2.2.2.2.2.2.2.2.2.1, u.2.2.2.2.2.2.2.2.2.2.1, u.2.2.2.2.2.2.2.2.2.2.2.1, v, u.2.2.2.2.2.2.2.2.2.2.2.2.2)
def s13 (u : cB) (v : Int32) : cB := (u.1, u.2.1, u.2.2.1, u.2.2.2.1, u.2.2.2.2.1, u.2.2.2.2.2.1, u.2.2.2.2.2.2.1, u.2.2.2.2.2.2.2.1, u.2.2.2.2.2.2.2.2.1, u.2.2.2.2.2.2.2.2.2.1, u.2.2.2.2.2.2.2.2.2.2.1, u.2.2.2.2.2.2.2.2.2.2.2.1, u.2.2.2.2.2.2.2.2.2.2.2.2.1, v)
def wS (a0 : Nat) (x : cS) : va_W := [(a0, .inr (0, [.int x.1, .int x.2.1, .int x.2.2]))]
def wP (a0 : Nat) (x : cS) : va_W := [(a0, .inr (1, [.int x.1, .int x.2.1, .int x.2.2]))]
def wN (a0 : Nat) (x : cS) : va_W := [(a0, .inr (2, [.int x.1, .int x.2.1, .int x.2.2]))]
def hk_rf (f : Nat → Nat) (n : Nat) : Nat → Option Nat := fun j => if j < n then some (f j) else none
def wL (G : hk_G) (a0 a1 a2 a3 : Nat) (x : cL) : va_W := [(a0, .inr (3, [.ref a1, .ref a2, .ref a3, .int (l3 x), .int (l4 x), .int (l5 x)])), (a1, .inl (G.2.2 0, 12, .inl (l0 x))), (a2, .inl (G.2.2 1, 12, .inl (l1 x))), (a3, .inl (G.2.2 1, 12, .inl (l2 x)))]
def wB (G : hk_G) (ad : Nat → Nat) (u : cB) : va_W := [(ad 0, .inr (4, [.ref (ad 1), .ref (ad 2), .ref (ad 3), .ref (ad 4), .ref (ad 7), .ref (ad 8), .ref (ad 13), .ref (ad 17), .int (b8 u), .int (b9 u), .int (b10 u), .int (b11 u), .int (b12 u), .int (b13 u)])), (ad 1, .inl (G.2.2 0, 9, .inl (b0 u))), (ad 2, .inl (G.2.2 0, 10, .inl (b1 u))), (ad 3, .inl (G.2.2 1, 6, .inl (b2 u))), (ad 4, .inl (G.2.2 2, 2, .inr (.inr (.inr (.inr (hk_rf (fun j => ad (5 + j)) 2)))))), (ad 5, .inr (0, [.int (b3 u 0).1, .int (b3 u 0).2.1, .int (b3 u 0).2.2])), (ad 6, .inr (0, [.int (b3 u 1).1, .int (b3 u 1).2.1, .int (b3 u 1).2.2])), (ad 7, .inr (1, [.int (b4 u).1, .int (b4 u).2.1, .int (b4 u).2.2])), (ad 8, .inl (G.2.2 3, 4, .inr (.inr (.inr (.inr (hk_rf (fun j => ad (9 + j)) 4)))))), (ad 9, .inr (2, [.int (b5 u 0).1, .int (b5 u 0).2.1, .int (b5 u 0).2.2])), (ad 10, .inr (2, [.int (b5 u 1).1, .int (b5 u 1).2.1, .int (b5 u 1).2.2])), (ad 11, .inr (2, [.int (b5 u 2).1, .int (b5 u 2).2.1, .int (b5 u 2).2.2])), (ad 12, .inr (2, [.int (b5 u 3).1, .int (b5 u 3).2.1, .int (b5 u 3).2.2])), (ad 13, .inr (3, [.ref (ad 14), .ref (ad 15), .ref (ad 16), .int (l3 (b6 u)), .int (l4 (b6 u)), .int (l5 (b6 u))])), (ad 14, .inl (G.2.2 0, 12, .inl (l0 (b6 u)))), (ad 15, .inl (G.2.2 1, 12, .inl (l1 (b6 u)))), (ad 16, .inl (G.2.2 1, 12, .inl (l2 (b6 u)))), (ad 17, .inl (G.2.2 4, 4, .inr (.inr (.inr (.inr (hk_rf (fun j => ad (18 + j)) 4)))))), (ad 18, .inl (G.2.2 0, 5, .inl (b7 u 0))), (ad 19, .inl (G.2.2 0, 5, .inl (b7 u 1))), (ad 20, .inl (G.2.2 0, 5, .inl (b7 u 2))), (ad 21, .inl (G.2.2 0, 5, .inl (b7 u 3)))]
/-! HK2: rows of constructors: objects and arrays come to be -/
def hk_BC (G : hk_G) (w0 : va_W) (w1 : (Nat → Nat) → va_W) (sz : Nat) (ad : Nat → Nat) (t : State) : Prop := va_P (hk_D G) classes (w1 ad) t.heap ∧ va_D (va_A w0 sz) (w1 ad)
/-- a void method that makes cells: their addresses come -/
def hk_N (l : Launch) (G : hk_G) (y : MethodName) (b : ByteArray) (n : Nat) (rm : Room) (mc ms : Nat) (av : List Value) (w0 : va_W) (w1 : (Nat → Nat) → va_W) : Prop :=
  ∀ sz : Nat, Met l y (Cond.code y b n none :: hk_w) rm (va_Pc av (hk_P G w0 sz)) (va_Qv (fun (_ : Nat → Nat) => True) (hk_BC G w0 w1 sz) (va_A w0 sz)) mc ms (va_A w0 sz)
theorem hk_N_of {l : Launch} {G : hk_G} {y : MethodName} {b : ByteArray} {n : Nat} {rm : Room} {mc ms : Nat} {av : List Value} {w0 : va_W} {w1 : (Nat → Nat) → va_W} (hy : plainName y.cls = true) (hn : (lg_sl av).length ≤ n)
    (body : ∀ (p : Program) (e : Env) (s : State) (m : MethodId) (below : List Frame) (meth : Method) (c : Code) (A : Nat → Prop) (ls : Array Slot),
      hk_C p s m meth c y.cls b n none av.toArray G → meth.name = y.name → va_A w0 s.heap.size = A → (∀ q : Nat, s.heap.size ≤ q → A q) → va_P (hk_D G) classes w0 s.heap → va_D A w0 → va_S A s.heap s.heap [] → lv_has ls n (lv_args 0 av) →
      W p l e rm s m av.toArray below meth c s.heap [] 0 0 (MQ below (va_Qv (fun (_ : Nat → Nat) => True) (hk_BC G w0 w1 s.heap.size) A) av.toArray s mc ms A) (F0 m 0 ls [])) : hk_N l G y b n rm mc ms av w0 w1 := by
  intro sz
  refine Met.ofW (cc := b) (maxL := n) (ret := none) hy rfl ?_
  intro p e s m args below meth c s₁ B hml hv
  obtain ⟨rfl, hsz, hP, hE, hD0⟩ := hv
  subst hsz
  have hts := atoms_spec (ws := Cond.code y b n none :: hk_w) B.pre
  rw [lg_entry_eq]
  exact body p e s m below meth c (va_A w0 s.heap.size) _ ⟨B.exec, B.bytes, B.returns, hml, findClass_of_methodNamed B.named, fun w h => hts w (List.mem_cons_of_mem _ h), B.notSynchronized, hE⟩ (name_of_methodNamed B.named B.method).1 rfl (fun q h => Or.inr h) hP hD0.self va_S.rf (lv_entry av hn)
section HKN
variable {p : Program} {l : Launch} {e : Env} {R : Room} {s : State} {m : MethodId} {args : Array Value} {below : List Frame} {meth : Method} {c : Code} {H : Heap} {locs : List Loc} {cells slots : Nat} {Q : State → Prop}
variable {own : String} {b cc : ByteArray} {n nL : Nat} {ret ret0 : Option FieldType} {G : hk_G} {A : Nat → Prop} {w0 w : va_W} {pc : Nat} {ls : Array Slot} {rest st : List Value} {H0 : Heap} {ws wc w2 : va_W}
variable {y : MethodName} {yb : ByteArray} {yn k idx : Nat} {rm : Room} {Qc : Array Value → State → Outcome → State → Prop} {free : Addr → Prop} {a : Nat} {As : List Value} {mc ms : Nat}
theorem hk_rn {w1 : (Nat → Nat) → va_W} (ad : Nat → Nat) (C : hk_C p s m meth c own b n none args G) (hA : va_A w0 s.heap.size = A) (hP : va_P (hk_D G) classes w H) (hD : va_D A w) (hS : va_S A s.heap H locs) (hw : w = w1 ad) (hdg : decode b pc = .ok (.return_, 1)) :
    W p l e R s m args below meth c H locs cells slots (MQ below (va_Qv (fun (_ : Nat → Nat) => True) (hk_BC G w0 w1 s.heap.size) A) args s cells slots A) (F0 m pc ls []) := by
  subst hw
  subst hA
  exact W.vret C.1 C.2.1 C.2.2.1 (fun t ht hW => ⟨⟨ad, rfl, trivial, by rw [ht]; exact hP, hD⟩, hS.F ht⟩) hS.2.2 hdg C.2.2.2.2.2.2.1
theorem hk_oi (C : hk_C p s m meth c own cc nL ret0 args G) (hl : Cond.methodLink own idx Lib.objectInit ∈ hk_w) (hls : ls.size = nL) (hf : 1 ≤ R.frames) (hlo : (rest.map fun v => v.category).sum + 12 ≤ R.locals) (hdg : decode cc pc = .ok (.invokespecial idx, 3))
    (kk : W p l e R s m args below meth c H locs cells slots Q (F0 m (pc + 3) ls rest)) : W p l e R s m args below meth c H locs cells slots Q (F0 m pc ls (.ref a :: rest)) :=
  W.objInit C.1 C.2.1 C.2.2.2.2.1 (C.2.2.2.2.2.1 _ hl) (C.2.2.2.2.2.1 _ YO.1) (C.2.2.2.2.2.1 _ YO.2) (g := F0 m pc ls (.ref a :: rest)) rfl (hls.trans C.2.2.2.1.symm) rfl hdg hf (by show 2 * 0 + _ + 12 ≤ _; omega) kk
/-- an array of ints (ty := .int) or booleans, its class as the tables have it -/
theorem hk_newI (C : hk_C p s m meth c own cc nL ret0 args G) (harr : Cond.arrayClass .int ∈ hk_w) (hP : va_P (hk_D G) classes ws H) (hD : va_D A ws) (hS : va_S A H0 H locs) (hA : ∀ q, H0.size ≤ q → A q) (t0 : Nat) {cT : ClassId} (ht : (hk_ty G)[t0]? = some (cT, .int)) {z : Int32} {N : Nat} (hn : ¬ z < 0) (hN : z.toNatClampNeg = N) (hby : N * 4 ≤ 536870912) (hc : cells + 1 ≤ R.cells) (hs : slots + N ≤ R.slots) (hdg : decode cc pc = .ok (.newarray .int, 2))
    (kk : ∀ (q : Nat) (H1 : Heap), va_P (hk_D G) classes (ws ++ [(q, .inl (cT, N, .inl (fun _ => 0)))]) H1 → va_D A (ws ++ [(q, .inl (cT, N, .inl (fun _ => 0)))]) → va_S A H0 H1 locs → W p l e R s m args below meth c H1 locs (cells + 1) (slots + N) Q (F0 m (pc + 2) ls (.ref q :: rest))) : W p l e R s m args below meth c H locs cells slots Q (F0 m pc ls (.int z :: rest)) := by
  have hK := C.2.2.2.2.2.2.2.1
  refine va_newa (atype := .int) C.1 C.2.1 (C.2.2.2.2.2.1 _ harr) (ty := .int) rfl hK hP hD hS hA (a0 := (N, .inl (fun _ => 0))) (fun cA => rfl) hn hN hby hc hs hdg (fun q cA H1 hK1 hP1 hD1 hS1 => ?_)
  have h1 : s.vm.findClass ("[" ++ (FieldType.int).toString) = some cA := (hK1.2 (hk_ty G).length (cA, .int) (by simp)).2
  have h2 : s.vm.findClass ("[" ++ (FieldType.int).toString) = some cT := (hK.2 t0 _ ht).2
  obtain rfl : cA = cT := Option.some.inj (h1.symm.trans h2)
  exact kk q H1 hP1 hD1 hS1
theorem hk_newZ (C : hk_C p s m meth c own cc nL ret0 args G) (harr : Cond.arrayClass .boolean ∈ hk_w) (hP : va_P (hk_D G) classes ws H) (hD : va_D A ws) (hS : va_S A H0 H locs) (hA : ∀ q, H0.size ≤ q → A q) (t0 : Nat) {cT : ClassId} (ht : (hk_ty G)[t0]? = some (cT, .boolean)) {z : Int32} {N : Nat} (hn : ¬ z < 0) (hN : z.toNatClampNeg = N) (hby : N * 1 ≤ 536870912) (hc : cells + 1 ≤ R.cells) (hs : slots + N ≤ R.slots) (hdg : decode cc pc = .ok (.newarray .boolean, 2))
    (kk : ∀ (q : Nat) (H1 : Heap), va_P (hk_D G) classes (ws ++ [(q, .inl (cT, N, .inl (fun _ => 0)))]) H1 → va_D A (ws ++ [(q, .inl (cT, N, .inl (fun _ => 0)))]) → va_S A H0 H1 locs → W p l e R s m args below meth c H1 locs (cells + 1) (slots + N) Q (F0 m (pc + 2) ls (.ref q :: rest))) : W p l e R s m args below meth c H locs cells slots Q (F0 m pc ls (.int z :: rest)) := by
  have hK := C.2.2.2.2.2.2.2.1
  refine va_newa (atype := .boolean) C.1 C.2.1 (C.2.2.2.2.2.1 _ harr) (ty := .boolean) rfl hK hP hD hS hA (a0 := (N, .inl (fun _ => 0))) (fun cA => rfl) hn hN hby hc hs hdg (fun q cA H1 hK1 hP1 hD1 hS1 => ?_)
  have h1 : s.vm.findClass ("[" ++ (FieldType.boolean).toString) = some cA := (hK1.2 (hk_ty G).length (cA, .boolean) (by simp)).2
  have h2 : s.vm.findClass ("[" ++ (FieldType.boolean).toString) = some cT := (hK.2 t0 _ ht).2
  obtain rfl : cA = cT := Option.some.inj (h1.symm.trans h2)
  exact kk q H1 hP1 hD1 hS1
/-- an array of objects -/
theorem hk_newq {Cn : String} (C : hk_C p s m meth c own cc nL ret0 args G) (hcl : Cond.classLink own idx Cn ∈ hk_w) (hov : va_AO Cn s) (hP : va_P (hk_D G) classes ws H) (hD : va_D A ws) (hS : va_S A H0 H locs) (hA : ∀ q, H0.size ≤ q → A q) (t0 : Nat) {cT : ClassId} (ht : (hk_ty G)[t0]? = some (cT, .object Cn)) {z : Int32} {N : Nat} (hn : ¬ z < 0) (hN : z.toNatClampNeg = N) (hby : N * 4 ≤ 536870912) (hc : cells + 1 ≤ R.cells) (hs : slots + N ≤ R.slots) (hdg : decode cc pc = .ok (.anewarray idx, 3))
    (kk : ∀ (q : Nat) (H1 : Heap), va_P (hk_D G) classes (ws ++ [(q, .inl (cT, N, .inr (.inr (.inr (.inr (fun _ => none))))))]) H1 → va_D A (ws ++ [(q, .inl (cT, N, .inr (.inr (.inr (.inr (fun _ => none))))))]) → va_S A H0 H1 locs → W p l e R s m args below meth c H1 locs (cells + 1) (slots + N) Q (F0 m (pc + 3) ls (.ref q :: rest))) : W p l e R s m args below meth c H locs cells slots Q (F0 m pc ls (.int z :: rest)) := by
  have hK := C.2.2.2.2.2.2.2.1
  refine va_newq C.1 C.2.1 C.2.2.2.2.1 (C.2.2.2.2.2.1 _ hcl) hov hK hP hD hS hA hn hN hby hc hs hdg (fun q cA H1 hK1 hP1 hD1 hS1 => ?_)
  obtain ⟨-, -, -, -, -, h1⟩ := (hK1.2 (hk_ty G).length (cA, .object Cn) (by simp)).2
  obtain ⟨-, -, -, -, -, h2⟩ := (hK.2 t0 _ ht).2
  obtain rfl : cA = cT := Option.some.inj (h1.symm.trans h2)
  exact kk q H1 hP1 hD1 hS1
/-- a new object -/
theorem hk_new {Cn : String} (C : hk_C p s m meth c own cc nL ret0 args G) (ci : Nat) {T : u_T} {N : Nat} (hin : ∀ w ∈ u_ws Cn T N, w ∈ hk_w) {ty0 : Nat → FieldType} (hty : ∀ k, k < N → parseFieldDescriptor (T k).2.2.1 = some (ty0 k)) (hcl : Cond.classLink own idx Cn ∈ hk_w) (hi : Cond.instantiable Cn N ∈ hk_w) (hini : Cond.initialized Cn ∈ hk_w) (hP : va_P (hk_D G) classes ws H) (hD : va_D A ws) (hS : va_S A H0 H locs) (hA : ∀ q, H0.size ≤ q → A q) (hc : classes[ci]? = some (Cn, T, N)) {fs : List Value} (hfs : ∀ j, j < N → defaultValue (ty0 j) = vp_V fs j) (hcc : cells + 1 ≤ R.cells) (hss : slots + N ≤ R.slots) (hdg : decode cc pc = .ok (.new idx, 3))
    (kk : ∀ (q : Nat) (H1 : Heap), va_P (hk_D G) classes (ws ++ [(q, .inr (ci, fs))]) H1 → va_D A (ws ++ [(q, .inr (ci, fs))]) → va_S A H0 H1 locs → W p l e R s m args below meth c H1 locs (cells + 1) (slots + N) Q (F0 m (pc + 3) ls (.ref q :: rest))) : W p l e R s m args below meth c H locs cells slots Q (F0 m pc ls rest) :=
  va_new C.1 C.2.1 C.2.2.2.2.2.1 hin ty0 hty C.2.2.2.2.1 (C.2.2.2.2.2.1 _ hcl) (C.2.2.2.2.2.1 _ hi) (C.2.2.2.2.2.1 _ hini) C.2.2.2.2.2.2.2.1 hP hD hS hA hc hfs hcc hss hdg kk
/-- a final field of the own class, in its constructor -/
theorem hk_putF (C : hk_C p s m meth c own cc nL ret0 args G) (hin2 : meth.name = "<init>") (hP : va_P (hk_D G) classes ws H) (hD : va_D A ws) (hS : va_S A H0 H locs) (q0 ci k : Nat) {Cn : String} {T : u_T} {N : Nat} (hin : ∀ w ∈ u_ws Cn T N, w ∈ hk_w) {ty0 : Nat → FieldType} (hty : ∀ k, k < N → parseFieldDescriptor (T k).2.2.1 = some (ty0 k)) (hnm : ∀ a, a < N → ∀ b, b < N → a ≠ b → (T a).2.1 ≠ (T b).2.1) {fs : List Value} (he : ws[q0]? = some (a, .inr (ci, fs))) (hc : classes[ci]? = some (Cn, T, N)) (hk : k < N) (hl : Cond.fieldLink own idx (T k).1 (T k).2.1 (T k).2.2.1 ∈ hk_w) (hfin : (T k).2.2.2 = true) (hown2 : (T k).1 = own) {ty : FieldType} {v : Value} (hd : parseFieldDescriptor (T k).2.2.1 = some ty) (hn : narrow ty v = v) (hfit : fits ty v = true) (hlen : k < fs.length) (hdg : decode cc pc = .ok (.putfield idx, 3))
    (kk : ∀ (H1 : Heap) (locs1 : List Loc), va_P (hk_D G) classes (ws.set q0 (a, .inr (ci, fs.set k v))) H1 → va_D A (ws.set q0 (a, .inr (ci, fs.set k v))) → va_S A H0 H1 locs1 → W p l e R s m args below meth c H1 locs1 cells slots Q (F0 m (pc + 3) ls rest)) : W p l e R s m args below meth c H locs cells slots Q (F0 m pc ls (v :: .ref a :: rest)) :=
  va_putF C.1 C.2.1 C.2.2.2.2.2.1 hin ty0 hty hnm C.2.2.2.2.1 C.2.2.2.2.2.2.2.1 hP hD hS q0 he hc k hk (C.2.2.2.2.2.1 _ hl) (fun _ h9 => h9) hfin hin2 hown2 hd hn hfit hlen hdg kk
/-- aastore of an object into an array of its class -/
theorem hk_ast (C : hk_C p s m meth c own cc nL ret0 args G) (hP : va_P (hk_D G) classes ws H) (hD : va_D A ws) (hS : va_S A H0 H locs) (q0 t0 qk ci : Nat) {cA : ClassId} {r : vw_C} {N v : Nat} {vs : List Value} {f : Nat → Option Nat} (ha : ws[q0]? = some (a, .inl (cA, N, .inr (.inr (.inr (.inr f)))))) (ht : (hk_ty G)[t0]? = some (cA, .object r.1)) (hv : ws[qk]? = some (v, .inr (ci, vs))) (hc : classes[ci]? = some r) {i : Int32} (hin : vp_in i N) (hdg : decode cc pc = .ok (.aastore, 1))
    (kk : ∀ (H1 : Heap) (locs1 : List Loc), va_P (hk_D G) classes (ws.set q0 (a, .inl (cA, N, .inr (.inr (.inr (.inr (va_up f i.toNatClampNeg (some v)))))))) H1 → va_D A (ws.set q0 (a, .inl (cA, N, .inr (.inr (.inr (.inr (va_up f i.toNatClampNeg (some v)))))))) → va_S A H0 H1 locs1 → W p l e R s m args below meth c H1 locs1 cells slots Q (F0 m (pc + 1) ls rest)) : W p l e R s m args below meth c H locs cells slots Q (F0 m pc ls (.ref v :: .int i :: .ref a :: rest)) :=
  va_astq C.1 C.2.1 C.2.2.2.2.2.2.2.1 hP hD hS q0 t0 qk ci ha ht hv hc hin hdg kk
/-- a constructor's words -/
def hk_YI (y : MethodName) (b : ByteArray) (n : Nat) (k : Nat) : Prop :=
  y.name = "<init>" ∧ Cond.instanceMethod y ∈ hk_w ∧ Cond.initialized y.cls ∈ hk_w ∧ Cond.code y b n none ∈ hk_w ∧ y.cls ≠ "java/lang/invoke/MethodHandle" ∧ y.cls ≠ "java/lang/invoke/VarHandle" ∧ (parseMethodDescriptor y.desc).map (fun d => d.parameters.length) = some k
/-- a nest mate's private constructor is called -/
theorem hk_kIN {host : String} (C : hk_C p s m meth c own cc nL ret0 args G) (hM : Met l y (Cond.code y yb yn none :: hk_w) rm (va_Pc (.ref a :: As) (hk_P G wc H.size)) Qc mc ms free) (hY : hk_YI y yb yn k) (hl : Cond.methodLinkNest own idx y host ∈ lw_tbl)
    (hrc : rm.cells = mc) (hrs : rm.slots = ms) (hR : rm.frames + 1 ≤ R.frames ∧ 8 + (yn + 11) + rm.locals ≤ R.locals) (hPc : va_P (hk_D G) classes wc H) (hDc : va_D A wc)
    (hk : As.length = k) (hls : ls.size = nL) (hst : st = As.reverse ++ .ref a :: rest) (hrm : (rest.map fun v => v.category).sum ≤ 8) (hdg : decode cc pc = .ok (.invokespecial idx, 3)) (hcs : cells + mc ≤ R.cells ∧ slots + ms ≤ R.slots) :
    va_Run p l e R s m args below meth c H locs cells slots mc ms (F0 m pc ls st) rest (Qc (Value.ref a :: As).toArray) free := by
  obtain ⟨h0, h1, h3, h4, h5⟩ := hY
  have hG : GoodIn hk_w (Cond.code y yb yn none :: hk_w) := hk_all (by
    intro w hw
    rcases List.mem_cons.mp hw with rfl | h
    · exact h4
    · exact h)
  have hts := C.2.2.2.2.2.1
  exact va_runIN ⟨C.1, C.2.1, C.2.2.2.1, C.2.2.2.2.1, hts⟩ hM ⟨va_cnB k hts hG rfl hrc hrs (C.2.2.2.2.2.2.2.2.1 _ hl rfl) (hts _ h3) h5 hR, h0, hts _ h1⟩ (hk_pre (av := .ref a :: As) C hPc hDc) rfl hk hls hst (lv_room hrm) hdg hcs
/-- a public constructor is called -/
theorem hk_kI (C : hk_C p s m meth c own cc nL ret0 args G) (hM : Met l y (Cond.code y yb yn none :: hk_w) rm (va_Pc (.ref a :: As) (hk_P G wc H.size)) Qc mc ms free) (hY : hk_YI y yb yn k) (hl : Cond.methodLink own idx y ∈ hk_w)
    (hrc : rm.cells = mc) (hrs : rm.slots = ms) (hR : rm.frames + 1 ≤ R.frames ∧ 8 + (yn + 11) + rm.locals ≤ R.locals) (hPc : va_P (hk_D G) classes wc H) (hDc : va_D A wc)
    (hk : As.length = k) (hls : ls.size = nL) (hst : st = As.reverse ++ .ref a :: rest) (hrm : (rest.map fun v => v.category).sum ≤ 8) (hdg : decode cc pc = .ok (.invokespecial idx, 3)) (hcs : cells + mc ≤ R.cells ∧ slots + ms ≤ R.slots) :
    va_Run p l e R s m args below meth c H locs cells slots mc ms (F0 m pc ls st) rest (Qc (Value.ref a :: As).toArray) free := by
  obtain ⟨h0, h1, h3, h4, h5⟩ := hY
  have hG : GoodIn hk_w (Cond.code y yb yn none :: hk_w) := hk_all (by
    intro w hw
    rcases List.mem_cons.mp hw with rfl | h
    · exact h4
    · exact h)
  have hts := C.2.2.2.2.2.1
  exact va_runI ⟨C.1, C.2.1, C.2.2.2.1, C.2.2.2.2.1, hts⟩ hM (cwI k hts hG rfl hrc hrs (hts _ h3) (hts _ hl) (hts _ h1) h0 h5 hR) (hk_pre (av := .ref a :: As) C hPc hDc) rfl hk hls hst (lv_room hrm) hdg hcs
/-- behind a call that makes cells -/
theorem hk_goN {av : Array Value} {w1 : (Nat → Nat) → va_W} (hr : va_Run p l e R s m args below meth c H locs cells slots mc ms (F0 m pc ls st) rest (va_Qv (fun (_ : Nat → Nat) => True) (hk_BC G wc w1 H.size) (va_A wc H.size) av) (va_A wc H.size)) (hP : va_P (hk_D G) classes ws H) (hD : va_D A ws) (hS : va_S A H0 H locs) (hA : ∀ q, H0.size ≤ q → A q)
    (isC isR : List Nat) (hC : isC.map (fun i => ws[i]?) = wc.map some) (hRs : isR.map (fun i => ws[i]?) = (isR.filterMap (fun i => ws[i]?)).map some) (hn : va_nd isR = true) (hdis : ∀ i ∈ isR, i ∉ isC)
    (kk : ∀ (ad : Nat → Nat) (H1 : Heap) (locs1 : List Loc), va_P (hk_D G) classes (isR.filterMap (fun i => ws[i]?) ++ w1 ad) H1 → va_D A (isR.filterMap (fun i => ws[i]?) ++ w1 ad) → va_S A H0 H1 locs1 → W p l e R s m args below meth c H1 locs1 (cells + mc) (slots + ms) Q (F0 m (pc + 3) ls rest)) : W p l e R s m args below meth c H locs cells slots Q (F0 m pc ls st) := by
  have hF := hk_fr hD hS hA isC hC
  refine va_callv hr hS (fun q _ h => hF q h) hF (fun u t H1 locs1 ht hvm hp hB hz hk hS1 => ?_)
  obtain ⟨hP1, hD1⟩ := hB
  rw [ht] at hP1
  obtain ⟨hP2, hD2⟩ := va_join hP hD isC isR hC hRs hn hdis hk hF hP1 hD1
  exact kk u H1 locs1 hP2 hD2 hS1
end HKN
theorem hk_rf_ext {f g : Nat → Nat} {n : Nat} (h : ∀ j : Nat, j < n → f j = g j) : hk_rf f n = hk_rf g n := by
  funext j
  unfold hk_rf
  by_cases hj : j < n
  · rw [if_pos hj, if_pos hj, h j hj]
  · rw [if_neg hj, if_neg hj]
theorem hk_rf_2 (f : Nat → Nat) : va_up (va_up (fun _ => none) 0 (some (f 0))) 1 (some (f 1)) = hk_rf f 2 := by
  funext j
  unfold hk_rf va_up
  match j with
  | 0 => rfl
  | 1 => rfl
  | j + 2 => simp
theorem hk_rf_4 (f : Nat → Nat) : va_up (va_up (va_up (va_up (fun _ => none) 0 (some (f 0))) 1 (some (f 1))) 2 (some (f 2))) 3 (some (f 3)) = hk_rf f 4 := by
  funext j
  unfold hk_rf va_up
  match j with
  | 0 => rfl
  | 1 => rfl
  | 2 => rfl
  | 3 => rfl
  | j + 4 => simp
/-! MULTI: new int[4][k], its rows as four cells of the world (after the printed row for arrays of arrays) -/
theorem hk_outer (c : ClassId) (N h0 : Nat) : ∀ i : Nat, Jvm.Free.Multi.outerC c N h0 i = arrV c N (fun j => va_rf (if j < i then some (h0 + 1 + j) else none))
  | 0 => by
    show ({ cls := c, slots := Array.replicate N .null, vm := .none } : Cell) = _
    rw [arrV_new]
    refine congrArg (arrV c N) (funext fun j => ?_)
    simp [va_rf]
  | i + 1 => by
    show (Jvm.Free.Multi.outerC c N h0 i).setSlot i (.ref (h0 + 1 + i)) = _
    rw [hk_outer c N h0 i, arrV_store]
    refine congrArg (arrV c N) (funext fun j => ?_)
    by_cases e : j = i
    · subst e
      simp [updV, va_rf]
    · by_cases h : j < i
      · simp [updV, e, h, Nat.lt_succ_of_lt h]
      · simp [updV, e, h, show ¬ j < i + 1 by omega]
theorem hk_D_snoc {A : Nat → Prop} {ws : va_W} {a : Nat} {e : va_E} (hD : va_D A ws) (hlt : ∀ (k : Nat) (q : Nat × va_E), ws[k]? = some q → q.1 < a) (hA : A a) : va_D A (ws ++ [(a, e)]) := by
  refine ⟨fun i j p q hi hj hpq => ?_, fun k q hk => ?_⟩
  · by_cases h1 : i < ws.length <;> by_cases h2 : j < ws.length
    · rw [List.getElem?_append_left h1] at hi
      rw [List.getElem?_append_left h2] at hj
      exact hD.1 i j p q hi hj hpq
    · rw [List.getElem?_append_left h1] at hi
      rw [List.getElem?_append_right (by omega)] at hj
      have h3 := hlt _ _ hi
      have h0 : j - ws.length < 1 := (List.getElem?_eq_some_iff.mp hj).1
      rw [show j - ws.length = 0 by omega] at hj
      cases hj
      have hpq : p.1 = a := hpq
      omega
    · rw [List.getElem?_append_right (by omega)] at hi
      rw [List.getElem?_append_left h2] at hj
      have h3 := hlt _ _ hj
      have h0 : i - ws.length < 1 := (List.getElem?_eq_some_iff.mp hi).1
      rw [show i - ws.length = 0 by omega] at hi
      cases hi
      have hpq : a = q.1 := hpq
      omega
    · rw [List.getElem?_append_right (by omega)] at hi hj
      have h0 : i - ws.length < 1 := (List.getElem?_eq_some_iff.mp hi).1
      have h9 : j - ws.length < 1 := (List.getElem?_eq_some_iff.mp hj).1
      omega
  · by_cases h1 : k < ws.length
    · rw [List.getElem?_append_left h1] at hk
      exact hD.2 k q hk
    · rw [List.getElem?_append_right (by omega)] at hk
      have h0 : k - ws.length < 1 := (List.getElem?_eq_some_iff.mp hk).1
      rw [show k - ws.length = 0 by omega] at hk
      cases hk
      exact hA
theorem hk_lt_snoc {ws : va_W} {a b : Nat} {e : va_E} (h : ∀ (k : Nat) (q : Nat × va_E), ws[k]? = some q → q.1 < a) (hab : a < b) : ∀ (k : Nat) (q : Nat × va_E), (ws ++ [(a, e)])[k]? = some q → q.1 < b := by
  intro k q hk
  by_cases h1 : k < ws.length
  · rw [List.getElem?_append_left h1] at hk
    exact Nat.lt_trans (h k q hk) hab
  · rw [List.getElem?_append_right (by omega)] at hk
    have h0 : k - ws.length < 1 := (List.getElem?_eq_some_iff.mp hk).1
    rw [show k - ws.length = 0 by omega] at hk
    cases hk
    exact hab
theorem hk_P_snoc {D : va_G} {cl : List vw_C} {ws : va_W} {a : Nat} {e : va_E} {H : Heap} (h : va_P D cl ws H) (ha : va_at D cl (a, e) H) : va_P D cl (ws ++ [(a, e)]) H := h.app (fun k q hk => by
  have h0 : k < 1 := (List.getElem?_eq_some_iff.mp hk).1
  rw [show k = 0 by omega] at hk
  cases hk
  exact ha)
section HKM
variable {p : Program} {l : Launch} {e : Env} {R : Room} {s : State} {m : MethodId} {args : Array Value} {below : List Frame} {meth : Method} {c : Code} {H : Heap} {locs : List Loc} {cells slots : Nat} {Q : State → Prop}
variable {own : String} {cc : ByteArray} {nL idx : Nat} {ret0 : Option FieldType} {G : hk_G} {A : Nat → Prop} {pc : Nat} {ls : Array Slot} {rest : List Value} {H0 : Heap} {ws : va_W}
set_option maxHeartbeats 4000000 in
theorem hk_multi (C : hk_C p s m meth c own cc nL ret0 args G) (hcl : Cond.classLink own idx "[[I" ∈ hk_w) (harr : Cond.arrayClass .int ∈ hk_w) (hP : va_P (hk_D G) classes ws H) (hD : va_D A ws) (hS : va_S A H0 H locs) (hA : ∀ q, H0.size ≤ q → A q)
    {z w : Int32} {k : Nat} (hz : ¬ z < 0) (hw : ¬ w < 0) (hzn : z.toNatClampNeg = 4) (hwk : w.toNatClampNeg = k) (hk : k ≤ 1000) (hc : cells + (1 + 4) ≤ R.cells) (hs : slots + (4 + 4 * k) ≤ R.slots) (hdg : decode cc pc = .ok (.multianewarray idx 2, 4))
    (kk : ∀ (q : Nat) (H1 : Heap) (locs1 : List Loc), va_P (hk_D G) classes (ws ++ [(q, .inl (G.2.2 4, 4, .inr (.inr (.inr (.inr (hk_rf (fun j => q + 1 + j) 4)))))), (q + 1 + 0, .inl (G.2.2 0, k, .inl (fun _ => 0))), (q + 1 + 1, .inl (G.2.2 0, k, .inl (fun _ => 0))), (q + 1 + 2, .inl (G.2.2 0, k, .inl (fun _ => 0))), (q + 1 + 3, .inl (G.2.2 0, k, .inl (fun _ => 0)))]) H1 →
      va_D A (ws ++ [(q, .inl (G.2.2 4, 4, .inr (.inr (.inr (.inr (hk_rf (fun j => q + 1 + j) 4)))))), (q + 1 + 0, .inl (G.2.2 0, k, .inl (fun _ => 0))), (q + 1 + 1, .inl (G.2.2 0, k, .inl (fun _ => 0))), (q + 1 + 2, .inl (G.2.2 0, k, .inl (fun _ => 0))), (q + 1 + 3, .inl (G.2.2 0, k, .inl (fun _ => 0)))]) → va_S A H0 H1 locs1 →
      W p l e R s m args below meth c H1 locs1 (cells + (1 + 4)) (slots + (4 + 4 * k)) Q (F0 m (pc + 4) ls (.ref q :: rest))) : W p l e R s m args below meth c H locs cells slots Q (F0 m pc ls (.int w :: .int z :: rest)) := by
  have hK := C.2.2.2.2.2.2.2.1
  have hAO : (Cond.arrayOver (.array .int)).before args s = true := C.2.2.2.2.2.2.2.2.2.2.2
  intro T hT Xs
  obtain ⟨vm₁, cA, comp, -, fA, fC, hO, -, X', step⟩ := Xs.multianewarray2F C.1 C.2.2.2.2.1 (C.2.2.2.2.2.1 _ hcl) hAO (C.2.2.2.2.2.1 _ harr) (g := F0 m pc ls (.int w :: .int z :: rest)) rfl (by rw [C.2.1]; exact hdg) rfl hz hw (by omega) (by rw [hwk]; show k * 4 ≤ _; omega) (by omega) rfl rfl (by rw [hzn]; exact hc) (by rw [hzn, hwk]; exact hs)
  have e0 : s.vm.findClass (FieldType.array .int).toString = some (G.2.2 0) := (hK.2 0 (G.2.2 0, .int) rfl).2
  have e4 : s.vm.findClass ("[" ++ (FieldType.array .int).toString) = some (G.2.2 4) := (hK.2 4 (G.2.2 4, .array .int) rfl).2
  obtain rfl : comp = G.2.2 0 := Option.some.inj (fC.symm.trans e0)
  obtain rfl : cA = G.2.2 4 := Option.some.inj (fA.symm.trans e4)
  rw [hzn, hwk] at X' step
  generalize hF : Jvm.Free.Multi.fill (T.setVm vm₁) (G.2.2 4) (G.2.2 0) 4 k (defaultValue .int) 4 = F at X' step
  have hTh : (T.setVm vm₁).heap = H := hT
  obtain ⟨f1, f2, -, -⟩ := Jvm.Free.Multi.fill_facts (T.setVm vm₁) (G.2.2 4) (G.2.2 0) 4 k (defaultValue .int) 4
  rw [hF, hTh] at f1 f2
  have hold : ∀ x : Nat, x < H.size → F.heap[x]? = H[x]? := fun x hx => by
    have := Jvm.Free.Multi.fill_old (T.setVm vm₁) (G.2.2 4) (G.2.2 0) 4 k (defaultValue .int) (a := x) (by rw [hTh]; exact hx) 4
    rw [hF, hTh] at this
    exact this
  have hrow : ∀ j : Nat, j < 4 → F.heap[H.size + 1 + j]? = some (vp_cell (G.2.2 0) (k, .inl (fun _ => 0))) := fun j hj => by
    have := Jvm.Free.Multi.fill_inner (T.setVm vm₁) (G.2.2 4) (G.2.2 0) 4 k (defaultValue .int) 4 j hj
    rw [hF, hTh] at this
    rw [this, vp_cell_i, ← arrV_new]
    rfl
  have hout : Jvm.Free.Multi.outerC (G.2.2 4) 4 H.size 4 = vp_cell (G.2.2 4) (4, .inr (.inr (.inr (.inr (hk_rf (fun j => H.size + 1 + j) 4))))) := by
    rw [vp_cell_q]
    exact hk_outer (G.2.2 4) 4 H.size 4
  rw [hout] at f2
  have hP0 : va_P (hk_D G) classes ws F.heap := hP.kept (fun k9 x hx => hold x.1 ((hP k9 x hx).lt))
  have l0 : ∀ (k : Nat) (q : Nat × va_E), ws[k]? = some q → q.1 < H.size := fun k q hq => (hP k q hq).lt
  have aA : ∀ j : Nat, A (H.size + j) := fun j => hA _ (by have := hS.1; omega)
  have hP1 := hk_P_snoc hP0 (a := H.size) (e := .inl (G.2.2 4, 4, .inr (.inr (.inr (.inr (hk_rf (fun j => H.size + 1 + j) 4)))))) f2
  have hD1 := hk_D_snoc (e := .inl (G.2.2 4, 4, .inr (.inr (.inr (.inr (hk_rf (fun j => H.size + 1 + j) 4)))))) hD l0 (aA 0)
  have l1 := hk_lt_snoc (e := .inl (G.2.2 4, 4, .inr (.inr (.inr (.inr (hk_rf (fun j => H.size + 1 + j) 4)))))) l0 (show H.size < H.size + 1 + 0 by omega)
  have hP2 := hk_P_snoc hP1 (a := H.size + 1 + 0) (e := .inl (G.2.2 0, k, .inl (fun _ => 0))) (hrow 0 (by decide))
  have hD2 := hk_D_snoc (e := .inl (G.2.2 0, k, .inl (fun _ => 0))) hD1 l1 (aA 1)
  have l2 := hk_lt_snoc (e := .inl (G.2.2 0, k, .inl (fun _ => 0))) l1 (show H.size + 1 + 0 < H.size + 1 + 1 by omega)
  have hP3 := hk_P_snoc hP2 (a := H.size + 1 + 1) (e := .inl (G.2.2 0, k, .inl (fun _ => 0))) (hrow 1 (by decide))
  have hD3 := hk_D_snoc (e := .inl (G.2.2 0, k, .inl (fun _ => 0))) hD2 l2 (aA 2)
  have l3 := hk_lt_snoc (e := .inl (G.2.2 0, k, .inl (fun _ => 0))) l2 (show H.size + 1 + 1 < H.size + 1 + 2 by omega)
  have hP4 := hk_P_snoc hP3 (a := H.size + 1 + 2) (e := .inl (G.2.2 0, k, .inl (fun _ => 0))) (hrow 2 (by decide))
  have hD4 := hk_D_snoc (e := .inl (G.2.2 0, k, .inl (fun _ => 0))) hD3 l3 (aA 3)
  have l4 := hk_lt_snoc (e := .inl (G.2.2 0, k, .inl (fun _ => 0))) l3 (show H.size + 1 + 2 < H.size + 1 + 3 by omega)
  have hP5 := hk_P_snoc hP4 (a := H.size + 1 + 3) (e := .inl (G.2.2 0, k, .inl (fun _ => 0))) (hrow 3 (by decide))
  have hD5 := hk_D_snoc (e := .inl (G.2.2 0, k, .inl (fun _ => 0))) hD4 l4 (aA 4)
  have hP6 := hP5
  simp only [List.append_assoc, List.cons_append, List.nil_append] at hP6 hD5
  have X2 : Stand p l e R s m args below meth c F locs (cells + (1 + 4)) (slots + (4 + 4 * k)) := by
    have e1 : cells + 1 + 4 = cells + (1 + 4) := by omega
    have e2 : slots + 4 + 4 * k = slots + (4 + 4 * k) := by omega
    rw [← e1, ← e2]
    exact X'
  obtain ⟨t, a1, b1⟩ := kk H.size F.heap locs hP6 hD5 ⟨by rw [f1]; have := hS.1; omega, fun x h1 h2 => (hold x (Nat.lt_of_lt_of_le h1 hS.1)).trans (hS.2.1 x h1 h2), hS.2.2⟩ F rfl X2
  refine ⟨t, step t ?_, b1⟩
  have e9 : T.heap.size = H.size := by rw [hT]
  rw [e9]
  exact a1
end HKM
/-! PU1: small rows over numbers (no method's function is named here) -/
theorem hk_inl {i : Int32} {n : Nat} (h : decide (¬ (i < 0 ∨ n ≤ i.toNatClampNeg)) = true) : vp_in i n := by
  have h2 : ¬ (i < 0 ∨ n ≤ i.toNatClampNeg) := of_decide_eq_true h
  exact h2
theorem hk_Pn {D : va_G} {cl : List vw_C} {H : Heap} : va_P D cl [] H := fun k q h => by simp at h
theorem hk_Dn {A : Nat → Prop} : va_D A [] := ⟨fun i j p q h => by simp at h, fun k q h => by simp at h⟩
theorem hk_exit {b : Int32} {n k : Nat} (hb : b = nI n) (hn : n < 2 ^ 31) (hk : k ≤ n) (h : b ≤ nI k) : k = n := by
  rw [hb, nI_leI hn (by omega)] at h
  omega
theorem hk_stay {b : Int32} {n k : Nat} (hb : b = nI n) (hn : n < 2 ^ 31) (hk : k ≤ n) (h : ¬ b ≤ nI k) : k < n := by
  rw [hb, nI_leI hn (by omega)] at h
  omega
theorem hk_d10 {k : Nat} (h : k < 10) : nI k = 0 ∨ nI k = 1 ∨ nI k = 2 ∨ nI k = 3 ∨ nI k = 4 ∨ nI k = 5 ∨ nI k = 6 ∨ nI k = 7 ∨ nI k = 8 ∨ nI k = 9 := by
  have h : k = 0 ∨ k = 1 ∨ k = 2 ∨ k = 3 ∨ k = 4 ∨ k = 5 ∨ k = 6 ∨ k = 7 ∨ k = 8 ∨ k = 9 := by omega
  rcases h with rfl | rfl | rfl | rfl | rfl | rfl | rfl | rfl | rfl | rfl <;> simp [nI]
theorem hk_sne {p : Int32} (ho : p.toInt < 0 ∨ 9 < p.toInt) (k : Int32) (h0 : 0 ≤ k.toInt) (h9 : k.toInt ≤ 9) : ¬ p = k := fun h => by
  subst h
  omega
theorem hk_s10 (p : Int32) : p = 0 ∨ p = 1 ∨ p = 2 ∨ p = 3 ∨ p = 4 ∨ p = 5 ∨ p = 6 ∨ p = 7 ∨ p = 8 ∨ p = 9 ∨ (p.toInt < 0 ∨ 9 < p.toInt) := by
  by_cases h : p < 0
  · have h1 : p.toInt < 0 := by simpa using Int32.lt_iff_toInt_lt.mp h
    simp [h1]
  · obtain ⟨j, hj, rfl⟩ := nI_of h
    have h : j = 0 ∨ j = 1 ∨ j = 2 ∨ j = 3 ∨ j = 4 ∨ j = 5 ∨ j = 6 ∨ j = 7 ∨ j = 8 ∨ j = 9 ∨ 9 < j := by omega
    rcases h with rfl | rfl | rfl | rfl | rfl | rfl | rfl | rfl | rfl | rfl | h
    iterate 10 simp [nI]
    have h1 : 9 < (nI j).toInt := by rw [nI_toInt hj]; omega
    simp [h1]
theorem hk_in12 {p : Int32} (hi : p = -1 ∨ ∃ j : Nat, j < 12 ∧ p = nI j) (h : ¬ p = -1) : vp_in p 12 := by
  rcases hi with hi | ⟨j, hj, rfl⟩
  · exact absurd hi h
  · exact vp_in_nI hj (by decide)
def k_great (j : Nat) : Int32 := match j with
  | 0 => 3
  | 1 => 1000
  | 2 => 2
  | 3 => 1
  | 4 => 3
  | _ => 1
def k_subst (j : Nat) : Int32 := match j with
  | 0 => 1
  | 1 => 0
  | 2 => 3
  | 3 => 2
  | 4 => 0
  | _ => 1
theorem hk_sub (j : Nat) : vp_in (k_subst j) 6 := by
  unfold k_subst
  split <;> exact hk_inl (by decide)
section HK1
variable {p : Program} {l : Launch} {e : Env} {R : Room} {s : State} {m : MethodId} {args : Array Value} {below : List Frame} {meth : Method} {c : Code} {H : Heap} {locs : List Loc} {cells slots : Nat} {Q : State → Prop}
variable {G : hk_G} {A : Nat → Prop} {pc : Nat} {ls : Array Slot} {rest st : List Value} {H0 : Heap} {ws w2 : va_W} {a : Nat} {e0 e1 : va_E}
theorem hk_one {H1 : Heap} (hP : va_P (hk_D G) classes ws H) (hD : va_D A ws) {pos : Nat} (hp : ws[pos]? = some (a, e0)) (hP1 : va_P (hk_D G) classes [(a, e1)] H1) (hk : ∀ q : Nat, q < H.size → ¬ va_A [(a, e0)] H.size q → H1[q]? = H[q]?) : va_P (hk_D G) classes (ws.set pos (a, e1)) H1 := by
  intro k q hq
  have hlen : pos < ws.length := (List.getElem?_eq_some_iff.mp hp).1
  by_cases h : pos = k
  · subst h
    rw [List.getElem?_set_self hlen] at hq
    cases hq
    exact hP1 0 _ rfl
  · rw [List.getElem?_set_ne h] at hq
    refine (hP k q hq).kept (hk q.1 (hP k q hq).lt ?_)
    intro z
    rcases z with ⟨i, e9, hi⟩ | hi
    · match i, hi with
      | 0, hi =>
        cases hi
        exact h (hD.1 pos k _ _ hp hq rfl)
      | i + 1, hi => simp at hi
    · have := (hP k q hq).lt
      omega
theorem hk_oneF (hD : va_D A ws) (hS : va_S A H0 H locs) (hA : ∀ q, H0.size ≤ q → A q) {pos : Nat} (hp : ws[pos]? = some (a, e0)) : ∀ q, va_A [(a, e0)] H.size q → A q := by
  intro q z
  rcases z with ⟨i, e9, hi⟩ | hi
  · match i, hi with
    | 0, hi =>
      cases hi
      exact hD.2 pos _ hp
    | i + 1, hi => simp at hi
  · exact hA q (Nat.le_trans hS.1 hi)
theorem hk_goI1 {r : Int32} {av : Array Value} (pos : Nat) (hr : va_Run p l e R s m args below meth c H locs cells slots 0 0 (F0 m pc ls st) rest (va_Qi (fun (x : Int32) (_ : Unit) => x = r) (hk_B G [(a, e0)] [(a, e1)] H.size) (va_A [(a, e0)] H.size) av) (va_A [(a, e0)] H.size)) (hP : va_P (hk_D G) classes ws H) (hD : va_D A ws) (hS : va_S A H0 H locs) (hA : ∀ q, H0.size ≤ q → A q) (hp : ws[pos]? = some (a, e0)) (hw : ws.set pos (a, e1) = w2)
    (kk : ∀ (H1 : Heap) (locs1 : List Loc), va_P (hk_D G) classes w2 H1 → va_D A w2 → va_S A H0 H1 locs1 → W p l e R s m args below meth c H1 locs1 cells slots Q (F0 m (pc + 3) ls (.int r :: rest))) : W p l e R s m args below meth c H locs cells slots Q (F0 m pc ls st) := by
  subst hw
  have hF := hk_oneF hD hS hA hp
  refine va_calli hr hS (fun q _ h => hF q h) hF (fun r' u t H1 locs1 ht hvm hq hB hz hk hS1 => ?_)
  have hq : r' = r := hq
  subst hq
  obtain ⟨hP1, hD1⟩ := hB
  rw [ht] at hP1
  exact kk H1 locs1 (hk_one hP hD hp hP1 hk) (hD.set hp) hS1
theorem hk_goV1 {av : Array Value} (pos : Nat) (hr : va_Run p l e R s m args below meth c H locs cells slots 0 0 (F0 m pc ls st) rest (va_Qv (fun (_ : Unit) => True) (hk_B G [(a, e0)] [(a, e1)] H.size) (va_A [(a, e0)] H.size) av) (va_A [(a, e0)] H.size)) (hP : va_P (hk_D G) classes ws H) (hD : va_D A ws) (hS : va_S A H0 H locs) (hA : ∀ q, H0.size ≤ q → A q) (hp : ws[pos]? = some (a, e0)) (hw : ws.set pos (a, e1) = w2)
    (kk : ∀ (H1 : Heap) (locs1 : List Loc), va_P (hk_D G) classes w2 H1 → va_D A w2 → va_S A H0 H1 locs1 → W p l e R s m args below meth c H1 locs1 cells slots Q (F0 m (pc + 3) ls rest)) : W p l e R s m args below meth c H locs cells slots Q (F0 m pc ls st) := by
  subst hw
  have hF := hk_oneF hD hS hA hp
  refine va_callv hr hS (fun q _ h => hF q h) hF (fun u t H1 locs1 ht hvm hq hB hz hk hS1 => ?_)
  obtain ⟨hP1, hD1⟩ := hB
  rw [ht] at hP1
  exact kk H1 locs1 (hk_one hP hD hp hP1 hk) (hD.set hp) hS1
end HK1
def hk_Z1 (tz : Nat) (A : Nat → Prop) (U : State) (H : Heap) : Prop := va_Z R_B "GREATEST_INPUT" "[I" (.ref tz) A U H ∧ va_T .int tz 9 (fun j => .int (k_great j)) A U H
def hk_Z2 (tz : Nat) (A : Nat → Prop) (U : State) (H : Heap) : Prop := va_Z R_B "SUBSTITUTES" "[I" (.ref tz) A U H ∧ va_T .int tz 6 (fun j => .int (k_subst j)) A U H
end
section
def m_B_isBelow (p0 : Int32) (p1 : Int32) : Int32 := if p0 < 0 then (0 : Int32) else (if p1 ≤ p0 then (0 : Int32) else (1 : Int32))
def m_B_isUpTo (p0 : Int32) (p1 : Int32) : Int32 := if p0 < 0 then (0 : Int32) else (if p1 < p0 then (0 : Int32) else (1 : Int32))
def m_B_bit (p0 : Int32) : Int32 := if p0 = 0 then (0 : Int32) else (1 : Int32)
def m_Side_period (p0 : Int32) : Int32 := if p0 = 0 then (80 : Int32) else (40 : Int32)
def f_Side_begin_9 (u : cS) : cS := ((1 : Int32), u.2.1, u.2.2)
def f_Side_begin_14 (u : cS) : cS := (u.1, (0 : Int32), u.2.2)
def f_Side_begin_19 (u : cS) : cS := (u.1, u.2.1, (0 : Int32))
def m_Side_begin (u : cS) : cS := if u.1 = 0 then (f_Side_begin_19 (f_Side_begin_14 (f_Side_begin_9 u))) else u
def f_Side_tick_15 (u : cS) : cS := (u.1, u.2.1 + (1 : Int32), u.2.2)
def f_Side_tick_31 (u : cS) : cS := (u.1, (0 : Int32), u.2.2)
def f_Side_tick_41 (u : cS) : cS := (u.1, u.2.1, (u.2.2) + (1 : Int32))
def f_Side_tick_62 (u : cS) : cS := ((0 : Int32), u.2.1, u.2.2)
def f_Side_tick_62_1 (u : cS) : cS := ((1 : Int32), u.2.1, u.2.2)
def m_Side_tick (p1 : Int32) (p2 : Int32) (u : cS) : cS := if u.1 = 0 then u else (if ((f_Side_tick_15 u).2.1) < (m_Side_period p1) then (f_Side_tick_15 u) else (if p2 = 0 then (if (3 : Int32) ≤ ((f_Side_tick_41 (f_Side_tick_31 (f_Side_tick_15 u))).2.2) then (f_Side_tick_62 (f_Side_tick_41 (f_Side_tick_31 (f_Side_tick_15 u)))) else (f_Side_tick_62_1 (f_Side_tick_41 (f_Side_tick_31 (f_Side_tick_15 u))))) else (f_Side_tick_62_1 (f_Side_tick_41 (f_Side_tick_31 (f_Side_tick_15 u))))))
def m_Side_isBright (p1 : Int32) (u : cS) : Int32 := if u.1 = 0 then (0 : Int32) else (if ((m_Side_period p1) / (2 : Int32)) ≤ u.2.1 then (0 : Int32) else (1 : Int32))
def f_Wiper_staysParked_6 (u : cS) : cS := (u.1, (0 : Int32), u.2.2)
def f_Wiper_staysParked_25 (u : cS) : cS := (u.1, u.2.1 - (1 : Int32), u.2.2)
def m_Wiper_staysParked (p1 : Int32) (u : cS) : Int32 × cS := if p1 = 0 then ((1 : Int32), (f_Wiper_staysParked_6 u)) else (if u.2.1 ≤ 0 then ((0 : Int32), u) else ((1 : Int32), (f_Wiper_staysParked_25 u)))
def f_Wiper_tick_2 (u : cS) : cS := (u.1, u.2.1, (0 : Int32))
def f_Wiper_tick_27 (p1 : Int32) (u : cS) : cS := (u.1, u.2.1, mx p1 (1 : Int32))
def f_Wiper_tick_40 (u : cS) : cS := ((u.1) + (u.2.2), u.2.1, u.2.2)
def f_Wiper_tick_54 (u : cS) : cS := ((0 : Int32), u.2.1, u.2.2)
def f_Wiper_tick_59 (p2 : Int32) (u : cS) : cS := (u.1, p2, u.2.2)
def m_Wiper_tick (p1 : Int32) (p2 : Int32) (u : cS) : cS := if ((f_Wiper_tick_2 u).1) = 0 then (if ((m_Wiper_staysParked p1 (f_Wiper_tick_2 u)).1) = 0 then (if ((f_Wiper_tick_40 (f_Wiper_tick_27 p1 (m_Wiper_staysParked p1 (f_Wiper_tick_2 u)).2)).1) < (100 : Int32) then (f_Wiper_tick_40 (f_Wiper_tick_27 p1 (m_Wiper_staysParked p1 (f_Wiper_tick_2 u)).2)) else (f_Wiper_tick_59 p2 (f_Wiper_tick_54 (f_Wiper_tick_40 (f_Wiper_tick_27 p1 (m_Wiper_staysParked p1 (f_Wiper_tick_2 u)).2))))) else (m_Wiper_staysParked p1 (f_Wiper_tick_2 u)).2) else (if ((f_Wiper_tick_40 (f_Wiper_tick_27 p1 (f_Wiper_tick_2 u))).1) < (100 : Int32) then (f_Wiper_tick_40 (f_Wiper_tick_27 p1 (f_Wiper_tick_2 u))) else (f_Wiper_tick_59 p2 (f_Wiper_tick_54 (f_Wiper_tick_40 (f_Wiper_tick_27 p1 (f_Wiper_tick_2 u))))))
def m_Window_speed (u : cS) : Int32 := if u.2.2 = 0 then (1 : Int32) else (2 : Int32)
def f_Window_tick_51 (u : cS) : cS := (mx (u.1 - (m_Window_speed u)) u.2.1, u.2.1, u.2.2)
def f_Window_tick_28 (u : cS) : cS := (mn (u.1 + (m_Window_speed u)) u.2.1, u.2.1, u.2.2)
def m_Window_tick (u : cS) : cS := if u.2.1 ≤ u.1 then (f_Window_tick_51 u) else (f_Window_tick_28 u)
def m_Window_ticksToWish (u : cS) : Int32 := if u.2.2 = 0 then ab (u.2.1 - u.1) else ((ab (u.2.1 - u.1)) + (1 : Int32)) / (2 : Int32)
def f_Window_reverseAt_31 (u : cS) : cS := (u.1, mx (u.1 - (60 : Int32)) (0 : Int32), u.2.2)
def m_Window_reverseAt (p1 : Int32) (u : cS) : Int32 × cS := if u.2.1 ≤ u.1 then ((0 : Int32), u) else (if (100 : Int32) < p1 then ((1 : Int32), (f_Window_reverseAt_31 u)) else ((0 : Int32), u))
def f_Window_learnAtEnd_51 (u : cS) : cS := (u.1, u.2.1, (1 : Int32))
def f_Window_learnAtEnd_51_1 (u : cS) : cS := (u.1, u.2.1, (0 : Int32))
def m_Window_learnAtEnd (u : cS) : Int32 × cS := if u.1 = u.2.1 then (if u.1 = 0 then (if u.2.2 = 0 then ((1 : Int32), (f_Window_learnAtEnd_51 u)) else ((1 : Int32), (f_Window_learnAtEnd_51 u))) else (if u.1 = (200 : Int32) then (if u.2.2 = 0 then ((1 : Int32), (f_Window_learnAtEnd_51 u)) else ((1 : Int32), (f_Window_learnAtEnd_51 u))) else (if u.2.2 = 0 then ((0 : Int32), (f_Window_learnAtEnd_51_1 u)) else ((0 : Int32), (f_Window_learnAtEnd_51 u))))) else (if u.2.2 = 0 then ((0 : Int32), (f_Window_learnAtEnd_51_1 u)) else ((0 : Int32), (f_Window_learnAtEnd_51 u)))
def m_Loads_isFull (u : cL) : Int32 := if (l3 u) < (12 : Int32) then (0 : Int32) else (1 : Int32)
def f_Loads_add_19 (p1 : Int32) (u : cL) : cL := t0 u (upd (l0 u) (l3 u).toNatClampNeg p1)
def f_Loads_add_29 (p2 : Int32) (u : cL) : cL := t1 u (upd (l1 u) (l3 u).toNatClampNeg p2)
def f_Loads_add_37 (u : cL) : cL := t3 u ((l3 u) + (1 : Int32))
def m_Loads_add (p1 : Int32) (p2 : Int32) (u : cL) : Int32 × cL := if (m_Loads_isFull u) = 0 then (l3 (f_Loads_add_37 (f_Loads_add_29 p2 (f_Loads_add_19 p1 u))), (f_Loads_add_37 (f_Loads_add_29 p2 (f_Loads_add_19 p1 u)))) else ((-4 : Int32), u)
def m_Loads_has (p1 : Int32) (u : cL) : Int32 := if p1 < (1 : Int32) then (0 : Int32) else (if (l3 u) < p1 then (0 : Int32) else (1 : Int32))
def m_Loads_runs (p1 : Int32) (u : cL) : Int32 := if (m_Loads_has p1 u) = 0 then (0 : Int32) else (if ((l2 u) (p1 - (1 : Int32)).toNatClampNeg) = 0 then (1 : Int32) else (0 : Int32))
def lb_Loads_countOff_4 (u : cL) (k : Nat) (x : Int32) : Int32 := if ((l2 u) k) = 0 then x else x + (1 : Int32)
def li_Loads_countOff_4 (u : cL) : Nat → Int32
  | 0 => 0
  | k + 1 => lb_Loads_countOff_4 u k (li_Loads_countOff_4 u k)
def m_Loads_countOff (u : cL) : Int32 := li_Loads_countOff_4 u ((l3 u).toNatClampNeg)
def f_Loads_setOff_11 (p1 : Int32) (p2 : Int32) (u : cL) : cL := t2 u (upd (l2 u) p1.toNatClampNeg p2)
def m_Loads_setOff (p1 : Int32) (p2 : Int32) (u : cL) : cL := if p1 = (-1 : Int32) then u else (f_Loads_setOff_11 p1 p2 u)
def lb_Loads_findNextToShed_4 (u : cL) (k : Nat) (x : Int32) : Int32 := if ((l2 u) k) = 0 then (if ((l1 u) k) = 0 then (if x = (-1 : Int32) then nI k else (if ((l0 u) k) < ((l0 u) x.toNatClampNeg) then x else nI k)) else x) else x
def li_Loads_findNextToShed_4 (u : cL) : Nat → Int32
  | 0 => -1
  | k + 1 => lb_Loads_findNextToShed_4 u k (li_Loads_findNextToShed_4 u k)
def m_Loads_findNextToShed (u : cL) : Int32 := li_Loads_findNextToShed_4 u ((l3 u).toNatClampNeg)
def lb_Loads_findNextToRestore_4 (u : cL) (k : Nat) (x : Int32) : Int32 := if ((l2 u) k) = 0 then x else (if x = (-1 : Int32) then nI k else (if ((l0 u) x.toNatClampNeg) ≤ ((l0 u) k) then x else nI k))
def li_Loads_findNextToRestore_4 (u : cL) : Nat → Int32
  | 0 => -1
  | k + 1 => lb_Loads_findNextToRestore_4 u k (li_Loads_findNextToRestore_4 u k)
def m_Loads_findNextToRestore (u : cL) : Int32 := li_Loads_findNextToRestore_4 u ((l3 u).toNatClampNeg)
def f_Loads_measure_18 (u : cL) : cL := t4 u (0 : Int32)
def f_Loads_measure_39 (u : cL) : cL := t5 u (0 : Int32)
def f_Loads_measure_74 (u : cL) : cL := t5 u (0 : Int32)
def f_Loads_measure_52 (u : cL) : cL := t4 u (0 : Int32)
def f_Loads_measure_39_1 (u : cL) : cL := t5 u ((l5 u) + (1 : Int32))
def f_Loads_measure_18_1 (u : cL) : cL := t4 u ((l4 u) + (1 : Int32))
def m_Loads_measure (p1 : Int32) (u : cL) : cL := if (11500 : Int32) ≤ p1 then (if p1 ≤ (12500 : Int32) then (if (l4 (f_Loads_measure_39 (f_Loads_measure_18 u))) < (3 : Int32) then (if (l5 (f_Loads_measure_39 (f_Loads_measure_18 u))) < (3 : Int32) then (f_Loads_measure_39 (f_Loads_measure_18 u)) else (m_Loads_setOff (m_Loads_findNextToRestore (f_Loads_measure_74 (f_Loads_measure_39 (f_Loads_measure_18 u)))) (0 : Int32) (f_Loads_measure_74 (f_Loads_measure_39 (f_Loads_measure_18 u))))) else (if (l5 (m_Loads_setOff (m_Loads_findNextToShed (f_Loads_measure_52 (f_Loads_measure_39 (f_Loads_measure_18 u)))) (1 : Int32) (f_Loads_measure_52 (f_Loads_measure_39 (f_Loads_measure_18 u))))) < (3 : Int32) then (m_Loads_setOff (m_Loads_findNextToShed (f_Loads_measure_52 (f_Loads_measure_39 (f_Loads_measure_18 u)))) (1 : Int32) (f_Loads_measure_52 (f_Loads_measure_39 (f_Loads_measure_18 u)))) else (m_Loads_setOff (m_Loads_findNextToRestore (f_Loads_measure_74 (m_Loads_setOff (m_Loads_findNextToShed (f_Loads_measure_52 (f_Loads_measure_39 (f_Loads_measure_18 u)))) (1 : Int32) (f_Loads_measure_52 (f_Loads_measure_39 (f_Loads_measure_18 u)))))) (0 : Int32) (f_Loads_measure_74 (m_Loads_setOff (m_Loads_findNextToShed (f_Loads_measure_52 (f_Loads_measure_39 (f_Loads_measure_18 u)))) (1 : Int32) (f_Loads_measure_52 (f_Loads_measure_39 (f_Loads_measure_18 u)))))))) else (if (l4 (f_Loads_measure_39_1 (f_Loads_measure_18 u))) < (3 : Int32) then (if (l5 (f_Loads_measure_39_1 (f_Loads_measure_18 u))) < (3 : Int32) then (f_Loads_measure_39_1 (f_Loads_measure_18 u)) else (m_Loads_setOff (m_Loads_findNextToRestore (f_Loads_measure_74 (f_Loads_measure_39_1 (f_Loads_measure_18 u)))) (0 : Int32) (f_Loads_measure_74 (f_Loads_measure_39_1 (f_Loads_measure_18 u))))) else (if (l5 (m_Loads_setOff (m_Loads_findNextToShed (f_Loads_measure_52 (f_Loads_measure_39_1 (f_Loads_measure_18 u)))) (1 : Int32) (f_Loads_measure_52 (f_Loads_measure_39_1 (f_Loads_measure_18 u))))) < (3 : Int32) then (m_Loads_setOff (m_Loads_findNextToShed (f_Loads_measure_52 (f_Loads_measure_39_1 (f_Loads_measure_18 u)))) (1 : Int32) (f_Loads_measure_52 (f_Loads_measure_39_1 (f_Loads_measure_18 u)))) else (m_Loads_setOff (m_Loads_findNextToRestore (f_Loads_measure_74 (m_Loads_setOff (m_Loads_findNextToShed (f_Loads_measure_52 (f_Loads_measure_39_1 (f_Loads_measure_18 u)))) (1 : Int32) (f_Loads_measure_52 (f_Loads_measure_39_1 (f_Loads_measure_18 u)))))) (0 : Int32) (f_Loads_measure_74 (m_Loads_setOff (m_Loads_findNextToShed (f_Loads_measure_52 (f_Loads_measure_39_1 (f_Loads_measure_18 u)))) (1 : Int32) (f_Loads_measure_52 (f_Loads_measure_39_1 (f_Loads_measure_18 u))))))))) else (if p1 ≤ (12500 : Int32) then (if (l4 (f_Loads_measure_39 (f_Loads_measure_18_1 u))) < (3 : Int32) then (if (l5 (f_Loads_measure_39 (f_Loads_measure_18_1 u))) < (3 : Int32) then (f_Loads_measure_39 (f_Loads_measure_18_1 u)) else (m_Loads_setOff (m_Loads_findNextToRestore (f_Loads_measure_74 (f_Loads_measure_39 (f_Loads_measure_18_1 u)))) (0 : Int32) (f_Loads_measure_74 (f_Loads_measure_39 (f_Loads_measure_18_1 u))))) else (if (l5 (m_Loads_setOff (m_Loads_findNextToShed (f_Loads_measure_52 (f_Loads_measure_39 (f_Loads_measure_18_1 u)))) (1 : Int32) (f_Loads_measure_52 (f_Loads_measure_39 (f_Loads_measure_18_1 u))))) < (3 : Int32) then (m_Loads_setOff (m_Loads_findNextToShed (f_Loads_measure_52 (f_Loads_measure_39 (f_Loads_measure_18_1 u)))) (1 : Int32) (f_Loads_measure_52 (f_Loads_measure_39 (f_Loads_measure_18_1 u)))) else (m_Loads_setOff (m_Loads_findNextToRestore (f_Loads_measure_74 (m_Loads_setOff (m_Loads_findNextToShed (f_Loads_measure_52 (f_Loads_measure_39 (f_Loads_measure_18_1 u)))) (1 : Int32) (f_Loads_measure_52 (f_Loads_measure_39 (f_Loads_measure_18_1 u)))))) (0 : Int32) (f_Loads_measure_74 (m_Loads_setOff (m_Loads_findNextToShed (f_Loads_measure_52 (f_Loads_measure_39 (f_Loads_measure_18_1 u)))) (1 : Int32) (f_Loads_measure_52 (f_Loads_measure_39 (f_Loads_measure_18_1 u)))))))) else (if (l4 (f_Loads_measure_39_1 (f_Loads_measure_18_1 u))) < (3 : Int32) then (if (l5 (f_Loads_measure_39_1 (f_Loads_measure_18_1 u))) < (3 : Int32) then (f_Loads_measure_39_1 (f_Loads_measure_18_1 u)) else (m_Loads_setOff (m_Loads_findNextToRestore (f_Loads_measure_74 (f_Loads_measure_39_1 (f_Loads_measure_18_1 u)))) (0 : Int32) (f_Loads_measure_74 (f_Loads_measure_39_1 (f_Loads_measure_18_1 u))))) else (if (l5 (m_Loads_setOff (m_Loads_findNextToShed (f_Loads_measure_52 (f_Loads_measure_39_1 (f_Loads_measure_18_1 u)))) (1 : Int32) (f_Loads_measure_52 (f_Loads_measure_39_1 (f_Loads_measure_18_1 u))))) < (3 : Int32) then (m_Loads_setOff (m_Loads_findNextToShed (f_Loads_measure_52 (f_Loads_measure_39_1 (f_Loads_measure_18_1 u)))) (1 : Int32) (f_Loads_measure_52 (f_Loads_measure_39_1 (f_Loads_measure_18_1 u)))) else (m_Loads_setOff (m_Loads_findNextToRestore (f_Loads_measure_74 (m_Loads_setOff (m_Loads_findNextToShed (f_Loads_measure_52 (f_Loads_measure_39_1 (f_Loads_measure_18_1 u)))) (1 : Int32) (f_Loads_measure_52 (f_Loads_measure_39_1 (f_Loads_measure_18_1 u)))))) (0 : Int32) (f_Loads_measure_74 (m_Loads_setOff (m_Loads_findNextToShed (f_Loads_measure_52 (f_Loads_measure_39_1 (f_Loads_measure_18_1 u)))) (1 : Int32) (f_Loads_measure_52 (f_Loads_measure_39_1 (f_Loads_measure_18_1 u)))))))))
def m_B_wantsLow (u : cB) : Int32 := if ((b0 u) 0) = (2 : Int32) then (1 : Int32) else (if ((b0 u) 0) = (3 : Int32) then (if (b11 u) = 0 then (0 : Int32) else (1 : Int32)) else (0 : Int32))
def m_B_isParkingLit (u : cB) : Int32 := if (b12 u) = 0 then (if ((b0 u) 0) = (1 : Int32) then (1 : Int32) else (if (m_B_wantsLow u) = 0 then (0 : Int32) else (1 : Int32))) else (1 : Int32)
def m_B_isLowLit (u : cB) : Int32 := if ((b0 u) 5) = (1 : Int32) then (if (m_B_wantsLow u) = 0 then (0 : Int32) else (1 : Int32)) else (0 : Int32)
def m_B_turnBulbIsOut (p1 : Int32) (u : cB) : Int32 := (b2 u) ((4 : Int32) + p1).toNatClampNeg
def m_B_isSideLit (p1 : Int32) (u : cB) : Int32 := m_Side_isBright (m_B_turnBulbIsOut p1 u) (b3 u p1.toNatClampNeg)
def m_B_outputNow (p1 : Int32) (u : cB) : Int32 := if p1 = (0 : Int32) then m_B_bit (m_B_isParkingLit u) else (if p1 = (1 : Int32) then m_B_bit (m_B_isLowLit u) else (if p1 = (2 : Int32) then (if (m_B_isLowLit u) = 0 then m_B_bit (0 : Int32) else (if ((b0 u) 6) = (1 : Int32) then m_B_bit (1 : Int32) else m_B_bit (0 : Int32))) else (if p1 = (3 : Int32) then m_B_bit (m_B_isSideLit (p1 - (3 : Int32)) u) else (if p1 = (4 : Int32) then m_B_bit (m_B_isSideLit (p1 - (3 : Int32)) u) else (if p1 = (5 : Int32) then (b4 u).2.2 else (if p1 = (6 : Int32) then (b0 u) 7 else (if p1 = (7 : Int32) then b9 u else (if p1 = (8 : Int32) then (if (b13 u) = 0 then m_B_bit (0 : Int32) else (if (m_B_isSideLit (p1 - (8 : Int32)) u) = 0 then m_B_bit (0 : Int32) else m_B_bit (1 : Int32))) else (if p1 = (9 : Int32) then (if (b13 u) = 0 then m_B_bit (0 : Int32) else (if (m_B_isSideLit (p1 - (8 : Int32)) u) = 0 then m_B_bit (0 : Int32) else m_B_bit (1 : Int32))) else (0 : Int32))))))))))
def f_B_noteOutputs_18 (k : Nat) (u : cB) : cB := s1 u (upd (b1 u) k (m_B_outputNow (nI k) u))
def lb_B_noteOutputs_2 (k : Nat) (u : cB) : cB := (f_B_noteOutputs_18 k u)
def li_B_noteOutputs_2 (u : cB) : Nat → cB
  | 0 => u
  | k + 1 => lb_B_noteOutputs_2 k (li_B_noteOutputs_2 u k)
def m_B_noteOutputs (u : cB) : cB := (li_B_noteOutputs_2 u 10)
def lb_B_countChangedOutputs_4 (u : cB) (k : Nat) (x : Int32) : Int32 := if (m_B_outputNow (nI k) u) = ((b1 u) k) then x else x + (1 : Int32)
def li_B_countChangedOutputs_4 (u : cB) : Nat → Int32
  | 0 => 0
  | k + 1 => lb_B_countChangedOutputs_4 u k (li_B_countChangedOutputs_4 u k)
def m_B_countChangedOutputs (u : cB) : Int32 := li_B_countChangedOutputs_4 u 10
def m_B_isWanted (p1 : Int32) (u : cB) : Int32 := if (b12 u) = 0 then (if ((b0 u) 3) = (1 : Int32) then (1 : Int32) else (if ((b0 u) 2) = (p1 + (1 : Int32)) then (1 : Int32) else (0 : Int32))) else (1 : Int32)
def f_B_beginWantedSides_21 (u : cB) : cB := s3 u (va_up (b3 u) 1 (m_Side_begin (b3 u 1)))
def f_B_beginWantedSides_21_1 (u : cB) : cB := s3 u (va_up (b3 u) 0 (m_Side_begin (b3 u 0)))
def m_B_beginWantedSides (u : cB) : cB := if (m_B_isWanted (0 : Int32) u) = 0 then (if (m_B_isWanted (1 : Int32) u) = 0 then u else (f_B_beginWantedSides_21 u)) else (if (m_B_isWanted (1 : Int32) (f_B_beginWantedSides_21_1 u)) = 0 then (f_B_beginWantedSides_21_1 u) else (f_B_beginWantedSides_21 (f_B_beginWantedSides_21_1 u)))
def f_B_followBrightness_24 (u : cB) : cB := s11 u (0 : Int32)
def f_B_followBrightness_9 (u : cB) : cB := s11 u (1 : Int32)
def m_B_followBrightness (p1 : Int32) (u : cB) : cB := if (200 : Int32) ≤ p1 then (if p1 ≤ (400 : Int32) then u else (f_B_followBrightness_24 u)) else (f_B_followBrightness_9 u)
def f_B_endUnwantedSide_23 (p1 : Int32) (u : cB) : cB := s3 u (va_up (b3 u) p1.toNatClampNeg ((0 : Int32), (b3 u p1.toNatClampNeg).2.1, (b3 u p1.toNatClampNeg).2.2))
def m_B_endUnwantedSide (p1 : Int32) (u : cB) : cB := if (m_B_isBelow p1 (2 : Int32)) = 0 then u else (if (m_B_isWanted p1 u) = 0 then (f_B_endUnwantedSide_23 p1 u) else u)
def m_B_rainSpeed (u : cB) : Int32 := if (b8 u) = 0 then (0 : Int32) else (if (8 : Int32) ≤ (b8 u) then (2 : Int32) else (1 : Int32))
def m_B_wiperSpeed (u : cB) : Int32 := if ((b0 u) 5) = 0 then (0 : Int32) else (if ((b0 u) 4) = (1 : Int32) then m_B_rainSpeed u else (if ((b0 u) 4) = (2 : Int32) then (1 : Int32) else (if ((b0 u) 4) = (3 : Int32) then (2 : Int32) else (0 : Int32))))
def m_B_pauseAfterWiping (u : cB) : Int32 := if ((b0 u) 4) = (1 : Int32) then (if (b8 u) < (1 : Int32) then (0 : Int32) else (if (4 : Int32) < (b8 u) then (0 : Int32) else (400 : Int32) - ((80 : Int32) * (b8 u)))) else (0 : Int32)
def f_B_tickInterior_30 (u : cB) : cB := s9 u (mn ((b9 u) + (1 : Int32)) (100 : Int32))
def f_B_tickInterior_47 (u : cB) : cB := s9 u (mx ((b9 u) - (1 : Int32)) (0 : Int32))
def m_B_tickInterior (u : cB) : cB := if (b12 u) = 0 then (if ((b0 u) 8) = (1 : Int32) then (f_B_tickInterior_30 u) else (f_B_tickInterior_47 u)) else (f_B_tickInterior_30 u)
def f_B_tick_23 (u : cB) : cB := s3 u (va_up (b3 u) 0 (m_Side_tick (m_B_turnBulbIsOut (0 : Int32) u) (m_B_isWanted (0 : Int32) u) (b3 u 0)))
def f_B_tick_23_1 (u : cB) : cB := s3 u (va_up (b3 u) 1 (m_Side_tick (m_B_turnBulbIsOut (1 : Int32) u) (m_B_isWanted (1 : Int32) u) (b3 u 1)))
def f_B_tick_44 (u : cB) : cB := s4 u (m_Wiper_tick (m_B_wiperSpeed u) (m_B_pauseAfterWiping u) (b4 u))
def f_B_tick_64 (u : cB) : cB := s5 u (va_up (b5 u) 0 (m_Window_tick (b5 u 0)))
def f_B_tick_64_1 (u : cB) : cB := s5 u (va_up (b5 u) 1 (m_Window_tick (b5 u 1)))
def f_B_tick_64_2 (u : cB) : cB := s5 u (va_up (b5 u) 2 (m_Window_tick (b5 u 2)))
def f_B_tick_64_3 (u : cB) : cB := s5 u (va_up (b5 u) 3 (m_Window_tick (b5 u 3)))
def f_B_tick_80 (u : cB) : cB := s10 u ((b10 u) + (1 : Int32))
def g_B_tick_53_4 (u : cB) : cB := (f_B_tick_80 u)
def g_B_tick_53_3 (u : cB) : cB := (g_B_tick_53_4 (f_B_tick_64_3 u))
def g_B_tick_53_2 (u : cB) : cB := (g_B_tick_53_3 (f_B_tick_64_2 u))
def g_B_tick_53_1 (u : cB) : cB := (g_B_tick_53_2 (f_B_tick_64_1 u))
def g_B_tick_53_0 (u : cB) : cB := (g_B_tick_53_1 (f_B_tick_64 u))
def g_B_tick_32_2 (u : cB) : cB := (g_B_tick_53_0 (m_B_tickInterior (f_B_tick_44 u)))
def g_B_tick_2_2 (u : cB) : cB := (g_B_tick_32_2 u)
def g_B_tick_2_1 (u : cB) : cB := (g_B_tick_2_2 (f_B_tick_23_1 u))
def g_B_tick_2_0 (u : cB) : cB := (g_B_tick_2_1 (f_B_tick_23 u))
def m_B_tick (u : cB) : cB := (g_B_tick_2_0 u)
def f_B_giveBack_29 (p2 : Int32) (u : cB) : cB := s9 u p2
def f_B_giveBack_21 (p1 : Int32) (p2 : Int32) (u : cB) : cB := s5 u (va_up (b5 u) p1.toNatClampNeg ((b5 u p1.toNatClampNeg).1, p2, (b5 u p1.toNatClampNeg).2.2))
def m_B_giveBack (p1 : Int32) (p2 : Int32) (u : cB) : cB := if p2 = (-1 : Int32) then u else (if (m_B_isBelow p1 (4 : Int32)) = 0 then (f_B_giveBack_29 p2 u) else (f_B_giveBack_21 p1 p2 u))
def f_B_input_36 (p1 : Int32) (p2 : Int32) (u : cB) : cB := s0 u (upd (b0 u) p1.toNatClampNeg p2)
def g_B_input_67 (p1 : Int32) (p2 : Int32) (u : cB) : Int32 × cB := (m_B_countChangedOutputs u, u)
def g_B_input_47 (p1 : Int32) (p2 : Int32) (u : cB) : Int32 × cB := if p1 = (2 : Int32) then (if p2 = 0 then (g_B_input_67 p1 p2 (m_B_beginWantedSides u)) else (g_B_input_67 p1 p2 (m_B_endUnwantedSide ((2 : Int32) - p2) (m_B_beginWantedSides u)))) else (g_B_input_67 p1 p2 (m_B_beginWantedSides u))
def m_B_input (p1 : Int32) (p2 : Int32) (u : cB) : Int32 × cB := if (m_B_isBelow p1 (9 : Int32)) = 0 then ((-1 : Int32), u) else (if (m_B_isUpTo p2 (k_great p1.toNatClampNeg)) = 0 then ((-2 : Int32), u) else (if p1 = (1 : Int32) then (g_B_input_47 p1 p2 (m_B_followBrightness p2 (f_B_input_36 p1 p2 (m_B_noteOutputs u)))) else (g_B_input_47 p1 p2 (f_B_input_36 p1 p2 (m_B_noteOutputs u)))))
def lb_B_step_19 (p1 : Int32) (k : Nat) (u : cB) : cB := (m_B_tick u)
def li_B_step_19 (p1 : Int32) (u : cB) : Nat → cB
  | 0 => u
  | k + 1 => lb_B_step_19 p1 k (li_B_step_19 p1 u k)
def m_B_step (p1 : Int32) (u : cB) : Int32 × cB := if (m_B_isUpTo p1 (1000 : Int32)) = 0 then ((-2 : Int32), u) else (m_B_countChangedOutputs (li_B_step_19 p1 (m_B_noteOutputs u) p1.toNatClampNeg), (li_B_step_19 p1 (m_B_noteOutputs u) p1.toNatClampNeg))
def f_B_pinch_30 (p1 : Int32) (p2 : Int32) (u : cB) : cB := s5 u (va_up (b5 u) p1.toNatClampNeg ((m_Window_reverseAt p2 (b5 u p1.toNatClampNeg)).2))
def m_B_pinch (p1 : Int32) (p2 : Int32) (u : cB) : Int32 × cB := if (m_B_isBelow p1 (4 : Int32)) = 0 then ((-1 : Int32), u) else (if (m_B_isUpTo p2 (1000 : Int32)) = 0 then ((-2 : Int32), u) else (m_B_bit ((m_Window_reverseAt p2 (b5 u p1.toNatClampNeg)).1), (f_B_pinch_30 p1 p2 u)))
def f_B_learn_16 (p1 : Int32) (u : cB) : cB := s5 u (va_up (b5 u) p1.toNatClampNeg ((m_Window_learnAtEnd (b5 u p1.toNatClampNeg)).2))
def m_B_learn (p1 : Int32) (u : cB) : Int32 × cB := if (m_B_isBelow p1 (4 : Int32)) = 0 then ((-1 : Int32), u) else (m_B_bit ((m_Window_learnAtEnd (b5 u p1.toNatClampNeg)).1), (f_B_learn_16 p1 u))
def f_B_shed_18 (p1 : Int32) (u : cB) : cB := s6 u (m_Loads_measure p1 (b6 u))
def m_B_shed (p1 : Int32) (u : cB) : Int32 × cB := if (m_B_isUpTo p1 (20000 : Int32)) = 0 then ((-2 : Int32), u) else (m_Loads_countOff (b6 (f_B_shed_18 p1 u)), (f_B_shed_18 p1 u))
def f_B_load_31 (p1 : Int32) (p2 : Int32) (u : cB) : cB := s6 u ((m_Loads_add p1 p2 (b6 u)).2)
def m_B_load (p1 : Int32) (p2 : Int32) (u : cB) : Int32 × cB := if (m_B_isUpTo p1 (9 : Int32)) = 0 then ((-2 : Int32), u) else (if (m_Loads_isFull (b6 u)) = 0 then ((m_Loads_add p1 p2 (b6 u)).1, (f_B_load_31 p1 p2 u)) else ((-4 : Int32), u))
def m_B_isOn (p1 : Int32) (u : cB) : Int32 := if (m_Loads_has p1 (b6 u)) = 0 then (-1 : Int32) else m_B_bit (m_Loads_runs p1 (b6 u))
def f_B_bulb_25 (p1 : Int32) (u : cB) : cB := s2 u (upd (b2 u) p1.toNatClampNeg (1 : Int32))
def f_B_bulb_25_1 (p1 : Int32) (u : cB) : cB := s2 u (upd (b2 u) p1.toNatClampNeg (0 : Int32))
def m_B_bulb (p1 : Int32) (p2 : Int32) (u : cB) : Int32 × cB := if (m_B_isBelow p1 (6 : Int32)) = 0 then ((-1 : Int32), u) else (if p2 = 0 then (if p2 = 0 then (if ((b2 (f_B_bulb_25 p1 u)) (k_subst p1.toNatClampNeg).toNatClampNeg) = 0 then ((k_subst p1.toNatClampNeg) + (1 : Int32), (f_B_bulb_25 p1 u)) else ((0 : Int32), (f_B_bulb_25 p1 u))) else ((0 : Int32), (f_B_bulb_25 p1 u))) else (if p2 = 0 then (if ((b2 (f_B_bulb_25_1 p1 u)) (k_subst p1.toNatClampNeg).toNatClampNeg) = 0 then ((k_subst p1.toNatClampNeg) + (1 : Int32), (f_B_bulb_25_1 p1 u)) else ((0 : Int32), (f_B_bulb_25_1 p1 u))) else ((0 : Int32), (f_B_bulb_25_1 p1 u))))
def f_B_rain_19 (p1 : Int32) (u : cB) : cB := s8 u p1
def m_B_rain (p1 : Int32) (u : cB) : Int32 × cB := if (m_B_isUpTo p1 (9 : Int32)) = 0 then ((-2 : Int32), u) else (b8 u, (f_B_rain_19 p1 u))
def f_B_window_30 (p1 : Int32) (p2 : Int32) (u : cB) : cB := s5 u (va_up (b5 u) p1.toNatClampNeg ((b5 u p1.toNatClampNeg).1, p2, (b5 u p1.toNatClampNeg).2.2))
def m_B_window (p1 : Int32) (p2 : Int32) (u : cB) : Int32 × cB := if (m_B_isBelow p1 (4 : Int32)) = 0 then ((-1 : Int32), u) else (if (m_B_isUpTo p2 (200 : Int32)) = 0 then ((-2 : Int32), u) else (m_Window_ticksToWish (b5 (f_B_window_30 p1 p2 u) p1.toNatClampNeg), (f_B_window_30 p1 p2 u)))
def f_B_crash_16 (u : cB) : cB := s12 u (1 : Int32)
def f_B_crash_37 (u : cB) : cB := s5 u (va_up (b5 u) 0 ((b5 u 0).1, (0 : Int32), (b5 u 0).2.2))
def f_B_crash_37_1 (u : cB) : cB := s5 u (va_up (b5 u) 1 ((b5 u 1).1, (0 : Int32), (b5 u 1).2.2))
def f_B_crash_37_2 (u : cB) : cB := s5 u (va_up (b5 u) 2 ((b5 u 2).1, (0 : Int32), (b5 u 2).2.2))
def f_B_crash_37_3 (u : cB) : cB := s5 u (va_up (b5 u) 3 ((b5 u 3).1, (0 : Int32), (b5 u 3).2.2))
def g_B_crash_25_4 (u : cB) : Int32 × cB := (m_B_countChangedOutputs u, u)
def g_B_crash_25_3 (u : cB) : Int32 × cB := (g_B_crash_25_4 (f_B_crash_37_3 u))
def g_B_crash_25_2 (u : cB) : Int32 × cB := (g_B_crash_25_3 (f_B_crash_37_2 u))
def g_B_crash_25_1 (u : cB) : Int32 × cB := (g_B_crash_25_2 (f_B_crash_37_1 u))
def g_B_crash_25_0 (u : cB) : Int32 × cB := (g_B_crash_25_1 (f_B_crash_37 u))
def m_B_crash (u : cB) : Int32 × cB := if (b12 u) = 0 then (g_B_crash_25_0 (m_B_beginWantedSides (f_B_crash_16 (m_B_noteOutputs u)))) else ((-3 : Int32), u)
def f_B_memory_61 (p1 : Int32) (p2 : Int32) (u : cB) : cB := s7 u (va_up (b7 u) p1.toNatClampNeg (upd (b7 u p1.toNatClampNeg) p2.toNatClampNeg (b9 u)))
def f_B_memory_61_1 (p1 : Int32) (p2 : Int32) (u : cB) : cB := s7 u (va_up (b7 u) p1.toNatClampNeg (upd (b7 u p1.toNatClampNeg) p2.toNatClampNeg ((b5 u p2.toNatClampNeg).2.1)))
def m_B_memory (p1 : Int32) (p2 : Int32) (p3 : Int32) (u : cB) : Int32 × cB := if (m_B_isBelow p1 (4 : Int32)) = 0 then ((-1 : Int32), u) else (if (m_B_isBelow p2 (5 : Int32)) = 0 then ((-2 : Int32), u) else (if (m_B_isUpTo p3 (1 : Int32)) = 0 then ((-2 : Int32), u) else (if p3 = 0 then (if (4 : Int32) ≤ p2 then (b7 (f_B_memory_61 p1 p2 u) p1.toNatClampNeg p2.toNatClampNeg, (f_B_memory_61 p1 p2 u)) else (b7 (f_B_memory_61_1 p1 p2 u) p1.toNatClampNeg p2.toNatClampNeg, (f_B_memory_61_1 p1 p2 u))) else (b7 (m_B_giveBack p2 (b7 u p1.toNatClampNeg p2.toNatClampNeg) u) p1.toNatClampNeg p2.toNatClampNeg, (m_B_giveBack p2 (b7 u p1.toNatClampNeg p2.toNatClampNeg) u)))))
def f_B_trailer_6 (p1 : Int32) (u : cB) : cB := s13 u p1
def m_B_trailer (p1 : Int32) (u : cB) : Int32 × cB := (m_B_countChangedOutputs (f_B_trailer_6 p1 (m_B_noteOutputs u)), (f_B_trailer_6 p1 (m_B_noteOutputs u)))
def m_B_state (p1 : Int32) (u : cB) : Int32 := if p1 = (0 : Int32) then (b5 u p1.toNatClampNeg).1 else (if p1 = (1 : Int32) then (b5 u p1.toNatClampNeg).1 else (if p1 = (2 : Int32) then (b5 u p1.toNatClampNeg).1 else (if p1 = (3 : Int32) then (b5 u p1.toNatClampNeg).1 else (if p1 = (4 : Int32) then (b4 u).1 else (if p1 = (5 : Int32) then (b4 u).2.1 else (if p1 = (6 : Int32) then (b3 u ((p1 - (6 : Int32)).toNatClampNeg)).2.2 else (if p1 = (7 : Int32) then (b3 u ((p1 - (6 : Int32)).toNatClampNeg)).2.2 else (if p1 = (8 : Int32) then m_B_bit (b11 u) else (if p1 = (9 : Int32) then b10 u else (-2 : Int32))))))))))
end
section
theorem k3_f_Loads_add_19 (p1 : Int32) (u : cL) : l3 (f_Loads_add_19 p1 u) = l3 u := rfl
theorem k3_f_Loads_add_29 (p2 : Int32) (u : cL) : l3 (f_Loads_add_29 p2 u) = l3 u := rfl
theorem k3_f_Loads_setOff_11 (p1 : Int32) (p2 : Int32) (u : cL) : l3 (f_Loads_setOff_11 p1 p2 u) = l3 u := rfl
theorem k3_f_Loads_measure_18 (u : cL) : l3 (f_Loads_measure_18 u) = l3 u := rfl
theorem k3_f_Loads_measure_39 (u : cL) : l3 (f_Loads_measure_39 u) = l3 u := rfl
theorem k3_f_Loads_measure_74 (u : cL) : l3 (f_Loads_measure_74 u) = l3 u := rfl
theorem k3_f_Loads_measure_52 (u : cL) : l3 (f_Loads_measure_52 u) = l3 u := rfl
theorem k3_f_Loads_measure_39_1 (u : cL) : l3 (f_Loads_measure_39_1 u) = l3 u := rfl
theorem k3_f_Loads_measure_18_1 (u : cL) : l3 (f_Loads_measure_18_1 u) = l3 u := rfl
theorem k2_f_B_noteOutputs_18 (k : Nat) (u : cB) : b2 (f_B_noteOutputs_18 k u) = b2 u := rfl
theorem k6_f_B_noteOutputs_18 (k : Nat) (u : cB) : b6 (f_B_noteOutputs_18 k u) = b6 u := rfl
theorem k2_f_B_beginWantedSides_21 (u : cB) : b2 (f_B_beginWantedSides_21 u) = b2 u := rfl
theorem k6_f_B_beginWantedSides_21 (u : cB) : b6 (f_B_beginWantedSides_21 u) = b6 u := rfl
theorem k2_f_B_beginWantedSides_21_1 (u : cB) : b2 (f_B_beginWantedSides_21_1 u) = b2 u := rfl
theorem k6_f_B_beginWantedSides_21_1 (u : cB) : b6 (f_B_beginWantedSides_21_1 u) = b6 u := rfl
theorem k2_f_B_followBrightness_24 (u : cB) : b2 (f_B_followBrightness_24 u) = b2 u := rfl
theorem k6_f_B_followBrightness_24 (u : cB) : b6 (f_B_followBrightness_24 u) = b6 u := rfl
theorem k2_f_B_followBrightness_9 (u : cB) : b2 (f_B_followBrightness_9 u) = b2 u := rfl
theorem k6_f_B_followBrightness_9 (u : cB) : b6 (f_B_followBrightness_9 u) = b6 u := rfl
theorem k2_f_B_endUnwantedSide_23 (p1 : Int32) (u : cB) : b2 (f_B_endUnwantedSide_23 p1 u) = b2 u := rfl
theorem k6_f_B_endUnwantedSide_23 (p1 : Int32) (u : cB) : b6 (f_B_endUnwantedSide_23 p1 u) = b6 u := rfl
theorem k2_f_B_tickInterior_30 (u : cB) : b2 (f_B_tickInterior_30 u) = b2 u := rfl
theorem k6_f_B_tickInterior_30 (u : cB) : b6 (f_B_tickInterior_30 u) = b6 u := rfl
theorem k2_f_B_tickInterior_47 (u : cB) : b2 (f_B_tickInterior_47 u) = b2 u := rfl
theorem k6_f_B_tickInterior_47 (u : cB) : b6 (f_B_tickInterior_47 u) = b6 u := rfl
theorem k2_f_B_tick_23 (u : cB) : b2 (f_B_tick_23 u) = b2 u := rfl
theorem k6_f_B_tick_23 (u : cB) : b6 (f_B_tick_23 u) = b6 u := rfl
theorem k2_f_B_tick_23_1 (u : cB) : b2 (f_B_tick_23_1 u) = b2 u := rfl
theorem k6_f_B_tick_23_1 (u : cB) : b6 (f_B_tick_23_1 u) = b6 u := rfl
theorem k2_f_B_tick_44 (u : cB) : b2 (f_B_tick_44 u) = b2 u := rfl
theorem k6_f_B_tick_44 (u : cB) : b6 (f_B_tick_44 u) = b6 u := rfl
theorem k2_f_B_tick_64 (u : cB) : b2 (f_B_tick_64 u) = b2 u := rfl
theorem k6_f_B_tick_64 (u : cB) : b6 (f_B_tick_64 u) = b6 u := rfl
theorem k2_f_B_tick_64_1 (u : cB) : b2 (f_B_tick_64_1 u) = b2 u := rfl
theorem k6_f_B_tick_64_1 (u : cB) : b6 (f_B_tick_64_1 u) = b6 u := rfl
theorem k2_f_B_tick_64_2 (u : cB) : b2 (f_B_tick_64_2 u) = b2 u := rfl
theorem k6_f_B_tick_64_2 (u : cB) : b6 (f_B_tick_64_2 u) = b6 u := rfl
theorem k2_f_B_tick_64_3 (u : cB) : b2 (f_B_tick_64_3 u) = b2 u := rfl
theorem k6_f_B_tick_64_3 (u : cB) : b6 (f_B_tick_64_3 u) = b6 u := rfl
theorem k2_f_B_tick_80 (u : cB) : b2 (f_B_tick_80 u) = b2 u := rfl
theorem k6_f_B_tick_80 (u : cB) : b6 (f_B_tick_80 u) = b6 u := rfl
theorem k2_f_B_giveBack_29 (p2 : Int32) (u : cB) : b2 (f_B_giveBack_29 p2 u) = b2 u := rfl
theorem k6_f_B_giveBack_29 (p2 : Int32) (u : cB) : b6 (f_B_giveBack_29 p2 u) = b6 u := rfl
theorem k2_f_B_giveBack_21 (p1 : Int32) (p2 : Int32) (u : cB) : b2 (f_B_giveBack_21 p1 p2 u) = b2 u := rfl
theorem k6_f_B_giveBack_21 (p1 : Int32) (p2 : Int32) (u : cB) : b6 (f_B_giveBack_21 p1 p2 u) = b6 u := rfl
theorem k2_f_B_input_36 (p1 : Int32) (p2 : Int32) (u : cB) : b2 (f_B_input_36 p1 p2 u) = b2 u := rfl
theorem k6_f_B_input_36 (p1 : Int32) (p2 : Int32) (u : cB) : b6 (f_B_input_36 p1 p2 u) = b6 u := rfl
theorem k2_f_B_pinch_30 (p1 : Int32) (p2 : Int32) (u : cB) : b2 (f_B_pinch_30 p1 p2 u) = b2 u := rfl
theorem k6_f_B_pinch_30 (p1 : Int32) (p2 : Int32) (u : cB) : b6 (f_B_pinch_30 p1 p2 u) = b6 u := rfl
theorem k2_f_B_learn_16 (p1 : Int32) (u : cB) : b2 (f_B_learn_16 p1 u) = b2 u := rfl
theorem k6_f_B_learn_16 (p1 : Int32) (u : cB) : b6 (f_B_learn_16 p1 u) = b6 u := rfl
theorem k2_f_B_shed_18 (p1 : Int32) (u : cB) : b2 (f_B_shed_18 p1 u) = b2 u := rfl
theorem k2_f_B_load_31 (p1 : Int32) (p2 : Int32) (u : cB) : b2 (f_B_load_31 p1 p2 u) = b2 u := rfl
theorem k6_f_B_bulb_25 (p1 : Int32) (u : cB) : b6 (f_B_bulb_25 p1 u) = b6 u := rfl
theorem k6_f_B_bulb_25_1 (p1 : Int32) (u : cB) : b6 (f_B_bulb_25_1 p1 u) = b6 u := rfl
theorem k2_f_B_rain_19 (p1 : Int32) (u : cB) : b2 (f_B_rain_19 p1 u) = b2 u := rfl
theorem k6_f_B_rain_19 (p1 : Int32) (u : cB) : b6 (f_B_rain_19 p1 u) = b6 u := rfl
theorem k2_f_B_window_30 (p1 : Int32) (p2 : Int32) (u : cB) : b2 (f_B_window_30 p1 p2 u) = b2 u := rfl
theorem k6_f_B_window_30 (p1 : Int32) (p2 : Int32) (u : cB) : b6 (f_B_window_30 p1 p2 u) = b6 u := rfl
theorem k2_f_B_crash_16 (u : cB) : b2 (f_B_crash_16 u) = b2 u := rfl
theorem k6_f_B_crash_16 (u : cB) : b6 (f_B_crash_16 u) = b6 u := rfl
theorem k2_f_B_crash_37 (u : cB) : b2 (f_B_crash_37 u) = b2 u := rfl
theorem k6_f_B_crash_37 (u : cB) : b6 (f_B_crash_37 u) = b6 u := rfl
theorem k2_f_B_crash_37_1 (u : cB) : b2 (f_B_crash_37_1 u) = b2 u := rfl
theorem k6_f_B_crash_37_1 (u : cB) : b6 (f_B_crash_37_1 u) = b6 u := rfl
theorem k2_f_B_crash_37_2 (u : cB) : b2 (f_B_crash_37_2 u) = b2 u := rfl
theorem k6_f_B_crash_37_2 (u : cB) : b6 (f_B_crash_37_2 u) = b6 u := rfl
theorem k2_f_B_crash_37_3 (u : cB) : b2 (f_B_crash_37_3 u) = b2 u := rfl
theorem k6_f_B_crash_37_3 (u : cB) : b6 (f_B_crash_37_3 u) = b6 u := rfl
theorem k2_f_B_memory_61 (p1 : Int32) (p2 : Int32) (u : cB) : b2 (f_B_memory_61 p1 p2 u) = b2 u := rfl
theorem k6_f_B_memory_61 (p1 : Int32) (p2 : Int32) (u : cB) : b6 (f_B_memory_61 p1 p2 u) = b6 u := rfl
theorem k2_f_B_memory_61_1 (p1 : Int32) (p2 : Int32) (u : cB) : b2 (f_B_memory_61_1 p1 p2 u) = b2 u := rfl
theorem k6_f_B_memory_61_1 (p1 : Int32) (p2 : Int32) (u : cB) : b6 (f_B_memory_61_1 p1 p2 u) = b6 u := rfl
theorem k2_f_B_trailer_6 (p1 : Int32) (u : cB) : b2 (f_B_trailer_6 p1 u) = b2 u := rfl
theorem k6_f_B_trailer_6 (p1 : Int32) (u : cB) : b6 (f_B_trailer_6 p1 u) = b6 u := rfl
/-! PU2: rows on the functions of the methods that the walks ask for -/
def IL (u : cL) : Prop := (l3 u).toNatClampNeg ≤ 12 ∧ l3 u = nI (l3 u).toNatClampNeg
def Iv (u : cB) : Prop := (∀ j : Nat, b2 u j = 0 ∨ b2 u j = 1) ∧ IL (b6 u)
theorem hk_bl {p M : Int32} {N : Nat} (h : ¬ m_B_isBelow p M = 0) (hM : M = nI N) : ∃ j : Nat, j < 2 ^ 31 ∧ j < N ∧ p = nI j := by
  unfold m_B_isBelow at h
  by_cases h1 : p < 0
  · rw [if_pos h1] at h
    exact absurd rfl h
  · rw [if_neg h1] at h
    by_cases h2 : M ≤ p
    · rw [if_pos h2] at h
      exact absurd rfl h
    · obtain ⟨j, hj, rfl⟩ := nI_of h1
      refine ⟨j, hj, ?_, rfl⟩
      rcases Nat.lt_or_ge j N with q | q
      · exact q
      · exact absurd (by rw [hM]; exact nI_le q hj) h2
theorem hk_ib {p M : Int32} {N : Nat} (h : ¬ m_B_isBelow p M = 0) (hM : M = nI N) : vp_in p N := by
  obtain ⟨j, hj, hN, rfl⟩ := hk_bl h hM
  exact vp_in_iff.mpr (by rw [nI_toInt hj]; omega)
theorem hk_b2 {p : Int32} (h : ¬ m_B_isBelow p 2 = 0) : p = 0 ∨ p = 1 := by
  obtain ⟨j, hj, hN, rfl⟩ := hk_bl (N := 2) h rfl
  have h : j = 0 ∨ j = 1 := by omega
  rcases h with rfl | rfl <;> simp [nI]
theorem hk_b4 {p : Int32} (h : ¬ m_B_isBelow p 4 = 0) : p = 0 ∨ p = 1 ∨ p = 2 ∨ p = 3 := by
  obtain ⟨j, hj, hN, rfl⟩ := hk_bl (N := 4) h rfl
  have h : j = 0 ∨ j = 1 ∨ j = 2 ∨ j = 3 := by omega
  rcases h with rfl | rfl | rfl | rfl <;> simp [nI]
theorem hk_w4 {p : Int32} (h : ¬ m_B_isBelow p 5 = 0) (h4 : ¬ 4 ≤ p) : p = 0 ∨ p = 1 ∨ p = 2 ∨ p = 3 := by
  obtain ⟨j, hj, hN, rfl⟩ := hk_bl (N := 5) h rfl
  have h : j = 0 ∨ j = 1 ∨ j = 2 ∨ j = 3 ∨ j = 4 := by omega
  rcases h with rfl | rfl | rfl | rfl | rfl
  iterate 4 simp [nI]
  exact absurd (by decide) h4
theorem hk_ul {p M : Int32} {N : Nat} (h : ¬ m_B_isUpTo p M = 0) (hM : M = nI N) (hN : N < 2 ^ 31) : ∃ j : Nat, j ≤ N ∧ p = nI j := by
  unfold m_B_isUpTo at h
  by_cases h1 : p < 0
  · rw [if_pos h1] at h
    exact absurd rfl h
  · rw [if_neg h1] at h
    by_cases h2 : M < p
    · rw [if_pos h2] at h
      exact absurd rfl h
    · obtain ⟨j, hj, rfl⟩ := nI_of h1
      refine ⟨j, ?_, rfl⟩
      rcases Nat.lt_or_ge N j with q | q
      · exact absurd (by rw [hM]; exact nI_lt q hj) h2
      · exact q
theorem hk_u {p M : Int32} {N : Nat} (h : ¬ m_B_isUpTo p M = 0) (hM : M = nI N) (hN : N < 2 ^ 31) : p.toNatClampNeg < 2 ^ 31 ∧ p = nI p.toNatClampNeg := by
  obtain ⟨j, hj, rfl⟩ := hk_ul h hM hN
  rw [nI_clamp (by omega)]
  exact ⟨by omega, rfl⟩
theorem z_Side_isBright (p : Int32) (x : cS) : m_Side_isBright p x = 0 ∨ m_Side_isBright p x = 1 := by
  unfold m_Side_isBright
  split
  · exact Or.inl rfl
  · split
    · exact Or.inl rfl
    · exact Or.inr rfl
theorem hk_inL {u : cL} (hI : IL u) (h : m_Loads_isFull u = 0) : vp_in (l3 u) 12 := by
  unfold m_Loads_isFull at h
  by_cases h1 : l3 u < 12
  · obtain ⟨a, b⟩ := hI
    rw [b] at h1 ⊢
    have h2 : nI (l3 u).toNatClampNeg < nI 12 := h1
    rw [nI_ltI (by omega) (by decide)] at h2
    exact vp_in_nI h2 (by decide)
  · rw [if_neg h1] at h
    exact absurd h (by decide)
theorem hk_inR {u : cL} {p : Int32} (hI : IL u) (h : ¬ m_Loads_has p u = 0) : vp_in (p - 1) 12 := by
  unfold m_Loads_has at h
  by_cases h1 : p < 1
  · rw [if_pos h1] at h
    exact absurd rfl h
  · rw [if_neg h1] at h
    by_cases h2 : l3 u < p
    · rw [if_pos h2] at h
      exact absurd rfl h
    · obtain ⟨a, b⟩ := hI
      have h0 : ¬ p < 0 := fun q => h1 (by
        have := Int32.lt_iff_toInt_lt.mp q
        apply Int32.lt_iff_toInt_lt.mpr
        have e1 : (1 : Int32).toInt = 1 := by decide
        have e0 : (0 : Int32).toInt = 0 := by decide
        omega)
      obtain ⟨j, hj, rfl⟩ := nI_of h0
      rw [b] at h2
      rw [nI_ltI (by omega) hj] at h2
      have h3 : ¬ nI j < nI 1 := h1
      rw [nI_ltI hj (by decide)] at h3
      have e : nI j - 1 = nI (j - 1) := by
        obtain ⟨i, rfl⟩ : ∃ i, j = i + 1 := ⟨j - 1, by omega⟩
        exact nI_pred i
      rw [e]
      exact vp_in_nI (by omega) (by decide)
theorem fd_shed (u : cL) : ∀ k : Nat, k ≤ 12 → li_Loads_findNextToShed_4 u k = -1 ∨ ∃ j : Nat, j < 12 ∧ li_Loads_findNextToShed_4 u k = nI j := by
  intro k
  induction k with
  | zero => exact fun _ => Or.inl rfl
  | succ k ih =>
    intro hk
    have h := ih (by omega)
    show lb_Loads_findNextToShed_4 u k (li_Loads_findNextToShed_4 u k) = -1 ∨ ∃ j : Nat, j < 12 ∧ lb_Loads_findNextToShed_4 u k (li_Loads_findNextToShed_4 u k) = nI j
    unfold lb_Loads_findNextToShed_4
    repeat' split
    all_goals first | exact h | exact Or.inr ⟨k, by omega, rfl⟩
theorem fd_rest (u : cL) : ∀ k : Nat, k ≤ 12 → li_Loads_findNextToRestore_4 u k = -1 ∨ ∃ j : Nat, j < 12 ∧ li_Loads_findNextToRestore_4 u k = nI j := by
  intro k
  induction k with
  | zero => exact fun _ => Or.inl rfl
  | succ k ih =>
    intro hk
    have h := ih (by omega)
    show lb_Loads_findNextToRestore_4 u k (li_Loads_findNextToRestore_4 u k) = -1 ∨ ∃ j : Nat, j < 12 ∧ lb_Loads_findNextToRestore_4 u k (li_Loads_findNextToRestore_4 u k) = nI j
    unfold lb_Loads_findNextToRestore_4
    repeat' split
    all_goals first | exact h | exact Or.inr ⟨k, by omega, rfl⟩
theorem fr_shed {u : cL} (h : IL u) : m_Loads_findNextToShed u = -1 ∨ ∃ j : Nat, j < 12 ∧ m_Loads_findNextToShed u = nI j := fd_shed u _ h.1
theorem fr_rest {u : cL} (h : IL u) : m_Loads_findNextToRestore u = -1 ∨ ∃ j : Nat, j < 12 ∧ m_Loads_findNextToRestore u = nI j := fd_rest u _ h.1
theorem km_Loads_setOff {p1 p2 : Int32} {u : cL} (h : IL u) : IL (m_Loads_setOff p1 p2 u) := by
  unfold m_Loads_setOff
  split
  · exact h
  · exact h
theorem l3_setOff (p1 p2 : Int32) (u : cL) : l3 (m_Loads_setOff p1 p2 u) = l3 u := by
  unfold m_Loads_setOff
  split
  · rfl
  · rfl
theorem IL_of {u v : cL} (e : l3 v = l3 u) (h : IL u) : IL v := by
  unfold IL at h ⊢
  rw [e]
  exact h
theorem l3_measure (p1 : Int32) (u : cL) : l3 (m_Loads_measure p1 u) = l3 u := by
  unfold m_Loads_measure
  repeat' split
  all_goals simp only [l3_setOff, k3_f_Loads_add_19, k3_f_Loads_add_29, k3_f_Loads_setOff_11, k3_f_Loads_measure_18, k3_f_Loads_measure_39, k3_f_Loads_measure_74, k3_f_Loads_measure_52, k3_f_Loads_measure_39_1, k3_f_Loads_measure_18_1]
theorem km_Loads_measure {p1 : Int32} {u : cL} (h : IL u) : IL (m_Loads_measure p1 u) := IL_of (l3_measure p1 u) h
theorem kmL {p1 : Int32} {u : cB} (h : Iv u) : Iv (f_B_shed_18 p1 u) := ⟨h.1, km_Loads_measure h.2⟩
theorem iv_note {u : cB} (h : Iv u) : ∀ k : Nat, Iv (li_B_noteOutputs_2 u k)
  | 0 => h
  | k + 1 => iv_note (u := u) h k
theorem Iv_of {u v : cB} (e2 : b2 v = b2 u) (e6 : b6 v = b6 u) (h : Iv u) : Iv v := by
  unfold Iv at h ⊢
  rw [e2, e6]
  exact h
theorem km_B_noteOutputs {u : cB} (h : Iv u) : Iv (m_B_noteOutputs u) := iv_note h 10
theorem k2_m_B_followBrightness (p1 : Int32) (u : cB) : b2 (m_B_followBrightness p1 u) = b2 u := by
  unfold m_B_followBrightness
  repeat' split
  all_goals simp only [k2_f_B_noteOutputs_18, k2_f_B_beginWantedSides_21, k2_f_B_beginWantedSides_21_1, k2_f_B_followBrightness_24, k2_f_B_followBrightness_9, k2_f_B_endUnwantedSide_23, k2_f_B_tickInterior_30, k2_f_B_tickInterior_47, k2_f_B_tick_23, k2_f_B_tick_23_1, k2_f_B_tick_44, k2_f_B_tick_64, k2_f_B_tick_64_1, k2_f_B_tick_64_2, k2_f_B_tick_64_3, k2_f_B_tick_80, k2_f_B_giveBack_29, k2_f_B_giveBack_21, k2_f_B_input_36, k2_f_B_pinch_30, k2_f_B_learn_16, k2_f_B_shed_18, k2_f_B_load_31, k2_f_B_rain_19, k2_f_B_window_30, k2_f_B_crash_16, k2_f_B_crash_37, k2_f_B_crash_37_1, k2_f_B_crash_37_2, k2_f_B_crash_37_3, k2_f_B_memory_61, k2_f_B_memory_61_1, k2_f_B_trailer_6]
theorem k6_m_B_followBrightness (p1 : Int32) (u : cB) : b6 (m_B_followBrightness p1 u) = b6 u := by
  unfold m_B_followBrightness
  repeat' split
  all_goals simp only [k6_f_B_noteOutputs_18, k6_f_B_beginWantedSides_21, k6_f_B_beginWantedSides_21_1, k6_f_B_followBrightness_24, k6_f_B_followBrightness_9, k6_f_B_endUnwantedSide_23, k6_f_B_tickInterior_30, k6_f_B_tickInterior_47, k6_f_B_tick_23, k6_f_B_tick_23_1, k6_f_B_tick_44, k6_f_B_tick_64, k6_f_B_tick_64_1, k6_f_B_tick_64_2, k6_f_B_tick_64_3, k6_f_B_tick_80, k6_f_B_giveBack_29, k6_f_B_giveBack_21, k6_f_B_input_36, k6_f_B_pinch_30, k6_f_B_learn_16, k6_f_B_bulb_25, k6_f_B_bulb_25_1, k6_f_B_rain_19, k6_f_B_window_30, k6_f_B_crash_16, k6_f_B_crash_37, k6_f_B_crash_37_1, k6_f_B_crash_37_2, k6_f_B_crash_37_3, k6_f_B_memory_61, k6_f_B_memory_61_1, k6_f_B_trailer_6]
theorem km_B_followBrightness {p1 : Int32} {u : cB} (h : Iv u) : Iv (m_B_followBrightness p1 u) := Iv_of (k2_m_B_followBrightness p1 u) (k6_m_B_followBrightness p1 u) h
theorem k2_m_B_beginWantedSides (u : cB) : b2 (m_B_beginWantedSides u) = b2 u := by
  unfold m_B_beginWantedSides
  repeat' split
  all_goals simp only [k2_f_B_noteOutputs_18, k2_f_B_beginWantedSides_21, k2_f_B_beginWantedSides_21_1, k2_f_B_followBrightness_24, k2_f_B_followBrightness_9, k2_f_B_endUnwantedSide_23, k2_f_B_tickInterior_30, k2_f_B_tickInterior_47, k2_f_B_tick_23, k2_f_B_tick_23_1, k2_f_B_tick_44, k2_f_B_tick_64, k2_f_B_tick_64_1, k2_f_B_tick_64_2, k2_f_B_tick_64_3, k2_f_B_tick_80, k2_f_B_giveBack_29, k2_f_B_giveBack_21, k2_f_B_input_36, k2_f_B_pinch_30, k2_f_B_learn_16, k2_f_B_shed_18, k2_f_B_load_31, k2_f_B_rain_19, k2_f_B_window_30, k2_f_B_crash_16, k2_f_B_crash_37, k2_f_B_crash_37_1, k2_f_B_crash_37_2, k2_f_B_crash_37_3, k2_f_B_memory_61, k2_f_B_memory_61_1, k2_f_B_trailer_6]
theorem k6_m_B_beginWantedSides (u : cB) : b6 (m_B_beginWantedSides u) = b6 u := by
  unfold m_B_beginWantedSides
  repeat' split
  all_goals simp only [k6_f_B_noteOutputs_18, k6_f_B_beginWantedSides_21, k6_f_B_beginWantedSides_21_1, k6_f_B_followBrightness_24, k6_f_B_followBrightness_9, k6_f_B_endUnwantedSide_23, k6_f_B_tickInterior_30, k6_f_B_tickInterior_47, k6_f_B_tick_23, k6_f_B_tick_23_1, k6_f_B_tick_44, k6_f_B_tick_64, k6_f_B_tick_64_1, k6_f_B_tick_64_2, k6_f_B_tick_64_3, k6_f_B_tick_80, k6_f_B_giveBack_29, k6_f_B_giveBack_21, k6_f_B_input_36, k6_f_B_pinch_30, k6_f_B_learn_16, k6_f_B_bulb_25, k6_f_B_bulb_25_1, k6_f_B_rain_19, k6_f_B_window_30, k6_f_B_crash_16, k6_f_B_crash_37, k6_f_B_crash_37_1, k6_f_B_crash_37_2, k6_f_B_crash_37_3, k6_f_B_memory_61, k6_f_B_memory_61_1, k6_f_B_trailer_6]
theorem km_B_beginWantedSides {u : cB} (h : Iv u) : Iv (m_B_beginWantedSides u) := Iv_of (k2_m_B_beginWantedSides u) (k6_m_B_beginWantedSides u) h
theorem k2_m_B_endUnwantedSide (p1 : Int32) (u : cB) : b2 (m_B_endUnwantedSide p1 u) = b2 u := by
  unfold m_B_endUnwantedSide
  repeat' split
  all_goals simp only [k2_f_B_noteOutputs_18, k2_f_B_beginWantedSides_21, k2_f_B_beginWantedSides_21_1, k2_f_B_followBrightness_24, k2_f_B_followBrightness_9, k2_f_B_endUnwantedSide_23, k2_f_B_tickInterior_30, k2_f_B_tickInterior_47, k2_f_B_tick_23, k2_f_B_tick_23_1, k2_f_B_tick_44, k2_f_B_tick_64, k2_f_B_tick_64_1, k2_f_B_tick_64_2, k2_f_B_tick_64_3, k2_f_B_tick_80, k2_f_B_giveBack_29, k2_f_B_giveBack_21, k2_f_B_input_36, k2_f_B_pinch_30, k2_f_B_learn_16, k2_f_B_shed_18, k2_f_B_load_31, k2_f_B_rain_19, k2_f_B_window_30, k2_f_B_crash_16, k2_f_B_crash_37, k2_f_B_crash_37_1, k2_f_B_crash_37_2, k2_f_B_crash_37_3, k2_f_B_memory_61, k2_f_B_memory_61_1, k2_f_B_trailer_6]
theorem k6_m_B_endUnwantedSide (p1 : Int32) (u : cB) : b6 (m_B_endUnwantedSide p1 u) = b6 u := by
  unfold m_B_endUnwantedSide
  repeat' split
  all_goals simp only [k6_f_B_noteOutputs_18, k6_f_B_beginWantedSides_21, k6_f_B_beginWantedSides_21_1, k6_f_B_followBrightness_24, k6_f_B_followBrightness_9, k6_f_B_endUnwantedSide_23, k6_f_B_tickInterior_30, k6_f_B_tickInterior_47, k6_f_B_tick_23, k6_f_B_tick_23_1, k6_f_B_tick_44, k6_f_B_tick_64, k6_f_B_tick_64_1, k6_f_B_tick_64_2, k6_f_B_tick_64_3, k6_f_B_tick_80, k6_f_B_giveBack_29, k6_f_B_giveBack_21, k6_f_B_input_36, k6_f_B_pinch_30, k6_f_B_learn_16, k6_f_B_bulb_25, k6_f_B_bulb_25_1, k6_f_B_rain_19, k6_f_B_window_30, k6_f_B_crash_16, k6_f_B_crash_37, k6_f_B_crash_37_1, k6_f_B_crash_37_2, k6_f_B_crash_37_3, k6_f_B_memory_61, k6_f_B_memory_61_1, k6_f_B_trailer_6]
theorem km_B_endUnwantedSide {p1 : Int32} {u : cB} (h : Iv u) : Iv (m_B_endUnwantedSide p1 u) := Iv_of (k2_m_B_endUnwantedSide p1 u) (k6_m_B_endUnwantedSide p1 u) h
theorem k2_m_B_tickInterior (u : cB) : b2 (m_B_tickInterior u) = b2 u := by
  unfold m_B_tickInterior
  repeat' split
  all_goals simp only [k2_f_B_noteOutputs_18, k2_f_B_beginWantedSides_21, k2_f_B_beginWantedSides_21_1, k2_f_B_followBrightness_24, k2_f_B_followBrightness_9, k2_f_B_endUnwantedSide_23, k2_f_B_tickInterior_30, k2_f_B_tickInterior_47, k2_f_B_tick_23, k2_f_B_tick_23_1, k2_f_B_tick_44, k2_f_B_tick_64, k2_f_B_tick_64_1, k2_f_B_tick_64_2, k2_f_B_tick_64_3, k2_f_B_tick_80, k2_f_B_giveBack_29, k2_f_B_giveBack_21, k2_f_B_input_36, k2_f_B_pinch_30, k2_f_B_learn_16, k2_f_B_shed_18, k2_f_B_load_31, k2_f_B_rain_19, k2_f_B_window_30, k2_f_B_crash_16, k2_f_B_crash_37, k2_f_B_crash_37_1, k2_f_B_crash_37_2, k2_f_B_crash_37_3, k2_f_B_memory_61, k2_f_B_memory_61_1, k2_f_B_trailer_6]
theorem k6_m_B_tickInterior (u : cB) : b6 (m_B_tickInterior u) = b6 u := by
  unfold m_B_tickInterior
  repeat' split
  all_goals simp only [k6_f_B_noteOutputs_18, k6_f_B_beginWantedSides_21, k6_f_B_beginWantedSides_21_1, k6_f_B_followBrightness_24, k6_f_B_followBrightness_9, k6_f_B_endUnwantedSide_23, k6_f_B_tickInterior_30, k6_f_B_tickInterior_47, k6_f_B_tick_23, k6_f_B_tick_23_1, k6_f_B_tick_44, k6_f_B_tick_64, k6_f_B_tick_64_1, k6_f_B_tick_64_2, k6_f_B_tick_64_3, k6_f_B_tick_80, k6_f_B_giveBack_29, k6_f_B_giveBack_21, k6_f_B_input_36, k6_f_B_pinch_30, k6_f_B_learn_16, k6_f_B_bulb_25, k6_f_B_bulb_25_1, k6_f_B_rain_19, k6_f_B_window_30, k6_f_B_crash_16, k6_f_B_crash_37, k6_f_B_crash_37_1, k6_f_B_crash_37_2, k6_f_B_crash_37_3, k6_f_B_memory_61, k6_f_B_memory_61_1, k6_f_B_trailer_6]
theorem km_B_tickInterior {u : cB} (h : Iv u) : Iv (m_B_tickInterior u) := Iv_of (k2_m_B_tickInterior u) (k6_m_B_tickInterior u) h
theorem k2_m_B_giveBack (p1 p2 : Int32) (u : cB) : b2 (m_B_giveBack p1 p2 u) = b2 u := by
  unfold m_B_giveBack
  repeat' split
  all_goals simp only [k2_f_B_noteOutputs_18, k2_f_B_beginWantedSides_21, k2_f_B_beginWantedSides_21_1, k2_f_B_followBrightness_24, k2_f_B_followBrightness_9, k2_f_B_endUnwantedSide_23, k2_f_B_tickInterior_30, k2_f_B_tickInterior_47, k2_f_B_tick_23, k2_f_B_tick_23_1, k2_f_B_tick_44, k2_f_B_tick_64, k2_f_B_tick_64_1, k2_f_B_tick_64_2, k2_f_B_tick_64_3, k2_f_B_tick_80, k2_f_B_giveBack_29, k2_f_B_giveBack_21, k2_f_B_input_36, k2_f_B_pinch_30, k2_f_B_learn_16, k2_f_B_shed_18, k2_f_B_load_31, k2_f_B_rain_19, k2_f_B_window_30, k2_f_B_crash_16, k2_f_B_crash_37, k2_f_B_crash_37_1, k2_f_B_crash_37_2, k2_f_B_crash_37_3, k2_f_B_memory_61, k2_f_B_memory_61_1, k2_f_B_trailer_6]
theorem k6_m_B_giveBack (p1 p2 : Int32) (u : cB) : b6 (m_B_giveBack p1 p2 u) = b6 u := by
  unfold m_B_giveBack
  repeat' split
  all_goals simp only [k6_f_B_noteOutputs_18, k6_f_B_beginWantedSides_21, k6_f_B_beginWantedSides_21_1, k6_f_B_followBrightness_24, k6_f_B_followBrightness_9, k6_f_B_endUnwantedSide_23, k6_f_B_tickInterior_30, k6_f_B_tickInterior_47, k6_f_B_tick_23, k6_f_B_tick_23_1, k6_f_B_tick_44, k6_f_B_tick_64, k6_f_B_tick_64_1, k6_f_B_tick_64_2, k6_f_B_tick_64_3, k6_f_B_tick_80, k6_f_B_giveBack_29, k6_f_B_giveBack_21, k6_f_B_input_36, k6_f_B_pinch_30, k6_f_B_learn_16, k6_f_B_bulb_25, k6_f_B_bulb_25_1, k6_f_B_rain_19, k6_f_B_window_30, k6_f_B_crash_16, k6_f_B_crash_37, k6_f_B_crash_37_1, k6_f_B_crash_37_2, k6_f_B_crash_37_3, k6_f_B_memory_61, k6_f_B_memory_61_1, k6_f_B_trailer_6]
theorem km_B_giveBack {p1 p2 : Int32} {u : cB} (h : Iv u) : Iv (m_B_giveBack p1 p2 u) := Iv_of (k2_m_B_giveBack p1 p2 u) (k6_m_B_giveBack p1 p2 u) h
theorem k2_m_B_tick (u : cB) : b2 (m_B_tick u) = b2 u := by
  unfold m_B_tick g_B_tick_2_0 g_B_tick_2_1 g_B_tick_2_2 g_B_tick_32_2 g_B_tick_53_0 g_B_tick_53_1 g_B_tick_53_2 g_B_tick_53_3 g_B_tick_53_4
  simp only [k2_f_B_noteOutputs_18, k2_f_B_beginWantedSides_21, k2_f_B_beginWantedSides_21_1, k2_f_B_followBrightness_24, k2_f_B_followBrightness_9, k2_f_B_endUnwantedSide_23, k2_f_B_tickInterior_30, k2_f_B_tickInterior_47, k2_f_B_tick_23, k2_f_B_tick_23_1, k2_f_B_tick_44, k2_f_B_tick_64, k2_f_B_tick_64_1, k2_f_B_tick_64_2, k2_f_B_tick_64_3, k2_f_B_tick_80, k2_f_B_giveBack_29, k2_f_B_giveBack_21, k2_f_B_input_36, k2_f_B_pinch_30, k2_f_B_learn_16, k2_f_B_shed_18, k2_f_B_load_31, k2_f_B_rain_19, k2_f_B_window_30, k2_f_B_crash_16, k2_f_B_crash_37, k2_f_B_crash_37_1, k2_f_B_crash_37_2, k2_f_B_crash_37_3, k2_f_B_memory_61, k2_f_B_memory_61_1, k2_f_B_trailer_6, k2_m_B_tickInterior]
theorem k6_m_B_tick (u : cB) : b6 (m_B_tick u) = b6 u := by
  unfold m_B_tick g_B_tick_2_0 g_B_tick_2_1 g_B_tick_2_2 g_B_tick_32_2 g_B_tick_53_0 g_B_tick_53_1 g_B_tick_53_2 g_B_tick_53_3 g_B_tick_53_4
  simp only [k6_f_B_noteOutputs_18, k6_f_B_beginWantedSides_21, k6_f_B_beginWantedSides_21_1, k6_f_B_followBrightness_24, k6_f_B_followBrightness_9, k6_f_B_endUnwantedSide_23, k6_f_B_tickInterior_30, k6_f_B_tickInterior_47, k6_f_B_tick_23, k6_f_B_tick_23_1, k6_f_B_tick_44, k6_f_B_tick_64, k6_f_B_tick_64_1, k6_f_B_tick_64_2, k6_f_B_tick_64_3, k6_f_B_tick_80, k6_f_B_giveBack_29, k6_f_B_giveBack_21, k6_f_B_input_36, k6_f_B_pinch_30, k6_f_B_learn_16, k6_f_B_bulb_25, k6_f_B_bulb_25_1, k6_f_B_rain_19, k6_f_B_window_30, k6_f_B_crash_16, k6_f_B_crash_37, k6_f_B_crash_37_1, k6_f_B_crash_37_2, k6_f_B_crash_37_3, k6_f_B_memory_61, k6_f_B_memory_61_1, k6_f_B_trailer_6, k6_m_B_tickInterior]
theorem km_B_tick {u : cB} (h : Iv u) : Iv (m_B_tick u) := Iv_of (k2_m_B_tick u) (k6_m_B_tick u) h
theorem iv_step (p1 : Int32) {u : cB} (h : Iv u) : ∀ k : Nat, Iv (li_B_step_19 p1 u k)
  | 0 => h
  | k + 1 => km_B_tick (iv_step p1 h k)
end
section
abbrev cM : Type := Int32 × (Nat → Int32) × Int32 × Int32 × Int32 × Int32 × Int32 × (Nat → Int32) × (Nat → Int32) × (Nat → Int32) × (Nat → Int32) × Int32 × Int32 × Int32 × Int32 × (Nat → Int32) × (Nat → Int32) × (Nat → Int32) × Int32 × (Nat → Int32) × (Nat → Int32) × (Nat → Int32) × Int32 × Int32 × (Nat → Int32) × (Nat → Int32)
def mg0 (u : cM) : Int32 := u.1
def mg1 (u : cM) : Nat → Int32 := u.2.1
def mg2 (u : cM) : Int32 := u.2.2.1
def mg3 (u : cM) : Int32 := u.2.2.2.1
def mg4 (u : cM) : Int32 := u.2.2.2.2.1
def mg5 (u : cM) : Int32 := u.2.2.2.2.2.1
def mg6 (u : cM) : Int32 := u.2.2.2.2.2.2.1
def mg7 (u : cM) : Nat → Int32 := u.2.2.2.2.2.2.2.1
def mg8 (u : cM) : Nat → Int32 := u.2.2.2.2.2.2.2.2.1
def mg9 (u : cM) : Nat → Int32 := u.2.2.2.2.2.2.2.2.2.1
def mg10 (u : cM) : Nat → Int32 := u.2.2.2.2.2.2.2.2.2.2.1
def mg11 (u : cM) : Int32 := u.2.2.2.2.2.2.2.2.2.2.2.1
def mg12 (u : cM) : Int32 := u.2.2.2.2.2.2.2.2.2.2.2.2.1
def mg13 (u : cM) : Int32 := u.2.2.2.2.2.2.2.2.2.2.2.2.2.1
def mg14 (u : cM) : Int32 := u.2.2.2.2.2.2.2.2.2.2.2.2.2.2.1
def mg15 (u : cM) : Nat → Int32 := u.2.2.2.2.2.2.2.2.2.2.2.2.2.2.2.1
def mg16 (u : cM) : Nat → Int32 := u.2.2.2.2.2.2.2.2.2.2.2.2.2.2.2.2.1
def mg17 (u : cM) : Nat → Int32 := u.2.2.2.2.2.2.2.2.2.2.2.2.2.2.2.2.2.1
def mg18 (u : cM) : Int32 := u.2.2.2.2.2.2.2.2.2.2.2.2.2.2.2.2.2.2.1
def mg19 (u : cM) : Nat → Int32 := u.2.2.2.2.2.2.2.2.2.2.2.2.2.2.2.2.2.2.2.1
def mg20 (u : cM) : Nat → Int32 := u.2.2.2.2.2.2.2.2.2.2.2.2.2.2.2.2.2.2.2.2.1
def mg21 (u : cM) : Nat → Int32 := u.2.2.2.2.2.2.2.2.2.2.2.2.2.2.2.2.2.2.2.2.2.1
def mg22 (u : cM) : Int32 := u.2.2.2.2.2.2.2.2.2.2.2.2.2.2.2.2.2.2.2.2.2.2.1
def mg23 (u : cM) : Int32 := u.2.2.2.2.2.2.2.2.2.2.2.2.2.2.2.2.2.2.2.2.2.2.2.1
def mg24 (u : cM) : Nat → Int32 := u.2.2.2.2.2.2.2.2.2.2.2.2.2.2.2.2.2.2.2.2.2.2.2.2.1
def mg25 (u : cM) : Nat → Int32 := u.2.2.2.2.2.2.2.2.2.2.2.2.2.2.2.2.2.2.2.2.2.2.2.2.2
def ms0 (u : cM) (v : Int32) : cM := (v, u.2)
def ms1 (u : cM) (v : Nat → Int32) : cM := (u.1, v, u.2.2)
def ms2 (u : cM) (v : Int32) : cM := (u.1, u.2.1, v, u.2.2.2)
def ms3 (u : cM) (v : Int32) : cM := (u.1, u.2.1, u.2.2.1, v, u.2.2.2.2)
def ms4 (u : cM) (v : Int32) : cM := (u.1, u.2.1, u.2.2.1, u.2.2.2.1, v, u.2.2.2.2.2)
def ms5 (u : cM) (v : Int32) : cM := (u.1, u.2.1, u.2.2.1, u.2.2.2.1, u.2.2.2.2.1, v, u.2.2.2.2.2.2)
def ms6 (u : cM) (v : Int32) : cM := (u.1, u.2.1, u.2.2.1, u.2.2.2.1, u.2.2.2.2.1, u.2.2.2.2.2.1, v, u.2.2.2.2.2.2.2)
def ms7 (u : cM) (v : Nat → Int32) : cM := (u.1, u.2.1, u.2.2.1, u.2.2.2.1, u.2.2.2.2.1, u.2.2.2.2.2.1, u.2.2.2.2.2.2.1, v, u.2.2.2.2.2.2.2.2)
def ms8 (u : cM) (v : Nat → Int32) : cM := (u.1, u.2.1, u.2.2.1, u.2.2.2.1, u.2.2.2.2.1, u.2.2.2.2.2.1, u.2.2.2.2.2.2.1, u.2.2.2.2.2.2.2.1, v, u.2.2.2.2.2.2.2.2.2)
def ms9 (u : cM) (v : Nat → Int32) : cM := (u.1, u.2.1, u.2.2.1, u.2.2.2.1, u.2.2.2.2.1, u.2.2.2.2.2.1, u.2.2.2.2.2.2.1, u.2.2.2.2.2.2.2.1, u.2.2.2.2.2.2.2.2.1, v, u.2.2.2.2.2.2.2.2.2.2)
def ms10 (u : cM) (v : Nat → Int32) : cM := (u.1, u.2.1, u.2.2.1, u.2.2.2.1, u.2.2.2.2.1, u.2.2.2.2.2.1, u.2.2.2.2.2.2.1, u.2.2.2.2.2.2.2.1, u.2.2.2.2.2.2.2.2.1, u.2.2.2.2.2.2.2.2.2.1, v, u.2.2.2.2.2.2.2.2.2.2.2)
def ms11 (u : cM) (v : Int32) : cM := (u.1, u.2.1, u.2.2.1, u.2.2.2.1, u.2.2.2.2.1, u.2.2.2.2.2.1, u.2.2.2.2.2.2.1, u.2.2.2.2.2.2.2.1, u.2.2.2.2.2.2.2.2.1, u.2.2.2.2.2.2.2.2.2.1, u.2.2.2.2.2.2.2.2.2.2.1, v, u.2.2.2.2.2.2.2.2.2.2.2.2)
def ms12 (u : cM) (v : Int32) : cM := (u.1, u.2.1, u.2.2.1, u.2.2.2.1, u.2.2.2.2.1, u.2.2.2.2.2.1, u.2.2.2.2.2.2.1, u.2.2.2.2.2.2.2.1, u.2.2.2.2.2.2.2.2.1, u.2.2.2.2.2.2.2.2.2.1, u.2.2.2.2.2.2.2.2.2.2.1, u.2.2.2.2.2.2.2.2.2.2.2.1, v, u.2.2.2.2.2.2.2.2.2.2.2.2.2)
def ms13 (u : cM) (v : Int32) : cM := (u.1, u.2.1, u.2.2.1, u.2.2.2.1, u.2.2.2.2.1, u.2.2.2.2.2.1, u.2.2.2.2.2.2.1, u.2.2.2.2.2.2.2.1, u.2.2.2.2.2.2.2.2.1, u.2.2.2.2.2.2.2.2.2.1, u.2.2.2.2.2.2.2.2.2.2.1, u.2.2.2.2.2.2.2.2.2.2.2.1, u.2.2.2.2.2.2.2.2.2.2.2.2.1, v, u.2.2.2.2.2.2.2.2.2.2.2.2.2.2)
def ms14 (u : cM) (v : Int32) : cM := (u.1, u.2.1, u.2.2.1, u.2.2.2.1, u.2.2.2.2.1, u.2.2.2.2.2.1, u.2.2.2.2.2.2.1, u.2.2.2.2.2.2.2.1, u.2.2.2.2.2.2.2.2.1, u.2.2.2.2.2.2.2.2.2.1, u.2.2.2.2.2.2.2.2.2.2.1, u.2.2.2.2.2.2.2.2.2.2.2.1, u.2.2.2.2.2.2.2.2.2.2.2.2.1, u.2.2.2.2.2.2.2.2.2.2.2.2.2.1, v, u.2.2.2.2.2.2.2.2.2.2.2.2.2.2.2)
def ms15 (u : cM) (v : Nat → Int32) : cM := (u.1, u.2.1, u.2.2.1, u.2.2.2.1, u.2.2.2.2.1, u.2.2.2.2.2.1, u.2.2.2.2.2.2.1, u.2.2.2.2.2.2.2.1, u.2.2.2.2.2.2.2.2.1, u.2.2.2.2.2.2.2.2.2.1, u.2.2.2.2.2.2.2.2.2.2.1, u.2.2.2.2.2.2.2.2.2.2.2.1, u.2.2.2.2.2.2.2.2.2.2.2.2.1, u.2.2.2.2.2.2.2.2.2.2.2.2.2.1, u.2.2.2.2.2.2.2.2.2.2.2.2.2.2.1, v, u.2.2.2.2.2.2.2.2.2.2.2.2.2.2.2.2)
def ms16 (u : cM) (v : Nat → Int32) : cM := (u.1, u.2.1, u.2.2.1, u.2.2.2.1, u.2.2.2.2.1, u.2.2.2.2.2.1, u.2.2.2.2.2.2.1, u.2.2.2.2.2.2.2.1, u.2.2.2.2.2.2.2.2.1, u.2.2.2.2.2.2.2.2.2.1, u.2.2.2.2.2.2.2.2.2.2.1, u.2.2.2.2.2.2.2.2.2.2.2.1, u.2.2.2.2.2.2.2.2.2.2.2.2.1, u.2.2.2.2.2.2.2.2.2.2.2.2.2.1, u.2.2.2.2.2.2.2.2.2.2.2.2.2.2.1, u.2.2.2.2.2.2.2.2.2.2.2.2.2.2.2.1, v, u.2.2.2.2.2.2.2.2.2.2.2.2.2.2.2.2.2)
def ms17 (u : cM) (v : Nat → Int32) : cM := (u.1, u.2.1, u.2.2.1, u.2.2.2.1, u.2.2.2.2.1, u.2.2.2.2.2.1, u.2.2.2.2.2.2.1, u.2.2.2.2.2.2.2.1, u.2.2.2.2.2.2.2.2.1, u.2.2.2.2.2.2.2.2.2.1, u.2.2.2.2.2.2.2.2.2.2.1, u.2.2.2.2.2.2.2.2.2.2.2.1, u.2.2.2.2.2.2.2.2.2.2.2.2.1, u.2.2.2.2.2.2.2.2.2.2.2.2.2.1, u.2.2.2.2.2.2.2.2.2.2.2.2.2.2.1, u.2.2.2.2.2.2.2.2.2.2.2.2.2.2.2.1, u.2.2.2.2.2.2.2.2.2.2.2.2.2.2.2.2.1, v, u.2.2.2.2.2.2.2.2.2.2.2.2.2.2.2.2.2.2)
def ms18 (u : cM) (v : Int32) : cM := (u.1, u.2.1, u.2.2.1, u.2.2.2.1, u.2.2.2.2.1, u.2.2.2.2.2.1, u.2.2.2.2.2.2.1, u.2.2.2.2.2.2.2.1, u.2.2.2.2.2.2.2.2.1, u.2.2.2.2.2.2.2.2.2.1, u.2.2.2.2.2.2.2.2.2.2.1, u.2.2.2.2.2.2.2.2.2.2.2.1, u.2.2.2.2.2.2.2.2.2.2.2.2.1, u.2.2.2.2.2.2.2.2.2.2.2.2.2.1, u.2.2.2.2.2.2.2.2.2.2.2.2.2.2.1, u.2.2.2.2.2.2.2.2.2.2.2.2.2.2.2.1, u.2.2.2.2.2.2.2.2.2.2.2.2.2.2.2.2.1, u.2.2.2.2.2.2.2.2.2.2.2.2.2.2.2.2.2.1, v, u.2.2.2.2.2.2.2.2.2.2.2.2.2.2.2.2.2.2.2)
def ms19 (u : cM) (v : Nat → Int32) : cM := (u.1, u.2.1, u.2.2.1, u.2.2.2.1, u.2.2.2.2.1, u.2.2.2.2.2.1, u.2.2.2.2.2.2.1, u.2.2.2.2.2.2.2.1, u.2.2.2.2.2.2.2.2.1, u.2.2.2.2.2.2.2.2.2.1, u.2.2.2.2.2.2.2.2.2.2.1, u.2.2.2.2.2.2.2.2.2.2.2.1, u.2.2.2.2.2.2.2.2.2.2.2.2.1, u.2.2.2.2.2.2.2.2.2.2.2.2.2.1, u.2.2.2.2.2.2.2.2.2.2.2.2.2.2.1, u.2.2.2.2.2.2.2.2.2.2.2.2.2.2.2.1, u.2.2.2.2.2.2.2.2.2.2.2.2.2.2.2.2.1, u.2.2.2.2.2.2.2.2.2.2.2.2.2.2.2.2.2.1, u.2.2.2.2.2.2.2.2.2.2.2.2.2.2.2.2.2.2.1, v, u.2.2.2.2.2.2.2.2.2.2.2.2.2.2.2.2.2.2.2.2)
def ms20 (u : cM) (v : Nat → Int32) : cM := (u.1, u.2.1, u.2.2.1, u.2.2.2.1, u.2.2.2.2.1, u.2.2.2.2.2.1, u.2.2.2.2.2.2.1, u.2.2.2.2.2.2.2.1, u.2.2.2.2.2.2.2.2.1, u.2.2.2.2.2.2.2.2.2.1, u.2.2.2.2.2.2.2.2.2.2.1, u.2.2.2.2.2.2.2.2.2.2.2.1, u.2.2.2.2.2.2.2.2.2.2.2.2.1, u.2.2.2.2.2.2.2.2.2.2.2.2.2.1, u.2.2.2.2.2.2.2.2.2.2.2.2.2.2.1, u.2.2.2.2.2.2.2.2.2.2.2.2.2.2.2.1, u.2.2.2.2.2.2.2.2.2.2.2.2.2.2.2.2.1, u.2.2.2.2.2.2.2.2.2.2.2.2.2.2.2.2.2.1, u.2.2.2.2.2.2.2.2.2.2.2.2.2.2.2.2.2.2.1, u.2.2.2.2.2.2.2.2.2.2.2.2.2.2.2.2.2.2.2.1, v, u.2.2.2.2.2.2.2.2.2.2.2.2.2.2.2.2.2.2.2.2.2)
def ms21 (u : cM) (v : Nat → Int32) : cM := (u.1, u.2.1, u.2.2.1, u.2.2.2.1, u.2.2.2.2.1, u.2.2.2.2.2.1, u.2.2.2.2.2.2.1, u.2.2.2.2.2.2.2.1, u.2.2.2.2.2.2.2.2.1, u.2.2.2.2.2.2.2.2.2.1, u.2.2.2.2.2.2.2.2.2.2.1, u.2.2.2.2.2.2.2.2.2.2.2.1, u.2.2.2.2.2.2.2.2.2.2.2.2.1, u.2.2.2.2.2.2.2.2.2.2.2.2.2.1, u.2.2.2.2.2.2.2.2.2.2.2.2.2.2.1, u.2.2.2.2.2.2.2.2.2.2.2.2.2.2.2.1, u.2.2.2.2.2.2.2.2.2.2.2.2.2.2.2.2.1, u.2.2.2.2.2.2.2.2.2.2.2.2.2.2.2.2.2.1, u.2.2.2.2.2.2.2.2.2.2.2.2.2.2.2.2.2.2.1, u.2.2.2.2.2.2.2.2.2.2.2.2.2.2.2.2.2.2.2.1, u.2.2.2.2.2.2.2.2.2.2.2.2.2.2.2.2.2.2.2.2.1, v, u.2.2.2.2.2.2.2.2.2.2.2.2.2.2.2.2.2.2.2.2.2.2)
def ms22 (u : cM) (v : Int32) : cM := (u.1, u.2.1, u.2.2.1, u.2.2.2.1, u.2.2.2.2.1, u.2.2.2.2.2.1, u.2.2.2.2.2.2.1, u.2.2.2.2.2.2.2.1, u.2.2.2.2.2.2.2.2.1, u.2.2.2.2.2.2.2.2.2.1, u.2.2.2.2.2.2.2.2.2.2.1, u.2.2.2.2.2.2.2.2.2.2.2.1, u.2.2.2.2.2.2.2.2.2.2.2.2.1, u.2.2.2.2.2.2.2.2.2.2.2.2.2.1, u.2.2.2.2.2.2.2.2.2.2.2.2.2.2.1, u.2.2.2.2.2.2.2.2.2.2.2.2.2.2.2.1, u.2.2.2.2.2.2.2.2.2.2.2.2.2.2.2.2.1, u.2.2.2.2.2.2.2.2.2.2.2.2.2.2.2.2.2.1, u.2.2.2.2.2.2.2.2.2.2.2.2.2.2.2.2.2.2.1, u.2.2.2.2.2.2.2.2.2.2.2.2.2.2.2.2.2.2.2.1, u.2.2.2.2.2.2.2.2.2.2.2.2.2.2.2.2.2.2.2.2.1, u.2.2.2.2.2.2.2.2.2.2.2.2.2.2.2.2.2.2.2.2.2.1, v, u.2.2.2.2.2.2.2.2.2.2.2.2.2.2.2.2.2.2.2.2.2.2.2)
def ms23 (u : cM) (v : Int32) : cM := (u.1, u.2.1, u.2.2.1, u.2.2.2.1, u.2.2.2.2.1, u.2.2.2.2.2.1, u.2.2.2.2.2.2.1, u.2.2.2.2.2.2.2.1, u.2.2.2.2.2.2.2.2.1, u.2.2.2.2.2.2.2.2.2.1, u.2.2.2.2.2.2.2.2.2.2.1, u.2.2.2.2.2.2.2.2.2.2.2.1, u.2.2.2.2.2.2.2.2.2.2.2.2.1, u.2.2.2.2.2.2.2.2.2.2.2.2.2.1, u.2.2.2.2.2.2.2.2.2.2.2.2.2.2.1, u.2.2.2.2.2.2.2.2.2.2.2.2.2.2.2.1, u.2.2.2.2.2.2.2.2.2.2.2.2.2.2.2.2.1, u.2.2.2.2.2.2.2.2.2.2.2.2.2.2.2.2.2.1, u.2.2.2.2.2.2.2.2.2.2.2.2.2.2.2.2.2.2.1, u.2.2.2.2.2.2.2.2.2.2.2.2.2.2.2.2.2.2.2.1, u.2.2.2.2.2.2.2.2.2.2.2.2.2.2.2.2.2.2.2.2.1, u.2.2.2.2.2.2.2.2.2.2.2.2.2.2.2.2.2.2.2.2.2.1, u.2.2.2.2.2.2.2.2.2.2.2.2.2.2.2.2.2.2.2.2.2.2.1, v, u.2.2.2.2.2.2.2.2.2.2.2.2.2.2.2.2.2.2.2.2.2.2.2.2)
def ms24 (u : cM) (v : Nat → Int32) : cM := (u.1, u.2.1, u.2.2.1, u.2.2.2.1, u.2.2.2.2.1, u.2.2.2.2.2.1, u.2.2.2.2.2.2.1, u.2.2.2.2.2.2.2.1, u.2.2.2.2.2.2.2.2.1, u.2.2.2.2.2.2.2.2.2.1, u.2.2.2.2.2.2.2.2.2.2.1, u.2.2.2.2.2.2.2.2.2.2.2.1, u.2.2.2.2.2.2.2.2.2.2.2.2.1, u.2.2.2.2.2.2.2.2.2.2.2.2.2.1, u.2.2.2.2.2.2.2.2.2.2.2.2.2.2.1, u.2.2.2.2.2.2.2.2.2.2.2.2.2.2.2.1, u.2.2.2.2.2.2.2.2.2.2.2.2.2.2.2.2.1, u.2.2.2.2.2.2.2.2.2.2.2.2.2.2.2.2.2.1, u.2.2.2.2.2.2.2.2.2.2.2.2.2.2.2.2.2.2.1, u.2.2.2.2.2.2.2.2.2.2.2.2.2.2.2.2.2.2.2.1, u.2.2.2.2.2.2.2.2.2.2.2.2.2.2.2.2.2.2.2.2.1, u.2.2.2.2.2.2.2.2.2.2.2.2.2.2.2.2.2.2.2.2.2.1, u.2.2.2.2.2.2.2.2.2.2.2.2.2.2.2.2.2.2.2.2.2.2.1, u.2.2.2.2.2.2.2.2.2.2.2.2.2.2.2.2.2.2.2.2.2.2.2.1, v, u.2.2.2.2.2.2.2.2.2.2.2.2.2.2.2.2.2.2.2.2.2.2.2.2.2)
def ms25 (u : cM) (v : Nat → Int32) : cM := (u.1, u.2.1, u.2.2.1, u.2.2.2.1, u.2.2.2.2.1, u.2.2.2.2.2.1, u.2.2.2.2.2.2.1, u.2.2.2.2.2.2.2.1, u.2.2.2.2.2.2.2.2.1, u.2.2.2.2.2.2.2.2.2.1, u.2.2.2.2.2.2.2.2.2.2.1, u.2.2.2.2.2.2.2.2.2.2.2.1, u.2.2.2.2.2.2.2.2.2.2.2.2.1, u.2.2.2.2.2.2.2.2.2.2.2.2.2.1, u.2.2.2.2.2.2.2.2.2.2.2.2.2.2.1, u.2.2.2.2.2.2.2.2.2.2.2.2.2.2.2.1, u.2.2.2.2.2.2.2.2.2.2.2.2.2.2.2.2.1, u.2.2.2.2.2.2.2.2.2.2.2.2.2.2.2.2.2.1, u.2.2.2.2.2.2.2.2.2.2.2.2.2.2.2.2.2.2.1, u.2.2.2.2.2.2.2.2.2.2.2.2.2.2.2.2.2.2.2.1, u.2.2.2.2.2.2.2.2.2.2.2.2.2.2.2.2.2.2.2.2.1, u.2.2.2.2.2.2.2.2.2.2.2.2.2.2.2.2.2.2.2.2.2.1, u.2.2.2.2.2.2.2.2.2.2.2.2.2.2.2.2.2.2.2.2.2.2.1, u.2.2.2.2.2.2.2.2.2.2.2.2.2.2.2.2.2.2.2.2.2.2.2.1, u.2.2.2.2.2.2.2.2.2.2.2.2.2.2.2.2.2.2.2.2.2.2.2.2.1, v)
def wM (G : hk_G) (am : Nat → Nat) (u : cM) : va_W := [(am 0, .inr (5, [.int (mg0 u), .ref (am 1), .int (mg2 u), .int (mg3 u), .int (mg4 u), .int (mg5 u), .int (mg6 u), .ref (am 2), .ref (am 3), .ref (am 4), .ref (am 5), .int (mg11 u), .int (mg12 u), .int (mg13 u), .int (mg14 u), .ref (am 6), .ref (am 7), .ref (am 8), .int (mg18 u), .ref (am 9), .ref (am 10), .ref (am 11), .int (mg22 u), .int (mg23 u), .ref (am 12), .ref (am 13)])), (am 1, .inl (G.2.2 0, 9, .inl (mg1 u))), (am 2, .inl (G.2.2 1, 2, .inl (mg7 u))), (am 3, .inl (G.2.2 0, 2, .inl (mg8 u))), (am 4, .inl (G.2.2 0, 2, .inl (mg9 u))), (am 5, .inl (G.2.2 1, 6, .inl (mg10 u))), (am 6, .inl (G.2.2 0, 4, .inl (mg15 u))), (am 7, .inl (G.2.2 0, 4, .inl (mg16 u))), (am 8, .inl (G.2.2 1, 4, .inl (mg17 u))), (am 9, .inl (G.2.2 0, 13, .inl (mg19 u))), (am 10, .inl (G.2.2 1, 13, .inl (mg20 u))), (am 11, .inl (G.2.2 1, 13, .inl (mg21 u))), (am 12, .inl (G.2.2 0, 20, .inl (mg24 u))), (am 13, .inl (G.2.2 0, 10, .inl (mg25 u)))]
def m_M_thrown (u : cM) : Int32 := mg0 u
def m_M_within (p0 : Int32) (p1 : Int32) (p2 : Int32) : Int32 := if p0 < p1 then (0 : Int32) else (if p2 < p0 then (0 : Int32) else (1 : Int32))
def m_M_most (p0 : Int32) : Int32 := if p0 = 0 then (3 : Int32) else (if p0 = (4 : Int32) then (3 : Int32) else (if p0 = (1 : Int32) then (1000 : Int32) else (if p0 = (2 : Int32) then (2 : Int32) else (1 : Int32))))
def m_M_isWindow (p0 : Int32) : Int32 := m_M_within p0 (0 : Int32) (3 : Int32)
def m_M_period (p1 : Int32) (u : cM) : Int32 := if ((mg10 u) ((4 : Int32) + p1).toNatClampNeg) = 0 then (80 : Int32) else (40 : Int32)
def m_M_lit (p1 : Int32) (u : cM) : Int32 := if ((mg7 u) p1.toNatClampNeg) = 0 then (0 : Int32) else (if (m_M_period p1 u) ≤ ((2 : Int32) * ((mg8 u) p1.toNatClampNeg)) then (0 : Int32) else (1 : Int32))
def g_M_value_53_0_0 (p1 : Int32) (u : cM) : Int32 := if p1 = (0 : Int32) then (if ((mg1 u) 0) = (1 : Int32) then (1 : Int32) else (if (mg3 u) = 0 then (0 : Int32) else (1 : Int32))) else (if p1 = (1 : Int32) then (0 : Int32) else (if p1 = (2 : Int32) then (0 : Int32) else (if p1 = (3 : Int32) then m_M_lit (p1 - (3 : Int32)) u else (if p1 = (4 : Int32) then m_M_lit (p1 - (3 : Int32)) u else (if p1 = (5 : Int32) then mg13 u else (if p1 = (6 : Int32) then (mg1 u) 7 else (if p1 = (7 : Int32) then mg14 u else (if (mg4 u) = 0 then (0 : Int32) else m_M_lit (p1 - (8 : Int32)) u))))))))
def g_M_value_53_1_0 (p1 : Int32) (u : cM) : Int32 := if p1 = (0 : Int32) then (1 : Int32) else (if p1 = (1 : Int32) then (0 : Int32) else (if p1 = (2 : Int32) then (0 : Int32) else (if p1 = (3 : Int32) then m_M_lit (p1 - (3 : Int32)) u else (if p1 = (4 : Int32) then m_M_lit (p1 - (3 : Int32)) u else (if p1 = (5 : Int32) then mg13 u else (if p1 = (6 : Int32) then (mg1 u) 7 else (if p1 = (7 : Int32) then mg14 u else (if (mg4 u) = 0 then (0 : Int32) else m_M_lit (p1 - (8 : Int32)) u))))))))
def g_M_value_53_1_1 (p1 : Int32) (u : cM) : Int32 := if p1 = (0 : Int32) then (1 : Int32) else (if p1 = (1 : Int32) then (1 : Int32) else (if p1 = (2 : Int32) then (if ((mg1 u) 6) = (1 : Int32) then (1 : Int32) else (0 : Int32)) else (if p1 = (3 : Int32) then m_M_lit (p1 - (3 : Int32)) u else (if p1 = (4 : Int32) then m_M_lit (p1 - (3 : Int32)) u else (if p1 = (5 : Int32) then mg13 u else (if p1 = (6 : Int32) then (mg1 u) 7 else (if p1 = (7 : Int32) then mg14 u else (if (mg4 u) = 0 then (0 : Int32) else m_M_lit (p1 - (8 : Int32)) u))))))))
def m_M_value (p1 : Int32) (u : cM) : Int32 := if ((mg1 u) 0) = (2 : Int32) then (if ((mg1 u) 5) = (1 : Int32) then (g_M_value_53_1_1 p1 u) else (g_M_value_53_1_0 p1 u)) else (if ((mg1 u) 0) = (3 : Int32) then (if (mg2 u) = 0 then (g_M_value_53_0_0 p1 u) else (if ((mg1 u) 5) = (1 : Int32) then (g_M_value_53_1_1 p1 u) else (g_M_value_53_1_0 p1 u))) else (g_M_value_53_0_0 p1 u))
def f_M_layBy_18 (k : Nat) (u : cM) : cM := ms25 u (upd (mg25 u) k (m_M_value (nI k) u))
def lb_M_layBy_2 (k : Nat) (u : cM) : cM := (f_M_layBy_18 k u)
def li_M_layBy_2 (u : cM) : Nat → cM
  | 0 => u
  | k + 1 => lb_M_layBy_2 k (li_M_layBy_2 u k)
def m_M_layBy (u : cM) : cM := (li_M_layBy_2 u 10)
def lb_M_others_4 (u : cM) (k : Nat) (x : Int32) : Int32 := if ((mg25 u) k) = (m_M_value (nI k) u) then x + (0 : Int32) else x + (1 : Int32)
def li_M_others_4 (u : cM) : Nat → Int32
  | 0 => 0
  | k + 1 => lb_M_others_4 u k (li_M_others_4 u k)
def m_M_others (u : cM) : Int32 := li_M_others_4 u 10
def m_M_isWanted (p1 : Int32) (u : cM) : Int32 := if ((mg1 u) 3) = (1 : Int32) then (1 : Int32) else (if (mg3 u) = 0 then (if ((mg1 u) 2) = (p1 + (1 : Int32)) then (1 : Int32) else (0 : Int32)) else (1 : Int32))
def f_M_begin_30 (u : cM) : cM := ms7 u (upd (mg7 u) 1 (1 : Int32))
def f_M_begin_37 (u : cM) : cM := ms8 u (upd (mg8 u) 1 (0 : Int32))
def f_M_begin_44 (u : cM) : cM := ms9 u (upd (mg9 u) 1 (0 : Int32))
def f_M_begin_30_1 (u : cM) : cM := ms7 u (upd (mg7 u) 0 (1 : Int32))
def f_M_begin_37_1 (u : cM) : cM := ms8 u (upd (mg8 u) 0 (0 : Int32))
def f_M_begin_44_1 (u : cM) : cM := ms9 u (upd (mg9 u) 0 (0 : Int32))
def m_M_begin (u : cM) : cM := if (m_M_isWanted (0 : Int32) u) = 0 then (if (m_M_isWanted (1 : Int32) u) = 0 then u else (if ((mg7 u) 1) = 0 then (f_M_begin_44 (f_M_begin_37 (f_M_begin_30 u))) else u)) else (if ((mg7 u) 0) = 0 then (if (m_M_isWanted (1 : Int32) (f_M_begin_44_1 (f_M_begin_37_1 (f_M_begin_30_1 u)))) = 0 then (f_M_begin_44_1 (f_M_begin_37_1 (f_M_begin_30_1 u))) else (if ((mg7 (f_M_begin_44_1 (f_M_begin_37_1 (f_M_begin_30_1 u)))) 1) = 0 then (f_M_begin_44 (f_M_begin_37 (f_M_begin_30 (f_M_begin_44_1 (f_M_begin_37_1 (f_M_begin_30_1 u)))))) else (f_M_begin_44_1 (f_M_begin_37_1 (f_M_begin_30_1 u))))) else (if (m_M_isWanted (1 : Int32) u) = 0 then u else (if ((mg7 u) 1) = 0 then (f_M_begin_44 (f_M_begin_37 (f_M_begin_30 u))) else u)))
def f_M_tickSide_19 (p1 : Int32) (u : cM) : cM := ms8 u (upd (mg8 u) p1.toNatClampNeg (((mg8 u) p1.toNatClampNeg) + (1 : Int32)))
def f_M_tickSide_41 (p1 : Int32) (u : cM) : cM := ms8 u (upd (mg8 u) p1.toNatClampNeg (0 : Int32))
def f_M_tickSide_51 (p1 : Int32) (u : cM) : cM := ms9 u (upd (mg9 u) p1.toNatClampNeg (((mg9 u) p1.toNatClampNeg) + (1 : Int32)))
def f_M_tickSide_80 (p1 : Int32) (u : cM) : cM := ms7 u (upd (mg7 u) p1.toNatClampNeg (0 : Int32))
def f_M_tickSide_80_1 (p1 : Int32) (u : cM) : cM := ms7 u (upd (mg7 u) p1.toNatClampNeg (1 : Int32))
def m_M_tickSide (p1 : Int32) (u : cM) : cM := if ((mg7 u) p1.toNatClampNeg) = 0 then u else (if (m_M_period p1 (f_M_tickSide_19 p1 u)) ≤ ((mg8 (f_M_tickSide_19 p1 u)) p1.toNatClampNeg) then (if (m_M_isWanted p1 (f_M_tickSide_51 p1 (f_M_tickSide_41 p1 (f_M_tickSide_19 p1 u)))) = 0 then (if (3 : Int32) ≤ ((mg9 (f_M_tickSide_51 p1 (f_M_tickSide_41 p1 (f_M_tickSide_19 p1 u)))) p1.toNatClampNeg) then (f_M_tickSide_80 p1 (f_M_tickSide_51 p1 (f_M_tickSide_41 p1 (f_M_tickSide_19 p1 u)))) else (f_M_tickSide_80_1 p1 (f_M_tickSide_51 p1 (f_M_tickSide_41 p1 (f_M_tickSide_19 p1 u))))) else (f_M_tickSide_80_1 p1 (f_M_tickSide_51 p1 (f_M_tickSide_41 p1 (f_M_tickSide_19 p1 u))))) else (f_M_tickSide_19 p1 u))
def m_M_speed (u : cM) : Int32 := if ((mg1 u) 5) = 0 then (0 : Int32) else (if ((mg1 u) 4) = (1 : Int32) then (if (mg5 u) = 0 then (0 : Int32) else (if (8 : Int32) ≤ (mg5 u) then (2 : Int32) else (1 : Int32))) else (if ((mg1 u) 4) = 0 then (0 : Int32) else ((mg1 u) 4) - (1 : Int32)))
def f_M_tickWiper_7 (u : cM) : cM := ms13 u (0 : Int32)
def f_M_tickWiper_23 (u : cM) : cM := ms12 u (0 : Int32)
def f_M_tickWiper_62 (u : cM) : cM := ms13 u (1 : Int32)
def f_M_tickWiper_62_1 (u : cM) : cM := ms13 u (m_M_speed u)
def f_M_tickWiper_48 (u : cM) : cM := ms12 u ((mg12 u) - (1 : Int32))
def f_M_tickWiper_75 (u : cM) : cM := ms11 u ((mg11 u) + (mg13 u))
def f_M_tickWiper_90 (u : cM) : cM := ms11 u (0 : Int32)
def f_M_tickWiper_127 (u : cM) : cM := ms12 u ((400 : Int32) - ((80 : Int32) * (mg5 u)))
def g_M_tickWiper_65 (u : cM) : cM := if (100 : Int32) ≤ (mg11 (f_M_tickWiper_75 u)) then (if ((mg1 (f_M_tickWiper_90 (f_M_tickWiper_75 u))) 4) = (1 : Int32) then (if (m_M_within (mg5 (f_M_tickWiper_90 (f_M_tickWiper_75 u))) (1 : Int32) (4 : Int32)) = 0 then (f_M_tickWiper_90 (f_M_tickWiper_75 u)) else (f_M_tickWiper_127 (f_M_tickWiper_90 (f_M_tickWiper_75 u)))) else (f_M_tickWiper_90 (f_M_tickWiper_75 u))) else (f_M_tickWiper_75 u)
def m_M_tickWiper (u : cM) : cM := if (mg11 (f_M_tickWiper_7 u)) = 0 then (if (m_M_speed u) = 0 then (f_M_tickWiper_23 (f_M_tickWiper_7 u)) else (if (mg11 (f_M_tickWiper_7 u)) = 0 then (if (mg12 (f_M_tickWiper_7 u)) ≤ 0 then (if (m_M_speed u) = 0 then (g_M_tickWiper_65 (f_M_tickWiper_62 (f_M_tickWiper_7 u))) else (g_M_tickWiper_65 (f_M_tickWiper_62_1 (f_M_tickWiper_7 u)))) else (f_M_tickWiper_48 (f_M_tickWiper_7 u))) else (if (m_M_speed u) = 0 then (g_M_tickWiper_65 (f_M_tickWiper_62 (f_M_tickWiper_7 u))) else (g_M_tickWiper_65 (f_M_tickWiper_62_1 (f_M_tickWiper_7 u)))))) else (if (mg11 (f_M_tickWiper_7 u)) = 0 then (if (mg12 (f_M_tickWiper_7 u)) ≤ 0 then (if (m_M_speed u) = 0 then (g_M_tickWiper_65 (f_M_tickWiper_62 (f_M_tickWiper_7 u))) else (g_M_tickWiper_65 (f_M_tickWiper_62_1 (f_M_tickWiper_7 u)))) else (f_M_tickWiper_48 (f_M_tickWiper_7 u))) else (if (m_M_speed u) = 0 then (g_M_tickWiper_65 (f_M_tickWiper_62 (f_M_tickWiper_7 u))) else (g_M_tickWiper_65 (f_M_tickWiper_62_1 (f_M_tickWiper_7 u)))))
def f_M_tickWindow_58 (p1 : Int32) (u : cM) : cM := ms15 u (upd (mg15 u) p1.toNatClampNeg (((mg15 u) p1.toNatClampNeg) + (((mg16 u) p1.toNatClampNeg) - ((mg15 u) p1.toNatClampNeg))))
def f_M_tickWindow_58_1 (p1 : Int32) (u : cM) : cM := ms15 u (upd (mg15 u) p1.toNatClampNeg (((mg15 u) p1.toNatClampNeg) + (-(1 : Int32))))
def f_M_tickWindow_58_2 (p1 : Int32) (u : cM) : cM := ms15 u (upd (mg15 u) p1.toNatClampNeg (((mg15 u) p1.toNatClampNeg) + (1 : Int32)))
def f_M_tickWindow_58_3 (p1 : Int32) (u : cM) : cM := ms15 u (upd (mg15 u) p1.toNatClampNeg (((mg15 u) p1.toNatClampNeg) + (-(2 : Int32))))
def f_M_tickWindow_58_4 (p1 : Int32) (u : cM) : cM := ms15 u (upd (mg15 u) p1.toNatClampNeg (((mg15 u) p1.toNatClampNeg) + (2 : Int32)))
def m_M_tickWindow (p1 : Int32) (u : cM) : cM := if ((mg17 u) p1.toNatClampNeg) = 0 then (if (((mg16 u) p1.toNatClampNeg) - ((mg15 u) p1.toNatClampNeg)) ≤ (1 : Int32) then (if (-(1 : Int32)) ≤ (((mg16 u) p1.toNatClampNeg) - ((mg15 u) p1.toNatClampNeg)) then (f_M_tickWindow_58 p1 u) else (f_M_tickWindow_58_1 p1 u)) else (f_M_tickWindow_58_2 p1 u)) else (if (((mg16 u) p1.toNatClampNeg) - ((mg15 u) p1.toNatClampNeg)) ≤ (2 : Int32) then (if (-(2 : Int32)) ≤ (((mg16 u) p1.toNatClampNeg) - ((mg15 u) p1.toNatClampNeg)) then (f_M_tickWindow_58 p1 u) else (f_M_tickWindow_58_3 p1 u)) else (f_M_tickWindow_58_4 p1 u))
def f_M_tick_7 (u : cM) : cM := ms6 u ((mg6 u) + (1 : Int32))
def f_M_tick_87 (u : cM) : cM := ms14 u ((mg14 u) + (0 : Int32))
def f_M_tick_87_1 (u : cM) : cM := ms14 u ((mg14 u) + (1 : Int32))
def f_M_tick_87_2 (u : cM) : cM := ms14 u ((mg14 u) + (-1 : Int32))
def g_M_tick_92_4 (u : cM) : cM := u
def g_M_tick_92_3 (u : cM) : cM := (g_M_tick_92_4 (m_M_tickWindow (3 : Int32) u))
def g_M_tick_92_2 (u : cM) : cM := (g_M_tick_92_3 (m_M_tickWindow (2 : Int32) u))
def g_M_tick_92_1 (u : cM) : cM := (g_M_tick_92_2 (m_M_tickWindow (1 : Int32) u))
def g_M_tick_92_0 (u : cM) : cM := (g_M_tick_92_1 (m_M_tickWindow (0 : Int32) u))
def g_M_tick_90 (u : cM) : cM := (g_M_tick_92_0 u)
def g_M_tick_48_0 (u : cM) : cM := if (mg14 u) ≤ 0 then (g_M_tick_90 (f_M_tick_87 u)) else (g_M_tick_90 (f_M_tick_87_2 u))
def g_M_tick_48_1 (u : cM) : cM := if (100 : Int32) ≤ (mg14 u) then (g_M_tick_90 (f_M_tick_87 u)) else (g_M_tick_90 (f_M_tick_87_1 u))
def m_M_tick (u : cM) : cM := if ((mg1 (m_M_tickWiper (m_M_tickSide (1 : Int32) (m_M_tickSide (0 : Int32) (f_M_tick_7 u))))) 8) = (1 : Int32) then (g_M_tick_48_1 (m_M_tickWiper (m_M_tickSide (1 : Int32) (m_M_tickSide (0 : Int32) (f_M_tick_7 u))))) else (if (mg3 (m_M_tickWiper (m_M_tickSide (1 : Int32) (m_M_tickSide (0 : Int32) (f_M_tick_7 u))))) = 0 then (g_M_tick_48_0 (m_M_tickWiper (m_M_tickSide (1 : Int32) (m_M_tickSide (0 : Int32) (f_M_tick_7 u))))) else (g_M_tick_48_1 (m_M_tickWiper (m_M_tickSide (1 : Int32) (m_M_tickSide (0 : Int32) (f_M_tick_7 u))))))
def f_M_input_2 (u : cM) : cM := ms0 u (0 : Int32)
def f_M_input_42 (p1 : Int32) (p2 : Int32) (u : cM) : cM := ms1 u (upd (mg1 u) p1.toNatClampNeg p2)
def f_M_input_75 (u : cM) : cM := ms2 u (1 : Int32)
def f_M_input_75_1 (u : cM) : cM := ms2 u (0 : Int32)
def f_M_input_125 (u : cM) : cM := ms7 u (upd (mg7 u) 1 (0 : Int32))
def f_M_input_125_1 (u : cM) : cM := ms7 u (upd (mg7 u) 1 (1 : Int32))
def f_M_input_125_2 (u : cM) : cM := ms7 u (upd (mg7 u) 0 (0 : Int32))
def f_M_input_125_3 (u : cM) : cM := ms7 u (upd (mg7 u) 0 (1 : Int32))
def g_M_input_126 (p1 : Int32) (p2 : Int32) (u : cM) : Int32 × cM := (m_M_others (m_M_begin u), (m_M_begin u))
def g_M_input_78 (p1 : Int32) (p2 : Int32) (u : cM) : Int32 × cM := if p1 = (2 : Int32) then (if p2 ≤ 0 then (g_M_input_126 p1 p2 u) else (if p2 = (1 : Int32) then (if ((mg7 u) 1) = 0 then (g_M_input_126 p1 p2 (f_M_input_125 u)) else (if (m_M_isWanted (1 : Int32) u) = 0 then (g_M_input_126 p1 p2 (f_M_input_125 u)) else (g_M_input_126 p1 p2 (f_M_input_125_1 u)))) else (if ((mg7 u) 0) = 0 then (g_M_input_126 p1 p2 (f_M_input_125_2 u)) else (if (m_M_isWanted (0 : Int32) u) = 0 then (g_M_input_126 p1 p2 (f_M_input_125_2 u)) else (g_M_input_126 p1 p2 (f_M_input_125_3 u)))))) else (g_M_input_126 p1 p2 u)
def m_M_input (p1 : Int32) (p2 : Int32) (u : cM) : Int32 × cM := if (m_M_within p1 (0 : Int32) (8 : Int32)) = 0 then ((-1 : Int32), (f_M_input_2 u)) else (if (m_M_within p2 (0 : Int32) (m_M_most p1)) = 0 then ((-2 : Int32), (f_M_input_2 u)) else (if p1 = (1 : Int32) then (if p2 < (200 : Int32) then (g_M_input_78 p1 p2 (f_M_input_75 (f_M_input_42 p1 p2 (m_M_layBy (f_M_input_2 u))))) else (if (mg2 (f_M_input_42 p1 p2 (m_M_layBy (f_M_input_2 u)))) = 0 then (g_M_input_78 p1 p2 (f_M_input_75_1 (f_M_input_42 p1 p2 (m_M_layBy (f_M_input_2 u))))) else (if (400 : Int32) < p2 then (g_M_input_78 p1 p2 (f_M_input_75_1 (f_M_input_42 p1 p2 (m_M_layBy (f_M_input_2 u))))) else (g_M_input_78 p1 p2 (f_M_input_75 (f_M_input_42 p1 p2 (m_M_layBy (f_M_input_2 u)))))))) else (g_M_input_78 p1 p2 (f_M_input_42 p1 p2 (m_M_layBy (f_M_input_2 u))))))
def f_M_output_16 (u : cM) : cM := ms0 u (1 : Int32)
def f_M_output_16_1 (u : cM) : cM := ms0 u (0 : Int32)
def m_M_output (p1 : Int32) (u : cM) : Int32 × cM := if (m_M_within p1 (0 : Int32) (9 : Int32)) = 0 then (if (mg0 (f_M_output_16 u)) ≤ 0 then (m_M_value p1 (f_M_output_16 u), (f_M_output_16 u)) else ((0 : Int32), (f_M_output_16 u))) else (if (mg0 (f_M_output_16_1 u)) ≤ 0 then (m_M_value p1 (f_M_output_16_1 u), (f_M_output_16_1 u)) else ((0 : Int32), (f_M_output_16_1 u)))
def lb_M_step_25 (p1 : Int32) (k : Nat) (u : cM) : cM := (m_M_tick u)
def li_M_step_25 (p1 : Int32) (u : cM) : Nat → cM
  | 0 => u
  | k + 1 => lb_M_step_25 p1 k (li_M_step_25 p1 u k)
def f_M_step_2 (u : cM) : cM := ms0 u (0 : Int32)
def m_M_step (p1 : Int32) (u : cM) : Int32 × cM := if (m_M_within p1 (0 : Int32) (1000 : Int32)) = 0 then ((-2 : Int32), (f_M_step_2 u)) else (m_M_others (li_M_step_25 p1 (m_M_layBy (f_M_step_2 u)) p1.toNatClampNeg), (li_M_step_25 p1 (m_M_layBy (f_M_step_2 u)) p1.toNatClampNeg))
def f_M_pinch_2 (u : cM) : cM := ms0 u (0 : Int32)
def f_M_pinch_80 (p1 : Int32) (u : cM) : cM := ms16 u (upd (mg16 u) p1.toNatClampNeg (0 : Int32))
def f_M_pinch_80_1 (p1 : Int32) (u : cM) : cM := ms16 u (upd (mg16 u) p1.toNatClampNeg (((mg15 u) p1.toNatClampNeg) - (60 : Int32)))
def m_M_pinch (p1 : Int32) (p2 : Int32) (u : cM) : Int32 × cM := if (m_M_isWindow p1) = 0 then ((-1 : Int32), (f_M_pinch_2 u)) else (if (m_M_within p2 (0 : Int32) (1000 : Int32)) = 0 then ((-2 : Int32), (f_M_pinch_2 u)) else (if ((mg16 (f_M_pinch_2 u)) p1.toNatClampNeg) ≤ ((mg15 (f_M_pinch_2 u)) p1.toNatClampNeg) then ((0 : Int32), (f_M_pinch_2 u)) else (if (100 : Int32) < p2 then (if ((mg15 (f_M_pinch_2 u)) p1.toNatClampNeg) ≤ (60 : Int32) then ((1 : Int32), (f_M_pinch_80 p1 (f_M_pinch_2 u))) else ((1 : Int32), (f_M_pinch_80_1 p1 (f_M_pinch_2 u)))) else ((0 : Int32), (f_M_pinch_2 u)))))
def f_M_learn_2 (u : cM) : cM := ms0 u (0 : Int32)
def f_M_learn_79 (p1 : Int32) (u : cM) : cM := ms17 u (upd (mg17 u) p1.toNatClampNeg (1 : Int32))
def f_M_learn_79_1 (p1 : Int32) (u : cM) : cM := ms17 u (upd (mg17 u) p1.toNatClampNeg (0 : Int32))
def m_M_learn (p1 : Int32) (u : cM) : Int32 × cM := if (m_M_isWindow p1) = 0 then ((-1 : Int32), (f_M_learn_2 u)) else (if ((mg15 (f_M_learn_2 u)) p1.toNatClampNeg) = ((mg16 (f_M_learn_2 u)) p1.toNatClampNeg) then (if ((mg15 (f_M_learn_2 u)) p1.toNatClampNeg) = 0 then (if ((mg17 (f_M_learn_2 u)) p1.toNatClampNeg) = 0 then ((1 : Int32), (f_M_learn_79 p1 (f_M_learn_2 u))) else ((1 : Int32), (f_M_learn_79 p1 (f_M_learn_2 u)))) else (if ((mg15 (f_M_learn_2 u)) p1.toNatClampNeg) = (200 : Int32) then (if ((mg17 (f_M_learn_2 u)) p1.toNatClampNeg) = 0 then ((1 : Int32), (f_M_learn_79 p1 (f_M_learn_2 u))) else ((1 : Int32), (f_M_learn_79 p1 (f_M_learn_2 u)))) else (if ((mg17 (f_M_learn_2 u)) p1.toNatClampNeg) = 0 then ((0 : Int32), (f_M_learn_79_1 p1 (f_M_learn_2 u))) else ((0 : Int32), (f_M_learn_79 p1 (f_M_learn_2 u)))))) else (if ((mg17 (f_M_learn_2 u)) p1.toNatClampNeg) = 0 then ((0 : Int32), (f_M_learn_79_1 p1 (f_M_learn_2 u))) else ((0 : Int32), (f_M_learn_79 p1 (f_M_learn_2 u)))))
def f_M_window_2 (u : cM) : cM := ms0 u (0 : Int32)
def f_M_window_34 (p1 : Int32) (p2 : Int32) (u : cM) : cM := ms16 u (upd (mg16 u) p1.toNatClampNeg p2)
def m_M_window (p1 : Int32) (p2 : Int32) (u : cM) : Int32 × cM := if (m_M_isWindow p1) = 0 then ((-1 : Int32), (f_M_window_2 u)) else (if (m_M_within p2 (0 : Int32) (200 : Int32)) = 0 then ((-2 : Int32), (f_M_window_2 u)) else (if p2 ≤ ((mg15 (f_M_window_34 p1 p2 (f_M_window_2 u))) p1.toNatClampNeg) then (if ((mg17 (f_M_window_34 p1 p2 (f_M_window_2 u))) p1.toNatClampNeg) = 0 then (((mg15 (f_M_window_34 p1 p2 (f_M_window_2 u))) p1.toNatClampNeg) - p2, (f_M_window_34 p1 p2 (f_M_window_2 u))) else (((((mg15 (f_M_window_34 p1 p2 (f_M_window_2 u))) p1.toNatClampNeg) - p2) + (1 : Int32)) / (2 : Int32), (f_M_window_34 p1 p2 (f_M_window_2 u)))) else (if ((mg17 (f_M_window_34 p1 p2 (f_M_window_2 u))) p1.toNatClampNeg) = 0 then (p2 - ((mg15 (f_M_window_34 p1 p2 (f_M_window_2 u))) p1.toNatClampNeg), (f_M_window_34 p1 p2 (f_M_window_2 u))) else (((p2 - ((mg15 (f_M_window_34 p1 p2 (f_M_window_2 u))) p1.toNatClampNeg)) + (1 : Int32)) / (2 : Int32), (f_M_window_34 p1 p2 (f_M_window_2 u))))))
def f_M_load_2 (u : cM) : cM := ms0 u (0 : Int32)
def f_M_load_37 (u : cM) : cM := ms18 u ((mg18 u) + (1 : Int32))
def f_M_load_49 (p1 : Int32) (u : cM) : cM := ms19 u (upd (mg19 u) (mg18 u).toNatClampNeg p1)
def f_M_load_59 (p2 : Int32) (u : cM) : cM := ms20 u (upd (mg20 u) (mg18 u).toNatClampNeg p2)
def m_M_load (p1 : Int32) (p2 : Int32) (u : cM) : Int32 × cM := if (m_M_within p1 (0 : Int32) (9 : Int32)) = 0 then ((-2 : Int32), (f_M_load_2 u)) else (if (mg18 (f_M_load_2 u)) = (12 : Int32) then ((-4 : Int32), (f_M_load_2 u)) else (mg18 (f_M_load_59 p2 (f_M_load_49 p1 (f_M_load_37 (f_M_load_2 u)))), (f_M_load_59 p2 (f_M_load_49 p1 (f_M_load_37 (f_M_load_2 u))))))
def f_M_isOn_2 (u : cM) : cM := ms0 u (0 : Int32)
def m_M_isOn (p1 : Int32) (u : cM) : Int32 × cM := if (m_M_within p1 (1 : Int32) (mg18 (f_M_isOn_2 u))) = 0 then ((-1 : Int32), (f_M_isOn_2 u)) else (if ((mg21 (f_M_isOn_2 u)) p1.toNatClampNeg) = 0 then ((1 : Int32), (f_M_isOn_2 u)) else ((0 : Int32), (f_M_isOn_2 u)))
def lb_M_putOff_4 (u : cM) (k : Nat) (x : Int32) : Int32 := if ((mg21 u) (k + 1)) = 0 then (if ((mg20 u) (k + 1)) = 0 then (if x = 0 then nI (k + 1) else (if ((mg19 u) (k + 1)) < ((mg19 u) x.toNatClampNeg) then x else nI (k + 1))) else x) else x
def li_M_putOff_4 (u : cM) : Nat → Int32
  | 0 => 0
  | k + 1 => lb_M_putOff_4 u k (li_M_putOff_4 u k)
def f_M_putOff_71 (u : cM) : cM := ms21 u (upd (mg21 u) (li_M_putOff_4 u ((mg18 u).toNatClampNeg)).toNatClampNeg (0 : Int32))
def f_M_putOff_71_1 (u : cM) : cM := ms21 u (upd (mg21 u) (li_M_putOff_4 u ((mg18 u).toNatClampNeg)).toNatClampNeg (1 : Int32))
def m_M_putOff (u : cM) : cM := if (li_M_putOff_4 u ((mg18 u).toNatClampNeg)) ≤ 0 then (f_M_putOff_71 u) else (f_M_putOff_71_1 u)
def lb_M_putOn_4 (u : cM) (k : Nat) (x : Int32) : Int32 := if ((mg21 u) (k + 1)) = 0 then x else (if x = 0 then nI (k + 1) else (if ((mg19 u) x.toNatClampNeg) ≤ ((mg19 u) (k + 1)) then x else nI (k + 1)))
def li_M_putOn_4 (u : cM) : Nat → Int32
  | 0 => 0
  | k + 1 => lb_M_putOn_4 u k (li_M_putOn_4 u k)
def f_M_putOn_54 (u : cM) : cM := ms21 u (upd (mg21 u) (li_M_putOn_4 u ((mg18 u).toNatClampNeg)).toNatClampNeg (0 : Int32))
def m_M_putOn (u : cM) : cM := (f_M_putOn_54 u)
def lb_M_shed_99 (p1 : Int32) (u : cM) (k : Nat) (x : Int32) : Int32 := if ((mg21 u) (k + 1)) = 0 then x + (0 : Int32) else x + (1 : Int32)
def li_M_shed_99 (p1 : Int32) (u : cM) : Nat → Int32
  | 0 => 0
  | k + 1 => lb_M_shed_99 p1 u k (li_M_shed_99 p1 u k)
def f_M_shed_2 (u : cM) : cM := ms0 u (0 : Int32)
def f_M_shed_37 (u : cM) : cM := ms22 u (0 : Int32)
def f_M_shed_37_1 (u : cM) : cM := ms22 u ((mg22 u) + (1 : Int32))
def f_M_shed_58 (u : cM) : cM := ms23 u (0 : Int32)
def f_M_shed_58_1 (u : cM) : cM := ms23 u ((mg23 u) + (1 : Int32))
def f_M_shed_75 (u : cM) : cM := ms22 u (0 : Int32)
def f_M_shed_92 (u : cM) : cM := ms23 u (0 : Int32)
def g_M_shed_95 (p1 : Int32) (u : cM) : Int32 × cM := (li_M_shed_99 p1 u ((mg18 u).toNatClampNeg), u)
def g_M_shed_78 (p1 : Int32) (u : cM) : Int32 × cM := if (mg23 u) = (3 : Int32) then (g_M_shed_95 p1 (f_M_shed_92 (m_M_putOn u))) else (g_M_shed_95 p1 u)
def g_M_shed_61 (p1 : Int32) (u : cM) : Int32 × cM := if (mg22 u) = (3 : Int32) then (g_M_shed_78 p1 (f_M_shed_75 (m_M_putOff u))) else (g_M_shed_78 p1 u)
def g_M_shed_40 (p1 : Int32) (u : cM) : Int32 × cM := if p1 ≤ (12500 : Int32) then (g_M_shed_61 p1 (f_M_shed_58 u)) else (g_M_shed_61 p1 (f_M_shed_58_1 u))
def m_M_shed (p1 : Int32) (u : cM) : Int32 × cM := if (m_M_within p1 (0 : Int32) (20000 : Int32)) = 0 then ((-2 : Int32), (f_M_shed_2 u)) else (if (11500 : Int32) ≤ p1 then (g_M_shed_40 p1 (f_M_shed_37 (f_M_shed_2 u))) else (g_M_shed_40 p1 (f_M_shed_37_1 (f_M_shed_2 u))))
def f_M_bulb_2 (u : cM) : cM := ms0 u (0 : Int32)
def f_M_bulb_30 (p1 : Int32) (u : cM) : cM := ms10 u (upd (mg10 u) p1.toNatClampNeg (1 : Int32))
def f_M_bulb_30_1 (p1 : Int32) (u : cM) : cM := ms10 u (upd (mg10 u) p1.toNatClampNeg (0 : Int32))
def m_M_bulb (p1 : Int32) (p2 : Int32) (u : cM) : Int32 × cM := if (m_M_within p1 (0 : Int32) (5 : Int32)) = 0 then ((-1 : Int32), (f_M_bulb_2 u)) else (if p2 = 0 then (if p1 ≤ (3 : Int32) then (if (p1 - p1 / (2 : Int32) * (2 : Int32)) = 0 then (if p2 = 0 then (if ((mg10 (f_M_bulb_30 p1 (f_M_bulb_2 u))) (p1 + (1 : Int32)).toNatClampNeg) = 0 then ((p1 + (1 : Int32)) + (1 : Int32), (f_M_bulb_30 p1 (f_M_bulb_2 u))) else ((0 : Int32), (f_M_bulb_30 p1 (f_M_bulb_2 u)))) else ((0 : Int32), (f_M_bulb_30 p1 (f_M_bulb_2 u)))) else (if p2 = 0 then (if ((mg10 (f_M_bulb_30 p1 (f_M_bulb_2 u))) (p1 - (1 : Int32)).toNatClampNeg) = 0 then ((p1 - (1 : Int32)) + (1 : Int32), (f_M_bulb_30 p1 (f_M_bulb_2 u))) else ((0 : Int32), (f_M_bulb_30 p1 (f_M_bulb_2 u)))) else ((0 : Int32), (f_M_bulb_30 p1 (f_M_bulb_2 u))))) else (if p2 = 0 then (if ((mg10 (f_M_bulb_30 p1 (f_M_bulb_2 u))) (p1 - (4 : Int32)).toNatClampNeg) = 0 then ((p1 - (4 : Int32)) + (1 : Int32), (f_M_bulb_30 p1 (f_M_bulb_2 u))) else ((0 : Int32), (f_M_bulb_30 p1 (f_M_bulb_2 u)))) else ((0 : Int32), (f_M_bulb_30 p1 (f_M_bulb_2 u))))) else (if p1 ≤ (3 : Int32) then (if (p1 - p1 / (2 : Int32) * (2 : Int32)) = 0 then (if p2 = 0 then (if ((mg10 (f_M_bulb_30_1 p1 (f_M_bulb_2 u))) (p1 + (1 : Int32)).toNatClampNeg) = 0 then ((p1 + (1 : Int32)) + (1 : Int32), (f_M_bulb_30_1 p1 (f_M_bulb_2 u))) else ((0 : Int32), (f_M_bulb_30_1 p1 (f_M_bulb_2 u)))) else ((0 : Int32), (f_M_bulb_30_1 p1 (f_M_bulb_2 u)))) else (if p2 = 0 then (if ((mg10 (f_M_bulb_30_1 p1 (f_M_bulb_2 u))) (p1 - (1 : Int32)).toNatClampNeg) = 0 then ((p1 - (1 : Int32)) + (1 : Int32), (f_M_bulb_30_1 p1 (f_M_bulb_2 u))) else ((0 : Int32), (f_M_bulb_30_1 p1 (f_M_bulb_2 u)))) else ((0 : Int32), (f_M_bulb_30_1 p1 (f_M_bulb_2 u))))) else (if p2 = 0 then (if ((mg10 (f_M_bulb_30_1 p1 (f_M_bulb_2 u))) (p1 - (4 : Int32)).toNatClampNeg) = 0 then ((p1 - (4 : Int32)) + (1 : Int32), (f_M_bulb_30_1 p1 (f_M_bulb_2 u))) else ((0 : Int32), (f_M_bulb_30_1 p1 (f_M_bulb_2 u)))) else ((0 : Int32), (f_M_bulb_30_1 p1 (f_M_bulb_2 u))))))
def f_M_rain_2 (u : cM) : cM := ms0 u (0 : Int32)
def f_M_rain_25 (p1 : Int32) (u : cM) : cM := ms5 u p1
def m_M_rain (p1 : Int32) (u : cM) : Int32 × cM := if (m_M_within p1 (0 : Int32) (9 : Int32)) = 0 then ((-2 : Int32), (f_M_rain_2 u)) else (mg5 (f_M_rain_2 u), (f_M_rain_25 p1 (f_M_rain_2 u)))
def f_M_crash_2 (u : cM) : cM := ms0 u (0 : Int32)
def f_M_crash_21 (u : cM) : cM := ms3 u (1 : Int32)
def f_M_crash_37 (u : cM) : cM := ms16 u (upd (mg16 u) 0 (0 : Int32))
def f_M_crash_37_1 (u : cM) : cM := ms16 u (upd (mg16 u) 1 (0 : Int32))
def f_M_crash_37_2 (u : cM) : cM := ms16 u (upd (mg16 u) 2 (0 : Int32))
def f_M_crash_37_3 (u : cM) : cM := ms16 u (upd (mg16 u) 3 (0 : Int32))
def m_M_crash (u : cM) : Int32 × cM := if (mg3 (f_M_crash_2 u)) = 0 then (m_M_others (m_M_begin (f_M_crash_37_3 (f_M_crash_37_2 (f_M_crash_37_1 (f_M_crash_37 (f_M_crash_21 (m_M_layBy (f_M_crash_2 u)))))))), (m_M_begin (f_M_crash_37_3 (f_M_crash_37_2 (f_M_crash_37_1 (f_M_crash_37 (f_M_crash_21 (m_M_layBy (f_M_crash_2 u))))))))) else ((-3 : Int32), (f_M_crash_2 u))
def f_M_memory_2 (u : cM) : cM := ms0 u (0 : Int32)
def f_M_memory_72 (p1 : Int32) (p2 : Int32) (u : cM) : cM := ms24 u (upd (mg24 u) (((5 : Int32) * p1) + p2).toNatClampNeg (mg14 u))
def f_M_memory_72_1 (p1 : Int32) (p2 : Int32) (u : cM) : cM := ms24 u (upd (mg24 u) (((5 : Int32) * p1) + p2).toNatClampNeg ((mg16 u) p2.toNatClampNeg))
def f_M_memory_99 (p1 : Int32) (p2 : Int32) (u : cM) : cM := ms14 u ((mg24 u) (((5 : Int32) * p1) + p2).toNatClampNeg)
def f_M_memory_117 (p1 : Int32) (p2 : Int32) (u : cM) : cM := ms16 u (upd (mg16 u) p2.toNatClampNeg ((mg24 u) (((5 : Int32) * p1) + p2).toNatClampNeg))
def m_M_memory (p1 : Int32) (p2 : Int32) (p3 : Int32) (u : cM) : Int32 × cM := if (m_M_within p1 (0 : Int32) (3 : Int32)) = 0 then ((-1 : Int32), (f_M_memory_2 u)) else (if (m_M_within p2 (0 : Int32) (4 : Int32)) = 0 then ((-2 : Int32), (f_M_memory_2 u)) else (if (m_M_within p3 (0 : Int32) (1 : Int32)) = 0 then ((-2 : Int32), (f_M_memory_2 u)) else (if p3 = 0 then (if p2 = (4 : Int32) then ((mg24 (f_M_memory_72 p1 p2 (f_M_memory_2 u))) (((5 : Int32) * p1) + p2).toNatClampNeg, (f_M_memory_72 p1 p2 (f_M_memory_2 u))) else ((mg24 (f_M_memory_72_1 p1 p2 (f_M_memory_2 u))) (((5 : Int32) * p1) + p2).toNatClampNeg, (f_M_memory_72_1 p1 p2 (f_M_memory_2 u)))) else (if ((mg24 (f_M_memory_2 u)) (((5 : Int32) * p1) + p2).toNatClampNeg) < 0 then ((mg24 (f_M_memory_2 u)) (((5 : Int32) * p1) + p2).toNatClampNeg, (f_M_memory_2 u)) else (if p2 = (4 : Int32) then ((mg24 (f_M_memory_99 p1 p2 (f_M_memory_2 u))) (((5 : Int32) * p1) + p2).toNatClampNeg, (f_M_memory_99 p1 p2 (f_M_memory_2 u))) else ((mg24 (f_M_memory_117 p1 p2 (f_M_memory_2 u))) (((5 : Int32) * p1) + p2).toNatClampNeg, (f_M_memory_117 p1 p2 (f_M_memory_2 u))))))))
def f_M_trailer_2 (u : cM) : cM := ms0 u (0 : Int32)
def f_M_trailer_11 (p1 : Int32) (u : cM) : cM := ms4 u p1
def m_M_trailer (p1 : Int32) (u : cM) : Int32 × cM := (m_M_others (f_M_trailer_11 p1 (m_M_layBy (f_M_trailer_2 u))), (f_M_trailer_11 p1 (m_M_layBy (f_M_trailer_2 u))))
def f_M_state_2 (u : cM) : cM := ms0 u (0 : Int32)
def m_M_state (p1 : Int32) (u : cM) : Int32 × cM := if (m_M_within p1 (0 : Int32) (9 : Int32)) = 0 then ((-2 : Int32), (f_M_state_2 u)) else (if (4 : Int32) ≤ p1 then (if p1 = (4 : Int32) then (mg11 (f_M_state_2 u), (f_M_state_2 u)) else (if p1 = (5 : Int32) then (mg12 (f_M_state_2 u), (f_M_state_2 u)) else (if (8 : Int32) ≤ p1 then (if p1 = (8 : Int32) then (if (mg2 (f_M_state_2 u)) = 0 then ((0 : Int32), (f_M_state_2 u)) else ((1 : Int32), (f_M_state_2 u))) else (mg6 (f_M_state_2 u), (f_M_state_2 u))) else ((mg9 (f_M_state_2 u)) (p1 - (6 : Int32)).toNatClampNeg, (f_M_state_2 u))))) else ((mg15 (f_M_state_2 u)) p1.toNatClampNeg, (f_M_state_2 u)))
end
section
theorem k18_ms0 (u : cM) (x : Int32) : mg18 (ms0 u x) = mg18 u := rfl
theorem k18_ms1 (u : cM) (x : Nat → Int32) : mg18 (ms1 u x) = mg18 u := rfl
theorem k18_ms2 (u : cM) (x : Int32) : mg18 (ms2 u x) = mg18 u := rfl
theorem k18_ms3 (u : cM) (x : Int32) : mg18 (ms3 u x) = mg18 u := rfl
theorem k18_ms4 (u : cM) (x : Int32) : mg18 (ms4 u x) = mg18 u := rfl
theorem k18_ms5 (u : cM) (x : Int32) : mg18 (ms5 u x) = mg18 u := rfl
theorem k18_ms6 (u : cM) (x : Int32) : mg18 (ms6 u x) = mg18 u := rfl
theorem k18_ms7 (u : cM) (x : Nat → Int32) : mg18 (ms7 u x) = mg18 u := rfl
theorem k18_ms8 (u : cM) (x : Nat → Int32) : mg18 (ms8 u x) = mg18 u := rfl
theorem k18_ms9 (u : cM) (x : Nat → Int32) : mg18 (ms9 u x) = mg18 u := rfl
theorem k18_ms10 (u : cM) (x : Nat → Int32) : mg18 (ms10 u x) = mg18 u := rfl
theorem k18_ms11 (u : cM) (x : Int32) : mg18 (ms11 u x) = mg18 u := rfl
theorem k18_ms12 (u : cM) (x : Int32) : mg18 (ms12 u x) = mg18 u := rfl
theorem k18_ms13 (u : cM) (x : Int32) : mg18 (ms13 u x) = mg18 u := rfl
theorem k18_ms14 (u : cM) (x : Int32) : mg18 (ms14 u x) = mg18 u := rfl
theorem k18_ms15 (u : cM) (x : Nat → Int32) : mg18 (ms15 u x) = mg18 u := rfl
theorem k18_ms16 (u : cM) (x : Nat → Int32) : mg18 (ms16 u x) = mg18 u := rfl
theorem k18_ms17 (u : cM) (x : Nat → Int32) : mg18 (ms17 u x) = mg18 u := rfl
theorem k18_ms19 (u : cM) (x : Nat → Int32) : mg18 (ms19 u x) = mg18 u := rfl
theorem k18_ms20 (u : cM) (x : Nat → Int32) : mg18 (ms20 u x) = mg18 u := rfl
theorem k18_ms21 (u : cM) (x : Nat → Int32) : mg18 (ms21 u x) = mg18 u := rfl
theorem k18_ms22 (u : cM) (x : Int32) : mg18 (ms22 u x) = mg18 u := rfl
theorem k18_ms23 (u : cM) (x : Int32) : mg18 (ms23 u x) = mg18 u := rfl
theorem k18_ms24 (u : cM) (x : Nat → Int32) : mg18 (ms24 u x) = mg18 u := rfl
theorem k18_ms25 (u : cM) (x : Nat → Int32) : mg18 (ms25 u x) = mg18 u := rfl
theorem k18_f_M_layBy_18 (k : Nat) (u : cM) : mg18 (f_M_layBy_18 k u) = mg18 u := k18_ms25 u _
theorem k18_f_M_begin_30 (u : cM) : mg18 (f_M_begin_30 u) = mg18 u := k18_ms7 u _
theorem k18_f_M_begin_37 (u : cM) : mg18 (f_M_begin_37 u) = mg18 u := k18_ms8 u _
theorem k18_f_M_begin_44 (u : cM) : mg18 (f_M_begin_44 u) = mg18 u := k18_ms9 u _
theorem k18_f_M_begin_30_1 (u : cM) : mg18 (f_M_begin_30_1 u) = mg18 u := k18_ms7 u _
theorem k18_f_M_begin_37_1 (u : cM) : mg18 (f_M_begin_37_1 u) = mg18 u := k18_ms8 u _
theorem k18_f_M_begin_44_1 (u : cM) : mg18 (f_M_begin_44_1 u) = mg18 u := k18_ms9 u _
theorem k18_f_M_tickSide_19 (p1 : Int32) (u : cM) : mg18 (f_M_tickSide_19 p1 u) = mg18 u := k18_ms8 u _
theorem k18_f_M_tickSide_41 (p1 : Int32) (u : cM) : mg18 (f_M_tickSide_41 p1 u) = mg18 u := k18_ms8 u _
theorem k18_f_M_tickSide_51 (p1 : Int32) (u : cM) : mg18 (f_M_tickSide_51 p1 u) = mg18 u := k18_ms9 u _
theorem k18_f_M_tickSide_80 (p1 : Int32) (u : cM) : mg18 (f_M_tickSide_80 p1 u) = mg18 u := k18_ms7 u _
theorem k18_f_M_tickSide_80_1 (p1 : Int32) (u : cM) : mg18 (f_M_tickSide_80_1 p1 u) = mg18 u := k18_ms7 u _
theorem k18_f_M_tickWiper_7 (u : cM) : mg18 (f_M_tickWiper_7 u) = mg18 u := k18_ms13 u _
theorem k18_f_M_tickWiper_23 (u : cM) : mg18 (f_M_tickWiper_23 u) = mg18 u := k18_ms12 u _
theorem k18_f_M_tickWiper_62 (u : cM) : mg18 (f_M_tickWiper_62 u) = mg18 u := k18_ms13 u _
theorem k18_f_M_tickWiper_62_1 (u : cM) : mg18 (f_M_tickWiper_62_1 u) = mg18 u := k18_ms13 u _
theorem k18_f_M_tickWiper_48 (u : cM) : mg18 (f_M_tickWiper_48 u) = mg18 u := k18_ms12 u _
theorem k18_f_M_tickWiper_75 (u : cM) : mg18 (f_M_tickWiper_75 u) = mg18 u := k18_ms11 u _
theorem k18_f_M_tickWiper_90 (u : cM) : mg18 (f_M_tickWiper_90 u) = mg18 u := k18_ms11 u _
theorem k18_f_M_tickWiper_127 (u : cM) : mg18 (f_M_tickWiper_127 u) = mg18 u := k18_ms12 u _
theorem k18_f_M_tickWindow_58 (p1 : Int32) (u : cM) : mg18 (f_M_tickWindow_58 p1 u) = mg18 u := k18_ms15 u _
theorem k18_f_M_tickWindow_58_1 (p1 : Int32) (u : cM) : mg18 (f_M_tickWindow_58_1 p1 u) = mg18 u := k18_ms15 u _
theorem k18_f_M_tickWindow_58_2 (p1 : Int32) (u : cM) : mg18 (f_M_tickWindow_58_2 p1 u) = mg18 u := k18_ms15 u _
theorem k18_f_M_tickWindow_58_3 (p1 : Int32) (u : cM) : mg18 (f_M_tickWindow_58_3 p1 u) = mg18 u := k18_ms15 u _
theorem k18_f_M_tickWindow_58_4 (p1 : Int32) (u : cM) : mg18 (f_M_tickWindow_58_4 p1 u) = mg18 u := k18_ms15 u _
theorem k18_f_M_tick_7 (u : cM) : mg18 (f_M_tick_7 u) = mg18 u := k18_ms6 u _
theorem k18_f_M_tick_87 (u : cM) : mg18 (f_M_tick_87 u) = mg18 u := k18_ms14 u _
theorem k18_f_M_tick_87_1 (u : cM) : mg18 (f_M_tick_87_1 u) = mg18 u := k18_ms14 u _
theorem k18_f_M_tick_87_2 (u : cM) : mg18 (f_M_tick_87_2 u) = mg18 u := k18_ms14 u _
theorem k18_f_M_input_2 (u : cM) : mg18 (f_M_input_2 u) = mg18 u := k18_ms0 u _
theorem k18_f_M_input_42 (p1 : Int32) (p2 : Int32) (u : cM) : mg18 (f_M_input_42 p1 p2 u) = mg18 u := k18_ms1 u _
theorem k18_f_M_input_75 (u : cM) : mg18 (f_M_input_75 u) = mg18 u := k18_ms2 u _
theorem k18_f_M_input_75_1 (u : cM) : mg18 (f_M_input_75_1 u) = mg18 u := k18_ms2 u _
theorem k18_f_M_input_125 (u : cM) : mg18 (f_M_input_125 u) = mg18 u := k18_ms7 u _
theorem k18_f_M_input_125_1 (u : cM) : mg18 (f_M_input_125_1 u) = mg18 u := k18_ms7 u _
theorem k18_f_M_input_125_2 (u : cM) : mg18 (f_M_input_125_2 u) = mg18 u := k18_ms7 u _
theorem k18_f_M_input_125_3 (u : cM) : mg18 (f_M_input_125_3 u) = mg18 u := k18_ms7 u _
theorem k18_f_M_output_16 (u : cM) : mg18 (f_M_output_16 u) = mg18 u := k18_ms0 u _
theorem k18_f_M_output_16_1 (u : cM) : mg18 (f_M_output_16_1 u) = mg18 u := k18_ms0 u _
theorem k18_f_M_step_2 (u : cM) : mg18 (f_M_step_2 u) = mg18 u := k18_ms0 u _
theorem k18_f_M_pinch_2 (u : cM) : mg18 (f_M_pinch_2 u) = mg18 u := k18_ms0 u _
theorem k18_f_M_pinch_80 (p1 : Int32) (u : cM) : mg18 (f_M_pinch_80 p1 u) = mg18 u := k18_ms16 u _
theorem k18_f_M_pinch_80_1 (p1 : Int32) (u : cM) : mg18 (f_M_pinch_80_1 p1 u) = mg18 u := k18_ms16 u _
theorem k18_f_M_learn_2 (u : cM) : mg18 (f_M_learn_2 u) = mg18 u := k18_ms0 u _
theorem k18_f_M_learn_79 (p1 : Int32) (u : cM) : mg18 (f_M_learn_79 p1 u) = mg18 u := k18_ms17 u _
theorem k18_f_M_learn_79_1 (p1 : Int32) (u : cM) : mg18 (f_M_learn_79_1 p1 u) = mg18 u := k18_ms17 u _
theorem k18_f_M_window_2 (u : cM) : mg18 (f_M_window_2 u) = mg18 u := k18_ms0 u _
theorem k18_f_M_window_34 (p1 : Int32) (p2 : Int32) (u : cM) : mg18 (f_M_window_34 p1 p2 u) = mg18 u := k18_ms16 u _
theorem k18_f_M_load_2 (u : cM) : mg18 (f_M_load_2 u) = mg18 u := k18_ms0 u _
theorem k18_f_M_load_49 (p1 : Int32) (u : cM) : mg18 (f_M_load_49 p1 u) = mg18 u := k18_ms19 u _
theorem k18_f_M_load_59 (p2 : Int32) (u : cM) : mg18 (f_M_load_59 p2 u) = mg18 u := k18_ms20 u _
theorem k18_f_M_isOn_2 (u : cM) : mg18 (f_M_isOn_2 u) = mg18 u := k18_ms0 u _
theorem k18_f_M_putOff_71 (u : cM) : mg18 (f_M_putOff_71 u) = mg18 u := k18_ms21 u _
theorem k18_f_M_putOff_71_1 (u : cM) : mg18 (f_M_putOff_71_1 u) = mg18 u := k18_ms21 u _
theorem k18_f_M_putOn_54 (u : cM) : mg18 (f_M_putOn_54 u) = mg18 u := k18_ms21 u _
theorem k18_f_M_shed_2 (u : cM) : mg18 (f_M_shed_2 u) = mg18 u := k18_ms0 u _
theorem k18_f_M_shed_37 (u : cM) : mg18 (f_M_shed_37 u) = mg18 u := k18_ms22 u _
theorem k18_f_M_shed_37_1 (u : cM) : mg18 (f_M_shed_37_1 u) = mg18 u := k18_ms22 u _
theorem k18_f_M_shed_58 (u : cM) : mg18 (f_M_shed_58 u) = mg18 u := k18_ms23 u _
theorem k18_f_M_shed_58_1 (u : cM) : mg18 (f_M_shed_58_1 u) = mg18 u := k18_ms23 u _
theorem k18_f_M_shed_75 (u : cM) : mg18 (f_M_shed_75 u) = mg18 u := k18_ms22 u _
theorem k18_f_M_shed_92 (u : cM) : mg18 (f_M_shed_92 u) = mg18 u := k18_ms23 u _
theorem k18_f_M_bulb_2 (u : cM) : mg18 (f_M_bulb_2 u) = mg18 u := k18_ms0 u _
theorem k18_f_M_bulb_30 (p1 : Int32) (u : cM) : mg18 (f_M_bulb_30 p1 u) = mg18 u := k18_ms10 u _
theorem k18_f_M_bulb_30_1 (p1 : Int32) (u : cM) : mg18 (f_M_bulb_30_1 p1 u) = mg18 u := k18_ms10 u _
theorem k18_f_M_rain_2 (u : cM) : mg18 (f_M_rain_2 u) = mg18 u := k18_ms0 u _
theorem k18_f_M_rain_25 (p1 : Int32) (u : cM) : mg18 (f_M_rain_25 p1 u) = mg18 u := k18_ms5 u _
theorem k18_f_M_crash_2 (u : cM) : mg18 (f_M_crash_2 u) = mg18 u := k18_ms0 u _
theorem k18_f_M_crash_21 (u : cM) : mg18 (f_M_crash_21 u) = mg18 u := k18_ms3 u _
theorem k18_f_M_crash_37 (u : cM) : mg18 (f_M_crash_37 u) = mg18 u := k18_ms16 u _
theorem k18_f_M_crash_37_1 (u : cM) : mg18 (f_M_crash_37_1 u) = mg18 u := k18_ms16 u _
theorem k18_f_M_crash_37_2 (u : cM) : mg18 (f_M_crash_37_2 u) = mg18 u := k18_ms16 u _
theorem k18_f_M_crash_37_3 (u : cM) : mg18 (f_M_crash_37_3 u) = mg18 u := k18_ms16 u _
theorem k18_f_M_memory_2 (u : cM) : mg18 (f_M_memory_2 u) = mg18 u := k18_ms0 u _
theorem k18_f_M_memory_72 (p1 : Int32) (p2 : Int32) (u : cM) : mg18 (f_M_memory_72 p1 p2 u) = mg18 u := k18_ms24 u _
theorem k18_f_M_memory_72_1 (p1 : Int32) (p2 : Int32) (u : cM) : mg18 (f_M_memory_72_1 p1 p2 u) = mg18 u := k18_ms24 u _
theorem k18_f_M_memory_99 (p1 : Int32) (p2 : Int32) (u : cM) : mg18 (f_M_memory_99 p1 p2 u) = mg18 u := k18_ms14 u _
theorem k18_f_M_memory_117 (p1 : Int32) (p2 : Int32) (u : cM) : mg18 (f_M_memory_117 p1 p2 u) = mg18 u := k18_ms16 u _
theorem k18_f_M_trailer_2 (u : cM) : mg18 (f_M_trailer_2 u) = mg18 u := k18_ms0 u _
theorem k18_f_M_trailer_11 (p1 : Int32) (u : cM) : mg18 (f_M_trailer_11 p1 u) = mg18 u := k18_ms4 u _
theorem k18_f_M_state_2 (u : cM) : mg18 (f_M_state_2 u) = mg18 u := k18_ms0 u _
/-! PU3: rows on the functions of the reference that its walks ask for -/
def IM (u : cM) : Prop := (mg18 u).toNatClampNeg ≤ 12 ∧ mg18 u = nI (mg18 u).toNatClampNeg
theorem IM_of {u v : cM} (e : mg18 v = mg18 u) (h : IM u) : IM v := by
  unfold IM at h ⊢
  rw [e]
  exact h
theorem hk_exit1 {b : Int32} {n k : Nat} (hb : b = nI n) (hn : n < 2 ^ 31 - 1) (hk : k ≤ n) (h : b < nI (k + 1)) : k = n := by
  by_cases h2 : k = n
  · exact h2
  · rw [hb, nI_ltI (by omega) (by omega)] at h
    omega
theorem hk_stay1 {b : Int32} {n k : Nat} (hb : b = nI n) (hn : n < 2 ^ 31 - 1) (hk : k ≤ n) (h : ¬ b < nI (k + 1)) : k < n := by
  by_cases h2 : k = n
  · subst h2
    refine absurd ?_ h
    rw [hb]
    exact nI_lt (by omega) (by omega)
  · omega
theorem hk_v2 {p : Int32} (hs : p = 0 ∨ p = 1) : vp_in p 2 := by rcases hs with rfl | rfl <;> exact hk_inl (by decide)
theorem hk_v6 {p : Int32} (hs : p = 0 ∨ p = 1) : vp_in (4 + p) 6 := by rcases hs with rfl | rfl <;> exact hk_inl (by decide)
theorem hk_v4 {p : Int32} (hs : p = 0 ∨ p = 1 ∨ p = 2 ∨ p = 3) : vp_in p 4 := by rcases hs with rfl | rfl | rfl | rfl <;> exact hk_inl (by decide)
theorem z_within (p a b : Int32) : m_M_within p a b = 0 ∨ m_M_within p a b = 1 := by
  unfold m_M_within
  split
  · exact Or.inl rfl
  · split
    · exact Or.inl rfl
    · exact Or.inr rfl
theorem hk_wb {p a b : Int32} (h : ¬ m_M_within p a b = 0) : ¬ p < a ∧ ¬ b < p := by
  unfold m_M_within at h
  by_cases h1 : p < a
  · rw [if_pos h1] at h
    exact absurd rfl h
  · rw [if_neg h1] at h
    by_cases h2 : b < p
    · rw [if_pos h2] at h
      exact absurd rfl h
    · exact ⟨h1, h2⟩
theorem hk_wl {p b : Int32} {N : Nat} (h : ¬ m_M_within p 0 b = 0) (hb : b = nI N) (hN : N < 2 ^ 31) : ∃ j : Nat, j ≤ N ∧ p = nI j := by
  obtain ⟨h1, h2⟩ := hk_wb h
  obtain ⟨j, hj, rfl⟩ := nI_of h1
  refine ⟨j, ?_, rfl⟩
  rcases Nat.lt_or_ge N j with q | q
  · exact absurd (by rw [hb]; exact nI_lt q hj) h2
  · exact q
theorem hk_wi {p b : Int32} {N : Nat} (h : ¬ m_M_within p 0 b = 0) (hb : b = nI N) (hN : N + 1 < 2 ^ 31) : vp_in p (N + 1) := by
  obtain ⟨j, hj, rfl⟩ := hk_wl h hb (by omega)
  exact vp_in_nI (by omega) hN
theorem hk_wu {p b : Int32} {N : Nat} (h : ¬ m_M_within p 0 b = 0) (hb : b = nI N) (hN : N < 2 ^ 31) : p.toNatClampNeg < 2 ^ 31 ∧ p = nI p.toNatClampNeg := by
  obtain ⟨j, hj, rfl⟩ := hk_wl h hb hN
  rw [nI_clamp (by omega)]
  exact ⟨by omega, rfl⟩
theorem hk_ww {p : Int32} (h : ¬ m_M_isWindow p = 0) : vp_in p 4 := hk_wi (N := 3) h rfl (by decide)
theorem hk_w10 {p : Int32} (h : ¬ m_M_within p 0 9 = 0) : p = 0 ∨ p = 1 ∨ p = 2 ∨ p = 3 ∨ p = 4 ∨ p = 5 ∨ p = 6 ∨ p = 7 ∨ p = 8 ∨ p = 9 := by
  obtain ⟨j, hj, rfl⟩ := hk_wl (N := 9) h rfl (by decide)
  exact hk_d10 (by omega)
theorem hk_w6 {p : Int32} (h : ¬ m_M_within p 0 5 = 0) : p = 0 ∨ p = 1 ∨ p = 2 ∨ p = 3 ∨ p = 4 ∨ p = 5 := by
  obtain ⟨j, hj, rfl⟩ := hk_wl (N := 5) h rfl (by decide)
  have h : j = 0 ∨ j = 1 ∨ j = 2 ∨ j = 3 ∨ j = 4 ∨ j = 5 := by omega
  rcases h with rfl | rfl | rfl | rfl | rfl | rfl <;> simp [nI]
theorem hk_mL {u : cM} (hI : IM u) (h : ¬ mg18 u = 12) : vp_in (mg18 u + 1) 13 := by
  obtain ⟨a, b⟩ := hI
  have h2 : ¬ (mg18 u).toNatClampNeg = 12 := fun q => h (by rw [b, q]; rfl)
  rw [b, nI_1]
  exact vp_in_nI (by omega) (by decide)
theorem hk_mO {u : cM} {p : Int32} (hI : IM u) (h : ¬ m_M_within p 1 (mg18 u) = 0) : vp_in p 13 := by
  obtain ⟨a, b⟩ := hI
  obtain ⟨h1, h2⟩ := hk_wb h
  have h0 : ¬ p < 0 := fun q => h1 (by
    have := Int32.lt_iff_toInt_lt.mp q
    apply Int32.lt_iff_toInt_lt.mpr
    have e1 : (1 : Int32).toInt = 1 := by decide
    have e0 : (0 : Int32).toInt = 0 := by decide
    omega)
  obtain ⟨j, hj, rfl⟩ := nI_of h0
  rw [b, nI_ltI (by omega) hj] at h2
  exact vp_in_nI (by omega) (by decide)
theorem hk_m13 {x : Int32} (h : ∃ j : Nat, j ≤ 12 ∧ x = nI j) : vp_in x 13 := by
  obtain ⟨j, hj, rfl⟩ := h
  exact vp_in_nI (by omega) (by decide)
theorem fm_off (u : cM) : ∀ k : Nat, k ≤ 12 → ∃ j : Nat, j ≤ 12 ∧ li_M_putOff_4 u k = nI j := by
  intro k
  induction k with
  | zero => exact fun _ => ⟨0, by omega, rfl⟩
  | succ k ih =>
    intro hk
    have h := ih (by omega)
    show ∃ j : Nat, j ≤ 12 ∧ lb_M_putOff_4 u k (li_M_putOff_4 u k) = nI j
    unfold lb_M_putOff_4
    repeat' split
    all_goals first | exact h | exact ⟨k + 1, by omega, rfl⟩
theorem fm_on (u : cM) : ∀ k : Nat, k ≤ 12 → ∃ j : Nat, j ≤ 12 ∧ li_M_putOn_4 u k = nI j := by
  intro k
  induction k with
  | zero => exact fun _ => ⟨0, by omega, rfl⟩
  | succ k ih =>
    intro hk
    have h := ih (by omega)
    show ∃ j : Nat, j ≤ 12 ∧ lb_M_putOn_4 u k (li_M_putOn_4 u k) = nI j
    unfold lb_M_putOn_4
    repeat' split
    all_goals first | exact h | exact ⟨k + 1, by omega, rfl⟩
theorem k18_putOff (u : cM) : mg18 (m_M_putOff u) = mg18 u := by
  unfold m_M_putOff
  split
  · rfl
  · rfl
theorem km_M_putOff {u : cM} (h : IM u) : IM (m_M_putOff u) := IM_of (k18_putOff u) h
theorem km_M_putOn {u : cM} (h : IM u) : IM (m_M_putOn u) := IM_of (v := m_M_putOn u) (u := u) rfl h
theorem hk_k20 {p q : Int32} (h1 : ¬ m_M_within p 0 3 = 0) (h2 : ¬ m_M_within q 0 4 = 0) : vp_in (5 * p + q) 20 := by
  obtain ⟨i, hi, rfl⟩ := hk_wl (N := 3) h1 rfl (by decide)
  obtain ⟨j, hj, rfl⟩ := hk_wl (N := 4) h2 rfl (by decide)
  have e : (5 : Int32) * nI i + nI j = nI (5 * i + j) := by
    rw [show (5 : Int32) = nI 5 from rfl, pk_mul, nI_add]
  rw [e]
  exact vp_in_nI (by omega) (by decide)
theorem hk_w4b {q : Int32} (h2 : ¬ m_M_within q 0 4 = 0) (h : ¬ q = 4) : vp_in q 4 := by
  obtain ⟨j, hj, rfl⟩ := hk_wl (N := 4) h2 rfl (by decide)
  have h3 : ¬ j = 4 := fun e => h (by rw [e]; rfl)
  exact vp_in_nI (by omega) (by decide)
theorem hk_s4 {q : Int32} (h2 : ¬ m_M_within q 0 9 = 0) (h : ¬ 4 ≤ q) : vp_in q 4 := by
  obtain ⟨j, hj, rfl⟩ := hk_wl (N := 9) h2 rfl (by decide)
  have h3 : ¬ nI 4 ≤ nI j := h
  rw [nI_leI (by decide) (by omega)] at h3
  exact vp_in_nI (by omega) (by decide)
theorem hk_s67 {q : Int32} (h2 : ¬ m_M_within q 0 9 = 0) (h4 : 4 ≤ q) (n4 : ¬ q = 4) (n5 : ¬ q = 5) (h8 : ¬ 8 ≤ q) : vp_in (q - 6) 2 := by
  obtain ⟨j, hj, rfl⟩ := hk_wl (N := 9) h2 rfl (by decide)
  have h3 : nI 4 ≤ nI j := h4
  have h5 : ¬ nI 8 ≤ nI j := h8
  rw [nI_leI (by decide) (by omega)] at h3 h5
  have e4 : ¬ j = 4 := fun e => n4 (by rw [e]; rfl)
  have e5 : ¬ j = 5 := fun e => n5 (by rw [e]; rfl)
  have h : j = 6 ∨ j = 7 := by omega
  rcases h with rfl | rfl <;> exact hk_inl (by decide)
end
section
theorem Y_B_isBelow : hk_YS y_B_isBelow b_B_isBelow 2 (some .boolean) 2 := ⟨hk_in (by decide +kernel) rfl, hk_in (by decide +kernel) rfl, hk_in (List.mem_of_getElem? (i := 207) rfl) rfl, by decide, by decide, by decide +kernel⟩
abbrev rm_B_isBelow : Room := { frames := 0, cells := 0, slots := 0, locals := 0 }
set_option maxHeartbeats 4000000 in
set_option maxRecDepth 100000 in
theorem c_B_isBelow (l : Launch) (G : hk_G) (p0 : Int32) (p1 : Int32) : hk_I l G y_B_isBelow b_B_isBelow 2 (some .boolean) rm_B_isBelow [.int p0, .int p1] [] (m_B_isBelow p0 p1) [] := by
  refine hk_I_of (by decide) (Nat.le_of_ble_eq_true rfl) ?_
  intro p e s m below meth c A ls C hAe hA hP hD hS hl
  have hx := C.1
  have hb := C.2.1
  have hown := C.2.2.2.2.1
  have hts := C.2.2.2.2.2.1
  have hE := C.2.2.2.2.2.2.2
  have hl : lv_has ls 2 [(0, .int p0), (1, .int p1)] := hl
  refine lv_iload_n hx hb d_B_isBelow_0 rfl (lv_at hl 0 rfl) ?_
  refine lv_if_lt (tgt := 13) hx hb d_B_isBelow_1 (by decide) (fun c_1 => ?_) (fun c_1 => ?_)
  · skip
    refine lv_iconst (v := (0 : Int32)) hx hb d_B_isBelow_13 (by decide) ?_
    have e : m_B_isBelow p0 p1 = (0 : Int32) := (if_pos c_1).trans (rfl)
    exact hk_rz C hAe hP hD hS (Or.inl rfl) e.symm rfl d_B_isBelow_14
  · skip
    refine lv_iload_n hx hb d_B_isBelow_4 rfl (lv_at hl 0 rfl) ?_
    refine lv_iload_n hx hb d_B_isBelow_5 rfl (lv_at hl 1 rfl) ?_
    refine lv_icmp_ge (tgt := 13) hx hb d_B_isBelow_6 (by decide) (fun c_2 => ?_) (fun c_2 => ?_)
    · skip
      refine lv_iconst (v := (0 : Int32)) hx hb d_B_isBelow_13 (by decide) ?_
      have e : m_B_isBelow p0 p1 = (0 : Int32) := (if_neg c_1).trans ((if_pos c_2).trans (rfl))
      exact hk_rz C hAe hP hD hS (Or.inl rfl) e.symm rfl d_B_isBelow_14
    · skip
      refine lv_iconst (v := (1 : Int32)) hx hb d_B_isBelow_9 (by decide) ?_
      refine lv_goto (tgt := 14) hx hb d_B_isBelow_10 (by decide) ?_
      have e : m_B_isBelow p0 p1 = (1 : Int32) := (if_neg c_1).trans ((if_neg c_2).trans (rfl))
      exact hk_rz C hAe hP hD hS (Or.inr rfl) e.symm rfl d_B_isBelow_14
theorem Y_B_isUpTo : hk_YS y_B_isUpTo b_B_isUpTo 2 (some .boolean) 2 := ⟨hk_in (by decide +kernel) rfl, hk_in (by decide +kernel) rfl, hk_in (List.mem_of_getElem? (i := 212) rfl) rfl, by decide, by decide, by decide +kernel⟩
abbrev rm_B_isUpTo : Room := { frames := 0, cells := 0, slots := 0, locals := 0 }
set_option maxHeartbeats 4000000 in
set_option maxRecDepth 100000 in
theorem c_B_isUpTo (l : Launch) (G : hk_G) (p0 : Int32) (p1 : Int32) : hk_I l G y_B_isUpTo b_B_isUpTo 2 (some .boolean) rm_B_isUpTo [.int p0, .int p1] [] (m_B_isUpTo p0 p1) [] := by
  refine hk_I_of (by decide) (Nat.le_of_ble_eq_true rfl) ?_
  intro p e s m below meth c A ls C hAe hA hP hD hS hl
  have hx := C.1
  have hb := C.2.1
  have hown := C.2.2.2.2.1
  have hts := C.2.2.2.2.2.1
  have hE := C.2.2.2.2.2.2.2
  have hl : lv_has ls 2 [(0, .int p0), (1, .int p1)] := hl
  refine lv_iload_n hx hb d_B_isUpTo_0 rfl (lv_at hl 0 rfl) ?_
  refine lv_if_lt (tgt := 13) hx hb d_B_isUpTo_1 (by decide) (fun c_1 => ?_) (fun c_1 => ?_)
  · skip
    refine lv_iconst (v := (0 : Int32)) hx hb d_B_isUpTo_13 (by decide) ?_
    have e : m_B_isUpTo p0 p1 = (0 : Int32) := (if_pos c_1).trans (rfl)
    exact hk_rz C hAe hP hD hS (Or.inl rfl) e.symm rfl d_B_isUpTo_14
  · skip
    refine lv_iload_n hx hb d_B_isUpTo_4 rfl (lv_at hl 0 rfl) ?_
    refine lv_iload_n hx hb d_B_isUpTo_5 rfl (lv_at hl 1 rfl) ?_
    refine lv_icmp_gt (tgt := 13) hx hb d_B_isUpTo_6 (by decide) (fun c_2 => ?_) (fun c_2 => ?_)
    · skip
      refine lv_iconst (v := (0 : Int32)) hx hb d_B_isUpTo_13 (by decide) ?_
      have e : m_B_isUpTo p0 p1 = (0 : Int32) := (if_neg c_1).trans ((if_pos c_2).trans (rfl))
      exact hk_rz C hAe hP hD hS (Or.inl rfl) e.symm rfl d_B_isUpTo_14
    · skip
      refine lv_iconst (v := (1 : Int32)) hx hb d_B_isUpTo_9 (by decide) ?_
      refine lv_goto (tgt := 14) hx hb d_B_isUpTo_10 (by decide) ?_
      have e : m_B_isUpTo p0 p1 = (1 : Int32) := (if_neg c_1).trans ((if_neg c_2).trans (rfl))
      exact hk_rz C hAe hP hD hS (Or.inr rfl) e.symm rfl d_B_isUpTo_14
theorem Y_B_bit : hk_YS y_B_bit b_B_bit 1 (some .int) 1 := ⟨hk_in (by decide +kernel) rfl, hk_in (by decide +kernel) rfl, hk_in (List.mem_of_getElem? (i := 231) rfl) rfl, by decide, by decide, by decide +kernel⟩
abbrev rm_B_bit : Room := { frames := 0, cells := 0, slots := 0, locals := 0 }
set_option maxHeartbeats 4000000 in
set_option maxRecDepth 100000 in
theorem c_B_bit (l : Launch) (G : hk_G) (p0 : Int32) : hk_I l G y_B_bit b_B_bit 1 (some .int) rm_B_bit [.int p0] [] (m_B_bit p0) [] := by
  refine hk_I_of (by decide) (Nat.le_of_ble_eq_true rfl) ?_
  intro p e s m below meth c A ls C hAe hA hP hD hS hl
  have hx := C.1
  have hb := C.2.1
  have hown := C.2.2.2.2.1
  have hts := C.2.2.2.2.2.1
  have hE := C.2.2.2.2.2.2.2
  have hl : lv_has ls 1 [(0, .int p0)] := hl
  refine lv_iload_n hx hb d_B_bit_0 rfl (lv_at hl 0 rfl) ?_
  refine lv_if_eq (tgt := 8) hx hb d_B_bit_1 (by decide) (fun c_1 => ?_) (fun c_1 => ?_)
  · skip
    refine lv_iconst (v := (0 : Int32)) hx hb d_B_bit_8 (by decide) ?_
    have e : m_B_bit p0 = (0 : Int32) := (if_pos c_1).trans (rfl)
    exact hk_ri C hAe hP hD hS e.symm rfl d_B_bit_9
  · skip
    refine lv_iconst (v := (1 : Int32)) hx hb d_B_bit_4 (by decide) ?_
    refine lv_goto (tgt := 9) hx hb d_B_bit_5 (by decide) ?_
    have e : m_B_bit p0 = (1 : Int32) := (if_neg c_1).trans (rfl)
    exact hk_ri C hAe hP hD hS e.symm rfl d_B_bit_9
theorem Y_Side_period : hk_YS y_Side_period b_Side_period 1 (some .int) 1 := ⟨hk_in (by decide +kernel) rfl, hk_in (by decide +kernel) rfl, hk_in (List.mem_of_getElem? (i := 250) rfl) rfl, by decide, by decide, by decide +kernel⟩
abbrev rm_Side_period : Room := { frames := 0, cells := 0, slots := 0, locals := 0 }
set_option maxHeartbeats 4000000 in
set_option maxRecDepth 100000 in
theorem c_Side_period (l : Launch) (G : hk_G) (p0 : Int32) : hk_I l G y_Side_period b_Side_period 1 (some .int) rm_Side_period [.int p0] [] (m_Side_period p0) [] := by
  refine hk_I_of (by decide) (Nat.le_of_ble_eq_true rfl) ?_
  intro p e s m below meth c A ls C hAe hA hP hD hS hl
  have hx := C.1
  have hb := C.2.1
  have hown := C.2.2.2.2.1
  have hts := C.2.2.2.2.2.1
  have hE := C.2.2.2.2.2.2.2
  have hl : lv_has ls 1 [(0, .int p0)] := hl
  refine lv_iload_n hx hb d_Side_period_0 rfl (lv_at hl 0 rfl) ?_
  refine lv_if_eq (tgt := 9) hx hb d_Side_period_1 (by decide) (fun c_1 => ?_) (fun c_1 => ?_)
  · skip
    refine lv_bipush (v := (80 : Int32)) hx hb d_Side_period_9 (by decide) ?_
    have e : m_Side_period p0 = (80 : Int32) := (if_pos c_1).trans (rfl)
    exact hk_ri C hAe hP hD hS e.symm rfl d_Side_period_11
  · skip
    refine lv_bipush (v := (40 : Int32)) hx hb d_Side_period_4 (by decide) ?_
    refine lv_goto (tgt := 11) hx hb d_Side_period_6 (by decide) ?_
    have e : m_Side_period p0 = (40 : Int32) := (if_neg c_1).trans (rfl)
    exact hk_ri C hAe hP hD hS e.symm rfl d_Side_period_11
theorem Y_Side_begin : hk_Y y_Side_begin b_Side_begin 1 none 0 := ⟨hk_in (by decide +kernel) rfl, hk_in (by decide +kernel) rfl, hk_in (by decide +kernel) rfl, hk_in (List.mem_of_getElem? (i := 266) rfl) rfl, by decide, by decide, by decide +kernel⟩
abbrev rm_Side_begin : Room := { frames := 0, cells := 0, slots := 0, locals := 0 }
set_option maxHeartbeats 4000000 in
set_option maxRecDepth 100000 in
theorem c_Side_begin (l : Launch) (G : hk_G) (a0 : Nat) (u : cS) : hk_V l G y_Side_begin b_Side_begin 1 rm_Side_begin [.ref a0] (wS a0 u) (wS a0 (m_Side_begin u)) := by
  refine hk_V_of (by decide) (Nat.le_of_ble_eq_true rfl) ?_
  intro p e s m below meth c A ls C hAe hA hP hD hS hl
  have hx := C.1
  have hb := C.2.1
  have hown := C.2.2.2.2.1
  have hts := C.2.2.2.2.2.1
  have hE := C.2.2.2.2.2.2.2
  have hl : lv_has ls 1 [(0, .ref a0)] := hl
  refine lv_aload_n hx hb d_Side_begin_0 rfl (lv_at hl 0 rfl) ?_
  refine hk_get (v := .int u.1) C hP 0 0 0 i_Side rfl rfl (by decide) (hk_in (by decide +kernel) rfl) rfl d_Side_begin_1 ?_
  refine lv_if_ne (tgt := 22) hx hb d_Side_begin_4 (by decide) (fun c_1 => ?_) (fun c_1 => ?_)
  · skip
    have e : m_Side_begin u = u := (if_neg c_1).trans (rfl)
    exact hk_rv C hAe hP hD hS (by rw [e]) d_Side_begin_22
  · skip
    refine lv_aload_n hx hb d_Side_begin_7 rfl (lv_at hl 0 rfl) ?_
    refine lv_iconst (v := (1 : Int32)) hx hb d_Side_begin_8 (by decide) ?_
    refine hk_put (w2 := wS a0 (f_Side_begin_9 u)) (v := .int (1 : Int32)) (ty := .boolean) C hP hD hS 0 0 0 i_Side t_Side_ok n_Side rfl rfl (by decide) (hk_in (by decide +kernel) rfl) rfl (by decide +kernel) (hk_nb (Or.inr rfl)) (hk_fb (Or.inr rfl)) (Nat.le_of_ble_eq_true rfl) rfl d_Side_begin_9 (fun H locs hP hD hS => ?_)
    generalize hU1 : (f_Side_begin_9 u) = U1 at hP hD
    refine lv_aload_n hx hb d_Side_begin_12 rfl (lv_at hl 0 rfl) ?_
    refine lv_iconst (v := (0 : Int32)) hx hb d_Side_begin_13 (by decide) ?_
    refine hk_put (w2 := wS a0 (f_Side_begin_14 U1)) (v := .int (0 : Int32)) (ty := .int) C hP hD hS 0 0 1 i_Side t_Side_ok n_Side rfl rfl (by decide) (hk_in (by decide +kernel) rfl) rfl (by decide +kernel) rfl rfl (Nat.le_of_ble_eq_true rfl) rfl d_Side_begin_14 (fun H locs hP hD hS => ?_)
    generalize hU2 : (f_Side_begin_14 U1) = U2 at hP hD
    refine lv_aload_n hx hb d_Side_begin_17 rfl (lv_at hl 0 rfl) ?_
    refine lv_iconst (v := (0 : Int32)) hx hb d_Side_begin_18 (by decide) ?_
    refine hk_put (w2 := wS a0 (f_Side_begin_19 U2)) (v := .int (0 : Int32)) (ty := .int) C hP hD hS 0 0 2 i_Side t_Side_ok n_Side rfl rfl (by decide) (hk_in (by decide +kernel) rfl) rfl (by decide +kernel) rfl rfl (Nat.le_of_ble_eq_true rfl) rfl d_Side_begin_19 (fun H locs hP hD hS => ?_)
    generalize hU3 : (f_Side_begin_19 U2) = U3 at hP hD
    subst hU1 hU2 hU3
    have e : m_Side_begin u = (f_Side_begin_19 (f_Side_begin_14 (f_Side_begin_9 u))) := (if_pos c_1).trans (rfl)
    exact hk_rv C hAe hP hD hS (by rw [e]) d_Side_begin_22
theorem Y_Side_tick : hk_Y y_Side_tick b_Side_tick 3 none 2 := ⟨hk_in (by decide +kernel) rfl, hk_in (by decide +kernel) rfl, hk_in (by decide +kernel) rfl, hk_in (List.mem_of_getElem? (i := 286) rfl) rfl, by decide, by decide, by decide +kernel⟩
abbrev rm_Side_tick : Room := { frames := 1, cells := 0, slots := 0, locals := 20 }
set_option maxHeartbeats 4000000 in
set_option maxRecDepth 100000 in
theorem c_Side_tick (l : Launch) (G : hk_G) (a0 : Nat) (u : cS) (p1 : Int32) (p2 : Int32) : hk_V l G y_Side_tick b_Side_tick 3 rm_Side_tick [.ref a0, .int p1, .int p2] (wS a0 u) (wS a0 (m_Side_tick p1 p2 u)) := by
  refine hk_V_of (by decide) (Nat.le_of_ble_eq_true rfl) ?_
  intro p e s m below meth c A ls C hAe hA hP hD hS hl
  have hx := C.1
  have hb := C.2.1
  have hown := C.2.2.2.2.1
  have hts := C.2.2.2.2.2.1
  have hE := C.2.2.2.2.2.2.2
  have hl : lv_has ls 3 [(0, .ref a0), (1, .int p1), (2, .int p2)] := hl
  refine lv_aload_n hx hb d_Side_tick_0 rfl (lv_at hl 0 rfl) ?_
  refine hk_get (v := .int u.1) C hP 0 0 0 i_Side rfl rfl (by decide) (hk_in (by decide +kernel) rfl) rfl d_Side_tick_1 ?_
  refine lv_if_ne (tgt := 8) hx hb d_Side_tick_4 (by decide) (fun c_1 => ?_) (fun c_1 => ?_)
  · skip
    refine lv_aload_n hx hb d_Side_tick_8 rfl (lv_at hl 0 rfl) ?_
    refine lv_dup hx hb d_Side_tick_9 rfl ?_
    refine hk_get (v := .int u.2.1) C hP 0 0 1 i_Side rfl rfl (by decide) (hk_in (by decide +kernel) rfl) rfl d_Side_tick_10 ?_
    refine lv_iconst (v := (1 : Int32)) hx hb d_Side_tick_13 (by decide) ?_
    refine lv_iadd hx hb d_Side_tick_14 ?_
    refine hk_put (w2 := wS a0 (f_Side_tick_15 u)) (v := .int (u.2.1 + (1 : Int32))) (ty := .int) C hP hD hS 0 0 1 i_Side t_Side_ok n_Side rfl rfl (by decide) (hk_in (by decide +kernel) rfl) rfl (by decide +kernel) rfl rfl (Nat.le_of_ble_eq_true rfl) rfl d_Side_tick_15 (fun H locs hP hD hS => ?_)
    generalize hU1 : (f_Side_tick_15 u) = U1 at hP hD
    refine lv_aload_n hx hb d_Side_tick_18 rfl (lv_at hl 0 rfl) ?_
    refine hk_get (v := .int U1.2.1) C hP 0 0 1 i_Side rfl rfl (by decide) (hk_in (by decide +kernel) rfl) rfl d_Side_tick_19 ?_
    refine lv_iload_n hx hb d_Side_tick_22 rfl (lv_at hl 1 rfl) ?_
    refine hk_goIe (hk_kS (k := 1) (As := [.int p1]) (rest := [.int U1.2.1]) C (c_Side_period l G p1 _) Y_Side_period (hk_in (by decide +kernel) rfl) rfl rfl ⟨Nat.le_of_ble_eq_true rfl, Nat.le_of_ble_eq_true rfl⟩ hk_Pn (hk_Dn (A := A)) rfl hl.1 rfl (Nat.le_of_ble_eq_true rfl) d_Side_tick_23 ⟨Nat.zero_le _, Nat.zero_le _⟩) hP hS hA (fun H locs hP hS => ?_)
    refine lv_icmp_lt (tgt := 65) hx hb d_Side_tick_26 (by decide) (fun c_2 => ?_) (fun c_2 => ?_)
    · skip
      subst hU1
      have e : m_Side_tick p1 p2 u = (f_Side_tick_15 u) := (if_neg c_1).trans ((if_pos c_2).trans (rfl))
      exact hk_rv C hAe hP hD hS (by rw [e]) d_Side_tick_65
    · skip
      refine lv_aload_n hx hb d_Side_tick_29 rfl (lv_at hl 0 rfl) ?_
      refine lv_iconst (v := (0 : Int32)) hx hb d_Side_tick_30 (by decide) ?_
      refine hk_put (w2 := wS a0 (f_Side_tick_31 U1)) (v := .int (0 : Int32)) (ty := .int) C hP hD hS 0 0 1 i_Side t_Side_ok n_Side rfl rfl (by decide) (hk_in (by decide +kernel) rfl) rfl (by decide +kernel) rfl rfl (Nat.le_of_ble_eq_true rfl) rfl d_Side_tick_31 (fun H locs hP hD hS => ?_)
      generalize hU2 : (f_Side_tick_31 U1) = U2 at hP hD
      refine lv_aload_n hx hb d_Side_tick_34 rfl (lv_at hl 0 rfl) ?_
      refine lv_dup hx hb d_Side_tick_35 rfl ?_
      refine hk_get (v := .int U2.2.2) C hP 0 0 2 i_Side rfl rfl (by decide) (hk_in (by decide +kernel) rfl) rfl d_Side_tick_36 ?_
      refine lv_iconst (v := (1 : Int32)) hx hb d_Side_tick_39 (by decide) ?_
      refine lv_iadd hx hb d_Side_tick_40 ?_
      refine hk_put (w2 := wS a0 (f_Side_tick_41 U2)) (v := .int (U2.2.2 + (1 : Int32))) (ty := .int) C hP hD hS 0 0 2 i_Side t_Side_ok n_Side rfl rfl (by decide) (hk_in (by decide +kernel) rfl) rfl (by decide +kernel) rfl rfl (Nat.le_of_ble_eq_true rfl) rfl d_Side_tick_41 (fun H locs hP hD hS => ?_)
      generalize hU3 : (f_Side_tick_41 U2) = U3 at hP hD
      refine lv_aload_n hx hb d_Side_tick_44 rfl (lv_at hl 0 rfl) ?_
      refine lv_iload_n hx hb d_Side_tick_45 rfl (lv_at hl 2 rfl) ?_
      refine lv_if_ne (tgt := 57) hx hb d_Side_tick_46 (by decide) (fun c_3 => ?_) (fun c_3 => ?_)
      · skip
        refine lv_iconst (v := (1 : Int32)) hx hb d_Side_tick_57 (by decide) ?_
        refine lv_goto (tgt := 62) hx hb d_Side_tick_58 (by decide) ?_
        refine hk_put (w2 := wS a0 (f_Side_tick_62_1 U3)) (v := .int (1 : Int32)) (ty := .boolean) C hP hD hS 0 0 0 i_Side t_Side_ok n_Side rfl rfl (by decide) (hk_in (by decide +kernel) rfl) rfl (by decide +kernel) (hk_nb (Or.inr rfl)) (hk_fb (Or.inr rfl)) (Nat.le_of_ble_eq_true rfl) rfl d_Side_tick_62 (fun H locs hP hD hS => ?_)
        generalize hU4 : (f_Side_tick_62_1 U3) = U4 at hP hD
        subst hU1 hU2 hU3 hU4
        have e : m_Side_tick p1 p2 u = (f_Side_tick_62_1 (f_Side_tick_41 (f_Side_tick_31 (f_Side_tick_15 u)))) := (if_neg c_1).trans ((if_neg c_2).trans ((if_neg c_3).trans (rfl)))
        exact hk_rv C hAe hP hD hS (by rw [e]) d_Side_tick_65
      · skip
        refine lv_aload_n hx hb d_Side_tick_49 rfl (lv_at hl 0 rfl) ?_
        refine hk_get (v := .int U3.2.2) C hP 0 0 2 i_Side rfl rfl (by decide) (hk_in (by decide +kernel) rfl) rfl d_Side_tick_50 ?_
        refine lv_iconst (v := (3 : Int32)) hx hb d_Side_tick_53 (by decide) ?_
        refine lv_icmp_ge (tgt := 61) hx hb d_Side_tick_54 (by decide) (fun c_4 => ?_) (fun c_4 => ?_)
        · skip
          refine lv_iconst (v := (0 : Int32)) hx hb d_Side_tick_61 (by decide) ?_
          refine hk_put (w2 := wS a0 (f_Side_tick_62 U3)) (v := .int (0 : Int32)) (ty := .boolean) C hP hD hS 0 0 0 i_Side t_Side_ok n_Side rfl rfl (by decide) (hk_in (by decide +kernel) rfl) rfl (by decide +kernel) (hk_nb (Or.inl rfl)) (hk_fb (Or.inl rfl)) (Nat.le_of_ble_eq_true rfl) rfl d_Side_tick_62 (fun H locs hP hD hS => ?_)
          generalize hU5 : (f_Side_tick_62 U3) = U5 at hP hD
          subst hU1 hU2 hU3 hU5
          have e : m_Side_tick p1 p2 u = (f_Side_tick_62 (f_Side_tick_41 (f_Side_tick_31 (f_Side_tick_15 u)))) := (if_neg c_1).trans ((if_neg c_2).trans ((if_pos c_3).trans ((if_pos c_4).trans (rfl))))
          exact hk_rv C hAe hP hD hS (by rw [e]) d_Side_tick_65
        · skip
          refine lv_iconst (v := (1 : Int32)) hx hb d_Side_tick_57 (by decide) ?_
          refine lv_goto (tgt := 62) hx hb d_Side_tick_58 (by decide) ?_
          refine hk_put (w2 := wS a0 (f_Side_tick_62_1 U3)) (v := .int (1 : Int32)) (ty := .boolean) C hP hD hS 0 0 0 i_Side t_Side_ok n_Side rfl rfl (by decide) (hk_in (by decide +kernel) rfl) rfl (by decide +kernel) (hk_nb (Or.inr rfl)) (hk_fb (Or.inr rfl)) (Nat.le_of_ble_eq_true rfl) rfl d_Side_tick_62 (fun H locs hP hD hS => ?_)
          generalize hU6 : (f_Side_tick_62_1 U3) = U6 at hP hD
          subst hU1 hU2 hU3 hU6
          have e : m_Side_tick p1 p2 u = (f_Side_tick_62_1 (f_Side_tick_41 (f_Side_tick_31 (f_Side_tick_15 u)))) := (if_neg c_1).trans ((if_neg c_2).trans ((if_pos c_3).trans ((if_neg c_4).trans (rfl))))
          exact hk_rv C hAe hP hD hS (by rw [e]) d_Side_tick_65
  · skip
    have e : m_Side_tick p1 p2 u = u := (if_pos c_1).trans (rfl)
    exact hk_rv C hAe hP hD hS (by rw [e]) d_Side_tick_7
theorem Y_Side_isBright : hk_Y y_Side_isBright b_Side_isBright 2 (some .boolean) 1 := ⟨hk_in (by decide +kernel) rfl, hk_in (by decide +kernel) rfl, hk_in (by decide +kernel) rfl, hk_in (List.mem_of_getElem? (i := 247) rfl) rfl, by decide, by decide, by decide +kernel⟩
abbrev rm_Side_isBright : Room := { frames := 1, cells := 0, slots := 0, locals := 20 }
set_option maxHeartbeats 4000000 in
set_option maxRecDepth 100000 in
theorem c_Side_isBright (l : Launch) (G : hk_G) (a0 : Nat) (u : cS) (p1 : Int32) : hk_I l G y_Side_isBright b_Side_isBright 2 (some .boolean) rm_Side_isBright [.ref a0, .int p1] (wS a0 u) (m_Side_isBright p1 u) (wS a0 u) := by
  refine hk_I_of (by decide) (Nat.le_of_ble_eq_true rfl) ?_
  intro p e s m below meth c A ls C hAe hA hP hD hS hl
  have hx := C.1
  have hb := C.2.1
  have hown := C.2.2.2.2.1
  have hts := C.2.2.2.2.2.1
  have hE := C.2.2.2.2.2.2.2
  have hl : lv_has ls 2 [(0, .ref a0), (1, .int p1)] := hl
  refine lv_aload_n hx hb d_Side_isBright_0 rfl (lv_at hl 0 rfl) ?_
  refine hk_get (v := .int u.1) C hP 0 0 0 i_Side rfl rfl (by decide) (hk_in (by decide +kernel) rfl) rfl d_Side_isBright_1 ?_
  refine lv_if_eq (tgt := 24) hx hb d_Side_isBright_4 (by decide) (fun c_1 => ?_) (fun c_1 => ?_)
  · skip
    refine lv_iconst (v := (0 : Int32)) hx hb d_Side_isBright_24 (by decide) ?_
    have e : m_Side_isBright p1 u = (0 : Int32) := (if_pos c_1).trans (rfl)
    exact hk_rz C hAe hP hD hS (Or.inl rfl) e.symm rfl d_Side_isBright_25
  · skip
    refine lv_aload_n hx hb d_Side_isBright_7 rfl (lv_at hl 0 rfl) ?_
    refine hk_get (v := .int u.2.1) C hP 0 0 1 i_Side rfl rfl (by decide) (hk_in (by decide +kernel) rfl) rfl d_Side_isBright_8 ?_
    refine lv_iload_n hx hb d_Side_isBright_11 rfl (lv_at hl 1 rfl) ?_
    refine hk_goIe (hk_kS (k := 1) (As := [.int p1]) (rest := [.int u.2.1]) C (c_Side_period l G p1 _) Y_Side_period (hk_in (by decide +kernel) rfl) rfl rfl ⟨Nat.le_of_ble_eq_true rfl, Nat.le_of_ble_eq_true rfl⟩ hk_Pn (hk_Dn (A := A)) rfl hl.1 rfl (Nat.le_of_ble_eq_true rfl) d_Side_isBright_12 ⟨Nat.zero_le _, Nat.zero_le _⟩) hP hS hA (fun H locs hP hS => ?_)
    refine lv_iconst (v := (2 : Int32)) hx hb d_Side_isBright_15 (by decide) ?_
    refine lv_idiv hx hb d_Side_isBright_16 (by decide) ?_
    refine lv_icmp_ge (tgt := 24) hx hb d_Side_isBright_17 (by decide) (fun c_2 => ?_) (fun c_2 => ?_)
    · skip
      refine lv_iconst (v := (0 : Int32)) hx hb d_Side_isBright_24 (by decide) ?_
      have e : m_Side_isBright p1 u = (0 : Int32) := (if_neg c_1).trans ((if_pos c_2).trans (rfl))
      exact hk_rz C hAe hP hD hS (Or.inl rfl) e.symm rfl d_Side_isBright_25
    · skip
      refine lv_iconst (v := (1 : Int32)) hx hb d_Side_isBright_20 (by decide) ?_
      refine lv_goto (tgt := 25) hx hb d_Side_isBright_21 (by decide) ?_
      have e : m_Side_isBright p1 u = (1 : Int32) := (if_neg c_1).trans ((if_neg c_2).trans (rfl))
      exact hk_rz C hAe hP hD hS (Or.inr rfl) e.symm rfl d_Side_isBright_25
theorem Y_Wiper_staysParked : hk_Y y_Wiper_staysParked b_Wiper_staysParked 2 (some .boolean) 1 := ⟨hk_in (by decide +kernel) rfl, hk_in (by decide +kernel) rfl, hk_in (by decide +kernel) rfl, hk_in (List.mem_of_getElem? (i := 306) rfl) rfl, by decide, by decide, by decide +kernel⟩
abbrev rm_Wiper_staysParked : Room := { frames := 0, cells := 0, slots := 0, locals := 0 }
set_option maxHeartbeats 4000000 in
set_option maxRecDepth 100000 in
theorem c_Wiper_staysParked (l : Launch) (G : hk_G) (a0 : Nat) (u : cS) (p1 : Int32) : hk_I l G y_Wiper_staysParked b_Wiper_staysParked 2 (some .boolean) rm_Wiper_staysParked [.ref a0, .int p1] (wP a0 u) ((m_Wiper_staysParked p1 u).1) (wP a0 ((m_Wiper_staysParked p1 u).2)) := by
  refine hk_I_of (by decide) (Nat.le_of_ble_eq_true rfl) ?_
  intro p e s m below meth c A ls C hAe hA hP hD hS hl
  have hx := C.1
  have hb := C.2.1
  have hown := C.2.2.2.2.1
  have hts := C.2.2.2.2.2.1
  have hE := C.2.2.2.2.2.2.2
  have hl : lv_has ls 2 [(0, .ref a0), (1, .int p1)] := hl
  refine lv_iload_n hx hb d_Wiper_staysParked_0 rfl (lv_at hl 1 rfl) ?_
  refine lv_if_ne (tgt := 11) hx hb d_Wiper_staysParked_1 (by decide) (fun c_1 => ?_) (fun c_1 => ?_)
  · skip
    refine lv_aload_n hx hb d_Wiper_staysParked_11 rfl (lv_at hl 0 rfl) ?_
    refine hk_get (v := .int u.2.1) C hP 0 1 1 i_Wiper rfl rfl (by decide) (hk_in (by decide +kernel) rfl) rfl d_Wiper_staysParked_12 ?_
    refine lv_if_le (tgt := 30) hx hb d_Wiper_staysParked_15 (by decide) (fun c_2 => ?_) (fun c_2 => ?_)
    · skip
      refine lv_iconst (v := (0 : Int32)) hx hb d_Wiper_staysParked_30 (by decide) ?_
      have e : m_Wiper_staysParked p1 u = ((0 : Int32), u) := (if_neg c_1).trans ((if_pos c_2).trans (rfl))
      exact hk_rz C hAe hP hD hS (Or.inl rfl) (by rw [e]) (by rw [e]) d_Wiper_staysParked_31
    · skip
      refine lv_aload_n hx hb d_Wiper_staysParked_18 rfl (lv_at hl 0 rfl) ?_
      refine lv_dup hx hb d_Wiper_staysParked_19 rfl ?_
      refine hk_get (v := .int u.2.1) C hP 0 1 1 i_Wiper rfl rfl (by decide) (hk_in (by decide +kernel) rfl) rfl d_Wiper_staysParked_20 ?_
      refine lv_iconst (v := (1 : Int32)) hx hb d_Wiper_staysParked_23 (by decide) ?_
      refine lv_isub hx hb d_Wiper_staysParked_24 ?_
      refine hk_put (w2 := wP a0 (f_Wiper_staysParked_25 u)) (v := .int (u.2.1 - (1 : Int32))) (ty := .int) C hP hD hS 0 1 1 i_Wiper t_Wiper_ok n_Wiper rfl rfl (by decide) (hk_in (by decide +kernel) rfl) rfl (by decide +kernel) rfl rfl (Nat.le_of_ble_eq_true rfl) rfl d_Wiper_staysParked_25 (fun H locs hP hD hS => ?_)
      generalize hU1 : (f_Wiper_staysParked_25 u) = U1 at hP hD
      refine lv_iconst (v := (1 : Int32)) hx hb d_Wiper_staysParked_28 (by decide) ?_
      subst hU1
      have e : m_Wiper_staysParked p1 u = ((1 : Int32), (f_Wiper_staysParked_25 u)) := (if_neg c_1).trans ((if_neg c_2).trans (rfl))
      exact hk_rz C hAe hP hD hS (Or.inr rfl) (by rw [e]) (by rw [e]) d_Wiper_staysParked_29
  · skip
    refine lv_aload_n hx hb d_Wiper_staysParked_4 rfl (lv_at hl 0 rfl) ?_
    refine lv_iconst (v := (0 : Int32)) hx hb d_Wiper_staysParked_5 (by decide) ?_
    refine hk_put (w2 := wP a0 (f_Wiper_staysParked_6 u)) (v := .int (0 : Int32)) (ty := .int) C hP hD hS 0 1 1 i_Wiper t_Wiper_ok n_Wiper rfl rfl (by decide) (hk_in (by decide +kernel) rfl) rfl (by decide +kernel) rfl rfl (Nat.le_of_ble_eq_true rfl) rfl d_Wiper_staysParked_6 (fun H locs hP hD hS => ?_)
    generalize hU2 : (f_Wiper_staysParked_6 u) = U2 at hP hD
    refine lv_iconst (v := (1 : Int32)) hx hb d_Wiper_staysParked_9 (by decide) ?_
    subst hU2
    have e : m_Wiper_staysParked p1 u = ((1 : Int32), (f_Wiper_staysParked_6 u)) := (if_pos c_1).trans (rfl)
    exact hk_rz C hAe hP hD hS (Or.inr rfl) (by rw [e]) (by rw [e]) d_Wiper_staysParked_10
theorem Y_Wiper_tick : hk_Y y_Wiper_tick b_Wiper_tick 3 none 2 := ⟨hk_in (by decide +kernel) rfl, hk_in (by decide +kernel) rfl, hk_in (by decide +kernel) rfl, hk_in (List.mem_of_getElem? (i := 302) rfl) rfl, by decide, by decide, by decide +kernel⟩
abbrev rm_Wiper_tick : Room := { frames := 1, cells := 0, slots := 0, locals := 21 }
set_option maxHeartbeats 4000000 in
set_option maxRecDepth 100000 in
theorem c_Wiper_tick (l : Launch) (G : hk_G) (a0 : Nat) (u : cS) (p1 : Int32) (p2 : Int32) : hk_V l G y_Wiper_tick b_Wiper_tick 3 rm_Wiper_tick [.ref a0, .int p1, .int p2] (wP a0 u) (wP a0 (m_Wiper_tick p1 p2 u)) := by
  refine hk_V_of (by decide) (Nat.le_of_ble_eq_true rfl) ?_
  intro p e s m below meth c A ls C hAe hA hP hD hS hl
  have hx := C.1
  have hb := C.2.1
  have hown := C.2.2.2.2.1
  have hts := C.2.2.2.2.2.1
  have hE := C.2.2.2.2.2.2.2
  have hl : lv_has ls 3 [(0, .ref a0), (1, .int p1), (2, .int p2)] := hl
  refine lv_aload_n hx hb d_Wiper_tick_0 rfl (lv_at hl 0 rfl) ?_
  refine lv_iconst (v := (0 : Int32)) hx hb d_Wiper_tick_1 (by decide) ?_
  refine hk_put (w2 := wP a0 (f_Wiper_tick_2 u)) (v := .int (0 : Int32)) (ty := .int) C hP hD hS 0 1 2 i_Wiper t_Wiper_ok n_Wiper rfl rfl (by decide) (hk_in (by decide +kernel) rfl) rfl (by decide +kernel) rfl rfl (Nat.le_of_ble_eq_true rfl) rfl d_Wiper_tick_2 (fun H locs hP hD hS => ?_)
  generalize hU1 : (f_Wiper_tick_2 u) = U1 at hP hD
  refine lv_aload_n hx hb d_Wiper_tick_5 rfl (lv_at hl 0 rfl) ?_
  refine hk_get (v := .int U1.1) C hP 0 1 0 i_Wiper rfl rfl (by decide) (hk_in (by decide +kernel) rfl) rfl d_Wiper_tick_6 ?_
  refine lv_if_ne (tgt := 21) hx hb d_Wiper_tick_9 (by decide) (fun c_1 => ?_) (fun c_1 => ?_)
  · skip
    refine lv_aload_n hx hb d_Wiper_tick_21 rfl (lv_at hl 0 rfl) ?_
    refine lv_iload_n hx hb d_Wiper_tick_22 rfl (lv_at hl 1 rfl) ?_
    refine lv_iconst (v := (1 : Int32)) hx hb d_Wiper_tick_23 (by decide) ?_
    refine hk_mmax C (hk_in (by decide +kernel) rfl) (Nat.le_of_ble_eq_true rfl) (Nat.le_of_ble_eq_true rfl) (Nat.zero_le _) (Nat.zero_le _) hl.1 d_Wiper_tick_24 ?_
    refine hk_put (w2 := wP a0 (f_Wiper_tick_27 p1 U1)) (v := .int (mx p1 (1 : Int32))) (ty := .int) C hP hD hS 0 1 2 i_Wiper t_Wiper_ok n_Wiper rfl rfl (by decide) (hk_in (by decide +kernel) rfl) rfl (by decide +kernel) rfl rfl (Nat.le_of_ble_eq_true rfl) rfl d_Wiper_tick_27 (fun H locs hP hD hS => ?_)
    generalize hU2 : (f_Wiper_tick_27 p1 U1) = U2 at hP hD
    refine lv_aload_n hx hb d_Wiper_tick_30 rfl (lv_at hl 0 rfl) ?_
    refine lv_dup hx hb d_Wiper_tick_31 rfl ?_
    refine hk_get (v := .int U2.1) C hP 0 1 0 i_Wiper rfl rfl (by decide) (hk_in (by decide +kernel) rfl) rfl d_Wiper_tick_32 ?_
    refine lv_aload_n hx hb d_Wiper_tick_35 rfl (lv_at hl 0 rfl) ?_
    refine hk_get (v := .int U2.2.2) C hP 0 1 2 i_Wiper rfl rfl (by decide) (hk_in (by decide +kernel) rfl) rfl d_Wiper_tick_36 ?_
    refine lv_iadd hx hb d_Wiper_tick_39 ?_
    refine hk_put (w2 := wP a0 (f_Wiper_tick_40 U2)) (v := .int (U2.1 + U2.2.2)) (ty := .int) C hP hD hS 0 1 0 i_Wiper t_Wiper_ok n_Wiper rfl rfl (by decide) (hk_in (by decide +kernel) rfl) rfl (by decide +kernel) rfl rfl (Nat.le_of_ble_eq_true rfl) rfl d_Wiper_tick_40 (fun H locs hP hD hS => ?_)
    generalize hU3 : (f_Wiper_tick_40 U2) = U3 at hP hD
    refine lv_aload_n hx hb d_Wiper_tick_43 rfl (lv_at hl 0 rfl) ?_
    refine hk_get (v := .int U3.1) C hP 0 1 0 i_Wiper rfl rfl (by decide) (hk_in (by decide +kernel) rfl) rfl d_Wiper_tick_44 ?_
    refine lv_bipush (v := (100 : Int32)) hx hb d_Wiper_tick_47 (by decide) ?_
    refine lv_icmp_lt (tgt := 62) hx hb d_Wiper_tick_49 (by decide) (fun c_2 => ?_) (fun c_2 => ?_)
    · skip
      subst hU1 hU2 hU3
      have e : m_Wiper_tick p1 p2 u = (f_Wiper_tick_40 (f_Wiper_tick_27 p1 (f_Wiper_tick_2 u))) := (if_neg c_1).trans ((if_pos c_2).trans (rfl))
      exact hk_rv C hAe hP hD hS (by rw [e]) d_Wiper_tick_62
    · skip
      refine lv_aload_n hx hb d_Wiper_tick_52 rfl (lv_at hl 0 rfl) ?_
      refine lv_iconst (v := (0 : Int32)) hx hb d_Wiper_tick_53 (by decide) ?_
      refine hk_put (w2 := wP a0 (f_Wiper_tick_54 U3)) (v := .int (0 : Int32)) (ty := .int) C hP hD hS 0 1 0 i_Wiper t_Wiper_ok n_Wiper rfl rfl (by decide) (hk_in (by decide +kernel) rfl) rfl (by decide +kernel) rfl rfl (Nat.le_of_ble_eq_true rfl) rfl d_Wiper_tick_54 (fun H locs hP hD hS => ?_)
      generalize hU4 : (f_Wiper_tick_54 U3) = U4 at hP hD
      refine lv_aload_n hx hb d_Wiper_tick_57 rfl (lv_at hl 0 rfl) ?_
      refine lv_iload_n hx hb d_Wiper_tick_58 rfl (lv_at hl 2 rfl) ?_
      refine hk_put (w2 := wP a0 (f_Wiper_tick_59 p2 U4)) (v := .int p2) (ty := .int) C hP hD hS 0 1 1 i_Wiper t_Wiper_ok n_Wiper rfl rfl (by decide) (hk_in (by decide +kernel) rfl) rfl (by decide +kernel) rfl rfl (Nat.le_of_ble_eq_true rfl) rfl d_Wiper_tick_59 (fun H locs hP hD hS => ?_)
      generalize hU5 : (f_Wiper_tick_59 p2 U4) = U5 at hP hD
      subst hU1 hU2 hU3 hU4 hU5
      have e : m_Wiper_tick p1 p2 u = (f_Wiper_tick_59 p2 (f_Wiper_tick_54 (f_Wiper_tick_40 (f_Wiper_tick_27 p1 (f_Wiper_tick_2 u))))) := (if_neg c_1).trans ((if_neg c_2).trans (rfl))
      exact hk_rv C hAe hP hD hS (by rw [e]) d_Wiper_tick_62
  · skip
    refine lv_aload_n hx hb d_Wiper_tick_12 rfl (lv_at hl 0 rfl) ?_
    refine lv_iload_n hx hb d_Wiper_tick_13 rfl (lv_at hl 1 rfl) ?_
    refine hk_goI (hk_kV (k := 1) (As := [.int p1]) (rest := []) C (c_Wiper_staysParked l G a0 U1 p1 _) Y_Wiper_staysParked (hk_in (by decide +kernel) rfl) rfl rfl ⟨Nat.le_of_ble_eq_true rfl, Nat.le_of_ble_eq_true rfl⟩ (va_recv hE.1 hP (ci := 1) (q0 := 0) rfl rfl) hP hD rfl hl.1 rfl (Nat.le_of_ble_eq_true rfl) d_Wiper_tick_14 ⟨Nat.zero_le _, Nat.zero_le _⟩) hD hS hA (fun H locs hP hD hS => ?_)
    generalize hU6 : (m_Wiper_staysParked p1 U1).2 = U6 at hP hD
    refine lv_if_eq (tgt := 21) hx hb d_Wiper_tick_17 (by decide) (fun c_3 => ?_) (fun c_3 => ?_)
    · skip
      refine lv_aload_n hx hb d_Wiper_tick_21 rfl (lv_at hl 0 rfl) ?_
      refine lv_iload_n hx hb d_Wiper_tick_22 rfl (lv_at hl 1 rfl) ?_
      refine lv_iconst (v := (1 : Int32)) hx hb d_Wiper_tick_23 (by decide) ?_
      refine hk_mmax C (hk_in (by decide +kernel) rfl) (Nat.le_of_ble_eq_true rfl) (Nat.le_of_ble_eq_true rfl) (Nat.zero_le _) (Nat.zero_le _) hl.1 d_Wiper_tick_24 ?_
      refine hk_put (w2 := wP a0 (f_Wiper_tick_27 p1 U6)) (v := .int (mx p1 (1 : Int32))) (ty := .int) C hP hD hS 0 1 2 i_Wiper t_Wiper_ok n_Wiper rfl rfl (by decide) (hk_in (by decide +kernel) rfl) rfl (by decide +kernel) rfl rfl (Nat.le_of_ble_eq_true rfl) rfl d_Wiper_tick_27 (fun H locs hP hD hS => ?_)
      generalize hU7 : (f_Wiper_tick_27 p1 U6) = U7 at hP hD
      refine lv_aload_n hx hb d_Wiper_tick_30 rfl (lv_at hl 0 rfl) ?_
      refine lv_dup hx hb d_Wiper_tick_31 rfl ?_
      refine hk_get (v := .int U7.1) C hP 0 1 0 i_Wiper rfl rfl (by decide) (hk_in (by decide +kernel) rfl) rfl d_Wiper_tick_32 ?_
      refine lv_aload_n hx hb d_Wiper_tick_35 rfl (lv_at hl 0 rfl) ?_
      refine hk_get (v := .int U7.2.2) C hP 0 1 2 i_Wiper rfl rfl (by decide) (hk_in (by decide +kernel) rfl) rfl d_Wiper_tick_36 ?_
      refine lv_iadd hx hb d_Wiper_tick_39 ?_
      refine hk_put (w2 := wP a0 (f_Wiper_tick_40 U7)) (v := .int (U7.1 + U7.2.2)) (ty := .int) C hP hD hS 0 1 0 i_Wiper t_Wiper_ok n_Wiper rfl rfl (by decide) (hk_in (by decide +kernel) rfl) rfl (by decide +kernel) rfl rfl (Nat.le_of_ble_eq_true rfl) rfl d_Wiper_tick_40 (fun H locs hP hD hS => ?_)
      generalize hU8 : (f_Wiper_tick_40 U7) = U8 at hP hD
      refine lv_aload_n hx hb d_Wiper_tick_43 rfl (lv_at hl 0 rfl) ?_
      refine hk_get (v := .int U8.1) C hP 0 1 0 i_Wiper rfl rfl (by decide) (hk_in (by decide +kernel) rfl) rfl d_Wiper_tick_44 ?_
      refine lv_bipush (v := (100 : Int32)) hx hb d_Wiper_tick_47 (by decide) ?_
      refine lv_icmp_lt (tgt := 62) hx hb d_Wiper_tick_49 (by decide) (fun c_4 => ?_) (fun c_4 => ?_)
      · skip
        subst hU1 hU6 hU7 hU8
        have e : m_Wiper_tick p1 p2 u = (f_Wiper_tick_40 (f_Wiper_tick_27 p1 (m_Wiper_staysParked p1 (f_Wiper_tick_2 u)).2)) := (if_pos c_1).trans ((if_pos c_3).trans ((if_pos c_4).trans (rfl)))
        exact hk_rv C hAe hP hD hS (by rw [e]) d_Wiper_tick_62
      · skip
        refine lv_aload_n hx hb d_Wiper_tick_52 rfl (lv_at hl 0 rfl) ?_
        refine lv_iconst (v := (0 : Int32)) hx hb d_Wiper_tick_53 (by decide) ?_
        refine hk_put (w2 := wP a0 (f_Wiper_tick_54 U8)) (v := .int (0 : Int32)) (ty := .int) C hP hD hS 0 1 0 i_Wiper t_Wiper_ok n_Wiper rfl rfl (by decide) (hk_in (by decide +kernel) rfl) rfl (by decide +kernel) rfl rfl (Nat.le_of_ble_eq_true rfl) rfl d_Wiper_tick_54 (fun H locs hP hD hS => ?_)
        generalize hU9 : (f_Wiper_tick_54 U8) = U9 at hP hD
        refine lv_aload_n hx hb d_Wiper_tick_57 rfl (lv_at hl 0 rfl) ?_
        refine lv_iload_n hx hb d_Wiper_tick_58 rfl (lv_at hl 2 rfl) ?_
        refine hk_put (w2 := wP a0 (f_Wiper_tick_59 p2 U9)) (v := .int p2) (ty := .int) C hP hD hS 0 1 1 i_Wiper t_Wiper_ok n_Wiper rfl rfl (by decide) (hk_in (by decide +kernel) rfl) rfl (by decide +kernel) rfl rfl (Nat.le_of_ble_eq_true rfl) rfl d_Wiper_tick_59 (fun H locs hP hD hS => ?_)
        generalize hU10 : (f_Wiper_tick_59 p2 U9) = U10 at hP hD
        subst hU1 hU6 hU7 hU8 hU9 hU10
        have e : m_Wiper_tick p1 p2 u = (f_Wiper_tick_59 p2 (f_Wiper_tick_54 (f_Wiper_tick_40 (f_Wiper_tick_27 p1 (m_Wiper_staysParked p1 (f_Wiper_tick_2 u)).2)))) := (if_pos c_1).trans ((if_pos c_3).trans ((if_neg c_4).trans (rfl)))
        exact hk_rv C hAe hP hD hS (by rw [e]) d_Wiper_tick_62
    · skip
      subst hU1 hU6
      have e : m_Wiper_tick p1 p2 u = (m_Wiper_staysParked p1 (f_Wiper_tick_2 u)).2 := (if_pos c_1).trans ((if_neg c_3).trans (rfl))
      exact hk_rv C hAe hP hD hS (by rw [e]) d_Wiper_tick_20
theorem Y_Window_speed : hk_Y y_Window_speed b_Window_speed 1 (some .int) 0 := ⟨hk_in (by decide +kernel) rfl, hk_in (by decide +kernel) rfl, hk_in (by decide +kernel) rfl, hk_in (List.mem_of_getElem? (i := 325) rfl) rfl, by decide, by decide, by decide +kernel⟩
abbrev rm_Window_speed : Room := { frames := 0, cells := 0, slots := 0, locals := 0 }
set_option maxHeartbeats 4000000 in
set_option maxRecDepth 100000 in
theorem c_Window_speed (l : Launch) (G : hk_G) (a0 : Nat) (u : cS) : hk_I l G y_Window_speed b_Window_speed 1 (some .int) rm_Window_speed [.ref a0] (wN a0 u) (m_Window_speed u) (wN a0 u) := by
  refine hk_I_of (by decide) (Nat.le_of_ble_eq_true rfl) ?_
  intro p e s m below meth c A ls C hAe hA hP hD hS hl
  have hx := C.1
  have hb := C.2.1
  have hown := C.2.2.2.2.1
  have hts := C.2.2.2.2.2.1
  have hE := C.2.2.2.2.2.2.2
  have hl : lv_has ls 1 [(0, .ref a0)] := hl
  refine lv_aload_n hx hb d_Window_speed_0 rfl (lv_at hl 0 rfl) ?_
  refine hk_get (v := .int u.2.2) C hP 0 2 2 i_Window rfl rfl (by decide) (hk_in (by decide +kernel) rfl) rfl d_Window_speed_1 ?_
  refine lv_if_eq (tgt := 11) hx hb d_Window_speed_4 (by decide) (fun c_1 => ?_) (fun c_1 => ?_)
  · skip
    refine lv_iconst (v := (1 : Int32)) hx hb d_Window_speed_11 (by decide) ?_
    have e : m_Window_speed u = (1 : Int32) := (if_pos c_1).trans (rfl)
    exact hk_ri C hAe hP hD hS e.symm rfl d_Window_speed_12
  · skip
    refine lv_iconst (v := (2 : Int32)) hx hb d_Window_speed_7 (by decide) ?_
    refine lv_goto (tgt := 12) hx hb d_Window_speed_8 (by decide) ?_
    have e : m_Window_speed u = (2 : Int32) := (if_neg c_1).trans (rfl)
    exact hk_ri C hAe hP hD hS e.symm rfl d_Window_speed_12
theorem Y_Window_tick : hk_Y y_Window_tick b_Window_tick 1 none 0 := ⟨hk_in (by decide +kernel) rfl, hk_in (by decide +kernel) rfl, hk_in (by decide +kernel) rfl, hk_in (List.mem_of_getElem? (i := 321) rfl) rfl, by decide, by decide, by decide +kernel⟩
abbrev rm_Window_tick : Room := { frames := 1, cells := 0, slots := 0, locals := 21 }
set_option maxHeartbeats 4000000 in
set_option maxRecDepth 100000 in
theorem c_Window_tick (l : Launch) (G : hk_G) (a0 : Nat) (u : cS) : hk_V l G y_Window_tick b_Window_tick 1 rm_Window_tick [.ref a0] (wN a0 u) (wN a0 (m_Window_tick u)) := by
  refine hk_V_of (by decide) (Nat.le_of_ble_eq_true rfl) ?_
  intro p e s m below meth c A ls C hAe hA hP hD hS hl
  have hx := C.1
  have hb := C.2.1
  have hown := C.2.2.2.2.1
  have hts := C.2.2.2.2.2.1
  have hE := C.2.2.2.2.2.2.2
  have hl : lv_has ls 1 [(0, .ref a0)] := hl
  refine lv_aload_n hx hb d_Window_tick_0 rfl (lv_at hl 0 rfl) ?_
  refine hk_get (v := .int u.1) C hP 0 2 0 i_Window rfl rfl (by decide) (hk_in (by decide +kernel) rfl) rfl d_Window_tick_1 ?_
  refine lv_aload_n hx hb d_Window_tick_4 rfl (lv_at hl 0 rfl) ?_
  refine hk_get (v := .int u.2.1) C hP 0 2 1 i_Window rfl rfl (by decide) (hk_in (by decide +kernel) rfl) rfl d_Window_tick_5 ?_
  refine lv_icmp_ge (tgt := 34) hx hb d_Window_tick_8 (by decide) (fun c_1 => ?_) (fun c_1 => ?_)
  · skip
    refine lv_aload_n hx hb d_Window_tick_34 rfl (lv_at hl 0 rfl) ?_
    refine lv_aload_n hx hb d_Window_tick_35 rfl (lv_at hl 0 rfl) ?_
    refine hk_get (v := .int u.1) C hP 0 2 0 i_Window rfl rfl (by decide) (hk_in (by decide +kernel) rfl) rfl d_Window_tick_36 ?_
    refine lv_aload_n hx hb d_Window_tick_39 rfl (lv_at hl 0 rfl) ?_
    refine hk_goI (hk_kV (k := 0) (As := []) (rest := [.int u.1, .ref a0]) C (c_Window_speed l G a0 u _) Y_Window_speed (hk_in (by decide +kernel) rfl) rfl rfl ⟨Nat.le_of_ble_eq_true rfl, Nat.le_of_ble_eq_true rfl⟩ (va_recv hE.1 hP (ci := 2) (q0 := 0) rfl rfl) hP hD rfl hl.1 rfl (Nat.le_of_ble_eq_true rfl) d_Window_tick_40 ⟨Nat.zero_le _, Nat.zero_le _⟩) hD hS hA (fun H locs hP hD hS => ?_)
    refine lv_isub hx hb d_Window_tick_43 ?_
    refine lv_aload_n hx hb d_Window_tick_44 rfl (lv_at hl 0 rfl) ?_
    refine hk_get (v := .int u.2.1) C hP 0 2 1 i_Window rfl rfl (by decide) (hk_in (by decide +kernel) rfl) rfl d_Window_tick_45 ?_
    refine hk_mmax C (hk_in (by decide +kernel) rfl) (Nat.le_of_ble_eq_true rfl) (Nat.le_of_ble_eq_true rfl) (Nat.zero_le _) (Nat.zero_le _) hl.1 d_Window_tick_48 ?_
    refine hk_put (w2 := wN a0 (f_Window_tick_51 u)) (v := .int (mx (u.1 - (m_Window_speed u)) u.2.1)) (ty := .int) C hP hD hS 0 2 0 i_Window t_Window_ok n_Window rfl rfl (by decide) (hk_in (by decide +kernel) rfl) rfl (by decide +kernel) rfl rfl (Nat.le_of_ble_eq_true rfl) rfl d_Window_tick_51 (fun H locs hP hD hS => ?_)
    generalize hU1 : (f_Window_tick_51 u) = U1 at hP hD
    subst hU1
    have e : m_Window_tick u = (f_Window_tick_51 u) := (if_pos c_1).trans (rfl)
    exact hk_rv C hAe hP hD hS (by rw [e]) d_Window_tick_54
  · skip
    refine lv_aload_n hx hb d_Window_tick_11 rfl (lv_at hl 0 rfl) ?_
    refine lv_aload_n hx hb d_Window_tick_12 rfl (lv_at hl 0 rfl) ?_
    refine hk_get (v := .int u.1) C hP 0 2 0 i_Window rfl rfl (by decide) (hk_in (by decide +kernel) rfl) rfl d_Window_tick_13 ?_
    refine lv_aload_n hx hb d_Window_tick_16 rfl (lv_at hl 0 rfl) ?_
    refine hk_goI (hk_kV (k := 0) (As := []) (rest := [.int u.1, .ref a0]) C (c_Window_speed l G a0 u _) Y_Window_speed (hk_in (by decide +kernel) rfl) rfl rfl ⟨Nat.le_of_ble_eq_true rfl, Nat.le_of_ble_eq_true rfl⟩ (va_recv hE.1 hP (ci := 2) (q0 := 0) rfl rfl) hP hD rfl hl.1 rfl (Nat.le_of_ble_eq_true rfl) d_Window_tick_17 ⟨Nat.zero_le _, Nat.zero_le _⟩) hD hS hA (fun H locs hP hD hS => ?_)
    refine lv_iadd hx hb d_Window_tick_20 ?_
    refine lv_aload_n hx hb d_Window_tick_21 rfl (lv_at hl 0 rfl) ?_
    refine hk_get (v := .int u.2.1) C hP 0 2 1 i_Window rfl rfl (by decide) (hk_in (by decide +kernel) rfl) rfl d_Window_tick_22 ?_
    refine hk_mmin C (hk_in (by decide +kernel) rfl) (Nat.le_of_ble_eq_true rfl) (Nat.le_of_ble_eq_true rfl) (Nat.zero_le _) (Nat.zero_le _) hl.1 d_Window_tick_25 ?_
    refine hk_put (w2 := wN a0 (f_Window_tick_28 u)) (v := .int (mn (u.1 + (m_Window_speed u)) u.2.1)) (ty := .int) C hP hD hS 0 2 0 i_Window t_Window_ok n_Window rfl rfl (by decide) (hk_in (by decide +kernel) rfl) rfl (by decide +kernel) rfl rfl (Nat.le_of_ble_eq_true rfl) rfl d_Window_tick_28 (fun H locs hP hD hS => ?_)
    generalize hU2 : (f_Window_tick_28 u) = U2 at hP hD
    refine lv_goto (tgt := 54) hx hb d_Window_tick_31 (by decide) ?_
    subst hU2
    have e : m_Window_tick u = (f_Window_tick_28 u) := (if_neg c_1).trans (rfl)
    exact hk_rv C hAe hP hD hS (by rw [e]) d_Window_tick_54
theorem Y_Window_ticksToWish : hk_Y y_Window_ticksToWish b_Window_ticksToWish 2 (some .int) 0 := ⟨hk_in (by decide +kernel) rfl, hk_in (by decide +kernel) rfl, hk_in (by decide +kernel) rfl, hk_in (List.mem_of_getElem? (i := 411) rfl) rfl, by decide, by decide, by decide +kernel⟩
abbrev rm_Window_ticksToWish : Room := { frames := 1, cells := 0, slots := 0, locals := 21 }
set_option maxHeartbeats 4000000 in
set_option maxRecDepth 100000 in
theorem c_Window_ticksToWish (l : Launch) (G : hk_G) (a0 : Nat) (u : cS) : hk_I l G y_Window_ticksToWish b_Window_ticksToWish 2 (some .int) rm_Window_ticksToWish [.ref a0] (wN a0 u) (m_Window_ticksToWish u) (wN a0 u) := by
  refine hk_I_of (by decide) (Nat.le_of_ble_eq_true rfl) ?_
  intro p e s m below meth c A ls C hAe hA hP hD hS hl
  have hx := C.1
  have hb := C.2.1
  have hown := C.2.2.2.2.1
  have hts := C.2.2.2.2.2.1
  have hE := C.2.2.2.2.2.2.2
  have hl : lv_has ls 2 [(0, .ref a0)] := hl
  refine lv_aload_n hx hb d_Window_ticksToWish_0 rfl (lv_at hl 0 rfl) ?_
  refine hk_get (v := .int u.2.1) C hP 0 2 1 i_Window rfl rfl (by decide) (hk_in (by decide +kernel) rfl) rfl d_Window_ticksToWish_1 ?_
  refine lv_aload_n hx hb d_Window_ticksToWish_4 rfl (lv_at hl 0 rfl) ?_
  refine hk_get (v := .int u.1) C hP 0 2 0 i_Window rfl rfl (by decide) (hk_in (by decide +kernel) rfl) rfl d_Window_ticksToWish_5 ?_
  refine lv_isub hx hb d_Window_ticksToWish_8 ?_
  refine hk_mabs C (hk_in (by decide +kernel) rfl) (Nat.le_of_ble_eq_true rfl) (Nat.le_of_ble_eq_true rfl) (Nat.zero_le _) (Nat.zero_le _) hl.1 d_Window_ticksToWish_9 ?_
  refine lv_istore_n (lv' := [(1, .int (ab (u.2.1 - u.1))), (0, .ref a0)]) hx hb d_Window_ticksToWish_12 rfl hl (by decide) rfl (fun ls hl => ?_)
  refine lv_aload_n hx hb d_Window_ticksToWish_13 rfl (lv_at hl 1 rfl) ?_
  refine hk_get (v := .int u.2.2) C hP 0 2 2 i_Window rfl rfl (by decide) (hk_in (by decide +kernel) rfl) rfl d_Window_ticksToWish_14 ?_
  refine lv_if_eq (tgt := 28) hx hb d_Window_ticksToWish_17 (by decide) (fun c_1 => ?_) (fun c_1 => ?_)
  · skip
    refine lv_iload_n hx hb d_Window_ticksToWish_28 rfl (lv_at hl 0 rfl) ?_
    have e : m_Window_ticksToWish u = ab (u.2.1 - u.1) := (if_pos c_1).trans (rfl)
    exact hk_ri C hAe hP hD hS e.symm rfl d_Window_ticksToWish_29
  · skip
    refine lv_iload_n hx hb d_Window_ticksToWish_20 rfl (lv_at hl 0 rfl) ?_
    refine lv_iconst (v := (1 : Int32)) hx hb d_Window_ticksToWish_21 (by decide) ?_
    refine lv_iadd hx hb d_Window_ticksToWish_22 ?_
    refine lv_iconst (v := (2 : Int32)) hx hb d_Window_ticksToWish_23 (by decide) ?_
    refine lv_idiv hx hb d_Window_ticksToWish_24 (by decide) ?_
    refine lv_goto (tgt := 29) hx hb d_Window_ticksToWish_25 (by decide) ?_
    have e : m_Window_ticksToWish u = ((ab (u.2.1 - u.1)) + (1 : Int32)) / (2 : Int32) := (if_neg c_1).trans (rfl)
    exact hk_ri C hAe hP hD hS e.symm rfl d_Window_ticksToWish_29
theorem Y_Window_reverseAt : hk_Y y_Window_reverseAt b_Window_reverseAt 2 (some .boolean) 1 := ⟨hk_in (by decide +kernel) rfl, hk_in (by decide +kernel) rfl, hk_in (by decide +kernel) rfl, hk_in (List.mem_of_getElem? (i := 335) rfl) rfl, by decide, by decide, by decide +kernel⟩
abbrev rm_Window_reverseAt : Room := { frames := 1, cells := 0, slots := 0, locals := 21 }
set_option maxHeartbeats 4000000 in
set_option maxRecDepth 100000 in
theorem c_Window_reverseAt (l : Launch) (G : hk_G) (a0 : Nat) (u : cS) (p1 : Int32) : hk_I l G y_Window_reverseAt b_Window_reverseAt 2 (some .boolean) rm_Window_reverseAt [.ref a0, .int p1] (wN a0 u) ((m_Window_reverseAt p1 u).1) (wN a0 ((m_Window_reverseAt p1 u).2)) := by
  refine hk_I_of (by decide) (Nat.le_of_ble_eq_true rfl) ?_
  intro p e s m below meth c A ls C hAe hA hP hD hS hl
  have hx := C.1
  have hb := C.2.1
  have hown := C.2.2.2.2.1
  have hts := C.2.2.2.2.2.1
  have hE := C.2.2.2.2.2.2.2
  have hl : lv_has ls 2 [(0, .ref a0), (1, .int p1)] := hl
  refine lv_aload_n hx hb d_Window_reverseAt_0 rfl (lv_at hl 0 rfl) ?_
  refine hk_get (v := .int u.2.1) C hP 0 2 1 i_Window rfl rfl (by decide) (hk_in (by decide +kernel) rfl) rfl d_Window_reverseAt_1 ?_
  refine lv_aload_n hx hb d_Window_reverseAt_4 rfl (lv_at hl 0 rfl) ?_
  refine hk_get (v := .int u.1) C hP 0 2 0 i_Window rfl rfl (by decide) (hk_in (by decide +kernel) rfl) rfl d_Window_reverseAt_5 ?_
  refine lv_icmp_le (tgt := 17) hx hb d_Window_reverseAt_8 (by decide) (fun c_1 => ?_) (fun c_1 => ?_)
  · skip
    refine lv_iconst (v := (0 : Int32)) hx hb d_Window_reverseAt_17 (by decide) ?_
    have e : m_Window_reverseAt p1 u = ((0 : Int32), u) := (if_pos c_1).trans (rfl)
    exact hk_rz C hAe hP hD hS (Or.inl rfl) (by rw [e]) (by rw [e]) d_Window_reverseAt_18
  · skip
    refine lv_iload_n hx hb d_Window_reverseAt_11 rfl (lv_at hl 1 rfl) ?_
    refine lv_bipush (v := (100 : Int32)) hx hb d_Window_reverseAt_12 (by decide) ?_
    refine lv_icmp_gt (tgt := 19) hx hb d_Window_reverseAt_14 (by decide) (fun c_2 => ?_) (fun c_2 => ?_)
    · skip
      refine lv_aload_n hx hb d_Window_reverseAt_19 rfl (lv_at hl 0 rfl) ?_
      refine lv_aload_n hx hb d_Window_reverseAt_20 rfl (lv_at hl 0 rfl) ?_
      refine hk_get (v := .int u.1) C hP 0 2 0 i_Window rfl rfl (by decide) (hk_in (by decide +kernel) rfl) rfl d_Window_reverseAt_21 ?_
      refine lv_bipush (v := (60 : Int32)) hx hb d_Window_reverseAt_24 (by decide) ?_
      refine lv_isub hx hb d_Window_reverseAt_26 ?_
      refine lv_iconst (v := (0 : Int32)) hx hb d_Window_reverseAt_27 (by decide) ?_
      refine hk_mmax C (hk_in (by decide +kernel) rfl) (Nat.le_of_ble_eq_true rfl) (Nat.le_of_ble_eq_true rfl) (Nat.zero_le _) (Nat.zero_le _) hl.1 d_Window_reverseAt_28 ?_
      refine hk_put (w2 := wN a0 (f_Window_reverseAt_31 u)) (v := .int (mx (u.1 - (60 : Int32)) (0 : Int32))) (ty := .int) C hP hD hS 0 2 1 i_Window t_Window_ok n_Window rfl rfl (by decide) (hk_in (by decide +kernel) rfl) rfl (by decide +kernel) rfl rfl (Nat.le_of_ble_eq_true rfl) rfl d_Window_reverseAt_31 (fun H locs hP hD hS => ?_)
      generalize hU1 : (f_Window_reverseAt_31 u) = U1 at hP hD
      refine lv_iconst (v := (1 : Int32)) hx hb d_Window_reverseAt_34 (by decide) ?_
      subst hU1
      have e : m_Window_reverseAt p1 u = ((1 : Int32), (f_Window_reverseAt_31 u)) := (if_neg c_1).trans ((if_pos c_2).trans (rfl))
      exact hk_rz C hAe hP hD hS (Or.inr rfl) (by rw [e]) (by rw [e]) d_Window_reverseAt_35
    · skip
      refine lv_iconst (v := (0 : Int32)) hx hb d_Window_reverseAt_17 (by decide) ?_
      have e : m_Window_reverseAt p1 u = ((0 : Int32), u) := (if_neg c_1).trans ((if_neg c_2).trans (rfl))
      exact hk_rz C hAe hP hD hS (Or.inl rfl) (by rw [e]) (by rw [e]) d_Window_reverseAt_18
theorem Y_Window_learnAtEnd : hk_Y y_Window_learnAtEnd b_Window_learnAtEnd 2 (some .boolean) 0 := ⟨hk_in (by decide +kernel) rfl, hk_in (by decide +kernel) rfl, hk_in (by decide +kernel) rfl, hk_in (List.mem_of_getElem? (i := 343) rfl) rfl, by decide, by decide, by decide +kernel⟩
abbrev rm_Window_learnAtEnd : Room := { frames := 0, cells := 0, slots := 0, locals := 0 }
set_option maxHeartbeats 4000000 in
set_option maxRecDepth 100000 in
theorem c_Window_learnAtEnd (l : Launch) (G : hk_G) (a0 : Nat) (u : cS) : hk_I l G y_Window_learnAtEnd b_Window_learnAtEnd 2 (some .boolean) rm_Window_learnAtEnd [.ref a0] (wN a0 u) ((m_Window_learnAtEnd u).1) (wN a0 ((m_Window_learnAtEnd u).2)) := by
  refine hk_I_of (by decide) (Nat.le_of_ble_eq_true rfl) ?_
  intro p e s m below meth c A ls C hAe hA hP hD hS hl
  have hx := C.1
  have hb := C.2.1
  have hown := C.2.2.2.2.1
  have hts := C.2.2.2.2.2.1
  have hE := C.2.2.2.2.2.2.2
  have hl : lv_has ls 2 [(0, .ref a0)] := hl
  refine lv_aload_n hx hb d_Window_learnAtEnd_0 rfl (lv_at hl 0 rfl) ?_
  refine hk_get (v := .int u.1) C hP 0 2 0 i_Window rfl rfl (by decide) (hk_in (by decide +kernel) rfl) rfl d_Window_learnAtEnd_1 ?_
  refine lv_aload_n hx hb d_Window_learnAtEnd_4 rfl (lv_at hl 0 rfl) ?_
  refine hk_get (v := .int u.2.1) C hP 0 2 1 i_Window rfl rfl (by decide) (hk_in (by decide +kernel) rfl) rfl d_Window_learnAtEnd_5 ?_
  refine lv_icmp_ne (tgt := 32) hx hb d_Window_learnAtEnd_8 (by decide) (fun c_1 => ?_) (fun c_1 => ?_)
  · skip
    refine lv_iconst (v := (0 : Int32)) hx hb d_Window_learnAtEnd_32 (by decide) ?_
    refine lv_istore_n (lv' := [(1, .int (0 : Int32)), (0, .ref a0)]) hx hb d_Window_learnAtEnd_33 rfl hl (by decide) rfl (fun ls hl => ?_)
    refine lv_aload_n hx hb d_Window_learnAtEnd_34 rfl (lv_at hl 1 rfl) ?_
    refine lv_aload_n hx hb d_Window_learnAtEnd_35 rfl (lv_at hl 1 rfl) ?_
    refine hk_get (v := .int u.2.2) C hP 0 2 2 i_Window rfl rfl (by decide) (hk_in (by decide +kernel) rfl) rfl d_Window_learnAtEnd_36 ?_
    refine lv_if_ne (tgt := 46) hx hb d_Window_learnAtEnd_39 (by decide) (fun c_2 => ?_) (fun c_2 => ?_)
    · skip
      refine lv_iconst (v := (1 : Int32)) hx hb d_Window_learnAtEnd_46 (by decide) ?_
      refine lv_goto (tgt := 51) hx hb d_Window_learnAtEnd_47 (by decide) ?_
      refine hk_put (w2 := wN a0 (f_Window_learnAtEnd_51 u)) (v := .int (1 : Int32)) (ty := .boolean) C hP hD hS 0 2 2 i_Window t_Window_ok n_Window rfl rfl (by decide) (hk_in (by decide +kernel) rfl) rfl (by decide +kernel) (hk_nb (Or.inr rfl)) (hk_fb (Or.inr rfl)) (Nat.le_of_ble_eq_true rfl) rfl d_Window_learnAtEnd_51 (fun H locs hP hD hS => ?_)
      generalize hU1 : (f_Window_learnAtEnd_51 u) = U1 at hP hD
      refine lv_iload_n hx hb d_Window_learnAtEnd_54 rfl (lv_at hl 0 rfl) ?_
      subst hU1
      have e : m_Window_learnAtEnd u = ((0 : Int32), (f_Window_learnAtEnd_51 u)) := (if_neg c_1).trans ((if_neg c_2).trans (rfl))
      exact hk_rz C hAe hP hD hS (Or.inl rfl) (by rw [e]) (by rw [e]) d_Window_learnAtEnd_55
    · skip
      refine lv_iload_n hx hb d_Window_learnAtEnd_42 rfl (lv_at hl 0 rfl) ?_
      refine lv_if_eq (tgt := 50) hx hb d_Window_learnAtEnd_43 (by decide) (fun c_3 => ?_) (fun c_3 => absurd (by decide) c_3)
      refine lv_iconst (v := (0 : Int32)) hx hb d_Window_learnAtEnd_50 (by decide) ?_
      refine hk_put (w2 := wN a0 (f_Window_learnAtEnd_51_1 u)) (v := .int (0 : Int32)) (ty := .boolean) C hP hD hS 0 2 2 i_Window t_Window_ok n_Window rfl rfl (by decide) (hk_in (by decide +kernel) rfl) rfl (by decide +kernel) (hk_nb (Or.inl rfl)) (hk_fb (Or.inl rfl)) (Nat.le_of_ble_eq_true rfl) rfl d_Window_learnAtEnd_51 (fun H locs hP hD hS => ?_)
      generalize hU2 : (f_Window_learnAtEnd_51_1 u) = U2 at hP hD
      refine lv_iload_n hx hb d_Window_learnAtEnd_54 rfl (lv_at hl 0 rfl) ?_
      subst hU2
      have e : m_Window_learnAtEnd u = ((0 : Int32), (f_Window_learnAtEnd_51_1 u)) := (if_neg c_1).trans ((if_pos c_2).trans (rfl))
      exact hk_rz C hAe hP hD hS (Or.inl rfl) (by rw [e]) (by rw [e]) d_Window_learnAtEnd_55
  · skip
    refine lv_aload_n hx hb d_Window_learnAtEnd_11 rfl (lv_at hl 0 rfl) ?_
    refine hk_get (v := .int u.1) C hP 0 2 0 i_Window rfl rfl (by decide) (hk_in (by decide +kernel) rfl) rfl d_Window_learnAtEnd_12 ?_
    refine lv_if_eq (tgt := 28) hx hb d_Window_learnAtEnd_15 (by decide) (fun c_4 => ?_) (fun c_4 => ?_)
    · skip
      refine lv_iconst (v := (1 : Int32)) hx hb d_Window_learnAtEnd_28 (by decide) ?_
      refine lv_goto (tgt := 33) hx hb d_Window_learnAtEnd_29 (by decide) ?_
      refine lv_istore_n (lv' := [(1, .int (1 : Int32)), (0, .ref a0)]) hx hb d_Window_learnAtEnd_33 rfl hl (by decide) rfl (fun ls hl => ?_)
      refine lv_aload_n hx hb d_Window_learnAtEnd_34 rfl (lv_at hl 1 rfl) ?_
      refine lv_aload_n hx hb d_Window_learnAtEnd_35 rfl (lv_at hl 1 rfl) ?_
      refine hk_get (v := .int u.2.2) C hP 0 2 2 i_Window rfl rfl (by decide) (hk_in (by decide +kernel) rfl) rfl d_Window_learnAtEnd_36 ?_
      refine lv_if_ne (tgt := 46) hx hb d_Window_learnAtEnd_39 (by decide) (fun c_5 => ?_) (fun c_5 => ?_)
      · skip
        refine lv_iconst (v := (1 : Int32)) hx hb d_Window_learnAtEnd_46 (by decide) ?_
        refine lv_goto (tgt := 51) hx hb d_Window_learnAtEnd_47 (by decide) ?_
        refine hk_put (w2 := wN a0 (f_Window_learnAtEnd_51 u)) (v := .int (1 : Int32)) (ty := .boolean) C hP hD hS 0 2 2 i_Window t_Window_ok n_Window rfl rfl (by decide) (hk_in (by decide +kernel) rfl) rfl (by decide +kernel) (hk_nb (Or.inr rfl)) (hk_fb (Or.inr rfl)) (Nat.le_of_ble_eq_true rfl) rfl d_Window_learnAtEnd_51 (fun H locs hP hD hS => ?_)
        generalize hU3 : (f_Window_learnAtEnd_51 u) = U3 at hP hD
        refine lv_iload_n hx hb d_Window_learnAtEnd_54 rfl (lv_at hl 0 rfl) ?_
        subst hU3
        have e : m_Window_learnAtEnd u = ((1 : Int32), (f_Window_learnAtEnd_51 u)) := (if_pos c_1).trans ((if_pos c_4).trans ((if_neg c_5).trans (rfl)))
        exact hk_rz C hAe hP hD hS (Or.inr rfl) (by rw [e]) (by rw [e]) d_Window_learnAtEnd_55
      · skip
        refine lv_iload_n hx hb d_Window_learnAtEnd_42 rfl (lv_at hl 0 rfl) ?_
        refine lv_if_eq (tgt := 50) hx hb d_Window_learnAtEnd_43 (by decide) (fun c_6 => absurd c_6 (by decide)) (fun c_6 => ?_)
        refine lv_iconst (v := (1 : Int32)) hx hb d_Window_learnAtEnd_46 (by decide) ?_
        refine lv_goto (tgt := 51) hx hb d_Window_learnAtEnd_47 (by decide) ?_
        refine hk_put (w2 := wN a0 (f_Window_learnAtEnd_51 u)) (v := .int (1 : Int32)) (ty := .boolean) C hP hD hS 0 2 2 i_Window t_Window_ok n_Window rfl rfl (by decide) (hk_in (by decide +kernel) rfl) rfl (by decide +kernel) (hk_nb (Or.inr rfl)) (hk_fb (Or.inr rfl)) (Nat.le_of_ble_eq_true rfl) rfl d_Window_learnAtEnd_51 (fun H locs hP hD hS => ?_)
        generalize hU4 : (f_Window_learnAtEnd_51 u) = U4 at hP hD
        refine lv_iload_n hx hb d_Window_learnAtEnd_54 rfl (lv_at hl 0 rfl) ?_
        subst hU4
        have e : m_Window_learnAtEnd u = ((1 : Int32), (f_Window_learnAtEnd_51 u)) := (if_pos c_1).trans ((if_pos c_4).trans ((if_pos c_5).trans (rfl)))
        exact hk_rz C hAe hP hD hS (Or.inr rfl) (by rw [e]) (by rw [e]) d_Window_learnAtEnd_55
    · skip
      refine lv_aload_n hx hb d_Window_learnAtEnd_18 rfl (lv_at hl 0 rfl) ?_
      refine hk_get (v := .int u.1) C hP 0 2 0 i_Window rfl rfl (by decide) (hk_in (by decide +kernel) rfl) rfl d_Window_learnAtEnd_19 ?_
      refine lv_sipush (v := (200 : Int32)) hx hb d_Window_learnAtEnd_22 (by decide) ?_
      refine lv_icmp_ne (tgt := 32) hx hb d_Window_learnAtEnd_25 (by decide) (fun c_7 => ?_) (fun c_7 => ?_)
      · skip
        refine lv_iconst (v := (0 : Int32)) hx hb d_Window_learnAtEnd_32 (by decide) ?_
        refine lv_istore_n (lv' := [(1, .int (0 : Int32)), (0, .ref a0)]) hx hb d_Window_learnAtEnd_33 rfl hl (by decide) rfl (fun ls hl => ?_)
        refine lv_aload_n hx hb d_Window_learnAtEnd_34 rfl (lv_at hl 1 rfl) ?_
        refine lv_aload_n hx hb d_Window_learnAtEnd_35 rfl (lv_at hl 1 rfl) ?_
        refine hk_get (v := .int u.2.2) C hP 0 2 2 i_Window rfl rfl (by decide) (hk_in (by decide +kernel) rfl) rfl d_Window_learnAtEnd_36 ?_
        refine lv_if_ne (tgt := 46) hx hb d_Window_learnAtEnd_39 (by decide) (fun c_8 => ?_) (fun c_8 => ?_)
        · skip
          refine lv_iconst (v := (1 : Int32)) hx hb d_Window_learnAtEnd_46 (by decide) ?_
          refine lv_goto (tgt := 51) hx hb d_Window_learnAtEnd_47 (by decide) ?_
          refine hk_put (w2 := wN a0 (f_Window_learnAtEnd_51 u)) (v := .int (1 : Int32)) (ty := .boolean) C hP hD hS 0 2 2 i_Window t_Window_ok n_Window rfl rfl (by decide) (hk_in (by decide +kernel) rfl) rfl (by decide +kernel) (hk_nb (Or.inr rfl)) (hk_fb (Or.inr rfl)) (Nat.le_of_ble_eq_true rfl) rfl d_Window_learnAtEnd_51 (fun H locs hP hD hS => ?_)
          generalize hU5 : (f_Window_learnAtEnd_51 u) = U5 at hP hD
          refine lv_iload_n hx hb d_Window_learnAtEnd_54 rfl (lv_at hl 0 rfl) ?_
          subst hU5
          have e : m_Window_learnAtEnd u = ((0 : Int32), (f_Window_learnAtEnd_51 u)) := (if_pos c_1).trans ((if_neg c_4).trans ((if_neg c_7).trans ((if_neg c_8).trans (rfl))))
          exact hk_rz C hAe hP hD hS (Or.inl rfl) (by rw [e]) (by rw [e]) d_Window_learnAtEnd_55
        · skip
          refine lv_iload_n hx hb d_Window_learnAtEnd_42 rfl (lv_at hl 0 rfl) ?_
          refine lv_if_eq (tgt := 50) hx hb d_Window_learnAtEnd_43 (by decide) (fun c_9 => ?_) (fun c_9 => absurd (by decide) c_9)
          refine lv_iconst (v := (0 : Int32)) hx hb d_Window_learnAtEnd_50 (by decide) ?_
          refine hk_put (w2 := wN a0 (f_Window_learnAtEnd_51_1 u)) (v := .int (0 : Int32)) (ty := .boolean) C hP hD hS 0 2 2 i_Window t_Window_ok n_Window rfl rfl (by decide) (hk_in (by decide +kernel) rfl) rfl (by decide +kernel) (hk_nb (Or.inl rfl)) (hk_fb (Or.inl rfl)) (Nat.le_of_ble_eq_true rfl) rfl d_Window_learnAtEnd_51 (fun H locs hP hD hS => ?_)
          generalize hU6 : (f_Window_learnAtEnd_51_1 u) = U6 at hP hD
          refine lv_iload_n hx hb d_Window_learnAtEnd_54 rfl (lv_at hl 0 rfl) ?_
          subst hU6
          have e : m_Window_learnAtEnd u = ((0 : Int32), (f_Window_learnAtEnd_51_1 u)) := (if_pos c_1).trans ((if_neg c_4).trans ((if_neg c_7).trans ((if_pos c_8).trans (rfl))))
          exact hk_rz C hAe hP hD hS (Or.inl rfl) (by rw [e]) (by rw [e]) d_Window_learnAtEnd_55
      · skip
        refine lv_iconst (v := (1 : Int32)) hx hb d_Window_learnAtEnd_28 (by decide) ?_
        refine lv_goto (tgt := 33) hx hb d_Window_learnAtEnd_29 (by decide) ?_
        refine lv_istore_n (lv' := [(1, .int (1 : Int32)), (0, .ref a0)]) hx hb d_Window_learnAtEnd_33 rfl hl (by decide) rfl (fun ls hl => ?_)
        refine lv_aload_n hx hb d_Window_learnAtEnd_34 rfl (lv_at hl 1 rfl) ?_
        refine lv_aload_n hx hb d_Window_learnAtEnd_35 rfl (lv_at hl 1 rfl) ?_
        refine hk_get (v := .int u.2.2) C hP 0 2 2 i_Window rfl rfl (by decide) (hk_in (by decide +kernel) rfl) rfl d_Window_learnAtEnd_36 ?_
        refine lv_if_ne (tgt := 46) hx hb d_Window_learnAtEnd_39 (by decide) (fun c_10 => ?_) (fun c_10 => ?_)
        · skip
          refine lv_iconst (v := (1 : Int32)) hx hb d_Window_learnAtEnd_46 (by decide) ?_
          refine lv_goto (tgt := 51) hx hb d_Window_learnAtEnd_47 (by decide) ?_
          refine hk_put (w2 := wN a0 (f_Window_learnAtEnd_51 u)) (v := .int (1 : Int32)) (ty := .boolean) C hP hD hS 0 2 2 i_Window t_Window_ok n_Window rfl rfl (by decide) (hk_in (by decide +kernel) rfl) rfl (by decide +kernel) (hk_nb (Or.inr rfl)) (hk_fb (Or.inr rfl)) (Nat.le_of_ble_eq_true rfl) rfl d_Window_learnAtEnd_51 (fun H locs hP hD hS => ?_)
          generalize hU7 : (f_Window_learnAtEnd_51 u) = U7 at hP hD
          refine lv_iload_n hx hb d_Window_learnAtEnd_54 rfl (lv_at hl 0 rfl) ?_
          subst hU7
          have e : m_Window_learnAtEnd u = ((1 : Int32), (f_Window_learnAtEnd_51 u)) := (if_pos c_1).trans ((if_neg c_4).trans ((if_pos c_7).trans ((if_neg c_10).trans (rfl))))
          exact hk_rz C hAe hP hD hS (Or.inr rfl) (by rw [e]) (by rw [e]) d_Window_learnAtEnd_55
        · skip
          refine lv_iload_n hx hb d_Window_learnAtEnd_42 rfl (lv_at hl 0 rfl) ?_
          refine lv_if_eq (tgt := 50) hx hb d_Window_learnAtEnd_43 (by decide) (fun c_11 => absurd c_11 (by decide)) (fun c_11 => ?_)
          refine lv_iconst (v := (1 : Int32)) hx hb d_Window_learnAtEnd_46 (by decide) ?_
          refine lv_goto (tgt := 51) hx hb d_Window_learnAtEnd_47 (by decide) ?_
          refine hk_put (w2 := wN a0 (f_Window_learnAtEnd_51 u)) (v := .int (1 : Int32)) (ty := .boolean) C hP hD hS 0 2 2 i_Window t_Window_ok n_Window rfl rfl (by decide) (hk_in (by decide +kernel) rfl) rfl (by decide +kernel) (hk_nb (Or.inr rfl)) (hk_fb (Or.inr rfl)) (Nat.le_of_ble_eq_true rfl) rfl d_Window_learnAtEnd_51 (fun H locs hP hD hS => ?_)
          generalize hU8 : (f_Window_learnAtEnd_51 u) = U8 at hP hD
          refine lv_iload_n hx hb d_Window_learnAtEnd_54 rfl (lv_at hl 0 rfl) ?_
          subst hU8
          have e : m_Window_learnAtEnd u = ((1 : Int32), (f_Window_learnAtEnd_51 u)) := (if_pos c_1).trans ((if_neg c_4).trans ((if_pos c_7).trans ((if_pos c_10).trans (rfl))))
          exact hk_rz C hAe hP hD hS (Or.inr rfl) (by rw [e]) (by rw [e]) d_Window_learnAtEnd_55
end
section
theorem Y_Loads_isFull : hk_Y y_Loads_isFull b_Loads_isFull 1 (some .boolean) 0 := ⟨hk_in (by decide +kernel) rfl, hk_in (by decide +kernel) rfl, hk_in (by decide +kernel) rfl, hk_in (List.mem_of_getElem? (i := 375) rfl) rfl, by decide, by decide, by decide +kernel⟩
abbrev rm_Loads_isFull : Room := { frames := 0, cells := 0, slots := 0, locals := 0 }
set_option maxHeartbeats 4000000 in
set_option maxRecDepth 100000 in
theorem c_Loads_isFull (l : Launch) (G : hk_G) (a0 a1 a2 a3 : Nat) (u : cL) (hI : IL u) : hk_I l G y_Loads_isFull b_Loads_isFull 1 (some .boolean) rm_Loads_isFull [.ref a0] (wL G a0 a1 a2 a3 u) (m_Loads_isFull u) (wL G a0 a1 a2 a3 u) := by
  refine hk_I_of (by decide) (Nat.le_of_ble_eq_true rfl) ?_
  intro p e s m below meth c A ls C hAe hA hP hD hS hl
  have hx := C.1
  have hb := C.2.1
  have hown := C.2.2.2.2.1
  have hts := C.2.2.2.2.2.1
  have hE := C.2.2.2.2.2.2.2
  have hl : lv_has ls 1 [(0, .ref a0)] := hl
  refine lv_aload_n hx hb d_Loads_isFull_0 rfl (lv_at hl 0 rfl) ?_
  refine hk_get (v := .int (l3 u)) C hP 0 3 3 i_Loads rfl rfl (by decide) (hk_in (by decide +kernel) rfl) rfl d_Loads_isFull_1 ?_
  refine lv_bipush (v := (12 : Int32)) hx hb d_Loads_isFull_4 (by decide) ?_
  refine lv_icmp_lt (tgt := 13) hx hb d_Loads_isFull_6 (by decide) (fun c_1 => ?_) (fun c_1 => ?_)
  · skip
    refine lv_iconst (v := (0 : Int32)) hx hb d_Loads_isFull_13 (by decide) ?_
    have e : m_Loads_isFull u = (0 : Int32) := (if_pos c_1).trans (rfl)
    exact hk_rz C hAe hP hD hS (Or.inl rfl) e.symm rfl d_Loads_isFull_14
  · skip
    refine lv_iconst (v := (1 : Int32)) hx hb d_Loads_isFull_9 (by decide) ?_
    refine lv_goto (tgt := 14) hx hb d_Loads_isFull_10 (by decide) ?_
    have e : m_Loads_isFull u = (1 : Int32) := (if_neg c_1).trans (rfl)
    exact hk_rz C hAe hP hD hS (Or.inr rfl) e.symm rfl d_Loads_isFull_14
theorem Y_Loads_add : hk_Y y_Loads_add b_Loads_add 3 (some .int) 2 := ⟨hk_in (by decide +kernel) rfl, hk_in (by decide +kernel) rfl, hk_in (by decide +kernel) rfl, hk_in (List.mem_of_getElem? (i := 379) rfl) rfl, by decide, by decide, by decide +kernel⟩
abbrev rm_Loads_add : Room := { frames := 1, cells := 0, slots := 0, locals := 20 }
set_option maxHeartbeats 4000000 in
set_option maxRecDepth 100000 in
theorem c_Loads_add (l : Launch) (G : hk_G) (a0 a1 a2 a3 : Nat) (u : cL) (p1 : Int32) (p2 : Int32) (hI : IL u) (h01 : p2 = 0 ∨ p2 = 1) : hk_I l G y_Loads_add b_Loads_add 3 (some .int) rm_Loads_add [.ref a0, .int p1, .int p2] (wL G a0 a1 a2 a3 u) ((m_Loads_add p1 p2 u).1) (wL G a0 a1 a2 a3 ((m_Loads_add p1 p2 u).2)) := by
  refine hk_I_of (by decide) (Nat.le_of_ble_eq_true rfl) ?_
  intro p e s m below meth c A ls C hAe hA hP hD hS hl
  have hx := C.1
  have hb := C.2.1
  have hown := C.2.2.2.2.1
  have hts := C.2.2.2.2.2.1
  have hE := C.2.2.2.2.2.2.2
  have hl : lv_has ls 3 [(0, .ref a0), (1, .int p1), (2, .int p2)] := hl
  refine lv_aload_n hx hb d_Loads_add_0 rfl (lv_at hl 0 rfl) ?_
  refine hk_goI (hk_kV (k := 0) (As := []) (rest := []) C (c_Loads_isFull l G a0 a1 a2 a3 u hI _) Y_Loads_isFull (hk_in (by decide +kernel) rfl) rfl rfl ⟨Nat.le_of_ble_eq_true rfl, Nat.le_of_ble_eq_true rfl⟩ (va_recv hE.1 hP (ci := 3) (q0 := 0) rfl rfl) hP hD rfl hl.1 rfl (Nat.le_of_ble_eq_true rfl) d_Loads_add_1 ⟨Nat.zero_le _, Nat.zero_le _⟩) hD hS hA (fun H locs hP hD hS => ?_)
  refine lv_if_eq (tgt := 10) hx hb d_Loads_add_4 (by decide) (fun c_1 => ?_) (fun c_1 => ?_)
  · skip
    refine lv_aload_n hx hb d_Loads_add_10 rfl (lv_at hl 0 rfl) ?_
    refine hk_get (v := .ref a1) C hP 0 3 0 i_Loads rfl rfl (by decide) (hk_in (by decide +kernel) rfl) rfl d_Loads_add_11 ?_
    refine lv_aload_n hx hb d_Loads_add_14 rfl (lv_at hl 0 rfl) ?_
    refine hk_get (v := .int (l3 u)) C hP 0 3 3 i_Loads rfl rfl (by decide) (hk_in (by decide +kernel) rfl) rfl d_Loads_add_15 ?_
    refine lv_iload_n hx hb d_Loads_add_18 rfl (lv_at hl 1 rfl) ?_
    refine hk_ist (w2 := wL G a0 a1 a2 a3 (f_Loads_add_19 p1 u)) C hP hD hS 1 0 rfl rfl (hk_inL hI c_1) rfl d_Loads_add_19 (fun H locs hP hD hS => ?_)
    have hI1 : IL (f_Loads_add_19 p1 u) := (IL_of (k3_f_Loads_add_19 _ _) hI)
    generalize hU1 : (f_Loads_add_19 p1 u) = U1 at hP hD hI1
    refine lv_aload_n hx hb d_Loads_add_20 rfl (lv_at hl 0 rfl) ?_
    refine hk_get (v := .ref a2) C hP 0 3 1 i_Loads rfl rfl (by decide) (hk_in (by decide +kernel) rfl) rfl d_Loads_add_21 ?_
    refine lv_aload_n hx hb d_Loads_add_24 rfl (lv_at hl 0 rfl) ?_
    refine hk_get (v := .int (l3 U1)) C hP 0 3 3 i_Loads rfl rfl (by decide) (hk_in (by decide +kernel) rfl) rfl d_Loads_add_25 ?_
    refine lv_iload_n hx hb d_Loads_add_28 rfl (lv_at hl 2 rfl) ?_
    refine hk_zst (w2 := wL G a0 a1 a2 a3 (f_Loads_add_29 p2 U1)) C hP hD hS 2 1 rfl rfl (by subst hU1; exact hk_inL hI c_1) h01 rfl d_Loads_add_29 (fun H locs hP hD hS => ?_)
    have hI2 : IL (f_Loads_add_29 p2 U1) := (IL_of (k3_f_Loads_add_29 _ _) hI1)
    generalize hU2 : (f_Loads_add_29 p2 U1) = U2 at hP hD hI2
    refine lv_aload_n hx hb d_Loads_add_30 rfl (lv_at hl 0 rfl) ?_
    refine lv_dup hx hb d_Loads_add_31 rfl ?_
    refine hk_get (v := .int (l3 U2)) C hP 0 3 3 i_Loads rfl rfl (by decide) (hk_in (by decide +kernel) rfl) rfl d_Loads_add_32 ?_
    refine lv_iconst (v := (1 : Int32)) hx hb d_Loads_add_35 (by decide) ?_
    refine lv_iadd hx hb d_Loads_add_36 ?_
    refine hk_put (w2 := wL G a0 a1 a2 a3 (f_Loads_add_37 U2)) (v := .int ((l3 U2) + (1 : Int32))) (ty := .int) C hP hD hS 0 3 3 i_Loads t_Loads_ok n_Loads rfl rfl (by decide) (hk_in (by decide +kernel) rfl) rfl (by decide +kernel) rfl rfl (Nat.le_of_ble_eq_true rfl) rfl d_Loads_add_37 (fun H locs hP hD hS => ?_)
    generalize hU3 : (f_Loads_add_37 U2) = U3 at hP hD
    refine lv_aload_n hx hb d_Loads_add_40 rfl (lv_at hl 0 rfl) ?_
    refine hk_get (v := .int (l3 U3)) C hP 0 3 3 i_Loads rfl rfl (by decide) (hk_in (by decide +kernel) rfl) rfl d_Loads_add_41 ?_
    subst hU1 hU2 hU3
    have e : m_Loads_add p1 p2 u = (l3 (f_Loads_add_37 (f_Loads_add_29 p2 (f_Loads_add_19 p1 u))), (f_Loads_add_37 (f_Loads_add_29 p2 (f_Loads_add_19 p1 u)))) := (if_pos c_1).trans (rfl)
    exact hk_ri C hAe hP hD hS (by rw [e]) (by rw [e]) d_Loads_add_44
  · skip
    refine lv_bipush (v := (-4 : Int32)) hx hb d_Loads_add_7 (by decide) ?_
    have e : m_Loads_add p1 p2 u = ((-4 : Int32), u) := (if_neg c_1).trans (rfl)
    exact hk_ri C hAe hP hD hS (by rw [e]) (by rw [e]) d_Loads_add_9
theorem Y_Loads_has : hk_Y y_Loads_has b_Loads_has 2 (some .boolean) 1 := ⟨hk_in (by decide +kernel) rfl, hk_in (by decide +kernel) rfl, hk_in (by decide +kernel) rfl, hk_in (List.mem_of_getElem? (i := 388) rfl) rfl, by decide, by decide, by decide +kernel⟩
abbrev rm_Loads_has : Room := { frames := 0, cells := 0, slots := 0, locals := 0 }
set_option maxHeartbeats 4000000 in
set_option maxRecDepth 100000 in
theorem c_Loads_has (l : Launch) (G : hk_G) (a0 a1 a2 a3 : Nat) (u : cL) (p1 : Int32) (hI : IL u) : hk_I l G y_Loads_has b_Loads_has 2 (some .boolean) rm_Loads_has [.ref a0, .int p1] (wL G a0 a1 a2 a3 u) (m_Loads_has p1 u) (wL G a0 a1 a2 a3 u) := by
  refine hk_I_of (by decide) (Nat.le_of_ble_eq_true rfl) ?_
  intro p e s m below meth c A ls C hAe hA hP hD hS hl
  have hx := C.1
  have hb := C.2.1
  have hown := C.2.2.2.2.1
  have hts := C.2.2.2.2.2.1
  have hE := C.2.2.2.2.2.2.2
  have hl : lv_has ls 2 [(0, .ref a0), (1, .int p1)] := hl
  refine lv_iload_n hx hb d_Loads_has_0 rfl (lv_at hl 1 rfl) ?_
  refine lv_iconst (v := (1 : Int32)) hx hb d_Loads_has_1 (by decide) ?_
  refine lv_icmp_lt (tgt := 17) hx hb d_Loads_has_2 (by decide) (fun c_1 => ?_) (fun c_1 => ?_)
  · skip
    refine lv_iconst (v := (0 : Int32)) hx hb d_Loads_has_17 (by decide) ?_
    have e : m_Loads_has p1 u = (0 : Int32) := (if_pos c_1).trans (rfl)
    exact hk_rz C hAe hP hD hS (Or.inl rfl) e.symm rfl d_Loads_has_18
  · skip
    refine lv_iload_n hx hb d_Loads_has_5 rfl (lv_at hl 1 rfl) ?_
    refine lv_aload_n hx hb d_Loads_has_6 rfl (lv_at hl 0 rfl) ?_
    refine hk_get (v := .int (l3 u)) C hP 0 3 3 i_Loads rfl rfl (by decide) (hk_in (by decide +kernel) rfl) rfl d_Loads_has_7 ?_
    refine lv_icmp_gt (tgt := 17) hx hb d_Loads_has_10 (by decide) (fun c_2 => ?_) (fun c_2 => ?_)
    · skip
      refine lv_iconst (v := (0 : Int32)) hx hb d_Loads_has_17 (by decide) ?_
      have e : m_Loads_has p1 u = (0 : Int32) := (if_neg c_1).trans ((if_pos c_2).trans (rfl))
      exact hk_rz C hAe hP hD hS (Or.inl rfl) e.symm rfl d_Loads_has_18
    · skip
      refine lv_iconst (v := (1 : Int32)) hx hb d_Loads_has_13 (by decide) ?_
      refine lv_goto (tgt := 18) hx hb d_Loads_has_14 (by decide) ?_
      have e : m_Loads_has p1 u = (1 : Int32) := (if_neg c_1).trans ((if_neg c_2).trans (rfl))
      exact hk_rz C hAe hP hD hS (Or.inr rfl) e.symm rfl d_Loads_has_18
theorem Y_Loads_runs : hk_Y y_Loads_runs b_Loads_runs 2 (some .boolean) 1 := ⟨hk_in (by decide +kernel) rfl, hk_in (by decide +kernel) rfl, hk_in (by decide +kernel) rfl, hk_in (List.mem_of_getElem? (i := 392) rfl) rfl, by decide, by decide, by decide +kernel⟩
abbrev rm_Loads_runs : Room := { frames := 1, cells := 0, slots := 0, locals := 21 }
set_option maxHeartbeats 4000000 in
set_option maxRecDepth 100000 in
theorem c_Loads_runs (l : Launch) (G : hk_G) (a0 a1 a2 a3 : Nat) (u : cL) (p1 : Int32) (hI : IL u) : hk_I l G y_Loads_runs b_Loads_runs 2 (some .boolean) rm_Loads_runs [.ref a0, .int p1] (wL G a0 a1 a2 a3 u) (m_Loads_runs p1 u) (wL G a0 a1 a2 a3 u) := by
  refine hk_I_of (by decide) (Nat.le_of_ble_eq_true rfl) ?_
  intro p e s m below meth c A ls C hAe hA hP hD hS hl
  have hx := C.1
  have hb := C.2.1
  have hown := C.2.2.2.2.1
  have hts := C.2.2.2.2.2.1
  have hE := C.2.2.2.2.2.2.2
  have hl : lv_has ls 2 [(0, .ref a0), (1, .int p1)] := hl
  refine lv_aload_n hx hb d_Loads_runs_0 rfl (lv_at hl 0 rfl) ?_
  refine lv_iload_n hx hb d_Loads_runs_1 rfl (lv_at hl 1 rfl) ?_
  refine hk_goI (hk_kV (k := 1) (As := [.int p1]) (rest := []) C (c_Loads_has l G a0 a1 a2 a3 u p1 hI _) Y_Loads_has (hk_in (by decide +kernel) rfl) rfl rfl ⟨Nat.le_of_ble_eq_true rfl, Nat.le_of_ble_eq_true rfl⟩ (va_recv hE.1 hP (ci := 3) (q0 := 0) rfl rfl) hP hD rfl hl.1 rfl (Nat.le_of_ble_eq_true rfl) d_Loads_runs_2 ⟨Nat.zero_le _, Nat.zero_le _⟩) hD hS hA (fun H locs hP hD hS => ?_)
  refine lv_if_eq (tgt := 23) hx hb d_Loads_runs_5 (by decide) (fun c_1 => ?_) (fun c_1 => ?_)
  · skip
    refine lv_iconst (v := (0 : Int32)) hx hb d_Loads_runs_23 (by decide) ?_
    have e : m_Loads_runs p1 u = (0 : Int32) := (if_pos c_1).trans (rfl)
    exact hk_rz C hAe hP hD hS (Or.inl rfl) e.symm rfl d_Loads_runs_24
  · skip
    refine lv_aload_n hx hb d_Loads_runs_8 rfl (lv_at hl 0 rfl) ?_
    refine hk_get (v := .ref a3) C hP 0 3 2 i_Loads rfl rfl (by decide) (hk_in (by decide +kernel) rfl) rfl d_Loads_runs_9 ?_
    refine lv_iload_n hx hb d_Loads_runs_12 rfl (lv_at hl 1 rfl) ?_
    refine lv_iconst (v := (1 : Int32)) hx hb d_Loads_runs_13 (by decide) ?_
    refine lv_isub hx hb d_Loads_runs_14 ?_
    refine hk_zld C hP 3 1 (v := (l2 u) (p1 - (1 : Int32)).toNatClampNeg) rfl rfl (hk_inR hI c_1) rfl d_Loads_runs_15 ?_
    refine lv_if_ne (tgt := 23) hx hb d_Loads_runs_16 (by decide) (fun c_2 => ?_) (fun c_2 => ?_)
    · skip
      refine lv_iconst (v := (0 : Int32)) hx hb d_Loads_runs_23 (by decide) ?_
      have e : m_Loads_runs p1 u = (0 : Int32) := (if_neg c_1).trans ((if_neg c_2).trans (rfl))
      exact hk_rz C hAe hP hD hS (Or.inl rfl) e.symm rfl d_Loads_runs_24
    · skip
      refine lv_iconst (v := (1 : Int32)) hx hb d_Loads_runs_19 (by decide) ?_
      refine lv_goto (tgt := 24) hx hb d_Loads_runs_20 (by decide) ?_
      have e : m_Loads_runs p1 u = (1 : Int32) := (if_neg c_1).trans ((if_pos c_2).trans (rfl))
      exact hk_rz C hAe hP hD hS (Or.inr rfl) e.symm rfl d_Loads_runs_24
theorem Y_Loads_countOff : hk_Y y_Loads_countOff b_Loads_countOff 3 (some .int) 0 := ⟨hk_in (by decide +kernel) rfl, hk_in (by decide +kernel) rfl, hk_in (by decide +kernel) rfl, hk_in (List.mem_of_getElem? (i := 367) rfl) rfl, by decide, by decide, by decide +kernel⟩
abbrev rm_Loads_countOff : Room := { frames := 0, cells := 0, slots := 0, locals := 0 }
set_option maxHeartbeats 4000000 in
set_option maxRecDepth 100000 in
theorem lp_Loads_countOff_4 {p : Program} {l : Launch} {e : Env} {s : State} {m : MethodId} {below : List Frame} {meth : Method} {c : Code} {A : Nat → Prop} {Q : State → Prop} (G : hk_G) (a0 a1 a2 a3 : Nat) (u : cL) (hI : IL u) (C : hk_C p s m meth c R_Loads b_Loads_countOff 3 (some .int) ([.ref a0] : List Value).toArray G) (hA : ∀ q : Nat, s.heap.size ≤ q → A q) (n : Nat) (hn : n < 2 ^ 31) (hbn : l3 u = nI n) (hn12 : n ≤ 12)
    (kx : ∀ (H : Heap) (locs : List Loc) (ls : Array Slot), va_P (hk_D G) classes (wL G a0 a1 a2 a3 u) H → va_D A (wL G a0 a1 a2 a3 u) → va_S A s.heap H locs → lv_has ls 3 [(0, .ref a0), (1, .int (li_Loads_countOff_4 u n)), (2, .int (nI n))] → W p l e rm_Loads_countOff s m ([.ref a0] : List Value).toArray below meth c H locs 0 0 Q (F0 m 30 ls [])) :
    ∀ (j k : Nat), k ≤ n → n + 1 ≤ k + j → ∀ (H : Heap) (locs : List Loc) (ls : Array Slot), va_P (hk_D G) classes (wL G a0 a1 a2 a3 u) H → va_D A (wL G a0 a1 a2 a3 u) → va_S A s.heap H locs → lv_has ls 3 [(0, .ref a0), (1, .int (li_Loads_countOff_4 u k)), (2, .int (nI k))] → W p l e rm_Loads_countOff s m ([.ref a0] : List Value).toArray below meth c H locs 0 0 Q (F0 m 4 ls []) := by
  have hx := C.1
  have hb := C.2.1
  have hown := C.2.2.2.2.1
  have hts := C.2.2.2.2.2.1
  have hE := C.2.2.2.2.2.2.2
  intro j
  induction j with
  | zero =>
    intro k h1 h2
    exact absurd h2 (by omega)
  | succ j ih =>
    intro k hkn hj H locs ls hP hD hS hl
    refine lv_iload_n hx hb d_Loads_countOff_4 rfl (lv_at hl 2 rfl) ?_
    refine lv_aload_n hx hb d_Loads_countOff_5 rfl (lv_at hl 0 rfl) ?_
    refine hk_get (v := .int (l3 u)) C hP 0 3 3 i_Loads rfl rfl (by decide) (hk_in (by decide +kernel) rfl) rfl d_Loads_countOff_6 ?_
    refine lv_icmp_ge (tgt := 30) hx hb d_Loads_countOff_9 (by decide) (fun c_0 => ?_) (fun c_0 => ?_)
    · obtain rfl := hk_exit (n := n) hbn hn hkn c_0
      exact kx H locs ls hP hD hS (lv_sub hl [0, 1, 2] rfl)
    · have hlt := hk_stay (n := n) hbn hn hkn c_0
      refine lv_aload_n hx hb d_Loads_countOff_12 rfl (lv_at hl 0 rfl) ?_
      refine hk_get (v := .ref a3) C hP 0 3 2 i_Loads rfl rfl (by decide) (hk_in (by decide +kernel) rfl) rfl d_Loads_countOff_13 ?_
      refine lv_iload_n hx hb d_Loads_countOff_16 rfl (lv_at hl 2 rfl) ?_
      refine hk_zld C hP 3 1 (v := (l2 u) k) rfl rfl (vp_in_nI (by omega) (by decide)) (congrArg _ (nI_clamp (by omega))) d_Loads_countOff_17 ?_
      refine lv_if_eq (tgt := 24) hx hb d_Loads_countOff_18 (by decide) (fun c_1 => ?_) (fun c_1 => ?_)
      · skip
        refine lv_iinc (v := nI (k + 1)) (lv' := [(2, .int (nI (k + 1))), (0, .ref a0), (1, .int (li_Loads_countOff_4 u k))]) hx hb d_Loads_countOff_24 hl (k := 2) rfl (nI_1 k) (by decide) rfl (fun ls hl => ?_)
        refine lv_goto (tgt := 4) hx hb d_Loads_countOff_27 (by decide) ?_
        have e : li_Loads_countOff_4 u (k + 1) = (li_Loads_countOff_4 u k) := (if_pos c_1).trans (rfl)
        exact ih (k + 1) hlt (by omega) _ _ _ hP hD hS (by rw [e]; exact lv_sub hl [1, 2, 0] rfl)
      · skip
        refine lv_iinc (v := (li_Loads_countOff_4 u k) + (1 : Int32)) (lv' := [(1, .int ((li_Loads_countOff_4 u k) + (1 : Int32))), (0, .ref a0), (2, .int (nI k))]) hx hb d_Loads_countOff_21 hl (k := 1) rfl rfl (by decide) rfl (fun ls hl => ?_)
        refine lv_iinc (v := nI (k + 1)) (lv' := [(2, .int (nI (k + 1))), (1, .int ((li_Loads_countOff_4 u k) + (1 : Int32))), (0, .ref a0)]) hx hb d_Loads_countOff_24 hl (k := 2) rfl (nI_1 k) (by decide) rfl (fun ls hl => ?_)
        refine lv_goto (tgt := 4) hx hb d_Loads_countOff_27 (by decide) ?_
        have e : li_Loads_countOff_4 u (k + 1) = (li_Loads_countOff_4 u k) + (1 : Int32) := (if_neg c_1).trans (rfl)
        exact ih (k + 1) hlt (by omega) _ _ _ hP hD hS (by rw [e]; exact lv_sub hl [2, 1, 0] rfl)
set_option maxHeartbeats 4000000 in
set_option maxRecDepth 100000 in
theorem c_Loads_countOff (l : Launch) (G : hk_G) (a0 a1 a2 a3 : Nat) (u : cL) (hI : IL u) : hk_I l G y_Loads_countOff b_Loads_countOff 3 (some .int) rm_Loads_countOff [.ref a0] (wL G a0 a1 a2 a3 u) (m_Loads_countOff u) (wL G a0 a1 a2 a3 u) := by
  refine hk_I_of (by decide) (Nat.le_of_ble_eq_true rfl) ?_
  intro p e s m below meth c A ls C hAe hA hP hD hS hl
  have hx := C.1
  have hb := C.2.1
  have hown := C.2.2.2.2.1
  have hts := C.2.2.2.2.2.1
  have hE := C.2.2.2.2.2.2.2
  have hl : lv_has ls 3 [(0, .ref a0)] := hl
  refine lv_iconst (v := (0 : Int32)) hx hb d_Loads_countOff_0 (by decide) ?_
  refine lv_istore_n (lv' := [(1, .int (0 : Int32)), (0, .ref a0)]) hx hb d_Loads_countOff_1 rfl hl (by decide) rfl (fun ls hl => ?_)
  refine lv_iconst (v := (0 : Int32)) hx hb d_Loads_countOff_2 (by decide) ?_
  refine lv_istore_n (lv' := [(2, .int (0 : Int32)), (1, .int (0 : Int32)), (0, .ref a0)]) hx hb d_Loads_countOff_3 rfl hl (by decide) rfl (fun ls hl => ?_)
  refine lp_Loads_countOff_4 G a0 a1 a2 a3 u hI C hA ((l3 u).toNatClampNeg) (Nat.lt_of_le_of_lt hI.1 (by decide)) hI.2 hI.1 (fun H locs ls hP hD hS hl => ?_) (((l3 u).toNatClampNeg) + 1) 0 (Nat.zero_le _) (by omega) _ _ _ hP hD hS (lv_sub hl [2, 1, 0] rfl)
  refine lv_iload_n hx hb d_Loads_countOff_30 rfl (lv_at hl 1 rfl) ?_
  have e : m_Loads_countOff u = li_Loads_countOff_4 u ((l3 u).toNatClampNeg) := rfl
  exact hk_ri C hAe hP hD hS e.symm rfl d_Loads_countOff_31
theorem Y_Loads_setOff : hk_Y y_Loads_setOff b_Loads_setOff 3 none 2 := ⟨hk_in (by decide +kernel) rfl, hk_in (by decide +kernel) rfl, hk_in (by decide +kernel) rfl, hk_in (List.mem_of_getElem? (i := 359) rfl) rfl, by decide, by decide, by decide +kernel⟩
abbrev rm_Loads_setOff : Room := { frames := 0, cells := 0, slots := 0, locals := 0 }
set_option maxHeartbeats 4000000 in
set_option maxRecDepth 100000 in
theorem c_Loads_setOff (l : Launch) (G : hk_G) (a0 a1 a2 a3 : Nat) (u : cL) (p1 : Int32) (p2 : Int32) (hI : IL u) (h01 : p2 = 0 ∨ p2 = 1) (hi : p1 = -1 ∨ ∃ j : Nat, j < 12 ∧ p1 = nI j) : hk_V l G y_Loads_setOff b_Loads_setOff 3 rm_Loads_setOff [.ref a0, .int p1, .int p2] (wL G a0 a1 a2 a3 u) (wL G a0 a1 a2 a3 (m_Loads_setOff p1 p2 u)) := by
  refine hk_V_of (by decide) (Nat.le_of_ble_eq_true rfl) ?_
  intro p e s m below meth c A ls C hAe hA hP hD hS hl
  have hx := C.1
  have hb := C.2.1
  have hown := C.2.2.2.2.1
  have hts := C.2.2.2.2.2.1
  have hE := C.2.2.2.2.2.2.2
  have hl : lv_has ls 3 [(0, .ref a0), (1, .int p1), (2, .int p2)] := hl
  refine lv_iload_n hx hb d_Loads_setOff_0 rfl (lv_at hl 1 rfl) ?_
  refine lv_iconst (v := (-1 : Int32)) hx hb d_Loads_setOff_1 (by decide) ?_
  refine lv_icmp_eq (tgt := 12) hx hb d_Loads_setOff_2 (by decide) (fun c_1 => ?_) (fun c_1 => ?_)
  · skip
    have e : m_Loads_setOff p1 p2 u = u := (if_pos c_1).trans (rfl)
    exact hk_rv C hAe hP hD hS (by rw [e]) d_Loads_setOff_12
  · skip
    refine lv_aload_n hx hb d_Loads_setOff_5 rfl (lv_at hl 0 rfl) ?_
    refine hk_get (v := .ref a3) C hP 0 3 2 i_Loads rfl rfl (by decide) (hk_in (by decide +kernel) rfl) rfl d_Loads_setOff_6 ?_
    refine lv_iload_n hx hb d_Loads_setOff_9 rfl (lv_at hl 1 rfl) ?_
    refine lv_iload_n hx hb d_Loads_setOff_10 rfl (lv_at hl 2 rfl) ?_
    refine hk_zst (w2 := wL G a0 a1 a2 a3 (f_Loads_setOff_11 p1 p2 u)) C hP hD hS 3 1 rfl rfl (hk_in12 hi c_1) h01 rfl d_Loads_setOff_11 (fun H locs hP hD hS => ?_)
    have hI1 : IL (f_Loads_setOff_11 p1 p2 u) := (IL_of (k3_f_Loads_setOff_11 _ _ _) hI)
    generalize hU1 : (f_Loads_setOff_11 p1 p2 u) = U1 at hP hD hI1
    subst hU1
    have e : m_Loads_setOff p1 p2 u = (f_Loads_setOff_11 p1 p2 u) := (if_neg c_1).trans (rfl)
    exact hk_rv C hAe hP hD hS (by rw [e]) d_Loads_setOff_12
theorem Y_Loads_findNextToShed : hk_Y y_Loads_findNextToShed b_Loads_findNextToShed 3 (some .int) 0 := ⟨hk_in (by decide +kernel) rfl, hk_in (by decide +kernel) rfl, hk_in (by decide +kernel) rfl, hk_in (List.mem_of_getElem? (i := 355) rfl) rfl, by decide, by decide, by decide +kernel⟩
abbrev rm_Loads_findNextToShed : Room := { frames := 0, cells := 0, slots := 0, locals := 0 }
set_option maxHeartbeats 4000000 in
set_option maxRecDepth 100000 in
theorem lp_Loads_findNextToShed_4 {p : Program} {l : Launch} {e : Env} {s : State} {m : MethodId} {below : List Frame} {meth : Method} {c : Code} {A : Nat → Prop} {Q : State → Prop} (G : hk_G) (a0 a1 a2 a3 : Nat) (u : cL) (hI : IL u) (C : hk_C p s m meth c R_Loads b_Loads_findNextToShed 3 (some .int) ([.ref a0] : List Value).toArray G) (hA : ∀ q : Nat, s.heap.size ≤ q → A q) (n : Nat) (hn : n < 2 ^ 31) (hbn : l3 u = nI n) (hn12 : n ≤ 12)
    (kx : ∀ (H : Heap) (locs : List Loc) (ls : Array Slot), va_P (hk_D G) classes (wL G a0 a1 a2 a3 u) H → va_D A (wL G a0 a1 a2 a3 u) → va_S A s.heap H locs → lv_has ls 3 [(0, .ref a0), (1, .int (li_Loads_findNextToShed_4 u n)), (2, .int (nI n))] → W p l e rm_Loads_findNextToShed s m ([.ref a0] : List Value).toArray below meth c H locs 0 0 Q (F0 m 58 ls [])) :
    ∀ (j k : Nat), k ≤ n → n + 1 ≤ k + j → ∀ (H : Heap) (locs : List Loc) (ls : Array Slot), va_P (hk_D G) classes (wL G a0 a1 a2 a3 u) H → va_D A (wL G a0 a1 a2 a3 u) → va_S A s.heap H locs → lv_has ls 3 [(0, .ref a0), (1, .int (li_Loads_findNextToShed_4 u k)), (2, .int (nI k))] → W p l e rm_Loads_findNextToShed s m ([.ref a0] : List Value).toArray below meth c H locs 0 0 Q (F0 m 4 ls []) := by
  have hx := C.1
  have hb := C.2.1
  have hown := C.2.2.2.2.1
  have hts := C.2.2.2.2.2.1
  have hE := C.2.2.2.2.2.2.2
  intro j
  induction j with
  | zero =>
    intro k h1 h2
    exact absurd h2 (by omega)
  | succ j ih =>
    intro k hkn hj H locs ls hP hD hS hl
    refine lv_iload_n hx hb d_Loads_findNextToShed_4 rfl (lv_at hl 2 rfl) ?_
    refine lv_aload_n hx hb d_Loads_findNextToShed_5 rfl (lv_at hl 0 rfl) ?_
    refine hk_get (v := .int (l3 u)) C hP 0 3 3 i_Loads rfl rfl (by decide) (hk_in (by decide +kernel) rfl) rfl d_Loads_findNextToShed_6 ?_
    refine lv_icmp_ge (tgt := 58) hx hb d_Loads_findNextToShed_9 (by decide) (fun c_0 => ?_) (fun c_0 => ?_)
    · obtain rfl := hk_exit (n := n) hbn hn hkn c_0
      exact kx H locs ls hP hD hS (lv_sub hl [0, 1, 2] rfl)
    · have hlt := hk_stay (n := n) hbn hn hkn c_0
      have hf := fd_shed u k (by omega)
      refine lv_aload_n hx hb d_Loads_findNextToShed_12 rfl (lv_at hl 0 rfl) ?_
      refine hk_get (v := .ref a3) C hP 0 3 2 i_Loads rfl rfl (by decide) (hk_in (by decide +kernel) rfl) rfl d_Loads_findNextToShed_13 ?_
      refine lv_iload_n hx hb d_Loads_findNextToShed_16 rfl (lv_at hl 2 rfl) ?_
      refine hk_zld C hP 3 1 (v := (l2 u) k) rfl rfl (vp_in_nI (by omega) (by decide)) (congrArg _ (nI_clamp (by omega))) d_Loads_findNextToShed_17 ?_
      refine lv_if_ne (tgt := 52) hx hb d_Loads_findNextToShed_18 (by decide) (fun c_1 => ?_) (fun c_1 => ?_)
      · skip
        refine lv_iinc (v := nI (k + 1)) (lv' := [(2, .int (nI (k + 1))), (0, .ref a0), (1, .int (li_Loads_findNextToShed_4 u k))]) hx hb d_Loads_findNextToShed_52 hl (k := 2) rfl (nI_1 k) (by decide) rfl (fun ls hl => ?_)
        refine lv_goto (tgt := 4) hx hb d_Loads_findNextToShed_55 (by decide) ?_
        have e : li_Loads_findNextToShed_4 u (k + 1) = (li_Loads_findNextToShed_4 u k) := (if_neg c_1).trans (rfl)
        exact ih (k + 1) hlt (by omega) _ _ _ hP hD hS (by rw [e]; exact lv_sub hl [1, 2, 0] rfl)
      · skip
        refine lv_aload_n hx hb d_Loads_findNextToShed_21 rfl (lv_at hl 0 rfl) ?_
        refine hk_get (v := .ref a2) C hP 0 3 1 i_Loads rfl rfl (by decide) (hk_in (by decide +kernel) rfl) rfl d_Loads_findNextToShed_22 ?_
        refine lv_iload_n hx hb d_Loads_findNextToShed_25 rfl (lv_at hl 2 rfl) ?_
        refine hk_zld C hP 2 1 (v := (l1 u) k) rfl rfl (vp_in_nI (by omega) (by decide)) (congrArg _ (nI_clamp (by omega))) d_Loads_findNextToShed_26 ?_
        refine lv_if_ne (tgt := 52) hx hb d_Loads_findNextToShed_27 (by decide) (fun c_2 => ?_) (fun c_2 => ?_)
        · skip
          refine lv_iinc (v := nI (k + 1)) (lv' := [(2, .int (nI (k + 1))), (0, .ref a0), (1, .int (li_Loads_findNextToShed_4 u k))]) hx hb d_Loads_findNextToShed_52 hl (k := 2) rfl (nI_1 k) (by decide) rfl (fun ls hl => ?_)
          refine lv_goto (tgt := 4) hx hb d_Loads_findNextToShed_55 (by decide) ?_
          have e : li_Loads_findNextToShed_4 u (k + 1) = (li_Loads_findNextToShed_4 u k) := (if_pos c_1).trans ((if_neg c_2).trans (rfl))
          exact ih (k + 1) hlt (by omega) _ _ _ hP hD hS (by rw [e]; exact lv_sub hl [1, 2, 0] rfl)
        · skip
          refine lv_iload_n hx hb d_Loads_findNextToShed_30 rfl (lv_at hl 1 rfl) ?_
          refine lv_iconst (v := (-1 : Int32)) hx hb d_Loads_findNextToShed_31 (by decide) ?_
          refine lv_icmp_eq (tgt := 50) hx hb d_Loads_findNextToShed_32 (by decide) (fun c_3 => ?_) (fun c_3 => ?_)
          · skip
            refine lv_iload_n hx hb d_Loads_findNextToShed_50 rfl (lv_at hl 2 rfl) ?_
            refine lv_istore_n (lv' := [(1, .int (nI k)), (0, .ref a0), (2, .int (nI k))]) hx hb d_Loads_findNextToShed_51 rfl hl (by decide) rfl (fun ls hl => ?_)
            refine lv_iinc (v := nI (k + 1)) (lv' := [(2, .int (nI (k + 1))), (1, .int (nI k)), (0, .ref a0)]) hx hb d_Loads_findNextToShed_52 hl (k := 2) rfl (nI_1 k) (by decide) rfl (fun ls hl => ?_)
            refine lv_goto (tgt := 4) hx hb d_Loads_findNextToShed_55 (by decide) ?_
            have e : li_Loads_findNextToShed_4 u (k + 1) = nI k := (if_pos c_1).trans ((if_pos c_2).trans ((if_pos c_3).trans (rfl)))
            exact ih (k + 1) hlt (by omega) _ _ _ hP hD hS (by rw [e]; exact lv_sub hl [2, 1, 0] rfl)
          · skip
            refine lv_aload_n hx hb d_Loads_findNextToShed_35 rfl (lv_at hl 0 rfl) ?_
            refine hk_get (v := .ref a1) C hP 0 3 0 i_Loads rfl rfl (by decide) (hk_in (by decide +kernel) rfl) rfl d_Loads_findNextToShed_36 ?_
            refine lv_iload_n hx hb d_Loads_findNextToShed_39 rfl (lv_at hl 2 rfl) ?_
            refine hk_ild C hP 1 0 (v := (l0 u) k) rfl rfl (vp_in_nI (by omega) (by decide)) (congrArg _ (nI_clamp (by omega))) d_Loads_findNextToShed_40 ?_
            refine lv_aload_n hx hb d_Loads_findNextToShed_41 rfl (lv_at hl 0 rfl) ?_
            refine hk_get (v := .ref a1) C hP 0 3 0 i_Loads rfl rfl (by decide) (hk_in (by decide +kernel) rfl) rfl d_Loads_findNextToShed_42 ?_
            refine lv_iload_n hx hb d_Loads_findNextToShed_45 rfl (lv_at hl 1 rfl) ?_
            refine hk_ild C hP 1 0 (v := (l0 u) (li_Loads_findNextToShed_4 u k).toNatClampNeg) rfl rfl (hk_in12 hf c_3) rfl d_Loads_findNextToShed_46 ?_
            refine lv_icmp_lt (tgt := 52) hx hb d_Loads_findNextToShed_47 (by decide) (fun c_4 => ?_) (fun c_4 => ?_)
            · skip
              refine lv_iinc (v := nI (k + 1)) (lv' := [(2, .int (nI (k + 1))), (0, .ref a0), (1, .int (li_Loads_findNextToShed_4 u k))]) hx hb d_Loads_findNextToShed_52 hl (k := 2) rfl (nI_1 k) (by decide) rfl (fun ls hl => ?_)
              refine lv_goto (tgt := 4) hx hb d_Loads_findNextToShed_55 (by decide) ?_
              have e : li_Loads_findNextToShed_4 u (k + 1) = (li_Loads_findNextToShed_4 u k) := (if_pos c_1).trans ((if_pos c_2).trans ((if_neg c_3).trans ((if_pos c_4).trans (rfl))))
              exact ih (k + 1) hlt (by omega) _ _ _ hP hD hS (by rw [e]; exact lv_sub hl [1, 2, 0] rfl)
            · skip
              refine lv_iload_n hx hb d_Loads_findNextToShed_50 rfl (lv_at hl 2 rfl) ?_
              refine lv_istore_n (lv' := [(1, .int (nI k)), (0, .ref a0), (2, .int (nI k))]) hx hb d_Loads_findNextToShed_51 rfl hl (by decide) rfl (fun ls hl => ?_)
              refine lv_iinc (v := nI (k + 1)) (lv' := [(2, .int (nI (k + 1))), (1, .int (nI k)), (0, .ref a0)]) hx hb d_Loads_findNextToShed_52 hl (k := 2) rfl (nI_1 k) (by decide) rfl (fun ls hl => ?_)
              refine lv_goto (tgt := 4) hx hb d_Loads_findNextToShed_55 (by decide) ?_
              have e : li_Loads_findNextToShed_4 u (k + 1) = nI k := (if_pos c_1).trans ((if_pos c_2).trans ((if_neg c_3).trans ((if_neg c_4).trans (rfl))))
              exact ih (k + 1) hlt (by omega) _ _ _ hP hD hS (by rw [e]; exact lv_sub hl [2, 1, 0] rfl)
set_option maxHeartbeats 4000000 in
set_option maxRecDepth 100000 in
theorem c_Loads_findNextToShed (l : Launch) (G : hk_G) (a0 a1 a2 a3 : Nat) (u : cL) (hI : IL u) : hk_I l G y_Loads_findNextToShed b_Loads_findNextToShed 3 (some .int) rm_Loads_findNextToShed [.ref a0] (wL G a0 a1 a2 a3 u) (m_Loads_findNextToShed u) (wL G a0 a1 a2 a3 u) := by
  refine hk_I_of (by decide) (Nat.le_of_ble_eq_true rfl) ?_
  intro p e s m below meth c A ls C hAe hA hP hD hS hl
  have hx := C.1
  have hb := C.2.1
  have hown := C.2.2.2.2.1
  have hts := C.2.2.2.2.2.1
  have hE := C.2.2.2.2.2.2.2
  have hl : lv_has ls 3 [(0, .ref a0)] := hl
  refine lv_iconst (v := (-1 : Int32)) hx hb d_Loads_findNextToShed_0 (by decide) ?_
  refine lv_istore_n (lv' := [(1, .int (-1 : Int32)), (0, .ref a0)]) hx hb d_Loads_findNextToShed_1 rfl hl (by decide) rfl (fun ls hl => ?_)
  refine lv_iconst (v := (0 : Int32)) hx hb d_Loads_findNextToShed_2 (by decide) ?_
  refine lv_istore_n (lv' := [(2, .int (0 : Int32)), (1, .int (-1 : Int32)), (0, .ref a0)]) hx hb d_Loads_findNextToShed_3 rfl hl (by decide) rfl (fun ls hl => ?_)
  refine lp_Loads_findNextToShed_4 G a0 a1 a2 a3 u hI C hA ((l3 u).toNatClampNeg) (Nat.lt_of_le_of_lt hI.1 (by decide)) hI.2 hI.1 (fun H locs ls hP hD hS hl => ?_) (((l3 u).toNatClampNeg) + 1) 0 (Nat.zero_le _) (by omega) _ _ _ hP hD hS (lv_sub hl [2, 1, 0] rfl)
  refine lv_iload_n hx hb d_Loads_findNextToShed_58 rfl (lv_at hl 1 rfl) ?_
  have e : m_Loads_findNextToShed u = li_Loads_findNextToShed_4 u ((l3 u).toNatClampNeg) := rfl
  exact hk_ri C hAe hP hD hS e.symm rfl d_Loads_findNextToShed_59
theorem Y_Loads_findNextToRestore : hk_Y y_Loads_findNextToRestore b_Loads_findNextToRestore 3 (some .int) 0 := ⟨hk_in (by decide +kernel) rfl, hk_in (by decide +kernel) rfl, hk_in (by decide +kernel) rfl, hk_in (List.mem_of_getElem? (i := 363) rfl) rfl, by decide, by decide, by decide +kernel⟩
abbrev rm_Loads_findNextToRestore : Room := { frames := 0, cells := 0, slots := 0, locals := 0 }
set_option maxHeartbeats 4000000 in
set_option maxRecDepth 100000 in
theorem lp_Loads_findNextToRestore_4 {p : Program} {l : Launch} {e : Env} {s : State} {m : MethodId} {below : List Frame} {meth : Method} {c : Code} {A : Nat → Prop} {Q : State → Prop} (G : hk_G) (a0 a1 a2 a3 : Nat) (u : cL) (hI : IL u) (C : hk_C p s m meth c R_Loads b_Loads_findNextToRestore 3 (some .int) ([.ref a0] : List Value).toArray G) (hA : ∀ q : Nat, s.heap.size ≤ q → A q) (n : Nat) (hn : n < 2 ^ 31) (hbn : l3 u = nI n) (hn12 : n ≤ 12)
    (kx : ∀ (H : Heap) (locs : List Loc) (ls : Array Slot), va_P (hk_D G) classes (wL G a0 a1 a2 a3 u) H → va_D A (wL G a0 a1 a2 a3 u) → va_S A s.heap H locs → lv_has ls 3 [(0, .ref a0), (1, .int (li_Loads_findNextToRestore_4 u n)), (2, .int (nI n))] → W p l e rm_Loads_findNextToRestore s m ([.ref a0] : List Value).toArray below meth c H locs 0 0 Q (F0 m 49 ls [])) :
    ∀ (j k : Nat), k ≤ n → n + 1 ≤ k + j → ∀ (H : Heap) (locs : List Loc) (ls : Array Slot), va_P (hk_D G) classes (wL G a0 a1 a2 a3 u) H → va_D A (wL G a0 a1 a2 a3 u) → va_S A s.heap H locs → lv_has ls 3 [(0, .ref a0), (1, .int (li_Loads_findNextToRestore_4 u k)), (2, .int (nI k))] → W p l e rm_Loads_findNextToRestore s m ([.ref a0] : List Value).toArray below meth c H locs 0 0 Q (F0 m 4 ls []) := by
  have hx := C.1
  have hb := C.2.1
  have hown := C.2.2.2.2.1
  have hts := C.2.2.2.2.2.1
  have hE := C.2.2.2.2.2.2.2
  intro j
  induction j with
  | zero =>
    intro k h1 h2
    exact absurd h2 (by omega)
  | succ j ih =>
    intro k hkn hj H locs ls hP hD hS hl
    refine lv_iload_n hx hb d_Loads_findNextToRestore_4 rfl (lv_at hl 2 rfl) ?_
    refine lv_aload_n hx hb d_Loads_findNextToRestore_5 rfl (lv_at hl 0 rfl) ?_
    refine hk_get (v := .int (l3 u)) C hP 0 3 3 i_Loads rfl rfl (by decide) (hk_in (by decide +kernel) rfl) rfl d_Loads_findNextToRestore_6 ?_
    refine lv_icmp_ge (tgt := 49) hx hb d_Loads_findNextToRestore_9 (by decide) (fun c_0 => ?_) (fun c_0 => ?_)
    · obtain rfl := hk_exit (n := n) hbn hn hkn c_0
      exact kx H locs ls hP hD hS (lv_sub hl [0, 1, 2] rfl)
    · have hlt := hk_stay (n := n) hbn hn hkn c_0
      have hf := fd_rest u k (by omega)
      refine lv_aload_n hx hb d_Loads_findNextToRestore_12 rfl (lv_at hl 0 rfl) ?_
      refine hk_get (v := .ref a3) C hP 0 3 2 i_Loads rfl rfl (by decide) (hk_in (by decide +kernel) rfl) rfl d_Loads_findNextToRestore_13 ?_
      refine lv_iload_n hx hb d_Loads_findNextToRestore_16 rfl (lv_at hl 2 rfl) ?_
      refine hk_zld C hP 3 1 (v := (l2 u) k) rfl rfl (vp_in_nI (by omega) (by decide)) (congrArg _ (nI_clamp (by omega))) d_Loads_findNextToRestore_17 ?_
      refine lv_if_eq (tgt := 43) hx hb d_Loads_findNextToRestore_18 (by decide) (fun c_1 => ?_) (fun c_1 => ?_)
      · skip
        refine lv_iinc (v := nI (k + 1)) (lv' := [(2, .int (nI (k + 1))), (0, .ref a0), (1, .int (li_Loads_findNextToRestore_4 u k))]) hx hb d_Loads_findNextToRestore_43 hl (k := 2) rfl (nI_1 k) (by decide) rfl (fun ls hl => ?_)
        refine lv_goto (tgt := 4) hx hb d_Loads_findNextToRestore_46 (by decide) ?_
        have e : li_Loads_findNextToRestore_4 u (k + 1) = (li_Loads_findNextToRestore_4 u k) := (if_pos c_1).trans (rfl)
        exact ih (k + 1) hlt (by omega) _ _ _ hP hD hS (by rw [e]; exact lv_sub hl [1, 2, 0] rfl)
      · skip
        refine lv_iload_n hx hb d_Loads_findNextToRestore_21 rfl (lv_at hl 1 rfl) ?_
        refine lv_iconst (v := (-1 : Int32)) hx hb d_Loads_findNextToRestore_22 (by decide) ?_
        refine lv_icmp_eq (tgt := 41) hx hb d_Loads_findNextToRestore_23 (by decide) (fun c_2 => ?_) (fun c_2 => ?_)
        · skip
          refine lv_iload_n hx hb d_Loads_findNextToRestore_41 rfl (lv_at hl 2 rfl) ?_
          refine lv_istore_n (lv' := [(1, .int (nI k)), (0, .ref a0), (2, .int (nI k))]) hx hb d_Loads_findNextToRestore_42 rfl hl (by decide) rfl (fun ls hl => ?_)
          refine lv_iinc (v := nI (k + 1)) (lv' := [(2, .int (nI (k + 1))), (1, .int (nI k)), (0, .ref a0)]) hx hb d_Loads_findNextToRestore_43 hl (k := 2) rfl (nI_1 k) (by decide) rfl (fun ls hl => ?_)
          refine lv_goto (tgt := 4) hx hb d_Loads_findNextToRestore_46 (by decide) ?_
          have e : li_Loads_findNextToRestore_4 u (k + 1) = nI k := (if_neg c_1).trans ((if_pos c_2).trans (rfl))
          exact ih (k + 1) hlt (by omega) _ _ _ hP hD hS (by rw [e]; exact lv_sub hl [2, 1, 0] rfl)
        · skip
          refine lv_aload_n hx hb d_Loads_findNextToRestore_26 rfl (lv_at hl 0 rfl) ?_
          refine hk_get (v := .ref a1) C hP 0 3 0 i_Loads rfl rfl (by decide) (hk_in (by decide +kernel) rfl) rfl d_Loads_findNextToRestore_27 ?_
          refine lv_iload_n hx hb d_Loads_findNextToRestore_30 rfl (lv_at hl 2 rfl) ?_
          refine hk_ild C hP 1 0 (v := (l0 u) k) rfl rfl (vp_in_nI (by omega) (by decide)) (congrArg _ (nI_clamp (by omega))) d_Loads_findNextToRestore_31 ?_
          refine lv_aload_n hx hb d_Loads_findNextToRestore_32 rfl (lv_at hl 0 rfl) ?_
          refine hk_get (v := .ref a1) C hP 0 3 0 i_Loads rfl rfl (by decide) (hk_in (by decide +kernel) rfl) rfl d_Loads_findNextToRestore_33 ?_
          refine lv_iload_n hx hb d_Loads_findNextToRestore_36 rfl (lv_at hl 1 rfl) ?_
          refine hk_ild C hP 1 0 (v := (l0 u) (li_Loads_findNextToRestore_4 u k).toNatClampNeg) rfl rfl (hk_in12 hf c_2) rfl d_Loads_findNextToRestore_37 ?_
          refine lv_icmp_ge (tgt := 43) hx hb d_Loads_findNextToRestore_38 (by decide) (fun c_3 => ?_) (fun c_3 => ?_)
          · skip
            refine lv_iinc (v := nI (k + 1)) (lv' := [(2, .int (nI (k + 1))), (0, .ref a0), (1, .int (li_Loads_findNextToRestore_4 u k))]) hx hb d_Loads_findNextToRestore_43 hl (k := 2) rfl (nI_1 k) (by decide) rfl (fun ls hl => ?_)
            refine lv_goto (tgt := 4) hx hb d_Loads_findNextToRestore_46 (by decide) ?_
            have e : li_Loads_findNextToRestore_4 u (k + 1) = (li_Loads_findNextToRestore_4 u k) := (if_neg c_1).trans ((if_neg c_2).trans ((if_pos c_3).trans (rfl)))
            exact ih (k + 1) hlt (by omega) _ _ _ hP hD hS (by rw [e]; exact lv_sub hl [1, 2, 0] rfl)
          · skip
            refine lv_iload_n hx hb d_Loads_findNextToRestore_41 rfl (lv_at hl 2 rfl) ?_
            refine lv_istore_n (lv' := [(1, .int (nI k)), (0, .ref a0), (2, .int (nI k))]) hx hb d_Loads_findNextToRestore_42 rfl hl (by decide) rfl (fun ls hl => ?_)
            refine lv_iinc (v := nI (k + 1)) (lv' := [(2, .int (nI (k + 1))), (1, .int (nI k)), (0, .ref a0)]) hx hb d_Loads_findNextToRestore_43 hl (k := 2) rfl (nI_1 k) (by decide) rfl (fun ls hl => ?_)
            refine lv_goto (tgt := 4) hx hb d_Loads_findNextToRestore_46 (by decide) ?_
            have e : li_Loads_findNextToRestore_4 u (k + 1) = nI k := (if_neg c_1).trans ((if_neg c_2).trans ((if_neg c_3).trans (rfl)))
            exact ih (k + 1) hlt (by omega) _ _ _ hP hD hS (by rw [e]; exact lv_sub hl [2, 1, 0] rfl)
set_option maxHeartbeats 4000000 in
set_option maxRecDepth 100000 in
theorem c_Loads_findNextToRestore (l : Launch) (G : hk_G) (a0 a1 a2 a3 : Nat) (u : cL) (hI : IL u) : hk_I l G y_Loads_findNextToRestore b_Loads_findNextToRestore 3 (some .int) rm_Loads_findNextToRestore [.ref a0] (wL G a0 a1 a2 a3 u) (m_Loads_findNextToRestore u) (wL G a0 a1 a2 a3 u) := by
  refine hk_I_of (by decide) (Nat.le_of_ble_eq_true rfl) ?_
  intro p e s m below meth c A ls C hAe hA hP hD hS hl
  have hx := C.1
  have hb := C.2.1
  have hown := C.2.2.2.2.1
  have hts := C.2.2.2.2.2.1
  have hE := C.2.2.2.2.2.2.2
  have hl : lv_has ls 3 [(0, .ref a0)] := hl
  refine lv_iconst (v := (-1 : Int32)) hx hb d_Loads_findNextToRestore_0 (by decide) ?_
  refine lv_istore_n (lv' := [(1, .int (-1 : Int32)), (0, .ref a0)]) hx hb d_Loads_findNextToRestore_1 rfl hl (by decide) rfl (fun ls hl => ?_)
  refine lv_iconst (v := (0 : Int32)) hx hb d_Loads_findNextToRestore_2 (by decide) ?_
  refine lv_istore_n (lv' := [(2, .int (0 : Int32)), (1, .int (-1 : Int32)), (0, .ref a0)]) hx hb d_Loads_findNextToRestore_3 rfl hl (by decide) rfl (fun ls hl => ?_)
  refine lp_Loads_findNextToRestore_4 G a0 a1 a2 a3 u hI C hA ((l3 u).toNatClampNeg) (Nat.lt_of_le_of_lt hI.1 (by decide)) hI.2 hI.1 (fun H locs ls hP hD hS hl => ?_) (((l3 u).toNatClampNeg) + 1) 0 (Nat.zero_le _) (by omega) _ _ _ hP hD hS (lv_sub hl [2, 1, 0] rfl)
  refine lv_iload_n hx hb d_Loads_findNextToRestore_49 rfl (lv_at hl 1 rfl) ?_
  have e : m_Loads_findNextToRestore u = li_Loads_findNextToRestore_4 u ((l3 u).toNatClampNeg) := rfl
  exact hk_ri C hAe hP hD hS e.symm rfl d_Loads_findNextToRestore_50
end
section
theorem Y_Loads_measure : hk_Y y_Loads_measure b_Loads_measure 2 none 1 := ⟨hk_in (by decide +kernel) rfl, hk_in (by decide +kernel) rfl, hk_in (by decide +kernel) rfl, hk_in (List.mem_of_getElem? (i := 351) rfl) rfl, by decide, by decide, by decide +kernel⟩
abbrev rm_Loads_measure : Room := { frames := 1, cells := 0, slots := 0, locals := 22 }
set_option maxHeartbeats 4000000 in
set_option maxRecDepth 100000 in
theorem c_Loads_measure (l : Launch) (G : hk_G) (a0 a1 a2 a3 : Nat) (u : cL) (p1 : Int32) (hI : IL u) : hk_V l G y_Loads_measure b_Loads_measure 2 rm_Loads_measure [.ref a0, .int p1] (wL G a0 a1 a2 a3 u) (wL G a0 a1 a2 a3 (m_Loads_measure p1 u)) := by
  refine hk_V_of (by decide) (Nat.le_of_ble_eq_true rfl) ?_
  intro p e s m below meth c A ls C hAe hA hP hD hS hl
  have hx := C.1
  have hb := C.2.1
  have hown := C.2.2.2.2.1
  have hts := C.2.2.2.2.2.1
  have hE := C.2.2.2.2.2.2.2
  have hl : lv_has ls 2 [(0, .ref a0), (1, .int p1)] := hl
  refine lv_aload_n hx hb d_Loads_measure_0 rfl (lv_at hl 0 rfl) ?_
  refine lv_iload_n hx hb d_Loads_measure_1 rfl (lv_at hl 1 rfl) ?_
  refine lv_sipush (v := (11500 : Int32)) hx hb d_Loads_measure_2 (by decide) ?_
  refine lv_icmp_ge (tgt := 17) hx hb d_Loads_measure_5 (by decide) (fun c_1 => ?_) (fun c_1 => ?_)
  · skip
    refine lv_iconst (v := (0 : Int32)) hx hb d_Loads_measure_17 (by decide) ?_
    refine hk_put (w2 := wL G a0 a1 a2 a3 (f_Loads_measure_18 u)) (v := .int (0 : Int32)) (ty := .int) C hP hD hS 0 3 4 i_Loads t_Loads_ok n_Loads rfl rfl (by decide) (hk_in (by decide +kernel) rfl) rfl (by decide +kernel) rfl rfl (Nat.le_of_ble_eq_true rfl) rfl d_Loads_measure_18 (fun H locs hP hD hS => ?_)
    have hI1 : IL (f_Loads_measure_18 u) := (IL_of (k3_f_Loads_measure_18 _) hI)
    generalize hU1 : (f_Loads_measure_18 u) = U1 at hP hD hI1
    refine lv_aload_n hx hb d_Loads_measure_21 rfl (lv_at hl 0 rfl) ?_
    refine lv_iload_n hx hb d_Loads_measure_22 rfl (lv_at hl 1 rfl) ?_
    refine lv_sipush (v := (12500 : Int32)) hx hb d_Loads_measure_23 (by decide) ?_
    refine lv_icmp_le (tgt := 38) hx hb d_Loads_measure_26 (by decide) (fun c_2 => ?_) (fun c_2 => ?_)
    · skip
      refine lv_iconst (v := (0 : Int32)) hx hb d_Loads_measure_38 (by decide) ?_
      refine hk_put (w2 := wL G a0 a1 a2 a3 (f_Loads_measure_39 U1)) (v := .int (0 : Int32)) (ty := .int) C hP hD hS 0 3 5 i_Loads t_Loads_ok n_Loads rfl rfl (by decide) (hk_in (by decide +kernel) rfl) rfl (by decide +kernel) rfl rfl (Nat.le_of_ble_eq_true rfl) rfl d_Loads_measure_39 (fun H locs hP hD hS => ?_)
      have hI2 : IL (f_Loads_measure_39 U1) := (IL_of (k3_f_Loads_measure_39 _) hI1)
      generalize hU2 : (f_Loads_measure_39 U1) = U2 at hP hD hI2
      refine lv_aload_n hx hb d_Loads_measure_42 rfl (lv_at hl 0 rfl) ?_
      refine hk_get (v := .int (l4 U2)) C hP 0 3 4 i_Loads rfl rfl (by decide) (hk_in (by decide +kernel) rfl) rfl d_Loads_measure_43 ?_
      refine lv_iconst (v := (3 : Int32)) hx hb d_Loads_measure_46 (by decide) ?_
      refine lv_icmp_lt (tgt := 64) hx hb d_Loads_measure_47 (by decide) (fun c_3 => ?_) (fun c_3 => ?_)
      · skip
        refine lv_aload_n hx hb d_Loads_measure_64 rfl (lv_at hl 0 rfl) ?_
        refine hk_get (v := .int (l5 U2)) C hP 0 3 5 i_Loads rfl rfl (by decide) (hk_in (by decide +kernel) rfl) rfl d_Loads_measure_65 ?_
        refine lv_iconst (v := (3 : Int32)) hx hb d_Loads_measure_68 (by decide) ?_
        refine lv_icmp_lt (tgt := 86) hx hb d_Loads_measure_69 (by decide) (fun c_4 => ?_) (fun c_4 => ?_)
        · skip
          subst hU1 hU2
          have e : m_Loads_measure p1 u = (f_Loads_measure_39 (f_Loads_measure_18 u)) := (if_pos c_1).trans ((if_pos c_2).trans ((if_pos c_3).trans ((if_pos c_4).trans (rfl))))
          exact hk_rv C hAe hP hD hS (by rw [e]) d_Loads_measure_86
        · skip
          refine lv_aload_n hx hb d_Loads_measure_72 rfl (lv_at hl 0 rfl) ?_
          refine lv_iconst (v := (0 : Int32)) hx hb d_Loads_measure_73 (by decide) ?_
          refine hk_put (w2 := wL G a0 a1 a2 a3 (f_Loads_measure_74 U2)) (v := .int (0 : Int32)) (ty := .int) C hP hD hS 0 3 5 i_Loads t_Loads_ok n_Loads rfl rfl (by decide) (hk_in (by decide +kernel) rfl) rfl (by decide +kernel) rfl rfl (Nat.le_of_ble_eq_true rfl) rfl d_Loads_measure_74 (fun H locs hP hD hS => ?_)
          have hI3 : IL (f_Loads_measure_74 U2) := (IL_of (k3_f_Loads_measure_74 _) hI2)
          generalize hU3 : (f_Loads_measure_74 U2) = U3 at hP hD hI3
          refine lv_aload_n hx hb d_Loads_measure_77 rfl (lv_at hl 0 rfl) ?_
          refine lv_aload_n hx hb d_Loads_measure_78 rfl (lv_at hl 0 rfl) ?_
          refine hk_goI (hk_kV (k := 0) (As := []) (rest := [.ref a0]) C (c_Loads_findNextToRestore l G a0 a1 a2 a3 U3 hI3 _) Y_Loads_findNextToRestore (hk_in (by decide +kernel) rfl) rfl rfl ⟨Nat.le_of_ble_eq_true rfl, Nat.le_of_ble_eq_true rfl⟩ (va_recv hE.1 hP (ci := 3) (q0 := 0) rfl rfl) hP hD rfl hl.1 rfl (Nat.le_of_ble_eq_true rfl) d_Loads_measure_79 ⟨Nat.zero_le _, Nat.zero_le _⟩) hD hS hA (fun H locs hP hD hS => ?_)
          refine lv_iconst (v := (0 : Int32)) hx hb d_Loads_measure_82 (by decide) ?_
          refine hk_goV (hk_kV (k := 2) (As := [.int (m_Loads_findNextToRestore U3), .int (0 : Int32)]) (rest := []) C (c_Loads_setOff l G a0 a1 a2 a3 U3 (m_Loads_findNextToRestore U3) (0 : Int32) hI3 (Or.inl rfl) (fr_rest hI3) _) Y_Loads_setOff (hk_in (by decide +kernel) rfl) rfl rfl ⟨Nat.le_of_ble_eq_true rfl, Nat.le_of_ble_eq_true rfl⟩ (va_recv hE.1 hP (ci := 3) (q0 := 0) rfl rfl) hP hD rfl hl.1 rfl (Nat.le_of_ble_eq_true rfl) d_Loads_measure_83 ⟨Nat.zero_le _, Nat.zero_le _⟩) hD hS hA (fun H locs hP hD hS => ?_)
          have hI4 : IL (m_Loads_setOff (m_Loads_findNextToRestore U3) (0 : Int32) U3) := (km_Loads_setOff hI3)
          generalize hU4 : (m_Loads_setOff (m_Loads_findNextToRestore U3) (0 : Int32) U3) = U4 at hP hD hI4
          subst hU1 hU2 hU3 hU4
          have e : m_Loads_measure p1 u = (m_Loads_setOff (m_Loads_findNextToRestore (f_Loads_measure_74 (f_Loads_measure_39 (f_Loads_measure_18 u)))) (0 : Int32) (f_Loads_measure_74 (f_Loads_measure_39 (f_Loads_measure_18 u)))) := (if_pos c_1).trans ((if_pos c_2).trans ((if_pos c_3).trans ((if_neg c_4).trans (rfl))))
          exact hk_rv C hAe hP hD hS (by rw [e]) d_Loads_measure_86
      · skip
        refine lv_aload_n hx hb d_Loads_measure_50 rfl (lv_at hl 0 rfl) ?_
        refine lv_iconst (v := (0 : Int32)) hx hb d_Loads_measure_51 (by decide) ?_
        refine hk_put (w2 := wL G a0 a1 a2 a3 (f_Loads_measure_52 U2)) (v := .int (0 : Int32)) (ty := .int) C hP hD hS 0 3 4 i_Loads t_Loads_ok n_Loads rfl rfl (by decide) (hk_in (by decide +kernel) rfl) rfl (by decide +kernel) rfl rfl (Nat.le_of_ble_eq_true rfl) rfl d_Loads_measure_52 (fun H locs hP hD hS => ?_)
        have hI5 : IL (f_Loads_measure_52 U2) := (IL_of (k3_f_Loads_measure_52 _) hI2)
        generalize hU5 : (f_Loads_measure_52 U2) = U5 at hP hD hI5
        refine lv_aload_n hx hb d_Loads_measure_55 rfl (lv_at hl 0 rfl) ?_
        refine lv_aload_n hx hb d_Loads_measure_56 rfl (lv_at hl 0 rfl) ?_
        refine hk_goI (hk_kV (k := 0) (As := []) (rest := [.ref a0]) C (c_Loads_findNextToShed l G a0 a1 a2 a3 U5 hI5 _) Y_Loads_findNextToShed (hk_in (by decide +kernel) rfl) rfl rfl ⟨Nat.le_of_ble_eq_true rfl, Nat.le_of_ble_eq_true rfl⟩ (va_recv hE.1 hP (ci := 3) (q0 := 0) rfl rfl) hP hD rfl hl.1 rfl (Nat.le_of_ble_eq_true rfl) d_Loads_measure_57 ⟨Nat.zero_le _, Nat.zero_le _⟩) hD hS hA (fun H locs hP hD hS => ?_)
        refine lv_iconst (v := (1 : Int32)) hx hb d_Loads_measure_60 (by decide) ?_
        refine hk_goV (hk_kV (k := 2) (As := [.int (m_Loads_findNextToShed U5), .int (1 : Int32)]) (rest := []) C (c_Loads_setOff l G a0 a1 a2 a3 U5 (m_Loads_findNextToShed U5) (1 : Int32) hI5 (Or.inr rfl) (fr_shed hI5) _) Y_Loads_setOff (hk_in (by decide +kernel) rfl) rfl rfl ⟨Nat.le_of_ble_eq_true rfl, Nat.le_of_ble_eq_true rfl⟩ (va_recv hE.1 hP (ci := 3) (q0 := 0) rfl rfl) hP hD rfl hl.1 rfl (Nat.le_of_ble_eq_true rfl) d_Loads_measure_61 ⟨Nat.zero_le _, Nat.zero_le _⟩) hD hS hA (fun H locs hP hD hS => ?_)
        have hI6 : IL (m_Loads_setOff (m_Loads_findNextToShed U5) (1 : Int32) U5) := (km_Loads_setOff hI5)
        generalize hU6 : (m_Loads_setOff (m_Loads_findNextToShed U5) (1 : Int32) U5) = U6 at hP hD hI6
        refine lv_aload_n hx hb d_Loads_measure_64 rfl (lv_at hl 0 rfl) ?_
        refine hk_get (v := .int (l5 U6)) C hP 0 3 5 i_Loads rfl rfl (by decide) (hk_in (by decide +kernel) rfl) rfl d_Loads_measure_65 ?_
        refine lv_iconst (v := (3 : Int32)) hx hb d_Loads_measure_68 (by decide) ?_
        refine lv_icmp_lt (tgt := 86) hx hb d_Loads_measure_69 (by decide) (fun c_5 => ?_) (fun c_5 => ?_)
        · skip
          subst hU1 hU2 hU5 hU6
          have e : m_Loads_measure p1 u = (m_Loads_setOff (m_Loads_findNextToShed (f_Loads_measure_52 (f_Loads_measure_39 (f_Loads_measure_18 u)))) (1 : Int32) (f_Loads_measure_52 (f_Loads_measure_39 (f_Loads_measure_18 u)))) := (if_pos c_1).trans ((if_pos c_2).trans ((if_neg c_3).trans ((if_pos c_5).trans (rfl))))
          exact hk_rv C hAe hP hD hS (by rw [e]) d_Loads_measure_86
        · skip
          refine lv_aload_n hx hb d_Loads_measure_72 rfl (lv_at hl 0 rfl) ?_
          refine lv_iconst (v := (0 : Int32)) hx hb d_Loads_measure_73 (by decide) ?_
          refine hk_put (w2 := wL G a0 a1 a2 a3 (f_Loads_measure_74 U6)) (v := .int (0 : Int32)) (ty := .int) C hP hD hS 0 3 5 i_Loads t_Loads_ok n_Loads rfl rfl (by decide) (hk_in (by decide +kernel) rfl) rfl (by decide +kernel) rfl rfl (Nat.le_of_ble_eq_true rfl) rfl d_Loads_measure_74 (fun H locs hP hD hS => ?_)
          have hI7 : IL (f_Loads_measure_74 U6) := (IL_of (k3_f_Loads_measure_74 _) hI6)
          generalize hU7 : (f_Loads_measure_74 U6) = U7 at hP hD hI7
          refine lv_aload_n hx hb d_Loads_measure_77 rfl (lv_at hl 0 rfl) ?_
          refine lv_aload_n hx hb d_Loads_measure_78 rfl (lv_at hl 0 rfl) ?_
          refine hk_goI (hk_kV (k := 0) (As := []) (rest := [.ref a0]) C (c_Loads_findNextToRestore l G a0 a1 a2 a3 U7 hI7 _) Y_Loads_findNextToRestore (hk_in (by decide +kernel) rfl) rfl rfl ⟨Nat.le_of_ble_eq_true rfl, Nat.le_of_ble_eq_true rfl⟩ (va_recv hE.1 hP (ci := 3) (q0 := 0) rfl rfl) hP hD rfl hl.1 rfl (Nat.le_of_ble_eq_true rfl) d_Loads_measure_79 ⟨Nat.zero_le _, Nat.zero_le _⟩) hD hS hA (fun H locs hP hD hS => ?_)
          refine lv_iconst (v := (0 : Int32)) hx hb d_Loads_measure_82 (by decide) ?_
          refine hk_goV (hk_kV (k := 2) (As := [.int (m_Loads_findNextToRestore U7), .int (0 : Int32)]) (rest := []) C (c_Loads_setOff l G a0 a1 a2 a3 U7 (m_Loads_findNextToRestore U7) (0 : Int32) hI7 (Or.inl rfl) (fr_rest hI7) _) Y_Loads_setOff (hk_in (by decide +kernel) rfl) rfl rfl ⟨Nat.le_of_ble_eq_true rfl, Nat.le_of_ble_eq_true rfl⟩ (va_recv hE.1 hP (ci := 3) (q0 := 0) rfl rfl) hP hD rfl hl.1 rfl (Nat.le_of_ble_eq_true rfl) d_Loads_measure_83 ⟨Nat.zero_le _, Nat.zero_le _⟩) hD hS hA (fun H locs hP hD hS => ?_)
          have hI8 : IL (m_Loads_setOff (m_Loads_findNextToRestore U7) (0 : Int32) U7) := (km_Loads_setOff hI7)
          generalize hU8 : (m_Loads_setOff (m_Loads_findNextToRestore U7) (0 : Int32) U7) = U8 at hP hD hI8
          subst hU1 hU2 hU5 hU6 hU7 hU8
          have e : m_Loads_measure p1 u = (m_Loads_setOff (m_Loads_findNextToRestore (f_Loads_measure_74 (m_Loads_setOff (m_Loads_findNextToShed (f_Loads_measure_52 (f_Loads_measure_39 (f_Loads_measure_18 u)))) (1 : Int32) (f_Loads_measure_52 (f_Loads_measure_39 (f_Loads_measure_18 u)))))) (0 : Int32) (f_Loads_measure_74 (m_Loads_setOff (m_Loads_findNextToShed (f_Loads_measure_52 (f_Loads_measure_39 (f_Loads_measure_18 u)))) (1 : Int32) (f_Loads_measure_52 (f_Loads_measure_39 (f_Loads_measure_18 u)))))) := (if_pos c_1).trans ((if_pos c_2).trans ((if_neg c_3).trans ((if_neg c_5).trans (rfl))))
          exact hk_rv C hAe hP hD hS (by rw [e]) d_Loads_measure_86
    · skip
      refine lv_aload_n hx hb d_Loads_measure_29 rfl (lv_at hl 0 rfl) ?_
      refine hk_get (v := .int (l5 U1)) C hP 0 3 5 i_Loads rfl rfl (by decide) (hk_in (by decide +kernel) rfl) rfl d_Loads_measure_30 ?_
      refine lv_iconst (v := (1 : Int32)) hx hb d_Loads_measure_33 (by decide) ?_
      refine lv_iadd hx hb d_Loads_measure_34 ?_
      refine lv_goto (tgt := 39) hx hb d_Loads_measure_35 (by decide) ?_
      refine hk_put (w2 := wL G a0 a1 a2 a3 (f_Loads_measure_39_1 U1)) (v := .int ((l5 U1) + (1 : Int32))) (ty := .int) C hP hD hS 0 3 5 i_Loads t_Loads_ok n_Loads rfl rfl (by decide) (hk_in (by decide +kernel) rfl) rfl (by decide +kernel) rfl rfl (Nat.le_of_ble_eq_true rfl) rfl d_Loads_measure_39 (fun H locs hP hD hS => ?_)
      have hI9 : IL (f_Loads_measure_39_1 U1) := (IL_of (k3_f_Loads_measure_39_1 _) hI1)
      generalize hU9 : (f_Loads_measure_39_1 U1) = U9 at hP hD hI9
      refine lv_aload_n hx hb d_Loads_measure_42 rfl (lv_at hl 0 rfl) ?_
      refine hk_get (v := .int (l4 U9)) C hP 0 3 4 i_Loads rfl rfl (by decide) (hk_in (by decide +kernel) rfl) rfl d_Loads_measure_43 ?_
      refine lv_iconst (v := (3 : Int32)) hx hb d_Loads_measure_46 (by decide) ?_
      refine lv_icmp_lt (tgt := 64) hx hb d_Loads_measure_47 (by decide) (fun c_6 => ?_) (fun c_6 => ?_)
      · skip
        refine lv_aload_n hx hb d_Loads_measure_64 rfl (lv_at hl 0 rfl) ?_
        refine hk_get (v := .int (l5 U9)) C hP 0 3 5 i_Loads rfl rfl (by decide) (hk_in (by decide +kernel) rfl) rfl d_Loads_measure_65 ?_
        refine lv_iconst (v := (3 : Int32)) hx hb d_Loads_measure_68 (by decide) ?_
        refine lv_icmp_lt (tgt := 86) hx hb d_Loads_measure_69 (by decide) (fun c_7 => ?_) (fun c_7 => ?_)
        · skip
          subst hU1 hU9
          have e : m_Loads_measure p1 u = (f_Loads_measure_39_1 (f_Loads_measure_18 u)) := (if_pos c_1).trans ((if_neg c_2).trans ((if_pos c_6).trans ((if_pos c_7).trans (rfl))))
          exact hk_rv C hAe hP hD hS (by rw [e]) d_Loads_measure_86
        · skip
          refine lv_aload_n hx hb d_Loads_measure_72 rfl (lv_at hl 0 rfl) ?_
          refine lv_iconst (v := (0 : Int32)) hx hb d_Loads_measure_73 (by decide) ?_
          refine hk_put (w2 := wL G a0 a1 a2 a3 (f_Loads_measure_74 U9)) (v := .int (0 : Int32)) (ty := .int) C hP hD hS 0 3 5 i_Loads t_Loads_ok n_Loads rfl rfl (by decide) (hk_in (by decide +kernel) rfl) rfl (by decide +kernel) rfl rfl (Nat.le_of_ble_eq_true rfl) rfl d_Loads_measure_74 (fun H locs hP hD hS => ?_)
          have hI10 : IL (f_Loads_measure_74 U9) := (IL_of (k3_f_Loads_measure_74 _) hI9)
          generalize hU10 : (f_Loads_measure_74 U9) = U10 at hP hD hI10
          refine lv_aload_n hx hb d_Loads_measure_77 rfl (lv_at hl 0 rfl) ?_
          refine lv_aload_n hx hb d_Loads_measure_78 rfl (lv_at hl 0 rfl) ?_
          refine hk_goI (hk_kV (k := 0) (As := []) (rest := [.ref a0]) C (c_Loads_findNextToRestore l G a0 a1 a2 a3 U10 hI10 _) Y_Loads_findNextToRestore (hk_in (by decide +kernel) rfl) rfl rfl ⟨Nat.le_of_ble_eq_true rfl, Nat.le_of_ble_eq_true rfl⟩ (va_recv hE.1 hP (ci := 3) (q0 := 0) rfl rfl) hP hD rfl hl.1 rfl (Nat.le_of_ble_eq_true rfl) d_Loads_measure_79 ⟨Nat.zero_le _, Nat.zero_le _⟩) hD hS hA (fun H locs hP hD hS => ?_)
          refine lv_iconst (v := (0 : Int32)) hx hb d_Loads_measure_82 (by decide) ?_
          refine hk_goV (hk_kV (k := 2) (As := [.int (m_Loads_findNextToRestore U10), .int (0 : Int32)]) (rest := []) C (c_Loads_setOff l G a0 a1 a2 a3 U10 (m_Loads_findNextToRestore U10) (0 : Int32) hI10 (Or.inl rfl) (fr_rest hI10) _) Y_Loads_setOff (hk_in (by decide +kernel) rfl) rfl rfl ⟨Nat.le_of_ble_eq_true rfl, Nat.le_of_ble_eq_true rfl⟩ (va_recv hE.1 hP (ci := 3) (q0 := 0) rfl rfl) hP hD rfl hl.1 rfl (Nat.le_of_ble_eq_true rfl) d_Loads_measure_83 ⟨Nat.zero_le _, Nat.zero_le _⟩) hD hS hA (fun H locs hP hD hS => ?_)
          have hI11 : IL (m_Loads_setOff (m_Loads_findNextToRestore U10) (0 : Int32) U10) := (km_Loads_setOff hI10)
          generalize hU11 : (m_Loads_setOff (m_Loads_findNextToRestore U10) (0 : Int32) U10) = U11 at hP hD hI11
          subst hU1 hU9 hU10 hU11
          have e : m_Loads_measure p1 u = (m_Loads_setOff (m_Loads_findNextToRestore (f_Loads_measure_74 (f_Loads_measure_39_1 (f_Loads_measure_18 u)))) (0 : Int32) (f_Loads_measure_74 (f_Loads_measure_39_1 (f_Loads_measure_18 u)))) := (if_pos c_1).trans ((if_neg c_2).trans ((if_pos c_6).trans ((if_neg c_7).trans (rfl))))
          exact hk_rv C hAe hP hD hS (by rw [e]) d_Loads_measure_86
      · skip
        refine lv_aload_n hx hb d_Loads_measure_50 rfl (lv_at hl 0 rfl) ?_
        refine lv_iconst (v := (0 : Int32)) hx hb d_Loads_measure_51 (by decide) ?_
        refine hk_put (w2 := wL G a0 a1 a2 a3 (f_Loads_measure_52 U9)) (v := .int (0 : Int32)) (ty := .int) C hP hD hS 0 3 4 i_Loads t_Loads_ok n_Loads rfl rfl (by decide) (hk_in (by decide +kernel) rfl) rfl (by decide +kernel) rfl rfl (Nat.le_of_ble_eq_true rfl) rfl d_Loads_measure_52 (fun H locs hP hD hS => ?_)
        have hI12 : IL (f_Loads_measure_52 U9) := (IL_of (k3_f_Loads_measure_52 _) hI9)
        generalize hU12 : (f_Loads_measure_52 U9) = U12 at hP hD hI12
        refine lv_aload_n hx hb d_Loads_measure_55 rfl (lv_at hl 0 rfl) ?_
        refine lv_aload_n hx hb d_Loads_measure_56 rfl (lv_at hl 0 rfl) ?_
        refine hk_goI (hk_kV (k := 0) (As := []) (rest := [.ref a0]) C (c_Loads_findNextToShed l G a0 a1 a2 a3 U12 hI12 _) Y_Loads_findNextToShed (hk_in (by decide +kernel) rfl) rfl rfl ⟨Nat.le_of_ble_eq_true rfl, Nat.le_of_ble_eq_true rfl⟩ (va_recv hE.1 hP (ci := 3) (q0 := 0) rfl rfl) hP hD rfl hl.1 rfl (Nat.le_of_ble_eq_true rfl) d_Loads_measure_57 ⟨Nat.zero_le _, Nat.zero_le _⟩) hD hS hA (fun H locs hP hD hS => ?_)
        refine lv_iconst (v := (1 : Int32)) hx hb d_Loads_measure_60 (by decide) ?_
        refine hk_goV (hk_kV (k := 2) (As := [.int (m_Loads_findNextToShed U12), .int (1 : Int32)]) (rest := []) C (c_Loads_setOff l G a0 a1 a2 a3 U12 (m_Loads_findNextToShed U12) (1 : Int32) hI12 (Or.inr rfl) (fr_shed hI12) _) Y_Loads_setOff (hk_in (by decide +kernel) rfl) rfl rfl ⟨Nat.le_of_ble_eq_true rfl, Nat.le_of_ble_eq_true rfl⟩ (va_recv hE.1 hP (ci := 3) (q0 := 0) rfl rfl) hP hD rfl hl.1 rfl (Nat.le_of_ble_eq_true rfl) d_Loads_measure_61 ⟨Nat.zero_le _, Nat.zero_le _⟩) hD hS hA (fun H locs hP hD hS => ?_)
        have hI13 : IL (m_Loads_setOff (m_Loads_findNextToShed U12) (1 : Int32) U12) := (km_Loads_setOff hI12)
        generalize hU13 : (m_Loads_setOff (m_Loads_findNextToShed U12) (1 : Int32) U12) = U13 at hP hD hI13
        refine lv_aload_n hx hb d_Loads_measure_64 rfl (lv_at hl 0 rfl) ?_
        refine hk_get (v := .int (l5 U13)) C hP 0 3 5 i_Loads rfl rfl (by decide) (hk_in (by decide +kernel) rfl) rfl d_Loads_measure_65 ?_
        refine lv_iconst (v := (3 : Int32)) hx hb d_Loads_measure_68 (by decide) ?_
        refine lv_icmp_lt (tgt := 86) hx hb d_Loads_measure_69 (by decide) (fun c_8 => ?_) (fun c_8 => ?_)
        · skip
          subst hU1 hU9 hU12 hU13
          have e : m_Loads_measure p1 u = (m_Loads_setOff (m_Loads_findNextToShed (f_Loads_measure_52 (f_Loads_measure_39_1 (f_Loads_measure_18 u)))) (1 : Int32) (f_Loads_measure_52 (f_Loads_measure_39_1 (f_Loads_measure_18 u)))) := (if_pos c_1).trans ((if_neg c_2).trans ((if_neg c_6).trans ((if_pos c_8).trans (rfl))))
          exact hk_rv C hAe hP hD hS (by rw [e]) d_Loads_measure_86
        · skip
          refine lv_aload_n hx hb d_Loads_measure_72 rfl (lv_at hl 0 rfl) ?_
          refine lv_iconst (v := (0 : Int32)) hx hb d_Loads_measure_73 (by decide) ?_
          refine hk_put (w2 := wL G a0 a1 a2 a3 (f_Loads_measure_74 U13)) (v := .int (0 : Int32)) (ty := .int) C hP hD hS 0 3 5 i_Loads t_Loads_ok n_Loads rfl rfl (by decide) (hk_in (by decide +kernel) rfl) rfl (by decide +kernel) rfl rfl (Nat.le_of_ble_eq_true rfl) rfl d_Loads_measure_74 (fun H locs hP hD hS => ?_)
          have hI14 : IL (f_Loads_measure_74 U13) := (IL_of (k3_f_Loads_measure_74 _) hI13)
          generalize hU14 : (f_Loads_measure_74 U13) = U14 at hP hD hI14
          refine lv_aload_n hx hb d_Loads_measure_77 rfl (lv_at hl 0 rfl) ?_
          refine lv_aload_n hx hb d_Loads_measure_78 rfl (lv_at hl 0 rfl) ?_
          refine hk_goI (hk_kV (k := 0) (As := []) (rest := [.ref a0]) C (c_Loads_findNextToRestore l G a0 a1 a2 a3 U14 hI14 _) Y_Loads_findNextToRestore (hk_in (by decide +kernel) rfl) rfl rfl ⟨Nat.le_of_ble_eq_true rfl, Nat.le_of_ble_eq_true rfl⟩ (va_recv hE.1 hP (ci := 3) (q0 := 0) rfl rfl) hP hD rfl hl.1 rfl (Nat.le_of_ble_eq_true rfl) d_Loads_measure_79 ⟨Nat.zero_le _, Nat.zero_le _⟩) hD hS hA (fun H locs hP hD hS => ?_)
          refine lv_iconst (v := (0 : Int32)) hx hb d_Loads_measure_82 (by decide) ?_
          refine hk_goV (hk_kV (k := 2) (As := [.int (m_Loads_findNextToRestore U14), .int (0 : Int32)]) (rest := []) C (c_Loads_setOff l G a0 a1 a2 a3 U14 (m_Loads_findNextToRestore U14) (0 : Int32) hI14 (Or.inl rfl) (fr_rest hI14) _) Y_Loads_setOff (hk_in (by decide +kernel) rfl) rfl rfl ⟨Nat.le_of_ble_eq_true rfl, Nat.le_of_ble_eq_true rfl⟩ (va_recv hE.1 hP (ci := 3) (q0 := 0) rfl rfl) hP hD rfl hl.1 rfl (Nat.le_of_ble_eq_true rfl) d_Loads_measure_83 ⟨Nat.zero_le _, Nat.zero_le _⟩) hD hS hA (fun H locs hP hD hS => ?_)
          have hI15 : IL (m_Loads_setOff (m_Loads_findNextToRestore U14) (0 : Int32) U14) := (km_Loads_setOff hI14)
          generalize hU15 : (m_Loads_setOff (m_Loads_findNextToRestore U14) (0 : Int32) U14) = U15 at hP hD hI15
          subst hU1 hU9 hU12 hU13 hU14 hU15
          have e : m_Loads_measure p1 u = (m_Loads_setOff (m_Loads_findNextToRestore (f_Loads_measure_74 (m_Loads_setOff (m_Loads_findNextToShed (f_Loads_measure_52 (f_Loads_measure_39_1 (f_Loads_measure_18 u)))) (1 : Int32) (f_Loads_measure_52 (f_Loads_measure_39_1 (f_Loads_measure_18 u)))))) (0 : Int32) (f_Loads_measure_74 (m_Loads_setOff (m_Loads_findNextToShed (f_Loads_measure_52 (f_Loads_measure_39_1 (f_Loads_measure_18 u)))) (1 : Int32) (f_Loads_measure_52 (f_Loads_measure_39_1 (f_Loads_measure_18 u)))))) := (if_pos c_1).trans ((if_neg c_2).trans ((if_neg c_6).trans ((if_neg c_8).trans (rfl))))
          exact hk_rv C hAe hP hD hS (by rw [e]) d_Loads_measure_86
  · skip
    refine lv_aload_n hx hb d_Loads_measure_8 rfl (lv_at hl 0 rfl) ?_
    refine hk_get (v := .int (l4 u)) C hP 0 3 4 i_Loads rfl rfl (by decide) (hk_in (by decide +kernel) rfl) rfl d_Loads_measure_9 ?_
    refine lv_iconst (v := (1 : Int32)) hx hb d_Loads_measure_12 (by decide) ?_
    refine lv_iadd hx hb d_Loads_measure_13 ?_
    refine lv_goto (tgt := 18) hx hb d_Loads_measure_14 (by decide) ?_
    refine hk_put (w2 := wL G a0 a1 a2 a3 (f_Loads_measure_18_1 u)) (v := .int ((l4 u) + (1 : Int32))) (ty := .int) C hP hD hS 0 3 4 i_Loads t_Loads_ok n_Loads rfl rfl (by decide) (hk_in (by decide +kernel) rfl) rfl (by decide +kernel) rfl rfl (Nat.le_of_ble_eq_true rfl) rfl d_Loads_measure_18 (fun H locs hP hD hS => ?_)
    have hI16 : IL (f_Loads_measure_18_1 u) := (IL_of (k3_f_Loads_measure_18_1 _) hI)
    generalize hU16 : (f_Loads_measure_18_1 u) = U16 at hP hD hI16
    refine lv_aload_n hx hb d_Loads_measure_21 rfl (lv_at hl 0 rfl) ?_
    refine lv_iload_n hx hb d_Loads_measure_22 rfl (lv_at hl 1 rfl) ?_
    refine lv_sipush (v := (12500 : Int32)) hx hb d_Loads_measure_23 (by decide) ?_
    refine lv_icmp_le (tgt := 38) hx hb d_Loads_measure_26 (by decide) (fun c_9 => ?_) (fun c_9 => ?_)
    · skip
      refine lv_iconst (v := (0 : Int32)) hx hb d_Loads_measure_38 (by decide) ?_
      refine hk_put (w2 := wL G a0 a1 a2 a3 (f_Loads_measure_39 U16)) (v := .int (0 : Int32)) (ty := .int) C hP hD hS 0 3 5 i_Loads t_Loads_ok n_Loads rfl rfl (by decide) (hk_in (by decide +kernel) rfl) rfl (by decide +kernel) rfl rfl (Nat.le_of_ble_eq_true rfl) rfl d_Loads_measure_39 (fun H locs hP hD hS => ?_)
      have hI17 : IL (f_Loads_measure_39 U16) := (IL_of (k3_f_Loads_measure_39 _) hI16)
      generalize hU17 : (f_Loads_measure_39 U16) = U17 at hP hD hI17
      refine lv_aload_n hx hb d_Loads_measure_42 rfl (lv_at hl 0 rfl) ?_
      refine hk_get (v := .int (l4 U17)) C hP 0 3 4 i_Loads rfl rfl (by decide) (hk_in (by decide +kernel) rfl) rfl d_Loads_measure_43 ?_
      refine lv_iconst (v := (3 : Int32)) hx hb d_Loads_measure_46 (by decide) ?_
      refine lv_icmp_lt (tgt := 64) hx hb d_Loads_measure_47 (by decide) (fun c_10 => ?_) (fun c_10 => ?_)
      · skip
        refine lv_aload_n hx hb d_Loads_measure_64 rfl (lv_at hl 0 rfl) ?_
        refine hk_get (v := .int (l5 U17)) C hP 0 3 5 i_Loads rfl rfl (by decide) (hk_in (by decide +kernel) rfl) rfl d_Loads_measure_65 ?_
        refine lv_iconst (v := (3 : Int32)) hx hb d_Loads_measure_68 (by decide) ?_
        refine lv_icmp_lt (tgt := 86) hx hb d_Loads_measure_69 (by decide) (fun c_11 => ?_) (fun c_11 => ?_)
        · skip
          subst hU16 hU17
          have e : m_Loads_measure p1 u = (f_Loads_measure_39 (f_Loads_measure_18_1 u)) := (if_neg c_1).trans ((if_pos c_9).trans ((if_pos c_10).trans ((if_pos c_11).trans (rfl))))
          exact hk_rv C hAe hP hD hS (by rw [e]) d_Loads_measure_86
        · skip
          refine lv_aload_n hx hb d_Loads_measure_72 rfl (lv_at hl 0 rfl) ?_
          refine lv_iconst (v := (0 : Int32)) hx hb d_Loads_measure_73 (by decide) ?_
          refine hk_put (w2 := wL G a0 a1 a2 a3 (f_Loads_measure_74 U17)) (v := .int (0 : Int32)) (ty := .int) C hP hD hS 0 3 5 i_Loads t_Loads_ok n_Loads rfl rfl (by decide) (hk_in (by decide +kernel) rfl) rfl (by decide +kernel) rfl rfl (Nat.le_of_ble_eq_true rfl) rfl d_Loads_measure_74 (fun H locs hP hD hS => ?_)
          have hI18 : IL (f_Loads_measure_74 U17) := (IL_of (k3_f_Loads_measure_74 _) hI17)
          generalize hU18 : (f_Loads_measure_74 U17) = U18 at hP hD hI18
          refine lv_aload_n hx hb d_Loads_measure_77 rfl (lv_at hl 0 rfl) ?_
          refine lv_aload_n hx hb d_Loads_measure_78 rfl (lv_at hl 0 rfl) ?_
          refine hk_goI (hk_kV (k := 0) (As := []) (rest := [.ref a0]) C (c_Loads_findNextToRestore l G a0 a1 a2 a3 U18 hI18 _) Y_Loads_findNextToRestore (hk_in (by decide +kernel) rfl) rfl rfl ⟨Nat.le_of_ble_eq_true rfl, Nat.le_of_ble_eq_true rfl⟩ (va_recv hE.1 hP (ci := 3) (q0 := 0) rfl rfl) hP hD rfl hl.1 rfl (Nat.le_of_ble_eq_true rfl) d_Loads_measure_79 ⟨Nat.zero_le _, Nat.zero_le _⟩) hD hS hA (fun H locs hP hD hS => ?_)
          refine lv_iconst (v := (0 : Int32)) hx hb d_Loads_measure_82 (by decide) ?_
          refine hk_goV (hk_kV (k := 2) (As := [.int (m_Loads_findNextToRestore U18), .int (0 : Int32)]) (rest := []) C (c_Loads_setOff l G a0 a1 a2 a3 U18 (m_Loads_findNextToRestore U18) (0 : Int32) hI18 (Or.inl rfl) (fr_rest hI18) _) Y_Loads_setOff (hk_in (by decide +kernel) rfl) rfl rfl ⟨Nat.le_of_ble_eq_true rfl, Nat.le_of_ble_eq_true rfl⟩ (va_recv hE.1 hP (ci := 3) (q0 := 0) rfl rfl) hP hD rfl hl.1 rfl (Nat.le_of_ble_eq_true rfl) d_Loads_measure_83 ⟨Nat.zero_le _, Nat.zero_le _⟩) hD hS hA (fun H locs hP hD hS => ?_)
          have hI19 : IL (m_Loads_setOff (m_Loads_findNextToRestore U18) (0 : Int32) U18) := (km_Loads_setOff hI18)
          generalize hU19 : (m_Loads_setOff (m_Loads_findNextToRestore U18) (0 : Int32) U18) = U19 at hP hD hI19
          subst hU16 hU17 hU18 hU19
          have e : m_Loads_measure p1 u = (m_Loads_setOff (m_Loads_findNextToRestore (f_Loads_measure_74 (f_Loads_measure_39 (f_Loads_measure_18_1 u)))) (0 : Int32) (f_Loads_measure_74 (f_Loads_measure_39 (f_Loads_measure_18_1 u)))) := (if_neg c_1).trans ((if_pos c_9).trans ((if_pos c_10).trans ((if_neg c_11).trans (rfl))))
          exact hk_rv C hAe hP hD hS (by rw [e]) d_Loads_measure_86
      · skip
        refine lv_aload_n hx hb d_Loads_measure_50 rfl (lv_at hl 0 rfl) ?_
        refine lv_iconst (v := (0 : Int32)) hx hb d_Loads_measure_51 (by decide) ?_
        refine hk_put (w2 := wL G a0 a1 a2 a3 (f_Loads_measure_52 U17)) (v := .int (0 : Int32)) (ty := .int) C hP hD hS 0 3 4 i_Loads t_Loads_ok n_Loads rfl rfl (by decide) (hk_in (by decide +kernel) rfl) rfl (by decide +kernel) rfl rfl (Nat.le_of_ble_eq_true rfl) rfl d_Loads_measure_52 (fun H locs hP hD hS => ?_)
        have hI20 : IL (f_Loads_measure_52 U17) := (IL_of (k3_f_Loads_measure_52 _) hI17)
        generalize hU20 : (f_Loads_measure_52 U17) = U20 at hP hD hI20
        refine lv_aload_n hx hb d_Loads_measure_55 rfl (lv_at hl 0 rfl) ?_
        refine lv_aload_n hx hb d_Loads_measure_56 rfl (lv_at hl 0 rfl) ?_
        refine hk_goI (hk_kV (k := 0) (As := []) (rest := [.ref a0]) C (c_Loads_findNextToShed l G a0 a1 a2 a3 U20 hI20 _) Y_Loads_findNextToShed (hk_in (by decide +kernel) rfl) rfl rfl ⟨Nat.le_of_ble_eq_true rfl, Nat.le_of_ble_eq_true rfl⟩ (va_recv hE.1 hP (ci := 3) (q0 := 0) rfl rfl) hP hD rfl hl.1 rfl (Nat.le_of_ble_eq_true rfl) d_Loads_measure_57 ⟨Nat.zero_le _, Nat.zero_le _⟩) hD hS hA (fun H locs hP hD hS => ?_)
        refine lv_iconst (v := (1 : Int32)) hx hb d_Loads_measure_60 (by decide) ?_
        refine hk_goV (hk_kV (k := 2) (As := [.int (m_Loads_findNextToShed U20), .int (1 : Int32)]) (rest := []) C (c_Loads_setOff l G a0 a1 a2 a3 U20 (m_Loads_findNextToShed U20) (1 : Int32) hI20 (Or.inr rfl) (fr_shed hI20) _) Y_Loads_setOff (hk_in (by decide +kernel) rfl) rfl rfl ⟨Nat.le_of_ble_eq_true rfl, Nat.le_of_ble_eq_true rfl⟩ (va_recv hE.1 hP (ci := 3) (q0 := 0) rfl rfl) hP hD rfl hl.1 rfl (Nat.le_of_ble_eq_true rfl) d_Loads_measure_61 ⟨Nat.zero_le _, Nat.zero_le _⟩) hD hS hA (fun H locs hP hD hS => ?_)
        have hI21 : IL (m_Loads_setOff (m_Loads_findNextToShed U20) (1 : Int32) U20) := (km_Loads_setOff hI20)
        generalize hU21 : (m_Loads_setOff (m_Loads_findNextToShed U20) (1 : Int32) U20) = U21 at hP hD hI21
        refine lv_aload_n hx hb d_Loads_measure_64 rfl (lv_at hl 0 rfl) ?_
        refine hk_get (v := .int (l5 U21)) C hP 0 3 5 i_Loads rfl rfl (by decide) (hk_in (by decide +kernel) rfl) rfl d_Loads_measure_65 ?_
        refine lv_iconst (v := (3 : Int32)) hx hb d_Loads_measure_68 (by decide) ?_
        refine lv_icmp_lt (tgt := 86) hx hb d_Loads_measure_69 (by decide) (fun c_12 => ?_) (fun c_12 => ?_)
        · skip
          subst hU16 hU17 hU20 hU21
          have e : m_Loads_measure p1 u = (m_Loads_setOff (m_Loads_findNextToShed (f_Loads_measure_52 (f_Loads_measure_39 (f_Loads_measure_18_1 u)))) (1 : Int32) (f_Loads_measure_52 (f_Loads_measure_39 (f_Loads_measure_18_1 u)))) := (if_neg c_1).trans ((if_pos c_9).trans ((if_neg c_10).trans ((if_pos c_12).trans (rfl))))
          exact hk_rv C hAe hP hD hS (by rw [e]) d_Loads_measure_86
        · skip
          refine lv_aload_n hx hb d_Loads_measure_72 rfl (lv_at hl 0 rfl) ?_
          refine lv_iconst (v := (0 : Int32)) hx hb d_Loads_measure_73 (by decide) ?_
          refine hk_put (w2 := wL G a0 a1 a2 a3 (f_Loads_measure_74 U21)) (v := .int (0 : Int32)) (ty := .int) C hP hD hS 0 3 5 i_Loads t_Loads_ok n_Loads rfl rfl (by decide) (hk_in (by decide +kernel) rfl) rfl (by decide +kernel) rfl rfl (Nat.le_of_ble_eq_true rfl) rfl d_Loads_measure_74 (fun H locs hP hD hS => ?_)
          have hI22 : IL (f_Loads_measure_74 U21) := (IL_of (k3_f_Loads_measure_74 _) hI21)
          generalize hU22 : (f_Loads_measure_74 U21) = U22 at hP hD hI22
          refine lv_aload_n hx hb d_Loads_measure_77 rfl (lv_at hl 0 rfl) ?_
          refine lv_aload_n hx hb d_Loads_measure_78 rfl (lv_at hl 0 rfl) ?_
          refine hk_goI (hk_kV (k := 0) (As := []) (rest := [.ref a0]) C (c_Loads_findNextToRestore l G a0 a1 a2 a3 U22 hI22 _) Y_Loads_findNextToRestore (hk_in (by decide +kernel) rfl) rfl rfl ⟨Nat.le_of_ble_eq_true rfl, Nat.le_of_ble_eq_true rfl⟩ (va_recv hE.1 hP (ci := 3) (q0 := 0) rfl rfl) hP hD rfl hl.1 rfl (Nat.le_of_ble_eq_true rfl) d_Loads_measure_79 ⟨Nat.zero_le _, Nat.zero_le _⟩) hD hS hA (fun H locs hP hD hS => ?_)
          refine lv_iconst (v := (0 : Int32)) hx hb d_Loads_measure_82 (by decide) ?_
          refine hk_goV (hk_kV (k := 2) (As := [.int (m_Loads_findNextToRestore U22), .int (0 : Int32)]) (rest := []) C (c_Loads_setOff l G a0 a1 a2 a3 U22 (m_Loads_findNextToRestore U22) (0 : Int32) hI22 (Or.inl rfl) (fr_rest hI22) _) Y_Loads_setOff (hk_in (by decide +kernel) rfl) rfl rfl ⟨Nat.le_of_ble_eq_true rfl, Nat.le_of_ble_eq_true rfl⟩ (va_recv hE.1 hP (ci := 3) (q0 := 0) rfl rfl) hP hD rfl hl.1 rfl (Nat.le_of_ble_eq_true rfl) d_Loads_measure_83 ⟨Nat.zero_le _, Nat.zero_le _⟩) hD hS hA (fun H locs hP hD hS => ?_)
          have hI23 : IL (m_Loads_setOff (m_Loads_findNextToRestore U22) (0 : Int32) U22) := (km_Loads_setOff hI22)
          generalize hU23 : (m_Loads_setOff (m_Loads_findNextToRestore U22) (0 : Int32) U22) = U23 at hP hD hI23
          subst hU16 hU17 hU20 hU21 hU22 hU23
          have e : m_Loads_measure p1 u = (m_Loads_setOff (m_Loads_findNextToRestore (f_Loads_measure_74 (m_Loads_setOff (m_Loads_findNextToShed (f_Loads_measure_52 (f_Loads_measure_39 (f_Loads_measure_18_1 u)))) (1 : Int32) (f_Loads_measure_52 (f_Loads_measure_39 (f_Loads_measure_18_1 u)))))) (0 : Int32) (f_Loads_measure_74 (m_Loads_setOff (m_Loads_findNextToShed (f_Loads_measure_52 (f_Loads_measure_39 (f_Loads_measure_18_1 u)))) (1 : Int32) (f_Loads_measure_52 (f_Loads_measure_39 (f_Loads_measure_18_1 u)))))) := (if_neg c_1).trans ((if_pos c_9).trans ((if_neg c_10).trans ((if_neg c_12).trans (rfl))))
          exact hk_rv C hAe hP hD hS (by rw [e]) d_Loads_measure_86
    · skip
      refine lv_aload_n hx hb d_Loads_measure_29 rfl (lv_at hl 0 rfl) ?_
      refine hk_get (v := .int (l5 U16)) C hP 0 3 5 i_Loads rfl rfl (by decide) (hk_in (by decide +kernel) rfl) rfl d_Loads_measure_30 ?_
      refine lv_iconst (v := (1 : Int32)) hx hb d_Loads_measure_33 (by decide) ?_
      refine lv_iadd hx hb d_Loads_measure_34 ?_
      refine lv_goto (tgt := 39) hx hb d_Loads_measure_35 (by decide) ?_
      refine hk_put (w2 := wL G a0 a1 a2 a3 (f_Loads_measure_39_1 U16)) (v := .int ((l5 U16) + (1 : Int32))) (ty := .int) C hP hD hS 0 3 5 i_Loads t_Loads_ok n_Loads rfl rfl (by decide) (hk_in (by decide +kernel) rfl) rfl (by decide +kernel) rfl rfl (Nat.le_of_ble_eq_true rfl) rfl d_Loads_measure_39 (fun H locs hP hD hS => ?_)
      have hI24 : IL (f_Loads_measure_39_1 U16) := (IL_of (k3_f_Loads_measure_39_1 _) hI16)
      generalize hU24 : (f_Loads_measure_39_1 U16) = U24 at hP hD hI24
      refine lv_aload_n hx hb d_Loads_measure_42 rfl (lv_at hl 0 rfl) ?_
      refine hk_get (v := .int (l4 U24)) C hP 0 3 4 i_Loads rfl rfl (by decide) (hk_in (by decide +kernel) rfl) rfl d_Loads_measure_43 ?_
      refine lv_iconst (v := (3 : Int32)) hx hb d_Loads_measure_46 (by decide) ?_
      refine lv_icmp_lt (tgt := 64) hx hb d_Loads_measure_47 (by decide) (fun c_13 => ?_) (fun c_13 => ?_)
      · skip
        refine lv_aload_n hx hb d_Loads_measure_64 rfl (lv_at hl 0 rfl) ?_
        refine hk_get (v := .int (l5 U24)) C hP 0 3 5 i_Loads rfl rfl (by decide) (hk_in (by decide +kernel) rfl) rfl d_Loads_measure_65 ?_
        refine lv_iconst (v := (3 : Int32)) hx hb d_Loads_measure_68 (by decide) ?_
        refine lv_icmp_lt (tgt := 86) hx hb d_Loads_measure_69 (by decide) (fun c_14 => ?_) (fun c_14 => ?_)
        · skip
          subst hU16 hU24
          have e : m_Loads_measure p1 u = (f_Loads_measure_39_1 (f_Loads_measure_18_1 u)) := (if_neg c_1).trans ((if_neg c_9).trans ((if_pos c_13).trans ((if_pos c_14).trans (rfl))))
          exact hk_rv C hAe hP hD hS (by rw [e]) d_Loads_measure_86
        · skip
          refine lv_aload_n hx hb d_Loads_measure_72 rfl (lv_at hl 0 rfl) ?_
          refine lv_iconst (v := (0 : Int32)) hx hb d_Loads_measure_73 (by decide) ?_
          refine hk_put (w2 := wL G a0 a1 a2 a3 (f_Loads_measure_74 U24)) (v := .int (0 : Int32)) (ty := .int) C hP hD hS 0 3 5 i_Loads t_Loads_ok n_Loads rfl rfl (by decide) (hk_in (by decide +kernel) rfl) rfl (by decide +kernel) rfl rfl (Nat.le_of_ble_eq_true rfl) rfl d_Loads_measure_74 (fun H locs hP hD hS => ?_)
          have hI25 : IL (f_Loads_measure_74 U24) := (IL_of (k3_f_Loads_measure_74 _) hI24)
          generalize hU25 : (f_Loads_measure_74 U24) = U25 at hP hD hI25
          refine lv_aload_n hx hb d_Loads_measure_77 rfl (lv_at hl 0 rfl) ?_
          refine lv_aload_n hx hb d_Loads_measure_78 rfl (lv_at hl 0 rfl) ?_
          refine hk_goI (hk_kV (k := 0) (As := []) (rest := [.ref a0]) C (c_Loads_findNextToRestore l G a0 a1 a2 a3 U25 hI25 _) Y_Loads_findNextToRestore (hk_in (by decide +kernel) rfl) rfl rfl ⟨Nat.le_of_ble_eq_true rfl, Nat.le_of_ble_eq_true rfl⟩ (va_recv hE.1 hP (ci := 3) (q0 := 0) rfl rfl) hP hD rfl hl.1 rfl (Nat.le_of_ble_eq_true rfl) d_Loads_measure_79 ⟨Nat.zero_le _, Nat.zero_le _⟩) hD hS hA (fun H locs hP hD hS => ?_)
          refine lv_iconst (v := (0 : Int32)) hx hb d_Loads_measure_82 (by decide) ?_
          refine hk_goV (hk_kV (k := 2) (As := [.int (m_Loads_findNextToRestore U25), .int (0 : Int32)]) (rest := []) C (c_Loads_setOff l G a0 a1 a2 a3 U25 (m_Loads_findNextToRestore U25) (0 : Int32) hI25 (Or.inl rfl) (fr_rest hI25) _) Y_Loads_setOff (hk_in (by decide +kernel) rfl) rfl rfl ⟨Nat.le_of_ble_eq_true rfl, Nat.le_of_ble_eq_true rfl⟩ (va_recv hE.1 hP (ci := 3) (q0 := 0) rfl rfl) hP hD rfl hl.1 rfl (Nat.le_of_ble_eq_true rfl) d_Loads_measure_83 ⟨Nat.zero_le _, Nat.zero_le _⟩) hD hS hA (fun H locs hP hD hS => ?_)
          have hI26 : IL (m_Loads_setOff (m_Loads_findNextToRestore U25) (0 : Int32) U25) := (km_Loads_setOff hI25)
          generalize hU26 : (m_Loads_setOff (m_Loads_findNextToRestore U25) (0 : Int32) U25) = U26 at hP hD hI26
          subst hU16 hU24 hU25 hU26
          have e : m_Loads_measure p1 u = (m_Loads_setOff (m_Loads_findNextToRestore (f_Loads_measure_74 (f_Loads_measure_39_1 (f_Loads_measure_18_1 u)))) (0 : Int32) (f_Loads_measure_74 (f_Loads_measure_39_1 (f_Loads_measure_18_1 u)))) := (if_neg c_1).trans ((if_neg c_9).trans ((if_pos c_13).trans ((if_neg c_14).trans (rfl))))
          exact hk_rv C hAe hP hD hS (by rw [e]) d_Loads_measure_86
      · skip
        refine lv_aload_n hx hb d_Loads_measure_50 rfl (lv_at hl 0 rfl) ?_
        refine lv_iconst (v := (0 : Int32)) hx hb d_Loads_measure_51 (by decide) ?_
        refine hk_put (w2 := wL G a0 a1 a2 a3 (f_Loads_measure_52 U24)) (v := .int (0 : Int32)) (ty := .int) C hP hD hS 0 3 4 i_Loads t_Loads_ok n_Loads rfl rfl (by decide) (hk_in (by decide +kernel) rfl) rfl (by decide +kernel) rfl rfl (Nat.le_of_ble_eq_true rfl) rfl d_Loads_measure_52 (fun H locs hP hD hS => ?_)
        have hI27 : IL (f_Loads_measure_52 U24) := (IL_of (k3_f_Loads_measure_52 _) hI24)
        generalize hU27 : (f_Loads_measure_52 U24) = U27 at hP hD hI27
        refine lv_aload_n hx hb d_Loads_measure_55 rfl (lv_at hl 0 rfl) ?_
        refine lv_aload_n hx hb d_Loads_measure_56 rfl (lv_at hl 0 rfl) ?_
        refine hk_goI (hk_kV (k := 0) (As := []) (rest := [.ref a0]) C (c_Loads_findNextToShed l G a0 a1 a2 a3 U27 hI27 _) Y_Loads_findNextToShed (hk_in (by decide +kernel) rfl) rfl rfl ⟨Nat.le_of_ble_eq_true rfl, Nat.le_of_ble_eq_true rfl⟩ (va_recv hE.1 hP (ci := 3) (q0 := 0) rfl rfl) hP hD rfl hl.1 rfl (Nat.le_of_ble_eq_true rfl) d_Loads_measure_57 ⟨Nat.zero_le _, Nat.zero_le _⟩) hD hS hA (fun H locs hP hD hS => ?_)
        refine lv_iconst (v := (1 : Int32)) hx hb d_Loads_measure_60 (by decide) ?_
        refine hk_goV (hk_kV (k := 2) (As := [.int (m_Loads_findNextToShed U27), .int (1 : Int32)]) (rest := []) C (c_Loads_setOff l G a0 a1 a2 a3 U27 (m_Loads_findNextToShed U27) (1 : Int32) hI27 (Or.inr rfl) (fr_shed hI27) _) Y_Loads_setOff (hk_in (by decide +kernel) rfl) rfl rfl ⟨Nat.le_of_ble_eq_true rfl, Nat.le_of_ble_eq_true rfl⟩ (va_recv hE.1 hP (ci := 3) (q0 := 0) rfl rfl) hP hD rfl hl.1 rfl (Nat.le_of_ble_eq_true rfl) d_Loads_measure_61 ⟨Nat.zero_le _, Nat.zero_le _⟩) hD hS hA (fun H locs hP hD hS => ?_)
        have hI28 : IL (m_Loads_setOff (m_Loads_findNextToShed U27) (1 : Int32) U27) := (km_Loads_setOff hI27)
        generalize hU28 : (m_Loads_setOff (m_Loads_findNextToShed U27) (1 : Int32) U27) = U28 at hP hD hI28
        refine lv_aload_n hx hb d_Loads_measure_64 rfl (lv_at hl 0 rfl) ?_
        refine hk_get (v := .int (l5 U28)) C hP 0 3 5 i_Loads rfl rfl (by decide) (hk_in (by decide +kernel) rfl) rfl d_Loads_measure_65 ?_
        refine lv_iconst (v := (3 : Int32)) hx hb d_Loads_measure_68 (by decide) ?_
        refine lv_icmp_lt (tgt := 86) hx hb d_Loads_measure_69 (by decide) (fun c_15 => ?_) (fun c_15 => ?_)
        · skip
          subst hU16 hU24 hU27 hU28
          have e : m_Loads_measure p1 u = (m_Loads_setOff (m_Loads_findNextToShed (f_Loads_measure_52 (f_Loads_measure_39_1 (f_Loads_measure_18_1 u)))) (1 : Int32) (f_Loads_measure_52 (f_Loads_measure_39_1 (f_Loads_measure_18_1 u)))) := (if_neg c_1).trans ((if_neg c_9).trans ((if_neg c_13).trans ((if_pos c_15).trans (rfl))))
          exact hk_rv C hAe hP hD hS (by rw [e]) d_Loads_measure_86
        · skip
          refine lv_aload_n hx hb d_Loads_measure_72 rfl (lv_at hl 0 rfl) ?_
          refine lv_iconst (v := (0 : Int32)) hx hb d_Loads_measure_73 (by decide) ?_
          refine hk_put (w2 := wL G a0 a1 a2 a3 (f_Loads_measure_74 U28)) (v := .int (0 : Int32)) (ty := .int) C hP hD hS 0 3 5 i_Loads t_Loads_ok n_Loads rfl rfl (by decide) (hk_in (by decide +kernel) rfl) rfl (by decide +kernel) rfl rfl (Nat.le_of_ble_eq_true rfl) rfl d_Loads_measure_74 (fun H locs hP hD hS => ?_)
          have hI29 : IL (f_Loads_measure_74 U28) := (IL_of (k3_f_Loads_measure_74 _) hI28)
          generalize hU29 : (f_Loads_measure_74 U28) = U29 at hP hD hI29
          refine lv_aload_n hx hb d_Loads_measure_77 rfl (lv_at hl 0 rfl) ?_
          refine lv_aload_n hx hb d_Loads_measure_78 rfl (lv_at hl 0 rfl) ?_
          refine hk_goI (hk_kV (k := 0) (As := []) (rest := [.ref a0]) C (c_Loads_findNextToRestore l G a0 a1 a2 a3 U29 hI29 _) Y_Loads_findNextToRestore (hk_in (by decide +kernel) rfl) rfl rfl ⟨Nat.le_of_ble_eq_true rfl, Nat.le_of_ble_eq_true rfl⟩ (va_recv hE.1 hP (ci := 3) (q0 := 0) rfl rfl) hP hD rfl hl.1 rfl (Nat.le_of_ble_eq_true rfl) d_Loads_measure_79 ⟨Nat.zero_le _, Nat.zero_le _⟩) hD hS hA (fun H locs hP hD hS => ?_)
          refine lv_iconst (v := (0 : Int32)) hx hb d_Loads_measure_82 (by decide) ?_
          refine hk_goV (hk_kV (k := 2) (As := [.int (m_Loads_findNextToRestore U29), .int (0 : Int32)]) (rest := []) C (c_Loads_setOff l G a0 a1 a2 a3 U29 (m_Loads_findNextToRestore U29) (0 : Int32) hI29 (Or.inl rfl) (fr_rest hI29) _) Y_Loads_setOff (hk_in (by decide +kernel) rfl) rfl rfl ⟨Nat.le_of_ble_eq_true rfl, Nat.le_of_ble_eq_true rfl⟩ (va_recv hE.1 hP (ci := 3) (q0 := 0) rfl rfl) hP hD rfl hl.1 rfl (Nat.le_of_ble_eq_true rfl) d_Loads_measure_83 ⟨Nat.zero_le _, Nat.zero_le _⟩) hD hS hA (fun H locs hP hD hS => ?_)
          have hI30 : IL (m_Loads_setOff (m_Loads_findNextToRestore U29) (0 : Int32) U29) := (km_Loads_setOff hI29)
          generalize hU30 : (m_Loads_setOff (m_Loads_findNextToRestore U29) (0 : Int32) U29) = U30 at hP hD hI30
          subst hU16 hU24 hU27 hU28 hU29 hU30
          have e : m_Loads_measure p1 u = (m_Loads_setOff (m_Loads_findNextToRestore (f_Loads_measure_74 (m_Loads_setOff (m_Loads_findNextToShed (f_Loads_measure_52 (f_Loads_measure_39_1 (f_Loads_measure_18_1 u)))) (1 : Int32) (f_Loads_measure_52 (f_Loads_measure_39_1 (f_Loads_measure_18_1 u)))))) (0 : Int32) (f_Loads_measure_74 (m_Loads_setOff (m_Loads_findNextToShed (f_Loads_measure_52 (f_Loads_measure_39_1 (f_Loads_measure_18_1 u)))) (1 : Int32) (f_Loads_measure_52 (f_Loads_measure_39_1 (f_Loads_measure_18_1 u)))))) := (if_neg c_1).trans ((if_neg c_9).trans ((if_neg c_13).trans ((if_neg c_15).trans (rfl))))
          exact hk_rv C hAe hP hD hS (by rw [e]) d_Loads_measure_86
end
section
theorem Y_B_wantsLow : hk_Y y_B_wantsLow b_B_wantsLow 1 (some .boolean) 0 := ⟨hk_in (by decide +kernel) rfl, hk_in (by decide +kernel) rfl, hk_in (by decide +kernel) rfl, hk_in (List.mem_of_getElem? (i := 228) rfl) rfl, by decide, by decide, by decide +kernel⟩
abbrev rm_B_wantsLow : Room := { frames := 0, cells := 0, slots := 0, locals := 0 }
set_option maxHeartbeats 4000000 in
set_option maxRecDepth 100000 in
theorem c_B_wantsLow (l : Launch) (G : hk_G) (ad : Nat → Nat) (u : cB) (hI : Iv u) : hk_I l G y_B_wantsLow b_B_wantsLow 1 (some .boolean) rm_B_wantsLow [.ref (ad 0)] (wB G ad u) (m_B_wantsLow u) (wB G ad u) := by
  refine hk_I_of (by decide) (Nat.le_of_ble_eq_true rfl) ?_
  intro p e s m below meth c A ls C hAe hA hP hD hS hl
  have hx := C.1
  have hb := C.2.1
  have hown := C.2.2.2.2.1
  have hts := C.2.2.2.2.2.1
  have hE := C.2.2.2.2.2.2.2
  have hl : lv_has ls 1 [(0, .ref (ad 0))] := hl
  refine lv_aload_n hx hb d_B_wantsLow_0 rfl (lv_at hl 0 rfl) ?_
  refine hk_get (v := .ref (ad 1)) C hP 0 4 0 i_B rfl rfl (by decide) (hk_in (by decide +kernel) rfl) rfl d_B_wantsLow_1 ?_
  refine lv_iconst (v := (0 : Int32)) hx hb d_B_wantsLow_4 (by decide) ?_
  refine hk_ild C hP 1 0 (v := (b0 u) 0) rfl rfl (hk_inl (by decide)) rfl d_B_wantsLow_5 ?_
  refine lv_iconst (v := (2 : Int32)) hx hb d_B_wantsLow_6 (by decide) ?_
  refine lv_icmp_eq (tgt := 27) hx hb d_B_wantsLow_7 (by decide) (fun c_1 => ?_) (fun c_1 => ?_)
  · skip
    refine lv_iconst (v := (1 : Int32)) hx hb d_B_wantsLow_27 (by decide) ?_
    refine lv_goto (tgt := 32) hx hb d_B_wantsLow_28 (by decide) ?_
    have e : m_B_wantsLow u = (1 : Int32) := (if_pos c_1).trans (rfl)
    exact hk_rz C hAe hP hD hS (Or.inr rfl) e.symm rfl d_B_wantsLow_32
  · skip
    refine lv_aload_n hx hb d_B_wantsLow_10 rfl (lv_at hl 0 rfl) ?_
    refine hk_get (v := .ref (ad 1)) C hP 0 4 0 i_B rfl rfl (by decide) (hk_in (by decide +kernel) rfl) rfl d_B_wantsLow_11 ?_
    refine lv_iconst (v := (0 : Int32)) hx hb d_B_wantsLow_14 (by decide) ?_
    refine hk_ild C hP 1 0 (v := (b0 u) 0) rfl rfl (hk_inl (by decide)) rfl d_B_wantsLow_15 ?_
    refine lv_iconst (v := (3 : Int32)) hx hb d_B_wantsLow_16 (by decide) ?_
    refine lv_icmp_ne (tgt := 31) hx hb d_B_wantsLow_17 (by decide) (fun c_2 => ?_) (fun c_2 => ?_)
    · skip
      refine lv_iconst (v := (0 : Int32)) hx hb d_B_wantsLow_31 (by decide) ?_
      have e : m_B_wantsLow u = (0 : Int32) := (if_neg c_1).trans ((if_neg c_2).trans (rfl))
      exact hk_rz C hAe hP hD hS (Or.inl rfl) e.symm rfl d_B_wantsLow_32
    · skip
      refine lv_aload_n hx hb d_B_wantsLow_20 rfl (lv_at hl 0 rfl) ?_
      refine hk_get (v := .int (b11 u)) C hP 0 4 11 i_B rfl rfl (by decide) (hk_in (by decide +kernel) rfl) rfl d_B_wantsLow_21 ?_
      refine lv_if_eq (tgt := 31) hx hb d_B_wantsLow_24 (by decide) (fun c_3 => ?_) (fun c_3 => ?_)
      · skip
        refine lv_iconst (v := (0 : Int32)) hx hb d_B_wantsLow_31 (by decide) ?_
        have e : m_B_wantsLow u = (0 : Int32) := (if_neg c_1).trans ((if_pos c_2).trans ((if_pos c_3).trans (rfl)))
        exact hk_rz C hAe hP hD hS (Or.inl rfl) e.symm rfl d_B_wantsLow_32
      · skip
        refine lv_iconst (v := (1 : Int32)) hx hb d_B_wantsLow_27 (by decide) ?_
        refine lv_goto (tgt := 32) hx hb d_B_wantsLow_28 (by decide) ?_
        have e : m_B_wantsLow u = (1 : Int32) := (if_neg c_1).trans ((if_pos c_2).trans ((if_neg c_3).trans (rfl)))
        exact hk_rz C hAe hP hD hS (Or.inr rfl) e.symm rfl d_B_wantsLow_32
theorem Y_B_isParkingLit : hk_Y y_B_isParkingLit b_B_isParkingLit 1 (some .boolean) 0 := ⟨hk_in (by decide +kernel) rfl, hk_in (by decide +kernel) rfl, hk_in (by decide +kernel) rfl, hk_in (List.mem_of_getElem? (i := 224) rfl) rfl, by decide, by decide, by decide +kernel⟩
abbrev rm_B_isParkingLit : Room := { frames := 1, cells := 0, slots := 0, locals := 20 }
set_option maxHeartbeats 4000000 in
set_option maxRecDepth 100000 in
theorem c_B_isParkingLit (l : Launch) (G : hk_G) (ad : Nat → Nat) (u : cB) (hI : Iv u) : hk_I l G y_B_isParkingLit b_B_isParkingLit 1 (some .boolean) rm_B_isParkingLit [.ref (ad 0)] (wB G ad u) (m_B_isParkingLit u) (wB G ad u) := by
  refine hk_I_of (by decide) (Nat.le_of_ble_eq_true rfl) ?_
  intro p e s m below meth c A ls C hAe hA hP hD hS hl
  have hx := C.1
  have hb := C.2.1
  have hown := C.2.2.2.2.1
  have hts := C.2.2.2.2.2.1
  have hE := C.2.2.2.2.2.2.2
  have hl : lv_has ls 1 [(0, .ref (ad 0))] := hl
  refine lv_aload_n hx hb d_B_isParkingLit_0 rfl (lv_at hl 0 rfl) ?_
  refine hk_get (v := .int (b12 u)) C hP 0 4 12 i_B rfl rfl (by decide) (hk_in (by decide +kernel) rfl) rfl d_B_isParkingLit_1 ?_
  refine lv_if_ne (tgt := 24) hx hb d_B_isParkingLit_4 (by decide) (fun c_1 => ?_) (fun c_1 => ?_)
  · skip
    refine lv_iconst (v := (1 : Int32)) hx hb d_B_isParkingLit_24 (by decide) ?_
    refine lv_goto (tgt := 29) hx hb d_B_isParkingLit_25 (by decide) ?_
    have e : m_B_isParkingLit u = (1 : Int32) := (if_neg c_1).trans (rfl)
    exact hk_rz C hAe hP hD hS (Or.inr rfl) e.symm rfl d_B_isParkingLit_29
  · skip
    refine lv_aload_n hx hb d_B_isParkingLit_7 rfl (lv_at hl 0 rfl) ?_
    refine hk_get (v := .ref (ad 1)) C hP 0 4 0 i_B rfl rfl (by decide) (hk_in (by decide +kernel) rfl) rfl d_B_isParkingLit_8 ?_
    refine lv_iconst (v := (0 : Int32)) hx hb d_B_isParkingLit_11 (by decide) ?_
    refine hk_ild C hP 1 0 (v := (b0 u) 0) rfl rfl (hk_inl (by decide)) rfl d_B_isParkingLit_12 ?_
    refine lv_iconst (v := (1 : Int32)) hx hb d_B_isParkingLit_13 (by decide) ?_
    refine lv_icmp_eq (tgt := 24) hx hb d_B_isParkingLit_14 (by decide) (fun c_2 => ?_) (fun c_2 => ?_)
    · skip
      refine lv_iconst (v := (1 : Int32)) hx hb d_B_isParkingLit_24 (by decide) ?_
      refine lv_goto (tgt := 29) hx hb d_B_isParkingLit_25 (by decide) ?_
      have e : m_B_isParkingLit u = (1 : Int32) := (if_pos c_1).trans ((if_pos c_2).trans (rfl))
      exact hk_rz C hAe hP hD hS (Or.inr rfl) e.symm rfl d_B_isParkingLit_29
    · skip
      refine lv_aload_n hx hb d_B_isParkingLit_17 rfl (lv_at hl 0 rfl) ?_
      refine hk_goI (hk_kV (k := 0) (As := []) (rest := []) C (c_B_wantsLow l G ad u hI _) Y_B_wantsLow (hk_in (by decide +kernel) rfl) rfl rfl ⟨Nat.le_of_ble_eq_true rfl, Nat.le_of_ble_eq_true rfl⟩ (va_recv hE.1 hP (ci := 4) (q0 := 0) rfl rfl) hP hD rfl hl.1 rfl (Nat.le_of_ble_eq_true rfl) d_B_isParkingLit_18 ⟨Nat.zero_le _, Nat.zero_le _⟩) hD hS hA (fun H locs hP hD hS => ?_)
      refine lv_if_eq (tgt := 28) hx hb d_B_isParkingLit_21 (by decide) (fun c_3 => ?_) (fun c_3 => ?_)
      · skip
        refine lv_iconst (v := (0 : Int32)) hx hb d_B_isParkingLit_28 (by decide) ?_
        have e : m_B_isParkingLit u = (0 : Int32) := (if_pos c_1).trans ((if_neg c_2).trans ((if_pos c_3).trans (rfl)))
        exact hk_rz C hAe hP hD hS (Or.inl rfl) e.symm rfl d_B_isParkingLit_29
      · skip
        refine lv_iconst (v := (1 : Int32)) hx hb d_B_isParkingLit_24 (by decide) ?_
        refine lv_goto (tgt := 29) hx hb d_B_isParkingLit_25 (by decide) ?_
        have e : m_B_isParkingLit u = (1 : Int32) := (if_pos c_1).trans ((if_neg c_2).trans ((if_neg c_3).trans (rfl)))
        exact hk_rz C hAe hP hD hS (Or.inr rfl) e.symm rfl d_B_isParkingLit_29
theorem Y_B_isLowLit : hk_Y y_B_isLowLit b_B_isLowLit 1 (some .boolean) 0 := ⟨hk_in (by decide +kernel) rfl, hk_in (by decide +kernel) rfl, hk_in (by decide +kernel) rfl, hk_in (List.mem_of_getElem? (i := 235) rfl) rfl, by decide, by decide, by decide +kernel⟩
abbrev rm_B_isLowLit : Room := { frames := 1, cells := 0, slots := 0, locals := 20 }
set_option maxHeartbeats 4000000 in
set_option maxRecDepth 100000 in
theorem c_B_isLowLit (l : Launch) (G : hk_G) (ad : Nat → Nat) (u : cB) (hI : Iv u) : hk_I l G y_B_isLowLit b_B_isLowLit 1 (some .boolean) rm_B_isLowLit [.ref (ad 0)] (wB G ad u) (m_B_isLowLit u) (wB G ad u) := by
  refine hk_I_of (by decide) (Nat.le_of_ble_eq_true rfl) ?_
  intro p e s m below meth c A ls C hAe hA hP hD hS hl
  have hx := C.1
  have hb := C.2.1
  have hown := C.2.2.2.2.1
  have hts := C.2.2.2.2.2.1
  have hE := C.2.2.2.2.2.2.2
  have hl : lv_has ls 1 [(0, .ref (ad 0))] := hl
  refine lv_aload_n hx hb d_B_isLowLit_0 rfl (lv_at hl 0 rfl) ?_
  refine hk_get (v := .ref (ad 1)) C hP 0 4 0 i_B rfl rfl (by decide) (hk_in (by decide +kernel) rfl) rfl d_B_isLowLit_1 ?_
  refine lv_iconst (v := (5 : Int32)) hx hb d_B_isLowLit_4 (by decide) ?_
  refine hk_ild C hP 1 0 (v := (b0 u) 5) rfl rfl (hk_inl (by decide)) rfl d_B_isLowLit_5 ?_
  refine lv_iconst (v := (1 : Int32)) hx hb d_B_isLowLit_6 (by decide) ?_
  refine lv_icmp_ne (tgt := 21) hx hb d_B_isLowLit_7 (by decide) (fun c_1 => ?_) (fun c_1 => ?_)
  · skip
    refine lv_iconst (v := (0 : Int32)) hx hb d_B_isLowLit_21 (by decide) ?_
    have e : m_B_isLowLit u = (0 : Int32) := (if_neg c_1).trans (rfl)
    exact hk_rz C hAe hP hD hS (Or.inl rfl) e.symm rfl d_B_isLowLit_22
  · skip
    refine lv_aload_n hx hb d_B_isLowLit_10 rfl (lv_at hl 0 rfl) ?_
    refine hk_goI (hk_kV (k := 0) (As := []) (rest := []) C (c_B_wantsLow l G ad u hI _) Y_B_wantsLow (hk_in (by decide +kernel) rfl) rfl rfl ⟨Nat.le_of_ble_eq_true rfl, Nat.le_of_ble_eq_true rfl⟩ (va_recv hE.1 hP (ci := 4) (q0 := 0) rfl rfl) hP hD rfl hl.1 rfl (Nat.le_of_ble_eq_true rfl) d_B_isLowLit_11 ⟨Nat.zero_le _, Nat.zero_le _⟩) hD hS hA (fun H locs hP hD hS => ?_)
    refine lv_if_eq (tgt := 21) hx hb d_B_isLowLit_14 (by decide) (fun c_2 => ?_) (fun c_2 => ?_)
    · skip
      refine lv_iconst (v := (0 : Int32)) hx hb d_B_isLowLit_21 (by decide) ?_
      have e : m_B_isLowLit u = (0 : Int32) := (if_pos c_1).trans ((if_pos c_2).trans (rfl))
      exact hk_rz C hAe hP hD hS (Or.inl rfl) e.symm rfl d_B_isLowLit_22
    · skip
      refine lv_iconst (v := (1 : Int32)) hx hb d_B_isLowLit_17 (by decide) ?_
      refine lv_goto (tgt := 22) hx hb d_B_isLowLit_18 (by decide) ?_
      have e : m_B_isLowLit u = (1 : Int32) := (if_pos c_1).trans ((if_neg c_2).trans (rfl))
      exact hk_rz C hAe hP hD hS (Or.inr rfl) e.symm rfl d_B_isLowLit_22
theorem Y_B_turnBulbIsOut : hk_Y y_B_turnBulbIsOut b_B_turnBulbIsOut 2 (some .boolean) 1 := ⟨hk_in (by decide +kernel) rfl, hk_in (by decide +kernel) rfl, hk_in (by decide +kernel) rfl, hk_in (List.mem_of_getElem? (i := 243) rfl) rfl, by decide, by decide, by decide +kernel⟩
abbrev rm_B_turnBulbIsOut : Room := { frames := 0, cells := 0, slots := 0, locals := 0 }
set_option maxHeartbeats 4000000 in
set_option maxRecDepth 100000 in
theorem c_B_turnBulbIsOut (l : Launch) (G : hk_G) (ad : Nat → Nat) (u : cB) (p1 : Int32) (hI : Iv u) (hs : p1 = 0 ∨ p1 = 1) : hk_I l G y_B_turnBulbIsOut b_B_turnBulbIsOut 2 (some .boolean) rm_B_turnBulbIsOut [.ref (ad 0), .int p1] (wB G ad u) (m_B_turnBulbIsOut p1 u) (wB G ad u) := by
  refine hk_I_of (by decide) (Nat.le_of_ble_eq_true rfl) ?_
  intro p e s m below meth c A ls C hAe hA hP hD hS hl
  have hx := C.1
  have hb := C.2.1
  have hown := C.2.2.2.2.1
  have hts := C.2.2.2.2.2.1
  have hE := C.2.2.2.2.2.2.2
  have hl : lv_has ls 2 [(0, .ref (ad 0)), (1, .int p1)] := hl
  rcases hs with rfl | rfl
  · skip
    refine lv_aload_n hx hb d_B_turnBulbIsOut_0 rfl (lv_at hl 0 rfl) ?_
    refine hk_get (v := .ref (ad 3)) C hP 0 4 2 i_B rfl rfl (by decide) (hk_in (by decide +kernel) rfl) rfl d_B_turnBulbIsOut_1 ?_
    refine lv_iconst (v := (4 : Int32)) hx hb d_B_turnBulbIsOut_4 (by decide) ?_
    refine lv_iload_n hx hb d_B_turnBulbIsOut_5 rfl (lv_at hl 1 rfl) ?_
    refine lv_iadd hx hb d_B_turnBulbIsOut_6 ?_
    refine hk_fold (z := (4 : Int32)) (by decide) ?_
    refine hk_zld C hP 3 1 (v := (b2 u) 4) rfl rfl (hk_inl (by decide)) rfl d_B_turnBulbIsOut_7 ?_
    have e : m_B_turnBulbIsOut (0 : Int32) u = (b2 u) 4 := rfl
    exact hk_rz C hAe hP hD hS (hI.1 _) e.symm rfl d_B_turnBulbIsOut_8
  · skip
    refine lv_aload_n hx hb d_B_turnBulbIsOut_0 rfl (lv_at hl 0 rfl) ?_
    refine hk_get (v := .ref (ad 3)) C hP 0 4 2 i_B rfl rfl (by decide) (hk_in (by decide +kernel) rfl) rfl d_B_turnBulbIsOut_1 ?_
    refine lv_iconst (v := (4 : Int32)) hx hb d_B_turnBulbIsOut_4 (by decide) ?_
    refine lv_iload_n hx hb d_B_turnBulbIsOut_5 rfl (lv_at hl 1 rfl) ?_
    refine lv_iadd hx hb d_B_turnBulbIsOut_6 ?_
    refine hk_fold (z := (5 : Int32)) (by decide) ?_
    refine hk_zld C hP 3 1 (v := (b2 u) 5) rfl rfl (hk_inl (by decide)) rfl d_B_turnBulbIsOut_7 ?_
    have e : m_B_turnBulbIsOut (1 : Int32) u = (b2 u) 5 := rfl
    exact hk_rz C hAe hP hD hS (hI.1 _) e.symm rfl d_B_turnBulbIsOut_8
theorem Y_B_isSideLit : hk_Y y_B_isSideLit b_B_isSideLit 2 (some .boolean) 1 := ⟨hk_in (by decide +kernel) rfl, hk_in (by decide +kernel) rfl, hk_in (by decide +kernel) rfl, hk_in (List.mem_of_getElem? (i := 239) rfl) rfl, by decide, by decide, by decide +kernel⟩
abbrev rm_B_isSideLit : Room := { frames := 2, cells := 0, slots := 0, locals := 41 }
set_option maxHeartbeats 4000000 in
set_option maxRecDepth 100000 in
theorem c_B_isSideLit (l : Launch) (G : hk_G) (ad : Nat → Nat) (u : cB) (p1 : Int32) (hI : Iv u) (hs : p1 = 0 ∨ p1 = 1) : hk_I l G y_B_isSideLit b_B_isSideLit 2 (some .boolean) rm_B_isSideLit [.ref (ad 0), .int p1] (wB G ad u) (m_B_isSideLit p1 u) (wB G ad u) := by
  refine hk_I_of (by decide) (Nat.le_of_ble_eq_true rfl) ?_
  intro p e s m below meth c A ls C hAe hA hP hD hS hl
  have hx := C.1
  have hb := C.2.1
  have hown := C.2.2.2.2.1
  have hts := C.2.2.2.2.2.1
  have hE := C.2.2.2.2.2.2.2
  have hl : lv_has ls 2 [(0, .ref (ad 0)), (1, .int p1)] := hl
  rcases hs with rfl | rfl
  · skip
    refine lv_aload_n hx hb d_B_isSideLit_0 rfl (lv_at hl 0 rfl) ?_
    refine hk_get (v := .ref (ad 4)) C hP 0 4 3 i_B rfl rfl (by decide) (hk_in (by decide +kernel) rfl) rfl d_B_isSideLit_1 ?_
    refine lv_iload_n hx hb d_B_isSideLit_4 rfl (lv_at hl 1 rfl) ?_
    refine hk_ald C hP 4 2 (v := (ad 5)) rfl rfl (hk_inl (by decide)) rfl d_B_isSideLit_5 ?_
    refine lv_aload_n hx hb d_B_isSideLit_6 rfl (lv_at hl 0 rfl) ?_
    refine lv_iload_n hx hb d_B_isSideLit_7 rfl (lv_at hl 1 rfl) ?_
    refine hk_goI (hk_kV (k := 1) (As := [.int (0 : Int32)]) (rest := [.ref (ad 5)]) C (c_B_turnBulbIsOut l G ad u (0 : Int32) hI (Or.inl rfl) _) Y_B_turnBulbIsOut (hk_in (by decide +kernel) rfl) rfl rfl ⟨Nat.le_of_ble_eq_true rfl, Nat.le_of_ble_eq_true rfl⟩ (va_recv hE.1 hP (ci := 4) (q0 := 0) rfl rfl) hP hD rfl hl.1 rfl (Nat.le_of_ble_eq_true rfl) d_B_isSideLit_8 ⟨Nat.zero_le _, Nat.zero_le _⟩) hD hS hA (fun H locs hP hD hS => ?_)
    refine hk_goI1 5 (w2 := wB G ad u) (hk_kN (host := "BodyRows2") (k := 1) (As := [.int (m_B_turnBulbIsOut (0 : Int32) u)]) (rest := []) C (c_Side_isBright l G (ad 5) (b3 u 0) (m_B_turnBulbIsOut (0 : Int32) u) _) Y_Side_isBright (by decide +kernel) rfl rfl ⟨Nat.le_of_ble_eq_true rfl, Nat.le_of_ble_eq_true rfl⟩ (va_recv hE.1 hP (ci := 0) (q0 := 5) rfl rfl) (hP.sub (ws' := (wS (ad 5) (b3 u 0))) [5] rfl) (hD.sub (ws' := (wS (ad 5) (b3 u 0))) [5] (by decide) rfl) rfl hl.1 rfl (Nat.le_of_ble_eq_true rfl) d_B_isSideLit_11 ⟨Nat.zero_le _, Nat.zero_le _⟩) hP hD hS hA rfl rfl (fun H locs hP hD hS => ?_)
    have e : m_B_isSideLit (0 : Int32) u = m_Side_isBright (m_B_turnBulbIsOut (0 : Int32) u) (b3 u 0) := rfl
    exact hk_rz C hAe hP hD hS (z_Side_isBright _ _) e.symm rfl d_B_isSideLit_14
  · skip
    refine lv_aload_n hx hb d_B_isSideLit_0 rfl (lv_at hl 0 rfl) ?_
    refine hk_get (v := .ref (ad 4)) C hP 0 4 3 i_B rfl rfl (by decide) (hk_in (by decide +kernel) rfl) rfl d_B_isSideLit_1 ?_
    refine lv_iload_n hx hb d_B_isSideLit_4 rfl (lv_at hl 1 rfl) ?_
    refine hk_ald C hP 4 2 (v := (ad 6)) rfl rfl (hk_inl (by decide)) rfl d_B_isSideLit_5 ?_
    refine lv_aload_n hx hb d_B_isSideLit_6 rfl (lv_at hl 0 rfl) ?_
    refine lv_iload_n hx hb d_B_isSideLit_7 rfl (lv_at hl 1 rfl) ?_
    refine hk_goI (hk_kV (k := 1) (As := [.int (1 : Int32)]) (rest := [.ref (ad 6)]) C (c_B_turnBulbIsOut l G ad u (1 : Int32) hI (Or.inr rfl) _) Y_B_turnBulbIsOut (hk_in (by decide +kernel) rfl) rfl rfl ⟨Nat.le_of_ble_eq_true rfl, Nat.le_of_ble_eq_true rfl⟩ (va_recv hE.1 hP (ci := 4) (q0 := 0) rfl rfl) hP hD rfl hl.1 rfl (Nat.le_of_ble_eq_true rfl) d_B_isSideLit_8 ⟨Nat.zero_le _, Nat.zero_le _⟩) hD hS hA (fun H locs hP hD hS => ?_)
    refine hk_goI1 6 (w2 := wB G ad u) (hk_kN (host := "BodyRows2") (k := 1) (As := [.int (m_B_turnBulbIsOut (1 : Int32) u)]) (rest := []) C (c_Side_isBright l G (ad 6) (b3 u 1) (m_B_turnBulbIsOut (1 : Int32) u) _) Y_Side_isBright (by decide +kernel) rfl rfl ⟨Nat.le_of_ble_eq_true rfl, Nat.le_of_ble_eq_true rfl⟩ (va_recv hE.1 hP (ci := 0) (q0 := 6) rfl rfl) (hP.sub (ws' := (wS (ad 6) (b3 u 1))) [6] rfl) (hD.sub (ws' := (wS (ad 6) (b3 u 1))) [6] (by decide) rfl) rfl hl.1 rfl (Nat.le_of_ble_eq_true rfl) d_B_isSideLit_11 ⟨Nat.zero_le _, Nat.zero_le _⟩) hP hD hS hA rfl rfl (fun H locs hP hD hS => ?_)
    have e : m_B_isSideLit (1 : Int32) u = m_Side_isBright (m_B_turnBulbIsOut (1 : Int32) u) (b3 u 1) := rfl
    exact hk_rz C hAe hP hD hS (z_Side_isBright _ _) e.symm rfl d_B_isSideLit_14
theorem Y_B_outputNow : hk_Y y_B_outputNow b_B_outputNow 2 (some .int) 1 := ⟨hk_in (by decide +kernel) rfl, hk_in (by decide +kernel) rfl, hk_in (by decide +kernel) rfl, hk_in (List.mem_of_getElem? (i := 220) rfl) rfl, by decide, by decide, by decide +kernel⟩
abbrev rm_B_outputNow : Room := { frames := 3, cells := 0, slots := 0, locals := 62 }
set_option maxHeartbeats 4000000 in
set_option maxRecDepth 100000 in
theorem c_B_outputNow (l : Launch) (G : hk_G) (ad : Nat → Nat) (u : cB) (p1 : Int32) (hI : Iv u) (hi : p1 = 0 ∨ p1 = 1 ∨ p1 = 2 ∨ p1 = 3 ∨ p1 = 4 ∨ p1 = 5 ∨ p1 = 6 ∨ p1 = 7 ∨ p1 = 8 ∨ p1 = 9) : hk_I l G y_B_outputNow b_B_outputNow 2 (some .int) rm_B_outputNow [.ref (ad 0), .int p1] (wB G ad u) (m_B_outputNow p1 u) (wB G ad u) := by
  refine hk_I_of (by decide) (Nat.le_of_ble_eq_true rfl) ?_
  intro p e s m below meth c A ls C hAe hA hP hD hS hl
  have hx := C.1
  have hb := C.2.1
  have hown := C.2.2.2.2.1
  have hts := C.2.2.2.2.2.1
  have hE := C.2.2.2.2.2.2.2
  have hl : lv_has ls 2 [(0, .ref (ad 0)), (1, .int p1)] := hl
  rcases hi with rfl | rfl | rfl | rfl | rfl | rfl | rfl | rfl | rfl | rfl
  · skip
    refine lv_iload_n hx hb d_B_outputNow_0 rfl (lv_at hl 1 rfl) ?_
    refine lv_tableIn (tgt := 56) (off := 55) hx hb d_B_outputNow_1 (by decide) (by decide) rfl (by decide) ?_
    refine lv_aload_n hx hb d_B_outputNow_56 rfl (lv_at hl 0 rfl) ?_
    refine hk_goI (hk_kV (k := 0) (As := []) (rest := []) C (c_B_isParkingLit l G ad u hI _) Y_B_isParkingLit (hk_in (by decide +kernel) rfl) rfl rfl ⟨Nat.le_of_ble_eq_true rfl, Nat.le_of_ble_eq_true rfl⟩ (va_recv hE.1 hP (ci := 4) (q0 := 0) rfl rfl) hP hD rfl hl.1 rfl (Nat.le_of_ble_eq_true rfl) d_B_outputNow_57 ⟨Nat.zero_le _, Nat.zero_le _⟩) hD hS hA (fun H locs hP hD hS => ?_)
    refine hk_goIe (hk_kS (k := 1) (As := [.int (m_B_isParkingLit u)]) (rest := []) C (c_B_bit l G (m_B_isParkingLit u) _) Y_B_bit (hk_in (by decide +kernel) rfl) rfl rfl ⟨Nat.le_of_ble_eq_true rfl, Nat.le_of_ble_eq_true rfl⟩ hk_Pn (hk_Dn (A := A)) rfl hl.1 rfl (Nat.le_of_ble_eq_true rfl) d_B_outputNow_60 ⟨Nat.zero_le _, Nat.zero_le _⟩) hP hS hA (fun H locs hP hS => ?_)
    have e : m_B_outputNow (0 : Int32) u = m_B_bit (m_B_isParkingLit u) := (if_pos rfl).trans (rfl)
    exact hk_ri C hAe hP hD hS e.symm rfl d_B_outputNow_63
  · skip
    refine lv_iload_n hx hb d_B_outputNow_0 rfl (lv_at hl 1 rfl) ?_
    refine lv_tableIn (tgt := 64) (off := 63) hx hb d_B_outputNow_1 (by decide) (by decide) rfl (by decide) ?_
    refine lv_aload_n hx hb d_B_outputNow_64 rfl (lv_at hl 0 rfl) ?_
    refine hk_goI (hk_kV (k := 0) (As := []) (rest := []) C (c_B_isLowLit l G ad u hI _) Y_B_isLowLit (hk_in (by decide +kernel) rfl) rfl rfl ⟨Nat.le_of_ble_eq_true rfl, Nat.le_of_ble_eq_true rfl⟩ (va_recv hE.1 hP (ci := 4) (q0 := 0) rfl rfl) hP hD rfl hl.1 rfl (Nat.le_of_ble_eq_true rfl) d_B_outputNow_65 ⟨Nat.zero_le _, Nat.zero_le _⟩) hD hS hA (fun H locs hP hD hS => ?_)
    refine hk_goIe (hk_kS (k := 1) (As := [.int (m_B_isLowLit u)]) (rest := []) C (c_B_bit l G (m_B_isLowLit u) _) Y_B_bit (hk_in (by decide +kernel) rfl) rfl rfl ⟨Nat.le_of_ble_eq_true rfl, Nat.le_of_ble_eq_true rfl⟩ hk_Pn (hk_Dn (A := A)) rfl hl.1 rfl (Nat.le_of_ble_eq_true rfl) d_B_outputNow_68 ⟨Nat.zero_le _, Nat.zero_le _⟩) hP hS hA (fun H locs hP hS => ?_)
    have e : m_B_outputNow (1 : Int32) u = m_B_bit (m_B_isLowLit u) := (if_neg (by decide)).trans ((if_pos rfl).trans (rfl))
    exact hk_ri C hAe hP hD hS e.symm rfl d_B_outputNow_71
  · skip
    refine lv_iload_n hx hb d_B_outputNow_0 rfl (lv_at hl 1 rfl) ?_
    refine lv_tableIn (tgt := 72) (off := 71) hx hb d_B_outputNow_1 (by decide) (by decide) rfl (by decide) ?_
    refine lv_aload_n hx hb d_B_outputNow_72 rfl (lv_at hl 0 rfl) ?_
    refine hk_goI (hk_kV (k := 0) (As := []) (rest := []) C (c_B_isLowLit l G ad u hI _) Y_B_isLowLit (hk_in (by decide +kernel) rfl) rfl rfl ⟨Nat.le_of_ble_eq_true rfl, Nat.le_of_ble_eq_true rfl⟩ (va_recv hE.1 hP (ci := 4) (q0 := 0) rfl rfl) hP hD rfl hl.1 rfl (Nat.le_of_ble_eq_true rfl) d_B_outputNow_73 ⟨Nat.zero_le _, Nat.zero_le _⟩) hD hS hA (fun H locs hP hD hS => ?_)
    refine lv_if_eq (tgt := 94) hx hb d_B_outputNow_76 (by decide) (fun c_1 => ?_) (fun c_1 => ?_)
    · skip
      refine lv_iconst (v := (0 : Int32)) hx hb d_B_outputNow_94 (by decide) ?_
      refine hk_goIe (hk_kS (k := 1) (As := [.int (0 : Int32)]) (rest := []) C (c_B_bit l G (0 : Int32) _) Y_B_bit (hk_in (by decide +kernel) rfl) rfl rfl ⟨Nat.le_of_ble_eq_true rfl, Nat.le_of_ble_eq_true rfl⟩ hk_Pn (hk_Dn (A := A)) rfl hl.1 rfl (Nat.le_of_ble_eq_true rfl) d_B_outputNow_95 ⟨Nat.zero_le _, Nat.zero_le _⟩) hP hS hA (fun H locs hP hS => ?_)
      have e : m_B_outputNow (2 : Int32) u = m_B_bit (0 : Int32) := (if_neg (by decide)).trans ((if_neg (by decide)).trans ((if_pos rfl).trans ((if_pos c_1).trans (rfl))))
      exact hk_ri C hAe hP hD hS e.symm rfl d_B_outputNow_98
    · skip
      refine lv_aload_n hx hb d_B_outputNow_79 rfl (lv_at hl 0 rfl) ?_
      refine hk_get (v := .ref (ad 1)) C hP 0 4 0 i_B rfl rfl (by decide) (hk_in (by decide +kernel) rfl) rfl d_B_outputNow_80 ?_
      refine lv_bipush (v := (6 : Int32)) hx hb d_B_outputNow_83 (by decide) ?_
      refine hk_ild C hP 1 0 (v := (b0 u) 6) rfl rfl (hk_inl (by decide)) rfl d_B_outputNow_85 ?_
      refine lv_iconst (v := (1 : Int32)) hx hb d_B_outputNow_86 (by decide) ?_
      refine lv_icmp_ne (tgt := 94) hx hb d_B_outputNow_87 (by decide) (fun c_2 => ?_) (fun c_2 => ?_)
      · skip
        refine lv_iconst (v := (0 : Int32)) hx hb d_B_outputNow_94 (by decide) ?_
        refine hk_goIe (hk_kS (k := 1) (As := [.int (0 : Int32)]) (rest := []) C (c_B_bit l G (0 : Int32) _) Y_B_bit (hk_in (by decide +kernel) rfl) rfl rfl ⟨Nat.le_of_ble_eq_true rfl, Nat.le_of_ble_eq_true rfl⟩ hk_Pn (hk_Dn (A := A)) rfl hl.1 rfl (Nat.le_of_ble_eq_true rfl) d_B_outputNow_95 ⟨Nat.zero_le _, Nat.zero_le _⟩) hP hS hA (fun H locs hP hS => ?_)
        have e : m_B_outputNow (2 : Int32) u = m_B_bit (0 : Int32) := (if_neg (by decide)).trans ((if_neg (by decide)).trans ((if_pos rfl).trans ((if_neg c_1).trans ((if_neg c_2).trans (rfl)))))
        exact hk_ri C hAe hP hD hS e.symm rfl d_B_outputNow_98
      · skip
        refine lv_iconst (v := (1 : Int32)) hx hb d_B_outputNow_90 (by decide) ?_
        refine lv_goto (tgt := 95) hx hb d_B_outputNow_91 (by decide) ?_
        refine hk_goIe (hk_kS (k := 1) (As := [.int (1 : Int32)]) (rest := []) C (c_B_bit l G (1 : Int32) _) Y_B_bit (hk_in (by decide +kernel) rfl) rfl rfl ⟨Nat.le_of_ble_eq_true rfl, Nat.le_of_ble_eq_true rfl⟩ hk_Pn (hk_Dn (A := A)) rfl hl.1 rfl (Nat.le_of_ble_eq_true rfl) d_B_outputNow_95 ⟨Nat.zero_le _, Nat.zero_le _⟩) hP hS hA (fun H locs hP hS => ?_)
        have e : m_B_outputNow (2 : Int32) u = m_B_bit (1 : Int32) := (if_neg (by decide)).trans ((if_neg (by decide)).trans ((if_pos rfl).trans ((if_neg c_1).trans ((if_pos c_2).trans (rfl)))))
        exact hk_ri C hAe hP hD hS e.symm rfl d_B_outputNow_98
  · skip
    refine lv_iload_n hx hb d_B_outputNow_0 rfl (lv_at hl 1 rfl) ?_
    refine lv_tableIn (tgt := 99) (off := 98) hx hb d_B_outputNow_1 (by decide) (by decide) rfl (by decide) ?_
    refine lv_aload_n hx hb d_B_outputNow_99 rfl (lv_at hl 0 rfl) ?_
    refine lv_iload_n hx hb d_B_outputNow_100 rfl (lv_at hl 1 rfl) ?_
    refine lv_iconst (v := (3 : Int32)) hx hb d_B_outputNow_101 (by decide) ?_
    refine lv_isub hx hb d_B_outputNow_102 ?_
    refine hk_fold (z := (0 : Int32)) (by decide) ?_
    refine hk_goI (hk_kV (k := 1) (As := [.int (0 : Int32)]) (rest := []) C (c_B_isSideLit l G ad u (0 : Int32) hI (Or.inl rfl) _) Y_B_isSideLit (hk_in (by decide +kernel) rfl) rfl rfl ⟨Nat.le_of_ble_eq_true rfl, Nat.le_of_ble_eq_true rfl⟩ (va_recv hE.1 hP (ci := 4) (q0 := 0) rfl rfl) hP hD rfl hl.1 rfl (Nat.le_of_ble_eq_true rfl) d_B_outputNow_103 ⟨Nat.zero_le _, Nat.zero_le _⟩) hD hS hA (fun H locs hP hD hS => ?_)
    refine hk_goIe (hk_kS (k := 1) (As := [.int (m_B_isSideLit (0 : Int32) u)]) (rest := []) C (c_B_bit l G (m_B_isSideLit (0 : Int32) u) _) Y_B_bit (hk_in (by decide +kernel) rfl) rfl rfl ⟨Nat.le_of_ble_eq_true rfl, Nat.le_of_ble_eq_true rfl⟩ hk_Pn (hk_Dn (A := A)) rfl hl.1 rfl (Nat.le_of_ble_eq_true rfl) d_B_outputNow_106 ⟨Nat.zero_le _, Nat.zero_le _⟩) hP hS hA (fun H locs hP hS => ?_)
    have e : m_B_outputNow (3 : Int32) u = m_B_bit (m_B_isSideLit (0 : Int32) u) := (if_neg (by decide)).trans ((if_neg (by decide)).trans ((if_neg (by decide)).trans ((if_pos rfl).trans (rfl))))
    exact hk_ri C hAe hP hD hS e.symm rfl d_B_outputNow_109
  · skip
    refine lv_iload_n hx hb d_B_outputNow_0 rfl (lv_at hl 1 rfl) ?_
    refine lv_tableIn (tgt := 99) (off := 98) hx hb d_B_outputNow_1 (by decide) (by decide) rfl (by decide) ?_
    refine lv_aload_n hx hb d_B_outputNow_99 rfl (lv_at hl 0 rfl) ?_
    refine lv_iload_n hx hb d_B_outputNow_100 rfl (lv_at hl 1 rfl) ?_
    refine lv_iconst (v := (3 : Int32)) hx hb d_B_outputNow_101 (by decide) ?_
    refine lv_isub hx hb d_B_outputNow_102 ?_
    refine hk_fold (z := (1 : Int32)) (by decide) ?_
    refine hk_goI (hk_kV (k := 1) (As := [.int (1 : Int32)]) (rest := []) C (c_B_isSideLit l G ad u (1 : Int32) hI (Or.inr rfl) _) Y_B_isSideLit (hk_in (by decide +kernel) rfl) rfl rfl ⟨Nat.le_of_ble_eq_true rfl, Nat.le_of_ble_eq_true rfl⟩ (va_recv hE.1 hP (ci := 4) (q0 := 0) rfl rfl) hP hD rfl hl.1 rfl (Nat.le_of_ble_eq_true rfl) d_B_outputNow_103 ⟨Nat.zero_le _, Nat.zero_le _⟩) hD hS hA (fun H locs hP hD hS => ?_)
    refine hk_goIe (hk_kS (k := 1) (As := [.int (m_B_isSideLit (1 : Int32) u)]) (rest := []) C (c_B_bit l G (m_B_isSideLit (1 : Int32) u) _) Y_B_bit (hk_in (by decide +kernel) rfl) rfl rfl ⟨Nat.le_of_ble_eq_true rfl, Nat.le_of_ble_eq_true rfl⟩ hk_Pn (hk_Dn (A := A)) rfl hl.1 rfl (Nat.le_of_ble_eq_true rfl) d_B_outputNow_106 ⟨Nat.zero_le _, Nat.zero_le _⟩) hP hS hA (fun H locs hP hS => ?_)
    have e : m_B_outputNow (4 : Int32) u = m_B_bit (m_B_isSideLit (1 : Int32) u) := (if_neg (by decide)).trans ((if_neg (by decide)).trans ((if_neg (by decide)).trans ((if_neg (by decide)).trans ((if_pos rfl).trans (rfl)))))
    exact hk_ri C hAe hP hD hS e.symm rfl d_B_outputNow_109
  · skip
    refine lv_iload_n hx hb d_B_outputNow_0 rfl (lv_at hl 1 rfl) ?_
    refine lv_tableIn (tgt := 110) (off := 109) hx hb d_B_outputNow_1 (by decide) (by decide) rfl (by decide) ?_
    refine lv_aload_n hx hb d_B_outputNow_110 rfl (lv_at hl 0 rfl) ?_
    refine hk_get (v := .ref (ad 7)) C hP 0 4 4 i_B rfl rfl (by decide) (hk_in (by decide +kernel) rfl) rfl d_B_outputNow_111 ?_
    refine hk_getN (host := "BodyRows2") (v := .int ((b4 u).2.2)) C hP 7 1 2 i_Wiper rfl rfl (by decide) (by decide +kernel) rfl d_B_outputNow_114 ?_
    have e : m_B_outputNow (5 : Int32) u = (b4 u).2.2 := (if_neg (by decide)).trans ((if_neg (by decide)).trans ((if_neg (by decide)).trans ((if_neg (by decide)).trans ((if_neg (by decide)).trans ((if_pos rfl).trans (rfl))))))
    exact hk_ri C hAe hP hD hS e.symm rfl d_B_outputNow_117
  · skip
    refine lv_iload_n hx hb d_B_outputNow_0 rfl (lv_at hl 1 rfl) ?_
    refine lv_tableIn (tgt := 118) (off := 117) hx hb d_B_outputNow_1 (by decide) (by decide) rfl (by decide) ?_
    refine lv_aload_n hx hb d_B_outputNow_118 rfl (lv_at hl 0 rfl) ?_
    refine hk_get (v := .ref (ad 1)) C hP 0 4 0 i_B rfl rfl (by decide) (hk_in (by decide +kernel) rfl) rfl d_B_outputNow_119 ?_
    refine lv_bipush (v := (7 : Int32)) hx hb d_B_outputNow_122 (by decide) ?_
    refine hk_ild C hP 1 0 (v := (b0 u) 7) rfl rfl (hk_inl (by decide)) rfl d_B_outputNow_124 ?_
    have e : m_B_outputNow (6 : Int32) u = (b0 u) 7 := (if_neg (by decide)).trans ((if_neg (by decide)).trans ((if_neg (by decide)).trans ((if_neg (by decide)).trans ((if_neg (by decide)).trans ((if_neg (by decide)).trans ((if_pos rfl).trans (rfl)))))))
    exact hk_ri C hAe hP hD hS e.symm rfl d_B_outputNow_125
  · skip
    refine lv_iload_n hx hb d_B_outputNow_0 rfl (lv_at hl 1 rfl) ?_
    refine lv_tableIn (tgt := 126) (off := 125) hx hb d_B_outputNow_1 (by decide) (by decide) rfl (by decide) ?_
    refine lv_aload_n hx hb d_B_outputNow_126 rfl (lv_at hl 0 rfl) ?_
    refine hk_get (v := .int (b9 u)) C hP 0 4 9 i_B rfl rfl (by decide) (hk_in (by decide +kernel) rfl) rfl d_B_outputNow_127 ?_
    have e : m_B_outputNow (7 : Int32) u = b9 u := (if_neg (by decide)).trans ((if_neg (by decide)).trans ((if_neg (by decide)).trans ((if_neg (by decide)).trans ((if_neg (by decide)).trans ((if_neg (by decide)).trans ((if_neg (by decide)).trans ((if_pos rfl).trans (rfl))))))))
    exact hk_ri C hAe hP hD hS e.symm rfl d_B_outputNow_130
  · skip
    refine lv_iload_n hx hb d_B_outputNow_0 rfl (lv_at hl 1 rfl) ?_
    refine lv_tableIn (tgt := 131) (off := 130) hx hb d_B_outputNow_1 (by decide) (by decide) rfl (by decide) ?_
    refine lv_aload_n hx hb d_B_outputNow_131 rfl (lv_at hl 0 rfl) ?_
    refine hk_get (v := .int (b13 u)) C hP 0 4 13 i_B rfl rfl (by decide) (hk_in (by decide +kernel) rfl) rfl d_B_outputNow_132 ?_
    refine lv_if_eq (tgt := 153) hx hb d_B_outputNow_135 (by decide) (fun c_3 => ?_) (fun c_3 => ?_)
    · skip
      refine lv_iconst (v := (0 : Int32)) hx hb d_B_outputNow_153 (by decide) ?_
      refine hk_goIe (hk_kS (k := 1) (As := [.int (0 : Int32)]) (rest := []) C (c_B_bit l G (0 : Int32) _) Y_B_bit (hk_in (by decide +kernel) rfl) rfl rfl ⟨Nat.le_of_ble_eq_true rfl, Nat.le_of_ble_eq_true rfl⟩ hk_Pn (hk_Dn (A := A)) rfl hl.1 rfl (Nat.le_of_ble_eq_true rfl) d_B_outputNow_154 ⟨Nat.zero_le _, Nat.zero_le _⟩) hP hS hA (fun H locs hP hS => ?_)
      have e : m_B_outputNow (8 : Int32) u = m_B_bit (0 : Int32) := (if_neg (by decide)).trans ((if_neg (by decide)).trans ((if_neg (by decide)).trans ((if_neg (by decide)).trans ((if_neg (by decide)).trans ((if_neg (by decide)).trans ((if_neg (by decide)).trans ((if_neg (by decide)).trans ((if_pos rfl).trans ((if_pos c_3).trans (rfl))))))))))
      exact hk_ri C hAe hP hD hS e.symm rfl d_B_outputNow_157
    · skip
      refine lv_aload_n hx hb d_B_outputNow_138 rfl (lv_at hl 0 rfl) ?_
      refine lv_iload_n hx hb d_B_outputNow_139 rfl (lv_at hl 1 rfl) ?_
      refine lv_bipush (v := (8 : Int32)) hx hb d_B_outputNow_140 (by decide) ?_
      refine lv_isub hx hb d_B_outputNow_142 ?_
      refine hk_fold (z := (0 : Int32)) (by decide) ?_
      refine hk_goI (hk_kV (k := 1) (As := [.int (0 : Int32)]) (rest := []) C (c_B_isSideLit l G ad u (0 : Int32) hI (Or.inl rfl) _) Y_B_isSideLit (hk_in (by decide +kernel) rfl) rfl rfl ⟨Nat.le_of_ble_eq_true rfl, Nat.le_of_ble_eq_true rfl⟩ (va_recv hE.1 hP (ci := 4) (q0 := 0) rfl rfl) hP hD rfl hl.1 rfl (Nat.le_of_ble_eq_true rfl) d_B_outputNow_143 ⟨Nat.zero_le _, Nat.zero_le _⟩) hD hS hA (fun H locs hP hD hS => ?_)
      refine lv_if_eq (tgt := 153) hx hb d_B_outputNow_146 (by decide) (fun c_4 => ?_) (fun c_4 => ?_)
      · skip
        refine lv_iconst (v := (0 : Int32)) hx hb d_B_outputNow_153 (by decide) ?_
        refine hk_goIe (hk_kS (k := 1) (As := [.int (0 : Int32)]) (rest := []) C (c_B_bit l G (0 : Int32) _) Y_B_bit (hk_in (by decide +kernel) rfl) rfl rfl ⟨Nat.le_of_ble_eq_true rfl, Nat.le_of_ble_eq_true rfl⟩ hk_Pn (hk_Dn (A := A)) rfl hl.1 rfl (Nat.le_of_ble_eq_true rfl) d_B_outputNow_154 ⟨Nat.zero_le _, Nat.zero_le _⟩) hP hS hA (fun H locs hP hS => ?_)
        have e : m_B_outputNow (8 : Int32) u = m_B_bit (0 : Int32) := (if_neg (by decide)).trans ((if_neg (by decide)).trans ((if_neg (by decide)).trans ((if_neg (by decide)).trans ((if_neg (by decide)).trans ((if_neg (by decide)).trans ((if_neg (by decide)).trans ((if_neg (by decide)).trans ((if_pos rfl).trans ((if_neg c_3).trans ((if_pos c_4).trans (rfl)))))))))))
        exact hk_ri C hAe hP hD hS e.symm rfl d_B_outputNow_157
      · skip
        refine lv_iconst (v := (1 : Int32)) hx hb d_B_outputNow_149 (by decide) ?_
        refine lv_goto (tgt := 154) hx hb d_B_outputNow_150 (by decide) ?_
        refine hk_goIe (hk_kS (k := 1) (As := [.int (1 : Int32)]) (rest := []) C (c_B_bit l G (1 : Int32) _) Y_B_bit (hk_in (by decide +kernel) rfl) rfl rfl ⟨Nat.le_of_ble_eq_true rfl, Nat.le_of_ble_eq_true rfl⟩ hk_Pn (hk_Dn (A := A)) rfl hl.1 rfl (Nat.le_of_ble_eq_true rfl) d_B_outputNow_154 ⟨Nat.zero_le _, Nat.zero_le _⟩) hP hS hA (fun H locs hP hS => ?_)
        have e : m_B_outputNow (8 : Int32) u = m_B_bit (1 : Int32) := (if_neg (by decide)).trans ((if_neg (by decide)).trans ((if_neg (by decide)).trans ((if_neg (by decide)).trans ((if_neg (by decide)).trans ((if_neg (by decide)).trans ((if_neg (by decide)).trans ((if_neg (by decide)).trans ((if_pos rfl).trans ((if_neg c_3).trans ((if_neg c_4).trans (rfl)))))))))))
        exact hk_ri C hAe hP hD hS e.symm rfl d_B_outputNow_157
  · skip
    refine lv_iload_n hx hb d_B_outputNow_0 rfl (lv_at hl 1 rfl) ?_
    refine lv_tableIn (tgt := 131) (off := 130) hx hb d_B_outputNow_1 (by decide) (by decide) rfl (by decide) ?_
    refine lv_aload_n hx hb d_B_outputNow_131 rfl (lv_at hl 0 rfl) ?_
    refine hk_get (v := .int (b13 u)) C hP 0 4 13 i_B rfl rfl (by decide) (hk_in (by decide +kernel) rfl) rfl d_B_outputNow_132 ?_
    refine lv_if_eq (tgt := 153) hx hb d_B_outputNow_135 (by decide) (fun c_5 => ?_) (fun c_5 => ?_)
    · skip
      refine lv_iconst (v := (0 : Int32)) hx hb d_B_outputNow_153 (by decide) ?_
      refine hk_goIe (hk_kS (k := 1) (As := [.int (0 : Int32)]) (rest := []) C (c_B_bit l G (0 : Int32) _) Y_B_bit (hk_in (by decide +kernel) rfl) rfl rfl ⟨Nat.le_of_ble_eq_true rfl, Nat.le_of_ble_eq_true rfl⟩ hk_Pn (hk_Dn (A := A)) rfl hl.1 rfl (Nat.le_of_ble_eq_true rfl) d_B_outputNow_154 ⟨Nat.zero_le _, Nat.zero_le _⟩) hP hS hA (fun H locs hP hS => ?_)
      have e : m_B_outputNow (9 : Int32) u = m_B_bit (0 : Int32) := (if_neg (by decide)).trans ((if_neg (by decide)).trans ((if_neg (by decide)).trans ((if_neg (by decide)).trans ((if_neg (by decide)).trans ((if_neg (by decide)).trans ((if_neg (by decide)).trans ((if_neg (by decide)).trans ((if_neg (by decide)).trans ((if_pos rfl).trans ((if_pos c_5).trans (rfl)))))))))))
      exact hk_ri C hAe hP hD hS e.symm rfl d_B_outputNow_157
    · skip
      refine lv_aload_n hx hb d_B_outputNow_138 rfl (lv_at hl 0 rfl) ?_
      refine lv_iload_n hx hb d_B_outputNow_139 rfl (lv_at hl 1 rfl) ?_
      refine lv_bipush (v := (8 : Int32)) hx hb d_B_outputNow_140 (by decide) ?_
      refine lv_isub hx hb d_B_outputNow_142 ?_
      refine hk_fold (z := (1 : Int32)) (by decide) ?_
      refine hk_goI (hk_kV (k := 1) (As := [.int (1 : Int32)]) (rest := []) C (c_B_isSideLit l G ad u (1 : Int32) hI (Or.inr rfl) _) Y_B_isSideLit (hk_in (by decide +kernel) rfl) rfl rfl ⟨Nat.le_of_ble_eq_true rfl, Nat.le_of_ble_eq_true rfl⟩ (va_recv hE.1 hP (ci := 4) (q0 := 0) rfl rfl) hP hD rfl hl.1 rfl (Nat.le_of_ble_eq_true rfl) d_B_outputNow_143 ⟨Nat.zero_le _, Nat.zero_le _⟩) hD hS hA (fun H locs hP hD hS => ?_)
      refine lv_if_eq (tgt := 153) hx hb d_B_outputNow_146 (by decide) (fun c_6 => ?_) (fun c_6 => ?_)
      · skip
        refine lv_iconst (v := (0 : Int32)) hx hb d_B_outputNow_153 (by decide) ?_
        refine hk_goIe (hk_kS (k := 1) (As := [.int (0 : Int32)]) (rest := []) C (c_B_bit l G (0 : Int32) _) Y_B_bit (hk_in (by decide +kernel) rfl) rfl rfl ⟨Nat.le_of_ble_eq_true rfl, Nat.le_of_ble_eq_true rfl⟩ hk_Pn (hk_Dn (A := A)) rfl hl.1 rfl (Nat.le_of_ble_eq_true rfl) d_B_outputNow_154 ⟨Nat.zero_le _, Nat.zero_le _⟩) hP hS hA (fun H locs hP hS => ?_)
        have e : m_B_outputNow (9 : Int32) u = m_B_bit (0 : Int32) := (if_neg (by decide)).trans ((if_neg (by decide)).trans ((if_neg (by decide)).trans ((if_neg (by decide)).trans ((if_neg (by decide)).trans ((if_neg (by decide)).trans ((if_neg (by decide)).trans ((if_neg (by decide)).trans ((if_neg (by decide)).trans ((if_pos rfl).trans ((if_neg c_5).trans ((if_pos c_6).trans (rfl))))))))))))
        exact hk_ri C hAe hP hD hS e.symm rfl d_B_outputNow_157
      · skip
        refine lv_iconst (v := (1 : Int32)) hx hb d_B_outputNow_149 (by decide) ?_
        refine lv_goto (tgt := 154) hx hb d_B_outputNow_150 (by decide) ?_
        refine hk_goIe (hk_kS (k := 1) (As := [.int (1 : Int32)]) (rest := []) C (c_B_bit l G (1 : Int32) _) Y_B_bit (hk_in (by decide +kernel) rfl) rfl rfl ⟨Nat.le_of_ble_eq_true rfl, Nat.le_of_ble_eq_true rfl⟩ hk_Pn (hk_Dn (A := A)) rfl hl.1 rfl (Nat.le_of_ble_eq_true rfl) d_B_outputNow_154 ⟨Nat.zero_le _, Nat.zero_le _⟩) hP hS hA (fun H locs hP hS => ?_)
        have e : m_B_outputNow (9 : Int32) u = m_B_bit (1 : Int32) := (if_neg (by decide)).trans ((if_neg (by decide)).trans ((if_neg (by decide)).trans ((if_neg (by decide)).trans ((if_neg (by decide)).trans ((if_neg (by decide)).trans ((if_neg (by decide)).trans ((if_neg (by decide)).trans ((if_neg (by decide)).trans ((if_pos rfl).trans ((if_neg c_5).trans ((if_neg c_6).trans (rfl))))))))))))
        exact hk_ri C hAe hP hD hS e.symm rfl d_B_outputNow_157
theorem Y_B_noteOutputs : hk_Y y_B_noteOutputs b_B_noteOutputs 2 none 0 := ⟨hk_in (by decide +kernel) rfl, hk_in (by decide +kernel) rfl, hk_in (by decide +kernel) rfl, hk_in (List.mem_of_getElem? (i := 216) rfl) rfl, by decide, by decide, by decide +kernel⟩
abbrev rm_B_noteOutputs : Room := { frames := 4, cells := 0, slots := 0, locals := 83 }
set_option maxHeartbeats 4000000 in
set_option maxRecDepth 100000 in
theorem lp_B_noteOutputs_2 {p : Program} {l : Launch} {e : Env} {s : State} {m : MethodId} {below : List Frame} {meth : Method} {c : Code} {A : Nat → Prop} {Q : State → Prop} (G : hk_G) (ad : Nat → Nat) (u : cB) (hI : Iv u) (C : hk_C p s m meth c R_B b_B_noteOutputs 2 none ([.ref (ad 0)] : List Value).toArray G) (hA : ∀ q : Nat, s.heap.size ≤ q → A q) (n : Nat) (hn : n < 2 ^ 31) (hbn : (10 : Int32) = nI n) (hn10 : n ≤ 10)
    (kx : ∀ (H : Heap) (locs : List Loc) (ls : Array Slot), va_P (hk_D G) classes (wB G ad (li_B_noteOutputs_2 u n)) H → va_D A (wB G ad (li_B_noteOutputs_2 u n)) → va_S A s.heap H locs → lv_has ls 2 [(0, .ref (ad 0)), (1, .int (nI n))] → W p l e rm_B_noteOutputs s m ([.ref (ad 0)] : List Value).toArray below meth c H locs 0 0 Q (F0 m 25 ls [])) :
    ∀ (j k : Nat), k ≤ n → n + 1 ≤ k + j → ∀ (H : Heap) (locs : List Loc) (ls : Array Slot), va_P (hk_D G) classes (wB G ad (li_B_noteOutputs_2 u k)) H → va_D A (wB G ad (li_B_noteOutputs_2 u k)) → va_S A s.heap H locs → lv_has ls 2 [(0, .ref (ad 0)), (1, .int (nI k))] → W p l e rm_B_noteOutputs s m ([.ref (ad 0)] : List Value).toArray below meth c H locs 0 0 Q (F0 m 2 ls []) := by
  have hx := C.1
  have hb := C.2.1
  have hown := C.2.2.2.2.1
  have hts := C.2.2.2.2.2.1
  have hE := C.2.2.2.2.2.2.2
  intro j
  induction j with
  | zero =>
    intro k h1 h2
    exact absurd h2 (by omega)
  | succ j ih =>
    intro k hkn hj H locs ls hP hD hS hl
    refine lv_iload_n hx hb d_B_noteOutputs_2 rfl (lv_at hl 1 rfl) ?_
    refine lv_bipush (v := (10 : Int32)) hx hb d_B_noteOutputs_3 (by decide) ?_
    refine lv_icmp_ge (tgt := 25) hx hb d_B_noteOutputs_5 (by decide) (fun c_0 => ?_) (fun c_0 => ?_)
    · obtain rfl := hk_exit (n := n) hbn hn hkn c_0
      exact kx H locs ls hP hD hS (lv_sub hl [0, 1] rfl)
    · have hlt := hk_stay (n := n) hbn hn hkn c_0
      refine lv_aload_n hx hb d_B_noteOutputs_8 rfl (lv_at hl 0 rfl) ?_
      refine hk_get (v := .ref (ad 2)) C hP 0 4 1 i_B rfl rfl (by decide) (hk_in (by decide +kernel) rfl) rfl d_B_noteOutputs_9 ?_
      refine lv_iload_n hx hb d_B_noteOutputs_12 rfl (lv_at hl 1 rfl) ?_
      refine lv_aload_n hx hb d_B_noteOutputs_13 rfl (lv_at hl 0 rfl) ?_
      refine lv_iload_n hx hb d_B_noteOutputs_14 rfl (lv_at hl 1 rfl) ?_
      refine hk_goI (hk_kV (k := 1) (As := [.int (nI k)]) (rest := [.int (nI k), .ref (ad 2)]) C (c_B_outputNow l G ad (li_B_noteOutputs_2 u k) (nI k) (iv_note hI k) (hk_d10 (by omega)) _) Y_B_outputNow (hk_in (by decide +kernel) rfl) rfl rfl ⟨Nat.le_of_ble_eq_true rfl, Nat.le_of_ble_eq_true rfl⟩ (va_recv hE.1 hP (ci := 4) (q0 := 0) rfl rfl) hP hD rfl hl.1 rfl (Nat.le_of_ble_eq_true rfl) d_B_noteOutputs_15 ⟨Nat.zero_le _, Nat.zero_le _⟩) hD hS hA (fun H locs hP hD hS => ?_)
      refine hk_ist (w2 := wB G ad (f_B_noteOutputs_18 k (li_B_noteOutputs_2 u k))) C hP hD hS 2 0 rfl rfl (vp_in_nI (by omega) (by decide)) (by rw [nI_clamp (by omega)]; rfl) d_B_noteOutputs_18 (fun H locs hP hD hS => ?_)
      have hI1 : Iv (f_B_noteOutputs_18 k (li_B_noteOutputs_2 u k)) := (Iv_of (k2_f_B_noteOutputs_18 _ _) (k6_f_B_noteOutputs_18 _ _) (iv_note hI k))
      generalize hU1 : (f_B_noteOutputs_18 k (li_B_noteOutputs_2 u k)) = U1 at hP hD hI1
      refine lv_iinc (v := nI (k + 1)) (lv' := [(1, .int (nI (k + 1))), (0, .ref (ad 0))]) hx hb d_B_noteOutputs_19 hl (k := 1) rfl (nI_1 k) (by decide) rfl (fun ls hl => ?_)
      refine lv_goto (tgt := 2) hx hb d_B_noteOutputs_22 (by decide) ?_
      subst hU1
      have e : li_B_noteOutputs_2 u (k + 1) = (f_B_noteOutputs_18 k (li_B_noteOutputs_2 u k)) := rfl
      exact ih (k + 1) hlt (by omega) _ _ _ (by rw [e]; exact hP) (by rw [e]; exact hD) hS (lv_sub hl [1, 0] rfl)
set_option maxHeartbeats 4000000 in
set_option maxRecDepth 100000 in
theorem c_B_noteOutputs (l : Launch) (G : hk_G) (ad : Nat → Nat) (u : cB) (hI : Iv u) : hk_V l G y_B_noteOutputs b_B_noteOutputs 2 rm_B_noteOutputs [.ref (ad 0)] (wB G ad u) (wB G ad (m_B_noteOutputs u)) := by
  refine hk_V_of (by decide) (Nat.le_of_ble_eq_true rfl) ?_
  intro p e s m below meth c A ls C hAe hA hP hD hS hl
  have hx := C.1
  have hb := C.2.1
  have hown := C.2.2.2.2.1
  have hts := C.2.2.2.2.2.1
  have hE := C.2.2.2.2.2.2.2
  have hl : lv_has ls 2 [(0, .ref (ad 0))] := hl
  refine lv_iconst (v := (0 : Int32)) hx hb d_B_noteOutputs_0 (by decide) ?_
  refine lv_istore_n (lv' := [(1, .int (0 : Int32)), (0, .ref (ad 0))]) hx hb d_B_noteOutputs_1 rfl hl (by decide) rfl (fun ls hl => ?_)
  refine lp_B_noteOutputs_2 G ad u hI C hA 10 (by decide) rfl (by decide) (fun H locs ls hP hD hS hl => ?_) (10 + 1) 0 (Nat.zero_le _) (by omega) _ _ _ hP hD hS (lv_sub hl [1, 0] rfl)
  have e : m_B_noteOutputs u = (li_B_noteOutputs_2 u 10) := rfl
  exact hk_rv C hAe hP hD hS (by rw [e]) d_B_noteOutputs_25
theorem Y_B_countChangedOutputs : hk_Y y_B_countChangedOutputs b_B_countChangedOutputs 3 (some .int) 0 := ⟨hk_in (by decide +kernel) rfl, hk_in (by decide +kernel) rfl, hk_in (by decide +kernel) rfl, hk_in (List.mem_of_getElem? (i := 274) rfl) rfl, by decide, by decide, by decide +kernel⟩
abbrev rm_B_countChangedOutputs : Room := { frames := 4, cells := 0, slots := 0, locals := 83 }
set_option maxHeartbeats 4000000 in
set_option maxRecDepth 100000 in
theorem lp_B_countChangedOutputs_4 {p : Program} {l : Launch} {e : Env} {s : State} {m : MethodId} {below : List Frame} {meth : Method} {c : Code} {A : Nat → Prop} {Q : State → Prop} (G : hk_G) (ad : Nat → Nat) (u : cB) (hI : Iv u) (C : hk_C p s m meth c R_B b_B_countChangedOutputs 3 (some .int) ([.ref (ad 0)] : List Value).toArray G) (hA : ∀ q : Nat, s.heap.size ≤ q → A q) (n : Nat) (hn : n < 2 ^ 31) (hbn : (10 : Int32) = nI n) (hn10 : n ≤ 10)
    (kx : ∀ (H : Heap) (locs : List Loc) (ls : Array Slot), va_P (hk_D G) classes (wB G ad u) H → va_D A (wB G ad u) → va_S A s.heap H locs → lv_has ls 3 [(0, .ref (ad 0)), (1, .int (li_B_countChangedOutputs_4 u n)), (2, .int (nI n))] → W p l e rm_B_countChangedOutputs s m ([.ref (ad 0)] : List Value).toArray below meth c H locs 0 0 Q (F0 m 33 ls [])) :
    ∀ (j k : Nat), k ≤ n → n + 1 ≤ k + j → ∀ (H : Heap) (locs : List Loc) (ls : Array Slot), va_P (hk_D G) classes (wB G ad u) H → va_D A (wB G ad u) → va_S A s.heap H locs → lv_has ls 3 [(0, .ref (ad 0)), (1, .int (li_B_countChangedOutputs_4 u k)), (2, .int (nI k))] → W p l e rm_B_countChangedOutputs s m ([.ref (ad 0)] : List Value).toArray below meth c H locs 0 0 Q (F0 m 4 ls []) := by
  have hx := C.1
  have hb := C.2.1
  have hown := C.2.2.2.2.1
  have hts := C.2.2.2.2.2.1
  have hE := C.2.2.2.2.2.2.2
  intro j
  induction j with
  | zero =>
    intro k h1 h2
    exact absurd h2 (by omega)
  | succ j ih =>
    intro k hkn hj H locs ls hP hD hS hl
    refine lv_iload_n hx hb d_B_countChangedOutputs_4 rfl (lv_at hl 2 rfl) ?_
    refine lv_bipush (v := (10 : Int32)) hx hb d_B_countChangedOutputs_5 (by decide) ?_
    refine lv_icmp_ge (tgt := 33) hx hb d_B_countChangedOutputs_7 (by decide) (fun c_0 => ?_) (fun c_0 => ?_)
    · obtain rfl := hk_exit (n := n) hbn hn hkn c_0
      exact kx H locs ls hP hD hS (lv_sub hl [0, 1, 2] rfl)
    · have hlt := hk_stay (n := n) hbn hn hkn c_0
      refine lv_aload_n hx hb d_B_countChangedOutputs_10 rfl (lv_at hl 0 rfl) ?_
      refine lv_iload_n hx hb d_B_countChangedOutputs_11 rfl (lv_at hl 2 rfl) ?_
      refine hk_goI (hk_kV (k := 1) (As := [.int (nI k)]) (rest := []) C (c_B_outputNow l G ad u (nI k) hI (hk_d10 (by omega)) _) Y_B_outputNow (hk_in (by decide +kernel) rfl) rfl rfl ⟨Nat.le_of_ble_eq_true rfl, Nat.le_of_ble_eq_true rfl⟩ (va_recv hE.1 hP (ci := 4) (q0 := 0) rfl rfl) hP hD rfl hl.1 rfl (Nat.le_of_ble_eq_true rfl) d_B_countChangedOutputs_12 ⟨Nat.zero_le _, Nat.zero_le _⟩) hD hS hA (fun H locs hP hD hS => ?_)
      refine lv_aload_n hx hb d_B_countChangedOutputs_15 rfl (lv_at hl 0 rfl) ?_
      refine hk_get (v := .ref (ad 2)) C hP 0 4 1 i_B rfl rfl (by decide) (hk_in (by decide +kernel) rfl) rfl d_B_countChangedOutputs_16 ?_
      refine lv_iload_n hx hb d_B_countChangedOutputs_19 rfl (lv_at hl 2 rfl) ?_
      refine hk_ild C hP 2 0 (v := (b1 u) k) rfl rfl (vp_in_nI (by omega) (by decide)) (congrArg _ (nI_clamp (by omega))) d_B_countChangedOutputs_20 ?_
      refine lv_icmp_eq (tgt := 27) hx hb d_B_countChangedOutputs_21 (by decide) (fun c_1 => ?_) (fun c_1 => ?_)
      · skip
        refine lv_iinc (v := nI (k + 1)) (lv' := [(2, .int (nI (k + 1))), (0, .ref (ad 0)), (1, .int (li_B_countChangedOutputs_4 u k))]) hx hb d_B_countChangedOutputs_27 hl (k := 2) rfl (nI_1 k) (by decide) rfl (fun ls hl => ?_)
        refine lv_goto (tgt := 4) hx hb d_B_countChangedOutputs_30 (by decide) ?_
        have e : li_B_countChangedOutputs_4 u (k + 1) = (li_B_countChangedOutputs_4 u k) := (if_pos c_1).trans (rfl)
        exact ih (k + 1) hlt (by omega) _ _ _ hP hD hS (by rw [e]; exact lv_sub hl [1, 2, 0] rfl)
      · skip
        refine lv_iinc (v := (li_B_countChangedOutputs_4 u k) + (1 : Int32)) (lv' := [(1, .int ((li_B_countChangedOutputs_4 u k) + (1 : Int32))), (0, .ref (ad 0)), (2, .int (nI k))]) hx hb d_B_countChangedOutputs_24 hl (k := 1) rfl rfl (by decide) rfl (fun ls hl => ?_)
        refine lv_iinc (v := nI (k + 1)) (lv' := [(2, .int (nI (k + 1))), (1, .int ((li_B_countChangedOutputs_4 u k) + (1 : Int32))), (0, .ref (ad 0))]) hx hb d_B_countChangedOutputs_27 hl (k := 2) rfl (nI_1 k) (by decide) rfl (fun ls hl => ?_)
        refine lv_goto (tgt := 4) hx hb d_B_countChangedOutputs_30 (by decide) ?_
        have e : li_B_countChangedOutputs_4 u (k + 1) = (li_B_countChangedOutputs_4 u k) + (1 : Int32) := (if_neg c_1).trans (rfl)
        exact ih (k + 1) hlt (by omega) _ _ _ hP hD hS (by rw [e]; exact lv_sub hl [2, 1, 0] rfl)
set_option maxHeartbeats 4000000 in
set_option maxRecDepth 100000 in
theorem c_B_countChangedOutputs (l : Launch) (G : hk_G) (ad : Nat → Nat) (u : cB) (hI : Iv u) : hk_I l G y_B_countChangedOutputs b_B_countChangedOutputs 3 (some .int) rm_B_countChangedOutputs [.ref (ad 0)] (wB G ad u) (m_B_countChangedOutputs u) (wB G ad u) := by
  refine hk_I_of (by decide) (Nat.le_of_ble_eq_true rfl) ?_
  intro p e s m below meth c A ls C hAe hA hP hD hS hl
  have hx := C.1
  have hb := C.2.1
  have hown := C.2.2.2.2.1
  have hts := C.2.2.2.2.2.1
  have hE := C.2.2.2.2.2.2.2
  have hl : lv_has ls 3 [(0, .ref (ad 0))] := hl
  refine lv_iconst (v := (0 : Int32)) hx hb d_B_countChangedOutputs_0 (by decide) ?_
  refine lv_istore_n (lv' := [(1, .int (0 : Int32)), (0, .ref (ad 0))]) hx hb d_B_countChangedOutputs_1 rfl hl (by decide) rfl (fun ls hl => ?_)
  refine lv_iconst (v := (0 : Int32)) hx hb d_B_countChangedOutputs_2 (by decide) ?_
  refine lv_istore_n (lv' := [(2, .int (0 : Int32)), (1, .int (0 : Int32)), (0, .ref (ad 0))]) hx hb d_B_countChangedOutputs_3 rfl hl (by decide) rfl (fun ls hl => ?_)
  refine lp_B_countChangedOutputs_4 G ad u hI C hA 10 (by decide) rfl (by decide) (fun H locs ls hP hD hS hl => ?_) (10 + 1) 0 (Nat.zero_le _) (by omega) _ _ _ hP hD hS (lv_sub hl [2, 1, 0] rfl)
  refine lv_iload_n hx hb d_B_countChangedOutputs_33 rfl (lv_at hl 1 rfl) ?_
  have e : m_B_countChangedOutputs u = li_B_countChangedOutputs_4 u 10 := rfl
  exact hk_ri C hAe hP hD hS e.symm rfl d_B_countChangedOutputs_34
end
section
theorem Y_B_isWanted : hk_Y y_B_isWanted b_B_isWanted 2 (some .boolean) 1 := ⟨hk_in (by decide +kernel) rfl, hk_in (by decide +kernel) rfl, hk_in (by decide +kernel) rfl, hk_in (List.mem_of_getElem? (i := 262) rfl) rfl, by decide, by decide, by decide +kernel⟩
abbrev rm_B_isWanted : Room := { frames := 0, cells := 0, slots := 0, locals := 0 }
set_option maxHeartbeats 4000000 in
set_option maxRecDepth 100000 in
theorem c_B_isWanted (l : Launch) (G : hk_G) (ad : Nat → Nat) (u : cB) (p1 : Int32) (hI : Iv u) : hk_I l G y_B_isWanted b_B_isWanted 2 (some .boolean) rm_B_isWanted [.ref (ad 0), .int p1] (wB G ad u) (m_B_isWanted p1 u) (wB G ad u) := by
  refine hk_I_of (by decide) (Nat.le_of_ble_eq_true rfl) ?_
  intro p e s m below meth c A ls C hAe hA hP hD hS hl
  have hx := C.1
  have hb := C.2.1
  have hown := C.2.2.2.2.1
  have hts := C.2.2.2.2.2.1
  have hE := C.2.2.2.2.2.2.2
  have hl : lv_has ls 2 [(0, .ref (ad 0)), (1, .int p1)] := hl
  refine lv_aload_n hx hb d_B_isWanted_0 rfl (lv_at hl 0 rfl) ?_
  refine hk_get (v := .int (b12 u)) C hP 0 4 12 i_B rfl rfl (by decide) (hk_in (by decide +kernel) rfl) rfl d_B_isWanted_1 ?_
  refine lv_if_ne (tgt := 29) hx hb d_B_isWanted_4 (by decide) (fun c_1 => ?_) (fun c_1 => ?_)
  · skip
    refine lv_iconst (v := (1 : Int32)) hx hb d_B_isWanted_29 (by decide) ?_
    refine lv_goto (tgt := 34) hx hb d_B_isWanted_30 (by decide) ?_
    have e : m_B_isWanted p1 u = (1 : Int32) := (if_neg c_1).trans (rfl)
    exact hk_rz C hAe hP hD hS (Or.inr rfl) e.symm rfl d_B_isWanted_34
  · skip
    refine lv_aload_n hx hb d_B_isWanted_7 rfl (lv_at hl 0 rfl) ?_
    refine hk_get (v := .ref (ad 1)) C hP 0 4 0 i_B rfl rfl (by decide) (hk_in (by decide +kernel) rfl) rfl d_B_isWanted_8 ?_
    refine lv_iconst (v := (3 : Int32)) hx hb d_B_isWanted_11 (by decide) ?_
    refine hk_ild C hP 1 0 (v := (b0 u) 3) rfl rfl (hk_inl (by decide)) rfl d_B_isWanted_12 ?_
    refine lv_iconst (v := (1 : Int32)) hx hb d_B_isWanted_13 (by decide) ?_
    refine lv_icmp_eq (tgt := 29) hx hb d_B_isWanted_14 (by decide) (fun c_2 => ?_) (fun c_2 => ?_)
    · skip
      refine lv_iconst (v := (1 : Int32)) hx hb d_B_isWanted_29 (by decide) ?_
      refine lv_goto (tgt := 34) hx hb d_B_isWanted_30 (by decide) ?_
      have e : m_B_isWanted p1 u = (1 : Int32) := (if_pos c_1).trans ((if_pos c_2).trans (rfl))
      exact hk_rz C hAe hP hD hS (Or.inr rfl) e.symm rfl d_B_isWanted_34
    · skip
      refine lv_aload_n hx hb d_B_isWanted_17 rfl (lv_at hl 0 rfl) ?_
      refine hk_get (v := .ref (ad 1)) C hP 0 4 0 i_B rfl rfl (by decide) (hk_in (by decide +kernel) rfl) rfl d_B_isWanted_18 ?_
      refine lv_iconst (v := (2 : Int32)) hx hb d_B_isWanted_21 (by decide) ?_
      refine hk_ild C hP 1 0 (v := (b0 u) 2) rfl rfl (hk_inl (by decide)) rfl d_B_isWanted_22 ?_
      refine lv_iload_n hx hb d_B_isWanted_23 rfl (lv_at hl 1 rfl) ?_
      refine lv_iconst (v := (1 : Int32)) hx hb d_B_isWanted_24 (by decide) ?_
      refine lv_iadd hx hb d_B_isWanted_25 ?_
      refine lv_icmp_ne (tgt := 33) hx hb d_B_isWanted_26 (by decide) (fun c_3 => ?_) (fun c_3 => ?_)
      · skip
        refine lv_iconst (v := (0 : Int32)) hx hb d_B_isWanted_33 (by decide) ?_
        have e : m_B_isWanted p1 u = (0 : Int32) := (if_pos c_1).trans ((if_neg c_2).trans ((if_neg c_3).trans (rfl)))
        exact hk_rz C hAe hP hD hS (Or.inl rfl) e.symm rfl d_B_isWanted_34
      · skip
        refine lv_iconst (v := (1 : Int32)) hx hb d_B_isWanted_29 (by decide) ?_
        refine lv_goto (tgt := 34) hx hb d_B_isWanted_30 (by decide) ?_
        have e : m_B_isWanted p1 u = (1 : Int32) := (if_pos c_1).trans ((if_neg c_2).trans ((if_pos c_3).trans (rfl)))
        exact hk_rz C hAe hP hD hS (Or.inr rfl) e.symm rfl d_B_isWanted_34
theorem Y_B_beginWantedSides : hk_Y y_B_beginWantedSides b_B_beginWantedSides 2 none 0 := ⟨hk_in (by decide +kernel) rfl, hk_in (by decide +kernel) rfl, hk_in (by decide +kernel) rfl, hk_in (List.mem_of_getElem? (i := 258) rfl) rfl, by decide, by decide, by decide +kernel⟩
abbrev rm_B_beginWantedSides : Room := { frames := 1, cells := 0, slots := 0, locals := 21 }
set_option maxHeartbeats 4000000 in
set_option maxRecDepth 100000 in
theorem c_B_beginWantedSides (l : Launch) (G : hk_G) (ad : Nat → Nat) (u : cB) (hI : Iv u) : hk_V l G y_B_beginWantedSides b_B_beginWantedSides 2 rm_B_beginWantedSides [.ref (ad 0)] (wB G ad u) (wB G ad (m_B_beginWantedSides u)) := by
  refine hk_V_of (by decide) (Nat.le_of_ble_eq_true rfl) ?_
  intro p e s m below meth c A ls C hAe hA hP hD hS hl
  have hx := C.1
  have hb := C.2.1
  have hown := C.2.2.2.2.1
  have hts := C.2.2.2.2.2.1
  have hE := C.2.2.2.2.2.2.2
  have hl : lv_has ls 2 [(0, .ref (ad 0))] := hl
  refine lv_iconst (v := (0 : Int32)) hx hb d_B_beginWantedSides_0 (by decide) ?_
  refine lv_istore_n (lv' := [(1, .int (0 : Int32)), (0, .ref (ad 0))]) hx hb d_B_beginWantedSides_1 rfl hl (by decide) rfl (fun ls hl => ?_)
  refine lv_iload_n hx hb d_B_beginWantedSides_2 rfl (lv_at hl 0 rfl) ?_
  refine lv_iconst (v := (2 : Int32)) hx hb d_B_beginWantedSides_3 (by decide) ?_
  refine lv_icmp_ge (tgt := 30) hx hb d_B_beginWantedSides_4 (by decide) (fun c_1 => absurd c_1 (by decide)) (fun c_1 => ?_)
  refine lv_aload_n hx hb d_B_beginWantedSides_7 rfl (lv_at hl 1 rfl) ?_
  refine lv_iload_n hx hb d_B_beginWantedSides_8 rfl (lv_at hl 0 rfl) ?_
  refine hk_goI (hk_kV (k := 1) (As := [.int (0 : Int32)]) (rest := []) C (c_B_isWanted l G ad u (0 : Int32) hI _) Y_B_isWanted (hk_in (by decide +kernel) rfl) rfl rfl ⟨Nat.le_of_ble_eq_true rfl, Nat.le_of_ble_eq_true rfl⟩ (va_recv hE.1 hP (ci := 4) (q0 := 0) rfl rfl) hP hD rfl hl.1 rfl (Nat.le_of_ble_eq_true rfl) d_B_beginWantedSides_9 ⟨Nat.zero_le _, Nat.zero_le _⟩) hD hS hA (fun H locs hP hD hS => ?_)
  refine lv_if_eq (tgt := 24) hx hb d_B_beginWantedSides_12 (by decide) (fun c_2 => ?_) (fun c_2 => ?_)
  · skip
    refine lv_iinc (v := (1 : Int32)) (lv' := [(1, .int (1 : Int32)), (0, .ref (ad 0))]) hx hb d_B_beginWantedSides_24 hl (k := 0) rfl (by decide) (by decide) rfl (fun ls hl => ?_)
    refine lv_goto (tgt := 2) hx hb d_B_beginWantedSides_27 (by decide) ?_
    refine lv_iload_n hx hb d_B_beginWantedSides_2 rfl (lv_at hl 0 rfl) ?_
    refine lv_iconst (v := (2 : Int32)) hx hb d_B_beginWantedSides_3 (by decide) ?_
    refine lv_icmp_ge (tgt := 30) hx hb d_B_beginWantedSides_4 (by decide) (fun c_3 => absurd c_3 (by decide)) (fun c_3 => ?_)
    refine lv_aload_n hx hb d_B_beginWantedSides_7 rfl (lv_at hl 1 rfl) ?_
    refine lv_iload_n hx hb d_B_beginWantedSides_8 rfl (lv_at hl 0 rfl) ?_
    refine hk_goI (hk_kV (k := 1) (As := [.int (1 : Int32)]) (rest := []) C (c_B_isWanted l G ad u (1 : Int32) hI _) Y_B_isWanted (hk_in (by decide +kernel) rfl) rfl rfl ⟨Nat.le_of_ble_eq_true rfl, Nat.le_of_ble_eq_true rfl⟩ (va_recv hE.1 hP (ci := 4) (q0 := 0) rfl rfl) hP hD rfl hl.1 rfl (Nat.le_of_ble_eq_true rfl) d_B_beginWantedSides_9 ⟨Nat.zero_le _, Nat.zero_le _⟩) hD hS hA (fun H locs hP hD hS => ?_)
    refine lv_if_eq (tgt := 24) hx hb d_B_beginWantedSides_12 (by decide) (fun c_4 => ?_) (fun c_4 => ?_)
    · skip
      refine lv_iinc (v := (2 : Int32)) (lv' := [(1, .int (2 : Int32)), (0, .ref (ad 0))]) hx hb d_B_beginWantedSides_24 hl (k := 0) rfl (by decide) (by decide) rfl (fun ls hl => ?_)
      refine lv_goto (tgt := 2) hx hb d_B_beginWantedSides_27 (by decide) ?_
      refine lv_iload_n hx hb d_B_beginWantedSides_2 rfl (lv_at hl 0 rfl) ?_
      refine lv_iconst (v := (2 : Int32)) hx hb d_B_beginWantedSides_3 (by decide) ?_
      refine lv_icmp_ge (tgt := 30) hx hb d_B_beginWantedSides_4 (by decide) (fun c_5 => ?_) (fun c_5 => absurd (by decide) c_5)
      have e : m_B_beginWantedSides u = u := (if_pos c_2).trans ((if_pos c_4).trans (rfl))
      exact hk_rv C hAe hP hD hS (by rw [e]) d_B_beginWantedSides_30
    · skip
      refine lv_aload_n hx hb d_B_beginWantedSides_15 rfl (lv_at hl 1 rfl) ?_
      refine hk_get (v := .ref (ad 4)) C hP 0 4 3 i_B rfl rfl (by decide) (hk_in (by decide +kernel) rfl) rfl d_B_beginWantedSides_16 ?_
      refine lv_iload_n hx hb d_B_beginWantedSides_19 rfl (lv_at hl 0 rfl) ?_
      refine hk_ald C hP 4 2 (v := (ad 6)) rfl rfl (hk_inl (by decide)) rfl d_B_beginWantedSides_20 ?_
      refine hk_goV1 6 (w2 := wB G ad (f_B_beginWantedSides_21 u)) (hk_kN (host := "BodyRows2") (k := 0) (As := []) (rest := []) C (c_Side_begin l G (ad 6) (b3 u 1) _) Y_Side_begin (by decide +kernel) rfl rfl ⟨Nat.le_of_ble_eq_true rfl, Nat.le_of_ble_eq_true rfl⟩ (va_recv hE.1 hP (ci := 0) (q0 := 6) rfl rfl) (hP.sub (ws' := (wS (ad 6) (b3 u 1))) [6] rfl) (hD.sub (ws' := (wS (ad 6) (b3 u 1))) [6] (by decide) rfl) rfl hl.1 rfl (Nat.le_of_ble_eq_true rfl) d_B_beginWantedSides_21 ⟨Nat.zero_le _, Nat.zero_le _⟩) hP hD hS hA rfl rfl (fun H locs hP hD hS => ?_)
      have hI1 : Iv (f_B_beginWantedSides_21 u) := (Iv_of (k2_f_B_beginWantedSides_21 _) (k6_f_B_beginWantedSides_21 _) hI)
      generalize hU1 : (f_B_beginWantedSides_21 u) = U1 at hP hD hI1
      refine lv_iinc (v := (2 : Int32)) (lv' := [(1, .int (2 : Int32)), (0, .ref (ad 0))]) hx hb d_B_beginWantedSides_24 hl (k := 0) rfl (by decide) (by decide) rfl (fun ls hl => ?_)
      refine lv_goto (tgt := 2) hx hb d_B_beginWantedSides_27 (by decide) ?_
      refine lv_iload_n hx hb d_B_beginWantedSides_2 rfl (lv_at hl 0 rfl) ?_
      refine lv_iconst (v := (2 : Int32)) hx hb d_B_beginWantedSides_3 (by decide) ?_
      refine lv_icmp_ge (tgt := 30) hx hb d_B_beginWantedSides_4 (by decide) (fun c_6 => ?_) (fun c_6 => absurd (by decide) c_6)
      subst hU1
      have e : m_B_beginWantedSides u = (f_B_beginWantedSides_21 u) := (if_pos c_2).trans ((if_neg c_4).trans (rfl))
      exact hk_rv C hAe hP hD hS (by rw [e]) d_B_beginWantedSides_30
  · skip
    refine lv_aload_n hx hb d_B_beginWantedSides_15 rfl (lv_at hl 1 rfl) ?_
    refine hk_get (v := .ref (ad 4)) C hP 0 4 3 i_B rfl rfl (by decide) (hk_in (by decide +kernel) rfl) rfl d_B_beginWantedSides_16 ?_
    refine lv_iload_n hx hb d_B_beginWantedSides_19 rfl (lv_at hl 0 rfl) ?_
    refine hk_ald C hP 4 2 (v := (ad 5)) rfl rfl (hk_inl (by decide)) rfl d_B_beginWantedSides_20 ?_
    refine hk_goV1 5 (w2 := wB G ad (f_B_beginWantedSides_21_1 u)) (hk_kN (host := "BodyRows2") (k := 0) (As := []) (rest := []) C (c_Side_begin l G (ad 5) (b3 u 0) _) Y_Side_begin (by decide +kernel) rfl rfl ⟨Nat.le_of_ble_eq_true rfl, Nat.le_of_ble_eq_true rfl⟩ (va_recv hE.1 hP (ci := 0) (q0 := 5) rfl rfl) (hP.sub (ws' := (wS (ad 5) (b3 u 0))) [5] rfl) (hD.sub (ws' := (wS (ad 5) (b3 u 0))) [5] (by decide) rfl) rfl hl.1 rfl (Nat.le_of_ble_eq_true rfl) d_B_beginWantedSides_21 ⟨Nat.zero_le _, Nat.zero_le _⟩) hP hD hS hA rfl rfl (fun H locs hP hD hS => ?_)
    have hI2 : Iv (f_B_beginWantedSides_21_1 u) := (Iv_of (k2_f_B_beginWantedSides_21_1 _) (k6_f_B_beginWantedSides_21_1 _) hI)
    generalize hU2 : (f_B_beginWantedSides_21_1 u) = U2 at hP hD hI2
    refine lv_iinc (v := (1 : Int32)) (lv' := [(1, .int (1 : Int32)), (0, .ref (ad 0))]) hx hb d_B_beginWantedSides_24 hl (k := 0) rfl (by decide) (by decide) rfl (fun ls hl => ?_)
    refine lv_goto (tgt := 2) hx hb d_B_beginWantedSides_27 (by decide) ?_
    refine lv_iload_n hx hb d_B_beginWantedSides_2 rfl (lv_at hl 0 rfl) ?_
    refine lv_iconst (v := (2 : Int32)) hx hb d_B_beginWantedSides_3 (by decide) ?_
    refine lv_icmp_ge (tgt := 30) hx hb d_B_beginWantedSides_4 (by decide) (fun c_7 => absurd c_7 (by decide)) (fun c_7 => ?_)
    refine lv_aload_n hx hb d_B_beginWantedSides_7 rfl (lv_at hl 1 rfl) ?_
    refine lv_iload_n hx hb d_B_beginWantedSides_8 rfl (lv_at hl 0 rfl) ?_
    refine hk_goI (hk_kV (k := 1) (As := [.int (1 : Int32)]) (rest := []) C (c_B_isWanted l G ad U2 (1 : Int32) hI2 _) Y_B_isWanted (hk_in (by decide +kernel) rfl) rfl rfl ⟨Nat.le_of_ble_eq_true rfl, Nat.le_of_ble_eq_true rfl⟩ (va_recv hE.1 hP (ci := 4) (q0 := 0) rfl rfl) hP hD rfl hl.1 rfl (Nat.le_of_ble_eq_true rfl) d_B_beginWantedSides_9 ⟨Nat.zero_le _, Nat.zero_le _⟩) hD hS hA (fun H locs hP hD hS => ?_)
    refine lv_if_eq (tgt := 24) hx hb d_B_beginWantedSides_12 (by decide) (fun c_8 => ?_) (fun c_8 => ?_)
    · skip
      refine lv_iinc (v := (2 : Int32)) (lv' := [(1, .int (2 : Int32)), (0, .ref (ad 0))]) hx hb d_B_beginWantedSides_24 hl (k := 0) rfl (by decide) (by decide) rfl (fun ls hl => ?_)
      refine lv_goto (tgt := 2) hx hb d_B_beginWantedSides_27 (by decide) ?_
      refine lv_iload_n hx hb d_B_beginWantedSides_2 rfl (lv_at hl 0 rfl) ?_
      refine lv_iconst (v := (2 : Int32)) hx hb d_B_beginWantedSides_3 (by decide) ?_
      refine lv_icmp_ge (tgt := 30) hx hb d_B_beginWantedSides_4 (by decide) (fun c_9 => ?_) (fun c_9 => absurd (by decide) c_9)
      subst hU2
      have e : m_B_beginWantedSides u = (f_B_beginWantedSides_21_1 u) := (if_neg c_2).trans ((if_pos c_8).trans (rfl))
      exact hk_rv C hAe hP hD hS (by rw [e]) d_B_beginWantedSides_30
    · skip
      refine lv_aload_n hx hb d_B_beginWantedSides_15 rfl (lv_at hl 1 rfl) ?_
      refine hk_get (v := .ref (ad 4)) C hP 0 4 3 i_B rfl rfl (by decide) (hk_in (by decide +kernel) rfl) rfl d_B_beginWantedSides_16 ?_
      refine lv_iload_n hx hb d_B_beginWantedSides_19 rfl (lv_at hl 0 rfl) ?_
      refine hk_ald C hP 4 2 (v := (ad 6)) rfl rfl (hk_inl (by decide)) rfl d_B_beginWantedSides_20 ?_
      refine hk_goV1 6 (w2 := wB G ad (f_B_beginWantedSides_21 U2)) (hk_kN (host := "BodyRows2") (k := 0) (As := []) (rest := []) C (c_Side_begin l G (ad 6) (b3 U2 1) _) Y_Side_begin (by decide +kernel) rfl rfl ⟨Nat.le_of_ble_eq_true rfl, Nat.le_of_ble_eq_true rfl⟩ (va_recv hE.1 hP (ci := 0) (q0 := 6) rfl rfl) (hP.sub (ws' := (wS (ad 6) (b3 U2 1))) [6] rfl) (hD.sub (ws' := (wS (ad 6) (b3 U2 1))) [6] (by decide) rfl) rfl hl.1 rfl (Nat.le_of_ble_eq_true rfl) d_B_beginWantedSides_21 ⟨Nat.zero_le _, Nat.zero_le _⟩) hP hD hS hA rfl rfl (fun H locs hP hD hS => ?_)
      have hI3 : Iv (f_B_beginWantedSides_21 U2) := (Iv_of (k2_f_B_beginWantedSides_21 _) (k6_f_B_beginWantedSides_21 _) hI2)
      generalize hU3 : (f_B_beginWantedSides_21 U2) = U3 at hP hD hI3
      refine lv_iinc (v := (2 : Int32)) (lv' := [(1, .int (2 : Int32)), (0, .ref (ad 0))]) hx hb d_B_beginWantedSides_24 hl (k := 0) rfl (by decide) (by decide) rfl (fun ls hl => ?_)
      refine lv_goto (tgt := 2) hx hb d_B_beginWantedSides_27 (by decide) ?_
      refine lv_iload_n hx hb d_B_beginWantedSides_2 rfl (lv_at hl 0 rfl) ?_
      refine lv_iconst (v := (2 : Int32)) hx hb d_B_beginWantedSides_3 (by decide) ?_
      refine lv_icmp_ge (tgt := 30) hx hb d_B_beginWantedSides_4 (by decide) (fun c_10 => ?_) (fun c_10 => absurd (by decide) c_10)
      subst hU2 hU3
      have e : m_B_beginWantedSides u = (f_B_beginWantedSides_21 (f_B_beginWantedSides_21_1 u)) := (if_neg c_2).trans ((if_neg c_8).trans (rfl))
      exact hk_rv C hAe hP hD hS (by rw [e]) d_B_beginWantedSides_30
theorem Y_B_followBrightness : hk_Y y_B_followBrightness b_B_followBrightness 2 none 1 := ⟨hk_in (by decide +kernel) rfl, hk_in (by decide +kernel) rfl, hk_in (by decide +kernel) rfl, hk_in (List.mem_of_getElem? (i := 254) rfl) rfl, by decide, by decide, by decide +kernel⟩
abbrev rm_B_followBrightness : Room := { frames := 0, cells := 0, slots := 0, locals := 0 }
set_option maxHeartbeats 4000000 in
set_option maxRecDepth 100000 in
theorem c_B_followBrightness (l : Launch) (G : hk_G) (ad : Nat → Nat) (u : cB) (p1 : Int32) (hI : Iv u) : hk_V l G y_B_followBrightness b_B_followBrightness 2 rm_B_followBrightness [.ref (ad 0), .int p1] (wB G ad u) (wB G ad (m_B_followBrightness p1 u)) := by
  refine hk_V_of (by decide) (Nat.le_of_ble_eq_true rfl) ?_
  intro p e s m below meth c A ls C hAe hA hP hD hS hl
  have hx := C.1
  have hb := C.2.1
  have hown := C.2.2.2.2.1
  have hts := C.2.2.2.2.2.1
  have hE := C.2.2.2.2.2.2.2
  have hl : lv_has ls 2 [(0, .ref (ad 0)), (1, .int p1)] := hl
  refine lv_iload_n hx hb d_B_followBrightness_0 rfl (lv_at hl 1 rfl) ?_
  refine lv_sipush (v := (200 : Int32)) hx hb d_B_followBrightness_1 (by decide) ?_
  refine lv_icmp_ge (tgt := 15) hx hb d_B_followBrightness_4 (by decide) (fun c_1 => ?_) (fun c_1 => ?_)
  · skip
    refine lv_iload_n hx hb d_B_followBrightness_15 rfl (lv_at hl 1 rfl) ?_
    refine lv_sipush (v := (400 : Int32)) hx hb d_B_followBrightness_16 (by decide) ?_
    refine lv_icmp_le (tgt := 27) hx hb d_B_followBrightness_19 (by decide) (fun c_2 => ?_) (fun c_2 => ?_)
    · skip
      have e : m_B_followBrightness p1 u = u := (if_pos c_1).trans ((if_pos c_2).trans (rfl))
      exact hk_rv C hAe hP hD hS (by rw [e]) d_B_followBrightness_27
    · skip
      refine lv_aload_n hx hb d_B_followBrightness_22 rfl (lv_at hl 0 rfl) ?_
      refine lv_iconst (v := (0 : Int32)) hx hb d_B_followBrightness_23 (by decide) ?_
      refine hk_put (w2 := wB G ad (f_B_followBrightness_24 u)) (v := .int (0 : Int32)) (ty := .boolean) C hP hD hS 0 4 11 i_B t_B_ok n_B rfl rfl (by decide) (hk_in (by decide +kernel) rfl) rfl (by decide +kernel) (hk_nb (Or.inl rfl)) (hk_fb (Or.inl rfl)) (Nat.le_of_ble_eq_true rfl) rfl d_B_followBrightness_24 (fun H locs hP hD hS => ?_)
      have hI1 : Iv (f_B_followBrightness_24 u) := (Iv_of (k2_f_B_followBrightness_24 _) (k6_f_B_followBrightness_24 _) hI)
      generalize hU1 : (f_B_followBrightness_24 u) = U1 at hP hD hI1
      subst hU1
      have e : m_B_followBrightness p1 u = (f_B_followBrightness_24 u) := (if_pos c_1).trans ((if_neg c_2).trans (rfl))
      exact hk_rv C hAe hP hD hS (by rw [e]) d_B_followBrightness_27
  · skip
    refine lv_aload_n hx hb d_B_followBrightness_7 rfl (lv_at hl 0 rfl) ?_
    refine lv_iconst (v := (1 : Int32)) hx hb d_B_followBrightness_8 (by decide) ?_
    refine hk_put (w2 := wB G ad (f_B_followBrightness_9 u)) (v := .int (1 : Int32)) (ty := .boolean) C hP hD hS 0 4 11 i_B t_B_ok n_B rfl rfl (by decide) (hk_in (by decide +kernel) rfl) rfl (by decide +kernel) (hk_nb (Or.inr rfl)) (hk_fb (Or.inr rfl)) (Nat.le_of_ble_eq_true rfl) rfl d_B_followBrightness_9 (fun H locs hP hD hS => ?_)
    have hI2 : Iv (f_B_followBrightness_9 u) := (Iv_of (k2_f_B_followBrightness_9 _) (k6_f_B_followBrightness_9 _) hI)
    generalize hU2 : (f_B_followBrightness_9 u) = U2 at hP hD hI2
    refine lv_goto (tgt := 27) hx hb d_B_followBrightness_12 (by decide) ?_
    subst hU2
    have e : m_B_followBrightness p1 u = (f_B_followBrightness_9 u) := (if_neg c_1).trans (rfl)
    exact hk_rv C hAe hP hD hS (by rw [e]) d_B_followBrightness_27
theorem Y_B_endUnwantedSide : hk_Y y_B_endUnwantedSide b_B_endUnwantedSide 2 none 1 := ⟨hk_in (by decide +kernel) rfl, hk_in (by decide +kernel) rfl, hk_in (by decide +kernel) rfl, hk_in (List.mem_of_getElem? (i := 270) rfl) rfl, by decide, by decide, by decide +kernel⟩
abbrev rm_B_endUnwantedSide : Room := { frames := 1, cells := 0, slots := 0, locals := 21 }
set_option maxHeartbeats 4000000 in
set_option maxRecDepth 100000 in
theorem c_B_endUnwantedSide (l : Launch) (G : hk_G) (ad : Nat → Nat) (u : cB) (p1 : Int32) (hI : Iv u) : hk_V l G y_B_endUnwantedSide b_B_endUnwantedSide 2 rm_B_endUnwantedSide [.ref (ad 0), .int p1] (wB G ad u) (wB G ad (m_B_endUnwantedSide p1 u)) := by
  refine hk_V_of (by decide) (Nat.le_of_ble_eq_true rfl) ?_
  intro p e s m below meth c A ls C hAe hA hP hD hS hl
  have hx := C.1
  have hb := C.2.1
  have hown := C.2.2.2.2.1
  have hts := C.2.2.2.2.2.1
  have hE := C.2.2.2.2.2.2.2
  have hl : lv_has ls 2 [(0, .ref (ad 0)), (1, .int p1)] := hl
  refine lv_iload_n hx hb d_B_endUnwantedSide_0 rfl (lv_at hl 1 rfl) ?_
  refine lv_iconst (v := (2 : Int32)) hx hb d_B_endUnwantedSide_1 (by decide) ?_
  refine hk_goIe (hk_kS (k := 2) (As := [.int p1, .int (2 : Int32)]) (rest := []) C (c_B_isBelow l G p1 (2 : Int32) _) Y_B_isBelow (hk_in (by decide +kernel) rfl) rfl rfl ⟨Nat.le_of_ble_eq_true rfl, Nat.le_of_ble_eq_true rfl⟩ hk_Pn (hk_Dn (A := A)) rfl hl.1 rfl (Nat.le_of_ble_eq_true rfl) d_B_endUnwantedSide_2 ⟨Nat.zero_le _, Nat.zero_le _⟩) hP hS hA (fun H locs hP hS => ?_)
  refine lv_if_eq (tgt := 26) hx hb d_B_endUnwantedSide_5 (by decide) (fun c_1 => ?_) (fun c_1 => ?_)
  · skip
    have e : m_B_endUnwantedSide p1 u = u := (if_pos c_1).trans (rfl)
    exact hk_rv C hAe hP hD hS (by rw [e]) d_B_endUnwantedSide_26
  · skip
    refine lv_aload_n hx hb d_B_endUnwantedSide_8 rfl (lv_at hl 0 rfl) ?_
    refine lv_iload_n hx hb d_B_endUnwantedSide_9 rfl (lv_at hl 1 rfl) ?_
    refine hk_goI (hk_kV (k := 1) (As := [.int p1]) (rest := []) C (c_B_isWanted l G ad u p1 hI _) Y_B_isWanted (hk_in (by decide +kernel) rfl) rfl rfl ⟨Nat.le_of_ble_eq_true rfl, Nat.le_of_ble_eq_true rfl⟩ (va_recv hE.1 hP (ci := 4) (q0 := 0) rfl rfl) hP hD rfl hl.1 rfl (Nat.le_of_ble_eq_true rfl) d_B_endUnwantedSide_10 ⟨Nat.zero_le _, Nat.zero_le _⟩) hD hS hA (fun H locs hP hD hS => ?_)
    refine lv_if_ne (tgt := 26) hx hb d_B_endUnwantedSide_13 (by decide) (fun c_2 => ?_) (fun c_2 => ?_)
    · skip
      have e : m_B_endUnwantedSide p1 u = u := (if_neg c_1).trans ((if_neg c_2).trans (rfl))
      exact hk_rv C hAe hP hD hS (by rw [e]) d_B_endUnwantedSide_26
    · skip
      rcases hk_b2 c_1 with rfl | rfl
      · skip
        refine lv_aload_n hx hb d_B_endUnwantedSide_16 rfl (lv_at hl 0 rfl) ?_
        refine hk_get (v := .ref (ad 4)) C hP 0 4 3 i_B rfl rfl (by decide) (hk_in (by decide +kernel) rfl) rfl d_B_endUnwantedSide_17 ?_
        refine lv_iload_n hx hb d_B_endUnwantedSide_20 rfl (lv_at hl 1 rfl) ?_
        refine hk_ald C hP 4 2 (v := (ad 5)) rfl rfl (hk_inl (by decide)) rfl d_B_endUnwantedSide_21 ?_
        refine lv_iconst (v := (0 : Int32)) hx hb d_B_endUnwantedSide_22 (by decide) ?_
        refine hk_putN (host := "BodyRows2") (w2 := wB G ad (f_B_endUnwantedSide_23 (0 : Int32) u)) (v := .int (0 : Int32)) (ty := .boolean) C hP hD hS 5 0 0 i_Side t_Side_ok n_Side rfl rfl (by decide) (by decide +kernel) rfl (by decide +kernel) (hk_nb (Or.inl rfl)) (hk_fb (Or.inl rfl)) (Nat.le_of_ble_eq_true rfl) rfl d_B_endUnwantedSide_23 (fun H locs hP hD hS => ?_)
        have hI1 : Iv (f_B_endUnwantedSide_23 (0 : Int32) u) := (Iv_of (k2_f_B_endUnwantedSide_23 _ _) (k6_f_B_endUnwantedSide_23 _ _) hI)
        generalize hU1 : (f_B_endUnwantedSide_23 (0 : Int32) u) = U1 at hP hD hI1
        subst hU1
        have e : m_B_endUnwantedSide (0 : Int32) u = (f_B_endUnwantedSide_23 (0 : Int32) u) := (if_neg c_1).trans ((if_pos c_2).trans (rfl))
        exact hk_rv C hAe hP hD hS (by rw [e]) d_B_endUnwantedSide_26
      · skip
        refine lv_aload_n hx hb d_B_endUnwantedSide_16 rfl (lv_at hl 0 rfl) ?_
        refine hk_get (v := .ref (ad 4)) C hP 0 4 3 i_B rfl rfl (by decide) (hk_in (by decide +kernel) rfl) rfl d_B_endUnwantedSide_17 ?_
        refine lv_iload_n hx hb d_B_endUnwantedSide_20 rfl (lv_at hl 1 rfl) ?_
        refine hk_ald C hP 4 2 (v := (ad 6)) rfl rfl (hk_inl (by decide)) rfl d_B_endUnwantedSide_21 ?_
        refine lv_iconst (v := (0 : Int32)) hx hb d_B_endUnwantedSide_22 (by decide) ?_
        refine hk_putN (host := "BodyRows2") (w2 := wB G ad (f_B_endUnwantedSide_23 (1 : Int32) u)) (v := .int (0 : Int32)) (ty := .boolean) C hP hD hS 6 0 0 i_Side t_Side_ok n_Side rfl rfl (by decide) (by decide +kernel) rfl (by decide +kernel) (hk_nb (Or.inl rfl)) (hk_fb (Or.inl rfl)) (Nat.le_of_ble_eq_true rfl) rfl d_B_endUnwantedSide_23 (fun H locs hP hD hS => ?_)
        have hI2 : Iv (f_B_endUnwantedSide_23 (1 : Int32) u) := (Iv_of (k2_f_B_endUnwantedSide_23 _ _) (k6_f_B_endUnwantedSide_23 _ _) hI)
        generalize hU2 : (f_B_endUnwantedSide_23 (1 : Int32) u) = U2 at hP hD hI2
        subst hU2
        have e : m_B_endUnwantedSide (1 : Int32) u = (f_B_endUnwantedSide_23 (1 : Int32) u) := (if_neg c_1).trans ((if_pos c_2).trans (rfl))
        exact hk_rv C hAe hP hD hS (by rw [e]) d_B_endUnwantedSide_26
theorem Y_B_rainSpeed : hk_Y y_B_rainSpeed b_B_rainSpeed 1 (some .int) 0 := ⟨hk_in (by decide +kernel) rfl, hk_in (by decide +kernel) rfl, hk_in (by decide +kernel) rfl, hk_in (List.mem_of_getElem? (i := 294) rfl) rfl, by decide, by decide, by decide +kernel⟩
abbrev rm_B_rainSpeed : Room := { frames := 0, cells := 0, slots := 0, locals := 0 }
set_option maxHeartbeats 4000000 in
set_option maxRecDepth 100000 in
theorem c_B_rainSpeed (l : Launch) (G : hk_G) (ad : Nat → Nat) (u : cB) (hI : Iv u) : hk_I l G y_B_rainSpeed b_B_rainSpeed 1 (some .int) rm_B_rainSpeed [.ref (ad 0)] (wB G ad u) (m_B_rainSpeed u) (wB G ad u) := by
  refine hk_I_of (by decide) (Nat.le_of_ble_eq_true rfl) ?_
  intro p e s m below meth c A ls C hAe hA hP hD hS hl
  have hx := C.1
  have hb := C.2.1
  have hown := C.2.2.2.2.1
  have hts := C.2.2.2.2.2.1
  have hE := C.2.2.2.2.2.2.2
  have hl : lv_has ls 1 [(0, .ref (ad 0))] := hl
  refine lv_aload_n hx hb d_B_rainSpeed_0 rfl (lv_at hl 0 rfl) ?_
  refine hk_get (v := .int (b8 u)) C hP 0 4 8 i_B rfl rfl (by decide) (hk_in (by decide +kernel) rfl) rfl d_B_rainSpeed_1 ?_
  refine lv_if_ne (tgt := 9) hx hb d_B_rainSpeed_4 (by decide) (fun c_1 => ?_) (fun c_1 => ?_)
  · skip
    refine lv_aload_n hx hb d_B_rainSpeed_9 rfl (lv_at hl 0 rfl) ?_
    refine hk_get (v := .int (b8 u)) C hP 0 4 8 i_B rfl rfl (by decide) (hk_in (by decide +kernel) rfl) rfl d_B_rainSpeed_10 ?_
    refine lv_bipush (v := (8 : Int32)) hx hb d_B_rainSpeed_13 (by decide) ?_
    refine lv_icmp_ge (tgt := 22) hx hb d_B_rainSpeed_15 (by decide) (fun c_2 => ?_) (fun c_2 => ?_)
    · skip
      refine lv_iconst (v := (2 : Int32)) hx hb d_B_rainSpeed_22 (by decide) ?_
      have e : m_B_rainSpeed u = (2 : Int32) := (if_neg c_1).trans ((if_pos c_2).trans (rfl))
      exact hk_ri C hAe hP hD hS e.symm rfl d_B_rainSpeed_23
    · skip
      refine lv_iconst (v := (1 : Int32)) hx hb d_B_rainSpeed_18 (by decide) ?_
      refine lv_goto (tgt := 23) hx hb d_B_rainSpeed_19 (by decide) ?_
      have e : m_B_rainSpeed u = (1 : Int32) := (if_neg c_1).trans ((if_neg c_2).trans (rfl))
      exact hk_ri C hAe hP hD hS e.symm rfl d_B_rainSpeed_23
  · skip
    refine lv_iconst (v := (0 : Int32)) hx hb d_B_rainSpeed_7 (by decide) ?_
    have e : m_B_rainSpeed u = (0 : Int32) := (if_pos c_1).trans (rfl)
    exact hk_ri C hAe hP hD hS e.symm rfl d_B_rainSpeed_8
theorem Y_B_wiperSpeed : hk_Y y_B_wiperSpeed b_B_wiperSpeed 1 (some .int) 0 := ⟨hk_in (by decide +kernel) rfl, hk_in (by decide +kernel) rfl, hk_in (by decide +kernel) rfl, hk_in (List.mem_of_getElem? (i := 290) rfl) rfl, by decide, by decide, by decide +kernel⟩
abbrev rm_B_wiperSpeed : Room := { frames := 1, cells := 0, slots := 0, locals := 20 }
set_option maxHeartbeats 4000000 in
set_option maxRecDepth 100000 in
theorem c_B_wiperSpeed (l : Launch) (G : hk_G) (ad : Nat → Nat) (u : cB) (hI : Iv u) : hk_I l G y_B_wiperSpeed b_B_wiperSpeed 1 (some .int) rm_B_wiperSpeed [.ref (ad 0)] (wB G ad u) (m_B_wiperSpeed u) (wB G ad u) := by
  refine hk_I_of (by decide) (Nat.le_of_ble_eq_true rfl) ?_
  intro p e s m below meth c A ls C hAe hA hP hD hS hl
  have hx := C.1
  have hb := C.2.1
  have hown := C.2.2.2.2.1
  have hts := C.2.2.2.2.2.1
  have hE := C.2.2.2.2.2.2.2
  have hl : lv_has ls 1 [(0, .ref (ad 0))] := hl
  refine lv_aload_n hx hb d_B_wiperSpeed_0 rfl (lv_at hl 0 rfl) ?_
  refine hk_get (v := .ref (ad 1)) C hP 0 4 0 i_B rfl rfl (by decide) (hk_in (by decide +kernel) rfl) rfl d_B_wiperSpeed_1 ?_
  refine lv_iconst (v := (5 : Int32)) hx hb d_B_wiperSpeed_4 (by decide) ?_
  refine hk_ild C hP 1 0 (v := (b0 u) 5) rfl rfl (hk_inl (by decide)) rfl d_B_wiperSpeed_5 ?_
  refine lv_if_ne (tgt := 11) hx hb d_B_wiperSpeed_6 (by decide) (fun c_1 => ?_) (fun c_1 => ?_)
  · skip
    refine lv_aload_n hx hb d_B_wiperSpeed_11 rfl (lv_at hl 0 rfl) ?_
    refine hk_get (v := .ref (ad 1)) C hP 0 4 0 i_B rfl rfl (by decide) (hk_in (by decide +kernel) rfl) rfl d_B_wiperSpeed_12 ?_
    refine lv_iconst (v := (4 : Int32)) hx hb d_B_wiperSpeed_15 (by decide) ?_
    refine hk_ild C hP 1 0 (v := (b0 u) 4) rfl rfl (hk_inl (by decide)) rfl d_B_wiperSpeed_16 ?_
    by_cases c_2 : ((b0 u) 4) = (1 : Int32)
    · skip
      refine lv_tableIn (tgt := 44) (off := 27) hx hb d_B_wiperSpeed_17 (by rw [c_2]; decide) (by rw [c_2]; decide) (by rw [c_2]; rfl) (by decide) ?_
      refine lv_aload_n hx hb d_B_wiperSpeed_44 rfl (lv_at hl 0 rfl) ?_
      refine hk_goI (hk_kV (k := 0) (As := []) (rest := []) C (c_B_rainSpeed l G ad u hI _) Y_B_rainSpeed (hk_in (by decide +kernel) rfl) rfl rfl ⟨Nat.le_of_ble_eq_true rfl, Nat.le_of_ble_eq_true rfl⟩ (va_recv hE.1 hP (ci := 4) (q0 := 0) rfl rfl) hP hD rfl hl.1 rfl (Nat.le_of_ble_eq_true rfl) d_B_wiperSpeed_45 ⟨Nat.zero_le _, Nat.zero_le _⟩) hD hS hA (fun H locs hP hD hS => ?_)
      have e : m_B_wiperSpeed u = m_B_rainSpeed u := (if_neg c_1).trans ((if_pos c_2).trans (rfl))
      exact hk_ri C hAe hP hD hS e.symm rfl d_B_wiperSpeed_48
    · skip
      by_cases c_3 : ((b0 u) 4) = (2 : Int32)
      · skip
        refine lv_tableIn (tgt := 49) (off := 32) hx hb d_B_wiperSpeed_17 (by rw [c_3]; decide) (by rw [c_3]; decide) (by rw [c_3]; rfl) (by decide) ?_
        refine lv_iconst (v := (1 : Int32)) hx hb d_B_wiperSpeed_49 (by decide) ?_
        have e : m_B_wiperSpeed u = (1 : Int32) := (if_neg c_1).trans ((if_neg c_2).trans ((if_pos c_3).trans (rfl)))
        exact hk_ri C hAe hP hD hS e.symm rfl d_B_wiperSpeed_50
      · skip
        by_cases c_4 : ((b0 u) 4) = (3 : Int32)
        · skip
          refine lv_tableIn (tgt := 51) (off := 34) hx hb d_B_wiperSpeed_17 (by rw [c_4]; decide) (by rw [c_4]; decide) (by rw [c_4]; rfl) (by decide) ?_
          refine lv_iconst (v := (2 : Int32)) hx hb d_B_wiperSpeed_51 (by decide) ?_
          have e : m_B_wiperSpeed u = (2 : Int32) := (if_neg c_1).trans ((if_neg c_2).trans ((if_neg c_3).trans ((if_pos c_4).trans (rfl))))
          exact hk_ri C hAe hP hD hS e.symm rfl d_B_wiperSpeed_52
        · skip
          refine lv_tableOut (tgt := 53) hx hb d_B_wiperSpeed_17 (by have hn_0 := lv_neT c_2 (a := 1) (by decide); have hn_1 := lv_neT c_3 (a := 2) (by decide); have hn_2 := lv_neT c_4 (a := 3) (by decide); omega) (by decide) ?_
          refine lv_iconst (v := (0 : Int32)) hx hb d_B_wiperSpeed_53 (by decide) ?_
          have e : m_B_wiperSpeed u = (0 : Int32) := (if_neg c_1).trans ((if_neg c_2).trans ((if_neg c_3).trans ((if_neg c_4).trans (rfl))))
          exact hk_ri C hAe hP hD hS e.symm rfl d_B_wiperSpeed_54
  · skip
    refine lv_iconst (v := (0 : Int32)) hx hb d_B_wiperSpeed_9 (by decide) ?_
    have e : m_B_wiperSpeed u = (0 : Int32) := (if_pos c_1).trans (rfl)
    exact hk_ri C hAe hP hD hS e.symm rfl d_B_wiperSpeed_10
theorem Y_B_pauseAfterWiping : hk_Y y_B_pauseAfterWiping b_B_pauseAfterWiping 2 (some .int) 0 := ⟨hk_in (by decide +kernel) rfl, hk_in (by decide +kernel) rfl, hk_in (by decide +kernel) rfl, hk_in (List.mem_of_getElem? (i := 298) rfl) rfl, by decide, by decide, by decide +kernel⟩
abbrev rm_B_pauseAfterWiping : Room := { frames := 0, cells := 0, slots := 0, locals := 0 }
set_option maxHeartbeats 4000000 in
set_option maxRecDepth 100000 in
theorem c_B_pauseAfterWiping (l : Launch) (G : hk_G) (ad : Nat → Nat) (u : cB) (hI : Iv u) : hk_I l G y_B_pauseAfterWiping b_B_pauseAfterWiping 2 (some .int) rm_B_pauseAfterWiping [.ref (ad 0)] (wB G ad u) (m_B_pauseAfterWiping u) (wB G ad u) := by
  refine hk_I_of (by decide) (Nat.le_of_ble_eq_true rfl) ?_
  intro p e s m below meth c A ls C hAe hA hP hD hS hl
  have hx := C.1
  have hb := C.2.1
  have hown := C.2.2.2.2.1
  have hts := C.2.2.2.2.2.1
  have hE := C.2.2.2.2.2.2.2
  have hl : lv_has ls 2 [(0, .ref (ad 0))] := hl
  refine lv_aload_n hx hb d_B_pauseAfterWiping_0 rfl (lv_at hl 0 rfl) ?_
  refine hk_get (v := .ref (ad 1)) C hP 0 4 0 i_B rfl rfl (by decide) (hk_in (by decide +kernel) rfl) rfl d_B_pauseAfterWiping_1 ?_
  refine lv_iconst (v := (4 : Int32)) hx hb d_B_pauseAfterWiping_4 (by decide) ?_
  refine hk_ild C hP 1 0 (v := (b0 u) 4) rfl rfl (hk_inl (by decide)) rfl d_B_pauseAfterWiping_5 ?_
  refine lv_iconst (v := (1 : Int32)) hx hb d_B_pauseAfterWiping_6 (by decide) ?_
  refine lv_icmp_ne (tgt := 30) hx hb d_B_pauseAfterWiping_7 (by decide) (fun c_1 => ?_) (fun c_1 => ?_)
  · skip
    refine lv_iconst (v := (0 : Int32)) hx hb d_B_pauseAfterWiping_30 (by decide) ?_
    refine lv_istore_n (lv' := [(1, .int (0 : Int32)), (0, .ref (ad 0))]) hx hb d_B_pauseAfterWiping_31 rfl hl (by decide) rfl (fun ls hl => ?_)
    refine lv_iload_n hx hb d_B_pauseAfterWiping_32 rfl (lv_at hl 0 rfl) ?_
    refine lv_if_eq (tgt := 50) hx hb d_B_pauseAfterWiping_33 (by decide) (fun c_2 => ?_) (fun c_2 => absurd (by decide) c_2)
    refine lv_iconst (v := (0 : Int32)) hx hb d_B_pauseAfterWiping_50 (by decide) ?_
    have e : m_B_pauseAfterWiping u = (0 : Int32) := (if_neg c_1).trans (rfl)
    exact hk_ri C hAe hP hD hS e.symm rfl d_B_pauseAfterWiping_51
  · skip
    refine lv_aload_n hx hb d_B_pauseAfterWiping_10 rfl (lv_at hl 0 rfl) ?_
    refine hk_get (v := .int (b8 u)) C hP 0 4 8 i_B rfl rfl (by decide) (hk_in (by decide +kernel) rfl) rfl d_B_pauseAfterWiping_11 ?_
    refine lv_iconst (v := (1 : Int32)) hx hb d_B_pauseAfterWiping_14 (by decide) ?_
    refine lv_icmp_lt (tgt := 30) hx hb d_B_pauseAfterWiping_15 (by decide) (fun c_3 => ?_) (fun c_3 => ?_)
    · skip
      refine lv_iconst (v := (0 : Int32)) hx hb d_B_pauseAfterWiping_30 (by decide) ?_
      refine lv_istore_n (lv' := [(1, .int (0 : Int32)), (0, .ref (ad 0))]) hx hb d_B_pauseAfterWiping_31 rfl hl (by decide) rfl (fun ls hl => ?_)
      refine lv_iload_n hx hb d_B_pauseAfterWiping_32 rfl (lv_at hl 0 rfl) ?_
      refine lv_if_eq (tgt := 50) hx hb d_B_pauseAfterWiping_33 (by decide) (fun c_4 => ?_) (fun c_4 => absurd (by decide) c_4)
      refine lv_iconst (v := (0 : Int32)) hx hb d_B_pauseAfterWiping_50 (by decide) ?_
      have e : m_B_pauseAfterWiping u = (0 : Int32) := (if_pos c_1).trans ((if_pos c_3).trans (rfl))
      exact hk_ri C hAe hP hD hS e.symm rfl d_B_pauseAfterWiping_51
    · skip
      refine lv_aload_n hx hb d_B_pauseAfterWiping_18 rfl (lv_at hl 0 rfl) ?_
      refine hk_get (v := .int (b8 u)) C hP 0 4 8 i_B rfl rfl (by decide) (hk_in (by decide +kernel) rfl) rfl d_B_pauseAfterWiping_19 ?_
      refine lv_iconst (v := (4 : Int32)) hx hb d_B_pauseAfterWiping_22 (by decide) ?_
      refine lv_icmp_gt (tgt := 30) hx hb d_B_pauseAfterWiping_23 (by decide) (fun c_5 => ?_) (fun c_5 => ?_)
      · skip
        refine lv_iconst (v := (0 : Int32)) hx hb d_B_pauseAfterWiping_30 (by decide) ?_
        refine lv_istore_n (lv' := [(1, .int (0 : Int32)), (0, .ref (ad 0))]) hx hb d_B_pauseAfterWiping_31 rfl hl (by decide) rfl (fun ls hl => ?_)
        refine lv_iload_n hx hb d_B_pauseAfterWiping_32 rfl (lv_at hl 0 rfl) ?_
        refine lv_if_eq (tgt := 50) hx hb d_B_pauseAfterWiping_33 (by decide) (fun c_6 => ?_) (fun c_6 => absurd (by decide) c_6)
        refine lv_iconst (v := (0 : Int32)) hx hb d_B_pauseAfterWiping_50 (by decide) ?_
        have e : m_B_pauseAfterWiping u = (0 : Int32) := (if_pos c_1).trans ((if_neg c_3).trans ((if_pos c_5).trans (rfl)))
        exact hk_ri C hAe hP hD hS e.symm rfl d_B_pauseAfterWiping_51
      · skip
        refine lv_iconst (v := (1 : Int32)) hx hb d_B_pauseAfterWiping_26 (by decide) ?_
        refine lv_goto (tgt := 31) hx hb d_B_pauseAfterWiping_27 (by decide) ?_
        refine lv_istore_n (lv' := [(1, .int (1 : Int32)), (0, .ref (ad 0))]) hx hb d_B_pauseAfterWiping_31 rfl hl (by decide) rfl (fun ls hl => ?_)
        refine lv_iload_n hx hb d_B_pauseAfterWiping_32 rfl (lv_at hl 0 rfl) ?_
        refine lv_if_eq (tgt := 50) hx hb d_B_pauseAfterWiping_33 (by decide) (fun c_7 => absurd c_7 (by decide)) (fun c_7 => ?_)
        refine lv_sipush (v := (400 : Int32)) hx hb d_B_pauseAfterWiping_36 (by decide) ?_
        refine lv_bipush (v := (80 : Int32)) hx hb d_B_pauseAfterWiping_39 (by decide) ?_
        refine lv_aload_n hx hb d_B_pauseAfterWiping_41 rfl (lv_at hl 1 rfl) ?_
        refine hk_get (v := .int (b8 u)) C hP 0 4 8 i_B rfl rfl (by decide) (hk_in (by decide +kernel) rfl) rfl d_B_pauseAfterWiping_42 ?_
        refine lv_imul hx hb d_B_pauseAfterWiping_45 ?_
        refine lv_isub hx hb d_B_pauseAfterWiping_46 ?_
        refine lv_goto (tgt := 51) hx hb d_B_pauseAfterWiping_47 (by decide) ?_
        have e : m_B_pauseAfterWiping u = (400 : Int32) - ((80 : Int32) * (b8 u)) := (if_pos c_1).trans ((if_neg c_3).trans ((if_neg c_5).trans (rfl)))
        exact hk_ri C hAe hP hD hS e.symm rfl d_B_pauseAfterWiping_51
theorem Y_B_tickInterior : hk_Y y_B_tickInterior b_B_tickInterior 1 none 0 := ⟨hk_in (by decide +kernel) rfl, hk_in (by decide +kernel) rfl, hk_in (by decide +kernel) rfl, hk_in (List.mem_of_getElem? (i := 313) rfl) rfl, by decide, by decide, by decide +kernel⟩
abbrev rm_B_tickInterior : Room := { frames := 1, cells := 0, slots := 0, locals := 21 }
set_option maxHeartbeats 4000000 in
set_option maxRecDepth 100000 in
theorem c_B_tickInterior (l : Launch) (G : hk_G) (ad : Nat → Nat) (u : cB) (hI : Iv u) : hk_V l G y_B_tickInterior b_B_tickInterior 1 rm_B_tickInterior [.ref (ad 0)] (wB G ad u) (wB G ad (m_B_tickInterior u)) := by
  refine hk_V_of (by decide) (Nat.le_of_ble_eq_true rfl) ?_
  intro p e s m below meth c A ls C hAe hA hP hD hS hl
  have hx := C.1
  have hb := C.2.1
  have hown := C.2.2.2.2.1
  have hts := C.2.2.2.2.2.1
  have hE := C.2.2.2.2.2.2.2
  have hl : lv_has ls 1 [(0, .ref (ad 0))] := hl
  refine lv_aload_n hx hb d_B_tickInterior_0 rfl (lv_at hl 0 rfl) ?_
  refine hk_get (v := .int (b12 u)) C hP 0 4 12 i_B rfl rfl (by decide) (hk_in (by decide +kernel) rfl) rfl d_B_tickInterior_1 ?_
  refine lv_if_ne (tgt := 18) hx hb d_B_tickInterior_4 (by decide) (fun c_1 => ?_) (fun c_1 => ?_)
  · skip
    refine lv_aload_n hx hb d_B_tickInterior_18 rfl (lv_at hl 0 rfl) ?_
    refine lv_aload_n hx hb d_B_tickInterior_19 rfl (lv_at hl 0 rfl) ?_
    refine hk_get (v := .int (b9 u)) C hP 0 4 9 i_B rfl rfl (by decide) (hk_in (by decide +kernel) rfl) rfl d_B_tickInterior_20 ?_
    refine lv_iconst (v := (1 : Int32)) hx hb d_B_tickInterior_23 (by decide) ?_
    refine lv_iadd hx hb d_B_tickInterior_24 ?_
    refine lv_bipush (v := (100 : Int32)) hx hb d_B_tickInterior_25 (by decide) ?_
    refine hk_mmin C (hk_in (by decide +kernel) rfl) (Nat.le_of_ble_eq_true rfl) (Nat.le_of_ble_eq_true rfl) (Nat.zero_le _) (Nat.zero_le _) hl.1 d_B_tickInterior_27 ?_
    refine hk_put (w2 := wB G ad (f_B_tickInterior_30 u)) (v := .int (mn ((b9 u) + (1 : Int32)) (100 : Int32))) (ty := .int) C hP hD hS 0 4 9 i_B t_B_ok n_B rfl rfl (by decide) (hk_in (by decide +kernel) rfl) rfl (by decide +kernel) rfl rfl (Nat.le_of_ble_eq_true rfl) rfl d_B_tickInterior_30 (fun H locs hP hD hS => ?_)
    have hI1 : Iv (f_B_tickInterior_30 u) := (Iv_of (k2_f_B_tickInterior_30 _) (k6_f_B_tickInterior_30 _) hI)
    generalize hU1 : (f_B_tickInterior_30 u) = U1 at hP hD hI1
    refine lv_goto (tgt := 50) hx hb d_B_tickInterior_33 (by decide) ?_
    subst hU1
    have e : m_B_tickInterior u = (f_B_tickInterior_30 u) := (if_neg c_1).trans (rfl)
    exact hk_rv C hAe hP hD hS (by rw [e]) d_B_tickInterior_50
  · skip
    refine lv_aload_n hx hb d_B_tickInterior_7 rfl (lv_at hl 0 rfl) ?_
    refine hk_get (v := .ref (ad 1)) C hP 0 4 0 i_B rfl rfl (by decide) (hk_in (by decide +kernel) rfl) rfl d_B_tickInterior_8 ?_
    refine lv_bipush (v := (8 : Int32)) hx hb d_B_tickInterior_11 (by decide) ?_
    refine hk_ild C hP 1 0 (v := (b0 u) 8) rfl rfl (hk_inl (by decide)) rfl d_B_tickInterior_13 ?_
    refine lv_iconst (v := (1 : Int32)) hx hb d_B_tickInterior_14 (by decide) ?_
    refine lv_icmp_ne (tgt := 36) hx hb d_B_tickInterior_15 (by decide) (fun c_2 => ?_) (fun c_2 => ?_)
    · skip
      refine lv_aload_n hx hb d_B_tickInterior_36 rfl (lv_at hl 0 rfl) ?_
      refine lv_aload_n hx hb d_B_tickInterior_37 rfl (lv_at hl 0 rfl) ?_
      refine hk_get (v := .int (b9 u)) C hP 0 4 9 i_B rfl rfl (by decide) (hk_in (by decide +kernel) rfl) rfl d_B_tickInterior_38 ?_
      refine lv_iconst (v := (1 : Int32)) hx hb d_B_tickInterior_41 (by decide) ?_
      refine lv_isub hx hb d_B_tickInterior_42 ?_
      refine lv_iconst (v := (0 : Int32)) hx hb d_B_tickInterior_43 (by decide) ?_
      refine hk_mmax C (hk_in (by decide +kernel) rfl) (Nat.le_of_ble_eq_true rfl) (Nat.le_of_ble_eq_true rfl) (Nat.zero_le _) (Nat.zero_le _) hl.1 d_B_tickInterior_44 ?_
      refine hk_put (w2 := wB G ad (f_B_tickInterior_47 u)) (v := .int (mx ((b9 u) - (1 : Int32)) (0 : Int32))) (ty := .int) C hP hD hS 0 4 9 i_B t_B_ok n_B rfl rfl (by decide) (hk_in (by decide +kernel) rfl) rfl (by decide +kernel) rfl rfl (Nat.le_of_ble_eq_true rfl) rfl d_B_tickInterior_47 (fun H locs hP hD hS => ?_)
      have hI2 : Iv (f_B_tickInterior_47 u) := (Iv_of (k2_f_B_tickInterior_47 _) (k6_f_B_tickInterior_47 _) hI)
      generalize hU2 : (f_B_tickInterior_47 u) = U2 at hP hD hI2
      subst hU2
      have e : m_B_tickInterior u = (f_B_tickInterior_47 u) := (if_pos c_1).trans ((if_neg c_2).trans (rfl))
      exact hk_rv C hAe hP hD hS (by rw [e]) d_B_tickInterior_50
    · skip
      refine lv_aload_n hx hb d_B_tickInterior_18 rfl (lv_at hl 0 rfl) ?_
      refine lv_aload_n hx hb d_B_tickInterior_19 rfl (lv_at hl 0 rfl) ?_
      refine hk_get (v := .int (b9 u)) C hP 0 4 9 i_B rfl rfl (by decide) (hk_in (by decide +kernel) rfl) rfl d_B_tickInterior_20 ?_
      refine lv_iconst (v := (1 : Int32)) hx hb d_B_tickInterior_23 (by decide) ?_
      refine lv_iadd hx hb d_B_tickInterior_24 ?_
      refine lv_bipush (v := (100 : Int32)) hx hb d_B_tickInterior_25 (by decide) ?_
      refine hk_mmin C (hk_in (by decide +kernel) rfl) (Nat.le_of_ble_eq_true rfl) (Nat.le_of_ble_eq_true rfl) (Nat.zero_le _) (Nat.zero_le _) hl.1 d_B_tickInterior_27 ?_
      refine hk_put (w2 := wB G ad (f_B_tickInterior_30 u)) (v := .int (mn ((b9 u) + (1 : Int32)) (100 : Int32))) (ty := .int) C hP hD hS 0 4 9 i_B t_B_ok n_B rfl rfl (by decide) (hk_in (by decide +kernel) rfl) rfl (by decide +kernel) rfl rfl (Nat.le_of_ble_eq_true rfl) rfl d_B_tickInterior_30 (fun H locs hP hD hS => ?_)
      have hI3 : Iv (f_B_tickInterior_30 u) := (Iv_of (k2_f_B_tickInterior_30 _) (k6_f_B_tickInterior_30 _) hI)
      generalize hU3 : (f_B_tickInterior_30 u) = U3 at hP hD hI3
      refine lv_goto (tgt := 50) hx hb d_B_tickInterior_33 (by decide) ?_
      subst hU3
      have e : m_B_tickInterior u = (f_B_tickInterior_30 u) := (if_pos c_1).trans ((if_pos c_2).trans (rfl))
      exact hk_rv C hAe hP hD hS (by rw [e]) d_B_tickInterior_50
theorem Y_B_giveBack : hk_Y y_B_giveBack b_B_giveBack 3 none 2 := ⟨hk_in (by decide +kernel) rfl, hk_in (by decide +kernel) rfl, hk_in (by decide +kernel) rfl, hk_in (List.mem_of_getElem? (i := 426) rfl) rfl, by decide, by decide, by decide +kernel⟩
abbrev rm_B_giveBack : Room := { frames := 1, cells := 0, slots := 0, locals := 21 }
set_option maxHeartbeats 4000000 in
set_option maxRecDepth 100000 in
theorem c_B_giveBack (l : Launch) (G : hk_G) (ad : Nat → Nat) (u : cB) (p1 : Int32) (p2 : Int32) (hI : Iv u) : hk_V l G y_B_giveBack b_B_giveBack 3 rm_B_giveBack [.ref (ad 0), .int p1, .int p2] (wB G ad u) (wB G ad (m_B_giveBack p1 p2 u)) := by
  refine hk_V_of (by decide) (Nat.le_of_ble_eq_true rfl) ?_
  intro p e s m below meth c A ls C hAe hA hP hD hS hl
  have hx := C.1
  have hb := C.2.1
  have hown := C.2.2.2.2.1
  have hts := C.2.2.2.2.2.1
  have hE := C.2.2.2.2.2.2.2
  have hl : lv_has ls 3 [(0, .ref (ad 0)), (1, .int p1), (2, .int p2)] := hl
  refine lv_iload_n hx hb d_B_giveBack_0 rfl (lv_at hl 2 rfl) ?_
  refine lv_iconst (v := (-1 : Int32)) hx hb d_B_giveBack_1 (by decide) ?_
  refine lv_icmp_ne (tgt := 6) hx hb d_B_giveBack_2 (by decide) (fun c_1 => ?_) (fun c_1 => ?_)
  · skip
    refine lv_iload_n hx hb d_B_giveBack_6 rfl (lv_at hl 1 rfl) ?_
    refine lv_iconst (v := (4 : Int32)) hx hb d_B_giveBack_7 (by decide) ?_
    refine hk_goIe (hk_kS (k := 2) (As := [.int p1, .int (4 : Int32)]) (rest := []) C (c_B_isBelow l G p1 (4 : Int32) _) Y_B_isBelow (hk_in (by decide +kernel) rfl) rfl rfl ⟨Nat.le_of_ble_eq_true rfl, Nat.le_of_ble_eq_true rfl⟩ hk_Pn (hk_Dn (A := A)) rfl hl.1 rfl (Nat.le_of_ble_eq_true rfl) d_B_giveBack_8 ⟨Nat.zero_le _, Nat.zero_le _⟩) hP hS hA (fun H locs hP hS => ?_)
    refine lv_if_eq (tgt := 27) hx hb d_B_giveBack_11 (by decide) (fun c_2 => ?_) (fun c_2 => ?_)
    · skip
      refine lv_aload_n hx hb d_B_giveBack_27 rfl (lv_at hl 0 rfl) ?_
      refine lv_iload_n hx hb d_B_giveBack_28 rfl (lv_at hl 2 rfl) ?_
      refine hk_put (w2 := wB G ad (f_B_giveBack_29 p2 u)) (v := .int p2) (ty := .int) C hP hD hS 0 4 9 i_B t_B_ok n_B rfl rfl (by decide) (hk_in (by decide +kernel) rfl) rfl (by decide +kernel) rfl rfl (Nat.le_of_ble_eq_true rfl) rfl d_B_giveBack_29 (fun H locs hP hD hS => ?_)
      have hI1 : Iv (f_B_giveBack_29 p2 u) := (Iv_of (k2_f_B_giveBack_29 _ _) (k6_f_B_giveBack_29 _ _) hI)
      generalize hU1 : (f_B_giveBack_29 p2 u) = U1 at hP hD hI1
      subst hU1
      have e : m_B_giveBack p1 p2 u = (f_B_giveBack_29 p2 u) := (if_neg c_1).trans ((if_pos c_2).trans (rfl))
      exact hk_rv C hAe hP hD hS (by rw [e]) d_B_giveBack_32
    · skip
      rcases hk_b4 c_2 with rfl | rfl | rfl | rfl
      · skip
        refine lv_aload_n hx hb d_B_giveBack_14 rfl (lv_at hl 0 rfl) ?_
        refine hk_get (v := .ref (ad 8)) C hP 0 4 5 i_B rfl rfl (by decide) (hk_in (by decide +kernel) rfl) rfl d_B_giveBack_15 ?_
        refine lv_iload_n hx hb d_B_giveBack_18 rfl (lv_at hl 1 rfl) ?_
        refine hk_ald C hP 8 3 (v := (ad 9)) rfl rfl (hk_inl (by decide)) rfl d_B_giveBack_19 ?_
        refine lv_iload_n hx hb d_B_giveBack_20 rfl (lv_at hl 2 rfl) ?_
        refine hk_putN (host := "BodyRows2") (w2 := wB G ad (f_B_giveBack_21 (0 : Int32) p2 u)) (v := .int p2) (ty := .int) C hP hD hS 9 2 1 i_Window t_Window_ok n_Window rfl rfl (by decide) (by decide +kernel) rfl (by decide +kernel) rfl rfl (Nat.le_of_ble_eq_true rfl) rfl d_B_giveBack_21 (fun H locs hP hD hS => ?_)
        have hI2 : Iv (f_B_giveBack_21 (0 : Int32) p2 u) := (Iv_of (k2_f_B_giveBack_21 _ _ _) (k6_f_B_giveBack_21 _ _ _) hI)
        generalize hU2 : (f_B_giveBack_21 (0 : Int32) p2 u) = U2 at hP hD hI2
        refine lv_goto (tgt := 32) hx hb d_B_giveBack_24 (by decide) ?_
        subst hU2
        have e : m_B_giveBack (0 : Int32) p2 u = (f_B_giveBack_21 (0 : Int32) p2 u) := (if_neg c_1).trans ((if_neg c_2).trans (rfl))
        exact hk_rv C hAe hP hD hS (by rw [e]) d_B_giveBack_32
      · skip
        refine lv_aload_n hx hb d_B_giveBack_14 rfl (lv_at hl 0 rfl) ?_
        refine hk_get (v := .ref (ad 8)) C hP 0 4 5 i_B rfl rfl (by decide) (hk_in (by decide +kernel) rfl) rfl d_B_giveBack_15 ?_
        refine lv_iload_n hx hb d_B_giveBack_18 rfl (lv_at hl 1 rfl) ?_
        refine hk_ald C hP 8 3 (v := (ad 10)) rfl rfl (hk_inl (by decide)) rfl d_B_giveBack_19 ?_
        refine lv_iload_n hx hb d_B_giveBack_20 rfl (lv_at hl 2 rfl) ?_
        refine hk_putN (host := "BodyRows2") (w2 := wB G ad (f_B_giveBack_21 (1 : Int32) p2 u)) (v := .int p2) (ty := .int) C hP hD hS 10 2 1 i_Window t_Window_ok n_Window rfl rfl (by decide) (by decide +kernel) rfl (by decide +kernel) rfl rfl (Nat.le_of_ble_eq_true rfl) rfl d_B_giveBack_21 (fun H locs hP hD hS => ?_)
        have hI3 : Iv (f_B_giveBack_21 (1 : Int32) p2 u) := (Iv_of (k2_f_B_giveBack_21 _ _ _) (k6_f_B_giveBack_21 _ _ _) hI)
        generalize hU3 : (f_B_giveBack_21 (1 : Int32) p2 u) = U3 at hP hD hI3
        refine lv_goto (tgt := 32) hx hb d_B_giveBack_24 (by decide) ?_
        subst hU3
        have e : m_B_giveBack (1 : Int32) p2 u = (f_B_giveBack_21 (1 : Int32) p2 u) := (if_neg c_1).trans ((if_neg c_2).trans (rfl))
        exact hk_rv C hAe hP hD hS (by rw [e]) d_B_giveBack_32
      · skip
        refine lv_aload_n hx hb d_B_giveBack_14 rfl (lv_at hl 0 rfl) ?_
        refine hk_get (v := .ref (ad 8)) C hP 0 4 5 i_B rfl rfl (by decide) (hk_in (by decide +kernel) rfl) rfl d_B_giveBack_15 ?_
        refine lv_iload_n hx hb d_B_giveBack_18 rfl (lv_at hl 1 rfl) ?_
        refine hk_ald C hP 8 3 (v := (ad 11)) rfl rfl (hk_inl (by decide)) rfl d_B_giveBack_19 ?_
        refine lv_iload_n hx hb d_B_giveBack_20 rfl (lv_at hl 2 rfl) ?_
        refine hk_putN (host := "BodyRows2") (w2 := wB G ad (f_B_giveBack_21 (2 : Int32) p2 u)) (v := .int p2) (ty := .int) C hP hD hS 11 2 1 i_Window t_Window_ok n_Window rfl rfl (by decide) (by decide +kernel) rfl (by decide +kernel) rfl rfl (Nat.le_of_ble_eq_true rfl) rfl d_B_giveBack_21 (fun H locs hP hD hS => ?_)
        have hI4 : Iv (f_B_giveBack_21 (2 : Int32) p2 u) := (Iv_of (k2_f_B_giveBack_21 _ _ _) (k6_f_B_giveBack_21 _ _ _) hI)
        generalize hU4 : (f_B_giveBack_21 (2 : Int32) p2 u) = U4 at hP hD hI4
        refine lv_goto (tgt := 32) hx hb d_B_giveBack_24 (by decide) ?_
        subst hU4
        have e : m_B_giveBack (2 : Int32) p2 u = (f_B_giveBack_21 (2 : Int32) p2 u) := (if_neg c_1).trans ((if_neg c_2).trans (rfl))
        exact hk_rv C hAe hP hD hS (by rw [e]) d_B_giveBack_32
      · skip
        refine lv_aload_n hx hb d_B_giveBack_14 rfl (lv_at hl 0 rfl) ?_
        refine hk_get (v := .ref (ad 8)) C hP 0 4 5 i_B rfl rfl (by decide) (hk_in (by decide +kernel) rfl) rfl d_B_giveBack_15 ?_
        refine lv_iload_n hx hb d_B_giveBack_18 rfl (lv_at hl 1 rfl) ?_
        refine hk_ald C hP 8 3 (v := (ad 12)) rfl rfl (hk_inl (by decide)) rfl d_B_giveBack_19 ?_
        refine lv_iload_n hx hb d_B_giveBack_20 rfl (lv_at hl 2 rfl) ?_
        refine hk_putN (host := "BodyRows2") (w2 := wB G ad (f_B_giveBack_21 (3 : Int32) p2 u)) (v := .int p2) (ty := .int) C hP hD hS 12 2 1 i_Window t_Window_ok n_Window rfl rfl (by decide) (by decide +kernel) rfl (by decide +kernel) rfl rfl (Nat.le_of_ble_eq_true rfl) rfl d_B_giveBack_21 (fun H locs hP hD hS => ?_)
        have hI5 : Iv (f_B_giveBack_21 (3 : Int32) p2 u) := (Iv_of (k2_f_B_giveBack_21 _ _ _) (k6_f_B_giveBack_21 _ _ _) hI)
        generalize hU5 : (f_B_giveBack_21 (3 : Int32) p2 u) = U5 at hP hD hI5
        refine lv_goto (tgt := 32) hx hb d_B_giveBack_24 (by decide) ?_
        subst hU5
        have e : m_B_giveBack (3 : Int32) p2 u = (f_B_giveBack_21 (3 : Int32) p2 u) := (if_neg c_1).trans ((if_neg c_2).trans (rfl))
        exact hk_rv C hAe hP hD hS (by rw [e]) d_B_giveBack_32
  · skip
    have e : m_B_giveBack p1 p2 u = u := (if_pos c_1).trans (rfl)
    exact hk_rv C hAe hP hD hS (by rw [e]) d_B_giveBack_5
end
section
theorem Y_B_tick : hk_Y y_B_tick b_B_tick 2 none 0 := ⟨hk_in (by decide +kernel) rfl, hk_in (by decide +kernel) rfl, hk_in (by decide +kernel) rfl, hk_in (List.mem_of_getElem? (i := 282) rfl) rfl, by decide, by decide, by decide +kernel⟩
abbrev rm_B_tick : Room := { frames := 2, cells := 0, slots := 0, locals := 43 }
set_option maxHeartbeats 4000000 in
set_option maxRecDepth 100000 in
theorem tl_B_tick_53_4 {p : Program} {l : Launch} {e : Env} {s : State} {m : MethodId} {below : List Frame} {meth : Method} {c : Code} {A : Nat → Prop} {H : Heap} {locs : List Loc} {ls : Array Slot} {w0 w1 : va_W} (G : hk_G) (ad : Nat → Nat) (u : cB) (hI : Iv u) (C : hk_C p s m meth c R_B b_B_tick 2 none ([.ref (ad 0)] : List Value).toArray G) (hAe : va_A w0 s.heap.size = A) (hA : ∀ q : Nat, s.heap.size ≤ q → A q) (hP : va_P (hk_D G) classes (wB G ad u) H) (hD : va_D A (wB G ad u)) (hS : va_S A s.heap H locs) (hl : lv_has ls 2 [(1, .int (4 : Int32)), (0, .ref (ad 0))]) (hw : w1 = wB G ad (g_B_tick_53_4 u)) : W p l e rm_B_tick s m ([.ref (ad 0)] : List Value).toArray below meth c H locs 0 0 (MQ below (va_Qv (fun (_ : Unit) => True) (hk_B G w0 w1 s.heap.size) A) ([.ref (ad 0)] : List Value).toArray s 0 0 A) (F0 m 53 ls []) := by
  subst hw
  have hx := C.1
  have hb := C.2.1
  have hown := C.2.2.2.2.1
  have hts := C.2.2.2.2.2.1
  have hE := C.2.2.2.2.2.2.2
  refine lv_iload_n hx hb d_B_tick_53 rfl (lv_at hl 0 rfl) ?_
  refine lv_iconst (v := (4 : Int32)) hx hb d_B_tick_54 (by decide) ?_
  refine lv_icmp_ge (tgt := 73) hx hb d_B_tick_55 (by decide) (fun c_1 => ?_) (fun c_1 => absurd (by decide) c_1)
  refine lv_aload_n hx hb d_B_tick_73 rfl (lv_at hl 1 rfl) ?_
  refine lv_dup hx hb d_B_tick_74 rfl ?_
  refine hk_get (v := .int (b10 u)) C hP 0 4 10 i_B rfl rfl (by decide) (hk_in (by decide +kernel) rfl) rfl d_B_tick_75 ?_
  refine lv_iconst (v := (1 : Int32)) hx hb d_B_tick_78 (by decide) ?_
  refine lv_iadd hx hb d_B_tick_79 ?_
  refine hk_put (w2 := wB G ad (f_B_tick_80 u)) (v := .int ((b10 u) + (1 : Int32))) (ty := .int) C hP hD hS 0 4 10 i_B t_B_ok n_B rfl rfl (by decide) (hk_in (by decide +kernel) rfl) rfl (by decide +kernel) rfl rfl (Nat.le_of_ble_eq_true rfl) rfl d_B_tick_80 (fun H locs hP hD hS => ?_)
  have hI1 : Iv (f_B_tick_80 u) := (Iv_of (k2_f_B_tick_80 _) (k6_f_B_tick_80 _) hI)
  generalize hU1 : (f_B_tick_80 u) = U1 at hP hD hI1
  subst hU1
  have e : g_B_tick_53_4 u = (f_B_tick_80 u) := rfl
  exact hk_rv C hAe hP hD hS (by rw [e]) d_B_tick_83
set_option maxHeartbeats 4000000 in
set_option maxRecDepth 100000 in
theorem tl_B_tick_53_3 {p : Program} {l : Launch} {e : Env} {s : State} {m : MethodId} {below : List Frame} {meth : Method} {c : Code} {A : Nat → Prop} {H : Heap} {locs : List Loc} {ls : Array Slot} {w0 w1 : va_W} (G : hk_G) (ad : Nat → Nat) (u : cB) (hI : Iv u) (C : hk_C p s m meth c R_B b_B_tick 2 none ([.ref (ad 0)] : List Value).toArray G) (hAe : va_A w0 s.heap.size = A) (hA : ∀ q : Nat, s.heap.size ≤ q → A q) (hP : va_P (hk_D G) classes (wB G ad u) H) (hD : va_D A (wB G ad u)) (hS : va_S A s.heap H locs) (hl : lv_has ls 2 [(1, .int (3 : Int32)), (0, .ref (ad 0))]) (hw : w1 = wB G ad (g_B_tick_53_3 u)) : W p l e rm_B_tick s m ([.ref (ad 0)] : List Value).toArray below meth c H locs 0 0 (MQ below (va_Qv (fun (_ : Unit) => True) (hk_B G w0 w1 s.heap.size) A) ([.ref (ad 0)] : List Value).toArray s 0 0 A) (F0 m 53 ls []) := by
  subst hw
  have hx := C.1
  have hb := C.2.1
  have hown := C.2.2.2.2.1
  have hts := C.2.2.2.2.2.1
  have hE := C.2.2.2.2.2.2.2
  refine lv_iload_n hx hb d_B_tick_53 rfl (lv_at hl 0 rfl) ?_
  refine lv_iconst (v := (4 : Int32)) hx hb d_B_tick_54 (by decide) ?_
  refine lv_icmp_ge (tgt := 73) hx hb d_B_tick_55 (by decide) (fun c_1 => absurd c_1 (by decide)) (fun c_1 => ?_)
  refine lv_aload_n hx hb d_B_tick_58 rfl (lv_at hl 1 rfl) ?_
  refine hk_get (v := .ref (ad 8)) C hP 0 4 5 i_B rfl rfl (by decide) (hk_in (by decide +kernel) rfl) rfl d_B_tick_59 ?_
  refine lv_iload_n hx hb d_B_tick_62 rfl (lv_at hl 0 rfl) ?_
  refine hk_ald C hP 8 3 (v := (ad 12)) rfl rfl (hk_inl (by decide)) rfl d_B_tick_63 ?_
  refine hk_goV1 12 (w2 := wB G ad (f_B_tick_64_3 u)) (hk_kN (host := "BodyRows2") (k := 0) (As := []) (rest := []) C (c_Window_tick l G (ad 12) (b5 u 3) _) Y_Window_tick (by decide +kernel) rfl rfl ⟨Nat.le_of_ble_eq_true rfl, Nat.le_of_ble_eq_true rfl⟩ (va_recv hE.1 hP (ci := 2) (q0 := 12) rfl rfl) (hP.sub (ws' := (wN (ad 12) (b5 u 3))) [12] rfl) (hD.sub (ws' := (wN (ad 12) (b5 u 3))) [12] (by decide) rfl) rfl hl.1 rfl (Nat.le_of_ble_eq_true rfl) d_B_tick_64 ⟨Nat.zero_le _, Nat.zero_le _⟩) hP hD hS hA rfl rfl (fun H locs hP hD hS => ?_)
  have hI1 : Iv (f_B_tick_64_3 u) := (Iv_of (k2_f_B_tick_64_3 _) (k6_f_B_tick_64_3 _) hI)
  generalize hU1 : (f_B_tick_64_3 u) = U1 at hP hD hI1
  refine lv_iinc (v := (4 : Int32)) (lv' := [(1, .int (4 : Int32)), (0, .ref (ad 0))]) hx hb d_B_tick_67 hl (k := 0) rfl (by decide) (by decide) rfl (fun ls hl => ?_)
  refine lv_goto (tgt := 53) hx hb d_B_tick_70 (by decide) ?_
  subst hU1
  have e : g_B_tick_53_3 u = (g_B_tick_53_4 (f_B_tick_64_3 u)) := rfl
  exact tl_B_tick_53_4 G ad (f_B_tick_64_3 u) hI1 C hAe hA hP hD hS (lv_sub hl [0, 1] rfl) (by rw [e])
set_option maxHeartbeats 4000000 in
set_option maxRecDepth 100000 in
theorem tl_B_tick_53_2 {p : Program} {l : Launch} {e : Env} {s : State} {m : MethodId} {below : List Frame} {meth : Method} {c : Code} {A : Nat → Prop} {H : Heap} {locs : List Loc} {ls : Array Slot} {w0 w1 : va_W} (G : hk_G) (ad : Nat → Nat) (u : cB) (hI : Iv u) (C : hk_C p s m meth c R_B b_B_tick 2 none ([.ref (ad 0)] : List Value).toArray G) (hAe : va_A w0 s.heap.size = A) (hA : ∀ q : Nat, s.heap.size ≤ q → A q) (hP : va_P (hk_D G) classes (wB G ad u) H) (hD : va_D A (wB G ad u)) (hS : va_S A s.heap H locs) (hl : lv_has ls 2 [(1, .int (2 : Int32)), (0, .ref (ad 0))]) (hw : w1 = wB G ad (g_B_tick_53_2 u)) : W p l e rm_B_tick s m ([.ref (ad 0)] : List Value).toArray below meth c H locs 0 0 (MQ below (va_Qv (fun (_ : Unit) => True) (hk_B G w0 w1 s.heap.size) A) ([.ref (ad 0)] : List Value).toArray s 0 0 A) (F0 m 53 ls []) := by
  subst hw
  have hx := C.1
  have hb := C.2.1
  have hown := C.2.2.2.2.1
  have hts := C.2.2.2.2.2.1
  have hE := C.2.2.2.2.2.2.2
  refine lv_iload_n hx hb d_B_tick_53 rfl (lv_at hl 0 rfl) ?_
  refine lv_iconst (v := (4 : Int32)) hx hb d_B_tick_54 (by decide) ?_
  refine lv_icmp_ge (tgt := 73) hx hb d_B_tick_55 (by decide) (fun c_1 => absurd c_1 (by decide)) (fun c_1 => ?_)
  refine lv_aload_n hx hb d_B_tick_58 rfl (lv_at hl 1 rfl) ?_
  refine hk_get (v := .ref (ad 8)) C hP 0 4 5 i_B rfl rfl (by decide) (hk_in (by decide +kernel) rfl) rfl d_B_tick_59 ?_
  refine lv_iload_n hx hb d_B_tick_62 rfl (lv_at hl 0 rfl) ?_
  refine hk_ald C hP 8 3 (v := (ad 11)) rfl rfl (hk_inl (by decide)) rfl d_B_tick_63 ?_
  refine hk_goV1 11 (w2 := wB G ad (f_B_tick_64_2 u)) (hk_kN (host := "BodyRows2") (k := 0) (As := []) (rest := []) C (c_Window_tick l G (ad 11) (b5 u 2) _) Y_Window_tick (by decide +kernel) rfl rfl ⟨Nat.le_of_ble_eq_true rfl, Nat.le_of_ble_eq_true rfl⟩ (va_recv hE.1 hP (ci := 2) (q0 := 11) rfl rfl) (hP.sub (ws' := (wN (ad 11) (b5 u 2))) [11] rfl) (hD.sub (ws' := (wN (ad 11) (b5 u 2))) [11] (by decide) rfl) rfl hl.1 rfl (Nat.le_of_ble_eq_true rfl) d_B_tick_64 ⟨Nat.zero_le _, Nat.zero_le _⟩) hP hD hS hA rfl rfl (fun H locs hP hD hS => ?_)
  have hI1 : Iv (f_B_tick_64_2 u) := (Iv_of (k2_f_B_tick_64_2 _) (k6_f_B_tick_64_2 _) hI)
  generalize hU1 : (f_B_tick_64_2 u) = U1 at hP hD hI1
  refine lv_iinc (v := (3 : Int32)) (lv' := [(1, .int (3 : Int32)), (0, .ref (ad 0))]) hx hb d_B_tick_67 hl (k := 0) rfl (by decide) (by decide) rfl (fun ls hl => ?_)
  refine lv_goto (tgt := 53) hx hb d_B_tick_70 (by decide) ?_
  subst hU1
  have e : g_B_tick_53_2 u = (g_B_tick_53_3 (f_B_tick_64_2 u)) := rfl
  exact tl_B_tick_53_3 G ad (f_B_tick_64_2 u) hI1 C hAe hA hP hD hS (lv_sub hl [0, 1] rfl) (by rw [e])
set_option maxHeartbeats 4000000 in
set_option maxRecDepth 100000 in
theorem tl_B_tick_53_1 {p : Program} {l : Launch} {e : Env} {s : State} {m : MethodId} {below : List Frame} {meth : Method} {c : Code} {A : Nat → Prop} {H : Heap} {locs : List Loc} {ls : Array Slot} {w0 w1 : va_W} (G : hk_G) (ad : Nat → Nat) (u : cB) (hI : Iv u) (C : hk_C p s m meth c R_B b_B_tick 2 none ([.ref (ad 0)] : List Value).toArray G) (hAe : va_A w0 s.heap.size = A) (hA : ∀ q : Nat, s.heap.size ≤ q → A q) (hP : va_P (hk_D G) classes (wB G ad u) H) (hD : va_D A (wB G ad u)) (hS : va_S A s.heap H locs) (hl : lv_has ls 2 [(1, .int (1 : Int32)), (0, .ref (ad 0))]) (hw : w1 = wB G ad (g_B_tick_53_1 u)) : W p l e rm_B_tick s m ([.ref (ad 0)] : List Value).toArray below meth c H locs 0 0 (MQ below (va_Qv (fun (_ : Unit) => True) (hk_B G w0 w1 s.heap.size) A) ([.ref (ad 0)] : List Value).toArray s 0 0 A) (F0 m 53 ls []) := by
  subst hw
  have hx := C.1
  have hb := C.2.1
  have hown := C.2.2.2.2.1
  have hts := C.2.2.2.2.2.1
  have hE := C.2.2.2.2.2.2.2
  refine lv_iload_n hx hb d_B_tick_53 rfl (lv_at hl 0 rfl) ?_
  refine lv_iconst (v := (4 : Int32)) hx hb d_B_tick_54 (by decide) ?_
  refine lv_icmp_ge (tgt := 73) hx hb d_B_tick_55 (by decide) (fun c_1 => absurd c_1 (by decide)) (fun c_1 => ?_)
  refine lv_aload_n hx hb d_B_tick_58 rfl (lv_at hl 1 rfl) ?_
  refine hk_get (v := .ref (ad 8)) C hP 0 4 5 i_B rfl rfl (by decide) (hk_in (by decide +kernel) rfl) rfl d_B_tick_59 ?_
  refine lv_iload_n hx hb d_B_tick_62 rfl (lv_at hl 0 rfl) ?_
  refine hk_ald C hP 8 3 (v := (ad 10)) rfl rfl (hk_inl (by decide)) rfl d_B_tick_63 ?_
  refine hk_goV1 10 (w2 := wB G ad (f_B_tick_64_1 u)) (hk_kN (host := "BodyRows2") (k := 0) (As := []) (rest := []) C (c_Window_tick l G (ad 10) (b5 u 1) _) Y_Window_tick (by decide +kernel) rfl rfl ⟨Nat.le_of_ble_eq_true rfl, Nat.le_of_ble_eq_true rfl⟩ (va_recv hE.1 hP (ci := 2) (q0 := 10) rfl rfl) (hP.sub (ws' := (wN (ad 10) (b5 u 1))) [10] rfl) (hD.sub (ws' := (wN (ad 10) (b5 u 1))) [10] (by decide) rfl) rfl hl.1 rfl (Nat.le_of_ble_eq_true rfl) d_B_tick_64 ⟨Nat.zero_le _, Nat.zero_le _⟩) hP hD hS hA rfl rfl (fun H locs hP hD hS => ?_)
  have hI1 : Iv (f_B_tick_64_1 u) := (Iv_of (k2_f_B_tick_64_1 _) (k6_f_B_tick_64_1 _) hI)
  generalize hU1 : (f_B_tick_64_1 u) = U1 at hP hD hI1
  refine lv_iinc (v := (2 : Int32)) (lv' := [(1, .int (2 : Int32)), (0, .ref (ad 0))]) hx hb d_B_tick_67 hl (k := 0) rfl (by decide) (by decide) rfl (fun ls hl => ?_)
  refine lv_goto (tgt := 53) hx hb d_B_tick_70 (by decide) ?_
  subst hU1
  have e : g_B_tick_53_1 u = (g_B_tick_53_2 (f_B_tick_64_1 u)) := rfl
  exact tl_B_tick_53_2 G ad (f_B_tick_64_1 u) hI1 C hAe hA hP hD hS (lv_sub hl [0, 1] rfl) (by rw [e])
set_option maxHeartbeats 4000000 in
set_option maxRecDepth 100000 in
theorem tl_B_tick_53_0 {p : Program} {l : Launch} {e : Env} {s : State} {m : MethodId} {below : List Frame} {meth : Method} {c : Code} {A : Nat → Prop} {H : Heap} {locs : List Loc} {ls : Array Slot} {w0 w1 : va_W} (G : hk_G) (ad : Nat → Nat) (u : cB) (hI : Iv u) (C : hk_C p s m meth c R_B b_B_tick 2 none ([.ref (ad 0)] : List Value).toArray G) (hAe : va_A w0 s.heap.size = A) (hA : ∀ q : Nat, s.heap.size ≤ q → A q) (hP : va_P (hk_D G) classes (wB G ad u) H) (hD : va_D A (wB G ad u)) (hS : va_S A s.heap H locs) (hl : lv_has ls 2 [(1, .int (0 : Int32)), (0, .ref (ad 0))]) (hw : w1 = wB G ad (g_B_tick_53_0 u)) : W p l e rm_B_tick s m ([.ref (ad 0)] : List Value).toArray below meth c H locs 0 0 (MQ below (va_Qv (fun (_ : Unit) => True) (hk_B G w0 w1 s.heap.size) A) ([.ref (ad 0)] : List Value).toArray s 0 0 A) (F0 m 53 ls []) := by
  subst hw
  have hx := C.1
  have hb := C.2.1
  have hown := C.2.2.2.2.1
  have hts := C.2.2.2.2.2.1
  have hE := C.2.2.2.2.2.2.2
  refine lv_iload_n hx hb d_B_tick_53 rfl (lv_at hl 0 rfl) ?_
  refine lv_iconst (v := (4 : Int32)) hx hb d_B_tick_54 (by decide) ?_
  refine lv_icmp_ge (tgt := 73) hx hb d_B_tick_55 (by decide) (fun c_1 => absurd c_1 (by decide)) (fun c_1 => ?_)
  refine lv_aload_n hx hb d_B_tick_58 rfl (lv_at hl 1 rfl) ?_
  refine hk_get (v := .ref (ad 8)) C hP 0 4 5 i_B rfl rfl (by decide) (hk_in (by decide +kernel) rfl) rfl d_B_tick_59 ?_
  refine lv_iload_n hx hb d_B_tick_62 rfl (lv_at hl 0 rfl) ?_
  refine hk_ald C hP 8 3 (v := (ad 9)) rfl rfl (hk_inl (by decide)) rfl d_B_tick_63 ?_
  refine hk_goV1 9 (w2 := wB G ad (f_B_tick_64 u)) (hk_kN (host := "BodyRows2") (k := 0) (As := []) (rest := []) C (c_Window_tick l G (ad 9) (b5 u 0) _) Y_Window_tick (by decide +kernel) rfl rfl ⟨Nat.le_of_ble_eq_true rfl, Nat.le_of_ble_eq_true rfl⟩ (va_recv hE.1 hP (ci := 2) (q0 := 9) rfl rfl) (hP.sub (ws' := (wN (ad 9) (b5 u 0))) [9] rfl) (hD.sub (ws' := (wN (ad 9) (b5 u 0))) [9] (by decide) rfl) rfl hl.1 rfl (Nat.le_of_ble_eq_true rfl) d_B_tick_64 ⟨Nat.zero_le _, Nat.zero_le _⟩) hP hD hS hA rfl rfl (fun H locs hP hD hS => ?_)
  have hI1 : Iv (f_B_tick_64 u) := (Iv_of (k2_f_B_tick_64 _) (k6_f_B_tick_64 _) hI)
  generalize hU1 : (f_B_tick_64 u) = U1 at hP hD hI1
  refine lv_iinc (v := (1 : Int32)) (lv' := [(1, .int (1 : Int32)), (0, .ref (ad 0))]) hx hb d_B_tick_67 hl (k := 0) rfl (by decide) (by decide) rfl (fun ls hl => ?_)
  refine lv_goto (tgt := 53) hx hb d_B_tick_70 (by decide) ?_
  subst hU1
  have e : g_B_tick_53_0 u = (g_B_tick_53_1 (f_B_tick_64 u)) := rfl
  exact tl_B_tick_53_1 G ad (f_B_tick_64 u) hI1 C hAe hA hP hD hS (lv_sub hl [0, 1] rfl) (by rw [e])
set_option maxHeartbeats 4000000 in
set_option maxRecDepth 100000 in
theorem tl_B_tick_32_2 {p : Program} {l : Launch} {e : Env} {s : State} {m : MethodId} {below : List Frame} {meth : Method} {c : Code} {A : Nat → Prop} {H : Heap} {locs : List Loc} {ls : Array Slot} {w0 w1 : va_W} (G : hk_G) (ad : Nat → Nat) (u : cB) (hI : Iv u) (C : hk_C p s m meth c R_B b_B_tick 2 none ([.ref (ad 0)] : List Value).toArray G) (hAe : va_A w0 s.heap.size = A) (hA : ∀ q : Nat, s.heap.size ≤ q → A q) (hP : va_P (hk_D G) classes (wB G ad u) H) (hD : va_D A (wB G ad u)) (hS : va_S A s.heap H locs) (hl : lv_has ls 2 [(1, .int (2 : Int32)), (0, .ref (ad 0))]) (hw : w1 = wB G ad (g_B_tick_32_2 u)) : W p l e rm_B_tick s m ([.ref (ad 0)] : List Value).toArray below meth c H locs 0 0 (MQ below (va_Qv (fun (_ : Unit) => True) (hk_B G w0 w1 s.heap.size) A) ([.ref (ad 0)] : List Value).toArray s 0 0 A) (F0 m 32 ls []) := by
  subst hw
  have hx := C.1
  have hb := C.2.1
  have hown := C.2.2.2.2.1
  have hts := C.2.2.2.2.2.1
  have hE := C.2.2.2.2.2.2.2
  refine lv_aload_n hx hb d_B_tick_32 rfl (lv_at hl 1 rfl) ?_
  refine hk_get (v := .ref (ad 7)) C hP 0 4 4 i_B rfl rfl (by decide) (hk_in (by decide +kernel) rfl) rfl d_B_tick_33 ?_
  refine lv_aload_n hx hb d_B_tick_36 rfl (lv_at hl 1 rfl) ?_
  refine hk_goI (hk_kV (k := 0) (As := []) (rest := [.ref (ad 7)]) C (c_B_wiperSpeed l G ad u hI _) Y_B_wiperSpeed (hk_in (by decide +kernel) rfl) rfl rfl ⟨Nat.le_of_ble_eq_true rfl, Nat.le_of_ble_eq_true rfl⟩ (va_recv hE.1 hP (ci := 4) (q0 := 0) rfl rfl) hP hD rfl hl.1 rfl (Nat.le_of_ble_eq_true rfl) d_B_tick_37 ⟨Nat.zero_le _, Nat.zero_le _⟩) hD hS hA (fun H locs hP hD hS => ?_)
  refine lv_aload_n hx hb d_B_tick_40 rfl (lv_at hl 1 rfl) ?_
  refine hk_goI (hk_kV (k := 0) (As := []) (rest := [.int (m_B_wiperSpeed u), .ref (ad 7)]) C (c_B_pauseAfterWiping l G ad u hI _) Y_B_pauseAfterWiping (hk_in (by decide +kernel) rfl) rfl rfl ⟨Nat.le_of_ble_eq_true rfl, Nat.le_of_ble_eq_true rfl⟩ (va_recv hE.1 hP (ci := 4) (q0 := 0) rfl rfl) hP hD rfl hl.1 rfl (Nat.le_of_ble_eq_true rfl) d_B_tick_41 ⟨Nat.zero_le _, Nat.zero_le _⟩) hD hS hA (fun H locs hP hD hS => ?_)
  refine hk_goV1 7 (w2 := wB G ad (f_B_tick_44 u)) (hk_kN (host := "BodyRows2") (k := 2) (As := [.int (m_B_wiperSpeed u), .int (m_B_pauseAfterWiping u)]) (rest := []) C (c_Wiper_tick l G (ad 7) (b4 u) (m_B_wiperSpeed u) (m_B_pauseAfterWiping u) _) Y_Wiper_tick (by decide +kernel) rfl rfl ⟨Nat.le_of_ble_eq_true rfl, Nat.le_of_ble_eq_true rfl⟩ (va_recv hE.1 hP (ci := 1) (q0 := 7) rfl rfl) (hP.sub (ws' := (wP (ad 7) (b4 u))) [7] rfl) (hD.sub (ws' := (wP (ad 7) (b4 u))) [7] (by decide) rfl) rfl hl.1 rfl (Nat.le_of_ble_eq_true rfl) d_B_tick_44 ⟨Nat.zero_le _, Nat.zero_le _⟩) hP hD hS hA rfl rfl (fun H locs hP hD hS => ?_)
  have hI1 : Iv (f_B_tick_44 u) := (Iv_of (k2_f_B_tick_44 _) (k6_f_B_tick_44 _) hI)
  generalize hU1 : (f_B_tick_44 u) = U1 at hP hD hI1
  refine lv_aload_n hx hb d_B_tick_47 rfl (lv_at hl 1 rfl) ?_
  refine hk_goV (hk_kV (k := 0) (As := []) (rest := []) C (c_B_tickInterior l G ad U1 hI1 _) Y_B_tickInterior (hk_in (by decide +kernel) rfl) rfl rfl ⟨Nat.le_of_ble_eq_true rfl, Nat.le_of_ble_eq_true rfl⟩ (va_recv hE.1 hP (ci := 4) (q0 := 0) rfl rfl) hP hD rfl hl.1 rfl (Nat.le_of_ble_eq_true rfl) d_B_tick_48 ⟨Nat.zero_le _, Nat.zero_le _⟩) hD hS hA (fun H locs hP hD hS => ?_)
  have hI2 : Iv (m_B_tickInterior U1) := (km_B_tickInterior hI1)
  generalize hU2 : (m_B_tickInterior U1) = U2 at hP hD hI2
  refine lv_iconst (v := (0 : Int32)) hx hb d_B_tick_51 (by decide) ?_
  refine lv_istore_n (lv' := [(1, .int (0 : Int32)), (0, .ref (ad 0))]) hx hb d_B_tick_52 rfl hl (by decide) rfl (fun ls hl => ?_)
  subst hU1 hU2
  have e : g_B_tick_32_2 u = (g_B_tick_53_0 (m_B_tickInterior (f_B_tick_44 u))) := rfl
  exact tl_B_tick_53_0 G ad (m_B_tickInterior (f_B_tick_44 u)) hI2 C hAe hA hP hD hS (lv_sub hl [0, 1] rfl) (by rw [e])
set_option maxHeartbeats 4000000 in
set_option maxRecDepth 100000 in
theorem tl_B_tick_2_2 {p : Program} {l : Launch} {e : Env} {s : State} {m : MethodId} {below : List Frame} {meth : Method} {c : Code} {A : Nat → Prop} {H : Heap} {locs : List Loc} {ls : Array Slot} {w0 w1 : va_W} (G : hk_G) (ad : Nat → Nat) (u : cB) (hI : Iv u) (C : hk_C p s m meth c R_B b_B_tick 2 none ([.ref (ad 0)] : List Value).toArray G) (hAe : va_A w0 s.heap.size = A) (hA : ∀ q : Nat, s.heap.size ≤ q → A q) (hP : va_P (hk_D G) classes (wB G ad u) H) (hD : va_D A (wB G ad u)) (hS : va_S A s.heap H locs) (hl : lv_has ls 2 [(1, .int (2 : Int32)), (0, .ref (ad 0))]) (hw : w1 = wB G ad (g_B_tick_2_2 u)) : W p l e rm_B_tick s m ([.ref (ad 0)] : List Value).toArray below meth c H locs 0 0 (MQ below (va_Qv (fun (_ : Unit) => True) (hk_B G w0 w1 s.heap.size) A) ([.ref (ad 0)] : List Value).toArray s 0 0 A) (F0 m 2 ls []) := by
  subst hw
  have hx := C.1
  have hb := C.2.1
  have hown := C.2.2.2.2.1
  have hts := C.2.2.2.2.2.1
  have hE := C.2.2.2.2.2.2.2
  refine lv_iload_n hx hb d_B_tick_2 rfl (lv_at hl 0 rfl) ?_
  refine lv_iconst (v := (2 : Int32)) hx hb d_B_tick_3 (by decide) ?_
  refine lv_icmp_ge (tgt := 32) hx hb d_B_tick_4 (by decide) (fun c_1 => ?_) (fun c_1 => absurd (by decide) c_1)
  have e : g_B_tick_2_2 u = (g_B_tick_32_2 u) := rfl
  exact tl_B_tick_32_2 G ad u hI C hAe hA hP hD hS (lv_sub hl [0, 1] rfl) (by rw [e])
set_option maxHeartbeats 4000000 in
set_option maxRecDepth 100000 in
theorem tl_B_tick_2_1 {p : Program} {l : Launch} {e : Env} {s : State} {m : MethodId} {below : List Frame} {meth : Method} {c : Code} {A : Nat → Prop} {H : Heap} {locs : List Loc} {ls : Array Slot} {w0 w1 : va_W} (G : hk_G) (ad : Nat → Nat) (u : cB) (hI : Iv u) (C : hk_C p s m meth c R_B b_B_tick 2 none ([.ref (ad 0)] : List Value).toArray G) (hAe : va_A w0 s.heap.size = A) (hA : ∀ q : Nat, s.heap.size ≤ q → A q) (hP : va_P (hk_D G) classes (wB G ad u) H) (hD : va_D A (wB G ad u)) (hS : va_S A s.heap H locs) (hl : lv_has ls 2 [(1, .int (1 : Int32)), (0, .ref (ad 0))]) (hw : w1 = wB G ad (g_B_tick_2_1 u)) : W p l e rm_B_tick s m ([.ref (ad 0)] : List Value).toArray below meth c H locs 0 0 (MQ below (va_Qv (fun (_ : Unit) => True) (hk_B G w0 w1 s.heap.size) A) ([.ref (ad 0)] : List Value).toArray s 0 0 A) (F0 m 2 ls []) := by
  subst hw
  have hx := C.1
  have hb := C.2.1
  have hown := C.2.2.2.2.1
  have hts := C.2.2.2.2.2.1
  have hE := C.2.2.2.2.2.2.2
  refine lv_iload_n hx hb d_B_tick_2 rfl (lv_at hl 0 rfl) ?_
  refine lv_iconst (v := (2 : Int32)) hx hb d_B_tick_3 (by decide) ?_
  refine lv_icmp_ge (tgt := 32) hx hb d_B_tick_4 (by decide) (fun c_1 => absurd c_1 (by decide)) (fun c_1 => ?_)
  refine lv_aload_n hx hb d_B_tick_7 rfl (lv_at hl 1 rfl) ?_
  refine hk_get (v := .ref (ad 4)) C hP 0 4 3 i_B rfl rfl (by decide) (hk_in (by decide +kernel) rfl) rfl d_B_tick_8 ?_
  refine lv_iload_n hx hb d_B_tick_11 rfl (lv_at hl 0 rfl) ?_
  refine hk_ald C hP 4 2 (v := (ad 6)) rfl rfl (hk_inl (by decide)) rfl d_B_tick_12 ?_
  refine lv_aload_n hx hb d_B_tick_13 rfl (lv_at hl 1 rfl) ?_
  refine lv_iload_n hx hb d_B_tick_14 rfl (lv_at hl 0 rfl) ?_
  refine hk_goI (hk_kV (k := 1) (As := [.int (1 : Int32)]) (rest := [.ref (ad 6)]) C (c_B_turnBulbIsOut l G ad u (1 : Int32) hI (Or.inr rfl) _) Y_B_turnBulbIsOut (hk_in (by decide +kernel) rfl) rfl rfl ⟨Nat.le_of_ble_eq_true rfl, Nat.le_of_ble_eq_true rfl⟩ (va_recv hE.1 hP (ci := 4) (q0 := 0) rfl rfl) hP hD rfl hl.1 rfl (Nat.le_of_ble_eq_true rfl) d_B_tick_15 ⟨Nat.zero_le _, Nat.zero_le _⟩) hD hS hA (fun H locs hP hD hS => ?_)
  refine lv_aload_n hx hb d_B_tick_18 rfl (lv_at hl 1 rfl) ?_
  refine lv_iload_n hx hb d_B_tick_19 rfl (lv_at hl 0 rfl) ?_
  refine hk_goI (hk_kV (k := 1) (As := [.int (1 : Int32)]) (rest := [.int (m_B_turnBulbIsOut (1 : Int32) u), .ref (ad 6)]) C (c_B_isWanted l G ad u (1 : Int32) hI _) Y_B_isWanted (hk_in (by decide +kernel) rfl) rfl rfl ⟨Nat.le_of_ble_eq_true rfl, Nat.le_of_ble_eq_true rfl⟩ (va_recv hE.1 hP (ci := 4) (q0 := 0) rfl rfl) hP hD rfl hl.1 rfl (Nat.le_of_ble_eq_true rfl) d_B_tick_20 ⟨Nat.zero_le _, Nat.zero_le _⟩) hD hS hA (fun H locs hP hD hS => ?_)
  refine hk_goV1 6 (w2 := wB G ad (f_B_tick_23_1 u)) (hk_kN (host := "BodyRows2") (k := 2) (As := [.int (m_B_turnBulbIsOut (1 : Int32) u), .int (m_B_isWanted (1 : Int32) u)]) (rest := []) C (c_Side_tick l G (ad 6) (b3 u 1) (m_B_turnBulbIsOut (1 : Int32) u) (m_B_isWanted (1 : Int32) u) _) Y_Side_tick (by decide +kernel) rfl rfl ⟨Nat.le_of_ble_eq_true rfl, Nat.le_of_ble_eq_true rfl⟩ (va_recv hE.1 hP (ci := 0) (q0 := 6) rfl rfl) (hP.sub (ws' := (wS (ad 6) (b3 u 1))) [6] rfl) (hD.sub (ws' := (wS (ad 6) (b3 u 1))) [6] (by decide) rfl) rfl hl.1 rfl (Nat.le_of_ble_eq_true rfl) d_B_tick_23 ⟨Nat.zero_le _, Nat.zero_le _⟩) hP hD hS hA rfl rfl (fun H locs hP hD hS => ?_)
  have hI1 : Iv (f_B_tick_23_1 u) := (Iv_of (k2_f_B_tick_23_1 _) (k6_f_B_tick_23_1 _) hI)
  generalize hU1 : (f_B_tick_23_1 u) = U1 at hP hD hI1
  refine lv_iinc (v := (2 : Int32)) (lv' := [(1, .int (2 : Int32)), (0, .ref (ad 0))]) hx hb d_B_tick_26 hl (k := 0) rfl (by decide) (by decide) rfl (fun ls hl => ?_)
  refine lv_goto (tgt := 2) hx hb d_B_tick_29 (by decide) ?_
  subst hU1
  have e : g_B_tick_2_1 u = (g_B_tick_2_2 (f_B_tick_23_1 u)) := rfl
  exact tl_B_tick_2_2 G ad (f_B_tick_23_1 u) hI1 C hAe hA hP hD hS (lv_sub hl [0, 1] rfl) (by rw [e])
set_option maxHeartbeats 4000000 in
set_option maxRecDepth 100000 in
theorem tl_B_tick_2_0 {p : Program} {l : Launch} {e : Env} {s : State} {m : MethodId} {below : List Frame} {meth : Method} {c : Code} {A : Nat → Prop} {H : Heap} {locs : List Loc} {ls : Array Slot} {w0 w1 : va_W} (G : hk_G) (ad : Nat → Nat) (u : cB) (hI : Iv u) (C : hk_C p s m meth c R_B b_B_tick 2 none ([.ref (ad 0)] : List Value).toArray G) (hAe : va_A w0 s.heap.size = A) (hA : ∀ q : Nat, s.heap.size ≤ q → A q) (hP : va_P (hk_D G) classes (wB G ad u) H) (hD : va_D A (wB G ad u)) (hS : va_S A s.heap H locs) (hl : lv_has ls 2 [(1, .int (0 : Int32)), (0, .ref (ad 0))]) (hw : w1 = wB G ad (g_B_tick_2_0 u)) : W p l e rm_B_tick s m ([.ref (ad 0)] : List Value).toArray below meth c H locs 0 0 (MQ below (va_Qv (fun (_ : Unit) => True) (hk_B G w0 w1 s.heap.size) A) ([.ref (ad 0)] : List Value).toArray s 0 0 A) (F0 m 2 ls []) := by
  subst hw
  have hx := C.1
  have hb := C.2.1
  have hown := C.2.2.2.2.1
  have hts := C.2.2.2.2.2.1
  have hE := C.2.2.2.2.2.2.2
  refine lv_iload_n hx hb d_B_tick_2 rfl (lv_at hl 0 rfl) ?_
  refine lv_iconst (v := (2 : Int32)) hx hb d_B_tick_3 (by decide) ?_
  refine lv_icmp_ge (tgt := 32) hx hb d_B_tick_4 (by decide) (fun c_1 => absurd c_1 (by decide)) (fun c_1 => ?_)
  refine lv_aload_n hx hb d_B_tick_7 rfl (lv_at hl 1 rfl) ?_
  refine hk_get (v := .ref (ad 4)) C hP 0 4 3 i_B rfl rfl (by decide) (hk_in (by decide +kernel) rfl) rfl d_B_tick_8 ?_
  refine lv_iload_n hx hb d_B_tick_11 rfl (lv_at hl 0 rfl) ?_
  refine hk_ald C hP 4 2 (v := (ad 5)) rfl rfl (hk_inl (by decide)) rfl d_B_tick_12 ?_
  refine lv_aload_n hx hb d_B_tick_13 rfl (lv_at hl 1 rfl) ?_
  refine lv_iload_n hx hb d_B_tick_14 rfl (lv_at hl 0 rfl) ?_
  refine hk_goI (hk_kV (k := 1) (As := [.int (0 : Int32)]) (rest := [.ref (ad 5)]) C (c_B_turnBulbIsOut l G ad u (0 : Int32) hI (Or.inl rfl) _) Y_B_turnBulbIsOut (hk_in (by decide +kernel) rfl) rfl rfl ⟨Nat.le_of_ble_eq_true rfl, Nat.le_of_ble_eq_true rfl⟩ (va_recv hE.1 hP (ci := 4) (q0 := 0) rfl rfl) hP hD rfl hl.1 rfl (Nat.le_of_ble_eq_true rfl) d_B_tick_15 ⟨Nat.zero_le _, Nat.zero_le _⟩) hD hS hA (fun H locs hP hD hS => ?_)
  refine lv_aload_n hx hb d_B_tick_18 rfl (lv_at hl 1 rfl) ?_
  refine lv_iload_n hx hb d_B_tick_19 rfl (lv_at hl 0 rfl) ?_
  refine hk_goI (hk_kV (k := 1) (As := [.int (0 : Int32)]) (rest := [.int (m_B_turnBulbIsOut (0 : Int32) u), .ref (ad 5)]) C (c_B_isWanted l G ad u (0 : Int32) hI _) Y_B_isWanted (hk_in (by decide +kernel) rfl) rfl rfl ⟨Nat.le_of_ble_eq_true rfl, Nat.le_of_ble_eq_true rfl⟩ (va_recv hE.1 hP (ci := 4) (q0 := 0) rfl rfl) hP hD rfl hl.1 rfl (Nat.le_of_ble_eq_true rfl) d_B_tick_20 ⟨Nat.zero_le _, Nat.zero_le _⟩) hD hS hA (fun H locs hP hD hS => ?_)
  refine hk_goV1 5 (w2 := wB G ad (f_B_tick_23 u)) (hk_kN (host := "BodyRows2") (k := 2) (As := [.int (m_B_turnBulbIsOut (0 : Int32) u), .int (m_B_isWanted (0 : Int32) u)]) (rest := []) C (c_Side_tick l G (ad 5) (b3 u 0) (m_B_turnBulbIsOut (0 : Int32) u) (m_B_isWanted (0 : Int32) u) _) Y_Side_tick (by decide +kernel) rfl rfl ⟨Nat.le_of_ble_eq_true rfl, Nat.le_of_ble_eq_true rfl⟩ (va_recv hE.1 hP (ci := 0) (q0 := 5) rfl rfl) (hP.sub (ws' := (wS (ad 5) (b3 u 0))) [5] rfl) (hD.sub (ws' := (wS (ad 5) (b3 u 0))) [5] (by decide) rfl) rfl hl.1 rfl (Nat.le_of_ble_eq_true rfl) d_B_tick_23 ⟨Nat.zero_le _, Nat.zero_le _⟩) hP hD hS hA rfl rfl (fun H locs hP hD hS => ?_)
  have hI1 : Iv (f_B_tick_23 u) := (Iv_of (k2_f_B_tick_23 _) (k6_f_B_tick_23 _) hI)
  generalize hU1 : (f_B_tick_23 u) = U1 at hP hD hI1
  refine lv_iinc (v := (1 : Int32)) (lv' := [(1, .int (1 : Int32)), (0, .ref (ad 0))]) hx hb d_B_tick_26 hl (k := 0) rfl (by decide) (by decide) rfl (fun ls hl => ?_)
  refine lv_goto (tgt := 2) hx hb d_B_tick_29 (by decide) ?_
  subst hU1
  have e : g_B_tick_2_0 u = (g_B_tick_2_1 (f_B_tick_23 u)) := rfl
  exact tl_B_tick_2_1 G ad (f_B_tick_23 u) hI1 C hAe hA hP hD hS (lv_sub hl [0, 1] rfl) (by rw [e])
set_option maxHeartbeats 4000000 in
set_option maxRecDepth 100000 in
theorem c_B_tick (l : Launch) (G : hk_G) (ad : Nat → Nat) (u : cB) (hI : Iv u) : hk_V l G y_B_tick b_B_tick 2 rm_B_tick [.ref (ad 0)] (wB G ad u) (wB G ad (m_B_tick u)) := by
  refine hk_V_of (by decide) (Nat.le_of_ble_eq_true rfl) ?_
  intro p e s m below meth c A ls C hAe hA hP hD hS hl
  have hx := C.1
  have hb := C.2.1
  have hown := C.2.2.2.2.1
  have hts := C.2.2.2.2.2.1
  have hE := C.2.2.2.2.2.2.2
  have hl : lv_has ls 2 [(0, .ref (ad 0))] := hl
  refine lv_iconst (v := (0 : Int32)) hx hb d_B_tick_0 (by decide) ?_
  refine lv_istore_n (lv' := [(1, .int (0 : Int32)), (0, .ref (ad 0))]) hx hb d_B_tick_1 rfl hl (by decide) rfl (fun ls hl => ?_)
  have e : m_B_tick u = (g_B_tick_2_0 u) := rfl
  exact tl_B_tick_2_0 G ad u hI C hAe hA hP hD hS (lv_sub hl [0, 1] rfl) (by rw [e])
end
section
theorem Y_B_input : hk_Y y_B_input b_B_input 3 (some .int) 2 := ⟨hk_in (by decide +kernel) rfl, hk_in (by decide +kernel) rfl, hk_in (by decide +kernel) rfl, hk_in (List.mem_of_getElem? (i := 204) rfl) rfl, by decide, by decide, by decide +kernel⟩
abbrev rm_B_input : Room := { frames := 5, cells := 0, slots := 0, locals := 105 }
set_option maxHeartbeats 4000000 in
set_option maxRecDepth 100000 in
theorem tl_B_input_67 {p : Program} {l : Launch} {e : Env} {s : State} {m : MethodId} {below : List Frame} {meth : Method} {c : Code} {A : Nat → Prop} {H : Heap} {locs : List Loc} {ls : Array Slot} {w0 w1 : va_W} {r : Int32} (G : hk_G) (ad : Nat → Nat) (u : cB) (p1 : Int32) (p2 : Int32) (hI : Iv u) (C : hk_C p s m meth c R_B b_B_input 3 (some .int) ([.ref (ad 0), .int p1, .int p2] : List Value).toArray G) (hAe : va_A w0 s.heap.size = A) (hA : ∀ q : Nat, s.heap.size ≤ q → A q) (hP : va_P (hk_D G) classes (wB G ad u) H) (hD : va_D A (wB G ad u)) (hS : va_S A s.heap H locs) (hl : lv_has ls 3 [(0, .ref (ad 0)), (1, .int p1), (2, .int p2)]) (hr : r = (g_B_input_67 p1 p2 u).1) (hw : w1 = wB G ad ((g_B_input_67 p1 p2 u).2)) : W p l e rm_B_input s m ([.ref (ad 0), .int p1, .int p2] : List Value).toArray below meth c H locs 0 0 (MQ below (va_Qi (fun (x : Int32) (_ : Unit) => x = r) (hk_B G w0 w1 s.heap.size) A) ([.ref (ad 0), .int p1, .int p2] : List Value).toArray s 0 0 A) (F0 m 67 ls []) := by
  subst hr
  subst hw
  have hx := C.1
  have hb := C.2.1
  have hown := C.2.2.2.2.1
  have hts := C.2.2.2.2.2.1
  have hE := C.2.2.2.2.2.2.2
  refine lv_aload_n hx hb d_B_input_67 rfl (lv_at hl 0 rfl) ?_
  refine hk_goI (hk_kV (k := 0) (As := []) (rest := []) C (c_B_countChangedOutputs l G ad u hI _) Y_B_countChangedOutputs (hk_in (by decide +kernel) rfl) rfl rfl ⟨Nat.le_of_ble_eq_true rfl, Nat.le_of_ble_eq_true rfl⟩ (va_recv hE.1 hP (ci := 4) (q0 := 0) rfl rfl) hP hD rfl hl.1 rfl (Nat.le_of_ble_eq_true rfl) d_B_input_68 ⟨Nat.zero_le _, Nat.zero_le _⟩) hD hS hA (fun H locs hP hD hS => ?_)
  have e : g_B_input_67 p1 p2 u = (m_B_countChangedOutputs u, u) := rfl
  exact hk_ri C hAe hP hD hS (by rw [e]) (by rw [e]) d_B_input_71
set_option maxHeartbeats 4000000 in
set_option maxRecDepth 100000 in
theorem tl_B_input_47 {p : Program} {l : Launch} {e : Env} {s : State} {m : MethodId} {below : List Frame} {meth : Method} {c : Code} {A : Nat → Prop} {H : Heap} {locs : List Loc} {ls : Array Slot} {w0 w1 : va_W} {r : Int32} (G : hk_G) (ad : Nat → Nat) (u : cB) (p1 : Int32) (p2 : Int32) (hI : Iv u) (C : hk_C p s m meth c R_B b_B_input 3 (some .int) ([.ref (ad 0), .int p1, .int p2] : List Value).toArray G) (hAe : va_A w0 s.heap.size = A) (hA : ∀ q : Nat, s.heap.size ≤ q → A q) (hP : va_P (hk_D G) classes (wB G ad u) H) (hD : va_D A (wB G ad u)) (hS : va_S A s.heap H locs) (hl : lv_has ls 3 [(0, .ref (ad 0)), (1, .int p1), (2, .int p2)]) (hr : r = (g_B_input_47 p1 p2 u).1) (hw : w1 = wB G ad ((g_B_input_47 p1 p2 u).2)) : W p l e rm_B_input s m ([.ref (ad 0), .int p1, .int p2] : List Value).toArray below meth c H locs 0 0 (MQ below (va_Qi (fun (x : Int32) (_ : Unit) => x = r) (hk_B G w0 w1 s.heap.size) A) ([.ref (ad 0), .int p1, .int p2] : List Value).toArray s 0 0 A) (F0 m 47 ls []) := by
  subst hr
  subst hw
  have hx := C.1
  have hb := C.2.1
  have hown := C.2.2.2.2.1
  have hts := C.2.2.2.2.2.1
  have hE := C.2.2.2.2.2.2.2
  refine lv_aload_n hx hb d_B_input_47 rfl (lv_at hl 0 rfl) ?_
  refine hk_goV (hk_kV (k := 0) (As := []) (rest := []) C (c_B_beginWantedSides l G ad u hI _) Y_B_beginWantedSides (hk_in (by decide +kernel) rfl) rfl rfl ⟨Nat.le_of_ble_eq_true rfl, Nat.le_of_ble_eq_true rfl⟩ (va_recv hE.1 hP (ci := 4) (q0 := 0) rfl rfl) hP hD rfl hl.1 rfl (Nat.le_of_ble_eq_true rfl) d_B_input_48 ⟨Nat.zero_le _, Nat.zero_le _⟩) hD hS hA (fun H locs hP hD hS => ?_)
  have hI1 : Iv (m_B_beginWantedSides u) := (km_B_beginWantedSides hI)
  generalize hU1 : (m_B_beginWantedSides u) = U1 at hP hD hI1
  refine lv_iload_n hx hb d_B_input_51 rfl (lv_at hl 1 rfl) ?_
  refine lv_iconst (v := (2 : Int32)) hx hb d_B_input_52 (by decide) ?_
  refine lv_icmp_ne (tgt := 67) hx hb d_B_input_53 (by decide) (fun c_1 => ?_) (fun c_1 => ?_)
  · skip
    subst hU1
    have e : g_B_input_47 p1 p2 u = (g_B_input_67 p1 p2 (m_B_beginWantedSides u)) := (if_neg c_1).trans (rfl)
    exact tl_B_input_67 G ad (m_B_beginWantedSides u) p1 p2 hI1 C hAe hA hP hD hS (lv_sub hl [0, 1, 2] rfl) (by rw [e]) (by rw [e])
  · skip
    refine lv_iload_n hx hb d_B_input_56 rfl (lv_at hl 2 rfl) ?_
    refine lv_if_eq (tgt := 67) hx hb d_B_input_57 (by decide) (fun c_2 => ?_) (fun c_2 => ?_)
    · skip
      subst hU1
      have e : g_B_input_47 p1 p2 u = (g_B_input_67 p1 p2 (m_B_beginWantedSides u)) := (if_pos c_1).trans ((if_pos c_2).trans (rfl))
      exact tl_B_input_67 G ad (m_B_beginWantedSides u) p1 p2 hI1 C hAe hA hP hD hS (lv_sub hl [0, 1, 2] rfl) (by rw [e]) (by rw [e])
    · skip
      refine lv_aload_n hx hb d_B_input_60 rfl (lv_at hl 0 rfl) ?_
      refine lv_iconst (v := (2 : Int32)) hx hb d_B_input_61 (by decide) ?_
      refine lv_iload_n hx hb d_B_input_62 rfl (lv_at hl 2 rfl) ?_
      refine lv_isub hx hb d_B_input_63 ?_
      refine hk_goV (hk_kV (k := 1) (As := [.int ((2 : Int32) - p2)]) (rest := []) C (c_B_endUnwantedSide l G ad U1 ((2 : Int32) - p2) hI1 _) Y_B_endUnwantedSide (hk_in (by decide +kernel) rfl) rfl rfl ⟨Nat.le_of_ble_eq_true rfl, Nat.le_of_ble_eq_true rfl⟩ (va_recv hE.1 hP (ci := 4) (q0 := 0) rfl rfl) hP hD rfl hl.1 rfl (Nat.le_of_ble_eq_true rfl) d_B_input_64 ⟨Nat.zero_le _, Nat.zero_le _⟩) hD hS hA (fun H locs hP hD hS => ?_)
      have hI2 : Iv (m_B_endUnwantedSide ((2 : Int32) - p2) U1) := (km_B_endUnwantedSide hI1)
      generalize hU2 : (m_B_endUnwantedSide ((2 : Int32) - p2) U1) = U2 at hP hD hI2
      subst hU1 hU2
      have e : g_B_input_47 p1 p2 u = (g_B_input_67 p1 p2 (m_B_endUnwantedSide ((2 : Int32) - p2) (m_B_beginWantedSides u))) := (if_pos c_1).trans ((if_neg c_2).trans (rfl))
      exact tl_B_input_67 G ad (m_B_endUnwantedSide ((2 : Int32) - p2) (m_B_beginWantedSides u)) p1 p2 hI2 C hAe hA hP hD hS (lv_sub hl [0, 1, 2] rfl) (by rw [e]) (by rw [e])
set_option maxHeartbeats 4000000 in
set_option maxRecDepth 100000 in
theorem c_B_input (l : Launch) (G : hk_G) (tz : Nat) (ad : Nat → Nat) (u : cB) (p1 : Int32) (p2 : Int32) (hI : Iv u) : hk_IZ l G y_B_input b_B_input 3 (some .int) rm_B_input [.ref (ad 0), .int p1, .int p2] (wB G ad u) ((m_B_input p1 p2 u).1) (wB G ad ((m_B_input p1 p2 u).2)) (hk_Z1 tz) := by
  refine hk_IZ_of (by decide) (Nat.le_of_ble_eq_true rfl) ?_
  intro p e s m below meth c A ls C hAe hA hP hD hS hl hZT
  have hx := C.1
  have hb := C.2.1
  have hown := C.2.2.2.2.1
  have hts := C.2.2.2.2.2.1
  have hE := C.2.2.2.2.2.2.2
  have hl : lv_has ls 3 [(0, .ref (ad 0)), (1, .int p1), (2, .int p2)] := hl
  have hZ1 := hZT.1
  have hT1 := hZT.2
  refine lv_iload_n hx hb d_B_input_0 rfl (lv_at hl 1 rfl) ?_
  refine lv_bipush (v := (9 : Int32)) hx hb d_B_input_1 (by decide) ?_
  refine hk_goIe (hk_kS (k := 2) (As := [.int p1, .int (9 : Int32)]) (rest := []) C (c_B_isBelow l G p1 (9 : Int32) _) Y_B_isBelow (hk_in (by decide +kernel) rfl) rfl rfl ⟨Nat.le_of_ble_eq_true rfl, Nat.le_of_ble_eq_true rfl⟩ hk_Pn (hk_Dn (A := A)) rfl hl.1 rfl (Nat.le_of_ble_eq_true rfl) d_B_input_3 ⟨Nat.zero_le _, Nat.zero_le _⟩) hP hS hA (fun H locs hP hS => ?_)
  refine lv_if_ne (tgt := 11) hx hb d_B_input_6 (by decide) (fun c_1 => ?_) (fun c_1 => ?_)
  · skip
    refine lv_iload_n hx hb d_B_input_11 rfl (lv_at hl 2 rfl) ?_
    refine va_gets hx hb hZ1 hS hown (hts _ (hk_in (by decide +kernel) rfl)) (fun _ h9 => h9) d_B_input_12 ?_
    refine lv_iload_n hx hb d_B_input_15 rfl (lv_at hl 1 rfl) ?_
    refine va_ti hx hb hT1 hS (v := .int (k_great p1.toNatClampNeg)) (hk_ib c_1 (N := 9) rfl) rfl d_B_input_16 ?_
    refine hk_goIe (hk_kS (k := 2) (As := [.int p2, .int (k_great p1.toNatClampNeg)]) (rest := []) C (c_B_isUpTo l G p2 (k_great p1.toNatClampNeg) _) Y_B_isUpTo (hk_in (by decide +kernel) rfl) rfl rfl ⟨Nat.le_of_ble_eq_true rfl, Nat.le_of_ble_eq_true rfl⟩ hk_Pn (hk_Dn (A := A)) rfl hl.1 rfl (Nat.le_of_ble_eq_true rfl) d_B_input_17 ⟨Nat.zero_le _, Nat.zero_le _⟩) hP hS hA (fun H locs hP hS => ?_)
    refine lv_if_ne (tgt := 26) hx hb d_B_input_20 (by decide) (fun c_2 => ?_) (fun c_2 => ?_)
    · skip
      refine lv_aload_n hx hb d_B_input_26 rfl (lv_at hl 0 rfl) ?_
      refine hk_goV (hk_kV (k := 0) (As := []) (rest := []) C (c_B_noteOutputs l G ad u hI _) Y_B_noteOutputs (hk_in (by decide +kernel) rfl) rfl rfl ⟨Nat.le_of_ble_eq_true rfl, Nat.le_of_ble_eq_true rfl⟩ (va_recv hE.1 hP (ci := 4) (q0 := 0) rfl rfl) hP hD rfl hl.1 rfl (Nat.le_of_ble_eq_true rfl) d_B_input_27 ⟨Nat.zero_le _, Nat.zero_le _⟩) hD hS hA (fun H locs hP hD hS => ?_)
      have hI1 : Iv (m_B_noteOutputs u) := (km_B_noteOutputs hI)
      generalize hU1 : (m_B_noteOutputs u) = U1 at hP hD hI1
      refine lv_aload_n hx hb d_B_input_30 rfl (lv_at hl 0 rfl) ?_
      refine hk_get (v := .ref (ad 1)) C hP 0 4 0 i_B rfl rfl (by decide) (hk_in (by decide +kernel) rfl) rfl d_B_input_31 ?_
      refine lv_iload_n hx hb d_B_input_34 rfl (lv_at hl 1 rfl) ?_
      refine lv_iload_n hx hb d_B_input_35 rfl (lv_at hl 2 rfl) ?_
      refine hk_ist (w2 := wB G ad (f_B_input_36 p1 p2 U1)) C hP hD hS 1 0 rfl rfl (by subst hU1; exact hk_ib c_1 (N := 9) rfl) rfl d_B_input_36 (fun H locs hP hD hS => ?_)
      have hI2 : Iv (f_B_input_36 p1 p2 U1) := (Iv_of (k2_f_B_input_36 _ _ _) (k6_f_B_input_36 _ _ _) hI1)
      generalize hU2 : (f_B_input_36 p1 p2 U1) = U2 at hP hD hI2
      refine lv_iload_n hx hb d_B_input_37 rfl (lv_at hl 1 rfl) ?_
      refine lv_iconst (v := (1 : Int32)) hx hb d_B_input_38 (by decide) ?_
      refine lv_icmp_ne (tgt := 47) hx hb d_B_input_39 (by decide) (fun c_3 => ?_) (fun c_3 => ?_)
      · skip
        subst hU1 hU2
        have e : m_B_input p1 p2 u = (g_B_input_47 p1 p2 (f_B_input_36 p1 p2 (m_B_noteOutputs u))) := (if_neg c_1).trans ((if_neg c_2).trans ((if_neg c_3).trans (rfl)))
        exact tl_B_input_47 G ad (f_B_input_36 p1 p2 (m_B_noteOutputs u)) p1 p2 hI2 C hAe hA hP hD hS (lv_sub hl [0, 1, 2] rfl) (by rw [e]) (by rw [e])
      · skip
        refine lv_aload_n hx hb d_B_input_42 rfl (lv_at hl 0 rfl) ?_
        refine lv_iload_n hx hb d_B_input_43 rfl (lv_at hl 2 rfl) ?_
        refine hk_goV (hk_kV (k := 1) (As := [.int p2]) (rest := []) C (c_B_followBrightness l G ad U2 p2 hI2 _) Y_B_followBrightness (hk_in (by decide +kernel) rfl) rfl rfl ⟨Nat.le_of_ble_eq_true rfl, Nat.le_of_ble_eq_true rfl⟩ (va_recv hE.1 hP (ci := 4) (q0 := 0) rfl rfl) hP hD rfl hl.1 rfl (Nat.le_of_ble_eq_true rfl) d_B_input_44 ⟨Nat.zero_le _, Nat.zero_le _⟩) hD hS hA (fun H locs hP hD hS => ?_)
        have hI3 : Iv (m_B_followBrightness p2 U2) := (km_B_followBrightness hI2)
        generalize hU3 : (m_B_followBrightness p2 U2) = U3 at hP hD hI3
        subst hU1 hU2 hU3
        have e : m_B_input p1 p2 u = (g_B_input_47 p1 p2 (m_B_followBrightness p2 (f_B_input_36 p1 p2 (m_B_noteOutputs u)))) := (if_neg c_1).trans ((if_neg c_2).trans ((if_pos c_3).trans (rfl)))
        exact tl_B_input_47 G ad (m_B_followBrightness p2 (f_B_input_36 p1 p2 (m_B_noteOutputs u))) p1 p2 hI3 C hAe hA hP hD hS (lv_sub hl [0, 1, 2] rfl) (by rw [e]) (by rw [e])
    · skip
      refine lv_bipush (v := (-2 : Int32)) hx hb d_B_input_23 (by decide) ?_
      have e : m_B_input p1 p2 u = ((-2 : Int32), u) := (if_neg c_1).trans ((if_pos c_2).trans (rfl))
      exact hk_ri C hAe hP hD hS (by rw [e]) (by rw [e]) d_B_input_25
  · skip
    refine lv_iconst (v := (-1 : Int32)) hx hb d_B_input_9 (by decide) ?_
    have e : m_B_input p1 p2 u = ((-1 : Int32), u) := (if_pos c_1).trans (rfl)
    exact hk_ri C hAe hP hD hS (by rw [e]) (by rw [e]) d_B_input_10
theorem Y_B_step : hk_Y y_B_step b_B_step 3 (some .int) 1 := ⟨hk_in (by decide +kernel) rfl, hk_in (by decide +kernel) rfl, hk_in (by decide +kernel) rfl, hk_in (List.mem_of_getElem? (i := 278) rfl) rfl, by decide, by decide, by decide +kernel⟩
abbrev rm_B_step : Room := { frames := 5, cells := 0, slots := 0, locals := 105 }
set_option maxHeartbeats 4000000 in
set_option maxRecDepth 100000 in
theorem lp_B_step_19 {p : Program} {l : Launch} {e : Env} {s : State} {m : MethodId} {below : List Frame} {meth : Method} {c : Code} {A : Nat → Prop} {Q : State → Prop} (G : hk_G) (ad : Nat → Nat) (u : cB) (p1 : Int32) (hI : Iv u) (C : hk_C p s m meth c R_B b_B_step 3 (some .int) ([.ref (ad 0), .int p1] : List Value).toArray G) (hA : ∀ q : Nat, s.heap.size ≤ q → A q) (n : Nat) (hn : n < 2 ^ 31) (hbn : p1 = nI n)
    (kx : ∀ (H : Heap) (locs : List Loc) (ls : Array Slot), va_P (hk_D G) classes (wB G ad (li_B_step_19 p1 u n)) H → va_D A (wB G ad (li_B_step_19 p1 u n)) → va_S A s.heap H locs → lv_has ls 3 [(0, .ref (ad 0)), (1, .int p1), (2, .int (nI n))] → W p l e rm_B_step s m ([.ref (ad 0), .int p1] : List Value).toArray below meth c H locs 0 0 Q (F0 m 34 ls [])) :
    ∀ (j k : Nat), k ≤ n → n + 1 ≤ k + j → ∀ (H : Heap) (locs : List Loc) (ls : Array Slot), va_P (hk_D G) classes (wB G ad (li_B_step_19 p1 u k)) H → va_D A (wB G ad (li_B_step_19 p1 u k)) → va_S A s.heap H locs → lv_has ls 3 [(0, .ref (ad 0)), (1, .int p1), (2, .int (nI k))] → W p l e rm_B_step s m ([.ref (ad 0), .int p1] : List Value).toArray below meth c H locs 0 0 Q (F0 m 19 ls []) := by
  have hx := C.1
  have hb := C.2.1
  have hown := C.2.2.2.2.1
  have hts := C.2.2.2.2.2.1
  have hE := C.2.2.2.2.2.2.2
  intro j
  induction j with
  | zero =>
    intro k h1 h2
    exact absurd h2 (by omega)
  | succ j ih =>
    intro k hkn hj H locs ls hP hD hS hl
    refine lv_iload_n hx hb d_B_step_19 rfl (lv_at hl 2 rfl) ?_
    refine lv_iload_n hx hb d_B_step_20 rfl (lv_at hl 1 rfl) ?_
    refine lv_icmp_ge (tgt := 34) hx hb d_B_step_21 (by decide) (fun c_0 => ?_) (fun c_0 => ?_)
    · obtain rfl := hk_exit (n := n) hbn hn hkn c_0
      exact kx H locs ls hP hD hS (lv_sub hl [0, 1, 2] rfl)
    · have hlt := hk_stay (n := n) hbn hn hkn c_0
      refine lv_aload_n hx hb d_B_step_24 rfl (lv_at hl 0 rfl) ?_
      refine hk_goV (hk_kV (k := 0) (As := []) (rest := []) C (c_B_tick l G ad (li_B_step_19 p1 u k) (iv_step p1 hI k) _) Y_B_tick (hk_in (by decide +kernel) rfl) rfl rfl ⟨Nat.le_of_ble_eq_true rfl, Nat.le_of_ble_eq_true rfl⟩ (va_recv hE.1 hP (ci := 4) (q0 := 0) rfl rfl) hP hD rfl hl.1 rfl (Nat.le_of_ble_eq_true rfl) d_B_step_25 ⟨Nat.zero_le _, Nat.zero_le _⟩) hD hS hA (fun H locs hP hD hS => ?_)
      have hI1 : Iv (m_B_tick (li_B_step_19 p1 u k)) := (km_B_tick (iv_step p1 hI k))
      generalize hU1 : (m_B_tick (li_B_step_19 p1 u k)) = U1 at hP hD hI1
      refine lv_iinc (v := nI (k + 1)) (lv' := [(2, .int (nI (k + 1))), (0, .ref (ad 0)), (1, .int p1)]) hx hb d_B_step_28 hl (k := 2) rfl (nI_1 k) (by decide) rfl (fun ls hl => ?_)
      refine lv_goto (tgt := 19) hx hb d_B_step_31 (by decide) ?_
      subst hU1
      have e : li_B_step_19 p1 u (k + 1) = (m_B_tick (li_B_step_19 p1 u k)) := rfl
      exact ih (k + 1) hlt (by omega) _ _ _ (by rw [e]; exact hP) (by rw [e]; exact hD) hS (lv_sub hl [1, 2, 0] rfl)
set_option maxHeartbeats 4000000 in
set_option maxRecDepth 100000 in
theorem c_B_step (l : Launch) (G : hk_G) (ad : Nat → Nat) (u : cB) (p1 : Int32) (hI : Iv u) : hk_I l G y_B_step b_B_step 3 (some .int) rm_B_step [.ref (ad 0), .int p1] (wB G ad u) ((m_B_step p1 u).1) (wB G ad ((m_B_step p1 u).2)) := by
  refine hk_I_of (by decide) (Nat.le_of_ble_eq_true rfl) ?_
  intro p e s m below meth c A ls C hAe hA hP hD hS hl
  have hx := C.1
  have hb := C.2.1
  have hown := C.2.2.2.2.1
  have hts := C.2.2.2.2.2.1
  have hE := C.2.2.2.2.2.2.2
  have hl : lv_has ls 3 [(0, .ref (ad 0)), (1, .int p1)] := hl
  refine lv_iload_n hx hb d_B_step_0 rfl (lv_at hl 1 rfl) ?_
  refine lv_sipush (v := (1000 : Int32)) hx hb d_B_step_1 (by decide) ?_
  refine hk_goIe (hk_kS (k := 2) (As := [.int p1, .int (1000 : Int32)]) (rest := []) C (c_B_isUpTo l G p1 (1000 : Int32) _) Y_B_isUpTo (hk_in (by decide +kernel) rfl) rfl rfl ⟨Nat.le_of_ble_eq_true rfl, Nat.le_of_ble_eq_true rfl⟩ hk_Pn (hk_Dn (A := A)) rfl hl.1 rfl (Nat.le_of_ble_eq_true rfl) d_B_step_4 ⟨Nat.zero_le _, Nat.zero_le _⟩) hP hS hA (fun H locs hP hS => ?_)
  refine lv_if_ne (tgt := 13) hx hb d_B_step_7 (by decide) (fun c_1 => ?_) (fun c_1 => ?_)
  · skip
    refine lv_aload_n hx hb d_B_step_13 rfl (lv_at hl 0 rfl) ?_
    refine hk_goV (hk_kV (k := 0) (As := []) (rest := []) C (c_B_noteOutputs l G ad u hI _) Y_B_noteOutputs (hk_in (by decide +kernel) rfl) rfl rfl ⟨Nat.le_of_ble_eq_true rfl, Nat.le_of_ble_eq_true rfl⟩ (va_recv hE.1 hP (ci := 4) (q0 := 0) rfl rfl) hP hD rfl hl.1 rfl (Nat.le_of_ble_eq_true rfl) d_B_step_14 ⟨Nat.zero_le _, Nat.zero_le _⟩) hD hS hA (fun H locs hP hD hS => ?_)
    have hI1 : Iv (m_B_noteOutputs u) := (km_B_noteOutputs hI)
    generalize hU1 : (m_B_noteOutputs u) = U1 at hP hD hI1
    refine lv_iconst (v := (0 : Int32)) hx hb d_B_step_17 (by decide) ?_
    refine lv_istore_n (lv' := [(2, .int (0 : Int32)), (0, .ref (ad 0)), (1, .int p1)]) hx hb d_B_step_18 rfl hl (by decide) rfl (fun ls hl => ?_)
    refine lp_B_step_19 G ad U1 p1 hI1 C hA p1.toNatClampNeg (hk_u c_1 (N := 1000) (by decide) (by decide)).1 (hk_u c_1 (N := 1000) (by decide) (by decide)).2 (fun H locs ls hP hD hS hl => ?_) (p1.toNatClampNeg + 1) 0 (Nat.zero_le _) (by omega) _ _ _ hP hD hS (lv_sub hl [1, 2, 0] rfl)
    refine lv_aload_n hx hb d_B_step_34 rfl (lv_at hl 0 rfl) ?_
    refine hk_goI (hk_kV (k := 0) (As := []) (rest := []) C (c_B_countChangedOutputs l G ad (li_B_step_19 p1 U1 p1.toNatClampNeg) (iv_step p1 hI1 p1.toNatClampNeg) _) Y_B_countChangedOutputs (hk_in (by decide +kernel) rfl) rfl rfl ⟨Nat.le_of_ble_eq_true rfl, Nat.le_of_ble_eq_true rfl⟩ (va_recv hE.1 hP (ci := 4) (q0 := 0) rfl rfl) hP hD rfl hl.1 rfl (Nat.le_of_ble_eq_true rfl) d_B_step_35 ⟨Nat.zero_le _, Nat.zero_le _⟩) hD hS hA (fun H locs hP hD hS => ?_)
    subst hU1
    have e : m_B_step p1 u = (m_B_countChangedOutputs (li_B_step_19 p1 (m_B_noteOutputs u) p1.toNatClampNeg), (li_B_step_19 p1 (m_B_noteOutputs u) p1.toNatClampNeg)) := (if_neg c_1).trans (rfl)
    exact hk_ri C hAe hP hD hS (by rw [e]) (by rw [e]) d_B_step_38
  · skip
    refine lv_bipush (v := (-2 : Int32)) hx hb d_B_step_10 (by decide) ?_
    have e : m_B_step p1 u = ((-2 : Int32), u) := (if_pos c_1).trans (rfl)
    exact hk_ri C hAe hP hD hS (by rw [e]) (by rw [e]) d_B_step_12
theorem Y_B_pinch : hk_Y y_B_pinch b_B_pinch 3 (some .int) 2 := ⟨hk_in (by decide +kernel) rfl, hk_in (by decide +kernel) rfl, hk_in (by decide +kernel) rfl, hk_in (List.mem_of_getElem? (i := 331) rfl) rfl, by decide, by decide, by decide +kernel⟩
abbrev rm_B_pinch : Room := { frames := 2, cells := 0, slots := 0, locals := 42 }
set_option maxHeartbeats 4000000 in
set_option maxRecDepth 100000 in
theorem c_B_pinch (l : Launch) (G : hk_G) (ad : Nat → Nat) (u : cB) (p1 : Int32) (p2 : Int32) (hI : Iv u) : hk_I l G y_B_pinch b_B_pinch 3 (some .int) rm_B_pinch [.ref (ad 0), .int p1, .int p2] (wB G ad u) ((m_B_pinch p1 p2 u).1) (wB G ad ((m_B_pinch p1 p2 u).2)) := by
  refine hk_I_of (by decide) (Nat.le_of_ble_eq_true rfl) ?_
  intro p e s m below meth c A ls C hAe hA hP hD hS hl
  have hx := C.1
  have hb := C.2.1
  have hown := C.2.2.2.2.1
  have hts := C.2.2.2.2.2.1
  have hE := C.2.2.2.2.2.2.2
  have hl : lv_has ls 3 [(0, .ref (ad 0)), (1, .int p1), (2, .int p2)] := hl
  refine lv_iload_n hx hb d_B_pinch_0 rfl (lv_at hl 1 rfl) ?_
  refine lv_iconst (v := (4 : Int32)) hx hb d_B_pinch_1 (by decide) ?_
  refine hk_goIe (hk_kS (k := 2) (As := [.int p1, .int (4 : Int32)]) (rest := []) C (c_B_isBelow l G p1 (4 : Int32) _) Y_B_isBelow (hk_in (by decide +kernel) rfl) rfl rfl ⟨Nat.le_of_ble_eq_true rfl, Nat.le_of_ble_eq_true rfl⟩ hk_Pn (hk_Dn (A := A)) rfl hl.1 rfl (Nat.le_of_ble_eq_true rfl) d_B_pinch_2 ⟨Nat.zero_le _, Nat.zero_le _⟩) hP hS hA (fun H locs hP hS => ?_)
  refine lv_if_ne (tgt := 10) hx hb d_B_pinch_5 (by decide) (fun c_1 => ?_) (fun c_1 => ?_)
  · skip
    refine lv_iload_n hx hb d_B_pinch_10 rfl (lv_at hl 2 rfl) ?_
    refine lv_sipush (v := (1000 : Int32)) hx hb d_B_pinch_11 (by decide) ?_
    refine hk_goIe (hk_kS (k := 2) (As := [.int p2, .int (1000 : Int32)]) (rest := []) C (c_B_isUpTo l G p2 (1000 : Int32) _) Y_B_isUpTo (hk_in (by decide +kernel) rfl) rfl rfl ⟨Nat.le_of_ble_eq_true rfl, Nat.le_of_ble_eq_true rfl⟩ hk_Pn (hk_Dn (A := A)) rfl hl.1 rfl (Nat.le_of_ble_eq_true rfl) d_B_pinch_14 ⟨Nat.zero_le _, Nat.zero_le _⟩) hP hS hA (fun H locs hP hS => ?_)
    refine lv_if_ne (tgt := 23) hx hb d_B_pinch_17 (by decide) (fun c_2 => ?_) (fun c_2 => ?_)
    · skip
      rcases hk_b4 c_1 with rfl | rfl | rfl | rfl
      · skip
        refine lv_aload_n hx hb d_B_pinch_23 rfl (lv_at hl 0 rfl) ?_
        refine hk_get (v := .ref (ad 8)) C hP 0 4 5 i_B rfl rfl (by decide) (hk_in (by decide +kernel) rfl) rfl d_B_pinch_24 ?_
        refine lv_iload_n hx hb d_B_pinch_27 rfl (lv_at hl 1 rfl) ?_
        refine hk_ald C hP 8 3 (v := (ad 9)) rfl rfl (hk_inl (by decide)) rfl d_B_pinch_28 ?_
        refine lv_iload_n hx hb d_B_pinch_29 rfl (lv_at hl 2 rfl) ?_
        refine hk_goI1 9 (w2 := wB G ad (f_B_pinch_30 (0 : Int32) p2 u)) (hk_kN (host := "BodyRows2") (k := 1) (As := [.int p2]) (rest := []) C (c_Window_reverseAt l G (ad 9) (b5 u 0) p2 _) Y_Window_reverseAt (by decide +kernel) rfl rfl ⟨Nat.le_of_ble_eq_true rfl, Nat.le_of_ble_eq_true rfl⟩ (va_recv hE.1 hP (ci := 2) (q0 := 9) rfl rfl) (hP.sub (ws' := (wN (ad 9) (b5 u 0))) [9] rfl) (hD.sub (ws' := (wN (ad 9) (b5 u 0))) [9] (by decide) rfl) rfl hl.1 rfl (Nat.le_of_ble_eq_true rfl) d_B_pinch_30 ⟨Nat.zero_le _, Nat.zero_le _⟩) hP hD hS hA rfl rfl (fun H locs hP hD hS => ?_)
        have hI1 : Iv (f_B_pinch_30 (0 : Int32) p2 u) := (Iv_of (k2_f_B_pinch_30 _ _ _) (k6_f_B_pinch_30 _ _ _) hI)
        generalize hU1 : (f_B_pinch_30 (0 : Int32) p2 u) = U1 at hP hD hI1
        refine hk_goIe (hk_kS (k := 1) (As := [.int ((m_Window_reverseAt p2 (b5 u 0)).1)]) (rest := []) C (c_B_bit l G ((m_Window_reverseAt p2 (b5 u 0)).1) _) Y_B_bit (hk_in (by decide +kernel) rfl) rfl rfl ⟨Nat.le_of_ble_eq_true rfl, Nat.le_of_ble_eq_true rfl⟩ hk_Pn (hk_Dn (A := A)) rfl hl.1 rfl (Nat.le_of_ble_eq_true rfl) d_B_pinch_33 ⟨Nat.zero_le _, Nat.zero_le _⟩) hP hS hA (fun H locs hP hS => ?_)
        subst hU1
        have e : m_B_pinch (0 : Int32) p2 u = (m_B_bit ((m_Window_reverseAt p2 (b5 u 0)).1), (f_B_pinch_30 (0 : Int32) p2 u)) := (if_neg c_1).trans ((if_neg c_2).trans (rfl))
        exact hk_ri C hAe hP hD hS (by rw [e]) (by rw [e]) d_B_pinch_36
      · skip
        refine lv_aload_n hx hb d_B_pinch_23 rfl (lv_at hl 0 rfl) ?_
        refine hk_get (v := .ref (ad 8)) C hP 0 4 5 i_B rfl rfl (by decide) (hk_in (by decide +kernel) rfl) rfl d_B_pinch_24 ?_
        refine lv_iload_n hx hb d_B_pinch_27 rfl (lv_at hl 1 rfl) ?_
        refine hk_ald C hP 8 3 (v := (ad 10)) rfl rfl (hk_inl (by decide)) rfl d_B_pinch_28 ?_
        refine lv_iload_n hx hb d_B_pinch_29 rfl (lv_at hl 2 rfl) ?_
        refine hk_goI1 10 (w2 := wB G ad (f_B_pinch_30 (1 : Int32) p2 u)) (hk_kN (host := "BodyRows2") (k := 1) (As := [.int p2]) (rest := []) C (c_Window_reverseAt l G (ad 10) (b5 u 1) p2 _) Y_Window_reverseAt (by decide +kernel) rfl rfl ⟨Nat.le_of_ble_eq_true rfl, Nat.le_of_ble_eq_true rfl⟩ (va_recv hE.1 hP (ci := 2) (q0 := 10) rfl rfl) (hP.sub (ws' := (wN (ad 10) (b5 u 1))) [10] rfl) (hD.sub (ws' := (wN (ad 10) (b5 u 1))) [10] (by decide) rfl) rfl hl.1 rfl (Nat.le_of_ble_eq_true rfl) d_B_pinch_30 ⟨Nat.zero_le _, Nat.zero_le _⟩) hP hD hS hA rfl rfl (fun H locs hP hD hS => ?_)
        have hI2 : Iv (f_B_pinch_30 (1 : Int32) p2 u) := (Iv_of (k2_f_B_pinch_30 _ _ _) (k6_f_B_pinch_30 _ _ _) hI)
        generalize hU2 : (f_B_pinch_30 (1 : Int32) p2 u) = U2 at hP hD hI2
        refine hk_goIe (hk_kS (k := 1) (As := [.int ((m_Window_reverseAt p2 (b5 u 1)).1)]) (rest := []) C (c_B_bit l G ((m_Window_reverseAt p2 (b5 u 1)).1) _) Y_B_bit (hk_in (by decide +kernel) rfl) rfl rfl ⟨Nat.le_of_ble_eq_true rfl, Nat.le_of_ble_eq_true rfl⟩ hk_Pn (hk_Dn (A := A)) rfl hl.1 rfl (Nat.le_of_ble_eq_true rfl) d_B_pinch_33 ⟨Nat.zero_le _, Nat.zero_le _⟩) hP hS hA (fun H locs hP hS => ?_)
        subst hU2
        have e : m_B_pinch (1 : Int32) p2 u = (m_B_bit ((m_Window_reverseAt p2 (b5 u 1)).1), (f_B_pinch_30 (1 : Int32) p2 u)) := (if_neg c_1).trans ((if_neg c_2).trans (rfl))
        exact hk_ri C hAe hP hD hS (by rw [e]) (by rw [e]) d_B_pinch_36
      · skip
        refine lv_aload_n hx hb d_B_pinch_23 rfl (lv_at hl 0 rfl) ?_
        refine hk_get (v := .ref (ad 8)) C hP 0 4 5 i_B rfl rfl (by decide) (hk_in (by decide +kernel) rfl) rfl d_B_pinch_24 ?_
        refine lv_iload_n hx hb d_B_pinch_27 rfl (lv_at hl 1 rfl) ?_
        refine hk_ald C hP 8 3 (v := (ad 11)) rfl rfl (hk_inl (by decide)) rfl d_B_pinch_28 ?_
        refine lv_iload_n hx hb d_B_pinch_29 rfl (lv_at hl 2 rfl) ?_
        refine hk_goI1 11 (w2 := wB G ad (f_B_pinch_30 (2 : Int32) p2 u)) (hk_kN (host := "BodyRows2") (k := 1) (As := [.int p2]) (rest := []) C (c_Window_reverseAt l G (ad 11) (b5 u 2) p2 _) Y_Window_reverseAt (by decide +kernel) rfl rfl ⟨Nat.le_of_ble_eq_true rfl, Nat.le_of_ble_eq_true rfl⟩ (va_recv hE.1 hP (ci := 2) (q0 := 11) rfl rfl) (hP.sub (ws' := (wN (ad 11) (b5 u 2))) [11] rfl) (hD.sub (ws' := (wN (ad 11) (b5 u 2))) [11] (by decide) rfl) rfl hl.1 rfl (Nat.le_of_ble_eq_true rfl) d_B_pinch_30 ⟨Nat.zero_le _, Nat.zero_le _⟩) hP hD hS hA rfl rfl (fun H locs hP hD hS => ?_)
        have hI3 : Iv (f_B_pinch_30 (2 : Int32) p2 u) := (Iv_of (k2_f_B_pinch_30 _ _ _) (k6_f_B_pinch_30 _ _ _) hI)
        generalize hU3 : (f_B_pinch_30 (2 : Int32) p2 u) = U3 at hP hD hI3
        refine hk_goIe (hk_kS (k := 1) (As := [.int ((m_Window_reverseAt p2 (b5 u 2)).1)]) (rest := []) C (c_B_bit l G ((m_Window_reverseAt p2 (b5 u 2)).1) _) Y_B_bit (hk_in (by decide +kernel) rfl) rfl rfl ⟨Nat.le_of_ble_eq_true rfl, Nat.le_of_ble_eq_true rfl⟩ hk_Pn (hk_Dn (A := A)) rfl hl.1 rfl (Nat.le_of_ble_eq_true rfl) d_B_pinch_33 ⟨Nat.zero_le _, Nat.zero_le _⟩) hP hS hA (fun H locs hP hS => ?_)
        subst hU3
        have e : m_B_pinch (2 : Int32) p2 u = (m_B_bit ((m_Window_reverseAt p2 (b5 u 2)).1), (f_B_pinch_30 (2 : Int32) p2 u)) := (if_neg c_1).trans ((if_neg c_2).trans (rfl))
        exact hk_ri C hAe hP hD hS (by rw [e]) (by rw [e]) d_B_pinch_36
      · skip
        refine lv_aload_n hx hb d_B_pinch_23 rfl (lv_at hl 0 rfl) ?_
        refine hk_get (v := .ref (ad 8)) C hP 0 4 5 i_B rfl rfl (by decide) (hk_in (by decide +kernel) rfl) rfl d_B_pinch_24 ?_
        refine lv_iload_n hx hb d_B_pinch_27 rfl (lv_at hl 1 rfl) ?_
        refine hk_ald C hP 8 3 (v := (ad 12)) rfl rfl (hk_inl (by decide)) rfl d_B_pinch_28 ?_
        refine lv_iload_n hx hb d_B_pinch_29 rfl (lv_at hl 2 rfl) ?_
        refine hk_goI1 12 (w2 := wB G ad (f_B_pinch_30 (3 : Int32) p2 u)) (hk_kN (host := "BodyRows2") (k := 1) (As := [.int p2]) (rest := []) C (c_Window_reverseAt l G (ad 12) (b5 u 3) p2 _) Y_Window_reverseAt (by decide +kernel) rfl rfl ⟨Nat.le_of_ble_eq_true rfl, Nat.le_of_ble_eq_true rfl⟩ (va_recv hE.1 hP (ci := 2) (q0 := 12) rfl rfl) (hP.sub (ws' := (wN (ad 12) (b5 u 3))) [12] rfl) (hD.sub (ws' := (wN (ad 12) (b5 u 3))) [12] (by decide) rfl) rfl hl.1 rfl (Nat.le_of_ble_eq_true rfl) d_B_pinch_30 ⟨Nat.zero_le _, Nat.zero_le _⟩) hP hD hS hA rfl rfl (fun H locs hP hD hS => ?_)
        have hI4 : Iv (f_B_pinch_30 (3 : Int32) p2 u) := (Iv_of (k2_f_B_pinch_30 _ _ _) (k6_f_B_pinch_30 _ _ _) hI)
        generalize hU4 : (f_B_pinch_30 (3 : Int32) p2 u) = U4 at hP hD hI4
        refine hk_goIe (hk_kS (k := 1) (As := [.int ((m_Window_reverseAt p2 (b5 u 3)).1)]) (rest := []) C (c_B_bit l G ((m_Window_reverseAt p2 (b5 u 3)).1) _) Y_B_bit (hk_in (by decide +kernel) rfl) rfl rfl ⟨Nat.le_of_ble_eq_true rfl, Nat.le_of_ble_eq_true rfl⟩ hk_Pn (hk_Dn (A := A)) rfl hl.1 rfl (Nat.le_of_ble_eq_true rfl) d_B_pinch_33 ⟨Nat.zero_le _, Nat.zero_le _⟩) hP hS hA (fun H locs hP hS => ?_)
        subst hU4
        have e : m_B_pinch (3 : Int32) p2 u = (m_B_bit ((m_Window_reverseAt p2 (b5 u 3)).1), (f_B_pinch_30 (3 : Int32) p2 u)) := (if_neg c_1).trans ((if_neg c_2).trans (rfl))
        exact hk_ri C hAe hP hD hS (by rw [e]) (by rw [e]) d_B_pinch_36
    · skip
      refine lv_bipush (v := (-2 : Int32)) hx hb d_B_pinch_20 (by decide) ?_
      have e : m_B_pinch p1 p2 u = ((-2 : Int32), u) := (if_neg c_1).trans ((if_pos c_2).trans (rfl))
      exact hk_ri C hAe hP hD hS (by rw [e]) (by rw [e]) d_B_pinch_22
  · skip
    refine lv_iconst (v := (-1 : Int32)) hx hb d_B_pinch_8 (by decide) ?_
    have e : m_B_pinch p1 p2 u = ((-1 : Int32), u) := (if_pos c_1).trans (rfl)
    exact hk_ri C hAe hP hD hS (by rw [e]) (by rw [e]) d_B_pinch_9
theorem Y_B_learn : hk_Y y_B_learn b_B_learn 2 (some .int) 1 := ⟨hk_in (by decide +kernel) rfl, hk_in (by decide +kernel) rfl, hk_in (by decide +kernel) rfl, hk_in (List.mem_of_getElem? (i := 339) rfl) rfl, by decide, by decide, by decide +kernel⟩
abbrev rm_B_learn : Room := { frames := 1, cells := 0, slots := 0, locals := 21 }
set_option maxHeartbeats 4000000 in
set_option maxRecDepth 100000 in
theorem c_B_learn (l : Launch) (G : hk_G) (ad : Nat → Nat) (u : cB) (p1 : Int32) (hI : Iv u) : hk_I l G y_B_learn b_B_learn 2 (some .int) rm_B_learn [.ref (ad 0), .int p1] (wB G ad u) ((m_B_learn p1 u).1) (wB G ad ((m_B_learn p1 u).2)) := by
  refine hk_I_of (by decide) (Nat.le_of_ble_eq_true rfl) ?_
  intro p e s m below meth c A ls C hAe hA hP hD hS hl
  have hx := C.1
  have hb := C.2.1
  have hown := C.2.2.2.2.1
  have hts := C.2.2.2.2.2.1
  have hE := C.2.2.2.2.2.2.2
  have hl : lv_has ls 2 [(0, .ref (ad 0)), (1, .int p1)] := hl
  refine lv_iload_n hx hb d_B_learn_0 rfl (lv_at hl 1 rfl) ?_
  refine lv_iconst (v := (4 : Int32)) hx hb d_B_learn_1 (by decide) ?_
  refine hk_goIe (hk_kS (k := 2) (As := [.int p1, .int (4 : Int32)]) (rest := []) C (c_B_isBelow l G p1 (4 : Int32) _) Y_B_isBelow (hk_in (by decide +kernel) rfl) rfl rfl ⟨Nat.le_of_ble_eq_true rfl, Nat.le_of_ble_eq_true rfl⟩ hk_Pn (hk_Dn (A := A)) rfl hl.1 rfl (Nat.le_of_ble_eq_true rfl) d_B_learn_2 ⟨Nat.zero_le _, Nat.zero_le _⟩) hP hS hA (fun H locs hP hS => ?_)
  refine lv_if_ne (tgt := 10) hx hb d_B_learn_5 (by decide) (fun c_1 => ?_) (fun c_1 => ?_)
  · skip
    rcases hk_b4 c_1 with rfl | rfl | rfl | rfl
    · skip
      refine lv_aload_n hx hb d_B_learn_10 rfl (lv_at hl 0 rfl) ?_
      refine hk_get (v := .ref (ad 8)) C hP 0 4 5 i_B rfl rfl (by decide) (hk_in (by decide +kernel) rfl) rfl d_B_learn_11 ?_
      refine lv_iload_n hx hb d_B_learn_14 rfl (lv_at hl 1 rfl) ?_
      refine hk_ald C hP 8 3 (v := (ad 9)) rfl rfl (hk_inl (by decide)) rfl d_B_learn_15 ?_
      refine hk_goI1 9 (w2 := wB G ad (f_B_learn_16 (0 : Int32) u)) (hk_kN (host := "BodyRows2") (k := 0) (As := []) (rest := []) C (c_Window_learnAtEnd l G (ad 9) (b5 u 0) _) Y_Window_learnAtEnd (by decide +kernel) rfl rfl ⟨Nat.le_of_ble_eq_true rfl, Nat.le_of_ble_eq_true rfl⟩ (va_recv hE.1 hP (ci := 2) (q0 := 9) rfl rfl) (hP.sub (ws' := (wN (ad 9) (b5 u 0))) [9] rfl) (hD.sub (ws' := (wN (ad 9) (b5 u 0))) [9] (by decide) rfl) rfl hl.1 rfl (Nat.le_of_ble_eq_true rfl) d_B_learn_16 ⟨Nat.zero_le _, Nat.zero_le _⟩) hP hD hS hA rfl rfl (fun H locs hP hD hS => ?_)
      have hI1 : Iv (f_B_learn_16 (0 : Int32) u) := (Iv_of (k2_f_B_learn_16 _ _) (k6_f_B_learn_16 _ _) hI)
      generalize hU1 : (f_B_learn_16 (0 : Int32) u) = U1 at hP hD hI1
      refine hk_goIe (hk_kS (k := 1) (As := [.int ((m_Window_learnAtEnd (b5 u 0)).1)]) (rest := []) C (c_B_bit l G ((m_Window_learnAtEnd (b5 u 0)).1) _) Y_B_bit (hk_in (by decide +kernel) rfl) rfl rfl ⟨Nat.le_of_ble_eq_true rfl, Nat.le_of_ble_eq_true rfl⟩ hk_Pn (hk_Dn (A := A)) rfl hl.1 rfl (Nat.le_of_ble_eq_true rfl) d_B_learn_19 ⟨Nat.zero_le _, Nat.zero_le _⟩) hP hS hA (fun H locs hP hS => ?_)
      subst hU1
      have e : m_B_learn (0 : Int32) u = (m_B_bit ((m_Window_learnAtEnd (b5 u 0)).1), (f_B_learn_16 (0 : Int32) u)) := (if_neg c_1).trans (rfl)
      exact hk_ri C hAe hP hD hS (by rw [e]) (by rw [e]) d_B_learn_22
    · skip
      refine lv_aload_n hx hb d_B_learn_10 rfl (lv_at hl 0 rfl) ?_
      refine hk_get (v := .ref (ad 8)) C hP 0 4 5 i_B rfl rfl (by decide) (hk_in (by decide +kernel) rfl) rfl d_B_learn_11 ?_
      refine lv_iload_n hx hb d_B_learn_14 rfl (lv_at hl 1 rfl) ?_
      refine hk_ald C hP 8 3 (v := (ad 10)) rfl rfl (hk_inl (by decide)) rfl d_B_learn_15 ?_
      refine hk_goI1 10 (w2 := wB G ad (f_B_learn_16 (1 : Int32) u)) (hk_kN (host := "BodyRows2") (k := 0) (As := []) (rest := []) C (c_Window_learnAtEnd l G (ad 10) (b5 u 1) _) Y_Window_learnAtEnd (by decide +kernel) rfl rfl ⟨Nat.le_of_ble_eq_true rfl, Nat.le_of_ble_eq_true rfl⟩ (va_recv hE.1 hP (ci := 2) (q0 := 10) rfl rfl) (hP.sub (ws' := (wN (ad 10) (b5 u 1))) [10] rfl) (hD.sub (ws' := (wN (ad 10) (b5 u 1))) [10] (by decide) rfl) rfl hl.1 rfl (Nat.le_of_ble_eq_true rfl) d_B_learn_16 ⟨Nat.zero_le _, Nat.zero_le _⟩) hP hD hS hA rfl rfl (fun H locs hP hD hS => ?_)
      have hI2 : Iv (f_B_learn_16 (1 : Int32) u) := (Iv_of (k2_f_B_learn_16 _ _) (k6_f_B_learn_16 _ _) hI)
      generalize hU2 : (f_B_learn_16 (1 : Int32) u) = U2 at hP hD hI2
      refine hk_goIe (hk_kS (k := 1) (As := [.int ((m_Window_learnAtEnd (b5 u 1)).1)]) (rest := []) C (c_B_bit l G ((m_Window_learnAtEnd (b5 u 1)).1) _) Y_B_bit (hk_in (by decide +kernel) rfl) rfl rfl ⟨Nat.le_of_ble_eq_true rfl, Nat.le_of_ble_eq_true rfl⟩ hk_Pn (hk_Dn (A := A)) rfl hl.1 rfl (Nat.le_of_ble_eq_true rfl) d_B_learn_19 ⟨Nat.zero_le _, Nat.zero_le _⟩) hP hS hA (fun H locs hP hS => ?_)
      subst hU2
      have e : m_B_learn (1 : Int32) u = (m_B_bit ((m_Window_learnAtEnd (b5 u 1)).1), (f_B_learn_16 (1 : Int32) u)) := (if_neg c_1).trans (rfl)
      exact hk_ri C hAe hP hD hS (by rw [e]) (by rw [e]) d_B_learn_22
    · skip
      refine lv_aload_n hx hb d_B_learn_10 rfl (lv_at hl 0 rfl) ?_
      refine hk_get (v := .ref (ad 8)) C hP 0 4 5 i_B rfl rfl (by decide) (hk_in (by decide +kernel) rfl) rfl d_B_learn_11 ?_
      refine lv_iload_n hx hb d_B_learn_14 rfl (lv_at hl 1 rfl) ?_
      refine hk_ald C hP 8 3 (v := (ad 11)) rfl rfl (hk_inl (by decide)) rfl d_B_learn_15 ?_
      refine hk_goI1 11 (w2 := wB G ad (f_B_learn_16 (2 : Int32) u)) (hk_kN (host := "BodyRows2") (k := 0) (As := []) (rest := []) C (c_Window_learnAtEnd l G (ad 11) (b5 u 2) _) Y_Window_learnAtEnd (by decide +kernel) rfl rfl ⟨Nat.le_of_ble_eq_true rfl, Nat.le_of_ble_eq_true rfl⟩ (va_recv hE.1 hP (ci := 2) (q0 := 11) rfl rfl) (hP.sub (ws' := (wN (ad 11) (b5 u 2))) [11] rfl) (hD.sub (ws' := (wN (ad 11) (b5 u 2))) [11] (by decide) rfl) rfl hl.1 rfl (Nat.le_of_ble_eq_true rfl) d_B_learn_16 ⟨Nat.zero_le _, Nat.zero_le _⟩) hP hD hS hA rfl rfl (fun H locs hP hD hS => ?_)
      have hI3 : Iv (f_B_learn_16 (2 : Int32) u) := (Iv_of (k2_f_B_learn_16 _ _) (k6_f_B_learn_16 _ _) hI)
      generalize hU3 : (f_B_learn_16 (2 : Int32) u) = U3 at hP hD hI3
      refine hk_goIe (hk_kS (k := 1) (As := [.int ((m_Window_learnAtEnd (b5 u 2)).1)]) (rest := []) C (c_B_bit l G ((m_Window_learnAtEnd (b5 u 2)).1) _) Y_B_bit (hk_in (by decide +kernel) rfl) rfl rfl ⟨Nat.le_of_ble_eq_true rfl, Nat.le_of_ble_eq_true rfl⟩ hk_Pn (hk_Dn (A := A)) rfl hl.1 rfl (Nat.le_of_ble_eq_true rfl) d_B_learn_19 ⟨Nat.zero_le _, Nat.zero_le _⟩) hP hS hA (fun H locs hP hS => ?_)
      subst hU3
      have e : m_B_learn (2 : Int32) u = (m_B_bit ((m_Window_learnAtEnd (b5 u 2)).1), (f_B_learn_16 (2 : Int32) u)) := (if_neg c_1).trans (rfl)
      exact hk_ri C hAe hP hD hS (by rw [e]) (by rw [e]) d_B_learn_22
    · skip
      refine lv_aload_n hx hb d_B_learn_10 rfl (lv_at hl 0 rfl) ?_
      refine hk_get (v := .ref (ad 8)) C hP 0 4 5 i_B rfl rfl (by decide) (hk_in (by decide +kernel) rfl) rfl d_B_learn_11 ?_
      refine lv_iload_n hx hb d_B_learn_14 rfl (lv_at hl 1 rfl) ?_
      refine hk_ald C hP 8 3 (v := (ad 12)) rfl rfl (hk_inl (by decide)) rfl d_B_learn_15 ?_
      refine hk_goI1 12 (w2 := wB G ad (f_B_learn_16 (3 : Int32) u)) (hk_kN (host := "BodyRows2") (k := 0) (As := []) (rest := []) C (c_Window_learnAtEnd l G (ad 12) (b5 u 3) _) Y_Window_learnAtEnd (by decide +kernel) rfl rfl ⟨Nat.le_of_ble_eq_true rfl, Nat.le_of_ble_eq_true rfl⟩ (va_recv hE.1 hP (ci := 2) (q0 := 12) rfl rfl) (hP.sub (ws' := (wN (ad 12) (b5 u 3))) [12] rfl) (hD.sub (ws' := (wN (ad 12) (b5 u 3))) [12] (by decide) rfl) rfl hl.1 rfl (Nat.le_of_ble_eq_true rfl) d_B_learn_16 ⟨Nat.zero_le _, Nat.zero_le _⟩) hP hD hS hA rfl rfl (fun H locs hP hD hS => ?_)
      have hI4 : Iv (f_B_learn_16 (3 : Int32) u) := (Iv_of (k2_f_B_learn_16 _ _) (k6_f_B_learn_16 _ _) hI)
      generalize hU4 : (f_B_learn_16 (3 : Int32) u) = U4 at hP hD hI4
      refine hk_goIe (hk_kS (k := 1) (As := [.int ((m_Window_learnAtEnd (b5 u 3)).1)]) (rest := []) C (c_B_bit l G ((m_Window_learnAtEnd (b5 u 3)).1) _) Y_B_bit (hk_in (by decide +kernel) rfl) rfl rfl ⟨Nat.le_of_ble_eq_true rfl, Nat.le_of_ble_eq_true rfl⟩ hk_Pn (hk_Dn (A := A)) rfl hl.1 rfl (Nat.le_of_ble_eq_true rfl) d_B_learn_19 ⟨Nat.zero_le _, Nat.zero_le _⟩) hP hS hA (fun H locs hP hS => ?_)
      subst hU4
      have e : m_B_learn (3 : Int32) u = (m_B_bit ((m_Window_learnAtEnd (b5 u 3)).1), (f_B_learn_16 (3 : Int32) u)) := (if_neg c_1).trans (rfl)
      exact hk_ri C hAe hP hD hS (by rw [e]) (by rw [e]) d_B_learn_22
  · skip
    refine lv_iconst (v := (-1 : Int32)) hx hb d_B_learn_8 (by decide) ?_
    have e : m_B_learn p1 u = ((-1 : Int32), u) := (if_pos c_1).trans (rfl)
    exact hk_ri C hAe hP hD hS (by rw [e]) (by rw [e]) d_B_learn_9
theorem Y_B_shed : hk_Y y_B_shed b_B_shed 2 (some .int) 1 := ⟨hk_in (by decide +kernel) rfl, hk_in (by decide +kernel) rfl, hk_in (by decide +kernel) rfl, hk_in (List.mem_of_getElem? (i := 347) rfl) rfl, by decide, by decide, by decide +kernel⟩
abbrev rm_B_shed : Room := { frames := 2, cells := 0, slots := 0, locals := 43 }
set_option maxHeartbeats 4000000 in
set_option maxRecDepth 100000 in
theorem c_B_shed (l : Launch) (G : hk_G) (ad : Nat → Nat) (u : cB) (p1 : Int32) (hI : Iv u) : hk_I l G y_B_shed b_B_shed 2 (some .int) rm_B_shed [.ref (ad 0), .int p1] (wB G ad u) ((m_B_shed p1 u).1) (wB G ad ((m_B_shed p1 u).2)) := by
  refine hk_I_of (by decide) (Nat.le_of_ble_eq_true rfl) ?_
  intro p e s m below meth c A ls C hAe hA hP hD hS hl
  have hx := C.1
  have hb := C.2.1
  have hown := C.2.2.2.2.1
  have hts := C.2.2.2.2.2.1
  have hE := C.2.2.2.2.2.2.2
  have hl : lv_has ls 2 [(0, .ref (ad 0)), (1, .int p1)] := hl
  refine lv_iload_n hx hb d_B_shed_0 rfl (lv_at hl 1 rfl) ?_
  refine lv_sipush (v := (20000 : Int32)) hx hb d_B_shed_1 (by decide) ?_
  refine hk_goIe (hk_kS (k := 2) (As := [.int p1, .int (20000 : Int32)]) (rest := []) C (c_B_isUpTo l G p1 (20000 : Int32) _) Y_B_isUpTo (hk_in (by decide +kernel) rfl) rfl rfl ⟨Nat.le_of_ble_eq_true rfl, Nat.le_of_ble_eq_true rfl⟩ hk_Pn (hk_Dn (A := A)) rfl hl.1 rfl (Nat.le_of_ble_eq_true rfl) d_B_shed_4 ⟨Nat.zero_le _, Nat.zero_le _⟩) hP hS hA (fun H locs hP hS => ?_)
  refine lv_if_ne (tgt := 13) hx hb d_B_shed_7 (by decide) (fun c_1 => ?_) (fun c_1 => ?_)
  · skip
    refine lv_aload_n hx hb d_B_shed_13 rfl (lv_at hl 0 rfl) ?_
    refine hk_get (v := .ref (ad 13)) C hP 0 4 6 i_B rfl rfl (by decide) (hk_in (by decide +kernel) rfl) rfl d_B_shed_14 ?_
    refine lv_iload_n hx hb d_B_shed_17 rfl (lv_at hl 1 rfl) ?_
    refine hk_goVc (w2 := wB G ad (f_B_shed_18 p1 u)) (hk_kN (host := "BodyRows2") (k := 1) (As := [.int p1]) (rest := []) C (c_Loads_measure l G (ad 13) (ad 14) (ad 15) (ad 16) (b6 u) p1 (hI).2 _) Y_Loads_measure (by decide +kernel) rfl rfl ⟨Nat.le_of_ble_eq_true rfl, Nat.le_of_ble_eq_true rfl⟩ (va_recv hE.1 hP (ci := 3) (q0 := 13) rfl rfl) (hP.sub (ws' := (wL G (ad 13) (ad 14) (ad 15) (ad 16) (b6 u))) [13, 14, 15, 16] rfl) (hD.sub (ws' := (wL G (ad 13) (ad 14) (ad 15) (ad 16) (b6 u))) [13, 14, 15, 16] (by decide) rfl) rfl hl.1 rfl (Nat.le_of_ble_eq_true rfl) d_B_shed_18 ⟨Nat.zero_le _, Nat.zero_le _⟩) hP hD hS hA [13, 14, 15, 16] [0, 1, 2, 3, 4, 5, 6, 7, 8, 9, 10, 11, 12, 17, 18, 19, 20, 21] [0, 1, 2, 3, 4, 5, 6, 7, 8, 9, 10, 11, 12, 18, 19, 20, 21, 13, 14, 15, 16, 17] rfl rfl (by decide) (by decide) rfl (by decide) (fun H locs hP hD hS => ?_)
    have hI1 : Iv (f_B_shed_18 p1 u) := (kmL hI)
    generalize hU1 : (f_B_shed_18 p1 u) = U1 at hP hD hI1
    refine lv_aload_n hx hb d_B_shed_21 rfl (lv_at hl 0 rfl) ?_
    refine hk_get (v := .ref (ad 13)) C hP 0 4 6 i_B rfl rfl (by decide) (hk_in (by decide +kernel) rfl) rfl d_B_shed_22 ?_
    refine hk_goIc (w2 := wB G ad U1) (hk_kN (host := "BodyRows2") (k := 0) (As := []) (rest := []) C (c_Loads_countOff l G (ad 13) (ad 14) (ad 15) (ad 16) (b6 U1) (hI1).2 _) Y_Loads_countOff (by decide +kernel) rfl rfl ⟨Nat.le_of_ble_eq_true rfl, Nat.le_of_ble_eq_true rfl⟩ (va_recv hE.1 hP (ci := 3) (q0 := 13) rfl rfl) (hP.sub (ws' := (wL G (ad 13) (ad 14) (ad 15) (ad 16) (b6 U1))) [13, 14, 15, 16] rfl) (hD.sub (ws' := (wL G (ad 13) (ad 14) (ad 15) (ad 16) (b6 U1))) [13, 14, 15, 16] (by decide) rfl) rfl hl.1 rfl (Nat.le_of_ble_eq_true rfl) d_B_shed_25 ⟨Nat.zero_le _, Nat.zero_le _⟩) hP hD hS hA [13, 14, 15, 16] [0, 1, 2, 3, 4, 5, 6, 7, 8, 9, 10, 11, 12, 17, 18, 19, 20, 21] [0, 1, 2, 3, 4, 5, 6, 7, 8, 9, 10, 11, 12, 18, 19, 20, 21, 13, 14, 15, 16, 17] rfl rfl (by decide) (by decide) rfl (by decide) (fun H locs hP hD hS => ?_)
    subst hU1
    have e : m_B_shed p1 u = (m_Loads_countOff (b6 (f_B_shed_18 p1 u)), (f_B_shed_18 p1 u)) := (if_neg c_1).trans (rfl)
    exact hk_ri C hAe hP hD hS (by rw [e]) (by rw [e]) d_B_shed_28
  · skip
    refine lv_bipush (v := (-2 : Int32)) hx hb d_B_shed_10 (by decide) ?_
    have e : m_B_shed p1 u = ((-2 : Int32), u) := (if_pos c_1).trans (rfl)
    exact hk_ri C hAe hP hD hS (by rw [e]) (by rw [e]) d_B_shed_12
theorem Y_B_load : hk_Y y_B_load b_B_load 3 (some .int) 2 := ⟨hk_in (by decide +kernel) rfl, hk_in (by decide +kernel) rfl, hk_in (by decide +kernel) rfl, hk_in (List.mem_of_getElem? (i := 371) rfl) rfl, by decide, by decide, by decide +kernel⟩
abbrev rm_B_load : Room := { frames := 2, cells := 0, slots := 0, locals := 42 }
set_option maxHeartbeats 4000000 in
set_option maxRecDepth 100000 in
theorem c_B_load (l : Launch) (G : hk_G) (ad : Nat → Nat) (u : cB) (p1 : Int32) (p2 : Int32) (hI : Iv u) (h01 : p2 = 0 ∨ p2 = 1) : hk_I l G y_B_load b_B_load 3 (some .int) rm_B_load [.ref (ad 0), .int p1, .int p2] (wB G ad u) ((m_B_load p1 p2 u).1) (wB G ad ((m_B_load p1 p2 u).2)) := by
  refine hk_I_of (by decide) (Nat.le_of_ble_eq_true rfl) ?_
  intro p e s m below meth c A ls C hAe hA hP hD hS hl
  have hx := C.1
  have hb := C.2.1
  have hown := C.2.2.2.2.1
  have hts := C.2.2.2.2.2.1
  have hE := C.2.2.2.2.2.2.2
  have hl : lv_has ls 3 [(0, .ref (ad 0)), (1, .int p1), (2, .int p2)] := hl
  refine lv_iload_n hx hb d_B_load_0 rfl (lv_at hl 1 rfl) ?_
  refine lv_bipush (v := (9 : Int32)) hx hb d_B_load_1 (by decide) ?_
  refine hk_goIe (hk_kS (k := 2) (As := [.int p1, .int (9 : Int32)]) (rest := []) C (c_B_isUpTo l G p1 (9 : Int32) _) Y_B_isUpTo (hk_in (by decide +kernel) rfl) rfl rfl ⟨Nat.le_of_ble_eq_true rfl, Nat.le_of_ble_eq_true rfl⟩ hk_Pn (hk_Dn (A := A)) rfl hl.1 rfl (Nat.le_of_ble_eq_true rfl) d_B_load_3 ⟨Nat.zero_le _, Nat.zero_le _⟩) hP hS hA (fun H locs hP hS => ?_)
  refine lv_if_ne (tgt := 12) hx hb d_B_load_6 (by decide) (fun c_1 => ?_) (fun c_1 => ?_)
  · skip
    refine lv_aload_n hx hb d_B_load_12 rfl (lv_at hl 0 rfl) ?_
    refine hk_get (v := .ref (ad 13)) C hP 0 4 6 i_B rfl rfl (by decide) (hk_in (by decide +kernel) rfl) rfl d_B_load_13 ?_
    refine hk_goIc (w2 := wB G ad u) (hk_kN (host := "BodyRows2") (k := 0) (As := []) (rest := []) C (c_Loads_isFull l G (ad 13) (ad 14) (ad 15) (ad 16) (b6 u) (hI).2 _) Y_Loads_isFull (by decide +kernel) rfl rfl ⟨Nat.le_of_ble_eq_true rfl, Nat.le_of_ble_eq_true rfl⟩ (va_recv hE.1 hP (ci := 3) (q0 := 13) rfl rfl) (hP.sub (ws' := (wL G (ad 13) (ad 14) (ad 15) (ad 16) (b6 u))) [13, 14, 15, 16] rfl) (hD.sub (ws' := (wL G (ad 13) (ad 14) (ad 15) (ad 16) (b6 u))) [13, 14, 15, 16] (by decide) rfl) rfl hl.1 rfl (Nat.le_of_ble_eq_true rfl) d_B_load_16 ⟨Nat.zero_le _, Nat.zero_le _⟩) hP hD hS hA [13, 14, 15, 16] [0, 1, 2, 3, 4, 5, 6, 7, 8, 9, 10, 11, 12, 17, 18, 19, 20, 21] [0, 1, 2, 3, 4, 5, 6, 7, 8, 9, 10, 11, 12, 18, 19, 20, 21, 13, 14, 15, 16, 17] rfl rfl (by decide) (by decide) rfl (by decide) (fun H locs hP hD hS => ?_)
    refine lv_if_eq (tgt := 25) hx hb d_B_load_19 (by decide) (fun c_2 => ?_) (fun c_2 => ?_)
    · skip
      refine lv_aload_n hx hb d_B_load_25 rfl (lv_at hl 0 rfl) ?_
      refine hk_get (v := .ref (ad 13)) C hP 0 4 6 i_B rfl rfl (by decide) (hk_in (by decide +kernel) rfl) rfl d_B_load_26 ?_
      refine lv_iload_n hx hb d_B_load_29 rfl (lv_at hl 1 rfl) ?_
      refine lv_iload_n hx hb d_B_load_30 rfl (lv_at hl 2 rfl) ?_
      refine hk_goIc (w2 := wB G ad (f_B_load_31 p1 p2 u)) (hk_kN (host := "BodyRows2") (k := 2) (As := [.int p1, .int p2]) (rest := []) C (c_Loads_add l G (ad 13) (ad 14) (ad 15) (ad 16) (b6 u) p1 p2 (hI).2 h01 _) Y_Loads_add (by decide +kernel) rfl rfl ⟨Nat.le_of_ble_eq_true rfl, Nat.le_of_ble_eq_true rfl⟩ (va_recv hE.1 hP (ci := 3) (q0 := 13) rfl rfl) (hP.sub (ws' := (wL G (ad 13) (ad 14) (ad 15) (ad 16) (b6 u))) [13, 14, 15, 16] rfl) (hD.sub (ws' := (wL G (ad 13) (ad 14) (ad 15) (ad 16) (b6 u))) [13, 14, 15, 16] (by decide) rfl) rfl hl.1 rfl (Nat.le_of_ble_eq_true rfl) d_B_load_31 ⟨Nat.zero_le _, Nat.zero_le _⟩) hP hD hS hA [13, 14, 15, 16] [0, 1, 2, 3, 4, 5, 6, 7, 8, 9, 10, 11, 12, 17, 18, 19, 20, 21] [0, 1, 2, 3, 4, 5, 6, 7, 8, 9, 10, 11, 12, 18, 19, 20, 21, 13, 14, 15, 16, 17] rfl rfl (by decide) (by decide) rfl (by decide) (fun H locs hP hD hS => ?_)
      generalize hU1 : (f_B_load_31 p1 p2 u) = U1 at hP hD
      subst hU1
      have e : m_B_load p1 p2 u = ((m_Loads_add p1 p2 (b6 u)).1, (f_B_load_31 p1 p2 u)) := (if_neg c_1).trans ((if_pos c_2).trans (rfl))
      exact hk_ri C hAe hP hD hS (by rw [e]) (by rw [e]) d_B_load_34
    · skip
      refine lv_bipush (v := (-4 : Int32)) hx hb d_B_load_22 (by decide) ?_
      have e : m_B_load p1 p2 u = ((-4 : Int32), u) := (if_neg c_1).trans ((if_neg c_2).trans (rfl))
      exact hk_ri C hAe hP hD hS (by rw [e]) (by rw [e]) d_B_load_24
  · skip
    refine lv_bipush (v := (-2 : Int32)) hx hb d_B_load_9 (by decide) ?_
    have e : m_B_load p1 p2 u = ((-2 : Int32), u) := (if_pos c_1).trans (rfl)
    exact hk_ri C hAe hP hD hS (by rw [e]) (by rw [e]) d_B_load_11
theorem Y_B_isOn : hk_Y y_B_isOn b_B_isOn 2 (some .int) 1 := ⟨hk_in (by decide +kernel) rfl, hk_in (by decide +kernel) rfl, hk_in (by decide +kernel) rfl, hk_in (List.mem_of_getElem? (i := 384) rfl) rfl, by decide, by decide, by decide +kernel⟩
abbrev rm_B_isOn : Room := { frames := 2, cells := 0, slots := 0, locals := 42 }
set_option maxHeartbeats 4000000 in
set_option maxRecDepth 100000 in
theorem c_B_isOn (l : Launch) (G : hk_G) (ad : Nat → Nat) (u : cB) (p1 : Int32) (hI : Iv u) : hk_I l G y_B_isOn b_B_isOn 2 (some .int) rm_B_isOn [.ref (ad 0), .int p1] (wB G ad u) (m_B_isOn p1 u) (wB G ad u) := by
  refine hk_I_of (by decide) (Nat.le_of_ble_eq_true rfl) ?_
  intro p e s m below meth c A ls C hAe hA hP hD hS hl
  have hx := C.1
  have hb := C.2.1
  have hown := C.2.2.2.2.1
  have hts := C.2.2.2.2.2.1
  have hE := C.2.2.2.2.2.2.2
  have hl : lv_has ls 2 [(0, .ref (ad 0)), (1, .int p1)] := hl
  refine lv_aload_n hx hb d_B_isOn_0 rfl (lv_at hl 0 rfl) ?_
  refine hk_get (v := .ref (ad 13)) C hP 0 4 6 i_B rfl rfl (by decide) (hk_in (by decide +kernel) rfl) rfl d_B_isOn_1 ?_
  refine lv_iload_n hx hb d_B_isOn_4 rfl (lv_at hl 1 rfl) ?_
  refine hk_goIc (w2 := wB G ad u) (hk_kN (host := "BodyRows2") (k := 1) (As := [.int p1]) (rest := []) C (c_Loads_has l G (ad 13) (ad 14) (ad 15) (ad 16) (b6 u) p1 (hI).2 _) Y_Loads_has (by decide +kernel) rfl rfl ⟨Nat.le_of_ble_eq_true rfl, Nat.le_of_ble_eq_true rfl⟩ (va_recv hE.1 hP (ci := 3) (q0 := 13) rfl rfl) (hP.sub (ws' := (wL G (ad 13) (ad 14) (ad 15) (ad 16) (b6 u))) [13, 14, 15, 16] rfl) (hD.sub (ws' := (wL G (ad 13) (ad 14) (ad 15) (ad 16) (b6 u))) [13, 14, 15, 16] (by decide) rfl) rfl hl.1 rfl (Nat.le_of_ble_eq_true rfl) d_B_isOn_5 ⟨Nat.zero_le _, Nat.zero_le _⟩) hP hD hS hA [13, 14, 15, 16] [0, 1, 2, 3, 4, 5, 6, 7, 8, 9, 10, 11, 12, 17, 18, 19, 20, 21] [0, 1, 2, 3, 4, 5, 6, 7, 8, 9, 10, 11, 12, 18, 19, 20, 21, 13, 14, 15, 16, 17] rfl rfl (by decide) (by decide) rfl (by decide) (fun H locs hP hD hS => ?_)
  refine lv_if_ne (tgt := 13) hx hb d_B_isOn_8 (by decide) (fun c_1 => ?_) (fun c_1 => ?_)
  · skip
    refine lv_aload_n hx hb d_B_isOn_13 rfl (lv_at hl 0 rfl) ?_
    refine hk_get (v := .ref (ad 13)) C hP 0 4 6 i_B rfl rfl (by decide) (hk_in (by decide +kernel) rfl) rfl d_B_isOn_14 ?_
    refine lv_iload_n hx hb d_B_isOn_17 rfl (lv_at hl 1 rfl) ?_
    refine hk_goIc (w2 := wB G ad u) (hk_kN (host := "BodyRows2") (k := 1) (As := [.int p1]) (rest := []) C (c_Loads_runs l G (ad 13) (ad 14) (ad 15) (ad 16) (b6 u) p1 (hI).2 _) Y_Loads_runs (by decide +kernel) rfl rfl ⟨Nat.le_of_ble_eq_true rfl, Nat.le_of_ble_eq_true rfl⟩ (va_recv hE.1 hP (ci := 3) (q0 := 13) rfl rfl) (hP.sub (ws' := (wL G (ad 13) (ad 14) (ad 15) (ad 16) (b6 u))) [13, 14, 15, 16] rfl) (hD.sub (ws' := (wL G (ad 13) (ad 14) (ad 15) (ad 16) (b6 u))) [13, 14, 15, 16] (by decide) rfl) rfl hl.1 rfl (Nat.le_of_ble_eq_true rfl) d_B_isOn_18 ⟨Nat.zero_le _, Nat.zero_le _⟩) hP hD hS hA [13, 14, 15, 16] [0, 1, 2, 3, 4, 5, 6, 7, 8, 9, 10, 11, 12, 17, 18, 19, 20, 21] [0, 1, 2, 3, 4, 5, 6, 7, 8, 9, 10, 11, 12, 18, 19, 20, 21, 13, 14, 15, 16, 17] rfl rfl (by decide) (by decide) rfl (by decide) (fun H locs hP hD hS => ?_)
    refine hk_goIe (hk_kS (k := 1) (As := [.int (m_Loads_runs p1 (b6 u))]) (rest := []) C (c_B_bit l G (m_Loads_runs p1 (b6 u)) _) Y_B_bit (hk_in (by decide +kernel) rfl) rfl rfl ⟨Nat.le_of_ble_eq_true rfl, Nat.le_of_ble_eq_true rfl⟩ hk_Pn (hk_Dn (A := A)) rfl hl.1 rfl (Nat.le_of_ble_eq_true rfl) d_B_isOn_21 ⟨Nat.zero_le _, Nat.zero_le _⟩) hP hS hA (fun H locs hP hS => ?_)
    have e : m_B_isOn p1 u = m_B_bit (m_Loads_runs p1 (b6 u)) := (if_neg c_1).trans (rfl)
    exact hk_ri C hAe hP hD hS e.symm rfl d_B_isOn_24
  · skip
    refine lv_iconst (v := (-1 : Int32)) hx hb d_B_isOn_11 (by decide) ?_
    have e : m_B_isOn p1 u = (-1 : Int32) := (if_pos c_1).trans (rfl)
    exact hk_ri C hAe hP hD hS e.symm rfl d_B_isOn_12
theorem Y_B_bulb : hk_Y y_B_bulb b_B_bulb 4 (some .int) 2 := ⟨hk_in (by decide +kernel) rfl, hk_in (by decide +kernel) rfl, hk_in (by decide +kernel) rfl, hk_in (List.mem_of_getElem? (i := 397) rfl) rfl, by decide, by decide, by decide +kernel⟩
abbrev rm_B_bulb : Room := { frames := 1, cells := 0, slots := 0, locals := 21 }
set_option maxHeartbeats 4000000 in
set_option maxRecDepth 100000 in
theorem c_B_bulb (l : Launch) (G : hk_G) (tz : Nat) (ad : Nat → Nat) (u : cB) (p1 : Int32) (p2 : Int32) (hI : Iv u) : hk_IZ l G y_B_bulb b_B_bulb 4 (some .int) rm_B_bulb [.ref (ad 0), .int p1, .int p2] (wB G ad u) ((m_B_bulb p1 p2 u).1) (wB G ad ((m_B_bulb p1 p2 u).2)) (hk_Z2 tz) := by
  refine hk_IZ_of (by decide) (Nat.le_of_ble_eq_true rfl) ?_
  intro p e s m below meth c A ls C hAe hA hP hD hS hl hZT
  have hx := C.1
  have hb := C.2.1
  have hown := C.2.2.2.2.1
  have hts := C.2.2.2.2.2.1
  have hE := C.2.2.2.2.2.2.2
  have hl : lv_has ls 4 [(0, .ref (ad 0)), (1, .int p1), (2, .int p2)] := hl
  have hZ2 := hZT.1
  have hT2 := hZT.2
  refine lv_iload_n hx hb d_B_bulb_0 rfl (lv_at hl 1 rfl) ?_
  refine lv_bipush (v := (6 : Int32)) hx hb d_B_bulb_1 (by decide) ?_
  refine hk_goIe (hk_kS (k := 2) (As := [.int p1, .int (6 : Int32)]) (rest := []) C (c_B_isBelow l G p1 (6 : Int32) _) Y_B_isBelow (hk_in (by decide +kernel) rfl) rfl rfl ⟨Nat.le_of_ble_eq_true rfl, Nat.le_of_ble_eq_true rfl⟩ hk_Pn (hk_Dn (A := A)) rfl hl.1 rfl (Nat.le_of_ble_eq_true rfl) d_B_bulb_3 ⟨Nat.zero_le _, Nat.zero_le _⟩) hP hS hA (fun H locs hP hS => ?_)
  refine lv_if_ne (tgt := 11) hx hb d_B_bulb_6 (by decide) (fun c_1 => ?_) (fun c_1 => ?_)
  · skip
    refine lv_aload_n hx hb d_B_bulb_11 rfl (lv_at hl 0 rfl) ?_
    refine hk_get (v := .ref (ad 3)) C hP 0 4 2 i_B rfl rfl (by decide) (hk_in (by decide +kernel) rfl) rfl d_B_bulb_12 ?_
    refine lv_iload_n hx hb d_B_bulb_15 rfl (lv_at hl 1 rfl) ?_
    refine lv_iload_n hx hb d_B_bulb_16 rfl (lv_at hl 2 rfl) ?_
    refine lv_if_ne (tgt := 24) hx hb d_B_bulb_17 (by decide) (fun c_2 => ?_) (fun c_2 => ?_)
    · skip
      refine lv_iconst (v := (0 : Int32)) hx hb d_B_bulb_24 (by decide) ?_
      refine hk_zst (w2 := wB G ad (f_B_bulb_25_1 p1 u)) C hP hD hS 3 1 rfl rfl (hk_ib c_1 (N := 6) rfl) (Or.inl rfl) rfl d_B_bulb_25 (fun H locs hP hD hS => ?_)
      generalize hU1 : (f_B_bulb_25_1 p1 u) = U1 at hP hD
      refine va_gets hx hb hZ2 hS hown (hts _ (hk_in (by decide +kernel) rfl)) (fun _ h9 => h9) d_B_bulb_26 ?_
      refine lv_iload_n hx hb d_B_bulb_29 rfl (lv_at hl 1 rfl) ?_
      refine va_ti hx hb hT2 hS (v := .int (k_subst p1.toNatClampNeg)) (by subst hU1; exact hk_ib c_1 (N := 6) rfl) rfl d_B_bulb_30 ?_
      refine lv_istore_n (lv' := [(3, .int (k_subst p1.toNatClampNeg)), (0, .ref (ad 0)), (1, .int p1), (2, .int p2)]) hx hb d_B_bulb_31 rfl hl (by decide) rfl (fun ls hl => ?_)
      refine lv_iload_n hx hb d_B_bulb_32 rfl (lv_at hl 3 rfl) ?_
      refine lv_if_ne (tgt := 45) hx hb d_B_bulb_33 (by decide) (fun c_3 => ?_) (fun c_3 => ?_)
      · skip
        refine lv_iconst (v := (0 : Int32)) hx hb d_B_bulb_45 (by decide) ?_
        refine lv_goto (tgt := 52) hx hb d_B_bulb_46 (by decide) ?_
        subst hU1
        have e : m_B_bulb p1 p2 u = ((0 : Int32), (f_B_bulb_25_1 p1 u)) := (if_neg c_1).trans ((if_neg c_2).trans ((if_neg c_3).trans (rfl)))
        exact hk_ri C hAe hP hD hS (by rw [e]) (by rw [e]) d_B_bulb_52
      · skip
        refine lv_aload_n hx hb d_B_bulb_36 rfl (lv_at hl 1 rfl) ?_
        refine hk_get (v := .ref (ad 3)) C hP 0 4 2 i_B rfl rfl (by decide) (hk_in (by decide +kernel) rfl) rfl d_B_bulb_37 ?_
        refine lv_iload_n hx hb d_B_bulb_40 rfl (lv_at hl 0 rfl) ?_
        refine hk_zld C hP 3 1 (v := (b2 U1) (k_subst p1.toNatClampNeg).toNatClampNeg) rfl rfl (by subst hU1; exact hk_sub _) rfl d_B_bulb_41 ?_
        refine lv_if_eq (tgt := 49) hx hb d_B_bulb_42 (by decide) (fun c_4 => ?_) (fun c_4 => ?_)
        · skip
          refine lv_iload_n hx hb d_B_bulb_49 rfl (lv_at hl 0 rfl) ?_
          refine lv_iconst (v := (1 : Int32)) hx hb d_B_bulb_50 (by decide) ?_
          refine lv_iadd hx hb d_B_bulb_51 ?_
          subst hU1
          have e : m_B_bulb p1 p2 u = ((k_subst p1.toNatClampNeg) + (1 : Int32), (f_B_bulb_25_1 p1 u)) := (if_neg c_1).trans ((if_neg c_2).trans ((if_pos c_3).trans ((if_pos c_4).trans (rfl))))
          exact hk_ri C hAe hP hD hS (by rw [e]) (by rw [e]) d_B_bulb_52
        · skip
          refine lv_iconst (v := (0 : Int32)) hx hb d_B_bulb_45 (by decide) ?_
          refine lv_goto (tgt := 52) hx hb d_B_bulb_46 (by decide) ?_
          subst hU1
          have e : m_B_bulb p1 p2 u = ((0 : Int32), (f_B_bulb_25_1 p1 u)) := (if_neg c_1).trans ((if_neg c_2).trans ((if_pos c_3).trans ((if_neg c_4).trans (rfl))))
          exact hk_ri C hAe hP hD hS (by rw [e]) (by rw [e]) d_B_bulb_52
    · skip
      refine lv_iconst (v := (1 : Int32)) hx hb d_B_bulb_20 (by decide) ?_
      refine lv_goto (tgt := 25) hx hb d_B_bulb_21 (by decide) ?_
      refine hk_zst (w2 := wB G ad (f_B_bulb_25 p1 u)) C hP hD hS 3 1 rfl rfl (hk_ib c_1 (N := 6) rfl) (Or.inr rfl) rfl d_B_bulb_25 (fun H locs hP hD hS => ?_)
      generalize hU2 : (f_B_bulb_25 p1 u) = U2 at hP hD
      refine va_gets hx hb hZ2 hS hown (hts _ (hk_in (by decide +kernel) rfl)) (fun _ h9 => h9) d_B_bulb_26 ?_
      refine lv_iload_n hx hb d_B_bulb_29 rfl (lv_at hl 1 rfl) ?_
      refine va_ti hx hb hT2 hS (v := .int (k_subst p1.toNatClampNeg)) (by subst hU2; exact hk_ib c_1 (N := 6) rfl) rfl d_B_bulb_30 ?_
      refine lv_istore_n (lv' := [(3, .int (k_subst p1.toNatClampNeg)), (0, .ref (ad 0)), (1, .int p1), (2, .int p2)]) hx hb d_B_bulb_31 rfl hl (by decide) rfl (fun ls hl => ?_)
      refine lv_iload_n hx hb d_B_bulb_32 rfl (lv_at hl 3 rfl) ?_
      refine lv_if_ne (tgt := 45) hx hb d_B_bulb_33 (by decide) (fun c_5 => ?_) (fun c_5 => ?_)
      · skip
        refine lv_iconst (v := (0 : Int32)) hx hb d_B_bulb_45 (by decide) ?_
        refine lv_goto (tgt := 52) hx hb d_B_bulb_46 (by decide) ?_
        subst hU2
        have e : m_B_bulb p1 p2 u = ((0 : Int32), (f_B_bulb_25 p1 u)) := (if_neg c_1).trans ((if_pos c_2).trans ((if_neg c_5).trans (rfl)))
        exact hk_ri C hAe hP hD hS (by rw [e]) (by rw [e]) d_B_bulb_52
      · skip
        refine lv_aload_n hx hb d_B_bulb_36 rfl (lv_at hl 1 rfl) ?_
        refine hk_get (v := .ref (ad 3)) C hP 0 4 2 i_B rfl rfl (by decide) (hk_in (by decide +kernel) rfl) rfl d_B_bulb_37 ?_
        refine lv_iload_n hx hb d_B_bulb_40 rfl (lv_at hl 0 rfl) ?_
        refine hk_zld C hP 3 1 (v := (b2 U2) (k_subst p1.toNatClampNeg).toNatClampNeg) rfl rfl (by subst hU2; exact hk_sub _) rfl d_B_bulb_41 ?_
        refine lv_if_eq (tgt := 49) hx hb d_B_bulb_42 (by decide) (fun c_6 => ?_) (fun c_6 => ?_)
        · skip
          refine lv_iload_n hx hb d_B_bulb_49 rfl (lv_at hl 0 rfl) ?_
          refine lv_iconst (v := (1 : Int32)) hx hb d_B_bulb_50 (by decide) ?_
          refine lv_iadd hx hb d_B_bulb_51 ?_
          subst hU2
          have e : m_B_bulb p1 p2 u = ((k_subst p1.toNatClampNeg) + (1 : Int32), (f_B_bulb_25 p1 u)) := (if_neg c_1).trans ((if_pos c_2).trans ((if_pos c_5).trans ((if_pos c_6).trans (rfl))))
          exact hk_ri C hAe hP hD hS (by rw [e]) (by rw [e]) d_B_bulb_52
        · skip
          refine lv_iconst (v := (0 : Int32)) hx hb d_B_bulb_45 (by decide) ?_
          refine lv_goto (tgt := 52) hx hb d_B_bulb_46 (by decide) ?_
          subst hU2
          have e : m_B_bulb p1 p2 u = ((0 : Int32), (f_B_bulb_25 p1 u)) := (if_neg c_1).trans ((if_pos c_2).trans ((if_pos c_5).trans ((if_neg c_6).trans (rfl))))
          exact hk_ri C hAe hP hD hS (by rw [e]) (by rw [e]) d_B_bulb_52
  · skip
    refine lv_iconst (v := (-1 : Int32)) hx hb d_B_bulb_9 (by decide) ?_
    have e : m_B_bulb p1 p2 u = ((-1 : Int32), u) := (if_pos c_1).trans (rfl)
    exact hk_ri C hAe hP hD hS (by rw [e]) (by rw [e]) d_B_bulb_10
theorem Y_B_rain : hk_Y y_B_rain b_B_rain 3 (some .int) 1 := ⟨hk_in (by decide +kernel) rfl, hk_in (by decide +kernel) rfl, hk_in (by decide +kernel) rfl, hk_in (List.mem_of_getElem? (i := 403) rfl) rfl, by decide, by decide, by decide +kernel⟩
abbrev rm_B_rain : Room := { frames := 1, cells := 0, slots := 0, locals := 21 }
set_option maxHeartbeats 4000000 in
set_option maxRecDepth 100000 in
theorem c_B_rain (l : Launch) (G : hk_G) (ad : Nat → Nat) (u : cB) (p1 : Int32) (hI : Iv u) : hk_I l G y_B_rain b_B_rain 3 (some .int) rm_B_rain [.ref (ad 0), .int p1] (wB G ad u) ((m_B_rain p1 u).1) (wB G ad ((m_B_rain p1 u).2)) := by
  refine hk_I_of (by decide) (Nat.le_of_ble_eq_true rfl) ?_
  intro p e s m below meth c A ls C hAe hA hP hD hS hl
  have hx := C.1
  have hb := C.2.1
  have hown := C.2.2.2.2.1
  have hts := C.2.2.2.2.2.1
  have hE := C.2.2.2.2.2.2.2
  have hl : lv_has ls 3 [(0, .ref (ad 0)), (1, .int p1)] := hl
  refine lv_iload_n hx hb d_B_rain_0 rfl (lv_at hl 1 rfl) ?_
  refine lv_bipush (v := (9 : Int32)) hx hb d_B_rain_1 (by decide) ?_
  refine hk_goIe (hk_kS (k := 2) (As := [.int p1, .int (9 : Int32)]) (rest := []) C (c_B_isUpTo l G p1 (9 : Int32) _) Y_B_isUpTo (hk_in (by decide +kernel) rfl) rfl rfl ⟨Nat.le_of_ble_eq_true rfl, Nat.le_of_ble_eq_true rfl⟩ hk_Pn (hk_Dn (A := A)) rfl hl.1 rfl (Nat.le_of_ble_eq_true rfl) d_B_rain_3 ⟨Nat.zero_le _, Nat.zero_le _⟩) hP hS hA (fun H locs hP hS => ?_)
  refine lv_if_ne (tgt := 12) hx hb d_B_rain_6 (by decide) (fun c_1 => ?_) (fun c_1 => ?_)
  · skip
    refine lv_aload_n hx hb d_B_rain_12 rfl (lv_at hl 0 rfl) ?_
    refine hk_get (v := .int (b8 u)) C hP 0 4 8 i_B rfl rfl (by decide) (hk_in (by decide +kernel) rfl) rfl d_B_rain_13 ?_
    refine lv_istore_n (lv' := [(2, .int (b8 u)), (0, .ref (ad 0)), (1, .int p1)]) hx hb d_B_rain_16 rfl hl (by decide) rfl (fun ls hl => ?_)
    refine lv_aload_n hx hb d_B_rain_17 rfl (lv_at hl 1 rfl) ?_
    refine lv_iload_n hx hb d_B_rain_18 rfl (lv_at hl 2 rfl) ?_
    refine hk_put (w2 := wB G ad (f_B_rain_19 p1 u)) (v := .int p1) (ty := .int) C hP hD hS 0 4 8 i_B t_B_ok n_B rfl rfl (by decide) (hk_in (by decide +kernel) rfl) rfl (by decide +kernel) rfl rfl (Nat.le_of_ble_eq_true rfl) rfl d_B_rain_19 (fun H locs hP hD hS => ?_)
    have hI1 : Iv (f_B_rain_19 p1 u) := (Iv_of (k2_f_B_rain_19 _ _) (k6_f_B_rain_19 _ _) hI)
    generalize hU1 : (f_B_rain_19 p1 u) = U1 at hP hD hI1
    refine lv_iload_n hx hb d_B_rain_22 rfl (lv_at hl 0 rfl) ?_
    subst hU1
    have e : m_B_rain p1 u = (b8 u, (f_B_rain_19 p1 u)) := (if_neg c_1).trans (rfl)
    exact hk_ri C hAe hP hD hS (by rw [e]) (by rw [e]) d_B_rain_23
  · skip
    refine lv_bipush (v := (-2 : Int32)) hx hb d_B_rain_9 (by decide) ?_
    have e : m_B_rain p1 u = ((-2 : Int32), u) := (if_pos c_1).trans (rfl)
    exact hk_ri C hAe hP hD hS (by rw [e]) (by rw [e]) d_B_rain_11
theorem Y_B_window : hk_Y y_B_window b_B_window 3 (some .int) 2 := ⟨hk_in (by decide +kernel) rfl, hk_in (by decide +kernel) rfl, hk_in (by decide +kernel) rfl, hk_in (List.mem_of_getElem? (i := 407) rfl) rfl, by decide, by decide, by decide +kernel⟩
abbrev rm_B_window : Room := { frames := 2, cells := 0, slots := 0, locals := 42 }
set_option maxHeartbeats 4000000 in
set_option maxRecDepth 100000 in
theorem c_B_window (l : Launch) (G : hk_G) (ad : Nat → Nat) (u : cB) (p1 : Int32) (p2 : Int32) (hI : Iv u) : hk_I l G y_B_window b_B_window 3 (some .int) rm_B_window [.ref (ad 0), .int p1, .int p2] (wB G ad u) ((m_B_window p1 p2 u).1) (wB G ad ((m_B_window p1 p2 u).2)) := by
  refine hk_I_of (by decide) (Nat.le_of_ble_eq_true rfl) ?_
  intro p e s m below meth c A ls C hAe hA hP hD hS hl
  have hx := C.1
  have hb := C.2.1
  have hown := C.2.2.2.2.1
  have hts := C.2.2.2.2.2.1
  have hE := C.2.2.2.2.2.2.2
  have hl : lv_has ls 3 [(0, .ref (ad 0)), (1, .int p1), (2, .int p2)] := hl
  refine lv_iload_n hx hb d_B_window_0 rfl (lv_at hl 1 rfl) ?_
  refine lv_iconst (v := (4 : Int32)) hx hb d_B_window_1 (by decide) ?_
  refine hk_goIe (hk_kS (k := 2) (As := [.int p1, .int (4 : Int32)]) (rest := []) C (c_B_isBelow l G p1 (4 : Int32) _) Y_B_isBelow (hk_in (by decide +kernel) rfl) rfl rfl ⟨Nat.le_of_ble_eq_true rfl, Nat.le_of_ble_eq_true rfl⟩ hk_Pn (hk_Dn (A := A)) rfl hl.1 rfl (Nat.le_of_ble_eq_true rfl) d_B_window_2 ⟨Nat.zero_le _, Nat.zero_le _⟩) hP hS hA (fun H locs hP hS => ?_)
  refine lv_if_ne (tgt := 10) hx hb d_B_window_5 (by decide) (fun c_1 => ?_) (fun c_1 => ?_)
  · skip
    refine lv_iload_n hx hb d_B_window_10 rfl (lv_at hl 2 rfl) ?_
    refine lv_sipush (v := (200 : Int32)) hx hb d_B_window_11 (by decide) ?_
    refine hk_goIe (hk_kS (k := 2) (As := [.int p2, .int (200 : Int32)]) (rest := []) C (c_B_isUpTo l G p2 (200 : Int32) _) Y_B_isUpTo (hk_in (by decide +kernel) rfl) rfl rfl ⟨Nat.le_of_ble_eq_true rfl, Nat.le_of_ble_eq_true rfl⟩ hk_Pn (hk_Dn (A := A)) rfl hl.1 rfl (Nat.le_of_ble_eq_true rfl) d_B_window_14 ⟨Nat.zero_le _, Nat.zero_le _⟩) hP hS hA (fun H locs hP hS => ?_)
    refine lv_if_ne (tgt := 23) hx hb d_B_window_17 (by decide) (fun c_2 => ?_) (fun c_2 => ?_)
    · skip
      rcases hk_b4 c_1 with rfl | rfl | rfl | rfl
      · skip
        refine lv_aload_n hx hb d_B_window_23 rfl (lv_at hl 0 rfl) ?_
        refine hk_get (v := .ref (ad 8)) C hP 0 4 5 i_B rfl rfl (by decide) (hk_in (by decide +kernel) rfl) rfl d_B_window_24 ?_
        refine lv_iload_n hx hb d_B_window_27 rfl (lv_at hl 1 rfl) ?_
        refine hk_ald C hP 8 3 (v := (ad 9)) rfl rfl (hk_inl (by decide)) rfl d_B_window_28 ?_
        refine lv_iload_n hx hb d_B_window_29 rfl (lv_at hl 2 rfl) ?_
        refine hk_putN (host := "BodyRows2") (w2 := wB G ad (f_B_window_30 (0 : Int32) p2 u)) (v := .int p2) (ty := .int) C hP hD hS 9 2 1 i_Window t_Window_ok n_Window rfl rfl (by decide) (by decide +kernel) rfl (by decide +kernel) rfl rfl (Nat.le_of_ble_eq_true rfl) rfl d_B_window_30 (fun H locs hP hD hS => ?_)
        have hI1 : Iv (f_B_window_30 (0 : Int32) p2 u) := (Iv_of (k2_f_B_window_30 _ _ _) (k6_f_B_window_30 _ _ _) hI)
        generalize hU1 : (f_B_window_30 (0 : Int32) p2 u) = U1 at hP hD hI1
        refine lv_aload_n hx hb d_B_window_33 rfl (lv_at hl 0 rfl) ?_
        refine hk_get (v := .ref (ad 8)) C hP 0 4 5 i_B rfl rfl (by decide) (hk_in (by decide +kernel) rfl) rfl d_B_window_34 ?_
        refine lv_iload_n hx hb d_B_window_37 rfl (lv_at hl 1 rfl) ?_
        refine hk_ald C hP 8 3 (v := (ad 9)) rfl rfl (hk_inl (by decide)) rfl d_B_window_38 ?_
        refine hk_goI1 9 (w2 := wB G ad U1) (hk_kN (host := "BodyRows2") (k := 0) (As := []) (rest := []) C (c_Window_ticksToWish l G (ad 9) (b5 U1 0) _) Y_Window_ticksToWish (by decide +kernel) rfl rfl ⟨Nat.le_of_ble_eq_true rfl, Nat.le_of_ble_eq_true rfl⟩ (va_recv hE.1 hP (ci := 2) (q0 := 9) rfl rfl) (hP.sub (ws' := (wN (ad 9) (b5 U1 0))) [9] rfl) (hD.sub (ws' := (wN (ad 9) (b5 U1 0))) [9] (by decide) rfl) rfl hl.1 rfl (Nat.le_of_ble_eq_true rfl) d_B_window_39 ⟨Nat.zero_le _, Nat.zero_le _⟩) hP hD hS hA rfl rfl (fun H locs hP hD hS => ?_)
        subst hU1
        have e : m_B_window (0 : Int32) p2 u = (m_Window_ticksToWish (b5 (f_B_window_30 (0 : Int32) p2 u) 0), (f_B_window_30 (0 : Int32) p2 u)) := (if_neg c_1).trans ((if_neg c_2).trans (rfl))
        exact hk_ri C hAe hP hD hS (by rw [e]) (by rw [e]) d_B_window_42
      · skip
        refine lv_aload_n hx hb d_B_window_23 rfl (lv_at hl 0 rfl) ?_
        refine hk_get (v := .ref (ad 8)) C hP 0 4 5 i_B rfl rfl (by decide) (hk_in (by decide +kernel) rfl) rfl d_B_window_24 ?_
        refine lv_iload_n hx hb d_B_window_27 rfl (lv_at hl 1 rfl) ?_
        refine hk_ald C hP 8 3 (v := (ad 10)) rfl rfl (hk_inl (by decide)) rfl d_B_window_28 ?_
        refine lv_iload_n hx hb d_B_window_29 rfl (lv_at hl 2 rfl) ?_
        refine hk_putN (host := "BodyRows2") (w2 := wB G ad (f_B_window_30 (1 : Int32) p2 u)) (v := .int p2) (ty := .int) C hP hD hS 10 2 1 i_Window t_Window_ok n_Window rfl rfl (by decide) (by decide +kernel) rfl (by decide +kernel) rfl rfl (Nat.le_of_ble_eq_true rfl) rfl d_B_window_30 (fun H locs hP hD hS => ?_)
        have hI2 : Iv (f_B_window_30 (1 : Int32) p2 u) := (Iv_of (k2_f_B_window_30 _ _ _) (k6_f_B_window_30 _ _ _) hI)
        generalize hU2 : (f_B_window_30 (1 : Int32) p2 u) = U2 at hP hD hI2
        refine lv_aload_n hx hb d_B_window_33 rfl (lv_at hl 0 rfl) ?_
        refine hk_get (v := .ref (ad 8)) C hP 0 4 5 i_B rfl rfl (by decide) (hk_in (by decide +kernel) rfl) rfl d_B_window_34 ?_
        refine lv_iload_n hx hb d_B_window_37 rfl (lv_at hl 1 rfl) ?_
        refine hk_ald C hP 8 3 (v := (ad 10)) rfl rfl (hk_inl (by decide)) rfl d_B_window_38 ?_
        refine hk_goI1 10 (w2 := wB G ad U2) (hk_kN (host := "BodyRows2") (k := 0) (As := []) (rest := []) C (c_Window_ticksToWish l G (ad 10) (b5 U2 1) _) Y_Window_ticksToWish (by decide +kernel) rfl rfl ⟨Nat.le_of_ble_eq_true rfl, Nat.le_of_ble_eq_true rfl⟩ (va_recv hE.1 hP (ci := 2) (q0 := 10) rfl rfl) (hP.sub (ws' := (wN (ad 10) (b5 U2 1))) [10] rfl) (hD.sub (ws' := (wN (ad 10) (b5 U2 1))) [10] (by decide) rfl) rfl hl.1 rfl (Nat.le_of_ble_eq_true rfl) d_B_window_39 ⟨Nat.zero_le _, Nat.zero_le _⟩) hP hD hS hA rfl rfl (fun H locs hP hD hS => ?_)
        subst hU2
        have e : m_B_window (1 : Int32) p2 u = (m_Window_ticksToWish (b5 (f_B_window_30 (1 : Int32) p2 u) 1), (f_B_window_30 (1 : Int32) p2 u)) := (if_neg c_1).trans ((if_neg c_2).trans (rfl))
        exact hk_ri C hAe hP hD hS (by rw [e]) (by rw [e]) d_B_window_42
      · skip
        refine lv_aload_n hx hb d_B_window_23 rfl (lv_at hl 0 rfl) ?_
        refine hk_get (v := .ref (ad 8)) C hP 0 4 5 i_B rfl rfl (by decide) (hk_in (by decide +kernel) rfl) rfl d_B_window_24 ?_
        refine lv_iload_n hx hb d_B_window_27 rfl (lv_at hl 1 rfl) ?_
        refine hk_ald C hP 8 3 (v := (ad 11)) rfl rfl (hk_inl (by decide)) rfl d_B_window_28 ?_
        refine lv_iload_n hx hb d_B_window_29 rfl (lv_at hl 2 rfl) ?_
        refine hk_putN (host := "BodyRows2") (w2 := wB G ad (f_B_window_30 (2 : Int32) p2 u)) (v := .int p2) (ty := .int) C hP hD hS 11 2 1 i_Window t_Window_ok n_Window rfl rfl (by decide) (by decide +kernel) rfl (by decide +kernel) rfl rfl (Nat.le_of_ble_eq_true rfl) rfl d_B_window_30 (fun H locs hP hD hS => ?_)
        have hI3 : Iv (f_B_window_30 (2 : Int32) p2 u) := (Iv_of (k2_f_B_window_30 _ _ _) (k6_f_B_window_30 _ _ _) hI)
        generalize hU3 : (f_B_window_30 (2 : Int32) p2 u) = U3 at hP hD hI3
        refine lv_aload_n hx hb d_B_window_33 rfl (lv_at hl 0 rfl) ?_
        refine hk_get (v := .ref (ad 8)) C hP 0 4 5 i_B rfl rfl (by decide) (hk_in (by decide +kernel) rfl) rfl d_B_window_34 ?_
        refine lv_iload_n hx hb d_B_window_37 rfl (lv_at hl 1 rfl) ?_
        refine hk_ald C hP 8 3 (v := (ad 11)) rfl rfl (hk_inl (by decide)) rfl d_B_window_38 ?_
        refine hk_goI1 11 (w2 := wB G ad U3) (hk_kN (host := "BodyRows2") (k := 0) (As := []) (rest := []) C (c_Window_ticksToWish l G (ad 11) (b5 U3 2) _) Y_Window_ticksToWish (by decide +kernel) rfl rfl ⟨Nat.le_of_ble_eq_true rfl, Nat.le_of_ble_eq_true rfl⟩ (va_recv hE.1 hP (ci := 2) (q0 := 11) rfl rfl) (hP.sub (ws' := (wN (ad 11) (b5 U3 2))) [11] rfl) (hD.sub (ws' := (wN (ad 11) (b5 U3 2))) [11] (by decide) rfl) rfl hl.1 rfl (Nat.le_of_ble_eq_true rfl) d_B_window_39 ⟨Nat.zero_le _, Nat.zero_le _⟩) hP hD hS hA rfl rfl (fun H locs hP hD hS => ?_)
        subst hU3
        have e : m_B_window (2 : Int32) p2 u = (m_Window_ticksToWish (b5 (f_B_window_30 (2 : Int32) p2 u) 2), (f_B_window_30 (2 : Int32) p2 u)) := (if_neg c_1).trans ((if_neg c_2).trans (rfl))
        exact hk_ri C hAe hP hD hS (by rw [e]) (by rw [e]) d_B_window_42
      · skip
        refine lv_aload_n hx hb d_B_window_23 rfl (lv_at hl 0 rfl) ?_
        refine hk_get (v := .ref (ad 8)) C hP 0 4 5 i_B rfl rfl (by decide) (hk_in (by decide +kernel) rfl) rfl d_B_window_24 ?_
        refine lv_iload_n hx hb d_B_window_27 rfl (lv_at hl 1 rfl) ?_
        refine hk_ald C hP 8 3 (v := (ad 12)) rfl rfl (hk_inl (by decide)) rfl d_B_window_28 ?_
        refine lv_iload_n hx hb d_B_window_29 rfl (lv_at hl 2 rfl) ?_
        refine hk_putN (host := "BodyRows2") (w2 := wB G ad (f_B_window_30 (3 : Int32) p2 u)) (v := .int p2) (ty := .int) C hP hD hS 12 2 1 i_Window t_Window_ok n_Window rfl rfl (by decide) (by decide +kernel) rfl (by decide +kernel) rfl rfl (Nat.le_of_ble_eq_true rfl) rfl d_B_window_30 (fun H locs hP hD hS => ?_)
        have hI4 : Iv (f_B_window_30 (3 : Int32) p2 u) := (Iv_of (k2_f_B_window_30 _ _ _) (k6_f_B_window_30 _ _ _) hI)
        generalize hU4 : (f_B_window_30 (3 : Int32) p2 u) = U4 at hP hD hI4
        refine lv_aload_n hx hb d_B_window_33 rfl (lv_at hl 0 rfl) ?_
        refine hk_get (v := .ref (ad 8)) C hP 0 4 5 i_B rfl rfl (by decide) (hk_in (by decide +kernel) rfl) rfl d_B_window_34 ?_
        refine lv_iload_n hx hb d_B_window_37 rfl (lv_at hl 1 rfl) ?_
        refine hk_ald C hP 8 3 (v := (ad 12)) rfl rfl (hk_inl (by decide)) rfl d_B_window_38 ?_
        refine hk_goI1 12 (w2 := wB G ad U4) (hk_kN (host := "BodyRows2") (k := 0) (As := []) (rest := []) C (c_Window_ticksToWish l G (ad 12) (b5 U4 3) _) Y_Window_ticksToWish (by decide +kernel) rfl rfl ⟨Nat.le_of_ble_eq_true rfl, Nat.le_of_ble_eq_true rfl⟩ (va_recv hE.1 hP (ci := 2) (q0 := 12) rfl rfl) (hP.sub (ws' := (wN (ad 12) (b5 U4 3))) [12] rfl) (hD.sub (ws' := (wN (ad 12) (b5 U4 3))) [12] (by decide) rfl) rfl hl.1 rfl (Nat.le_of_ble_eq_true rfl) d_B_window_39 ⟨Nat.zero_le _, Nat.zero_le _⟩) hP hD hS hA rfl rfl (fun H locs hP hD hS => ?_)
        subst hU4
        have e : m_B_window (3 : Int32) p2 u = (m_Window_ticksToWish (b5 (f_B_window_30 (3 : Int32) p2 u) 3), (f_B_window_30 (3 : Int32) p2 u)) := (if_neg c_1).trans ((if_neg c_2).trans (rfl))
        exact hk_ri C hAe hP hD hS (by rw [e]) (by rw [e]) d_B_window_42
    · skip
      refine lv_bipush (v := (-2 : Int32)) hx hb d_B_window_20 (by decide) ?_
      have e : m_B_window p1 p2 u = ((-2 : Int32), u) := (if_neg c_1).trans ((if_pos c_2).trans (rfl))
      exact hk_ri C hAe hP hD hS (by rw [e]) (by rw [e]) d_B_window_22
  · skip
    refine lv_iconst (v := (-1 : Int32)) hx hb d_B_window_8 (by decide) ?_
    have e : m_B_window p1 p2 u = ((-1 : Int32), u) := (if_pos c_1).trans (rfl)
    exact hk_ri C hAe hP hD hS (by rw [e]) (by rw [e]) d_B_window_9
end
