section
-- ===== PART A: goes FIRST, ahead of the names: the tables' words, and 'selects' of the private methods out of them =====
/-- a private method of a class that the tables say can be made, by its rows of tables_1 -/
def lw_okq (q : MethodName × Nat) : Prop := (q.1.cls ≠ "java/lang/invoke/MethodHandle" ∧ q.1.cls ≠ "java/lang/invoke/VarHandle") ∧ Cond.instantiable q.1.cls q.2 ∈ tables_1 ∧ Cond.privateMethod q.1 ∈ tables_1 ∧ Cond.instanceMethod q.1 ∈ tables_1
theorem lw_p0 : lw_okq (⟨"BodyRows2", "noteOutputs", "()V"⟩, 14) := ⟨⟨by decide +kernel, by decide +kernel⟩, List.mem_of_getElem? (i := 13) (by decide +kernel), List.mem_of_getElem? (i := 162) (by decide +kernel), List.mem_of_getElem? (i := 163) (by decide +kernel)⟩
theorem lw_p1 : lw_okq (⟨"BodyRows2", "outputNow", "(I)I"⟩, 14) := ⟨⟨by decide +kernel, by decide +kernel⟩, List.mem_of_getElem? (i := 13) (by decide +kernel), List.mem_of_getElem? (i := 166) (by decide +kernel), List.mem_of_getElem? (i := 167) (by decide +kernel)⟩
theorem lw_p2 : lw_okq (⟨"BodyRows2", "isParkingLit", "()Z"⟩, 14) := ⟨⟨by decide +kernel, by decide +kernel⟩, List.mem_of_getElem? (i := 13) (by decide +kernel), List.mem_of_getElem? (i := 170) (by decide +kernel), List.mem_of_getElem? (i := 171) (by decide +kernel)⟩
theorem lw_p3 : lw_okq (⟨"BodyRows2", "wantsLow", "()Z"⟩, 14) := ⟨⟨by decide +kernel, by decide +kernel⟩, List.mem_of_getElem? (i := 13) (by decide +kernel), List.mem_of_getElem? (i := 174) (by decide +kernel), List.mem_of_getElem? (i := 175) (by decide +kernel)⟩
theorem lw_p4 : lw_okq (⟨"BodyRows2", "isLowLit", "()Z"⟩, 14) := ⟨⟨by decide +kernel, by decide +kernel⟩, List.mem_of_getElem? (i := 13) (by decide +kernel), List.mem_of_getElem? (i := 181) (by decide +kernel), List.mem_of_getElem? (i := 182) (by decide +kernel)⟩
theorem lw_p5 : lw_okq (⟨"BodyRows2", "isSideLit", "(I)Z"⟩, 14) := ⟨⟨by decide +kernel, by decide +kernel⟩, List.mem_of_getElem? (i := 13) (by decide +kernel), List.mem_of_getElem? (i := 185) (by decide +kernel), List.mem_of_getElem? (i := 186) (by decide +kernel)⟩
theorem lw_p6 : lw_okq (⟨"BodyRows2", "turnBulbIsOut", "(I)Z"⟩, 14) := ⟨⟨by decide +kernel, by decide +kernel⟩, List.mem_of_getElem? (i := 13) (by decide +kernel), List.mem_of_getElem? (i := 189) (by decide +kernel), List.mem_of_getElem? (i := 190) (by decide +kernel)⟩
theorem lw_p7 : lw_okq (⟨"BodyRows2$Side", "isBright", "(Z)Z"⟩, 3) := ⟨⟨by decide +kernel, by decide +kernel⟩, List.mem_of_getElem? (i := 22) (by decide +kernel), List.mem_of_getElem? (i := 193) (by decide +kernel), List.mem_of_getElem? (i := 194) (by decide +kernel)⟩
theorem lw_p8 : lw_okq (⟨"BodyRows2", "followBrightness", "(I)V"⟩, 14) := ⟨⟨by decide +kernel, by decide +kernel⟩, List.mem_of_getElem? (i := 13) (by decide +kernel), List.mem_of_getElem? (i := 200) (by decide +kernel), List.mem_of_getElem? (i := 201) (by decide +kernel)⟩
theorem lw_p9 : lw_okq (⟨"BodyRows2", "beginWantedSides", "()V"⟩, 14) := ⟨⟨by decide +kernel, by decide +kernel⟩, List.mem_of_getElem? (i := 13) (by decide +kernel), List.mem_of_getElem? (i := 204) (by decide +kernel), List.mem_of_getElem? (i := 205) (by decide +kernel)⟩
theorem lw_p10 : lw_okq (⟨"BodyRows2", "isWanted", "(I)Z"⟩, 14) := ⟨⟨by decide +kernel, by decide +kernel⟩, List.mem_of_getElem? (i := 13) (by decide +kernel), List.mem_of_getElem? (i := 208) (by decide +kernel), List.mem_of_getElem? (i := 209) (by decide +kernel)⟩
theorem lw_p11 : lw_okq (⟨"BodyRows2$Side", "begin", "()V"⟩, 3) := ⟨⟨by decide +kernel, by decide +kernel⟩, List.mem_of_getElem? (i := 22) (by decide +kernel), List.mem_of_getElem? (i := 212) (by decide +kernel), List.mem_of_getElem? (i := 213) (by decide +kernel)⟩
theorem lw_p12 : lw_okq (⟨"BodyRows2", "endUnwantedSide", "(I)V"⟩, 14) := ⟨⟨by decide +kernel, by decide +kernel⟩, List.mem_of_getElem? (i := 13) (by decide +kernel), List.mem_of_getElem? (i := 216) (by decide +kernel), List.mem_of_getElem? (i := 217) (by decide +kernel)⟩
theorem lw_p13 : lw_okq (⟨"BodyRows2", "countChangedOutputs", "()I"⟩, 14) := ⟨⟨by decide +kernel, by decide +kernel⟩, List.mem_of_getElem? (i := 13) (by decide +kernel), List.mem_of_getElem? (i := 220) (by decide +kernel), List.mem_of_getElem? (i := 221) (by decide +kernel)⟩
theorem lw_p14 : lw_okq (⟨"BodyRows2", "tick", "()V"⟩, 14) := ⟨⟨by decide +kernel, by decide +kernel⟩, List.mem_of_getElem? (i := 13) (by decide +kernel), List.mem_of_getElem? (i := 228) (by decide +kernel), List.mem_of_getElem? (i := 229) (by decide +kernel)⟩
theorem lw_p15 : lw_okq (⟨"BodyRows2$Side", "tick", "(ZZ)V"⟩, 3) := ⟨⟨by decide +kernel, by decide +kernel⟩, List.mem_of_getElem? (i := 22) (by decide +kernel), List.mem_of_getElem? (i := 232) (by decide +kernel), List.mem_of_getElem? (i := 233) (by decide +kernel)⟩
def lw_privs_1 : List (MethodName × Nat) := [(⟨"BodyRows2", "noteOutputs", "()V"⟩, 14), (⟨"BodyRows2", "outputNow", "(I)I"⟩, 14), (⟨"BodyRows2", "isParkingLit", "()Z"⟩, 14), (⟨"BodyRows2", "wantsLow", "()Z"⟩, 14), (⟨"BodyRows2", "isLowLit", "()Z"⟩, 14), (⟨"BodyRows2", "isSideLit", "(I)Z"⟩, 14), (⟨"BodyRows2", "turnBulbIsOut", "(I)Z"⟩, 14), (⟨"BodyRows2$Side", "isBright", "(Z)Z"⟩, 3), (⟨"BodyRows2", "followBrightness", "(I)V"⟩, 14), (⟨"BodyRows2", "beginWantedSides", "()V"⟩, 14), (⟨"BodyRows2", "isWanted", "(I)Z"⟩, 14), (⟨"BodyRows2$Side", "begin", "()V"⟩, 3), (⟨"BodyRows2", "endUnwantedSide", "(I)V"⟩, 14), (⟨"BodyRows2", "countChangedOutputs", "()I"⟩, 14), (⟨"BodyRows2", "tick", "()V"⟩, 14), (⟨"BodyRows2$Side", "tick", "(ZZ)V"⟩, 3)]
theorem lw_r1 : ∀ q ∈ lw_privs_1, lw_okq q := List.forall_mem_cons.mpr ⟨lw_p0, List.forall_mem_cons.mpr ⟨lw_p1, List.forall_mem_cons.mpr ⟨lw_p2, List.forall_mem_cons.mpr ⟨lw_p3, List.forall_mem_cons.mpr ⟨lw_p4, List.forall_mem_cons.mpr ⟨lw_p5, List.forall_mem_cons.mpr ⟨lw_p6, List.forall_mem_cons.mpr ⟨lw_p7, List.forall_mem_cons.mpr ⟨lw_p8, List.forall_mem_cons.mpr ⟨lw_p9, List.forall_mem_cons.mpr ⟨lw_p10, List.forall_mem_cons.mpr ⟨lw_p11, List.forall_mem_cons.mpr ⟨lw_p12, List.forall_mem_cons.mpr ⟨lw_p13, List.forall_mem_cons.mpr ⟨lw_p14, List.forall_mem_cons.mpr ⟨lw_p15, fun _ h => absurd h List.not_mem_nil⟩⟩⟩⟩⟩⟩⟩⟩⟩⟩⟩⟩⟩⟩⟩⟩
theorem lw_p16 : lw_okq (⟨"BodyRows2", "wiperSpeed", "()I"⟩, 14) := ⟨⟨by decide +kernel, by decide +kernel⟩, List.mem_of_getElem? (i := 13) (by decide +kernel), List.mem_of_getElem? (i := 236) (by decide +kernel), List.mem_of_getElem? (i := 237) (by decide +kernel)⟩
theorem lw_p17 : lw_okq (⟨"BodyRows2", "rainSpeed", "()I"⟩, 14) := ⟨⟨by decide +kernel, by decide +kernel⟩, List.mem_of_getElem? (i := 13) (by decide +kernel), List.mem_of_getElem? (i := 240) (by decide +kernel), List.mem_of_getElem? (i := 241) (by decide +kernel)⟩
theorem lw_p18 : lw_okq (⟨"BodyRows2", "pauseAfterWiping", "()I"⟩, 14) := ⟨⟨by decide +kernel, by decide +kernel⟩, List.mem_of_getElem? (i := 13) (by decide +kernel), List.mem_of_getElem? (i := 244) (by decide +kernel), List.mem_of_getElem? (i := 245) (by decide +kernel)⟩
theorem lw_p19 : lw_okq (⟨"BodyRows2$Wiper", "tick", "(II)V"⟩, 3) := ⟨⟨by decide +kernel, by decide +kernel⟩, List.mem_of_getElem? (i := 42) (by decide +kernel), List.mem_of_getElem? (i := 248) (by decide +kernel), List.mem_of_getElem? (i := 249) (by decide +kernel)⟩
theorem lw_p20 : lw_okq (⟨"BodyRows2$Wiper", "staysParked", "(I)Z"⟩, 3) := ⟨⟨by decide +kernel, by decide +kernel⟩, List.mem_of_getElem? (i := 42) (by decide +kernel), List.mem_of_getElem? (i := 252) (by decide +kernel), List.mem_of_getElem? (i := 253) (by decide +kernel)⟩
theorem lw_p21 : lw_okq (⟨"BodyRows2", "tickInterior", "()V"⟩, 14) := ⟨⟨by decide +kernel, by decide +kernel⟩, List.mem_of_getElem? (i := 13) (by decide +kernel), List.mem_of_getElem? (i := 259) (by decide +kernel), List.mem_of_getElem? (i := 260) (by decide +kernel)⟩
theorem lw_p22 : lw_okq (⟨"BodyRows2$Window", "tick", "()V"⟩, 3) := ⟨⟨by decide +kernel, by decide +kernel⟩, List.mem_of_getElem? (i := 62) (by decide +kernel), List.mem_of_getElem? (i := 267) (by decide +kernel), List.mem_of_getElem? (i := 268) (by decide +kernel)⟩
theorem lw_p23 : lw_okq (⟨"BodyRows2$Window", "speed", "()I"⟩, 3) := ⟨⟨by decide +kernel, by decide +kernel⟩, List.mem_of_getElem? (i := 62) (by decide +kernel), List.mem_of_getElem? (i := 271) (by decide +kernel), List.mem_of_getElem? (i := 272) (by decide +kernel)⟩
theorem lw_p24 : lw_okq (⟨"BodyRows2$Window", "reverseAt", "(I)Z"⟩, 3) := ⟨⟨by decide +kernel, by decide +kernel⟩, List.mem_of_getElem? (i := 62) (by decide +kernel), List.mem_of_getElem? (i := 281) (by decide +kernel), List.mem_of_getElem? (i := 282) (by decide +kernel)⟩
theorem lw_p25 : lw_okq (⟨"BodyRows2$Window", "learnAtEnd", "()Z"⟩, 3) := ⟨⟨by decide +kernel, by decide +kernel⟩, List.mem_of_getElem? (i := 62) (by decide +kernel), List.mem_of_getElem? (i := 289) (by decide +kernel), List.mem_of_getElem? (i := 290) (by decide +kernel)⟩
theorem lw_p26 : lw_okq (⟨"BodyRows2$Loads", "measure", "(I)V"⟩, 6) := ⟨⟨by decide +kernel, by decide +kernel⟩, List.mem_of_getElem? (i := 80) (by decide +kernel), List.mem_of_getElem? (i := 297) (by decide +kernel), List.mem_of_getElem? (i := 298) (by decide +kernel)⟩
theorem lw_p27 : lw_okq (⟨"BodyRows2$Loads", "findNextToShed", "()I"⟩, 6) := ⟨⟨by decide +kernel, by decide +kernel⟩, List.mem_of_getElem? (i := 80) (by decide +kernel), List.mem_of_getElem? (i := 301) (by decide +kernel), List.mem_of_getElem? (i := 302) (by decide +kernel)⟩
theorem lw_p28 : lw_okq (⟨"BodyRows2$Loads", "setOff", "(IZ)V"⟩, 6) := ⟨⟨by decide +kernel, by decide +kernel⟩, List.mem_of_getElem? (i := 80) (by decide +kernel), List.mem_of_getElem? (i := 305) (by decide +kernel), List.mem_of_getElem? (i := 306) (by decide +kernel)⟩
theorem lw_p29 : lw_okq (⟨"BodyRows2$Loads", "findNextToRestore", "()I"⟩, 6) := ⟨⟨by decide +kernel, by decide +kernel⟩, List.mem_of_getElem? (i := 80) (by decide +kernel), List.mem_of_getElem? (i := 309) (by decide +kernel), List.mem_of_getElem? (i := 310) (by decide +kernel)⟩
theorem lw_p30 : lw_okq (⟨"BodyRows2$Loads", "countOff", "()I"⟩, 6) := ⟨⟨by decide +kernel, by decide +kernel⟩, List.mem_of_getElem? (i := 80) (by decide +kernel), List.mem_of_getElem? (i := 313) (by decide +kernel), List.mem_of_getElem? (i := 314) (by decide +kernel)⟩
theorem lw_p31 : lw_okq (⟨"BodyRows2$Loads", "isFull", "()Z"⟩, 6) := ⟨⟨by decide +kernel, by decide +kernel⟩, List.mem_of_getElem? (i := 80) (by decide +kernel), List.mem_of_getElem? (i := 321) (by decide +kernel), List.mem_of_getElem? (i := 322) (by decide +kernel)⟩
def lw_privs_2 : List (MethodName × Nat) := [(⟨"BodyRows2", "wiperSpeed", "()I"⟩, 14), (⟨"BodyRows2", "rainSpeed", "()I"⟩, 14), (⟨"BodyRows2", "pauseAfterWiping", "()I"⟩, 14), (⟨"BodyRows2$Wiper", "tick", "(II)V"⟩, 3), (⟨"BodyRows2$Wiper", "staysParked", "(I)Z"⟩, 3), (⟨"BodyRows2", "tickInterior", "()V"⟩, 14), (⟨"BodyRows2$Window", "tick", "()V"⟩, 3), (⟨"BodyRows2$Window", "speed", "()I"⟩, 3), (⟨"BodyRows2$Window", "reverseAt", "(I)Z"⟩, 3), (⟨"BodyRows2$Window", "learnAtEnd", "()Z"⟩, 3), (⟨"BodyRows2$Loads", "measure", "(I)V"⟩, 6), (⟨"BodyRows2$Loads", "findNextToShed", "()I"⟩, 6), (⟨"BodyRows2$Loads", "setOff", "(IZ)V"⟩, 6), (⟨"BodyRows2$Loads", "findNextToRestore", "()I"⟩, 6), (⟨"BodyRows2$Loads", "countOff", "()I"⟩, 6), (⟨"BodyRows2$Loads", "isFull", "()Z"⟩, 6)]
theorem lw_r2 : ∀ q ∈ lw_privs_2, lw_okq q := List.forall_mem_cons.mpr ⟨lw_p16, List.forall_mem_cons.mpr ⟨lw_p17, List.forall_mem_cons.mpr ⟨lw_p18, List.forall_mem_cons.mpr ⟨lw_p19, List.forall_mem_cons.mpr ⟨lw_p20, List.forall_mem_cons.mpr ⟨lw_p21, List.forall_mem_cons.mpr ⟨lw_p22, List.forall_mem_cons.mpr ⟨lw_p23, List.forall_mem_cons.mpr ⟨lw_p24, List.forall_mem_cons.mpr ⟨lw_p25, List.forall_mem_cons.mpr ⟨lw_p26, List.forall_mem_cons.mpr ⟨lw_p27, List.forall_mem_cons.mpr ⟨lw_p28, List.forall_mem_cons.mpr ⟨lw_p29, List.forall_mem_cons.mpr ⟨lw_p30, List.forall_mem_cons.mpr ⟨lw_p31, fun _ h => absurd h List.not_mem_nil⟩⟩⟩⟩⟩⟩⟩⟩⟩⟩⟩⟩⟩⟩⟩⟩
theorem lw_p32 : lw_okq (⟨"BodyRows2$Loads", "add", "(IZ)I"⟩, 6) := ⟨⟨by decide +kernel, by decide +kernel⟩, List.mem_of_getElem? (i := 80) (by decide +kernel), List.mem_of_getElem? (i := 325) (by decide +kernel), List.mem_of_getElem? (i := 326) (by decide +kernel)⟩
theorem lw_p33 : lw_okq (⟨"BodyRows2$Loads", "has", "(I)Z"⟩, 6) := ⟨⟨by decide +kernel, by decide +kernel⟩, List.mem_of_getElem? (i := 80) (by decide +kernel), List.mem_of_getElem? (i := 334) (by decide +kernel), List.mem_of_getElem? (i := 335) (by decide +kernel)⟩
theorem lw_p34 : lw_okq (⟨"BodyRows2$Loads", "runs", "(I)Z"⟩, 6) := ⟨⟨by decide +kernel, by decide +kernel⟩, List.mem_of_getElem? (i := 80) (by decide +kernel), List.mem_of_getElem? (i := 338) (by decide +kernel), List.mem_of_getElem? (i := 339) (by decide +kernel)⟩
theorem lw_p35 : lw_okq (⟨"BodyRows2$Window", "ticksToWish", "()I"⟩, 3) := ⟨⟨by decide +kernel, by decide +kernel⟩, List.mem_of_getElem? (i := 62) (by decide +kernel), List.mem_of_getElem? (i := 357) (by decide +kernel), List.mem_of_getElem? (i := 358) (by decide +kernel)⟩
theorem lw_p36 : lw_okq (⟨"BodyRows2", "giveBack", "(II)V"⟩, 14) := ⟨⟨by decide +kernel, by decide +kernel⟩, List.mem_of_getElem? (i := 13) (by decide +kernel), List.mem_of_getElem? (i := 372) (by decide +kernel), List.mem_of_getElem? (i := 373) (by decide +kernel)⟩
theorem lw_p37 : lw_okq (⟨"java/lang/Throwable", "fillInStackTrace", "(I)Ljava/lang/Throwable;"⟩, 6) := ⟨⟨by decide +kernel, by decide +kernel⟩, List.mem_of_getElem? (i := 428) (by decide +kernel), List.mem_of_getElem? (i := 426) (by decide +kernel), List.mem_of_getElem? (i := 427) (by decide +kernel)⟩
theorem lw_p38 : lw_okq (⟨"BodyRows2Model", "value", "(I)I"⟩, 26) := ⟨⟨by decide +kernel, by decide +kernel⟩, List.mem_of_getElem? (i := 458) (by decide +kernel), List.mem_of_getElem? (i := 554) (by decide +kernel), List.mem_of_getElem? (i := 555) (by decide +kernel)⟩
theorem lw_p39 : lw_okq (⟨"BodyRows2Model", "lit", "(I)I"⟩, 26) := ⟨⟨by decide +kernel, by decide +kernel⟩, List.mem_of_getElem? (i := 458) (by decide +kernel), List.mem_of_getElem? (i := 558) (by decide +kernel), List.mem_of_getElem? (i := 559) (by decide +kernel)⟩
theorem lw_p40 : lw_okq (⟨"BodyRows2Model", "period", "(I)I"⟩, 26) := ⟨⟨by decide +kernel, by decide +kernel⟩, List.mem_of_getElem? (i := 458) (by decide +kernel), List.mem_of_getElem? (i := 562) (by decide +kernel), List.mem_of_getElem? (i := 563) (by decide +kernel)⟩
theorem lw_p41 : lw_okq (⟨"BodyRows2Model", "layBy", "()V"⟩, 26) := ⟨⟨by decide +kernel, by decide +kernel⟩, List.mem_of_getElem? (i := 458) (by decide +kernel), List.mem_of_getElem? (i := 573) (by decide +kernel), List.mem_of_getElem? (i := 574) (by decide +kernel)⟩
theorem lw_p42 : lw_okq (⟨"BodyRows2Model", "isWanted", "(I)Z"⟩, 26) := ⟨⟨by decide +kernel, by decide +kernel⟩, List.mem_of_getElem? (i := 458) (by decide +kernel), List.mem_of_getElem? (i := 577) (by decide +kernel), List.mem_of_getElem? (i := 578) (by decide +kernel)⟩
theorem lw_p43 : lw_okq (⟨"BodyRows2Model", "begin", "()V"⟩, 26) := ⟨⟨by decide +kernel, by decide +kernel⟩, List.mem_of_getElem? (i := 458) (by decide +kernel), List.mem_of_getElem? (i := 581) (by decide +kernel), List.mem_of_getElem? (i := 582) (by decide +kernel)⟩
theorem lw_p44 : lw_okq (⟨"BodyRows2Model", "others", "()I"⟩, 26) := ⟨⟨by decide +kernel, by decide +kernel⟩, List.mem_of_getElem? (i := 458) (by decide +kernel), List.mem_of_getElem? (i := 585) (by decide +kernel), List.mem_of_getElem? (i := 586) (by decide +kernel)⟩
theorem lw_p45 : lw_okq (⟨"BodyRows2Model", "tick", "()V"⟩, 26) := ⟨⟨by decide +kernel, by decide +kernel⟩, List.mem_of_getElem? (i := 458) (by decide +kernel), List.mem_of_getElem? (i := 593) (by decide +kernel), List.mem_of_getElem? (i := 594) (by decide +kernel)⟩
theorem lw_p46 : lw_okq (⟨"BodyRows2Model", "tickSide", "(I)V"⟩, 26) := ⟨⟨by decide +kernel, by decide +kernel⟩, List.mem_of_getElem? (i := 458) (by decide +kernel), List.mem_of_getElem? (i := 597) (by decide +kernel), List.mem_of_getElem? (i := 598) (by decide +kernel)⟩
theorem lw_p47 : lw_okq (⟨"BodyRows2Model", "tickWiper", "()V"⟩, 26) := ⟨⟨by decide +kernel, by decide +kernel⟩, List.mem_of_getElem? (i := 458) (by decide +kernel), List.mem_of_getElem? (i := 601) (by decide +kernel), List.mem_of_getElem? (i := 602) (by decide +kernel)⟩
def lw_privs_3 : List (MethodName × Nat) := [(⟨"BodyRows2$Loads", "add", "(IZ)I"⟩, 6), (⟨"BodyRows2$Loads", "has", "(I)Z"⟩, 6), (⟨"BodyRows2$Loads", "runs", "(I)Z"⟩, 6), (⟨"BodyRows2$Window", "ticksToWish", "()I"⟩, 3), (⟨"BodyRows2", "giveBack", "(II)V"⟩, 14), (⟨"java/lang/Throwable", "fillInStackTrace", "(I)Ljava/lang/Throwable;"⟩, 6), (⟨"BodyRows2Model", "value", "(I)I"⟩, 26), (⟨"BodyRows2Model", "lit", "(I)I"⟩, 26), (⟨"BodyRows2Model", "period", "(I)I"⟩, 26), (⟨"BodyRows2Model", "layBy", "()V"⟩, 26), (⟨"BodyRows2Model", "isWanted", "(I)Z"⟩, 26), (⟨"BodyRows2Model", "begin", "()V"⟩, 26), (⟨"BodyRows2Model", "others", "()I"⟩, 26), (⟨"BodyRows2Model", "tick", "()V"⟩, 26), (⟨"BodyRows2Model", "tickSide", "(I)V"⟩, 26), (⟨"BodyRows2Model", "tickWiper", "()V"⟩, 26)]
theorem lw_r3 : ∀ q ∈ lw_privs_3, lw_okq q := List.forall_mem_cons.mpr ⟨lw_p32, List.forall_mem_cons.mpr ⟨lw_p33, List.forall_mem_cons.mpr ⟨lw_p34, List.forall_mem_cons.mpr ⟨lw_p35, List.forall_mem_cons.mpr ⟨lw_p36, List.forall_mem_cons.mpr ⟨lw_p37, List.forall_mem_cons.mpr ⟨lw_p38, List.forall_mem_cons.mpr ⟨lw_p39, List.forall_mem_cons.mpr ⟨lw_p40, List.forall_mem_cons.mpr ⟨lw_p41, List.forall_mem_cons.mpr ⟨lw_p42, List.forall_mem_cons.mpr ⟨lw_p43, List.forall_mem_cons.mpr ⟨lw_p44, List.forall_mem_cons.mpr ⟨lw_p45, List.forall_mem_cons.mpr ⟨lw_p46, List.forall_mem_cons.mpr ⟨lw_p47, fun _ h => absurd h List.not_mem_nil⟩⟩⟩⟩⟩⟩⟩⟩⟩⟩⟩⟩⟩⟩⟩⟩
theorem lw_p48 : lw_okq (⟨"BodyRows2Model", "speed", "()I"⟩, 26) := ⟨⟨by decide +kernel, by decide +kernel⟩, List.mem_of_getElem? (i := 458) (by decide +kernel), List.mem_of_getElem? (i := 605) (by decide +kernel), List.mem_of_getElem? (i := 606) (by decide +kernel)⟩
theorem lw_p49 : lw_okq (⟨"BodyRows2Model", "tickWindow", "(I)V"⟩, 26) := ⟨⟨by decide +kernel, by decide +kernel⟩, List.mem_of_getElem? (i := 458) (by decide +kernel), List.mem_of_getElem? (i := 609) (by decide +kernel), List.mem_of_getElem? (i := 610) (by decide +kernel)⟩
theorem lw_p50 : lw_okq (⟨"BodyRows2Model", "putOff", "()V"⟩, 26) := ⟨⟨by decide +kernel, by decide +kernel⟩, List.mem_of_getElem? (i := 458) (by decide +kernel), List.mem_of_getElem? (i := 640) (by decide +kernel), List.mem_of_getElem? (i := 641) (by decide +kernel)⟩
theorem lw_p51 : lw_okq (⟨"BodyRows2Model", "putOn", "()V"⟩, 26) := ⟨⟨by decide +kernel, by decide +kernel⟩, List.mem_of_getElem? (i := 458) (by decide +kernel), List.mem_of_getElem? (i := 644) (by decide +kernel), List.mem_of_getElem? (i := 645) (by decide +kernel)⟩
def lw_privs_4 : List (MethodName × Nat) := [(⟨"BodyRows2Model", "speed", "()I"⟩, 26), (⟨"BodyRows2Model", "tickWindow", "(I)V"⟩, 26), (⟨"BodyRows2Model", "putOff", "()V"⟩, 26), (⟨"BodyRows2Model", "putOn", "()V"⟩, 26)]
theorem lw_r4 : ∀ q ∈ lw_privs_4, lw_okq q := List.forall_mem_cons.mpr ⟨lw_p48, List.forall_mem_cons.mpr ⟨lw_p49, List.forall_mem_cons.mpr ⟨lw_p50, List.forall_mem_cons.mpr ⟨lw_p51, fun _ h => absurd h List.not_mem_nil⟩⟩⟩⟩
def lw_privs : List (MethodName × Nat) := lw_privs_1 ++ (lw_privs_2 ++ (lw_privs_3 ++ (lw_privs_4)))
def lw_tbl : List Cond := k2_sels lw_privs ++ tables_1
theorem lw_privs_ok : ∀ q ∈ lw_privs, lw_okq q := by
  show ∀ q ∈ lw_privs_1 ++ (lw_privs_2 ++ (lw_privs_3 ++ (lw_privs_4))), lw_okq q
  exact List.forall_mem_append.mpr ⟨lw_r1, List.forall_mem_append.mpr ⟨lw_r2, List.forall_mem_append.mpr ⟨lw_r3, lw_r4⟩⟩⟩
end
section
def R_Side : String := "BodyRows2$Side"
def F_Side : u_T := fun k => match k with
  | 0 => ("BodyRows2$Side", "blinks", "Z", false)
  | 1 => ("BodyRows2$Side", "age", "I", false)
  | _ => ("BodyRows2$Side", "count", "I", false)
def t_Side : Nat → FieldType := fun k => match k with
  | 0 => .boolean
  | 1 => .int
  | _ => .int
theorem n_Side : ∀ a, a < 3 → ∀ b, b < 3 → a ≠ b → (F_Side a).2.1 ≠ (F_Side b).2.1 := by decide +kernel
theorem t_Side_ok : ∀ k, k < 3 → parseFieldDescriptor (F_Side k).2.2.1 = some (t_Side k) := by decide +kernel
def R_Wiper : String := "BodyRows2$Wiper"
def F_Wiper : u_T := fun k => match k with
  | 0 => ("BodyRows2$Wiper", "place", "I", false)
  | 1 => ("BodyRows2$Wiper", "pause", "I", false)
  | _ => ("BodyRows2$Wiper", "went", "I", false)
def t_Wiper : Nat → FieldType := fun k => match k with
  | 0 => .int
  | 1 => .int
  | _ => .int
theorem n_Wiper : ∀ a, a < 3 → ∀ b, b < 3 → a ≠ b → (F_Wiper a).2.1 ≠ (F_Wiper b).2.1 := by decide +kernel
theorem t_Wiper_ok : ∀ k, k < 3 → parseFieldDescriptor (F_Wiper k).2.2.1 = some (t_Wiper k) := by decide +kernel
def R_Window : String := "BodyRows2$Window"
def F_Window : u_T := fun k => match k with
  | 0 => ("BodyRows2$Window", "place", "I", false)
  | 1 => ("BodyRows2$Window", "wish", "I", false)
  | _ => ("BodyRows2$Window", "learned", "Z", false)
def t_Window : Nat → FieldType := fun k => match k with
  | 0 => .int
  | 1 => .int
  | _ => .boolean
theorem n_Window : ∀ a, a < 3 → ∀ b, b < 3 → a ≠ b → (F_Window a).2.1 ≠ (F_Window b).2.1 := by decide +kernel
theorem t_Window_ok : ∀ k, k < 3 → parseFieldDescriptor (F_Window k).2.2.1 = some (t_Window k) := by decide +kernel
def R_Loads : String := "BodyRows2$Loads"
def F_Loads : u_T := fun k => match k with
  | 0 => ("BodyRows2$Loads", "ranks", "[I", true)
  | 1 => ("BodyRows2$Loads", "legal", "[Z", true)
  | 2 => ("BodyRows2$Loads", "off", "[Z", true)
  | 3 => ("BodyRows2$Loads", "size", "I", false)
  | 4 => ("BodyRows2$Loads", "low", "I", false)
  | _ => ("BodyRows2$Loads", "high", "I", false)
def t_Loads : Nat → FieldType := fun k => match k with
  | 0 => .array .int
  | 1 => .array .boolean
  | 2 => .array .boolean
  | 3 => .int
  | 4 => .int
  | _ => .int
theorem n_Loads : ∀ a, a < 6 → ∀ b, b < 6 → a ≠ b → (F_Loads a).2.1 ≠ (F_Loads b).2.1 := by decide +kernel
theorem t_Loads_ok : ∀ k, k < 6 → parseFieldDescriptor (F_Loads k).2.2.1 = some (t_Loads k) := by decide +kernel
def R_B : String := "BodyRows2"
def F_B : u_T := fun k => match k with
  | 0 => ("BodyRows2", "inputs", "[I", true)
  | 1 => ("BodyRows2", "outputsBefore", "[I", true)
  | 2 => ("BodyRows2", "bulbIsOut", "[Z", true)
  | 3 => ("BodyRows2", "sides", "[LBodyRows2$Side;", true)
  | 4 => ("BodyRows2", "wiper", "LBodyRows2$Wiper;", true)
  | 5 => ("BodyRows2", "windows", "[LBodyRows2$Window;", true)
  | 6 => ("BodyRows2", "loads", "LBodyRows2$Loads;", true)
  | 7 => ("BodyRows2", "keys", "[[I", true)
  | 8 => ("BodyRows2", "rainfall", "I", false)
  | 9 => ("BodyRows2", "interior", "I", false)
  | 10 => ("BodyRows2", "ticks", "I", false)
  | 11 => ("BodyRows2", "dark", "Z", false)
  | 12 => ("BodyRows2", "crashed", "Z", false)
  | _ => ("BodyRows2", "hasTrailer", "Z", false)
def t_B : Nat → FieldType := fun k => match k with
  | 0 => .array .int
  | 1 => .array .int
  | 2 => .array .boolean
  | 3 => .array (.object "BodyRows2$Side")
  | 4 => .object "BodyRows2$Wiper"
  | 5 => .array (.object "BodyRows2$Window")
  | 6 => .object "BodyRows2$Loads"
  | 7 => .array (.array .int)
  | 8 => .int
  | 9 => .int
  | 10 => .int
  | 11 => .boolean
  | 12 => .boolean
  | _ => .boolean
theorem n_B : ∀ a, a < 14 → ∀ b, b < 14 → a ≠ b → (F_B a).2.1 ≠ (F_B b).2.1 := by decide +kernel
theorem t_B_ok : ∀ k, k < 14 → parseFieldDescriptor (F_B k).2.2.1 = some (t_B k) := by decide +kernel
def R_M : String := "BodyRows2Model"
def F_M : u_T := fun k => match k with
  | 0 => ("BodyRows2Model", "thrown", "I", false)
  | 1 => ("BodyRows2Model", "inputs", "[I", true)
  | 2 => ("BodyRows2Model", "dark", "Z", false)
  | 3 => ("BodyRows2Model", "crashed", "Z", false)
  | 4 => ("BodyRows2Model", "trailer", "Z", false)
  | 5 => ("BodyRows2Model", "rain", "I", false)
  | 6 => ("BodyRows2Model", "ticks", "I", false)
  | 7 => ("BodyRows2Model", "blinks", "[Z", true)
  | 8 => ("BodyRows2Model", "ages", "[I", true)
  | 9 => ("BodyRows2Model", "counts", "[I", true)
  | 10 => ("BodyRows2Model", "out", "[Z", true)
  | 11 => ("BodyRows2Model", "wiper", "I", false)
  | 12 => ("BodyRows2Model", "pause", "I", false)
  | 13 => ("BodyRows2Model", "went", "I", false)
  | 14 => ("BodyRows2Model", "interior", "I", false)
  | 15 => ("BodyRows2Model", "places", "[I", true)
  | 16 => ("BodyRows2Model", "wishes", "[I", true)
  | 17 => ("BodyRows2Model", "learned", "[Z", true)
  | 18 => ("BodyRows2Model", "loads", "I", false)
  | 19 => ("BodyRows2Model", "ranks", "[I", true)
  | 20 => ("BodyRows2Model", "legals", "[Z", true)
  | 21 => ("BodyRows2Model", "offs", "[Z", true)
  | 22 => ("BodyRows2Model", "low", "I", false)
  | 23 => ("BodyRows2Model", "high", "I", false)
  | 24 => ("BodyRows2Model", "kept", "[I", true)
  | _ => ("BodyRows2Model", "before", "[I", true)
def t_M : Nat → FieldType := fun k => match k with
  | 0 => .int
  | 1 => .array .int
  | 2 => .boolean
  | 3 => .boolean
  | 4 => .boolean
  | 5 => .int
  | 6 => .int
  | 7 => .array .boolean
  | 8 => .array .int
  | 9 => .array .int
  | 10 => .array .boolean
  | 11 => .int
  | 12 => .int
  | 13 => .int
  | 14 => .int
  | 15 => .array .int
  | 16 => .array .int
  | 17 => .array .boolean
  | 18 => .int
  | 19 => .array .int
  | 20 => .array .boolean
  | 21 => .array .boolean
  | 22 => .int
  | 23 => .int
  | 24 => .array .int
  | _ => .array .int
theorem n_M : ∀ a, a < 26 → ∀ b, b < 26 → a ≠ b → (F_M a).2.1 ≠ (F_M b).2.1 := by decide +kernel
theorem t_M_ok : ∀ k, k < 26 → parseFieldDescriptor (F_M k).2.2.1 = some (t_M k) := by decide +kernel
abbrev b_Side_init : ByteArray := prog_3_method_1_code
def y_Side_init : MethodName := ⟨R_Side, "<init>", "()V"⟩
abbrev b_Side_begin : ByteArray := prog_3_method_2_code
def y_Side_begin : MethodName := ⟨R_Side, "begin", "()V"⟩
abbrev b_Side_tick : ByteArray := prog_3_method_3_code
def y_Side_tick : MethodName := ⟨R_Side, "tick", "(ZZ)V"⟩
abbrev b_Side_isBright : ByteArray := prog_3_method_4_code
def y_Side_isBright : MethodName := ⟨R_Side, "isBright", "(Z)Z"⟩
abbrev b_Side_period : ByteArray := prog_3_method_5_code
def y_Side_period : MethodName := ⟨R_Side, "period", "(Z)I"⟩
abbrev b_Wiper_init : ByteArray := prog_5_method_1_code
def y_Wiper_init : MethodName := ⟨R_Wiper, "<init>", "()V"⟩
abbrev b_Wiper_tick : ByteArray := prog_5_method_2_code
def y_Wiper_tick : MethodName := ⟨R_Wiper, "tick", "(II)V"⟩
abbrev b_Wiper_staysParked : ByteArray := prog_5_method_3_code
def y_Wiper_staysParked : MethodName := ⟨R_Wiper, "staysParked", "(I)Z"⟩
abbrev b_Window_init : ByteArray := prog_4_method_1_code
def y_Window_init : MethodName := ⟨R_Window, "<init>", "()V"⟩
abbrev b_Window_tick : ByteArray := prog_4_method_2_code
def y_Window_tick : MethodName := ⟨R_Window, "tick", "()V"⟩
abbrev b_Window_ticksToWish : ByteArray := prog_4_method_3_code
def y_Window_ticksToWish : MethodName := ⟨R_Window, "ticksToWish", "()I"⟩
abbrev b_Window_speed : ByteArray := prog_4_method_4_code
def y_Window_speed : MethodName := ⟨R_Window, "speed", "()I"⟩
abbrev b_Window_reverseAt : ByteArray := prog_4_method_5_code
def y_Window_reverseAt : MethodName := ⟨R_Window, "reverseAt", "(I)Z"⟩
abbrev b_Window_learnAtEnd : ByteArray := prog_4_method_6_code
def y_Window_learnAtEnd : MethodName := ⟨R_Window, "learnAtEnd", "()Z"⟩
abbrev b_Loads_init : ByteArray := prog_2_method_1_code
def y_Loads_init : MethodName := ⟨R_Loads, "<init>", "()V"⟩
abbrev b_Loads_isFull : ByteArray := prog_2_method_2_code
def y_Loads_isFull : MethodName := ⟨R_Loads, "isFull", "()Z"⟩
abbrev b_Loads_add : ByteArray := prog_2_method_3_code
def y_Loads_add : MethodName := ⟨R_Loads, "add", "(IZ)I"⟩
abbrev b_Loads_has : ByteArray := prog_2_method_4_code
def y_Loads_has : MethodName := ⟨R_Loads, "has", "(I)Z"⟩
abbrev b_Loads_runs : ByteArray := prog_2_method_5_code
def y_Loads_runs : MethodName := ⟨R_Loads, "runs", "(I)Z"⟩
abbrev b_Loads_countOff : ByteArray := prog_2_method_6_code
def y_Loads_countOff : MethodName := ⟨R_Loads, "countOff", "()I"⟩
abbrev b_Loads_measure : ByteArray := prog_2_method_7_code
def y_Loads_measure : MethodName := ⟨R_Loads, "measure", "(I)V"⟩
abbrev b_Loads_setOff : ByteArray := prog_2_method_8_code
def y_Loads_setOff : MethodName := ⟨R_Loads, "setOff", "(IZ)V"⟩
abbrev b_Loads_findNextToShed : ByteArray := prog_2_method_9_code
def y_Loads_findNextToShed : MethodName := ⟨R_Loads, "findNextToShed", "()I"⟩
abbrev b_Loads_findNextToRestore : ByteArray := prog_2_method_10_code
def y_Loads_findNextToRestore : MethodName := ⟨R_Loads, "findNextToRestore", "()I"⟩
abbrev b_B_init : ByteArray := prog_1_method_1_code
def y_B_init : MethodName := ⟨R_B, "<init>", "()V"⟩
abbrev b_B_input : ByteArray := prog_1_method_2_code
def y_B_input : MethodName := ⟨R_B, "input", "(II)I"⟩
abbrev b_B_output : ByteArray := prog_1_method_3_code
def y_B_output : MethodName := ⟨R_B, "output", "(I)I"⟩
abbrev b_B_step : ByteArray := prog_1_method_4_code
def y_B_step : MethodName := ⟨R_B, "step", "(I)I"⟩
abbrev b_B_pinch : ByteArray := prog_1_method_5_code
def y_B_pinch : MethodName := ⟨R_B, "pinch", "(II)I"⟩
abbrev b_B_learn : ByteArray := prog_1_method_6_code
def y_B_learn : MethodName := ⟨R_B, "learn", "(I)I"⟩
abbrev b_B_shed : ByteArray := prog_1_method_7_code
def y_B_shed : MethodName := ⟨R_B, "shed", "(I)I"⟩
abbrev b_B_load : ByteArray := prog_1_method_8_code
def y_B_load : MethodName := ⟨R_B, "load", "(IZ)I"⟩
abbrev b_B_isOn : ByteArray := prog_1_method_9_code
def y_B_isOn : MethodName := ⟨R_B, "isOn", "(I)I"⟩
abbrev b_B_bulb : ByteArray := prog_1_method_10_code
def y_B_bulb : MethodName := ⟨R_B, "bulb", "(IZ)I"⟩
abbrev b_B_rain : ByteArray := prog_1_method_11_code
def y_B_rain : MethodName := ⟨R_B, "rain", "(I)I"⟩
abbrev b_B_window : ByteArray := prog_1_method_12_code
def y_B_window : MethodName := ⟨R_B, "window", "(II)I"⟩
abbrev b_B_crash : ByteArray := prog_1_method_13_code
def y_B_crash : MethodName := ⟨R_B, "crash", "()I"⟩
abbrev b_B_memory : ByteArray := prog_1_method_14_code
def y_B_memory : MethodName := ⟨R_B, "memory", "(III)I"⟩
abbrev b_B_trailer : ByteArray := prog_1_method_15_code
def y_B_trailer : MethodName := ⟨R_B, "trailer", "(Z)I"⟩
abbrev b_B_state : ByteArray := prog_1_method_16_code
def y_B_state : MethodName := ⟨R_B, "state", "(I)I"⟩
abbrev b_B_isBelow : ByteArray := prog_1_method_17_code
def y_B_isBelow : MethodName := ⟨R_B, "isBelow", "(II)Z"⟩
abbrev b_B_isUpTo : ByteArray := prog_1_method_18_code
def y_B_isUpTo : MethodName := ⟨R_B, "isUpTo", "(II)Z"⟩
abbrev b_B_bit : ByteArray := prog_1_method_19_code
def y_B_bit : MethodName := ⟨R_B, "bit", "(Z)I"⟩
abbrev b_B_noteOutputs : ByteArray := prog_1_method_20_code
def y_B_noteOutputs : MethodName := ⟨R_B, "noteOutputs", "()V"⟩
abbrev b_B_countChangedOutputs : ByteArray := prog_1_method_21_code
def y_B_countChangedOutputs : MethodName := ⟨R_B, "countChangedOutputs", "()I"⟩
abbrev b_B_outputNow : ByteArray := prog_1_method_22_code
def y_B_outputNow : MethodName := ⟨R_B, "outputNow", "(I)I"⟩
abbrev b_B_isParkingLit : ByteArray := prog_1_method_23_code
def y_B_isParkingLit : MethodName := ⟨R_B, "isParkingLit", "()Z"⟩
abbrev b_B_isLowLit : ByteArray := prog_1_method_24_code
def y_B_isLowLit : MethodName := ⟨R_B, "isLowLit", "()Z"⟩
abbrev b_B_wantsLow : ByteArray := prog_1_method_25_code
def y_B_wantsLow : MethodName := ⟨R_B, "wantsLow", "()Z"⟩
abbrev b_B_followBrightness : ByteArray := prog_1_method_26_code
def y_B_followBrightness : MethodName := ⟨R_B, "followBrightness", "(I)V"⟩
abbrev b_B_isSideLit : ByteArray := prog_1_method_27_code
def y_B_isSideLit : MethodName := ⟨R_B, "isSideLit", "(I)Z"⟩
abbrev b_B_turnBulbIsOut : ByteArray := prog_1_method_28_code
def y_B_turnBulbIsOut : MethodName := ⟨R_B, "turnBulbIsOut", "(I)Z"⟩
abbrev b_B_isWanted : ByteArray := prog_1_method_29_code
def y_B_isWanted : MethodName := ⟨R_B, "isWanted", "(I)Z"⟩
abbrev b_B_beginWantedSides : ByteArray := prog_1_method_30_code
def y_B_beginWantedSides : MethodName := ⟨R_B, "beginWantedSides", "()V"⟩
abbrev b_B_endUnwantedSide : ByteArray := prog_1_method_31_code
def y_B_endUnwantedSide : MethodName := ⟨R_B, "endUnwantedSide", "(I)V"⟩
abbrev b_B_tick : ByteArray := prog_1_method_32_code
def y_B_tick : MethodName := ⟨R_B, "tick", "()V"⟩
abbrev b_B_wiperSpeed : ByteArray := prog_1_method_33_code
def y_B_wiperSpeed : MethodName := ⟨R_B, "wiperSpeed", "()I"⟩
abbrev b_B_rainSpeed : ByteArray := prog_1_method_34_code
def y_B_rainSpeed : MethodName := ⟨R_B, "rainSpeed", "()I"⟩
abbrev b_B_pauseAfterWiping : ByteArray := prog_1_method_35_code
def y_B_pauseAfterWiping : MethodName := ⟨R_B, "pauseAfterWiping", "()I"⟩
abbrev b_B_tickInterior : ByteArray := prog_1_method_36_code
def y_B_tickInterior : MethodName := ⟨R_B, "tickInterior", "()V"⟩
abbrev b_B_giveBack : ByteArray := prog_1_method_37_code
def y_B_giveBack : MethodName := ⟨R_B, "giveBack", "(II)V"⟩
abbrev b_M_init : ByteArray := prog_7_method_1_code
def y_M_init : MethodName := ⟨R_M, "<init>", "()V"⟩
abbrev b_M_thrown : ByteArray := prog_7_method_2_code
def y_M_thrown : MethodName := ⟨R_M, "thrown", "()I"⟩
abbrev b_M_within : ByteArray := prog_7_method_3_code
def y_M_within : MethodName := ⟨R_M, "within", "(III)Z"⟩
abbrev b_M_period : ByteArray := prog_7_method_4_code
def y_M_period : MethodName := ⟨R_M, "period", "(I)I"⟩
abbrev b_M_lit : ByteArray := prog_7_method_5_code
def y_M_lit : MethodName := ⟨R_M, "lit", "(I)I"⟩
abbrev b_M_value : ByteArray := prog_7_method_6_code
def y_M_value : MethodName := ⟨R_M, "value", "(I)I"⟩
abbrev b_M_layBy : ByteArray := prog_7_method_7_code
def y_M_layBy : MethodName := ⟨R_M, "layBy", "()V"⟩
abbrev b_M_others : ByteArray := prog_7_method_8_code
def y_M_others : MethodName := ⟨R_M, "others", "()I"⟩
abbrev b_M_output : ByteArray := prog_7_method_9_code
def y_M_output : MethodName := ⟨R_M, "output", "(I)I"⟩
abbrev b_M_most : ByteArray := prog_7_method_10_code
def y_M_most : MethodName := ⟨R_M, "most", "(I)I"⟩
abbrev b_M_isWanted : ByteArray := prog_7_method_11_code
def y_M_isWanted : MethodName := ⟨R_M, "isWanted", "(I)Z"⟩
abbrev b_M_begin : ByteArray := prog_7_method_12_code
def y_M_begin : MethodName := ⟨R_M, "begin", "()V"⟩
abbrev b_M_input : ByteArray := prog_7_method_13_code
def y_M_input : MethodName := ⟨R_M, "input", "(II)I"⟩
abbrev b_M_tickSide : ByteArray := prog_7_method_14_code
def y_M_tickSide : MethodName := ⟨R_M, "tickSide", "(I)V"⟩
abbrev b_M_speed : ByteArray := prog_7_method_15_code
def y_M_speed : MethodName := ⟨R_M, "speed", "()I"⟩
abbrev b_M_tickWiper : ByteArray := prog_7_method_16_code
def y_M_tickWiper : MethodName := ⟨R_M, "tickWiper", "()V"⟩
abbrev b_M_tickWindow : ByteArray := prog_7_method_17_code
def y_M_tickWindow : MethodName := ⟨R_M, "tickWindow", "(I)V"⟩
abbrev b_M_tick : ByteArray := prog_7_method_18_code
def y_M_tick : MethodName := ⟨R_M, "tick", "()V"⟩
abbrev b_M_step : ByteArray := prog_7_method_19_code
def y_M_step : MethodName := ⟨R_M, "step", "(I)I"⟩
abbrev b_M_isWindow : ByteArray := prog_7_method_20_code
def y_M_isWindow : MethodName := ⟨R_M, "isWindow", "(I)Z"⟩
abbrev b_M_pinch : ByteArray := prog_7_method_21_code
def y_M_pinch : MethodName := ⟨R_M, "pinch", "(II)I"⟩
abbrev b_M_learn : ByteArray := prog_7_method_22_code
def y_M_learn : MethodName := ⟨R_M, "learn", "(I)I"⟩
abbrev b_M_window : ByteArray := prog_7_method_23_code
def y_M_window : MethodName := ⟨R_M, "window", "(II)I"⟩
abbrev b_M_load : ByteArray := prog_7_method_24_code
def y_M_load : MethodName := ⟨R_M, "load", "(IZ)I"⟩
abbrev b_M_isOn : ByteArray := prog_7_method_25_code
def y_M_isOn : MethodName := ⟨R_M, "isOn", "(I)I"⟩
abbrev b_M_putOff : ByteArray := prog_7_method_26_code
def y_M_putOff : MethodName := ⟨R_M, "putOff", "()V"⟩
abbrev b_M_putOn : ByteArray := prog_7_method_27_code
def y_M_putOn : MethodName := ⟨R_M, "putOn", "()V"⟩
abbrev b_M_shed : ByteArray := prog_7_method_28_code
def y_M_shed : MethodName := ⟨R_M, "shed", "(I)I"⟩
abbrev b_M_bulb : ByteArray := prog_7_method_29_code
def y_M_bulb : MethodName := ⟨R_M, "bulb", "(IZ)I"⟩
abbrev b_M_rain : ByteArray := prog_7_method_30_code
def y_M_rain : MethodName := ⟨R_M, "rain", "(I)I"⟩
abbrev b_M_crash : ByteArray := prog_7_method_31_code
def y_M_crash : MethodName := ⟨R_M, "crash", "()I"⟩
abbrev b_M_memory : ByteArray := prog_7_method_32_code
def y_M_memory : MethodName := ⟨R_M, "memory", "(III)I"⟩
abbrev b_M_trailer : ByteArray := prog_7_method_33_code
def y_M_trailer : MethodName := ⟨R_M, "trailer", "(Z)I"⟩
abbrev b_M_state : ByteArray := prog_7_method_34_code
def y_M_state : MethodName := ⟨R_M, "state", "(I)I"⟩
abbrev classes : List vw_C := [(R_Side, F_Side, 3), (R_Wiper, F_Wiper, 3), (R_Window, F_Window, 3), (R_Loads, F_Loads, 6), (R_B, F_B, 14), (R_M, F_M, 26)]
abbrev hk_G : Type := (Nat → ClassId) × (Nat → Nat → Nat) × (Nat → ClassId)
def hk_ty (G : hk_G) : List (ClassId × FieldType) := [(G.2.2 0, .int), (G.2.2 1, .boolean), (G.2.2 2, .object "BodyRows2$Side"), (G.2.2 3, .object "BodyRows2$Window"), (G.2.2 4, .array .int), (G.2.2 5, .long)]
def mx (x y : Int32) : Int32 := if x < y then y else x
def mn (x y : Int32) : Int32 := if y < x then y else x
def ab (x : Int32) : Int32 := if 0 ≤ x then x else 0 - x
def hk_w : List Cond := lw_tbl.filter goodWord
theorem hk_in {w : Cond} (h : w ∈ lw_tbl) (hg : goodWord w = true) : w ∈ hk_w := List.mem_filter.mpr ⟨h, hg⟩
theorem i_Side : ∀ w ∈ u_ws R_Side F_Side 3, w ∈ hk_w := fun w h => hk_in ((by decide +kernel : ∀ w ∈ u_ws R_Side F_Side 3, w ∈ lw_tbl) w h) ((by decide +kernel : ∀ w ∈ u_ws R_Side F_Side 3, goodWord w = true) w h)
theorem i_Wiper : ∀ w ∈ u_ws R_Wiper F_Wiper 3, w ∈ hk_w := fun w h => hk_in ((by decide +kernel : ∀ w ∈ u_ws R_Wiper F_Wiper 3, w ∈ lw_tbl) w h) ((by decide +kernel : ∀ w ∈ u_ws R_Wiper F_Wiper 3, goodWord w = true) w h)
theorem i_Window : ∀ w ∈ u_ws R_Window F_Window 3, w ∈ hk_w := fun w h => hk_in ((by decide +kernel : ∀ w ∈ u_ws R_Window F_Window 3, w ∈ lw_tbl) w h) ((by decide +kernel : ∀ w ∈ u_ws R_Window F_Window 3, goodWord w = true) w h)
theorem i_Loads : ∀ w ∈ u_ws R_Loads F_Loads 6, w ∈ hk_w := fun w h => hk_in ((by decide +kernel : ∀ w ∈ u_ws R_Loads F_Loads 6, w ∈ lw_tbl) w h) ((by decide +kernel : ∀ w ∈ u_ws R_Loads F_Loads 6, goodWord w = true) w h)
theorem i_B : ∀ w ∈ u_ws R_B F_B 14, w ∈ hk_w := fun w h => hk_in ((by decide +kernel : ∀ w ∈ u_ws R_B F_B 14, w ∈ lw_tbl) w h) ((by decide +kernel : ∀ w ∈ u_ws R_B F_B 14, goodWord w = true) w h)
theorem i_M : ∀ w ∈ u_ws R_M F_M 26, w ∈ hk_w := fun w h => hk_in ((by decide +kernel : ∀ w ∈ u_ws R_M F_M 26, w ∈ lw_tbl) w h) ((by decide +kernel : ∀ w ∈ u_ws R_M F_M 26, goodWord w = true) w h)
theorem YM_max : Cond.static Lib.Math.max.name ∈ hk_w ∧ Cond.initialized "java/lang/Math" ∈ hk_w ∧ Cond.code Lib.Math.max.name Lib.Math.max.code 2 (some .int) ∈ hk_w := ⟨hk_in (by decide +kernel) rfl, hk_in (by decide +kernel) rfl, hk_in (List.mem_of_getElem? (i := 309) rfl) rfl⟩
theorem YM_min : Cond.static Lib.Math.min.name ∈ hk_w ∧ Cond.initialized "java/lang/Math" ∈ hk_w ∧ Cond.code Lib.Math.min.name Lib.Math.min.code 2 (some .int) ∈ hk_w := ⟨hk_in (by decide +kernel) rfl, hk_in (by decide +kernel) rfl, hk_in (List.mem_of_getElem? (i := 316) rfl) rfl⟩
theorem YM_abs : Cond.static Lib.Math.abs.name ∈ hk_w ∧ Cond.initialized "java/lang/Math" ∈ hk_w ∧ Cond.code Lib.Math.abs.name Lib.Math.abs.code 1 (some .int) ∈ hk_w := ⟨hk_in (by decide +kernel) rfl, hk_in (by decide +kernel) rfl, hk_in (List.mem_of_getElem? (i := 414) rfl) rfl⟩
theorem YO : Cond.instanceMethod Lib.objectInit ∈ hk_w ∧ Cond.code Lib.objectInit ⟨#[0xb1]⟩ 1 none ∈ hk_w := ⟨hk_in (by decide +kernel) rfl, hk_in (List.mem_of_getElem? (i := 71) rfl) rfl⟩
end
section
/-! HK: one list of words for all methods; contracts whose answer and world are functions of the start; the calls in one row each. -/
theorem hk_all {ws : List Cond} (h : ∀ w ∈ ws, w ∈ hk_w) : GoodIn hk_w ws := fun w hw => ⟨h w hw, good_of_word (List.mem_filter.mp (h w hw)).2⟩
def hk_isNest : Cond → Bool
  | .fieldLinkNest .. => true
  | .methodLinkNest .. => true
  | _ => false
theorem hk_Nw_warm {w : Cond} (hn : hk_isNest w = true) {s U : State} (hW : s.WarmedH U.vm) (h : va_Nw w s) : va_Nw w U := by
  cases w <;> first | exact va_Nw.warmF hW h | exact va_Nw.warmM hW h | (simp [hk_isNest] at hn)
theorem hk_Nw_same {w : Cond} (hn : hk_isNest w = true) {s U : State} (hW : s.vm = U.vm) (h : va_Nw w s) : va_Nw w U := by
  cases w <;> first | exact va_Nw.same rfl hW h | (simp [hk_isNest] at hn)
abbrev hk_D (G : hk_G) : va_G := (G.1, G.2.1)
def hk_AOA (U : State) : Prop := (Cond.arrayOver (.array .int)).before #[] U = true
theorem hk_AOA.moved {u U : State} (hvm : u.vm.Alike U.vm) (h : hk_AOA u) : hk_AOA U := by
  unfold hk_AOA at h ⊢
  simp only [Cond.before, Cond.holds, Cond.value] at h ⊢
  rw [hvm.findClass]
  cases hf : u.vm.findClass (FieldType.array .int).toString with
  | none => rw [hf] at h; simp at h
  | some comp =>
    rw [hf] at h
    simp only [Option.bind_some] at h ⊢
    rw [hvm.findIdx_congr _ (fun _ _ _ _ => rfl)]
    generalize hF : (u.vm.classes.findIdx? fun (x : Class) => match x.kind with | .array component _ => component == comp | _ => false) = fi at h ⊢
    cases fi with
    | none => simp at h
    | some c =>
      simp only [Option.bind_some] at h ⊢
      cases hk : u.vm.classes[c]? with
      | none => rw [hk] at h; simp at h
      | some k =>
        obtain ⟨k', hk', ek⟩ := hvm.2.2 _ _ hk
        rw [hk] at h
        rw [hk', hvm.findClass]
        have ekind : k'.kind = k.kind := by rw [ek]
        simp only [Option.map_some] at h ⊢
        rw [ekind]
        exact h
def hk_AO (U : State) : Prop := va_AO "BodyRows2$Side" U ∧ va_AO "BodyRows2$Window" U ∧ hk_AOA U
theorem hk_AO.moved {u U : State} (hvm : u.vm.Alike U.vm) (h : hk_AO u) : hk_AO U := ⟨va_AO.moved hvm h.1, va_AO.moved hvm h.2.1, hk_AOA.moved hvm h.2.2⟩
def hk_E (G : hk_G) (U : State) : Prop := va_K (hk_D G) classes (hk_ty G) U ∧ (∀ w ∈ lw_tbl, hk_isNest w = true → va_Nw w U) ∧ hk_AO U
theorem hk_E.warm {G : hk_G} {s U : State} (h : hk_E G s) (hW : s.WarmedH U.vm) : hk_E G U := ⟨va_K.moved hW.alike h.1, fun w hw hn => hk_Nw_warm hn hW (h.2.1 w hw hn), hk_AO.moved hW.alike h.2.2⟩
theorem hk_E.calling {G : hk_G} {U : State} (h : hk_E G U) (g : JFrame) (mk : MethodId) (a : Array Value) : hk_E G (U.calling g mk a) := ⟨va_K.moved (u := U) (U := U.calling g mk a) (Vm.Alike.refl U.vm) h.1, fun w hw hn => hk_Nw_same (s := U) (U := U.calling g mk a) hn rfl (h.2.1 w hw hn), hk_AO.moved (u := U) (U := U.calling g mk a) (Vm.Alike.refl U.vm) h.2.2⟩
def hk_P (G : hk_G) (w0 : va_W) (sz : Nat) (U : State) : Prop := U.heap.size = sz ∧ va_P (hk_D G) classes w0 U.heap ∧ hk_E G U ∧ va_D (fun _ => True) w0
def hk_B (G : hk_G) (w0 w1 : va_W) (sz : Nat) (_ : Unit) (t : State) : Prop := va_P (hk_D G) classes w1 t.heap ∧ va_D (va_A w0 sz) w1
/-- a method with an int's (or boolean's) answer that makes no cell -/
def hk_I (l : Launch) (G : hk_G) (y : MethodName) (b : ByteArray) (n : Nat) (ret : Option FieldType) (rm : Room) (av : List Value) (w0 : va_W) (r : Int32) (w1 : va_W) : Prop :=
  ∀ sz : Nat, Met l y (Cond.code y b n ret :: hk_w) rm (va_Pc av (hk_P G w0 sz)) (va_Qi (fun (x : Int32) (_ : Unit) => x = r) (hk_B G w0 w1 sz) (va_A w0 sz)) 0 0 (va_A w0 sz)
/-- a void method that makes no cell -/
def hk_V (l : Launch) (G : hk_G) (y : MethodName) (b : ByteArray) (n : Nat) (rm : Room) (av : List Value) (w0 : va_W) (w1 : va_W) : Prop :=
  ∀ sz : Nat, Met l y (Cond.code y b n none :: hk_w) rm (va_Pc av (hk_P G w0 sz)) (va_Qv (fun (_ : Unit) => True) (hk_B G w0 w1 sz) (va_A w0 sz)) 0 0 (va_A w0 sz)
/-- what a walk begins with -/
def hk_C (p : Program) (s : State) (m : MethodId) (meth : Method) (c : Code) (own : String) (b : ByteArray) (n : Nat) (ret : Option FieldType) (args : Array Value) (G : hk_G) : Prop :=
  p.tables.exec = Jvm.exec ∧ c.code = b ∧ meth.sig.returnType = ret ∧ c.maxLocals = n ∧ s.vm.findClass own = some m.cls ∧ (∀ w ∈ hk_w, w.before args s = true) ∧ meth.locks = false ∧ hk_E G s
theorem hk_I_of {l : Launch} {G : hk_G} {y : MethodName} {b : ByteArray} {n : Nat} {ret : Option FieldType} {rm : Room} {av : List Value} {w0 : va_W} {r : Int32} {w1 : va_W} (hy : plainName y.cls = true) (hn : (lg_sl av).length ≤ n)
    (body : ∀ (p : Program) (e : Env) (s : State) (m : MethodId) (below : List Frame) (meth : Method) (c : Code) (A : Nat → Prop) (ls : Array Slot),
      hk_C p s m meth c y.cls b n ret av.toArray G → va_A w0 s.heap.size = A → (∀ q : Nat, s.heap.size ≤ q → A q) → va_P (hk_D G) classes w0 s.heap → va_D A w0 → va_S A s.heap s.heap [] → lv_has ls n (lv_args 0 av) →
      W p l e rm s m av.toArray below meth c s.heap [] 0 0 (MQ below (va_Qi (fun (x : Int32) (_ : Unit) => x = r) (hk_B G w0 w1 s.heap.size) A) av.toArray s 0 0 A) (F0 m 0 ls [])) : hk_I l G y b n ret rm av w0 r w1 := by
  intro sz
  refine Met.ofW (cc := b) (maxL := n) (ret := ret) hy rfl ?_
  intro p e s m args below meth c s₁ B hml hv
  obtain ⟨rfl, hsz, hP, hE, hD0⟩ := hv
  subst hsz
  have hts := atoms_spec (ws := Cond.code y b n ret :: hk_w) B.pre
  rw [lg_entry_eq]
  exact body p e s m below meth c (va_A w0 s.heap.size) _ ⟨B.exec, B.bytes, B.returns, hml, findClass_of_methodNamed B.named, fun w h => hts w (List.mem_cons_of_mem _ h), B.notSynchronized, hE⟩ rfl (fun q h => Or.inr h) hP hD0.self va_S.rf (lv_entry av hn)
theorem hk_V_of {l : Launch} {G : hk_G} {y : MethodName} {b : ByteArray} {n : Nat} {rm : Room} {av : List Value} {w0 : va_W} {w1 : va_W} (hy : plainName y.cls = true) (hn : (lg_sl av).length ≤ n)
    (body : ∀ (p : Program) (e : Env) (s : State) (m : MethodId) (below : List Frame) (meth : Method) (c : Code) (A : Nat → Prop) (ls : Array Slot),
      hk_C p s m meth c y.cls b n none av.toArray G → va_A w0 s.heap.size = A → (∀ q : Nat, s.heap.size ≤ q → A q) → va_P (hk_D G) classes w0 s.heap → va_D A w0 → va_S A s.heap s.heap [] → lv_has ls n (lv_args 0 av) →
      W p l e rm s m av.toArray below meth c s.heap [] 0 0 (MQ below (va_Qv (fun (_ : Unit) => True) (hk_B G w0 w1 s.heap.size) A) av.toArray s 0 0 A) (F0 m 0 ls [])) : hk_V l G y b n rm av w0 w1 := by
  intro sz
  refine Met.ofW (cc := b) (maxL := n) (ret := none) hy rfl ?_
  intro p e s m args below meth c s₁ B hml hv
  obtain ⟨rfl, hsz, hP, hE, hD0⟩ := hv
  subst hsz
  have hts := atoms_spec (ws := Cond.code y b n none :: hk_w) B.pre
  rw [lg_entry_eq]
  exact body p e s m below meth c (va_A w0 s.heap.size) _ ⟨B.exec, B.bytes, B.returns, hml, findClass_of_methodNamed B.named, fun w h => hts w (List.mem_cons_of_mem _ h), B.notSynchronized, hE⟩ rfl (fun q h => Or.inr h) hP hD0.self va_S.rf (lv_entry av hn)
def hk_PZ (G : hk_G) (w0 : va_W) (Z : (Nat → Prop) → State → Heap → Prop) (sz : Nat) (U : State) : Prop := hk_P G w0 sz U ∧ Z (va_A w0 sz) U U.heap
/-- the same, of a method that reads a table that stands in a static field -/
def hk_IZ (l : Launch) (G : hk_G) (y : MethodName) (b : ByteArray) (n : Nat) (ret : Option FieldType) (rm : Room) (av : List Value) (w0 : va_W) (r : Int32) (w1 : va_W) (Z : (Nat → Prop) → State → Heap → Prop) : Prop :=
  ∀ sz : Nat, Met l y (Cond.code y b n ret :: hk_w) rm (va_Pc av (hk_PZ G w0 Z sz)) (va_Qi (fun (x : Int32) (_ : Unit) => x = r) (hk_B G w0 w1 sz) (va_A w0 sz)) 0 0 (va_A w0 sz)
theorem hk_IZ_of {l : Launch} {G : hk_G} {y : MethodName} {b : ByteArray} {n : Nat} {ret : Option FieldType} {rm : Room} {av : List Value} {w0 : va_W} {r : Int32} {w1 : va_W} {Z : (Nat → Prop) → State → Heap → Prop} (hy : plainName y.cls = true) (hn : (lg_sl av).length ≤ n)
    (body : ∀ (p : Program) (e : Env) (s : State) (m : MethodId) (below : List Frame) (meth : Method) (c : Code) (A : Nat → Prop) (ls : Array Slot),
      hk_C p s m meth c y.cls b n ret av.toArray G → va_A w0 s.heap.size = A → (∀ q : Nat, s.heap.size ≤ q → A q) → va_P (hk_D G) classes w0 s.heap → va_D A w0 → va_S A s.heap s.heap [] → lv_has ls n (lv_args 0 av) → Z A s s.heap →
      W p l e rm s m av.toArray below meth c s.heap [] 0 0 (MQ below (va_Qi (fun (x : Int32) (_ : Unit) => x = r) (hk_B G w0 w1 s.heap.size) A) av.toArray s 0 0 A) (F0 m 0 ls [])) : hk_IZ l G y b n ret rm av w0 r w1 Z := by
  intro sz
  refine Met.ofW (cc := b) (maxL := n) (ret := ret) hy rfl ?_
  intro p e s m args below meth c s₁ B hml hv
  obtain ⟨rfl, ⟨hsz, hP, hE, hD0⟩, hZ⟩ := hv
  subst hsz
  have hts := atoms_spec (ws := Cond.code y b n ret :: hk_w) B.pre
  rw [lg_entry_eq]
  exact body p e s m below meth c (va_A w0 s.heap.size) _ ⟨B.exec, B.bytes, B.returns, hml, findClass_of_methodNamed B.named, fun w h => hts w (List.mem_cons_of_mem _ h), B.notSynchronized, hE⟩ rfl (fun q h => Or.inr h) hP hD0.self va_S.rf (lv_entry av hn) hZ
theorem hk_nb {v : Int32} (h : v = 0 ∨ v = 1) : narrow .boolean (.int v) = .int v := by rcases h with rfl | rfl <;> rfl
theorem hk_fb {v : Int32} (h : v = 0 ∨ v = 1) : fits .boolean (.int v) = true := by rcases h with rfl | rfl <;> rfl
section HKW
variable {p : Program} {l : Launch} {e : Env} {R : Room} {s : State} {m : MethodId} {args : Array Value} {below : List Frame} {meth : Method} {c : Code} {H : Heap} {locs : List Loc} {cells slots : Nat} {Q : State → Prop}
variable {own : String} {b cc : ByteArray} {n nL : Nat} {ret ret0 : Option FieldType} {G : hk_G} {A : Nat → Prop} {w0 w1 w : va_W} {pc : Nat} {ls : Array Slot} {rest st : List Value} {H0 : Heap} {ws wc w2 : va_W}
theorem hk_ri {r v : Int32} (C : hk_C p s m meth c own b n (some .int) args G) (hA : va_A w0 s.heap.size = A) (hP : va_P (hk_D G) classes w H) (hD : va_D A w) (hS : va_S A s.heap H locs) (hv : v = r) (hw : w = w1) (hdg : decode b pc = .ok (.ireturn, 1)) :
    W p l e R s m args below meth c H locs 0 0 (MQ below (va_Qi (fun (x : Int32) (_ : Unit) => x = r) (hk_B G w0 w1 s.heap.size) A) args s 0 0 A) (F0 m pc ls [.int v]) := by
  subst hv
  subst hw
  subst hA
  exact W.iret C.1 C.2.1 C.2.2.1 (fun t ht hW => ⟨⟨v, (), rfl, rfl, by rw [ht]; exact hP, hD⟩, hS.F ht⟩) hS.2.2 hdg C.2.2.2.2.2.2.1
theorem hk_rz {r v : Int32} (C : hk_C p s m meth c own b n (some .boolean) args G) (hA : va_A w0 s.heap.size = A) (hP : va_P (hk_D G) classes w H) (hD : va_D A w) (hS : va_S A s.heap H locs) (h01 : v = 0 ∨ v = 1) (hv : v = r) (hw : w = w1) (hdg : decode b pc = .ok (.ireturn, 1)) :
    W p l e R s m args below meth c H locs 0 0 (MQ below (va_Qi (fun (x : Int32) (_ : Unit) => x = r) (hk_B G w0 w1 s.heap.size) A) args s 0 0 A) (F0 m pc ls [.int v]) := by
  subst hv
  subst hw
  subst hA
  exact W.zret C.1 C.2.1 C.2.2.1 (hk_nb h01) (fun t ht hW => ⟨⟨v, (), rfl, rfl, by rw [ht]; exact hP, hD⟩, hS.F ht⟩) hS.2.2 hdg C.2.2.2.2.2.2.1
theorem hk_rv (C : hk_C p s m meth c own b n none args G) (hA : va_A w0 s.heap.size = A) (hP : va_P (hk_D G) classes w H) (hD : va_D A w) (hS : va_S A s.heap H locs) (hw : w = w1) (hdg : decode b pc = .ok (.return_, 1)) :
    W p l e R s m args below meth c H locs 0 0 (MQ below (va_Qv (fun (_ : Unit) => True) (hk_B G w0 w1 s.heap.size) A) args s 0 0 A) (F0 m pc ls []) := by
  subst hw
  subst hA
  exact W.vret C.1 C.2.1 C.2.2.1 (fun t ht hW => ⟨⟨(), rfl, trivial, by rw [ht]; exact hP, hD⟩, hS.F ht⟩) hS.2.2 hdg C.2.2.2.2.2.2.1
/-- a callee on an object: its words -/
def hk_Y (y : MethodName) (b : ByteArray) (n : Nat) (ret : Option FieldType) (k : Nat) : Prop :=
  Cond.instanceMethod y ∈ hk_w ∧ Cond.selects y.cls y y ∈ hk_w ∧ Cond.initialized y.cls ∈ hk_w ∧ Cond.code y b n ret ∈ hk_w ∧ y.cls ≠ "java/lang/invoke/MethodHandle" ∧ y.cls ≠ "java/lang/invoke/VarHandle" ∧ (parseMethodDescriptor y.desc).map (fun d => d.parameters.length) = some k
/-- a static callee: its words -/
def hk_YS (y : MethodName) (b : ByteArray) (n : Nat) (ret : Option FieldType) (k : Nat) : Prop :=
  Cond.static y ∈ hk_w ∧ Cond.initialized y.cls ∈ hk_w ∧ Cond.code y b n ret ∈ hk_w ∧ y.cls ≠ "java/lang/invoke/MethodHandle" ∧ y.cls ≠ "java/lang/invoke/VarHandle" ∧ (parseMethodDescriptor y.desc).map (fun d => d.parameters.length) = some k
variable {y : MethodName} {yb : ByteArray} {yn k idx : Nat} {rm : Room} {Qc : Array Value → State → Outcome → State → Prop} {free : Addr → Prop} {a : Nat} {As : List Value} {mc ms : Nat}
theorem hk_blind {av : List Value} {w0 : va_W} {sz : Nat} : FrameBlind (va_Pc av (hk_P G w0 sz)) := fun a U g mk q => by
  obtain ⟨q0, q1, qP, qE, qD⟩ := q
  exact ⟨q0, q1, qP, hk_E.calling qE g mk a, qD⟩
theorem hk_pre {av : List Value} (C : hk_C p s m meth c own cc nL ret0 args G) (hPc : va_P (hk_D G) classes wc H) (hDc : va_D A wc) : PreS s H (va_Pc av (hk_P G wc H.size)) av :=
  ⟨hk_blind, fun U hU hW => ⟨rfl, by rw [hU], by rw [hU]; exact hPc, hk_E.warm C.2.2.2.2.2.2.2 hW, hDc.weaken (fun _ _ _ _ => trivial)⟩⟩
/-- invokevirtual of a method whose link is an ordinary one -/
theorem hk_kV (C : hk_C p s m meth c own cc nL ret0 args G) (hM : Met l y (Cond.code y yb yn ret :: hk_w) rm (va_Pc (.ref a :: As) (hk_P G wc H.size)) Qc mc ms free) (hY : hk_Y y yb yn ret k) (hl : Cond.methodLink own idx y ∈ hk_w)
    (hrc : rm.cells = mc) (hrs : rm.slots = ms) (hR : rm.frames + 1 ≤ R.frames ∧ 8 + (yn + 11) + rm.locals ≤ R.locals)
    (hrv : ∃ cell : Cell, H[a]? = some cell ∧ cell.vm.isStatics = false ∧ s.vm.findClass y.cls = some cell.cls) (hPc : va_P (hk_D G) classes wc H) (hDc : va_D A wc)
    (hk : As.length = k) (hls : ls.size = nL) (hst : st = As.reverse ++ .ref a :: rest) (hrm : (rest.map fun v => v.category).sum ≤ 8) (hdg : decode cc pc = .ok (.invokevirtual idx, 3)) (hcs : cells + mc ≤ R.cells ∧ slots + ms ≤ R.slots) :
    va_Run p l e R s m args below meth c H locs cells slots mc ms (F0 m pc ls st) rest (Qc (Value.ref a :: As).toArray) free := by
  obtain ⟨h1, h2, h3, h4, h5⟩ := hY
  have hT : GoodIn hk_w (wsV own idx y.cls y (Cond.code y yb yn ret :: hk_w)) := hk_all (by
    intro w hw
    unfold wsV at hw
    rcases List.mem_append.mp hw with h | h
    · simp only [List.mem_cons, List.not_mem_nil, or_false] at h
      rcases h with rfl | rfl | rfl | rfl <;> assumption
    · rcases List.mem_cons.mp h with rfl | h
      · exact h4
      · exact h)
  have hp := hk_pre (av := .ref a :: As) C hPc hDc
  exact va_runV ⟨C.1, C.2.1, C.2.2.2.1, C.2.2.2.2.1, C.2.2.2.2.2.1⟩ hM (cwV k C.2.2.2.2.2.1 hT rfl hrc hrs ⟨rfl, h5⟩ hR) ⟨hp.1, hrv, hp.2⟩ rfl hk hls hst (lv_room hrm) hdg hcs
/-- invokevirtual of a nest mate's private method -/
theorem hk_kN {host : String} (C : hk_C p s m meth c own cc nL ret0 args G) (hM : Met l y (Cond.code y yb yn ret :: hk_w) rm (va_Pc (.ref a :: As) (hk_P G wc H.size)) Qc mc ms free) (hY : hk_Y y yb yn ret k) (hl : Cond.methodLinkNest own idx y host ∈ lw_tbl)
    (hrc : rm.cells = mc) (hrs : rm.slots = ms) (hR : rm.frames + 1 ≤ R.frames ∧ 8 + (yn + 11) + rm.locals ≤ R.locals)
    (hrv : ∃ cell : Cell, H[a]? = some cell ∧ cell.vm.isStatics = false ∧ s.vm.findClass y.cls = some cell.cls) (hPc : va_P (hk_D G) classes wc H) (hDc : va_D A wc)
    (hk : As.length = k) (hls : ls.size = nL) (hst : st = As.reverse ++ .ref a :: rest) (hrm : (rest.map fun v => v.category).sum ≤ 8) (hdg : decode cc pc = .ok (.invokevirtual idx, 3)) (hcs : cells + mc ≤ R.cells ∧ slots + ms ≤ R.slots) :
    va_Run p l e R s m args below meth c H locs cells slots mc ms (F0 m pc ls st) rest (Qc (Value.ref a :: As).toArray) free := by
  obtain ⟨h1, h2, h3, h4, h5⟩ := hY
  have hG : GoodIn hk_w (Cond.code y yb yn ret :: hk_w) := hk_all (by
    intro w hw
    rcases List.mem_cons.mp hw with rfl | h
    · exact h4
    · exact h)
  have hts := C.2.2.2.2.2.1
  have hp := hk_pre (av := .ref a :: As) C hPc hDc
  exact va_runVN ⟨C.1, C.2.1, C.2.2.2.1, C.2.2.2.2.1, hts⟩ hM ⟨va_cnB k hts hG rfl hrc hrs (C.2.2.2.2.2.2.2.2.1 _ hl rfl) (hts _ h3) h5 hR, hts _ h1, hts _ h2⟩ ⟨hp.1, hrv, hp.2⟩ rfl hk hls hst (lv_room hrm) hdg hcs
/-- invokestatic of a class of ours -/
theorem hk_kS (C : hk_C p s m meth c own cc nL ret0 args G) (hM : Met l y (Cond.code y yb yn ret :: hk_w) rm (va_Pc As (hk_P G wc H.size)) Qc mc ms free) (hY : hk_YS y yb yn ret k) (hl : Cond.methodLink own idx y ∈ hk_w)
    (hrc : rm.cells = mc) (hrs : rm.slots = ms) (hR : rm.frames + 1 ≤ R.frames ∧ 8 + (yn + 11) + rm.locals ≤ R.locals) (hPc : va_P (hk_D G) classes wc H) (hDc : va_D A wc)
    (hk : As.length = k) (hls : ls.size = nL) (hst : st = As.reverse ++ rest) (hrm : (rest.map fun v => v.category).sum ≤ 8) (hdg : decode cc pc = .ok (.invokestatic idx, 3)) (hcs : cells + mc ≤ R.cells ∧ slots + ms ≤ R.slots) :
    va_Run p l e R s m args below meth c H locs cells slots mc ms (F0 m pc ls st) rest (Qc As.toArray) free := by
  obtain ⟨h1, h3, h4, h5⟩ := hY
  have hT : GoodIn hk_w (va_wsS own idx y (Cond.code y yb yn ret :: hk_w)) := hk_all (by
    intro w hw
    unfold va_wsS at hw
    rcases List.mem_append.mp hw with h | h
    · simp only [List.mem_cons, List.not_mem_nil, or_false] at h
      rcases h with rfl | rfl | rfl <;> assumption
    · rcases List.mem_cons.mp h with rfl | h
      · exact h4
      · exact h)
  have hp := hk_pre (av := As) C hPc hDc
  exact va_runS ⟨C.1, C.2.1, C.2.2.2.1, C.2.2.2.2.1, C.2.2.2.2.2.1⟩ hM (va_cwS k C.2.2.2.2.2.1 hT rfl hrc hrs h5 hR) hp rfl hk hls hst (lv_room hrm) hdg hcs
theorem hk_fr (hD : va_D A ws) (hS : va_S A H0 H locs) (hA : ∀ q, H0.size ≤ q → A q) (is : List Nat) (hC : is.map (fun i => ws[i]?) = wc.map some) : ∀ q, va_A wc H.size q → A q := va_free hD hS hA is hC
theorem hk_fm {α : Type} {f : Nat → Option α} {is : List Nat} {l : List α} (h : is.map f = l.map some) : is.filterMap f = l := by
  have e : is.filterMap f = (is.map f).filterMap id := by rw [List.filterMap_map]; rfl
  rw [e, h, List.filterMap_map]
  simp
/-- behind a call over the whole world: an int comes -/
theorem hk_goI {r : Int32} {av : Array Value} (hr : va_Run p l e R s m args below meth c H locs cells slots 0 0 (F0 m pc ls st) rest (va_Qi (fun (x : Int32) (_ : Unit) => x = r) (hk_B G ws w1 H.size) (va_A ws H.size) av) (va_A ws H.size)) (hD : va_D A ws) (hS : va_S A H0 H locs) (hA : ∀ q, H0.size ≤ q → A q)
    (kk : ∀ (H1 : Heap) (locs1 : List Loc), va_P (hk_D G) classes w1 H1 → va_D A w1 → va_S A H0 H1 locs1 → W p l e R s m args below meth c H1 locs1 cells slots Q (F0 m (pc + 3) ls (.int r :: rest))) : W p l e R s m args below meth c H locs cells slots Q (F0 m pc ls st) := by
  have hF : ∀ q, va_A ws H.size q → A q := fun q hq => by
    rcases hq with ⟨k, e, h⟩ | h
    · exact hD.2 k _ h
    · exact hA q (Nat.le_trans hS.1 h)
  refine va_calli hr hS (fun q _ h => hF q h) hF (fun r' u t H1 locs1 ht hvm hp hB hz hk hS1 => ?_)
  have hp : r' = r := hp
  subst hp
  obtain ⟨hP1, hD1⟩ := hB
  rw [ht] at hP1
  exact kk H1 locs1 hP1 (hD1.weaken (fun _ _ _ h => hF _ h)) hS1
theorem hk_goV {av : Array Value} (hr : va_Run p l e R s m args below meth c H locs cells slots 0 0 (F0 m pc ls st) rest (va_Qv (fun (_ : Unit) => True) (hk_B G ws w1 H.size) (va_A ws H.size) av) (va_A ws H.size)) (hD : va_D A ws) (hS : va_S A H0 H locs) (hA : ∀ q, H0.size ≤ q → A q)
    (kk : ∀ (H1 : Heap) (locs1 : List Loc), va_P (hk_D G) classes w1 H1 → va_D A w1 → va_S A H0 H1 locs1 → W p l e R s m args below meth c H1 locs1 cells slots Q (F0 m (pc + 3) ls rest)) : W p l e R s m args below meth c H locs cells slots Q (F0 m pc ls st) := by
  have hF : ∀ q, va_A ws H.size q → A q := fun q hq => by
    rcases hq with ⟨k, e, h⟩ | h
    · exact hD.2 k _ h
    · exact hA q (Nat.le_trans hS.1 h)
  refine va_callv hr hS (fun q _ h => hF q h) hF (fun u t H1 locs1 ht hvm hp hB hz hk hS1 => ?_)
  obtain ⟨hP1, hD1⟩ := hB
  rw [ht] at hP1
  exact kk H1 locs1 hP1 (hD1.weaken (fun _ _ _ h => hF _ h)) hS1
/-- behind a call over a part of the world (places isC; the rest isR; isN puts them into w2's order): an int comes -/
theorem hk_goIc {r : Int32} {av : Array Value} {wc1 : va_W} (hr : va_Run p l e R s m args below meth c H locs cells slots 0 0 (F0 m pc ls st) rest (va_Qi (fun (x : Int32) (_ : Unit) => x = r) (hk_B G wc wc1 H.size) (va_A wc H.size) av) (va_A wc H.size)) (hP : va_P (hk_D G) classes ws H) (hD : va_D A ws) (hS : va_S A H0 H locs) (hA : ∀ q, H0.size ≤ q → A q)
    (isC isR isN : List Nat) (hC : isC.map (fun i => ws[i]?) = wc.map some) (hRs : isR.map (fun i => ws[i]?) = (isR.filterMap (fun i => ws[i]?)).map some) (hn : va_nd isR = true) (hdis : ∀ i ∈ isR, i ∉ isC) (hN : isN.map (fun i => (isR.filterMap (fun i => ws[i]?) ++ wc1)[i]?) = w2.map some) (hnN : va_nd isN = true)
    (kk : ∀ (H1 : Heap) (locs1 : List Loc), va_P (hk_D G) classes w2 H1 → va_D A w2 → va_S A H0 H1 locs1 → W p l e R s m args below meth c H1 locs1 cells slots Q (F0 m (pc + 3) ls (.int r :: rest))) : W p l e R s m args below meth c H locs cells slots Q (F0 m pc ls st) := by
  have hF := hk_fr hD hS hA isC hC
  refine va_calli hr hS (fun q _ h => hF q h) hF (fun r' u t H1 locs1 ht hvm hp hB hz hk hS1 => ?_)
  have hp : r' = r := hp
  subst hp
  obtain ⟨hP1, hD1⟩ := hB
  rw [ht] at hP1
  obtain ⟨hP2, hD2⟩ := va_join hP hD isC isR hC hRs hn hdis hk hF hP1 hD1
  exact kk H1 locs1 (hP2.sub isN (hk_fm hN)) (hD2.sub isN hnN hN) hS1
theorem hk_goVc {av : Array Value} {wc1 : va_W} (hr : va_Run p l e R s m args below meth c H locs cells slots 0 0 (F0 m pc ls st) rest (va_Qv (fun (_ : Unit) => True) (hk_B G wc wc1 H.size) (va_A wc H.size) av) (va_A wc H.size)) (hP : va_P (hk_D G) classes ws H) (hD : va_D A ws) (hS : va_S A H0 H locs) (hA : ∀ q, H0.size ≤ q → A q)
    (isC isR isN : List Nat) (hC : isC.map (fun i => ws[i]?) = wc.map some) (hRs : isR.map (fun i => ws[i]?) = (isR.filterMap (fun i => ws[i]?)).map some) (hn : va_nd isR = true) (hdis : ∀ i ∈ isR, i ∉ isC) (hN : isN.map (fun i => (isR.filterMap (fun i => ws[i]?) ++ wc1)[i]?) = w2.map some) (hnN : va_nd isN = true)
    (kk : ∀ (H1 : Heap) (locs1 : List Loc), va_P (hk_D G) classes w2 H1 → va_D A w2 → va_S A H0 H1 locs1 → W p l e R s m args below meth c H1 locs1 cells slots Q (F0 m (pc + 3) ls rest)) : W p l e R s m args below meth c H locs cells slots Q (F0 m pc ls st) := by
  have hF := hk_fr hD hS hA isC hC
  refine va_callv hr hS (fun q _ h => hF q h) hF (fun u t H1 locs1 ht hvm hp hB hz hk hS1 => ?_)
  obtain ⟨hP1, hD1⟩ := hB
  rw [ht] at hP1
  obtain ⟨hP2, hD2⟩ := va_join hP hD isC isR hC hRs hn hdis hk hF hP1 hD1
  exact kk H1 locs1 (hP2.sub isN (hk_fm hN)) (hD2.sub isN hnN hN) hS1
/-- behind a call that needs no cell: an int comes, the world stays -/
theorem hk_goIe {r : Int32} {av : Array Value} (hr : va_Run p l e R s m args below meth c H locs cells slots 0 0 (F0 m pc ls st) rest (va_Qi (fun (x : Int32) (_ : Unit) => x = r) (hk_B G [] [] H.size) (va_A [] H.size) av) (va_A [] H.size)) (hP : va_P (hk_D G) classes ws H) (hS : va_S A H0 H locs) (hA : ∀ q, H0.size ≤ q → A q)
    (kk : ∀ (H1 : Heap) (locs1 : List Loc), va_P (hk_D G) classes ws H1 → va_S A H0 H1 locs1 → W p l e R s m args below meth c H1 locs1 cells slots Q (F0 m (pc + 3) ls (.int r :: rest))) : W p l e R s m args below meth c H locs cells slots Q (F0 m pc ls st) := by
  have hF : ∀ q, va_A [] H.size q → A q := fun q hq => by
    rcases hq with ⟨k, e, h⟩ | h
    · simp at h
    · exact hA q (Nat.le_trans hS.1 h)
  refine va_calli hr hS (fun q _ h => hF q h) hF (fun r' u t H1 locs1 ht hvm hp hB hz hk hS1 => ?_)
  have hp : r' = r := hp
  subst hp
  refine kk H1 locs1 (hP.kept fun k q hq => hk q.1 (hP k q hq).lt fun z => ?_) hS1
  have hlt := (hP k q hq).lt
  rcases z with ⟨k, e, h⟩ | h
  · simp at h
  · omega
/-- getfield of the own class -/
theorem hk_get (C : hk_C p s m meth c own cc nL ret0 args G) (hP : va_P (hk_D G) classes ws H) (q0 ci k : Nat) {Cn : String} {T : u_T} {N : Nat} (hin : ∀ w ∈ u_ws Cn T N, w ∈ hk_w) {fs : List Value} (he : ws[q0]? = some (a, .inr (ci, fs))) (hc : classes[ci]? = some (Cn, T, N)) (hk : k < N) (hl : Cond.fieldLink own idx (T k).1 (T k).2.1 (T k).2.2.1 ∈ hk_w) {v : Value} (hv : fs[k]? = some v) (hdg : decode cc pc = .ok (.getfield idx, 3))
    (kk : W p l e R s m args below meth c H locs cells slots Q (F0 m (pc + 3) ls (v :: rest))) : W p l e R s m args below meth c H locs cells slots Q (F0 m pc ls (.ref a :: rest)) :=
  va_get C.1 C.2.1 C.2.2.2.2.2.1 hin C.2.2.2.2.1 C.2.2.2.2.2.2.2.1 hP q0 he hc k hk (C.2.2.2.2.2.1 _ hl) (fun _ h9 => h9) hv hdg kk
/-- getfield of a nest mate's private field -/
theorem hk_getN {host : String} (C : hk_C p s m meth c own cc nL ret0 args G) (hP : va_P (hk_D G) classes ws H) (q0 ci k : Nat) {Cn : String} {T : u_T} {N : Nat} (hin : ∀ w ∈ u_ws Cn T N, w ∈ hk_w) {fs : List Value} (he : ws[q0]? = some (a, .inr (ci, fs))) (hc : classes[ci]? = some (Cn, T, N)) (hk : k < N) (hl : Cond.fieldLinkNest own idx (T k).1 (T k).2.1 (T k).2.2.1 host ∈ lw_tbl) {v : Value} (hv : fs[k]? = some v) (hdg : decode cc pc = .ok (.getfield idx, 3))
    (kk : W p l e R s m args below meth c H locs cells slots Q (F0 m (pc + 3) ls (v :: rest))) : W p l e R s m args below meth c H locs cells slots Q (F0 m pc ls (.ref a :: rest)) :=
  va_getN C.1 C.2.1 C.2.2.2.2.2.1 hin C.2.2.2.2.1 C.2.2.2.2.2.2.2.1 hP q0 he hc k hk (va_Nw.use rfl (C.2.2.2.2.2.2.2.2.1 _ hl rfl)) (fun _ h9 => h9) hv hdg kk
/-- putfield of the own class -/
theorem hk_put (C : hk_C p s m meth c own cc nL ret0 args G) (hP : va_P (hk_D G) classes ws H) (hD : va_D A ws) (hS : va_S A H0 H locs) (q0 ci k : Nat) {Cn : String} {T : u_T} {N : Nat} (hin : ∀ w ∈ u_ws Cn T N, w ∈ hk_w) {ty0 : Nat → FieldType} (hty : ∀ k, k < N → parseFieldDescriptor (T k).2.2.1 = some (ty0 k)) (hnm : ∀ a, a < N → ∀ b, b < N → a ≠ b → (T a).2.1 ≠ (T b).2.1) {fs : List Value} (he : ws[q0]? = some (a, .inr (ci, fs))) (hc : classes[ci]? = some (Cn, T, N)) (hk : k < N) (hl : Cond.fieldLink own idx (T k).1 (T k).2.1 (T k).2.2.1 ∈ hk_w) (hfin : (T k).2.2.2 = false) {ty : FieldType} {v : Value} (hd : parseFieldDescriptor (T k).2.2.1 = some ty) (hn : narrow ty v = v) (hfit : fits ty v = true) (hlen : k < fs.length) (hw : ws.set q0 (a, .inr (ci, fs.set k v)) = w2) (hdg : decode cc pc = .ok (.putfield idx, 3))
    (kk : ∀ (H1 : Heap) (locs1 : List Loc), va_P (hk_D G) classes w2 H1 → va_D A w2 → va_S A H0 H1 locs1 → W p l e R s m args below meth c H1 locs1 cells slots Q (F0 m (pc + 3) ls rest)) : W p l e R s m args below meth c H locs cells slots Q (F0 m pc ls (v :: .ref a :: rest)) := by
  subst hw
  exact va_put C.1 C.2.1 C.2.2.2.2.2.1 hin ty0 hty hnm C.2.2.2.2.1 C.2.2.2.2.2.2.2.1 hP hD hS q0 he hc k hk (C.2.2.2.2.2.1 _ hl) (fun _ h9 => h9) hfin hd hn hfit hlen hdg kk
/-- putfield of a nest mate's private field -/
theorem hk_putN {host : String} (C : hk_C p s m meth c own cc nL ret0 args G) (hP : va_P (hk_D G) classes ws H) (hD : va_D A ws) (hS : va_S A H0 H locs) (q0 ci k : Nat) {Cn : String} {T : u_T} {N : Nat} (hin : ∀ w ∈ u_ws Cn T N, w ∈ hk_w) {ty0 : Nat → FieldType} (hty : ∀ k, k < N → parseFieldDescriptor (T k).2.2.1 = some (ty0 k)) (hnm : ∀ a, a < N → ∀ b, b < N → a ≠ b → (T a).2.1 ≠ (T b).2.1) {fs : List Value} (he : ws[q0]? = some (a, .inr (ci, fs))) (hc : classes[ci]? = some (Cn, T, N)) (hk : k < N) (hl : Cond.fieldLinkNest own idx (T k).1 (T k).2.1 (T k).2.2.1 host ∈ lw_tbl) (hfin : (T k).2.2.2 = false) {ty : FieldType} {v : Value} (hd : parseFieldDescriptor (T k).2.2.1 = some ty) (hn : narrow ty v = v) (hfit : fits ty v = true) (hlen : k < fs.length) (hw : ws.set q0 (a, .inr (ci, fs.set k v)) = w2) (hdg : decode cc pc = .ok (.putfield idx, 3))
    (kk : ∀ (H1 : Heap) (locs1 : List Loc), va_P (hk_D G) classes w2 H1 → va_D A w2 → va_S A H0 H1 locs1 → W p l e R s m args below meth c H1 locs1 cells slots Q (F0 m (pc + 3) ls rest)) : W p l e R s m args below meth c H locs cells slots Q (F0 m pc ls (v :: .ref a :: rest)) := by
  subst hw
  exact va_putN C.1 C.2.1 C.2.2.2.2.2.1 hin ty0 hty hnm C.2.2.2.2.1 C.2.2.2.2.2.2.2.1 hP hD hS q0 he hc k hk (va_Nw.use rfl (C.2.2.2.2.2.2.2.2.1 _ hl rfl)) (fun _ h9 => h9) hfin hd hn hfit hlen hdg kk
theorem hk_ild (C : hk_C p s m meth c own cc nL ret0 args G) (hP : va_P (hk_D G) classes ws H) (q0 t0 : Nat) {cA : ClassId} {N : Nat} {f : Nat → Int32} (ha : ws[q0]? = some (a, .inl (cA, N, .inl f))) (ht : (hk_ty G)[t0]? = some (cA, .int)) {i v : Int32} (hin : vp_in i N) (hv : f i.toNatClampNeg = v) (hdg : decode cc pc = .ok (.iaload, 1))
    (kk : W p l e R s m args below meth c H locs cells slots Q (F0 m (pc + 1) ls (.int v :: rest))) : W p l e R s m args below meth c H locs cells slots Q (F0 m pc ls (.int i :: .ref a :: rest)) := by
  subst hv
  exact va_iald C.1 C.2.1 C.2.2.2.2.2.2.2.1 hP q0 t0 ha ht hin hdg kk
theorem hk_zld (C : hk_C p s m meth c own cc nL ret0 args G) (hP : va_P (hk_D G) classes ws H) (q0 t0 : Nat) {cA : ClassId} {N : Nat} {f : Nat → Int32} (ha : ws[q0]? = some (a, .inl (cA, N, .inl f))) (ht : (hk_ty G)[t0]? = some (cA, .boolean)) {i v : Int32} (hin : vp_in i N) (hv : f i.toNatClampNeg = v) (hdg : decode cc pc = .ok (.baload, 1))
    (kk : W p l e R s m args below meth c H locs cells slots Q (F0 m (pc + 1) ls (.int v :: rest))) : W p l e R s m args below meth c H locs cells slots Q (F0 m pc ls (.int i :: .ref a :: rest)) := by
  subst hv
  exact va_zald C.1 C.2.1 C.2.2.2.2.2.2.2.1 hP q0 t0 ha ht hin hdg kk
theorem hk_ist (C : hk_C p s m meth c own cc nL ret0 args G) (hP : va_P (hk_D G) classes ws H) (hD : va_D A ws) (hS : va_S A H0 H locs) (q0 t0 : Nat) {cA : ClassId} {N : Nat} {f : Nat → Int32} (ha : ws[q0]? = some (a, .inl (cA, N, .inl f))) (ht : (hk_ty G)[t0]? = some (cA, .int)) {i x : Int32} (hin : vp_in i N) (hw : ws.set q0 (a, .inl (cA, N, .inl (upd f i.toNatClampNeg x))) = w2) (hdg : decode cc pc = .ok (.iastore, 1))
    (kk : ∀ (H1 : Heap) (locs1 : List Loc), va_P (hk_D G) classes w2 H1 → va_D A w2 → va_S A H0 H1 locs1 → W p l e R s m args below meth c H1 locs1 cells slots Q (F0 m (pc + 1) ls rest)) : W p l e R s m args below meth c H locs cells slots Q (F0 m pc ls (.int x :: .int i :: .ref a :: rest)) := by
  subst hw
  exact va_iast C.1 C.2.1 C.2.2.2.2.2.2.2.1 hP hD hS q0 t0 ha ht hin hdg kk
theorem hk_nar01 {x : Int32} (h : x = 0 ∨ x = 1) : vp_nar .boolean x = x := by rcases h with rfl | rfl <;> rfl
theorem hk_zst (C : hk_C p s m meth c own cc nL ret0 args G) (hP : va_P (hk_D G) classes ws H) (hD : va_D A ws) (hS : va_S A H0 H locs) (q0 t0 : Nat) {cA : ClassId} {N : Nat} {f : Nat → Int32} (ha : ws[q0]? = some (a, .inl (cA, N, .inl f))) (ht : (hk_ty G)[t0]? = some (cA, .boolean)) {i x : Int32} (hin : vp_in i N) (h01 : x = 0 ∨ x = 1) (hw : ws.set q0 (a, .inl (cA, N, .inl (upd f i.toNatClampNeg x))) = w2) (hdg : decode cc pc = .ok (.bastore, 1))
    (kk : ∀ (H1 : Heap) (locs1 : List Loc), va_P (hk_D G) classes w2 H1 → va_D A w2 → va_S A H0 H1 locs1 → W p l e R s m args below meth c H1 locs1 cells slots Q (F0 m (pc + 1) ls rest)) : W p l e R s m args below meth c H locs cells slots Q (F0 m pc ls (.int x :: .int i :: .ref a :: rest)) := by
  subst hw
  refine va_zast C.1 C.2.1 C.2.2.2.2.2.2.2.1 hP hD hS q0 t0 ha ht hin hdg ?_
  rw [hk_nar01 h01]
  exact kk
/-- aaload, from an array of objects -/
theorem hk_ald (C : hk_C p s m meth c own cc nL ret0 args G) (hP : va_P (hk_D G) classes ws H) (q0 t0 : Nat) {cA : ClassId} {Cn : String} {N : Nat} {f : Nat → Option Nat} (ha : ws[q0]? = some (a, .inl (cA, N, .inr (.inr (.inr (.inr f)))))) (ht : (hk_ty G)[t0]? = some (cA, .object Cn)) {i : Int32} {v : Nat} (hin : vp_in i N) (hv : f i.toNatClampNeg = some v) (hdg : decode cc pc = .ok (.aaload, 1))
    (kk : W p l e R s m args below meth c H locs cells slots Q (F0 m (pc + 1) ls (.ref v :: rest))) : W p l e R s m args below meth c H locs cells slots Q (F0 m pc ls (.int i :: .ref a :: rest)) := by
  refine va_aldq C.1 C.2.1 C.2.2.2.2.2.2.2.1 hP q0 t0 ha ht hin hdg ?_
  rw [hv]
  exact kk
/-- aaload, from an array of arrays of ints -/
theorem hk_aldg (C : hk_C p s m meth c own cc nL ret0 args G) (hP : va_P (hk_D G) classes ws H) (q0 t0 : Nat) {cA : ClassId} {N : Nat} {f : Nat → Option Nat} (ha : ws[q0]? = some (a, .inl (cA, N, .inr (.inr (.inr (.inr f)))))) (ht : (hk_ty G)[t0]? = some (cA, .array .int)) {i : Int32} {v : Nat} (hin : vp_in i N) (hv : f i.toNatClampNeg = some v) (hdg : decode cc pc = .ok (.aaload, 1))
    (kk : W p l e R s m args below meth c H locs cells slots Q (F0 m (pc + 1) ls (.ref v :: rest))) : W p l e R s m args below meth c H locs cells slots Q (F0 m pc ls (.int i :: .ref a :: rest)) := by
  have hlt : i.toNatClampNeg < N := Nat.not_le.mp fun q => hin (Or.inr q)
  have hK := C.2.2.2.2.2.2.2.1
  refine W.aald (v := va_rf (f i.toNatClampNeg)) (ty := .array .int) C.1 C.2.1 (hP q0 _ ha) ((hK.2 t0 _ ht).1 N (fun j => va_rf (f j))) rfl (fun q => by cases q) (by show ¬ (i < 0 ∨ (arrV _ _ _).slots.size ≤ _); rw [arrV_size]; exact hin) (by show (arrV _ _ _).slots[_]? = _; rw [arrV_read _ _ hlt]) rfl rfl hdg ?_
  rw [hv]
  exact kk
theorem hk_fold {x z : Int32} (h : x = z) (kk : W p l e R s m args below meth c H locs cells slots Q (F0 m pc ls (.int z :: rest))) : W p l e R s m args below meth c H locs cells slots Q (F0 m pc ls (.int x :: rest)) := by
  subst h
  exact kk
theorem hk_mmax (C : hk_C p s m meth c own cc nL ret0 args G) (hl : Cond.methodLink own idx Lib.Math.max.name ∈ hk_w) (hf : 1 ≤ R.frames) (hlo : (rest.map fun v => v.category).sum + 13 ≤ R.locals) (hc : cells ≤ R.cells) (hs : slots ≤ R.slots) (hls : ls.size = nL) {x z : Int32} (hdg : decode cc pc = .ok (.invokestatic idx, 3))
    (kk : W p l e R s m args below meth c H locs cells slots Q (F0 m (pc + 3) ls (.int (mx x z) :: rest))) : W p l e R s m args below meth c H locs cells slots Q (F0 m pc ls (.int z :: .int x :: rest)) :=
  va_mmax C.1 C.2.1 (C.2.2.2.1.trans hls.symm) C.2.2.2.2.1 (C.2.2.2.2.2.1 _ hl) (C.2.2.2.2.2.1 _ YM_max.1) (C.2.2.2.2.2.1 _ YM_max.2.1) (C.2.2.2.2.2.1 _ YM_max.2.2) hf hlo hc hs hdg kk
theorem hk_mmin (C : hk_C p s m meth c own cc nL ret0 args G) (hl : Cond.methodLink own idx Lib.Math.min.name ∈ hk_w) (hf : 1 ≤ R.frames) (hlo : (rest.map fun v => v.category).sum + 13 ≤ R.locals) (hc : cells ≤ R.cells) (hs : slots ≤ R.slots) (hls : ls.size = nL) {x z : Int32} (hdg : decode cc pc = .ok (.invokestatic idx, 3))
    (kk : W p l e R s m args below meth c H locs cells slots Q (F0 m (pc + 3) ls (.int (mn x z) :: rest))) : W p l e R s m args below meth c H locs cells slots Q (F0 m pc ls (.int z :: .int x :: rest)) :=
  va_mmin C.1 C.2.1 (C.2.2.2.1.trans hls.symm) C.2.2.2.2.1 (C.2.2.2.2.2.1 _ hl) (C.2.2.2.2.2.1 _ YM_min.1) (C.2.2.2.2.2.1 _ YM_min.2.1) (C.2.2.2.2.2.1 _ YM_min.2.2) hf hlo hc hs hdg kk
theorem hk_mabs (C : hk_C p s m meth c own cc nL ret0 args G) (hl : Cond.methodLink own idx Lib.Math.abs.name ∈ hk_w) (hf : 1 ≤ R.frames) (hlo : (rest.map fun v => v.category).sum + 13 ≤ R.locals) (hc : cells ≤ R.cells) (hs : slots ≤ R.slots) (hls : ls.size = nL) {x : Int32} (hdg : decode cc pc = .ok (.invokestatic idx, 3))
    (kk : W p l e R s m args below meth c H locs cells slots Q (F0 m (pc + 3) ls (.int (ab x) :: rest))) : W p l e R s m args below meth c H locs cells slots Q (F0 m pc ls (.int x :: rest)) :=
  va_mabs C.1 C.2.1 (C.2.2.2.1.trans hls.symm) C.2.2.2.2.1 (C.2.2.2.2.2.1 _ hl) (C.2.2.2.2.2.1 _ YM_abs.1) (C.2.2.2.2.2.1 _ YM_abs.2.1) (C.2.2.2.2.2.1 _ YM_abs.2.2) hf hlo hc hs hdg kk
end HKW
end
