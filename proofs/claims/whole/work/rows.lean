section
-- ===== PART A: goes FIRST, ahead of the names: the tables' words, and 'selects' of the private methods out of them =====
/-- a private method of a class that the tables say can be made, by its rows of tables_1 -/
def lw_okq (q : MethodName × Nat) : Prop := (q.1.cls ≠ "java/lang/invoke/MethodHandle" ∧ q.1.cls ≠ "java/lang/invoke/VarHandle") ∧ Cond.instantiable q.1.cls q.2 ∈ tables_1 ∧ Cond.privateMethod q.1 ∈ tables_1 ∧ Cond.instanceMethod q.1 ∈ tables_1
theorem lw_p0 : lw_okq (⟨"MeterNetwork$TextBuffer", "findError", "()I"⟩, 7) := ⟨⟨by decide +kernel, by decide +kernel⟩, List.mem_of_getElem? (i := 143) (by decide +kernel), List.mem_of_getElem? (i := 199) (by decide +kernel), List.mem_of_getElem? (i := 200) (by decide +kernel)⟩
theorem lw_p1 : lw_okq (⟨"MeterNetwork$TextBuffer", "readCommand", "()Z"⟩, 7) := ⟨⟨by decide +kernel, by decide +kernel⟩, List.mem_of_getElem? (i := 143) (by decide +kernel), List.mem_of_getElem? (i := 203) (by decide +kernel), List.mem_of_getElem? (i := 204) (by decide +kernel)⟩
theorem lw_p2 : lw_okq (⟨"MeterNetwork$TextBuffer", "signHere", "()C"⟩, 7) := ⟨⟨by decide +kernel, by decide +kernel⟩, List.mem_of_getElem? (i := 143) (by decide +kernel), List.mem_of_getElem? (i := 207) (by decide +kernel), List.mem_of_getElem? (i := 208) (by decide +kernel)⟩
theorem lw_p3 : lw_okq (⟨"MeterNetwork$TextBuffer", "readFirst", "(I)Z"⟩, 7) := ⟨⟨by decide +kernel, by decide +kernel⟩, List.mem_of_getElem? (i := 143) (by decide +kernel), List.mem_of_getElem? (i := 211) (by decide +kernel), List.mem_of_getElem? (i := 212) (by decide +kernel)⟩
theorem lw_p4 : lw_okq (⟨"MeterNetwork$TextBuffer", "digitHere", "()I"⟩, 7) := ⟨⟨by decide +kernel, by decide +kernel⟩, List.mem_of_getElem? (i := 143) (by decide +kernel), List.mem_of_getElem? (i := 215) (by decide +kernel), List.mem_of_getElem? (i := 216) (by decide +kernel)⟩
theorem lw_p5 : lw_okq (⟨"MeterNetwork$TextBuffer", "readSecond", "()Z"⟩, 7) := ⟨⟨by decide +kernel, by decide +kernel⟩, List.mem_of_getElem? (i := 143) (by decide +kernel), List.mem_of_getElem? (i := 219) (by decide +kernel), List.mem_of_getElem? (i := 220) (by decide +kernel)⟩
theorem lw_p6 : lw_okq (⟨"MeterNetwork$TextBuffer", "readSign", "(C)Z"⟩, 7) := ⟨⟨by decide +kernel, by decide +kernel⟩, List.mem_of_getElem? (i := 143) (by decide +kernel), List.mem_of_getElem? (i := 223) (by decide +kernel), List.mem_of_getElem? (i := 224) (by decide +kernel)⟩
theorem lw_p7 : lw_okq (⟨"MeterNetwork$TextBuffer", "readNumber", "(II)Z"⟩, 7) := ⟨⟨by decide +kernel, by decide +kernel⟩, List.mem_of_getElem? (i := 143) (by decide +kernel), List.mem_of_getElem? (i := 227) (by decide +kernel), List.mem_of_getElem? (i := 228) (by decide +kernel)⟩
theorem lw_p8 : lw_okq (⟨"MeterNetwork$Readings", "sizeOf", "(I)I"⟩, 8) := ⟨⟨by decide +kernel, by decide +kernel⟩, List.mem_of_getElem? (i := 30) (by decide +kernel), List.mem_of_getElem? (i := 235) (by decide +kernel), List.mem_of_getElem? (i := 236) (by decide +kernel)⟩
theorem lw_p9 : lw_okq (⟨"MeterNetwork$Readings", "missingCount", "()I"⟩, 8) := ⟨⟨by decide +kernel, by decide +kernel⟩, List.mem_of_getElem? (i := 30) (by decide +kernel), List.mem_of_getElem? (i := 246) (by decide +kernel), List.mem_of_getElem? (i := 247) (by decide +kernel)⟩
theorem lw_p10 : lw_okq (⟨"MeterNetwork$Readings", "wrongStampCount", "()I"⟩, 8) := ⟨⟨by decide +kernel, by decide +kernel⟩, List.mem_of_getElem? (i := 30) (by decide +kernel), List.mem_of_getElem? (i := 255) (by decide +kernel), List.mem_of_getElem? (i := 256) (by decide +kernel)⟩
theorem lw_p11 : lw_okq (⟨"MeterNetwork$Readings", "partOf", "(III)I"⟩, 8) := ⟨⟨by decide +kernel, by decide +kernel⟩, List.mem_of_getElem? (i := 30) (by decide +kernel), List.mem_of_getElem? (i := 259) (by decide +kernel), List.mem_of_getElem? (i := 260) (by decide +kernel)⟩
theorem lw_p12 : lw_okq (⟨"MeterNetwork$Readings", "idAt", "(II)I"⟩, 8) := ⟨⟨by decide +kernel, by decide +kernel⟩, List.mem_of_getElem? (i := 30) (by decide +kernel), List.mem_of_getElem? (i := 263) (by decide +kernel), List.mem_of_getElem? (i := 264) (by decide +kernel)⟩
theorem lw_p13 : lw_okq (⟨"MeterNetwork$Readings", "stampAt", "(II)I"⟩, 8) := ⟨⟨by decide +kernel, by decide +kernel⟩, List.mem_of_getElem? (i := 30) (by decide +kernel), List.mem_of_getElem? (i := 267) (by decide +kernel), List.mem_of_getElem? (i := 268) (by decide +kernel)⟩
theorem lw_p14 : lw_okq (⟨"MeterNetwork$State", "copyFrom", "(LMeterNetwork$State;)V"⟩, 15) := ⟨⟨by decide +kernel, by decide +kernel⟩, List.mem_of_getElem? (i := 24) (by decide +kernel), List.mem_of_getElem? (i := 275) (by decide +kernel), List.mem_of_getElem? (i := 276) (by decide +kernel)⟩
theorem lw_p15 : lw_okq (⟨"MeterNetwork$Readings", "copyFrom", "(LMeterNetwork$Readings;)V"⟩, 8) := ⟨⟨by decide +kernel, by decide +kernel⟩, List.mem_of_getElem? (i := 30) (by decide +kernel), List.mem_of_getElem? (i := 289) (by decide +kernel), List.mem_of_getElem? (i := 290) (by decide +kernel)⟩
def lw_privs_1 : List (MethodName × Nat) := [(⟨"MeterNetwork$TextBuffer", "findError", "()I"⟩, 7), (⟨"MeterNetwork$TextBuffer", "readCommand", "()Z"⟩, 7), (⟨"MeterNetwork$TextBuffer", "signHere", "()C"⟩, 7), (⟨"MeterNetwork$TextBuffer", "readFirst", "(I)Z"⟩, 7), (⟨"MeterNetwork$TextBuffer", "digitHere", "()I"⟩, 7), (⟨"MeterNetwork$TextBuffer", "readSecond", "()Z"⟩, 7), (⟨"MeterNetwork$TextBuffer", "readSign", "(C)Z"⟩, 7), (⟨"MeterNetwork$TextBuffer", "readNumber", "(II)Z"⟩, 7), (⟨"MeterNetwork$Readings", "sizeOf", "(I)I"⟩, 8), (⟨"MeterNetwork$Readings", "missingCount", "()I"⟩, 8), (⟨"MeterNetwork$Readings", "wrongStampCount", "()I"⟩, 8), (⟨"MeterNetwork$Readings", "partOf", "(III)I"⟩, 8), (⟨"MeterNetwork$Readings", "idAt", "(II)I"⟩, 8), (⟨"MeterNetwork$Readings", "stampAt", "(II)I"⟩, 8), (⟨"MeterNetwork$State", "copyFrom", "(LMeterNetwork$State;)V"⟩, 15), (⟨"MeterNetwork$Readings", "copyFrom", "(LMeterNetwork$Readings;)V"⟩, 8)]
theorem lw_r1 : ∀ q ∈ lw_privs_1, lw_okq q := List.forall_mem_cons.mpr ⟨lw_p0, List.forall_mem_cons.mpr ⟨lw_p1, List.forall_mem_cons.mpr ⟨lw_p2, List.forall_mem_cons.mpr ⟨lw_p3, List.forall_mem_cons.mpr ⟨lw_p4, List.forall_mem_cons.mpr ⟨lw_p5, List.forall_mem_cons.mpr ⟨lw_p6, List.forall_mem_cons.mpr ⟨lw_p7, List.forall_mem_cons.mpr ⟨lw_p8, List.forall_mem_cons.mpr ⟨lw_p9, List.forall_mem_cons.mpr ⟨lw_p10, List.forall_mem_cons.mpr ⟨lw_p11, List.forall_mem_cons.mpr ⟨lw_p12, List.forall_mem_cons.mpr ⟨lw_p13, List.forall_mem_cons.mpr ⟨lw_p14, List.forall_mem_cons.mpr ⟨lw_p15, fun _ h => absurd h List.not_mem_nil⟩⟩⟩⟩⟩⟩⟩⟩⟩⟩⟩⟩⟩⟩⟩⟩
theorem lw_p16 : lw_okq (⟨"MeterNetwork$State", "runSlots", "(I)I"⟩, 15) := ⟨⟨by decide +kernel, by decide +kernel⟩, List.mem_of_getElem? (i := 24) (by decide +kernel), List.mem_of_getElem? (i := 294) (by decide +kernel), List.mem_of_getElem? (i := 295) (by decide +kernel)⟩
theorem lw_p17 : lw_okq (⟨"MeterNetwork$State", "losePatience", "(I)V"⟩, 15) := ⟨⟨by decide +kernel, by decide +kernel⟩, List.mem_of_getElem? (i := 24) (by decide +kernel), List.mem_of_getElem? (i := 302) (by decide +kernel), List.mem_of_getElem? (i := 303) (by decide +kernel)⟩
theorem lw_p18 : lw_okq (⟨"MeterNetwork$State", "dropParent", "(I)V"⟩, 15) := ⟨⟨by decide +kernel, by decide +kernel⟩, List.mem_of_getElem? (i := 24) (by decide +kernel), List.mem_of_getElem? (i := 306) (by decide +kernel), List.mem_of_getElem? (i := 307) (by decide +kernel)⟩
theorem lw_p19 : lw_okq (⟨"MeterNetwork$State", "beHeard", "(I)V"⟩, 15) := ⟨⟨by decide +kernel, by decide +kernel⟩, List.mem_of_getElem? (i := 24) (by decide +kernel), List.mem_of_getElem? (i := 310) (by decide +kernel), List.mem_of_getElem? (i := 311) (by decide +kernel)⟩
theorem lw_p20 : lw_okq (⟨"MeterNetwork$State", "areConnected", "(II)Z"⟩, 15) := ⟨⟨by decide +kernel, by decide +kernel⟩, List.mem_of_getElem? (i := 24) (by decide +kernel), List.mem_of_getElem? (i := 314) (by decide +kernel), List.mem_of_getElem? (i := 315) (by decide +kernel)⟩
theorem lw_p21 : lw_okq (⟨"MeterNetwork$State", "isOn", "(I)Z"⟩, 15) := ⟨⟨by decide +kernel, by decide +kernel⟩, List.mem_of_getElem? (i := 24) (by decide +kernel), List.mem_of_getElem? (i := 318) (by decide +kernel), List.mem_of_getElem? (i := 319) (by decide +kernel)⟩
theorem lw_p22 : lw_okq (⟨"MeterNetwork$State", "hear", "(II)V"⟩, 15) := ⟨⟨by decide +kernel, by decide +kernel⟩, List.mem_of_getElem? (i := 24) (by decide +kernel), List.mem_of_getElem? (i := 325) (by decide +kernel), List.mem_of_getElem? (i := 326) (by decide +kernel)⟩
theorem lw_p23 : lw_okq (⟨"MeterNetwork$State", "isBetterParent", "(II)Z"⟩, 15) := ⟨⟨by decide +kernel, by decide +kernel⟩, List.mem_of_getElem? (i := 24) (by decide +kernel), List.mem_of_getElem? (i := 329) (by decide +kernel), List.mem_of_getElem? (i := 330) (by decide +kernel)⟩
theorem lw_p24 : lw_okq (⟨"MeterNetwork$Readings", "shiftStamps", "(II)V"⟩, 8) := ⟨⟨by decide +kernel, by decide +kernel⟩, List.mem_of_getElem? (i := 30) (by decide +kernel), List.mem_of_getElem? (i := 333) (by decide +kernel), List.mem_of_getElem? (i := 334) (by decide +kernel)⟩
theorem lw_p25 : lw_okq (⟨"MeterNetwork$State", "send", "(I)V"⟩, 15) := ⟨⟨by decide +kernel, by decide +kernel⟩, List.mem_of_getElem? (i := 24) (by decide +kernel), List.mem_of_getElem? (i := 337) (by decide +kernel), List.mem_of_getElem? (i := 338) (by decide +kernel)⟩
theorem lw_p26 : lw_okq (⟨"MeterNetwork$State", "isAccepted", "(II)Z"⟩, 15) := ⟨⟨by decide +kernel, by decide +kernel⟩, List.mem_of_getElem? (i := 24) (by decide +kernel), List.mem_of_getElem? (i := 341) (by decide +kernel), List.mem_of_getElem? (i := 342) (by decide +kernel)⟩
theorem lw_p27 : lw_okq (⟨"MeterNetwork$Readings", "holds", "(II)Z"⟩, 8) := ⟨⟨by decide +kernel, by decide +kernel⟩, List.mem_of_getElem? (i := 30) (by decide +kernel), List.mem_of_getElem? (i := 346) (by decide +kernel), List.mem_of_getElem? (i := 347) (by decide +kernel)⟩
theorem lw_p28 : lw_okq (⟨"MeterNetwork$Readings", "isFull", "(I)Z"⟩, 8) := ⟨⟨by decide +kernel, by decide +kernel⟩, List.mem_of_getElem? (i := 30) (by decide +kernel), List.mem_of_getElem? (i := 350) (by decide +kernel), List.mem_of_getElem? (i := 351) (by decide +kernel)⟩
theorem lw_p29 : lw_okq (⟨"MeterNetwork$Readings", "put", "(III)V"⟩, 8) := ⟨⟨by decide +kernel, by decide +kernel⟩, List.mem_of_getElem? (i := 30) (by decide +kernel), List.mem_of_getElem? (i := 355) (by decide +kernel), List.mem_of_getElem? (i := 356) (by decide +kernel)⟩
theorem lw_p30 : lw_okq (⟨"MeterNetwork$Readings", "removeFirst", "(I)V"⟩, 8) := ⟨⟨by decide +kernel, by decide +kernel⟩, List.mem_of_getElem? (i := 30) (by decide +kernel), List.mem_of_getElem? (i := 360) (by decide +kernel), List.mem_of_getElem? (i := 361) (by decide +kernel)⟩
theorem lw_p31 : lw_okq (⟨"MeterNetwork$State", "joinedCount", "()I"⟩, 15) := ⟨⟨by decide +kernel, by decide +kernel⟩, List.mem_of_getElem? (i := 24) (by decide +kernel), List.mem_of_getElem? (i := 372) (by decide +kernel), List.mem_of_getElem? (i := 373) (by decide +kernel)⟩
def lw_privs_2 : List (MethodName × Nat) := [(⟨"MeterNetwork$State", "runSlots", "(I)I"⟩, 15), (⟨"MeterNetwork$State", "losePatience", "(I)V"⟩, 15), (⟨"MeterNetwork$State", "dropParent", "(I)V"⟩, 15), (⟨"MeterNetwork$State", "beHeard", "(I)V"⟩, 15), (⟨"MeterNetwork$State", "areConnected", "(II)Z"⟩, 15), (⟨"MeterNetwork$State", "isOn", "(I)Z"⟩, 15), (⟨"MeterNetwork$State", "hear", "(II)V"⟩, 15), (⟨"MeterNetwork$State", "isBetterParent", "(II)Z"⟩, 15), (⟨"MeterNetwork$Readings", "shiftStamps", "(II)V"⟩, 8), (⟨"MeterNetwork$State", "send", "(I)V"⟩, 15), (⟨"MeterNetwork$State", "isAccepted", "(II)Z"⟩, 15), (⟨"MeterNetwork$Readings", "holds", "(II)Z"⟩, 8), (⟨"MeterNetwork$Readings", "isFull", "(I)Z"⟩, 8), (⟨"MeterNetwork$Readings", "put", "(III)V"⟩, 8), (⟨"MeterNetwork$Readings", "removeFirst", "(I)V"⟩, 8), (⟨"MeterNetwork$State", "joinedCount", "()I"⟩, 15)]
theorem lw_r2 : ∀ q ∈ lw_privs_2, lw_okq q := List.forall_mem_cons.mpr ⟨lw_p16, List.forall_mem_cons.mpr ⟨lw_p17, List.forall_mem_cons.mpr ⟨lw_p18, List.forall_mem_cons.mpr ⟨lw_p19, List.forall_mem_cons.mpr ⟨lw_p20, List.forall_mem_cons.mpr ⟨lw_p21, List.forall_mem_cons.mpr ⟨lw_p22, List.forall_mem_cons.mpr ⟨lw_p23, List.forall_mem_cons.mpr ⟨lw_p24, List.forall_mem_cons.mpr ⟨lw_p25, List.forall_mem_cons.mpr ⟨lw_p26, List.forall_mem_cons.mpr ⟨lw_p27, List.forall_mem_cons.mpr ⟨lw_p28, List.forall_mem_cons.mpr ⟨lw_p29, List.forall_mem_cons.mpr ⟨lw_p30, List.forall_mem_cons.mpr ⟨lw_p31, fun _ h => absurd h List.not_mem_nil⟩⟩⟩⟩⟩⟩⟩⟩⟩⟩⟩⟩⟩⟩⟩⟩
theorem lw_p32 : lw_okq (⟨"java/lang/Throwable", "fillInStackTrace", "(I)Ljava/lang/Throwable;"⟩, 6) := ⟨⟨by decide +kernel, by decide +kernel⟩, List.mem_of_getElem? (i := 436) (by decide +kernel), List.mem_of_getElem? (i := 434) (by decide +kernel), List.mem_of_getElem? (i := 435) (by decide +kernel)⟩
theorem lw_p33 : lw_okq (⟨"MeterNetwork$History", "save", "(LMeterNetwork$State;)V"⟩, 3) := ⟨⟨by decide +kernel, by decide +kernel⟩, List.mem_of_getElem? (i := 124) (by decide +kernel), List.mem_of_getElem? (i := 482) (by decide +kernel), List.mem_of_getElem? (i := 483) (by decide +kernel)⟩
theorem lw_p34 : lw_okq (⟨"MeterNetwork$State", "setLink", "(IIZ)V"⟩, 15) := ⟨⟨by decide +kernel, by decide +kernel⟩, List.mem_of_getElem? (i := 24) (by decide +kernel), List.mem_of_getElem? (i := 489) (by decide +kernel), List.mem_of_getElem? (i := 490) (by decide +kernel)⟩
theorem lw_p35 : lw_okq (⟨"MeterNetwork$State", "linkCount", "()I"⟩, 15) := ⟨⟨by decide +kernel, by decide +kernel⟩, List.mem_of_getElem? (i := 24) (by decide +kernel), List.mem_of_getElem? (i := 493) (by decide +kernel), List.mem_of_getElem? (i := 494) (by decide +kernel)⟩
theorem lw_p36 : lw_okq (⟨"MeterNetwork$State", "setPower", "(IZ)V"⟩, 15) := ⟨⟨by decide +kernel, by decide +kernel⟩, List.mem_of_getElem? (i := 24) (by decide +kernel), List.mem_of_getElem? (i := 504) (by decide +kernel), List.mem_of_getElem? (i := 505) (by decide +kernel)⟩
theorem lw_p37 : lw_okq (⟨"MeterNetwork$State", "onCount", "()I"⟩, 15) := ⟨⟨by decide +kernel, by decide +kernel⟩, List.mem_of_getElem? (i := 24) (by decide +kernel), List.mem_of_getElem? (i := 508) (by decide +kernel), List.mem_of_getElem? (i := 509) (by decide +kernel)⟩
theorem lw_p38 : lw_okq (⟨"MeterNetwork$State", "canTake", "(I)Z"⟩, 15) := ⟨⟨by decide +kernel, by decide +kernel⟩, List.mem_of_getElem? (i := 24) (by decide +kernel), List.mem_of_getElem? (i := 549) (by decide +kernel), List.mem_of_getElem? (i := 550) (by decide +kernel)⟩
theorem lw_p39 : lw_okq (⟨"MeterNetwork$State", "takeReading", "(II)I"⟩, 15) := ⟨⟨by decide +kernel, by decide +kernel⟩, List.mem_of_getElem? (i := 24) (by decide +kernel), List.mem_of_getElem? (i := 569) (by decide +kernel), List.mem_of_getElem? (i := 570) (by decide +kernel)⟩
theorem lw_p40 : lw_okq (⟨"MeterNetwork$Readings", "takeAt", "(IIII)I"⟩, 8) := ⟨⟨by decide +kernel, by decide +kernel⟩, List.mem_of_getElem? (i := 30) (by decide +kernel), List.mem_of_getElem? (i := 573) (by decide +kernel), List.mem_of_getElem? (i := 574) (by decide +kernel)⟩
theorem lw_p41 : lw_okq (⟨"MeterNetwork$Readings", "takenAt", "(I)I"⟩, 8) := ⟨⟨by decide +kernel, by decide +kernel⟩, List.mem_of_getElem? (i := 30) (by decide +kernel), List.mem_of_getElem? (i := 577) (by decide +kernel), List.mem_of_getElem? (i := 578) (by decide +kernel)⟩
theorem lw_p42 : lw_okq (⟨"MeterNetwork$TextBuffer", "isFull", "()Z"⟩, 7) := ⟨⟨by decide +kernel, by decide +kernel⟩, List.mem_of_getElem? (i := 143) (by decide +kernel), List.mem_of_getElem? (i := 596) (by decide +kernel), List.mem_of_getElem? (i := 597) (by decide +kernel)⟩
theorem lw_p43 : lw_okq (⟨"MeterNetwork$TextBuffer", "append", "(C)V"⟩, 7) := ⟨⟨by decide +kernel, by decide +kernel⟩, List.mem_of_getElem? (i := 143) (by decide +kernel), List.mem_of_getElem? (i := 601) (by decide +kernel), List.mem_of_getElem? (i := 602) (by decide +kernel)⟩
theorem lw_p44 : lw_okq (⟨"MeterNetwork", "executeCommand", "()Z"⟩, 4) := ⟨⟨by decide +kernel, by decide +kernel⟩, List.mem_of_getElem? (i := 16) (by decide +kernel), List.mem_of_getElem? (i := 614) (by decide +kernel), List.mem_of_getElem? (i := 615) (by decide +kernel)⟩
theorem lw_p45 : lw_okq (⟨"MeterNetwork$History", "newest", "()LMeterNetwork$State;"⟩, 3) := ⟨⟨by decide +kernel, by decide +kernel⟩, List.mem_of_getElem? (i := 124) (by decide +kernel), List.mem_of_getElem? (i := 627) (by decide +kernel), List.mem_of_getElem? (i := 628) (by decide +kernel)⟩
theorem lw_p46 : lw_okq (⟨"MeterNetwork$History", "removeNewest", "()V"⟩, 3) := ⟨⟨by decide +kernel, by decide +kernel⟩, List.mem_of_getElem? (i := 124) (by decide +kernel), List.mem_of_getElem? (i := 632) (by decide +kernel), List.mem_of_getElem? (i := 633) (by decide +kernel)⟩
theorem lw_p47 : lw_okq (⟨"MeterNetwork$State", "hopsToCollector", "(I)I"⟩, 15) := ⟨⟨by decide +kernel, by decide +kernel⟩, List.mem_of_getElem? (i := 24) (by decide +kernel), List.mem_of_getElem? (i := 686) (by decide +kernel), List.mem_of_getElem? (i := 687) (by decide +kernel)⟩
def lw_privs_3 : List (MethodName × Nat) := [(⟨"java/lang/Throwable", "fillInStackTrace", "(I)Ljava/lang/Throwable;"⟩, 6), (⟨"MeterNetwork$History", "save", "(LMeterNetwork$State;)V"⟩, 3), (⟨"MeterNetwork$State", "setLink", "(IIZ)V"⟩, 15), (⟨"MeterNetwork$State", "linkCount", "()I"⟩, 15), (⟨"MeterNetwork$State", "setPower", "(IZ)V"⟩, 15), (⟨"MeterNetwork$State", "onCount", "()I"⟩, 15), (⟨"MeterNetwork$State", "canTake", "(I)Z"⟩, 15), (⟨"MeterNetwork$State", "takeReading", "(II)I"⟩, 15), (⟨"MeterNetwork$Readings", "takeAt", "(IIII)I"⟩, 8), (⟨"MeterNetwork$Readings", "takenAt", "(I)I"⟩, 8), (⟨"MeterNetwork$TextBuffer", "isFull", "()Z"⟩, 7), (⟨"MeterNetwork$TextBuffer", "append", "(C)V"⟩, 7), (⟨"MeterNetwork", "executeCommand", "()Z"⟩, 4), (⟨"MeterNetwork$History", "newest", "()LMeterNetwork$State;"⟩, 3), (⟨"MeterNetwork$History", "removeNewest", "()V"⟩, 3), (⟨"MeterNetwork$State", "hopsToCollector", "(I)I"⟩, 15)]
theorem lw_r3 : ∀ q ∈ lw_privs_3, lw_okq q := List.forall_mem_cons.mpr ⟨lw_p32, List.forall_mem_cons.mpr ⟨lw_p33, List.forall_mem_cons.mpr ⟨lw_p34, List.forall_mem_cons.mpr ⟨lw_p35, List.forall_mem_cons.mpr ⟨lw_p36, List.forall_mem_cons.mpr ⟨lw_p37, List.forall_mem_cons.mpr ⟨lw_p38, List.forall_mem_cons.mpr ⟨lw_p39, List.forall_mem_cons.mpr ⟨lw_p40, List.forall_mem_cons.mpr ⟨lw_p41, List.forall_mem_cons.mpr ⟨lw_p42, List.forall_mem_cons.mpr ⟨lw_p43, List.forall_mem_cons.mpr ⟨lw_p44, List.forall_mem_cons.mpr ⟨lw_p45, List.forall_mem_cons.mpr ⟨lw_p46, List.forall_mem_cons.mpr ⟨lw_p47, fun _ h => absurd h List.not_mem_nil⟩⟩⟩⟩⟩⟩⟩⟩⟩⟩⟩⟩⟩⟩⟩⟩
theorem lw_p48 : lw_okq (⟨"MeterNetwork$State", "neighboursOf", "(I)I"⟩, 15) := ⟨⟨by decide +kernel, by decide +kernel⟩, List.mem_of_getElem? (i := 24) (by decide +kernel), List.mem_of_getElem? (i := 690) (by decide +kernel), List.mem_of_getElem? (i := 691) (by decide +kernel)⟩
theorem lw_p49 : lw_okq (⟨"MeterNetwork$Readings", "findId", "(II)I"⟩, 8) := ⟨⟨by decide +kernel, by decide +kernel⟩, List.mem_of_getElem? (i := 30) (by decide +kernel), List.mem_of_getElem? (i := 727) (by decide +kernel), List.mem_of_getElem? (i := 728) (by decide +kernel)⟩
theorem lw_p50 : lw_okq (⟨"MeterNetwork$Readings", "storesWith", "(I)I"⟩, 8) := ⟨⟨by decide +kernel, by decide +kernel⟩, List.mem_of_getElem? (i := 30) (by decide +kernel), List.mem_of_getElem? (i := 731) (by decide +kernel), List.mem_of_getElem? (i := 732) (by decide +kernel)⟩
theorem lw_p51 : lw_okq (⟨"MeterNetworkModel", "goes", "(ZZZ)Z"⟩, 9) := ⟨⟨by decide +kernel, by decide +kernel⟩, List.mem_of_getElem? (i := 751) (by decide +kernel), List.mem_of_getElem? (i := 802) (by decide +kernel), List.mem_of_getElem? (i := 803) (by decide +kernel)⟩
theorem lw_p52 : lw_okq (⟨"MeterNetworkModel", "saves", "()V"⟩, 9) := ⟨⟨by decide +kernel, by decide +kernel⟩, List.mem_of_getElem? (i := 751) (by decide +kernel), List.mem_of_getElem? (i := 806) (by decide +kernel), List.mem_of_getElem? (i := 807) (by decide +kernel)⟩
theorem lw_p53 : lw_okq (⟨"MeterNetworkModel", "lays", "(II)V"⟩, 9) := ⟨⟨by decide +kernel, by decide +kernel⟩, List.mem_of_getElem? (i := 751) (by decide +kernel), List.mem_of_getElem? (i := 810) (by decide +kernel), List.mem_of_getElem? (i := 811) (by decide +kernel)⟩
theorem lw_p54 : lw_okq (⟨"MeterNetworkModel", "links", "(IIZ)I"⟩, 9) := ⟨⟨by decide +kernel, by decide +kernel⟩, List.mem_of_getElem? (i := 751) (by decide +kernel), List.mem_of_getElem? (i := 814) (by decide +kernel), List.mem_of_getElem? (i := 815) (by decide +kernel)⟩
theorem lw_p55 : lw_okq (⟨"MeterNetworkModel", "powers", "(IZ)I"⟩, 9) := ⟨⟨by decide +kernel, by decide +kernel⟩, List.mem_of_getElem? (i := 751) (by decide +kernel), List.mem_of_getElem? (i := 825) (by decide +kernel), List.mem_of_getElem? (i := 826) (by decide +kernel)⟩
theorem lw_p56 : lw_okq (⟨"MeterNetworkModel", "sets", "(II)I"⟩, 9) := ⟨⟨by decide +kernel, by decide +kernel⟩, List.mem_of_getElem? (i := 751) (by decide +kernel), List.mem_of_getElem? (i := 840) (by decide +kernel), List.mem_of_getElem? (i := 841) (by decide +kernel)⟩
theorem lw_p57 : lw_okq (⟨"MeterNetworkModel", "canTake", "(I)Z"⟩, 9) := ⟨⟨by decide +kernel, by decide +kernel⟩, List.mem_of_getElem? (i := 751) (by decide +kernel), List.mem_of_getElem? (i := 852) (by decide +kernel), List.mem_of_getElem? (i := 853) (by decide +kernel)⟩
theorem lw_p58 : lw_okq (⟨"MeterNetworkModel", "takes", "(II)I"⟩, 9) := ⟨⟨by decide +kernel, by decide +kernel⟩, List.mem_of_getElem? (i := 751) (by decide +kernel), List.mem_of_getElem? (i := 856) (by decide +kernel), List.mem_of_getElem? (i := 857) (by decide +kernel)⟩
theorem lw_p59 : lw_okq (⟨"MeterNetworkModel", "runs", "(II)I"⟩, 9) := ⟨⟨by decide +kernel, by decide +kernel⟩, List.mem_of_getElem? (i := 751) (by decide +kernel), List.mem_of_getElem? (i := 867) (by decide +kernel), List.mem_of_getElem? (i := 868) (by decide +kernel)⟩
theorem lw_p60 : lw_okq (⟨"MeterNetworkModel", "slot", "(I)V"⟩, 9) := ⟨⟨by decide +kernel, by decide +kernel⟩, List.mem_of_getElem? (i := 751) (by decide +kernel), List.mem_of_getElem? (i := 871) (by decide +kernel), List.mem_of_getElem? (i := 872) (by decide +kernel)⟩
theorem lw_p61 : lw_okq (⟨"MeterNetworkModel", "isOn", "(II)Z"⟩, 9) := ⟨⟨by decide +kernel, by decide +kernel⟩, List.mem_of_getElem? (i := 751) (by decide +kernel), List.mem_of_getElem? (i := 875) (by decide +kernel), List.mem_of_getElem? (i := 876) (by decide +kernel)⟩
theorem lw_p62 : lw_okq (⟨"MeterNetworkModel", "drops", "(II)V"⟩, 9) := ⟨⟨by decide +kernel, by decide +kernel⟩, List.mem_of_getElem? (i := 751) (by decide +kernel), List.mem_of_getElem? (i := 879) (by decide +kernel), List.mem_of_getElem? (i := 880) (by decide +kernel)⟩
theorem lw_p63 : lw_okq (⟨"MeterNetworkModel", "areConnected", "(III)Z"⟩, 9) := ⟨⟨by decide +kernel, by decide +kernel⟩, List.mem_of_getElem? (i := 751) (by decide +kernel), List.mem_of_getElem? (i := 883) (by decide +kernel), List.mem_of_getElem? (i := 884) (by decide +kernel)⟩
def lw_privs_4 : List (MethodName × Nat) := [(⟨"MeterNetwork$State", "neighboursOf", "(I)I"⟩, 15), (⟨"MeterNetwork$Readings", "findId", "(II)I"⟩, 8), (⟨"MeterNetwork$Readings", "storesWith", "(I)I"⟩, 8), (⟨"MeterNetworkModel", "goes", "(ZZZ)Z"⟩, 9), (⟨"MeterNetworkModel", "saves", "()V"⟩, 9), (⟨"MeterNetworkModel", "lays", "(II)V"⟩, 9), (⟨"MeterNetworkModel", "links", "(IIZ)I"⟩, 9), (⟨"MeterNetworkModel", "powers", "(IZ)I"⟩, 9), (⟨"MeterNetworkModel", "sets", "(II)I"⟩, 9), (⟨"MeterNetworkModel", "canTake", "(I)Z"⟩, 9), (⟨"MeterNetworkModel", "takes", "(II)I"⟩, 9), (⟨"MeterNetworkModel", "runs", "(II)I"⟩, 9), (⟨"MeterNetworkModel", "slot", "(I)V"⟩, 9), (⟨"MeterNetworkModel", "isOn", "(II)Z"⟩, 9), (⟨"MeterNetworkModel", "drops", "(II)V"⟩, 9), (⟨"MeterNetworkModel", "areConnected", "(III)Z"⟩, 9)]
theorem lw_r4 : ∀ q ∈ lw_privs_4, lw_okq q := List.forall_mem_cons.mpr ⟨lw_p48, List.forall_mem_cons.mpr ⟨lw_p49, List.forall_mem_cons.mpr ⟨lw_p50, List.forall_mem_cons.mpr ⟨lw_p51, List.forall_mem_cons.mpr ⟨lw_p52, List.forall_mem_cons.mpr ⟨lw_p53, List.forall_mem_cons.mpr ⟨lw_p54, List.forall_mem_cons.mpr ⟨lw_p55, List.forall_mem_cons.mpr ⟨lw_p56, List.forall_mem_cons.mpr ⟨lw_p57, List.forall_mem_cons.mpr ⟨lw_p58, List.forall_mem_cons.mpr ⟨lw_p59, List.forall_mem_cons.mpr ⟨lw_p60, List.forall_mem_cons.mpr ⟨lw_p61, List.forall_mem_cons.mpr ⟨lw_p62, List.forall_mem_cons.mpr ⟨lw_p63, fun _ h => absurd h List.not_mem_nil⟩⟩⟩⟩⟩⟩⟩⟩⟩⟩⟩⟩⟩⟩⟩⟩
theorem lw_p64 : lw_okq (⟨"MeterNetworkModel", "hears", "(III)V"⟩, 9) := ⟨⟨by decide +kernel, by decide +kernel⟩, List.mem_of_getElem? (i := 751) (by decide +kernel), List.mem_of_getElem? (i := 887) (by decide +kernel), List.mem_of_getElem? (i := 888) (by decide +kernel)⟩
theorem lw_p65 : lw_okq (⟨"MeterNetworkModel", "follows", "(III)V"⟩, 9) := ⟨⟨by decide +kernel, by decide +kernel⟩, List.mem_of_getElem? (i := 751) (by decide +kernel), List.mem_of_getElem? (i := 891) (by decide +kernel), List.mem_of_getElem? (i := 892) (by decide +kernel)⟩
theorem lw_p66 : lw_okq (⟨"MeterNetworkModel", "setsClock", "(III)V"⟩, 9) := ⟨⟨by decide +kernel, by decide +kernel⟩, List.mem_of_getElem? (i := 751) (by decide +kernel), List.mem_of_getElem? (i := 895) (by decide +kernel), List.mem_of_getElem? (i := 896) (by decide +kernel)⟩
theorem lw_p67 : lw_okq (⟨"MeterNetworkModel", "sends", "(II)V"⟩, 9) := ⟨⟨by decide +kernel, by decide +kernel⟩, List.mem_of_getElem? (i := 751) (by decide +kernel), List.mem_of_getElem? (i := 899) (by decide +kernel), List.mem_of_getElem? (i := 900) (by decide +kernel)⟩
theorem lw_p68 : lw_okq (⟨"MeterNetworkModel", "hands", "(IIII)Z"⟩, 9) := ⟨⟨by decide +kernel, by decide +kernel⟩, List.mem_of_getElem? (i := 751) (by decide +kernel), List.mem_of_getElem? (i := 903) (by decide +kernel), List.mem_of_getElem? (i := 904) (by decide +kernel)⟩
theorem lw_p69 : lw_okq (⟨"MeterNetworkModel", "isCollected", "(II)Z"⟩, 9) := ⟨⟨by decide +kernel, by decide +kernel⟩, List.mem_of_getElem? (i := 751) (by decide +kernel), List.mem_of_getElem? (i := 907) (by decide +kernel), List.mem_of_getElem? (i := 908) (by decide +kernel)⟩
theorem lw_p70 : lw_okq (⟨"MeterNetworkModel", "areSame", "(II)Z"⟩, 9) := ⟨⟨by decide +kernel, by decide +kernel⟩, List.mem_of_getElem? (i := 751) (by decide +kernel), List.mem_of_getElem? (i := 914) (by decide +kernel), List.mem_of_getElem? (i := 915) (by decide +kernel)⟩
theorem lw_p71 : lw_okq (⟨"MeterNetworkModel", "writes", "(III)V"⟩, 9) := ⟨⟨by decide +kernel, by decide +kernel⟩, List.mem_of_getElem? (i := 751) (by decide +kernel), List.mem_of_getElem? (i := 918) (by decide +kernel), List.mem_of_getElem? (i := 919) (by decide +kernel)⟩
theorem lw_p72 : lw_okq (⟨"MeterNetworkModel", "isStored", "(III)Z"⟩, 9) := ⟨⟨by decide +kernel, by decide +kernel⟩, List.mem_of_getElem? (i := 751) (by decide +kernel), List.mem_of_getElem? (i := 922) (by decide +kernel), List.mem_of_getElem? (i := 923) (by decide +kernel)⟩
theorem lw_p73 : lw_okq (⟨"MeterNetworkModel", "removesFirst", "(II)V"⟩, 9) := ⟨⟨by decide +kernel, by decide +kernel⟩, List.mem_of_getElem? (i := 751) (by decide +kernel), List.mem_of_getElem? (i := 926) (by decide +kernel), List.mem_of_getElem? (i := 927) (by decide +kernel)⟩
theorem lw_p74 : lw_okq (⟨"MeterNetworkModel", "error", "()I"⟩, 9) := ⟨⟨by decide +kernel, by decide +kernel⟩, List.mem_of_getElem? (i := 751) (by decide +kernel), List.mem_of_getElem? (i := 942) (by decide +kernel), List.mem_of_getElem? (i := 943) (by decide +kernel)⟩
theorem lw_p75 : lw_okq (⟨"MeterNetworkModel", "command", "()C"⟩, 9) := ⟨⟨by decide +kernel, by decide +kernel⟩, List.mem_of_getElem? (i := 751) (by decide +kernel), List.mem_of_getElem? (i := 946) (by decide +kernel), List.mem_of_getElem? (i := 947) (by decide +kernel)⟩
theorem lw_p76 : lw_okq (⟨"MeterNetworkModel", "readsLink", "()Z"⟩, 9) := ⟨⟨by decide +kernel, by decide +kernel⟩, List.mem_of_getElem? (i := 751) (by decide +kernel), List.mem_of_getElem? (i := 950) (by decide +kernel), List.mem_of_getElem? (i := 951) (by decide +kernel)⟩
theorem lw_p77 : lw_okq (⟨"MeterNetworkModel", "digit", "(C)I"⟩, 9) := ⟨⟨by decide +kernel, by decide +kernel⟩, List.mem_of_getElem? (i := 751) (by decide +kernel), List.mem_of_getElem? (i := 954) (by decide +kernel), List.mem_of_getElem? (i := 955) (by decide +kernel)⟩
theorem lw_p78 : lw_okq (⟨"MeterNetworkModel", "isHere", "(CC)Z"⟩, 9) := ⟨⟨by decide +kernel, by decide +kernel⟩, List.mem_of_getElem? (i := 751) (by decide +kernel), List.mem_of_getElem? (i := 958) (by decide +kernel), List.mem_of_getElem? (i := 959) (by decide +kernel)⟩
theorem lw_p79 : lw_okq (⟨"MeterNetworkModel", "readsTake", "()Z"⟩, 9) := ⟨⟨by decide +kernel, by decide +kernel⟩, List.mem_of_getElem? (i := 751) (by decide +kernel), List.mem_of_getElem? (i := 962) (by decide +kernel), List.mem_of_getElem? (i := 963) (by decide +kernel)⟩
def lw_privs_5 : List (MethodName × Nat) := [(⟨"MeterNetworkModel", "hears", "(III)V"⟩, 9), (⟨"MeterNetworkModel", "follows", "(III)V"⟩, 9), (⟨"MeterNetworkModel", "setsClock", "(III)V"⟩, 9), (⟨"MeterNetworkModel", "sends", "(II)V"⟩, 9), (⟨"MeterNetworkModel", "hands", "(IIII)Z"⟩, 9), (⟨"MeterNetworkModel", "isCollected", "(II)Z"⟩, 9), (⟨"MeterNetworkModel", "areSame", "(II)Z"⟩, 9), (⟨"MeterNetworkModel", "writes", "(III)V"⟩, 9), (⟨"MeterNetworkModel", "isStored", "(III)Z"⟩, 9), (⟨"MeterNetworkModel", "removesFirst", "(II)V"⟩, 9), (⟨"MeterNetworkModel", "error", "()I"⟩, 9), (⟨"MeterNetworkModel", "command", "()C"⟩, 9), (⟨"MeterNetworkModel", "readsLink", "()Z"⟩, 9), (⟨"MeterNetworkModel", "digit", "(C)I"⟩, 9), (⟨"MeterNetworkModel", "isHere", "(CC)Z"⟩, 9), (⟨"MeterNetworkModel", "readsTake", "()Z"⟩, 9)]
theorem lw_r5 : ∀ q ∈ lw_privs_5, lw_okq q := List.forall_mem_cons.mpr ⟨lw_p64, List.forall_mem_cons.mpr ⟨lw_p65, List.forall_mem_cons.mpr ⟨lw_p66, List.forall_mem_cons.mpr ⟨lw_p67, List.forall_mem_cons.mpr ⟨lw_p68, List.forall_mem_cons.mpr ⟨lw_p69, List.forall_mem_cons.mpr ⟨lw_p70, List.forall_mem_cons.mpr ⟨lw_p71, List.forall_mem_cons.mpr ⟨lw_p72, List.forall_mem_cons.mpr ⟨lw_p73, List.forall_mem_cons.mpr ⟨lw_p74, List.forall_mem_cons.mpr ⟨lw_p75, List.forall_mem_cons.mpr ⟨lw_p76, List.forall_mem_cons.mpr ⟨lw_p77, List.forall_mem_cons.mpr ⟨lw_p78, List.forall_mem_cons.mpr ⟨lw_p79, fun _ h => absurd h List.not_mem_nil⟩⟩⟩⟩⟩⟩⟩⟩⟩⟩⟩⟩⟩⟩⟩⟩
theorem lw_p80 : lw_okq (⟨"MeterNetworkModel", "number", "(II)I"⟩, 9) := ⟨⟨by decide +kernel, by decide +kernel⟩, List.mem_of_getElem? (i := 751) (by decide +kernel), List.mem_of_getElem? (i := 966) (by decide +kernel), List.mem_of_getElem? (i := 967) (by decide +kernel)⟩
theorem lw_p81 : lw_okq (⟨"MeterNetworkModel", "does", "(C)I"⟩, 9) := ⟨⟨by decide +kernel, by decide +kernel⟩, List.mem_of_getElem? (i := 751) (by decide +kernel), List.mem_of_getElem? (i := 974) (by decide +kernel), List.mem_of_getElem? (i := 975) (by decide +kernel)⟩
def lw_privs_6 : List (MethodName × Nat) := [(⟨"MeterNetworkModel", "number", "(II)I"⟩, 9), (⟨"MeterNetworkModel", "does", "(C)I"⟩, 9)]
theorem lw_r6 : ∀ q ∈ lw_privs_6, lw_okq q := List.forall_mem_cons.mpr ⟨lw_p80, List.forall_mem_cons.mpr ⟨lw_p81, fun _ h => absurd h List.not_mem_nil⟩⟩
def lw_privs : List (MethodName × Nat) := lw_privs_1 ++ (lw_privs_2 ++ (lw_privs_3 ++ (lw_privs_4 ++ (lw_privs_5 ++ (lw_privs_6)))))
def lw_tbl : List Cond := k2_sels lw_privs ++ tables_1
theorem lw_privs_ok : ∀ q ∈ lw_privs, lw_okq q := by
  show ∀ q ∈ lw_privs_1 ++ (lw_privs_2 ++ (lw_privs_3 ++ (lw_privs_4 ++ (lw_privs_5 ++ (lw_privs_6))))), lw_okq q
  exact List.forall_mem_append.mpr ⟨lw_r1, List.forall_mem_append.mpr ⟨lw_r2, List.forall_mem_append.mpr ⟨lw_r3, List.forall_mem_append.mpr ⟨lw_r4, List.forall_mem_append.mpr ⟨lw_r5, lw_r6⟩⟩⟩⟩⟩
/-- the streams that the claim lets the run draw from -/
abbrev lw_cs : List Choice := [Jvm.Choice.named "NaN.bits"]
theorem lw_bits : nanBits ∈ lw_cs := by first | decide | exact List.mem_cons_self | simp [lw_cs, nanBits]
-- ===== end of PART A; then your names; then what follows =====
end
section
/-! ===== BEGIN words of one list among another's, by their places ===== -/
theorem goodIn_r {big : List Cond} (ws : List Cond) (ps : List Nat) (hp : ws = ps.filterMap (fun i => big[i]?)) (h : ws.all goodWord = true) : GoodIn big ws := by
  intro w hw
  have h1 := List.all_eq_true.mp h w hw
  rw [hp] at hw
  obtain ⟨i, -, hi⟩ := List.mem_filterMap.mp hw
  have hm : w ∈ big := by first | exact List.mem_of_getElem? hi | exact List.getElem?_mem hi
  exact ⟨hm, good_of_word h1⟩
theorem goodIn_app {big a b : List Cond} (ha : GoodIn big a) (hb : GoodIn big b) : GoodIn big (a ++ b) := fun w h => (List.mem_append.mp h).elim (ha w) (hb w)
theorem goodIn_ca {big a b : List Cond} {c : Cond} (ha : GoodIn big (c :: a)) (hb : GoodIn big b) : GoodIn big (c :: (a ++ b)) := fun w h => (List.mem_cons.mp h).elim (fun e => ha w (List.mem_cons.mpr (Or.inl e))) (fun h => (List.mem_append.mp h).elim (fun h => ha w (List.mem_cons.mpr (Or.inr h))) (hb w))
theorem goodIn_sub {big ws : List Cond} (hm : ∀ w ∈ ws, w ∈ big) (h : ws.all goodWord = true) : GoodIn big ws := fun w hw => ⟨hm w hw, good_of_word (List.all_eq_true.mp h w hw)⟩
/-! ===== END ===== -/

/-! ===== BEGIN exceptions that leave a method, and their catching by the caller (launches without stack traces) ===== -/
section VXA
/-! The laws vx_back, vx_callV, vx_callS, vx_callSW, vx_throw0, vx_throwS follow proofs of the library, with one case more: JvmDerived/Free/Laws.lean (Back.of_free), Shelf42/LK1.lean (callV, callS), Shelf/KitTraced.lean (throwNew0V, throwNewS). -/
/-- where a method has thrown q: the class by its name, the cell, what was written, the world -/
def vx_T (XC : String → State → State → Prop) (st : State) (q : Addr) (t : State) (mc ms : Nat) (free : Addr → Prop) : Prop :=
  ∃ (E : String) (ce : Cell) (L : List Loc), XC E st t ∧ t.heap[q]? = some ce ∧ ce.vm = .none ∧ st.vm.findClass E = some ce.cls ∧ st.WarmedH t.vm ∧ st.sameButNew ({ t with vm := st.vm } : State) L mc ms ∧ ∀ z ∈ L, free z.base
def vx_Q (Qc : Array Value → State → Outcome → State → Prop) (XC : String → State → State → Prop) (mc ms : Nat) (free : Addr → Prop) : Array Value → State → Outcome → State → Prop := fun a st o t =>
  (Qc a st o t ∧ ∃ L, FrameEnd st o t L mc ms ∧ ∀ q ∈ L, free q.base) ∨ ∃ q, o = .threw q ∧ vx_T XC st q t mc ms free
/-- a callee that returns or throws -/
def vx_Met (l : Launch) (y : MethodName) (ws : List Cond) (rm : Room) (Pc : Array Value → State → Prop) (Qc : Array Value → State → Outcome → State → Prop) (XC : String → State → State → Prop) (mc ms : Nat) (free : Addr → Prop) : Prop :=
  MetFree l y (headSpec ws rm) Pc (fun _ _ _ _ _ => True) (vx_Q Qc XC mc ms free)
def vx_Post (XC : String → State → State → Prop) (mc ms : Nat) (free : Addr → Prop) : Pt → Array Value → Addr → Pt → Prop := fun A a q B =>
  ∃ (g : JFrame) (mk : MethodId) (t : State) (L : List Loc) (E : String) (ce : Cell), B.U.heap = t.heap ∧ B.U.vm = t.vm ∧ XC E (A.U.calling g mk a) t ∧ t.heap[q]? = some ce ∧ ce.vm = .none ∧ A.U.vm.findClass E = some ce.cls ∧ B.locs = A.locs ++ L ∧ (∀ z ∈ L, free z.base) ∧ B.cells = A.cells + mc ∧ B.slots = A.slots + ms
def vx_Back (l : Launch) (R : Room) (p : Program) (e : Env) (below : List Frame) (s : State) (sargs : Array Value) (y : MethodName) (len W9 : Nat)
    (Pre : Pt → Array Value → Prop) (Post : Pt → Array Value → Option Value → Pt → Prop) (PostX : Pt → Array Value → Addr → Pt → Prop) : Prop :=
  ∀ (m : MethodId) (meth : Method) (c : Code) (A : Pt) (g : JFrame) (ig : Instr) (mk : MethodId) (a : Array Value),
    Stand p l e R s m sargs below meth c A.U A.locs A.cells A.slots → g.method = m → g.locals.size = c.maxLocals → decode c.code g.pc = .ok (ig, len) →
    2 * g.monitorRoom + (g.stack.map fun v => v.category).sum ≤ W9 → A.U.methodNamed? y = some mk → Pre A a →
    (∃ (v : Option Value) (B : Pt), Stand p l e R s m sargs below meth c B.U B.locs B.cells B.slots ∧ Post A a v B ∧
      Steps p.tables e below (doInvoke e (A.U.setTop g) [] mk a).1 (B.U.setTop { g with pc := g.pc + len, stack := v.toList ++ g.stack })) ∨
    (∃ (q : Addr) (B : Pt), Stand p l e R s m sargs below meth c B.U B.locs B.cells B.slots ∧ PostX A a q B ∧
      Steps p.tables e below (doInvoke e (A.U.setTop g) [] mk a).1 ((B.U.setTop g).pushFrame (.throwing q)))
section Payer
variable {l : Launch} {R : Room} {p : Program} {e : Env} {below : List Frame} {s : State} {sargs : Array Value} {y : MethodName} {len W9 : Nat}
theorem vx_back {ws : List Cond} {rm : Room} {Pc : Array Value → State → Prop} {Qc : Array Value → State → Outcome → State → Prop} {XC : String → State → State → Prop} {mc ms : Nat} {free : Addr → Prop} {bytes : ByteArray} {maxL : Nat} {ret : Option FieldType}
    (hM : vx_Met l y ws rm Pc Qc XC mc ms free) (hblind : FrameBlind Pc) (hrc : rm.cells = mc) (hrs : rm.slots = ms)
    (hframes : rm.frames + 1 ≤ R.frames) (hlocals : W9 + (maxL + 11) + rm.locals ≤ R.locals)
    (hws : ∀ w ∈ ws, ∀ a' U, s.WarmedH U.vm → w.before a' U = true) (hcode : Cond.code y bytes maxL ret ∈ ws) (hinit : ∀ a' U, s.WarmedH U.vm → (Cond.initialized y.cls).before a' U = true) :
    vx_Back l R p e below s sargs y len W9 (PreOf R mc ms Pc) (PostOf Qc mc ms free) (vx_Post XC mc ms free) := by
  intro m meth c A g ig mk a X hg hsize hdg hW hn hp
  have h1 : (headSpec ws rm).pre.before a A.U = true := atoms_intro fun w hw => hws w hw _ _ X.warmed
  have h2 : (Cond.code y bytes maxL ret).before a A.U = true := hws _ hcode _ _ X.warmed
  have h3 : (Cond.initialized y.cls).before a A.U = true := hinit _ _ X.warmed
  have h4 : A.cells + (headSpec ws rm).room.cells ≤ R.cells := by rw [show (headSpec ws rm).room.cells = mc from hrc]; exact hp.1
  have h5 : A.slots + (headSpec ws rm).room.slots ≤ R.slots := by rw [show (headSpec ws rm).room.slots = ms from hrs]; exact hp.2.1
  have hPc : Pc a (A.U.calling g mk a) := hblind _ _ _ _ hp.2.2
  obtain ⟨U, Ls, c0, s0⟩ := A
  dsimp only [Pt.U, Pt.locs, Pt.cells, Pt.slots] at h1 h2 h3 h4 h5 X hn hPc ⊢
  obtain ⟨methY, cY, hmY, hcY, -, hlY, -, -, -, -⟩ := Cond.code_spec hn h2
  obtain ⟨kY, hkY, -⟩ := className_of_methodNamed hn
  have hinitY : kY.init = .initialized := Cond.initialized_spec (findClass_of_methodNamed hn) hkY h3
  have h : At U g.method c below := by rw [hg]; exact X.here
  have hlocals9 : W9 + (maxL + 11) + (headSpec ws rm).room.locals ≤ R.locals := hlocals
  have happ : (headSpec ws rm).appliesLoose y e.platform (U.calling g mk a) = true :=
    Spec.appliesLoose_calling (g := g) h hdg hn hkY hinitY
      (X.room_calling (g := g) (R' := (headSpec ws rm).room) hsize hmY hcY hframes (by rw [hlY]; omega) h4 h5) h1
  obtain ⟨mid, hmid⟩ := h.above
  have hfr : (U.setTop g).frames = (.java g :: mid) ++ below := by rw [State.frames_setTop' g h.top, hmid]; rfl
  obtain ⟨o, s₂, hsteps, -, hend, hq⟩ := Steps.callFree hM p X.admits X.cas X.clock (acts := []) hfr happ hPc trivial
  have hq' : vx_Q Qc XC mc ms free a (U.calling g mk a) o s₂ := hq
  rw [State.frames_setTop' g h.top] at hend
  obtain ⟨g₀, hg0⟩ := Option.isSome_iff_exists.mp h.top
  obtain ⟨r, hr⟩ := State.topJava?_eq_some.mp hg0
  have hr' : (({ U with heap := s₂.heap, slotsUsed := s₂.slotsUsed } : State).setVm s₂.vm).frames = .java g₀ :: r := hr
  rcases hq' with ⟨hqc, L, hfe, hL⟩ | ⟨q, rfl, E, ce, L, hx, hce, hcv, hcl, hW₂, hsm, hL⟩
  · obtain ⟨⟨v, rfl⟩, hW₂, e2, q2, q3, q4, q5, q6⟩ := id hfe
    have e3 : s₂ = ({ (U.calling g mk a).setFrames s₂.frames with heap := s₂.heap, slotsUsed := s₂.slotsUsed } : State).setVm s₂.vm := by
      have : s₂ = ({ s₂ with vm := (U.calling g mk a).vm } : State).setVm s₂.vm := rfl
      rw [e2] at this
      exact this
    obtain ⟨c₂, i₂, len₂, hc₂, hd₂, hf₂⟩ := hend
    have hW' : U.WarmedH s₂.vm := hW₂
    have hcc : c₂ = c := by
      have h1 : s₂.code? g.method = U.code? g.method := by
        rw [State.code?_eq, State.code?_eq, hW'.alike.method?]
      exact Option.some.inj (hc₂.symm.trans (h1.trans h.code))
    subst hcc
    have hlen : len₂ = len := by rw [hdg] at hd₂; cases hd₂; rfl
    subst hlen
    have hs₂ : s₂ = (({ U with heap := s₂.heap, slotsUsed := s₂.slotsUsed } : State).setVm s₂.vm).setTop { g with pc := g.pc + len₂, stack := v.toList ++ g.stack } := by
      refine e3.trans ?_
      rw [hf₂, State.calling_eq h.top, State.setFrames_setFrames, State.setTop_of_frames _ hr', hr]
      rfl
    have hsame : U.sameButNew ({ U with heap := s₂.heap, slotsUsed := s₂.slotsUsed } : State) L mc ms := by
      refine ⟨?_, q2, q3, q4, q5, q6⟩
      obtain ⟨t, ht, -⟩ := State.frames_cons hr
      show ({ U with heap := s₂.heap, slotsUsed := s₂.slotsUsed } : State) = { U.setFrames U.frames with heap := s₂.heap, slotsUsed := s₂.slotsUsed }
      rw [State.setFrames_self ht]
    subst hg
    refine Or.inl ⟨v, ⟨(({ U with heap := s₂.heap, slotsUsed := s₂.slotsUsed } : State).setVm s₂.vm), Ls ++ L, c0 + mc, s0 + ms⟩,
      ⟨X.admits, X.cas, X.clock, X.frames, X.room, X.hears, X.method, X.code, (X.here.setHeapUsed s₂.heap s₂.slotsUsed).setVm hW'.alike, X.tail, State.WarmedH.trans X.warmed hW', X.limits, X.bytes, X.same.trans (hsame.setVm s.vm)⟩,
      ⟨g, mk, s₂, L, rfl, rfl, hqc, rfl, hL, rfl, rfl⟩, ?_⟩
    show Steps p.tables e below _ ((({ U with heap := s₂.heap, slotsUsed := s₂.slotsUsed } : State).setVm s₂.vm).setTop { g with pc := g.pc + len₂, stack := v.toList ++ g.stack })
    rw [← hs₂]
    exact hsteps
  · obtain ⟨e2, q2, q3, q4, q5, q6⟩ := id hsm
    have e3 : s₂ = ({ (U.calling g mk a).setFrames s₂.frames with heap := s₂.heap, slotsUsed := s₂.slotsUsed } : State).setVm s₂.vm := by
      have : s₂ = ({ s₂ with vm := (U.calling g mk a).vm } : State).setVm s₂.vm := rfl
      rw [e2] at this
      exact this
    have hf₂ : s₂.frames = .throwing q :: .java g :: U.frames.tail := hend
    have hW' : U.WarmedH s₂.vm := hW₂
    have hs₂ : s₂ = ((({ U with heap := s₂.heap, slotsUsed := s₂.slotsUsed } : State).setVm s₂.vm).setTop g).pushFrame (.throwing q) := by
      refine e3.trans ?_
      rw [hf₂, State.calling_eq h.top, State.setFrames_setFrames, State.pushFrame, State.frames_setTop _ hr', State.setTop_of_frames _ hr', State.setFrames_setFrames, hr]
      rfl
    have hsame : U.sameButNew ({ U with heap := s₂.heap, slotsUsed := s₂.slotsUsed } : State) L mc ms := by
      refine ⟨?_, q2, q3, q4, q5, q6⟩
      obtain ⟨t, ht, -⟩ := State.frames_cons hr
      show ({ U with heap := s₂.heap, slotsUsed := s₂.slotsUsed } : State) = { U.setFrames U.frames with heap := s₂.heap, slotsUsed := s₂.slotsUsed }
      rw [State.setFrames_self ht]
    subst hg
    refine Or.inr ⟨q, ⟨(({ U with heap := s₂.heap, slotsUsed := s₂.slotsUsed } : State).setVm s₂.vm), Ls ++ L, c0 + mc, s0 + ms⟩,
      ⟨X.admits, X.cas, X.clock, X.frames, X.room, X.hears, X.method, X.code, (X.here.setHeapUsed s₂.heap s₂.slotsUsed).setVm hW'.alike, X.tail, State.WarmedH.trans X.warmed hW', X.limits, X.bytes, X.same.trans (hsame.setVm s.vm)⟩,
      ⟨g, mk, s₂, L, E, ce, rfl, rfl, hx, hce, hcv, hcl, rfl, hL, rfl, rfl⟩, ?_⟩
    show Steps p.tables e below _ (((({ U with heap := s₂.heap, slotsUsed := s₂.slotsUsed } : State).setVm s₂.vm).setTop g).pushFrame (.throwing q))
    rw [← hs₂]
    exact hsteps
end Payer
section Calls
variable {p : Program} {l : Launch} {e : Env} {R : Room} {s : State} {m : MethodId} {args : Array Value} {below : List Frame} {meth : Method} {c : Code} {T : State} {locs : List Loc} {cells slots : Nat}
theorem vx_callV (X : Stand p l e R s m args below meth c T locs cells slots) (hexec : p.tables.exec = Jvm.exec) {own C : String} {index : Nat} {y : MethodName} {bytes : ByteArray} {maxL : Nat} {ret : Option FieldType}
    (hown : s.vm.findClass own = some m.cls) (hlink : (Cond.methodLink own index y).before args s = true) (hinst : (Cond.instanceMethod y).before args s = true) (hsel : (Cond.selects C y y).before args s = true)
    (hcode : (Cond.code y bytes maxL ret).before args s = true) (hy : y.cls ≠ "java/lang/invoke/MethodHandle" ∧ y.cls ≠ "java/lang/invoke/VarHandle")
    {W9 : Nat} {Pre : Pt → Array Value → Prop} {Post : Pt → Array Value → Option Value → Pt → Prop} {PostX : Pt → Array Value → Addr → Pt → Prop} (hK : vx_Back l R p e below s args y 3 W9 Pre Post PostX)
    {b : Addr} {cellB : Cell} (hcell : T.heap[b]? = some cellB) (hobj : cellB.vm.isStatics = false) (hcls : s.vm.findClass C = some cellB.cls)
    {g : JFrame} (hg : g.method = m) (hsize : g.locals.size = c.maxLocals) {argsL rest : List Value} (hlen : ∀ sig, parseMethodDescriptor y.desc = some sig → argsL.length = sig.parameters.length)
    (hstack : g.stack = argsL.reverse ++ .ref b :: rest) (hW : 2 * g.monitorRoom + (rest.map fun v => v.category).sum ≤ W9) (hdg : decode c.code g.pc = .ok (.invokevirtual index, 3))
    (hpre : ∀ vm₁, s.WarmedH vm₁ → Pre ⟨T.setVm vm₁, locs, cells, slots⟩ (Value.ref b :: argsL).toArray) :
    (∃ (v : Option Value) (vm₁ : Vm) (B : Pt), s.WarmedH vm₁ ∧ Stand p l e R s m args below meth c B.U B.locs B.cells B.slots ∧ Post ⟨T.setVm vm₁, locs, cells, slots⟩ (Value.ref b :: argsL).toArray v B ∧
      ∀ target, Steps p.tables e below (B.U.setTop { g with pc := g.pc + 3, stack := v.toList ++ rest }) target → Steps p.tables e below (T.setTop g) target) ∨
    (∃ (q : Addr) (vm₁ : Vm) (B : Pt), s.WarmedH vm₁ ∧ Stand p l e R s m args below meth c B.U B.locs B.cells B.slots ∧ PostX ⟨T.setVm vm₁, locs, cells, slots⟩ (Value.ref b :: argsL).toArray q B ∧
      Steps p.tables e below (T.setTop g) ((B.U.setTop { g with stack := rest }).pushFrame (.throwing q))) := by
  obtain ⟨mk, methM, hnamed, hmethM, hstM, habM⟩ := Cond.instanceMethod_spec hinst
  obtain ⟨methM', cM, hmethM', -, -, -, -, -, -, hsigM⟩ := Cond.code_spec hnamed hcode
  cases hmethM.symm.trans hmethM'
  obtain ⟨c2, r2, m2, q1, q2, q3, q4, kP, hkP, hkPi⟩ := Cond.selects_spec hsel
  cases hcls.symm.trans q1
  cases (State.methodFound?_of_named hnamed hy).symm.trans q2
  cases hnamed.symm.trans q3
  have hselP : selectMethod e.platform s.vm cellB.cls mk = .method mk := by rw [Launch.admits_selectMethod X.admits]; exact q4
  obtain ⟨vm₁, X₁, hstep₁⟩ := X.invokevirtual hexec hown hlink hnamed hmethM hstM hkP hkPi hy (a := b) (cell := cellB) hcell
    (fun z h => by rw [h] at hobj; cases hobj) hselP hmethM habM hkP hkPi (g := g) hg (argsL := argsL) (rest := rest) (hlen _ hsigM) hstack hdg
  rcases hK m meth c ⟨T.setVm vm₁, locs, cells, slots⟩ { g with stack := rest } (.invokevirtual index) mk (Value.ref b :: argsL).toArray X₁ hg hsize hdg hW (X₁.named hnamed) (hpre vm₁ X₁.warmed) with ⟨v, B, X', hpost, hsteps⟩ | ⟨q, B, X', hpost, hsteps⟩
  · exact Or.inl ⟨v, vm₁, B, X₁.warmed, X', hpost, fun target h => hstep₁ _ fun acts => by rw [doInvoke_state]; exact hsteps.trans h⟩
  · exact Or.inr ⟨q, vm₁, B, X₁.warmed, X', hpost, hstep₁ _ fun acts => by rw [doInvoke_state]; exact hsteps⟩
theorem vx_callS (X : Stand p l e R s m args below meth c T locs cells slots) (hexec : p.tables.exec = Jvm.exec) {own : String} {index : Nat} {y : MethodName} {bytes : ByteArray} {maxL : Nat} {ret : Option FieldType}
    (hown : s.vm.findClass own = some m.cls) (hlink : (Cond.methodLink own index y).before args s = true) (hstat : (Cond.static y).before args s = true) (hinit : (Cond.initialized y.cls).before args s = true)
    (hcode : (Cond.code y bytes maxL ret).before args s = true) (hy : y.cls ≠ "java/lang/invoke/MethodHandle" ∧ y.cls ≠ "java/lang/invoke/VarHandle")
    {W9 : Nat} {Pre : Pt → Array Value → Prop} {Post : Pt → Array Value → Option Value → Pt → Prop} {PostX : Pt → Array Value → Addr → Pt → Prop} (hK : vx_Back l R p e below s args y 3 W9 Pre Post PostX)
    {g : JFrame} (hg : g.method = m) (hsize : g.locals.size = c.maxLocals) {argsL rest : List Value} (hlen : ∀ sig, parseMethodDescriptor y.desc = some sig → argsL.length = sig.parameters.length)
    (hstack : g.stack = argsL.reverse ++ rest) (hW : 2 * g.monitorRoom + (rest.map fun v => v.category).sum ≤ W9) (hdg : decode c.code g.pc = .ok (.invokestatic index, 3))
    (hpre : ∀ vm₁, s.WarmedH vm₁ → Pre ⟨T.setVm vm₁, locs, cells, slots⟩ argsL.toArray) :
    (∃ (v : Option Value) (vm₁ : Vm) (B : Pt), s.WarmedH vm₁ ∧ Stand p l e R s m args below meth c B.U B.locs B.cells B.slots ∧ Post ⟨T.setVm vm₁, locs, cells, slots⟩ argsL.toArray v B ∧
      ∀ target, Steps p.tables e below (B.U.setTop { g with pc := g.pc + 3, stack := v.toList ++ rest }) target → Steps p.tables e below (T.setTop g) target) ∨
    (∃ (q : Addr) (vm₁ : Vm) (B : Pt), s.WarmedH vm₁ ∧ Stand p l e R s m args below meth c B.U B.locs B.cells B.slots ∧ PostX ⟨T.setVm vm₁, locs, cells, slots⟩ argsL.toArray q B ∧
      Steps p.tables e below (T.setTop g) ((B.U.setTop { g with stack := rest }).pushFrame (.throwing q))) := by
  obtain ⟨mk, hnamed⟩ := Cond.code_named hcode
  obtain ⟨methM, cM, hmethM, -, -, -, -, -, -, hsigM⟩ := Cond.code_spec hnamed hcode
  have hstatic : methM.isStatic = true := Cond.static_spec hnamed hmethM hstat
  obtain ⟨kP, hkP, -⟩ := className_of_methodNamed hnamed
  have hinitP : kP.init = .initialized := Cond.initialized_spec (findClass_of_methodNamed hnamed) hkP hinit
  obtain ⟨vm₁, X₁, hstep₁⟩ := X.invokestatic hexec hown hlink hnamed hmethM hstatic hkP hinitP hy (g := g) hg (argsL := argsL) (rest := rest) (hlen _ hsigM) hstack hdg
  rcases hK m meth c ⟨T.setVm vm₁, locs, cells, slots⟩ { g with stack := rest } (.invokestatic index) mk argsL.toArray X₁ hg hsize hdg hW (X₁.named hnamed) (hpre vm₁ X₁.warmed) with ⟨v, B, X', hpost, hsteps⟩ | ⟨q, B, X', hpost, hsteps⟩
  · exact Or.inl ⟨v, vm₁, B, X₁.warmed, X', hpost, fun target h => hstep₁ _ fun acts => by rw [doInvoke_state]; exact hsteps.trans h⟩
  · exact Or.inr ⟨q, vm₁, B, X₁.warmed, X', hpost, hstep₁ _ fun acts => by rw [doInvoke_state]; exact hsteps⟩
end Calls
theorem vx_cls {s : State} {T : State} {vm₁ : Vm} {E : String} {k : ClassId} (hW : s.WarmedH vm₁) (h : (T.setVm vm₁).vm.findClass E = some k) : s.vm.findClass E = some k := by
  have h1 : vm₁.findClass E = some k := h
  rw [hW.alike.findClass] at h1
  exact h1
/-- the method's frame g, with q thrown over it -/
def vx_W (p : Program) (l : Launch) (e : Env) (R : Room) (s : State) (m : MethodId) (args : Array Value) (below : List Frame) (meth : Method) (c : Code) (H : Heap) (locs : List Loc) (cells slots : Nat) (Q : State → Prop) (g : JFrame) (q : Addr) : Prop :=
  ∀ T : State, T.heap = H → Stand p l e R s m args below meth c T locs cells slots → ∃ t, Steps p.tables e below ((T.setTop g).pushFrame (.throwing q)) t ∧ Q t
def vx_Run (p : Program) (l : Launch) (e : Env) (R : Room) (s : State) (m : MethodId) (args : Array Value) (below : List Frame) (meth : Method) (c : Code) (H : Heap) (locs : List Loc) (cells slots mc ms : Nat) (g : JFrame) (rest : List Value) (Qa : State → Outcome → State → Prop) (XC : String → State → State → Prop) (free : Addr → Prop) : Prop :=
  ∀ T : State, T.heap = H → Stand p l e R s m args below meth c T locs cells slots →
    (∃ (v : Option Value) (st₀ t T' : State) (L : List Loc), st₀.heap = H ∧ Stand p l e R s m args below meth c T' (locs ++ L) (cells + mc) (slots + ms) ∧ (∀ q ∈ L, free q.base) ∧ T'.heap = t.heap ∧ T'.vm = t.vm ∧ Qa st₀ (.returned v) t ∧
      Goes p e below T g T' { g with pc := g.pc + 3, stack := v.toList ++ rest }) ∨
    (∃ (q : Addr) (st₀ t T' : State) (L : List Loc) (E : String) (ce : Cell), st₀.heap = H ∧ Stand p l e R s m args below meth c T' (locs ++ L) (cells + mc) (slots + ms) ∧ (∀ z ∈ L, free z.base) ∧ T'.heap = t.heap ∧ T'.vm = t.vm ∧ XC E st₀ t ∧ t.heap[q]? = some ce ∧ ce.vm = .none ∧ s.vm.findClass E = some ce.cls ∧
      Steps p.tables e below (T.setTop g) ((T'.setTop { g with stack := rest }).pushFrame (.throwing q)))
def vx_X {S : Type} (px : S → Prop) (B : String → S → State → Prop) (A : Nat → Prop) : String → State → State → Prop := fun E st t => ∃ u : S, px u ∧ B E u t ∧ va_F A st t
section Runs
variable {p : Program} {l : Launch} {e : Env} {R : Room} {s : State} {m : MethodId} {args : Array Value} {below : List Frame} {meth : Method} {c : Code} {H : Heap} {locs : List Loc} {cells slots : Nat}
variable {y : MethodName} {bytes cc : ByteArray} {maxL nL mc ms n index : Nat} {ret : Option FieldType} {ws : List Cond} {rm : Room} {Pc : Array Value → State → Prop} {Qc : Array Value → State → Outcome → State → Prop} {XC : String → State → State → Prop} {free : Addr → Prop} {Ts : List Cond} {own C : String} {b : Addr} {As rest : List Value} {g : JFrame}
theorem vx_callBack (cb : CallB R s args own index y bytes maxL ret ws rm mc ms n) (hM : vx_Met l y ws rm Pc Qc XC mc ms free) (hbl : FrameBlind Pc) : vx_Back l R p e below s args y 3 8 (PreOf R mc ms Pc) (PostOf Qc mc ms free) (vx_Post XC mc ms free) := by
  obtain ⟨hrc, hrs, hfr, hlo, hws, hcw, -, hini, -⟩ := cb
  exact vx_back (bytes := bytes) (maxL := maxL) (ret := ret) hM hbl hrc hrs hfr hlo hws hcw (fun a' U hW => word_at hW (Or.inl (by first | rfl | simp [Cond.onTables, Cond.keeps, Cond.steady])) hini)
theorem vx_runV (S : CallFix p m c cc nL s args Ts own) (hM : vx_Met l y ws rm Pc Qc XC mc ms free) (cw : CallW R s args own C index y bytes maxL ret ws rm mc ms n) (hp : PreV s H C b Pc As)
    (hg : g.method = m) (hn : As.length = n) (hsize : g.locals.size = nL) (hstack : g.stack = As.reverse ++ .ref b :: rest) (hW : 2 * g.monitorRoom + (rest.map fun v => v.category).sum ≤ 8) (hdg : decode cc g.pc = .ok (.invokevirtual index, 3)) (hf : cells + mc ≤ R.cells ∧ slots + ms ≤ R.slots) :
    vx_Run p l e R s m args below meth c H locs cells slots mc ms g rest (Qc (Value.ref b :: As).toArray) XC free := by
  have hK : vx_Back l R p e below s args y 3 8 (PreOf R mc ms Pc) (PostOf Qc mc ms free) (vx_Post XC mc ms free) := vx_callBack cw.1 hM hp.1
  obtain ⟨⟨-, -, -, -, -, -, hcode, -, hy, hlen, hl⟩, hin, hse⟩ := cw
  obtain ⟨hx, hb, hml, ho, -⟩ := S
  obtain ⟨-, ⟨cellB, hcB, hoB, hclB⟩, hPc⟩ := hp
  intro T hT X
  rcases vx_callV X hx (C := C) (bytes := bytes) (maxL := maxL) (ret := ret) ho hl hin hse hcode hy hK (by rw [hT]; exact hcB) hoB hclB hg (hsize.trans hml.symm) (argsL := As) (rest := rest) (fun sig h => hn.trans (hlen sig h)) hstack hW (by rw [hb]; exact hdg)
    (fun vm₁ hW₁ => ⟨hf.1, hf.2, hPc (T.setVm vm₁) hT hW₁⟩) with ⟨v, vm₁, ⟨U', l2, c2, s2⟩, hW₁, X', ⟨g', mk, t, L, e1, e2, hq, h1, hL, h2, h3⟩, st⟩ | ⟨q, vm₁, ⟨U', l2, c2, s2⟩, hW₁, X', ⟨g', mk, t, L, E, ce, e1, e2, hq, hce, hcv, hcl, h1, hL, h2, h3⟩, st⟩
  · dsimp only [Pt.U, Pt.locs, Pt.cells, Pt.slots] at X' e1 e2 h1 h2 h3 st
    subst h1; subst h2; subst h3
    exact Or.inl ⟨v, (T.setVm vm₁).calling g' mk (Value.ref b :: As).toArray, t, U', L, hT, X', hL, e1, e2, hq, st⟩
  · dsimp only [Pt.U, Pt.locs, Pt.cells, Pt.slots] at X' e1 e2 h1 h2 h3 st hcl
    subst h1; subst h2; subst h3
    exact Or.inr ⟨q, (T.setVm vm₁).calling g' mk (Value.ref b :: As).toArray, t, U', L, E, ce, hT, X', hL, e1, e2, hq, hce, hcv, vx_cls hW₁ hcl, st⟩
theorem vx_runS (S : CallFix p m c cc nL s args Ts own) (hM : vx_Met l y ws rm Pc Qc XC mc ms free) (cw : CallB R s args own index y bytes maxL ret ws rm mc ms n ∧ (Cond.static y).before args s = true) (hp : PreS s H Pc As)
    (hg : g.method = m) (hn : As.length = n) (hsize : g.locals.size = nL) (hstack : g.stack = As.reverse ++ rest) (hW : 2 * g.monitorRoom + (rest.map fun v => v.category).sum ≤ 8) (hdg : decode cc g.pc = .ok (.invokestatic index, 3)) (hf : cells + mc ≤ R.cells ∧ slots + ms ≤ R.slots) :
    vx_Run p l e R s m args below meth c H locs cells slots mc ms g rest (Qc As.toArray) XC free := by
  have hK : vx_Back l R p e below s args y 3 8 (PreOf R mc ms Pc) (PostOf Qc mc ms free) (vx_Post XC mc ms free) := vx_callBack cw.1 hM hp.1
  obtain ⟨⟨-, -, -, -, -, -, hcode, hini, hy, hlen, hl⟩, hstt⟩ := cw
  obtain ⟨hx, hb, hml, ho, -⟩ := S
  intro T hT X
  rcases vx_callS X hx (bytes := bytes) (maxL := maxL) (ret := ret) ho hl hstt hini hcode hy hK hg (hsize.trans hml.symm) (argsL := As) (rest := rest) (fun sig h => hn.trans (hlen sig h)) hstack hW (by rw [hb]; exact hdg)
    (fun vm₁ hW₁ => ⟨hf.1, hf.2, hp.2 (T.setVm vm₁) hT hW₁⟩) with ⟨v, vm₁, ⟨U', l2, c2, s2⟩, hW₁, X', ⟨g', mk, t, L, e1, e2, hq, h1, hL, h2, h3⟩, st⟩ | ⟨q, vm₁, ⟨U', l2, c2, s2⟩, hW₁, X', ⟨g', mk, t, L, E, ce, e1, e2, hq, hce, hcv, hcl, h1, hL, h2, h3⟩, st⟩
  · dsimp only [Pt.U, Pt.locs, Pt.cells, Pt.slots] at X' e1 e2 h1 h2 h3 st
    subst h1; subst h2; subst h3
    exact Or.inl ⟨v, (T.setVm vm₁).calling g' mk As.toArray, t, U', L, hT, X', hL, e1, e2, hq, st⟩
  · dsimp only [Pt.U, Pt.locs, Pt.cells, Pt.slots] at X' e1 e2 h1 h2 h3 st hcl
    subst h1; subst h2; subst h3
    exact Or.inr ⟨q, (T.setVm vm₁).calling g' mk As.toArray, t, U', L, E, ce, hT, X', hL, e1, e2, hq, hce, hcv, vx_cls hW₁ hcl, st⟩
end Runs
section Rows
variable {p : Program} {l : Launch} {e : Env} {R : Room} {s : State} {m : MethodId} {args : Array Value} {below : List Frame} {meth : Method} {c : Code} {H : Heap} {locs : List Loc} {cells slots : Nat} {Q : State → Prop}
variable {mc ms : Nat} {free : Addr → Prop} {A0 A1 : Nat → Prop} {H0 : Heap} {a : Array Value} {pc : Nat} {ls : Array Slot} {st0 rest : List Value}
theorem vx_keep {st₀ t T' : State} {L : List Loc} (h0 : st₀.heap = H) (e1 : T'.heap = t.heap) (hS : va_S A0 H0 H locs) (hA : ∀ q, q < H.size → A1 q → A0 q) (hf : ∀ q, free q → A0 q) (hL : ∀ q ∈ L, free q.base) (hF : va_F A1 st₀ t) :
    H.size ≤ T'.heap.size ∧ (∀ q : Nat, q < H.size → ¬ A1 q → T'.heap[q]? = H[q]?) ∧ va_S A0 H0 T'.heap (locs ++ L) := by
  obtain ⟨hz, hk⟩ := hF
  rw [h0] at hz hk
  exact ⟨by rw [e1]; exact hz, fun q h1 h2 => by rw [e1]; exact hk q h1 h2,
    ⟨Nat.le_trans hS.1 (by rw [e1]; exact hz), fun q h1 h2 => by rw [e1, hk q (Nat.lt_of_lt_of_le h1 hS.1) (fun z => h2 (hA q (Nat.lt_of_lt_of_le h1 hS.1) z))]; exact hS.2.1 q h1 h2, fun q hq => by
      rcases List.mem_append.mp hq with h | h
      · exact hS.2.2 q h
      · exact hf _ (hL q h)⟩⟩
theorem vx_calli {S SX : Type} {post : Int32 → S → Prop} {px : SX → Prop} {B : S → State → Prop} {BX : String → SX → State → Prop} {AX : Nat → Prop} (hr : vx_Run p l e R s m args below meth c H locs cells slots mc ms (F0 m pc ls st0) rest (va_Qi post B A1 a) (vx_X px BX AX) free) (hS : va_S A0 H0 H locs) (hA : ∀ q, q < H.size → A1 q → A0 q) (hf : ∀ q, free q → A0 q) (hAX : ∀ q, q < H.size → AX q → A0 q)
    (kx : ∀ (E : String) (ce : Cell) (q9 : Addr) (u : SX) (t : State) (H1 : Heap) (locs1 : List Loc), t.heap = H1 → s.vm.Alike t.vm → px u → BX E u t → H.size ≤ H1.size → (∀ q : Nat, q < H.size → ¬ AX q → H1[q]? = H[q]?) → va_S A0 H0 H1 locs1 → H1[q9]? = some ce → ce.vm = .none → s.vm.findClass E = some ce.cls → vx_W p l e R s m args below meth c H1 locs1 (cells + mc) (slots + ms) Q (F0 m pc ls rest) q9)
    (kk : ∀ (r : Int32) (u : S) (t : State) (H1 : Heap) (locs1 : List Loc), t.heap = H1 → s.vm.Alike t.vm → post r u → B u t → H.size ≤ H1.size → (∀ q : Nat, q < H.size → ¬ A1 q → H1[q]? = H[q]?) → va_S A0 H0 H1 locs1 → W p l e R s m args below meth c H1 locs1 (cells + mc) (slots + ms) Q (F0 m (pc + 3) ls (.int r :: rest))) : W p l e R s m args below meth c H locs cells slots Q (F0 m pc ls st0) := by
  intro T hT X
  rcases hr T hT X with ⟨v, st₀, t, T', L, h0, X', hL, e1, e2, ⟨⟨r, u, hv, hp, hb⟩, hF⟩, st⟩ | ⟨q, st₀, t, T', L, E, ce, h0, X', hL, e1, e2, ⟨u, hp, hb, hF⟩, hce, hcv, hcl, st⟩
  · cases hv
    obtain ⟨k1, k2, k3⟩ := vx_keep h0 e1 hS hA hf hL hF
    obtain ⟨t2, a1, b1⟩ := kk r u t T'.heap (locs ++ L) e1.symm (by rw [← e2]; exact X'.warmed.alike) hp hb k1 k2 k3 T' rfl X'
    exact ⟨t2, st t2 a1, b1⟩
  · obtain ⟨k1, k2, k3⟩ := vx_keep h0 e1 hS hAX hf hL hF
    obtain ⟨t2, a1, b1⟩ := kx E ce q u t T'.heap (locs ++ L) e1.symm (by rw [← e2]; exact X'.warmed.alike) hp hb k1 k2 k3 (by rw [e1]; exact hce) hcv hcl T' rfl X'
    exact ⟨t2, st.trans a1, b1⟩
theorem vx_calll {S SX : Type} {post : Int64 → S → Prop} {px : SX → Prop} {B : S → State → Prop} {BX : String → SX → State → Prop} {AX : Nat → Prop} (hr : vx_Run p l e R s m args below meth c H locs cells slots mc ms (F0 m pc ls st0) rest (va_Ql post B A1 a) (vx_X px BX AX) free) (hS : va_S A0 H0 H locs) (hA : ∀ q, q < H.size → A1 q → A0 q) (hf : ∀ q, free q → A0 q) (hAX : ∀ q, q < H.size → AX q → A0 q)
    (kx : ∀ (E : String) (ce : Cell) (q9 : Addr) (u : SX) (t : State) (H1 : Heap) (locs1 : List Loc), t.heap = H1 → s.vm.Alike t.vm → px u → BX E u t → H.size ≤ H1.size → (∀ q : Nat, q < H.size → ¬ AX q → H1[q]? = H[q]?) → va_S A0 H0 H1 locs1 → H1[q9]? = some ce → ce.vm = .none → s.vm.findClass E = some ce.cls → vx_W p l e R s m args below meth c H1 locs1 (cells + mc) (slots + ms) Q (F0 m pc ls rest) q9)
    (kk : ∀ (r : Int64) (u : S) (t : State) (H1 : Heap) (locs1 : List Loc), t.heap = H1 → s.vm.Alike t.vm → post r u → B u t → H.size ≤ H1.size → (∀ q : Nat, q < H.size → ¬ A1 q → H1[q]? = H[q]?) → va_S A0 H0 H1 locs1 → W p l e R s m args below meth c H1 locs1 (cells + mc) (slots + ms) Q (F0 m (pc + 3) ls (.long r :: rest))) : W p l e R s m args below meth c H locs cells slots Q (F0 m pc ls st0) := by
  intro T hT X
  rcases hr T hT X with ⟨v, st₀, t, T', L, h0, X', hL, e1, e2, ⟨⟨r, u, hv, hp, hb⟩, hF⟩, st⟩ | ⟨q, st₀, t, T', L, E, ce, h0, X', hL, e1, e2, ⟨u, hp, hb, hF⟩, hce, hcv, hcl, st⟩
  · cases hv
    obtain ⟨k1, k2, k3⟩ := vx_keep h0 e1 hS hA hf hL hF
    obtain ⟨t2, a1, b1⟩ := kk r u t T'.heap (locs ++ L) e1.symm (by rw [← e2]; exact X'.warmed.alike) hp hb k1 k2 k3 T' rfl X'
    exact ⟨t2, st t2 a1, b1⟩
  · obtain ⟨k1, k2, k3⟩ := vx_keep h0 e1 hS hAX hf hL hF
    obtain ⟨t2, a1, b1⟩ := kx E ce q u t T'.heap (locs ++ L) e1.symm (by rw [← e2]; exact X'.warmed.alike) hp hb k1 k2 k3 (by rw [e1]; exact hce) hcv hcl T' rfl X'
    exact ⟨t2, st.trans a1, b1⟩
theorem vx_callf {S SX : Type} {post : UInt32 → S → Prop} {px : SX → Prop} {B : S → State → Prop} {BX : String → SX → State → Prop} {AX : Nat → Prop} (hr : vx_Run p l e R s m args below meth c H locs cells slots mc ms (F0 m pc ls st0) rest (va_Qf post B A1 a) (vx_X px BX AX) free) (hS : va_S A0 H0 H locs) (hA : ∀ q, q < H.size → A1 q → A0 q) (hf : ∀ q, free q → A0 q) (hAX : ∀ q, q < H.size → AX q → A0 q)
    (kx : ∀ (E : String) (ce : Cell) (q9 : Addr) (u : SX) (t : State) (H1 : Heap) (locs1 : List Loc), t.heap = H1 → s.vm.Alike t.vm → px u → BX E u t → H.size ≤ H1.size → (∀ q : Nat, q < H.size → ¬ AX q → H1[q]? = H[q]?) → va_S A0 H0 H1 locs1 → H1[q9]? = some ce → ce.vm = .none → s.vm.findClass E = some ce.cls → vx_W p l e R s m args below meth c H1 locs1 (cells + mc) (slots + ms) Q (F0 m pc ls rest) q9)
    (kk : ∀ (r : UInt32) (u : S) (t : State) (H1 : Heap) (locs1 : List Loc), t.heap = H1 → s.vm.Alike t.vm → post r u → B u t → H.size ≤ H1.size → (∀ q : Nat, q < H.size → ¬ A1 q → H1[q]? = H[q]?) → va_S A0 H0 H1 locs1 → W p l e R s m args below meth c H1 locs1 (cells + mc) (slots + ms) Q (F0 m (pc + 3) ls (.float r :: rest))) : W p l e R s m args below meth c H locs cells slots Q (F0 m pc ls st0) := by
  intro T hT X
  rcases hr T hT X with ⟨v, st₀, t, T', L, h0, X', hL, e1, e2, ⟨⟨r, u, hv, hp, hb⟩, hF⟩, st⟩ | ⟨q, st₀, t, T', L, E, ce, h0, X', hL, e1, e2, ⟨u, hp, hb, hF⟩, hce, hcv, hcl, st⟩
  · cases hv
    obtain ⟨k1, k2, k3⟩ := vx_keep h0 e1 hS hA hf hL hF
    obtain ⟨t2, a1, b1⟩ := kk r u t T'.heap (locs ++ L) e1.symm (by rw [← e2]; exact X'.warmed.alike) hp hb k1 k2 k3 T' rfl X'
    exact ⟨t2, st t2 a1, b1⟩
  · obtain ⟨k1, k2, k3⟩ := vx_keep h0 e1 hS hAX hf hL hF
    obtain ⟨t2, a1, b1⟩ := kx E ce q u t T'.heap (locs ++ L) e1.symm (by rw [← e2]; exact X'.warmed.alike) hp hb k1 k2 k3 (by rw [e1]; exact hce) hcv hcl T' rfl X'
    exact ⟨t2, st.trans a1, b1⟩
theorem vx_calld {S SX : Type} {post : UInt64 → S → Prop} {px : SX → Prop} {B : S → State → Prop} {BX : String → SX → State → Prop} {AX : Nat → Prop} (hr : vx_Run p l e R s m args below meth c H locs cells slots mc ms (F0 m pc ls st0) rest (va_Qd post B A1 a) (vx_X px BX AX) free) (hS : va_S A0 H0 H locs) (hA : ∀ q, q < H.size → A1 q → A0 q) (hf : ∀ q, free q → A0 q) (hAX : ∀ q, q < H.size → AX q → A0 q)
    (kx : ∀ (E : String) (ce : Cell) (q9 : Addr) (u : SX) (t : State) (H1 : Heap) (locs1 : List Loc), t.heap = H1 → s.vm.Alike t.vm → px u → BX E u t → H.size ≤ H1.size → (∀ q : Nat, q < H.size → ¬ AX q → H1[q]? = H[q]?) → va_S A0 H0 H1 locs1 → H1[q9]? = some ce → ce.vm = .none → s.vm.findClass E = some ce.cls → vx_W p l e R s m args below meth c H1 locs1 (cells + mc) (slots + ms) Q (F0 m pc ls rest) q9)
    (kk : ∀ (r : UInt64) (u : S) (t : State) (H1 : Heap) (locs1 : List Loc), t.heap = H1 → s.vm.Alike t.vm → post r u → B u t → H.size ≤ H1.size → (∀ q : Nat, q < H.size → ¬ A1 q → H1[q]? = H[q]?) → va_S A0 H0 H1 locs1 → W p l e R s m args below meth c H1 locs1 (cells + mc) (slots + ms) Q (F0 m (pc + 3) ls (.double r :: rest))) : W p l e R s m args below meth c H locs cells slots Q (F0 m pc ls st0) := by
  intro T hT X
  rcases hr T hT X with ⟨v, st₀, t, T', L, h0, X', hL, e1, e2, ⟨⟨r, u, hv, hp, hb⟩, hF⟩, st⟩ | ⟨q, st₀, t, T', L, E, ce, h0, X', hL, e1, e2, ⟨u, hp, hb, hF⟩, hce, hcv, hcl, st⟩
  · cases hv
    obtain ⟨k1, k2, k3⟩ := vx_keep h0 e1 hS hA hf hL hF
    obtain ⟨t2, a1, b1⟩ := kk r u t T'.heap (locs ++ L) e1.symm (by rw [← e2]; exact X'.warmed.alike) hp hb k1 k2 k3 T' rfl X'
    exact ⟨t2, st t2 a1, b1⟩
  · obtain ⟨k1, k2, k3⟩ := vx_keep h0 e1 hS hAX hf hL hF
    obtain ⟨t2, a1, b1⟩ := kx E ce q u t T'.heap (locs ++ L) e1.symm (by rw [← e2]; exact X'.warmed.alike) hp hb k1 k2 k3 (by rw [e1]; exact hce) hcv hcl T' rfl X'
    exact ⟨t2, st.trans a1, b1⟩
theorem vx_callv {S SX : Type} {post : S → Prop} {px : SX → Prop} {B : S → State → Prop} {BX : String → SX → State → Prop} {AX : Nat → Prop} (hr : vx_Run p l e R s m args below meth c H locs cells slots mc ms (F0 m pc ls st0) rest (va_Qv post B A1 a) (vx_X px BX AX) free) (hS : va_S A0 H0 H locs) (hA : ∀ q, q < H.size → A1 q → A0 q) (hf : ∀ q, free q → A0 q) (hAX : ∀ q, q < H.size → AX q → A0 q)
    (kx : ∀ (E : String) (ce : Cell) (q9 : Addr) (u : SX) (t : State) (H1 : Heap) (locs1 : List Loc), t.heap = H1 → s.vm.Alike t.vm → px u → BX E u t → H.size ≤ H1.size → (∀ q : Nat, q < H.size → ¬ AX q → H1[q]? = H[q]?) → va_S A0 H0 H1 locs1 → H1[q9]? = some ce → ce.vm = .none → s.vm.findClass E = some ce.cls → vx_W p l e R s m args below meth c H1 locs1 (cells + mc) (slots + ms) Q (F0 m pc ls rest) q9)
    (kk : ∀ (u : S) (t : State) (H1 : Heap) (locs1 : List Loc), t.heap = H1 → s.vm.Alike t.vm → post u → B u t → H.size ≤ H1.size → (∀ q : Nat, q < H.size → ¬ A1 q → H1[q]? = H[q]?) → va_S A0 H0 H1 locs1 → W p l e R s m args below meth c H1 locs1 (cells + mc) (slots + ms) Q (F0 m (pc + 3) ls (rest))) : W p l e R s m args below meth c H locs cells slots Q (F0 m pc ls st0) := by
  intro T hT X
  rcases hr T hT X with ⟨v, st₀, t, T', L, h0, X', hL, e1, e2, ⟨⟨u, hv, hp, hb⟩, hF⟩, st⟩ | ⟨q, st₀, t, T', L, E, ce, h0, X', hL, e1, e2, ⟨u, hp, hb, hF⟩, hce, hcv, hcl, st⟩
  · cases hv
    obtain ⟨k1, k2, k3⟩ := vx_keep h0 e1 hS hA hf hL hF
    obtain ⟨t2, a1, b1⟩ := kk u t T'.heap (locs ++ L) e1.symm (by rw [← e2]; exact X'.warmed.alike) hp hb k1 k2 k3 T' rfl X'
    exact ⟨t2, st t2 a1, b1⟩
  · obtain ⟨k1, k2, k3⟩ := vx_keep h0 e1 hS hAX hf hL hF
    obtain ⟨t2, a1, b1⟩ := kx E ce q u t T'.heap (locs ++ L) e1.symm (by rw [← e2]; exact X'.warmed.alike) hp hb k1 k2 k3 (by rw [e1]; exact hce) hcv hcl T' rfl X'
    exact ⟨t2, st.trans a1, b1⟩
/-- caught by the row x of this method's table; the rows ahead don't take it -/
theorem vx_catch {own name : String} {E : String} {ce : Cell} {q : Addr} (hown : s.vm.findClass own = some m.cls) (pre : List ExceptionTableEntry) (x : ExceptionTableEntry) (suf : List ExceptionTableEntry) (hsplit : c.exceptionTable.toList = pre ++ x :: suf)
    (hpass : ∀ z ∈ pre, covers z pc = false ∨ (z.catchType ≠ 0 ∧ ∃ nm : String, (Cond.classLink own z.catchType nm).before args s = true ∧ va_Nc E nm s)) (hx : covers x pc = true) (h0 : x.catchType ≠ 0)
    (hlink : (Cond.classLink own x.catchType name).before args s = true) (hcast : (Cond.castable E name).before args s = true) (hcell : H[q]? = some ce) (hv : ce.vm = .none) (hcl : s.vm.findClass E = some ce.cls)
    (kk : W p l e R s m args below meth c H locs cells slots Q (F0 m x.handlerPc ls [.ref q])) : vx_W p l e R s m args below meth c H locs cells slots Q (F0 m pc ls rest) q := by
  intro T hT X
  have hpl : e.platform.magicAccessors = ({} : Platform).magicAccessors := by rw [X.admits.platform]
  obtain ⟨c3, c4, hc3, hc4, hasg⟩ := Cond.castable_spec hcast
  cases Option.some.inj (hc3.symm.trans hcl)
  obtain ⟨c5, hc5, hcl5⟩ := Cond.classLink_spec hown hlink e.platform hpl
  cases Option.some.inj (hc4.symm.trans hc5)
  obtain ⟨vm', X', st⟩ := X.thenCaughtThrough q (g := F0 m pc ls rest) rfl (Steps.refl _) (by rw [hT]; exact hcell) (by rw [hv]; rfl) (by obtain ⟨k9, h9, -⟩ := Vm.findClass_spec hcl; exact ⟨k9, h9⟩) pre x suf hsplit
    (fun z hz => by
      rcases hpass z hz with h | ⟨hz0, nm, hl1, hn1⟩
      · exact Or.inl h
      · obtain ⟨c6, hc6, hcl6⟩ := Cond.classLink_spec hown hl1 e.platform hpl
        obtain ⟨a8, b8, h1, h2, h3⟩ := hn1
        cases Option.some.inj (h1.symm.trans hcl)
        cases Option.some.inj (h2.symm.trans hc6)
        exact Or.inr ⟨hz0, _, hcl6, h3⟩) hx (Or.inr ⟨h0, c4, hcl5, hasg⟩)
  obtain ⟨t, a1, b1⟩ := kk (T.setVm vm') hT X'
  exact ⟨t, st.trans a1, b1⟩
end Rows
section Ends
variable {p : Program} {l : Launch} {e : Env} {R : Room} {s : State} {m : MethodId} {args : Array Value} {below : List Frame} {meth : Method} {c : Code} {H : Heap} {locs : List Loc} {cells slots : Nat} {Q : State → Prop}
variable {mc ms : Nat} {free : Addr → Prop} {A0 A1 : Nat → Prop} {H0 : Heap} {a : Array Value} {ls : Array Slot} {st0 rest : List Value}
variable {Qc : Array Value → State → Outcome → State → Prop} {XC : String → State → State → Prop}
/-- what a body that may throw owes at its end -/
def vx_MQ (below : List Frame) (Qc : Array Value → State → Outcome → State → Prop) (XC : String → State → State → Prop) (a : Array Value) (s : State) (mc ms : Nat) (free : Addr → Prop) : State → Prop := fun t =>
  ∃ o, t.status = .running ∧ Ended t below o ∧ vx_Q Qc XC mc ms free a s o t
theorem vx_ret {g : JFrame} {mc ms : Nat} (k : W p l e R s m args below meth c H locs cells slots (MQ below Qc args s mc ms free) g) : W p l e R s m args below meth c H locs cells slots (vx_MQ below Qc XC args s mc ms free) g := by
  intro T hT X
  obtain ⟨t, a1, o, b1, b2, b3, b4⟩ := k T hT X
  exact ⟨t, a1, o, b1, b2, Or.inl ⟨b3, b4⟩⟩
/-- not caught here: it goes on to the caller -/
theorem vx_widen {g : JFrame} {q : Addr} {k n : Nat} (h1 : cells ≤ k) (h2 : slots ≤ n) (kk : vx_W p l e R s m args below meth c H locs k n Q g q) : vx_W p l e R s m args below meth c H locs cells slots Q g q := fun T hT X => kk T hT (stand_widen X h1 h2)
theorem vx_out {pc : Nat} {E : String} {ce : Cell} {q : Addr} {mc ms : Nat} (hout : ∀ x ∈ c.exceptionTable.toList, covers x pc = false) (hlocks : meth.locks = false) (hcell : H[q]? = some ce) (hv : ce.vm = .none) (hcl : s.vm.findClass E = some ce.cls)
    (hx : ∀ t : State, t.heap = H → s.vm.Alike t.vm → XC E s t) (hf : ∀ z ∈ locs, free z.base) (hc : cells ≤ mc) (hs : slots ≤ ms) :
    vx_W p l e R s m args below meth c H locs cells slots (vx_MQ below Qc XC args s mc ms free) (F0 m pc ls rest) q := by
  intro T hT X
  obtain ⟨st1, hrun, hend, hW, hsm⟩ := X.leaveThrown q (g := F0 m pc ls rest) rfl rfl rfl hout hlocks
  have hcell9 : (T.setFrames (.throwing q :: below)).heap[q]? = some ce := by
    show T.heap[q]? = some ce
    rw [hT]; exact hcell
  exact ⟨_, st1, .threw q, hrun, hend, Or.inr ⟨q, rfl, E, ce, locs, hx _ hT hW.alike, hcell9, hv, hcl, hW, hsm.mono hc hs, hf⟩⟩
theorem vx_frame {U : State} {k n : Nat} (h : s.sameButNew ({ U with vm := s.vm } : State) locs k n) : s.heap.size ≤ U.heap.size ∧ ∀ q : Nat, q < s.heap.size → (∀ z ∈ locs, z.base ≠ q) → U.heap[q]? = s.heap[q]? := by
  obtain ⟨-, h2, -, -, -, h6⟩ := h
  refine ⟨h2, fun q hq hz => ?_⟩
  obtain ⟨c9, e1, e2, e3, e4⟩ := h6 q _ (Array.getElem?_eq_getElem hq)
  have hs : c9.slots = (s.heap[q]).slots := Array.ext_getElem? fun i => e4 i fun hm => hz _ hm rfl
  have h9 : c9 = s.heap[q] := by
    rw [hs] at e2
    exact e2
  have e5 : U.heap[q]? = some c9 := e1
  rw [e5, h9, Array.getElem?_eq_getElem hq]
/-- the words of a throw but the four that speak of the heap -/
def vx_no (w : Cond) : Bool := decide (w ≠ .isRef (.static Bundle.tN "UNASSIGNED_STACK" Bundle.steD)) && decide (w ≠ .isRef (.static Bundle.tN "SUPPRESSED_SENTINEL" Bundle.listD)) && decide (w ≠ .laysStatic Bundle.tN "UNASSIGNED_STACK" Bundle.steD) && decide (w ≠ .laysStatic Bundle.tN "SUPPRESSED_SENTINEL" Bundle.listD)
def vx_at0 (own : String) (ic : Nat) (X : String) (names : List String) : List Cond := (Bundle.ownAtoms0 own ic X names).filter vx_no
def vx_atS (own : String) (ic : Nat) (X : String) (names : List String) : List Cond := (Bundle.ownAtoms own ic X names).filter vx_no
/-- a word that the tables alone decide, or a good one -/
def vx_ot (w : Cond) : Bool := w.onTables || goodWord w
theorem vx_ot_at {args a' : Array Value} {s U : State} {w : Cond} (hW : s.WarmedH U.vm) (hvm : s.vm = U.vm) (hg : vx_ot w = true) (h : w.before args s = true) : w.before a' U = true := by
  simp only [vx_ot, Bool.or_eq_true] at hg
  rcases hg with hg | hg
  · exact va_tabs hg hvm h
  · exact word_at hW (good_of_word hg) h
/-- a list's words: the good ones out of the method's own list, the others by premises of their own -/
theorem vx_hat {args : Array Value} {s : State} {L B : List Cond} (h1 : ∀ w ∈ L.filter goodWord, w.before args s = true) (h2 : ∀ w ∈ L.filter (fun w => !goodWord w), w ∈ B) (h3 : ∀ w ∈ B, w.before args s = true) : ∀ w ∈ L, w.before args s = true := by
  intro w hw
  by_cases g : goodWord w = true
  · exact h1 w (List.mem_filter.mpr ⟨hw, g⟩)
  · refine h3 w (h2 w (List.mem_filter.mpr ⟨hw, ?_⟩))
    show (!goodWord w) = true
    cases hgw : goodWord w
    · rfl
    · exact absurd hgw g
theorem vx_c {args : Array Value} {s : State} {w : Cond} {B : List Cond} (h : w.before args s = true) (t : ∀ w ∈ B, w.before args s = true) : ∀ w' ∈ w :: B, w'.before args s = true := fun w' h' => (List.mem_cons.mp h').elim (fun e => by rw [e]; exact h) (t w')
theorem vx_n {args : Array Value} {s : State} : ∀ w ∈ ([] : List Cond), w.before args s = true := fun _ h => nomatch h
theorem vx_own {args : Array Value} {s : State} {L : List Cond} (h1 : ∀ w ∈ L.filter vx_no, w.before args s = true)
    (hU : (Cond.isRef (.static Bundle.tN "UNASSIGNED_STACK" Bundle.steD)).before args s = true) (hN : (Cond.isRef (.static Bundle.tN "SUPPRESSED_SENTINEL" Bundle.listD)).before args s = true)
    (lU : (Cond.laysStatic Bundle.tN "UNASSIGNED_STACK" Bundle.steD).before args s = true) (lN : (Cond.laysStatic Bundle.tN "SUPPRESSED_SENTINEL" Bundle.listD).before args s = true) : ∀ w ∈ L, w.before args s = true := by
  intro w hw
  by_cases e1 : w = .isRef (.static Bundle.tN "UNASSIGNED_STACK" Bundle.steD)
  · rw [e1]; exact hU
  · by_cases e2 : w = .isRef (.static Bundle.tN "SUPPRESSED_SENTINEL" Bundle.listD)
    · rw [e2]; exact hN
    · by_cases e3 : w = .laysStatic Bundle.tN "UNASSIGNED_STACK" Bundle.steD
      · rw [e3]; exact lU
      · by_cases e4 : w = .laysStatic Bundle.tN "SUPPRESSED_SENTINEL" Bundle.listD
        · rw [e4]; exact lN
        · exact h1 w (List.mem_filter.mpr ⟨hw, by unfold vx_no; rw [decide_eq_true e1, decide_eq_true e2, decide_eq_true e3, decide_eq_true e4]; rfl⟩)
/-- where a static field lies, its class's statics cell in H -/
def vx_L (C n d : String) (A : Nat → Prop) (U : State) (H : Heap) : Prop := ∃ (c : ClassId) (k : Class) (i : Nat) (f : Field) (a : Nat) (cell : Cell), U.vm.findClass C = some c ∧ U.fieldFound? C n d = some (c, k, i, f) ∧ f.isStatic = true ∧ k.statics = some a ∧ H[a]? = some cell ∧ cell.vm.isStatics = true ∧ cell.cls = c ∧ f.slot < cell.slots.size ∧ k.staticTypes[f.slot]? = some f.type ∧ ¬ A a
theorem vx_L.moved {C n d : String} {A : Nat → Prop} {u U : State} {H : Heap} (hvm : u.vm.Alike U.vm) (h : vx_L C n d A u H) : vx_L C n d A U H := by
  obtain ⟨c, k, i, f, a, cell, h1, h2, h3, h4, h5, h6, h7, h8, h9, h10⟩ := h
  obtain ⟨k', hi', he⟩ := State.fieldFound?_setVm hvm h2
  exact ⟨c, k', i, f, a, cell, by rw [hvm.findClass]; exact h1, hi', h3, by rw [he]; exact h4, h5, h6, h7, h8, by rw [he]; exact h9, h10⟩
theorem vx_L.kept {C n d : String} {A : Nat → Prop} {U : State} {H H1 : Heap} (h : vx_L C n d A U H) (hq : ∀ a : Nat, a < H.size → ¬ A a → H1[a]? = H[a]?) : vx_L C n d A U H1 := by
  obtain ⟨c, k, i, f, a, cell, h1, h2, h3, h4, h5, h6, h7, h8, h9, h10⟩ := h
  exact ⟨c, k, i, f, a, cell, h1, h2, h3, h4, by rw [hq a (Array.getElem?_eq_some_iff.mp h5).1 h10]; exact h5, h6, h7, h8, h9, h10⟩
theorem vx_L.narrow {C n d : String} {A B : Nat → Prop} {U : State} {H : Heap} (h : vx_L C n d A U H) (hAB : ∀ q, B q → A q) : vx_L C n d B U H := by
  obtain ⟨c, k, i, f, a, cell, h1, h2, h3, h4, h5, h6, h7, h8, h9, h10⟩ := h
  exact ⟨c, k, i, f, a, cell, h1, h2, h3, h4, h5, h6, h7, h8, h9, fun z => h10 (hAB _ z)⟩
theorem vx_L.word {C n d : String} {A : Nat → Prop} {s : State} {args : Array Value} (h : vx_L C n d A s s.heap) : (Cond.laysStatic C n d).before args s = true := by
  obtain ⟨c, k, i, f, a, cell, h1, h2, h3, h4, h5, h6, h7, h8, h9, -⟩ := h
  show (Cond.laysStatic C n d).holds args s none s [] = true
  exact Cond.laysStatic_of h1 h2 h3 h4 h5 h6 h7 h8 h9
/-- .. and what it holds: null or some reference -/
def vx_Zq (C n d : String) (A : Nat → Prop) (U : State) (H : Heap) : Prop := va_Zq C n d A U H ∧ vx_L C n d A U H
theorem vx_Zq.moved {C n d : String} {A : Nat → Prop} {u U : State} {H : Heap} (hvm : u.vm.Alike U.vm) (h : vx_Zq C n d A u H) : vx_Zq C n d A U H := ⟨va_Zq.moved hvm h.1, vx_L.moved hvm h.2⟩
theorem vx_Zq.kept {C n d : String} {A : Nat → Prop} {U : State} {H H1 : Heap} (h : vx_Zq C n d A U H) (hq : ∀ a : Nat, a < H.size → ¬ A a → H1[a]? = H[a]?) : vx_Zq C n d A U H1 := ⟨va_Zq.kept h.1 hq, vx_L.kept h.2 hq⟩
theorem vx_Zq.narrow {C n d : String} {A B : Nat → Prop} {U : State} {H : Heap} (h : vx_Zq C n d A U H) (hAB : ∀ q, B q → A q) : vx_Zq C n d B U H := ⟨va_Zq.narrow h.1 hAB, vx_L.narrow h.2 hAB⟩
theorem vx_Zqof {args : Array Value} {s : State} {C n d : String} {A : Nat → Prop} (hl : (Cond.laysStatic C n d).before args s = true) (hini : (Cond.initialized C).before args s = true) (h : (Cond.isRef (.static C n d)).before args s = true) (hA : ∀ a : Nat, a < s.heap.size → ¬ A a) : vx_Zq C n d A s s.heap := by
  refine ⟨va_Zqof hl hini h hA, ?_⟩
  obtain ⟨c, k, i, f, a, cell, h1, h2, h3, h4, h5, h6, h7, h8, h9⟩ := Cond.laysStatic_spec hl
  exact ⟨c, k, i, f, a, cell, h1, h2, h3, h4, h5, h6, h7, h8, h9, hA a (Array.getElem?_eq_some_iff.mp h5).1⟩
theorem vx_isRef {C n d : String} {v : Value} {A : Nat → Prop} {s : State} {args : Array Value} (h : va_Z C n d v A s s.heap) (hv : v.isRef = true) : (Cond.isRef (.static C n d)).before args s = true := by
  obtain ⟨cf, kf, fi, f, a, cell, h1, h2, h3, h4, h5, h6, h7, -⟩ := h
  have he : (Term.static C n d).eval args s none [] s = some v := by
    simp [Term.eval, State.fieldNamed?, h1, h2, h4, h5, h6, h7]
  simp only [Cond.before, Cond.holds, Cond.value, he]
  cases v <;> simp_all [Value.isRef]
theorem vx_isRefq {C n d : String} {A : Nat → Prop} {s : State} {args : Array Value} (h : va_Zq C n d A s s.heap) : (Cond.isRef (.static C n d)).before args s = true := by
  rcases h with h | ⟨t, h⟩
  · exact vx_isRef h rfl
  · exact vx_isRef h rfl
/-- the same frame, seen from here: as if the method were called anew in this heap -/
theorem vx_rebase {T : State} (X : Stand p l e R s m args below meth c T locs cells slots) {R' : Room} (hf : R'.frames ≤ R.frames) (hl : R'.locals ≤ R.locals) (hc : cells + R'.cells ≤ R.cells) (hs : slots + R'.slots ≤ R.slots) :
    Stand p l e R' ((T.setVm s.vm).setFrames (.invoking m args :: below)) m args below meth c T [] 0 0 := by
  have htop : (T.setVm s.vm).topJava?.isSome := X.here.top
  have hF : ((T.setVm s.vm).setFrames (.invoking m args :: below)).frames = .invoking m args :: below := State.frames_setFrames _ (State.cur_lt_of_top htop)
  obtain ⟨g₀, hg0⟩ := Option.isSome_iff_exists.mp htop
  obtain ⟨r, hr⟩ := State.topJava?_eq_some.mp hg0
  have hl9 : e.platform.stackLimits (T.setVm s.vm).me = e.platform.stackLimits s.me := X.limits
  have hb9 : (T.setVm s.vm).me.stackBytes = s.me.stackBytes := X.bytes
  refine ⟨X.admits, X.cas, X.clock, hF, ?_, X.hears, X.method, X.code, X.here, X.tail, X.warmed, ?_, ?_, ?_⟩
  · have h := X.room
    have hU : ((T.setVm s.vm).setFrames (.invoking m args :: below)).localsInUse = s.localsInUse := by
      rw [State.localsInUse_invoking hF (meth := meth) (c := c) X.method X.code, State.localsInUse_invoking X.frames X.method X.code]
    simp only [State.hasRoom, Bool.and_eq_true, decide_eq_true_eq] at h ⊢
    obtain ⟨⟨⟨⟨h1, h2, h3, h4, h5, h6⟩, h7⟩, h8⟩, h9⟩ := h
    rw [X.frames, List.length_cons] at h2 h3
    have q1 := X.heapSize
    have q2 := X.used
    simp only [hF, hU, List.length_cons, State.stackLimits_setFrames, State.stackBytes_setFrames, hl9, hb9]
    refine ⟨⟨⟨⟨by omega, by omega, by omega, by omega, by omega, h6⟩, ?_⟩, ?_⟩, X.book⟩
    · show T.heap.size + R'.cells ≤ e.platform.maxCells
      omega
    · show T.slotsUsed + R'.slots ≤ e.platform.maxSlots
      omega
  · rw [State.stackLimits_setFrames]; rfl
  · rw [State.stackBytes_setFrames]; rfl
  · refine ⟨?_, Nat.le_refl _, Nat.le_refl _, ?_, ?_, fun a c9 h9 => ⟨c9, h9, rfl, rfl, fun _ _ => rfl⟩⟩
    · obtain ⟨t, ht, -⟩ := State.frames_cons hr
      show T.setVm s.vm = { ((T.setVm s.vm).setFrames (.invoking m args :: below)).setFrames (T.setVm s.vm).frames with heap := T.heap, slotsUsed := T.slotsUsed }
      rw [State.setFrames_setFrames, State.setFrames_self ht]
      rfl
    · show T.slotsUsed = T.slotsUsed + ((T.heap.toList.drop T.heap.size).map (·.slots.size)).sum
      rw [List.drop_eq_nil_of_le (Nat.le_of_eq Array.length_toList)]
      rfl
    · show ((T.heap.toList.drop T.heap.size).map (·.slots.size)).sum ≤ 0
      rw [List.drop_eq_nil_of_le (Nat.le_of_eq Array.length_toList)]
      exact Nat.le_refl _
/-- 'throw new E()': new; dup; invokespecial; athrow -/
theorem vx_throw0 {cc : ByteArray} {pc : Nat} (hexec : p.tables.exec = Jvm.exec) (hb : c.code = cc) (hl : l.stackTraces = false) {own cls : String} {names : List String} {ik ic mc ms : Nat} {A : Nat → Prop}
    (hown : s.vm.findClass own = some m.cls) (hcls : Bundle.fit cls = true) (hnames : ∀ n ∈ names, Bundle.fit n = true)
    (hk : (Cond.classLink own ik cls).before args s = true) (hini : (Cond.initialized cls).before args s = true) (hat : ∀ w ∈ vx_at0 own ic cls names, w.before args s = true)
    (hgood : ∀ w ∈ Cond.classLink own ik cls :: Cond.initialized cls :: vx_at0 own ic cls names, vx_ot w = true)
    (hU : vx_Zq Bundle.tN "UNASSIGNED_STACK" Bundle.steD A s s.heap) (hN : vx_Zq Bundle.tN "SUPPRESSED_SENTINEL" Bundle.listD A s s.heap) (hS : va_S A s.heap H locs) (hsize : ls.size = c.maxLocals)
    (d0 : decode cc pc = .ok (.new ik, 3)) (d3 : decode cc (pc + 3) = .ok (.dup, 1)) (d4 : decode cc (pc + 4) = .ok (.invokespecial ic, 3)) (d7 : decode cc (pc + 7) = .ok (.athrow, 1))
    (hout : ∀ x ∈ c.exceptionTable.toList, covers x (pc + 7) = false)
    (hRframes : names.length + 3 < R.frames) (hRlocals : (rest.map fun v => v.category).sum + (13 * (names.length + 1) + 42) ≤ R.locals) (hRcells : cells + 1 ≤ R.cells) (hRslots : slots + 6 ≤ R.slots) (hlocks : meth.locks = false)
    (hx : ∀ t : State, s.vm.Alike t.vm → H.size ≤ t.heap.size → (∀ q : Nat, q < H.size → t.heap[q]? = H[q]?) → XC cls s t)
    (hf : ∀ z ∈ locs, free z.base) (hc : cells + 1 ≤ mc) (hs : slots + 6 ≤ ms) :
    W p l e R s m args below meth c H locs cells slots (vx_MQ below Qc XC args s mc ms free) (F0 m pc ls rest) := by
  intro T hT X
  have htr : e.platform.stackTraces = false := (show e.platform.stackTraces = l.stackTraces by rw [X.admits.platform]).trans hl
  have Y := vx_rebase X (R' := { frames := R.frames, locals := R.locals, cells := 1, slots := 6 }) (Nat.le_refl _) (Nat.le_refl _) hRcells hRslots
  obtain ⟨s', hA⟩ : ∃ z, z = (T.setVm s.vm).setFrames (.invoking m args :: below) := ⟨_, rfl⟩
  rw [← hA] at Y
  have hvm : s'.vm = s.vm := by rw [hA]; rfl
  have hhp : s'.heap = H := by rw [hA]; exact hT
  have hW0 : s.WarmedH s'.vm := by rw [hvm]; exact State.WarmedH.refl s
  have hat' : ∀ w ∈ vx_at0 own ic cls names, w.before args s' = true := fun w hw => vx_ot_at hW0 hvm.symm (hgood w (List.mem_cons_of_mem _ (List.mem_cons_of_mem _ hw))) (hat w hw)
  have hk' : (Cond.classLink own ik cls).before args s' = true := vx_ot_at hW0 hvm.symm (hgood _ List.mem_cons_self) hk
  have hini' : (Cond.initialized cls).before args s' = true := vx_ot_at hW0 hvm.symm (hgood _ (List.mem_cons_of_mem _ List.mem_cons_self)) hini
  have hU' : vx_Zq Bundle.tN "UNASSIGNED_STACK" Bundle.steD A s' s'.heap := by rw [hhp]; exact vx_Zq.moved hW0.alike (hU.kept hS.2.1)
  have hN' : vx_Zq Bundle.tN "SUPPRESSED_SENTINEL" Bundle.listD A s' s'.heap := by rw [hhp]; exact vx_Zq.moved hW0.alike (hN.kept hS.2.1)
  have h : ∀ w ∈ Bundle.ownAtoms0 own ic cls names, w.before args s' = true := vx_own hat' (vx_isRefq hU'.1) (vx_isRefq hN'.1) hU'.2.word hN'.2.word
  have hown' : s'.vm.findClass own = some m.cls := by rw [hvm]; exact hown
  have hins : (Cond.instantiable cls 6).before args s' = true := h _ (by simp [Bundle.ownAtoms0])
  obtain ⟨vm₁, cX, kX, hfX, hkX, -, -, X₁, st1⟩ := Y.newCold hexec (own := own) (C := cls) (index := ik) (n := 6) hown' hk' hins hini'
    (g := F0 m pc ls rest) rfl (by rw [hb]; exact d0) (Nat.le_refl _) (Nat.le_refl _)
  generalize hT1 : (T.setVm vm₁).pushCell { cls := cX, slots := kX.instanceTypes.map defaultValue, vm := .none } = T1 at X₁ st1
  have hcat : (Value.ref T.heap.size).category = 1 := rfl
  have hcellA : T1.heap[T.heap.size]? = some (freshCell cX kX) := by rw [← hT1]; exact State.heap_pushCell_size _ _
  have d3' : decode c.code (pc + 3) = .ok (.dup, 1) := by rw [hb]; exact d3
  obtain ⟨U, hsteps, hrun, hend, hW, hsame, ce, hce, hO⟩ := X₁.ctorThrow0 hexec htr (own := own) (cls := cls) (names := names) (ic := ic) hown' hcls hnames h (fun x hx => nomatch hx) hfX hkX hcellA (by rw [hhp, hT]; exact Nat.le_refl _)
    (g := { method := m, pc := pc + 4, locals := ls, stack := .ref T.heap.size :: .ref T.heap.size :: rest, locked := none }) rfl hsize rfl rfl (rest := rest) rfl
    (by rw [hb]; exact d4) (by rw [hb]; exact d7) hout hRframes (by simp only [List.map_cons, List.sum_cons, hcat]; omega) hlocks
  obtain ⟨f1, f2⟩ := vx_frame hsame
  rw [hhp] at f1 f2
  have hWs : s.WarmedH U.vm := State.WarmedH.trans hW0 hW
  have hcl : s.vm.findClass cls = some ce.cls := by
    have h9 := hO.cls
    rw [hvm] at h9
    exact h9
  have hall : s.sameButNew ({ U with vm := s.vm } : State) locs mc ms := by
    subst hA
    obtain ⟨e1, e2⟩ := hsame
    rw [State.setFrames_setFrames] at e1
    have h2 : (T.setVm s.vm).sameButNew ({ U with vm := s.vm } : State) [] (0 + 1) (0 + 6) := ⟨e1, e2⟩
    have h3 := X.same.trans h2
    rw [List.append_nil] at h3
    exact h3.mono hc hs
  refine ⟨U, ?_, .threw T.heap.size, hrun, hend, Or.inr ⟨T.heap.size, rfl, cls, ce, locs, hx U hWs.alike f1 (fun q hq => f2 q hq (fun z hz => nomatch hz)), hce, hO.vm, hcl, hWs, hall, hf⟩⟩
  refine st1 _ ?_
  show Steps p.tables e below (T1.setTop { method := m, pc := pc + 3, locals := ls, stack := .ref T.heap.size :: rest, locked := none }) _
  jvm_step X₁.here [X₁.here.top, hexec, d3', Value.category]
  exact hsteps
/-- 'throw new E("text")': new; dup; ldc; invokespecial; athrow -/
theorem vx_throwS {cc : ByteArray} {pc : Nat} (hexec : p.tables.exec = Jvm.exec) (hb : c.code = cc) (hl : l.stackTraces = false) {own cls text : String} {names : List String} {ik is ic mc ms sa : Nat} {A : Nat → Prop}
    (hown : s.vm.findClass own = some m.cls) (hcls : Bundle.fit cls = true) (hnames : ∀ n ∈ names, Bundle.fit n = true)
    (hk : (Cond.classLink own ik cls).before args s = true) (hini : (Cond.initialized cls).before args s = true) (hstr : vk_R own is text sa s) (hat : ∀ w ∈ vx_atS own ic cls names, w.before args s = true)
    (hgood : ∀ w ∈ Cond.classLink own ik cls :: Cond.initialized cls :: vx_atS own ic cls names, vx_ot w = true)
    (hU : vx_Zq Bundle.tN "UNASSIGNED_STACK" Bundle.steD A s s.heap) (hN : vx_Zq Bundle.tN "SUPPRESSED_SENTINEL" Bundle.listD A s s.heap) (hS : va_S A s.heap H locs) (hsize : ls.size = c.maxLocals)
    (d0 : decode cc pc = .ok (.new ik, 3)) (d3 : decode cc (pc + 3) = .ok (.dup, 1)) (d4 : decode cc (pc + 4) = .ok (.ldc is, 2)) (d6 : decode cc (pc + 6) = .ok (.invokespecial ic, 3)) (d9 : decode cc (pc + 9) = .ok (.athrow, 1))
    (hout : ∀ x ∈ c.exceptionTable.toList, covers x (pc + 9) = false)
    (hRframes : names.length + 3 < R.frames) (hRlocals : (rest.map fun v => v.category).sum + (13 * (names.length + 1) + 43) ≤ R.locals) (hRcells : cells + 1 ≤ R.cells) (hRslots : slots + 6 ≤ R.slots) (hlocks : meth.locks = false)
    (hx : ∀ t : State, s.vm.Alike t.vm → H.size ≤ t.heap.size → (∀ q : Nat, q < H.size → t.heap[q]? = H[q]?) → XC cls s t)
    (hf : ∀ z ∈ locs, free z.base) (hc : cells + 1 ≤ mc) (hs : slots + 6 ≤ ms) :
    W p l e R s m args below meth c H locs cells slots (vx_MQ below Qc XC args s mc ms free) (F0 m pc ls rest) := by
  intro T hT X
  have htr : e.platform.stackTraces = false := (show e.platform.stackTraces = l.stackTraces by rw [X.admits.platform]).trans hl
  have Y := vx_rebase X (R' := { frames := R.frames, locals := R.locals, cells := 1, slots := 6 }) (Nat.le_refl _) (Nat.le_refl _) hRcells hRslots
  obtain ⟨s', hA⟩ : ∃ z, z = (T.setVm s.vm).setFrames (.invoking m args :: below) := ⟨_, rfl⟩
  rw [← hA] at Y
  have hvm : s'.vm = s.vm := by rw [hA]; rfl
  have hhp : s'.heap = H := by rw [hA]; exact hT
  have hW0 : s.WarmedH s'.vm := by rw [hvm]; exact State.WarmedH.refl s
  have hat' : ∀ w ∈ vx_atS own ic cls names, w.before args s' = true := fun w hw => vx_ot_at hW0 hvm.symm (hgood w (List.mem_cons_of_mem _ (List.mem_cons_of_mem _ hw))) (hat w hw)
  have hk' : (Cond.classLink own ik cls).before args s' = true := vx_ot_at hW0 hvm.symm (hgood _ List.mem_cons_self) hk
  have hini' : (Cond.initialized cls).before args s' = true := vx_ot_at hW0 hvm.symm (hgood _ (List.mem_cons_of_mem _ List.mem_cons_self)) hini
  have hU' : vx_Zq Bundle.tN "UNASSIGNED_STACK" Bundle.steD A s' s'.heap := by rw [hhp]; exact vx_Zq.moved hW0.alike (hU.kept hS.2.1)
  have hN' : vx_Zq Bundle.tN "SUPPRESSED_SENTINEL" Bundle.listD A s' s'.heap := by rw [hhp]; exact vx_Zq.moved hW0.alike (hN.kept hS.2.1)
  have h : ∀ w ∈ Bundle.ownAtoms own ic cls names, w.before args s' = true := vx_own hat' (vx_isRefq hU'.1) (vx_isRefq hN'.1) hU'.2.word hN'.2.word
  have hown' : s'.vm.findClass own = some m.cls := by rw [hvm]; exact hown
  have hins : (Cond.instantiable cls 6).before args s' = true := h _ (by simp [Bundle.ownAtoms])
  obtain ⟨vm₁, cX, kX, hfX, hkX, -, -, X₁, st1⟩ := Y.newCold hexec (own := own) (C := cls) (index := ik) (n := 6) hown' hk' hins hini'
    (g := F0 m pc ls rest) rfl (by rw [hb]; exact d0) (Nat.le_refl _) (Nat.le_refl _)
  generalize hT1 : (T.setVm vm₁).pushCell { cls := cX, slots := kX.instanceTypes.map defaultValue, vm := .none } = T1 at X₁ st1
  have hcat : (Value.ref T.heap.size).category = 1 := rfl
  have hcellA : T1.heap[T.heap.size]? = some (freshCell cX kX) := by rw [← hT1]; exact State.heap_pushCell_size _ _
  have d3' : decode c.code (pc + 3) = .ok (.dup, 1) := by rw [hb]; exact d3
  have d4' : decode c.code (pc + 4) = .ok (.ldc is, 2) := by rw [hb]; exact d4
  have hstr' : vk_R own is text sa s' := vk_R.warm hW0 hstr
  obtain ⟨U, hsteps, hrun, hend, hW, hsame, ce, hce, hO⟩ := X₁.ctorThrowS hexec htr (own := own) (cls := cls) (names := names) (ic := ic) hown' hcls hnames h (fun x hx => nomatch hx) hfX hkX hcellA (by rw [hhp, hT]; exact Nat.le_refl _) (msg := .ref sa) rfl
    (g := { method := m, pc := pc + 6, locals := ls, stack := .ref sa :: .ref T.heap.size :: .ref T.heap.size :: rest, locked := none }) rfl hsize rfl rfl (rest := rest) rfl
    (by rw [hb]; exact d6) (by rw [hb]; exact d9) hout hRframes (by simp only [List.map_cons, List.sum_cons, hcat]; omega) hlocks
  obtain ⟨f1, f2⟩ := vx_frame hsame
  rw [hhp] at f1 f2
  have hWs : s.WarmedH U.vm := State.WarmedH.trans hW0 hW
  have hcl : s.vm.findClass cls = some ce.cls := by
    have h9 := hO.cls
    rw [hvm] at h9
    exact h9
  have hall : s.sameButNew ({ U with vm := s.vm } : State) locs mc ms := by
    subst hA
    obtain ⟨e1, e2⟩ := hsame
    rw [State.setFrames_setFrames] at e1
    have h2 : (T.setVm s.vm).sameButNew ({ U with vm := s.vm } : State) [] (0 + 1) (0 + 6) := ⟨e1, e2⟩
    have h3 := X.same.trans h2
    rw [List.append_nil] at h3
    exact h3.mono hc hs
  refine ⟨U, ?_, .threw T.heap.size, hrun, hend, Or.inr ⟨T.heap.size, rfl, cls, ce, locs, hx U hWs.alike f1 (fun q hq => f2 q hq (fun z hz => nomatch hz)), hce, hO.vm, hcl, hWs, hall, hf⟩⟩
  refine st1 _ ?_
  show Steps p.tables e below (T1.setTop { method := m, pc := pc + 3, locals := ls, stack := .ref T.heap.size :: rest, locked := none }) _
  jvm_step X₁.here [X₁.here.top, hexec, d3', Value.category]
  exact X₁.ldcString hexec (own := own) (text := text) (index := is) (a := sa) hown' hstr'.1 hstr'.2
    (g := { method := m, pc := pc + 4, locals := ls, stack := .ref T.heap.size :: .ref T.heap.size :: rest, locked := none }) rfl d4' _ hsteps
/-- 'throw new E("text")', the text by a wide index -/
theorem vx_throwSW {cc : ByteArray} {pc : Nat} (hexec : p.tables.exec = Jvm.exec) (hb : c.code = cc) (hl : l.stackTraces = false) {own cls text : String} {names : List String} {ik is ic mc ms sa : Nat} {A : Nat → Prop}
    (hown : s.vm.findClass own = some m.cls) (hcls : Bundle.fit cls = true) (hnames : ∀ n ∈ names, Bundle.fit n = true)
    (hk : (Cond.classLink own ik cls).before args s = true) (hini : (Cond.initialized cls).before args s = true) (hstr : vk_R own is text sa s) (hat : ∀ w ∈ vx_atS own ic cls names, w.before args s = true)
    (hgood : ∀ w ∈ Cond.classLink own ik cls :: Cond.initialized cls :: vx_atS own ic cls names, vx_ot w = true)
    (hU : vx_Zq Bundle.tN "UNASSIGNED_STACK" Bundle.steD A s s.heap) (hN : vx_Zq Bundle.tN "SUPPRESSED_SENTINEL" Bundle.listD A s s.heap) (hS : va_S A s.heap H locs) (hsize : ls.size = c.maxLocals)
    (d0 : decode cc pc = .ok (.new ik, 3)) (d3 : decode cc (pc + 3) = .ok (.dup, 1)) (d4 : decode cc (pc + 4) = .ok (.ldc_w is, 3)) (d7 : decode cc (pc + 7) = .ok (.invokespecial ic, 3)) (d10 : decode cc (pc + 10) = .ok (.athrow, 1))
    (hout : ∀ x ∈ c.exceptionTable.toList, covers x (pc + 10) = false)
    (hRframes : names.length + 3 < R.frames) (hRlocals : (rest.map fun v => v.category).sum + (13 * (names.length + 1) + 43) ≤ R.locals) (hRcells : cells + 1 ≤ R.cells) (hRslots : slots + 6 ≤ R.slots) (hlocks : meth.locks = false)
    (hx : ∀ t : State, s.vm.Alike t.vm → H.size ≤ t.heap.size → (∀ q : Nat, q < H.size → t.heap[q]? = H[q]?) → XC cls s t)
    (hf : ∀ z ∈ locs, free z.base) (hc : cells + 1 ≤ mc) (hs : slots + 6 ≤ ms) :
    W p l e R s m args below meth c H locs cells slots (vx_MQ below Qc XC args s mc ms free) (F0 m pc ls rest) := by
  intro T hT X
  have htr : e.platform.stackTraces = false := (show e.platform.stackTraces = l.stackTraces by rw [X.admits.platform]).trans hl
  have Y := vx_rebase X (R' := { frames := R.frames, locals := R.locals, cells := 1, slots := 6 }) (Nat.le_refl _) (Nat.le_refl _) hRcells hRslots
  obtain ⟨s', hA⟩ : ∃ z, z = (T.setVm s.vm).setFrames (.invoking m args :: below) := ⟨_, rfl⟩
  rw [← hA] at Y
  have hvm : s'.vm = s.vm := by rw [hA]; rfl
  have hhp : s'.heap = H := by rw [hA]; exact hT
  have hW0 : s.WarmedH s'.vm := by rw [hvm]; exact State.WarmedH.refl s
  have hat' : ∀ w ∈ vx_atS own ic cls names, w.before args s' = true := fun w hw => vx_ot_at hW0 hvm.symm (hgood w (List.mem_cons_of_mem _ (List.mem_cons_of_mem _ hw))) (hat w hw)
  have hk' : (Cond.classLink own ik cls).before args s' = true := vx_ot_at hW0 hvm.symm (hgood _ List.mem_cons_self) hk
  have hini' : (Cond.initialized cls).before args s' = true := vx_ot_at hW0 hvm.symm (hgood _ (List.mem_cons_of_mem _ List.mem_cons_self)) hini
  have hU' : vx_Zq Bundle.tN "UNASSIGNED_STACK" Bundle.steD A s' s'.heap := by rw [hhp]; exact vx_Zq.moved hW0.alike (hU.kept hS.2.1)
  have hN' : vx_Zq Bundle.tN "SUPPRESSED_SENTINEL" Bundle.listD A s' s'.heap := by rw [hhp]; exact vx_Zq.moved hW0.alike (hN.kept hS.2.1)
  have h : ∀ w ∈ Bundle.ownAtoms own ic cls names, w.before args s' = true := vx_own hat' (vx_isRefq hU'.1) (vx_isRefq hN'.1) hU'.2.word hN'.2.word
  have hown' : s'.vm.findClass own = some m.cls := by rw [hvm]; exact hown
  have hins : (Cond.instantiable cls 6).before args s' = true := h _ (by simp [Bundle.ownAtoms])
  obtain ⟨vm₁, cX, kX, hfX, hkX, -, -, X₁, st1⟩ := Y.newCold hexec (own := own) (C := cls) (index := ik) (n := 6) hown' hk' hins hini'
    (g := F0 m pc ls rest) rfl (by rw [hb]; exact d0) (Nat.le_refl _) (Nat.le_refl _)
  generalize hT1 : (T.setVm vm₁).pushCell { cls := cX, slots := kX.instanceTypes.map defaultValue, vm := .none } = T1 at X₁ st1
  have hcat : (Value.ref T.heap.size).category = 1 := rfl
  have hcellA : T1.heap[T.heap.size]? = some (freshCell cX kX) := by rw [← hT1]; exact State.heap_pushCell_size _ _
  have d3' : decode c.code (pc + 3) = .ok (.dup, 1) := by rw [hb]; exact d3
  have d4' : decode c.code (pc + 4) = .ok (.ldc_w is, 3) := by rw [hb]; exact d4
  have hstr' : vk_R own is text sa s' := vk_R.warm hW0 hstr
  obtain ⟨U, hsteps, hrun, hend, hW, hsame, ce, hce, hO⟩ := X₁.ctorThrowS hexec htr (own := own) (cls := cls) (names := names) (ic := ic) hown' hcls hnames h (fun x hx => nomatch hx) hfX hkX hcellA (by rw [hhp, hT]; exact Nat.le_refl _) (msg := .ref sa) rfl
    (g := { method := m, pc := pc + 7, locals := ls, stack := .ref sa :: .ref T.heap.size :: .ref T.heap.size :: rest, locked := none }) rfl hsize rfl rfl (rest := rest) rfl
    (by rw [hb]; exact d7) (by rw [hb]; exact d10) hout hRframes (by simp only [List.map_cons, List.sum_cons, hcat]; omega) hlocks
  obtain ⟨f1, f2⟩ := vx_frame hsame
  rw [hhp] at f1 f2
  have hWs : s.WarmedH U.vm := State.WarmedH.trans hW0 hW
  have hcl : s.vm.findClass cls = some ce.cls := by
    have h9 := hO.cls
    rw [hvm] at h9
    exact h9
  have hall : s.sameButNew ({ U with vm := s.vm } : State) locs mc ms := by
    subst hA
    obtain ⟨e1, e2⟩ := hsame
    rw [State.setFrames_setFrames] at e1
    have h2 : (T.setVm s.vm).sameButNew ({ U with vm := s.vm } : State) [] (0 + 1) (0 + 6) := ⟨e1, e2⟩
    have h3 := X.same.trans h2
    rw [List.append_nil] at h3
    exact h3.mono hc hs
  refine ⟨U, ?_, .threw T.heap.size, hrun, hend, Or.inr ⟨T.heap.size, rfl, cls, ce, locs, hx U hWs.alike f1 (fun q hq => f2 q hq (fun z hz => nomatch hz)), hce, hO.vm, hcl, hWs, hall, hf⟩⟩
  refine st1 _ ?_
  show Steps p.tables e below (T1.setTop { method := m, pc := pc + 3, locals := ls, stack := .ref T.heap.size :: rest, locked := none }) _
  jvm_step X₁.here [X₁.here.top, hexec, d3', Value.category]
  exact X₁.ldcStringW hexec (own := own) (text := text) (index := is) (a := sa) hown' hstr'.1 hstr'.2
    (g := { method := m, pc := pc + 4, locals := ls, stack := .ref T.heap.size :: .ref T.heap.size :: rest, locked := none }) rfl d4' _ hsteps
end Ends
section Bodies
variable {l : Launch}
theorem vx_ofW {y : MethodName} {ws ws' : List Cond} {rm : Room} {Pc : Array Value → State → Prop} {Qc : Array Value → State → Outcome → State → Prop} {XC : String → State → State → Prop} {mc ms : Nat} {free : Addr → Prop} {cc : ByteArray} {maxL : Nat} {ret : Option FieldType}
    (hy : plainName y.cls = true) (hw : ws = Cond.code y cc maxL ret :: ws')
    (body : ∀ p e s m args below meth c s₁, BodyLoose p l y (headSpec ws rm) cc maxL ret e s m args below meth c s₁ → c.maxLocals = maxL → (∀ x ∈ c.exceptionTable.toList, False) → Pc args s →
      W p l e (headSpec ws rm).room s m args below meth c s.heap [] 0 0 (vx_MQ below Qc XC args s mc ms free) (entryFrame m args maxL)) : vx_Met l y ws rm Pc Qc XC mc ms free := by
  refine MetFree.of_bodyS (code := cc) (maxLocals := maxL) (ret := ret) hy ?_ ?_
  · intro args s m h hn
    obtain ⟨meth, c, h1, h2, h3, h4, h5, h6, -, -⟩ := Cond.code_spec hn (atoms_spec (ws := ws) h _ (by rw [hw]; exact List.mem_cons_self))
    exact ⟨meth, c, h1, h2, h3, h4, h5, h6⟩
  · intro p e s m args below meth c s₁ B hml hP _
    have hh0 : s₁.heap = s.heap := by rw [B.state]; rfl
    have ht : ∀ x ∈ c.exceptionTable.toList, False := by
      obtain ⟨meth9, c9, h1, h2, -, -, -, -, h7, -⟩ := Cond.code_spec B.named (atoms_spec (ws := ws) B.pre _ (by rw [hw]; exact List.mem_cons_self))
      cases Option.some.inj (h1.symm.trans B.method)
      cases Option.some.inj (h2.symm.trans (Stand.of_body B).code)
      intro x hx
      rw [Array.isEmpty_iff.mp h7] at hx
      cases hx
    obtain ⟨t, a1, o, b1, b2, b3⟩ := body p e s m args below meth c s₁ B hml ht hP s₁ hh0 (Stand.of_body B)
    exact ⟨t, o, a1, b1, b2, b3⟩
/-- the table of a body with handlers -/
theorem vx_table {p : Program} {x y : MethodName} {S : Spec} {cc bytes : ByteArray} {maxL maxL' : Nat} {ret ret' : Option FieldType} {e : Env} {s s₁ : State} {m : MethodId} {args : Array Value} {below : List Frame} {meth : Method} {c : Code} {hh : List (Nat × Nat × Nat × Nat)}
    (B : BodyLoose p l y S cc maxL ret e s m args below meth c s₁) (h : (Cond.codeWith y bytes maxL' ret' hh).before args s = true) : c.exceptionTable.toList = tableOf hh := by
  obtain ⟨m9, meth9, c9, hn9, h1, h2, -, -, h6, -⟩ := Cond.codeWith_spec h
  cases Option.some.inj (hn9.symm.trans B.named)
  cases Option.some.inj (h1.symm.trans B.method)
  cases Option.some.inj (h2.symm.trans (Stand.of_body B).code)
  rw [← h6, table_eq]
end Bodies
end VXA
/-! ===== END ===== -/
/-! ===== BEGIN a static call of a method with an exception table ===== -/
section VXS
variable {p : Program} {l : Launch} {e : Env} {R : Room} {s : State} {m : MethodId} {args : Array Value} {below : List Frame} {meth : Method} {c : Code} {T : State} {H : Heap} {locs : List Loc} {cells slots : Nat}
abbrev vx_CSW (R : Room) (s : State) (args : Array Value) (own : String) (index : Nat) (y : MethodName) (bytes : ByteArray) (maxL : Nat) (ret : Option FieldType) (hh : List (Nat × Nat × Nat × Nat)) (ws : List Cond) (rm : Room) (mc ms n : Nat) : Prop :=
  (rm.cells = mc ∧ rm.slots = ms ∧ rm.frames + 1 ≤ R.frames ∧ 8 + (maxL + 11) + rm.locals ≤ R.locals ∧ (∀ w ∈ ws, ∀ (a' : Array Value) (U : State), s.WarmedH U.vm → w.before a' U = true) ∧ Cond.codeWith y bytes maxL ret hh ∈ ws) ∧
  (Cond.codeWith y bytes maxL ret hh).before args s = true ∧ (Cond.initialized y.cls).before args s = true ∧ (y.cls ≠ "java/lang/invoke/MethodHandle" ∧ y.cls ≠ "java/lang/invoke/VarHandle") ∧
  (∀ sig, parseMethodDescriptor y.desc = some sig → n = sig.parameters.length) ∧ (Cond.methodLink own index y).before args s = true ∧ (Cond.static y).before args s = true
theorem vx_cwSW {own : String} {index maxL mc ms : Nat} {y : MethodName} {bytes : ByteArray} {ret : Option FieldType} {hh : List (Nat × Nat × Nat × Nat)} {Ts ws ws' : List Cond} {rm : Room} (n : Nat) (ht : ∀ w ∈ Ts, w.before args s = true) (hT : GoodIn Ts (va_wsS own index y ws)) (hw : ws = Cond.codeWith y bytes maxL ret hh :: ws') (hrc : rm.cells = mc) (hrs : rm.slots = ms)
    (hd : y.cls ≠ "java/lang/invoke/MethodHandle" ∧ y.cls ≠ "java/lang/invoke/VarHandle" ∧ (parseMethodDescriptor y.desc).map (fun d => d.parameters.length) = some n) (hR : rm.frames + 1 ≤ R.frames ∧ 8 + (maxL + 11) + rm.locals ≤ R.locals) :
    vx_CSW R s args own index y bytes maxL ret hh ws rm mc ms n := by
  have ok : ∀ w ∈ va_wsS own index y ws, w.before args s = true := fun w h => ht w (hT w h).1
  have hG : GoodIn Ts ws := fun w h => hT w (by unfold va_wsS; exact List.mem_append_right _ h)
  have hc : Cond.codeWith y bytes maxL ret hh ∈ ws := by rw [hw]; exact List.mem_cons_self
  refine ⟨⟨hrc, hrs, hR.1, hR.2, pay_in ht hG, hc⟩, ht _ (hG _ hc).1, ok _ (by simp [va_wsS]), ⟨hd.1, hd.2.1⟩, fun sig h => ?_, ok _ (by simp [va_wsS]), ok _ (by simp [va_wsS])⟩
  have h2 := hd.2.2
  rw [h] at h2
  exact (Option.some.inj h2).symm
theorem vx_callSW (X : Stand p l e R s m args below meth c T locs cells slots) (hexec : p.tables.exec = Jvm.exec) {own : String} {index : Nat} {y : MethodName} {bytes : ByteArray} {maxL : Nat} {ret : Option FieldType} {hh : List (Nat × Nat × Nat × Nat)}
    (hown : s.vm.findClass own = some m.cls) (hlink : (Cond.methodLink own index y).before args s = true) (hstat : (Cond.static y).before args s = true) (hinit : (Cond.initialized y.cls).before args s = true)
    (hcode : (Cond.codeWith y bytes maxL ret hh).before args s = true) (hy : y.cls ≠ "java/lang/invoke/MethodHandle" ∧ y.cls ≠ "java/lang/invoke/VarHandle")
    {W9 : Nat} {Pre : Pt → Array Value → Prop} {Post : Pt → Array Value → Option Value → Pt → Prop} (hK : Back l R p e below s args y 3 W9 Pre Post)
    {g : JFrame} (hg : g.method = m) (hsize : g.locals.size = c.maxLocals) {argsL rest : List Value} (hlen : ∀ sig, parseMethodDescriptor y.desc = some sig → argsL.length = sig.parameters.length)
    (hstack : g.stack = argsL.reverse ++ rest) (hW : 2 * g.monitorRoom + (rest.map fun v => v.category).sum ≤ W9) (hdg : decode c.code g.pc = .ok (.invokestatic index, 3))
    (hpre : ∀ vm₁, s.WarmedH vm₁ → Pre ⟨T.setVm vm₁, locs, cells, slots⟩ argsL.toArray) :
    ∃ (v : Option Value) (vm₁ : Vm) (B : Pt), s.WarmedH vm₁ ∧ Stand p l e R s m args below meth c B.U B.locs B.cells B.slots ∧ Post ⟨T.setVm vm₁, locs, cells, slots⟩ argsL.toArray v B ∧
      ∀ target, Steps p.tables e below (B.U.setTop { g with pc := g.pc + 3, stack := v.toList ++ rest }) target → Steps p.tables e below (T.setTop g) target := by
  obtain ⟨mk, methM, cM, hnamed, hmethM, -, -, -, -, -, -, hsigM⟩ := Cond.codeWith_spec hcode
  have hstatic : methM.isStatic = true := Cond.static_spec hnamed hmethM hstat
  obtain ⟨kP, hkP, -⟩ := className_of_methodNamed hnamed
  have hinitP : kP.init = .initialized := Cond.initialized_spec (findClass_of_methodNamed hnamed) hkP hinit
  obtain ⟨vm₁, X₁, hstep₁⟩ := X.invokestatic hexec hown hlink hnamed hmethM hstatic hkP hinitP hy (g := g) hg (argsL := argsL) (rest := rest) (hlen _ hsigM) hstack hdg
  obtain ⟨v, B, X', hpost, hsteps⟩ := hK m meth c ⟨T.setVm vm₁, locs, cells, slots⟩ { g with stack := rest } (.invokestatic index) mk argsL.toArray X₁ hg hsize hdg hW (X₁.named hnamed) (hpre vm₁ X₁.warmed)
  exact ⟨v, vm₁, B, X₁.warmed, X', hpost, fun target h => hstep₁ _ fun acts => by rw [doInvoke_state]; exact hsteps.trans h⟩
theorem vx_runSW {y : MethodName} {bytes cc : ByteArray} {maxL nL mc ms n index : Nat} {ret : Option FieldType} {hh : List (Nat × Nat × Nat × Nat)} {ws : List Cond} {rm : Room} {Pc : Array Value → State → Prop} {Qc : Array Value → State → Outcome → State → Prop} {free : Addr → Prop} {Ts : List Cond} {own : String} {As rest : List Value} {g : JFrame}
    (S : CallFix p m c cc nL s args Ts own) (hM : Met l y ws rm Pc Qc mc ms free) (cw : vx_CSW R s args own index y bytes maxL ret hh ws rm mc ms n) (hp : PreS s H Pc As)
    (hg : g.method = m) (hn : As.length = n) (hsize : g.locals.size = nL) (hstack : g.stack = As.reverse ++ rest) (hW : 2 * g.monitorRoom + (rest.map fun v => v.category).sum ≤ 8) (hdg : decode cc g.pc = .ok (.invokestatic index, 3)) (hf : cells + mc ≤ R.cells ∧ slots + ms ≤ R.slots) :
    va_Run p l e R s m args below meth c H locs cells slots mc ms g rest (Qc As.toArray) (free) := by
  obtain ⟨⟨hrc, hrs, hfr, hlo, hws, hcw⟩, hcode, hini, hy, hlen, hl, hstt⟩ := cw
  have hK : Back l R p e below s args y 3 8 (PreOf R mc ms Pc) (PostOf Qc mc ms free) := va_backW (hh := hh) (bytes := bytes) (maxL := maxL) (ret := ret) hM hp.1 hrc hrs hfr hlo hws hcw (fun a' U hW => word_at hW (Or.inl (by first | rfl | simp [Cond.onTables, Cond.keeps, Cond.steady])) hini)
  obtain ⟨hx, hb, hml, ho, -⟩ := S
  intro T hT X
  obtain ⟨v, vm₁, ⟨U', l2, c2, s2⟩, hW₁, X', ⟨g', mk, t, L, e1, e2, hq, h1, hL, h2, h3⟩, st⟩ := vx_callSW X hx (hh := hh) (bytes := bytes) (maxL := maxL) (ret := ret) ho hl hstt hini hcode hy hK hg (hsize.trans hml.symm) (argsL := As) (rest := rest) (fun sig h => hn.trans (hlen sig h)) hstack hW (by rw [hb]; exact hdg)
    (fun vm₁ hW₁ => ⟨hf.1, hf.2, hp.2 (T.setVm vm₁) hT hW₁⟩)
  dsimp only [Pt.U, Pt.locs, Pt.cells, Pt.slots] at X' e1 e2 h1 h2 h3 st
  subst h1; subst h2; subst h3
  exact ⟨v, (T.setVm vm₁).calling g' mk As.toArray, t, U', L, hT, X', hL, e1, e2, hq, st⟩
/-- not caught here, past rows that name other classes: it goes on to the caller -/
theorem vx_outP {p : Program} {l : Launch} {e : Env} {R : Room} {s : State} {m : MethodId} {args : Array Value} {below : List Frame} {meth : Method} {c : Code} {H : Heap} {locs : List Loc} {cells slots : Nat} {free : Addr → Prop} {ls : Array Slot} {rest : List Value} {Qc : Array Value → State → Outcome → State → Prop} {XC : String → State → State → Prop}
    {pc : Nat} {own E : String} {ce : Cell} {q : Addr} {mc ms : Nat} (hown : s.vm.findClass own = some m.cls) (hlocks : meth.locks = false)
    (hpass : ∀ z ∈ c.exceptionTable.toList, covers z pc = false ∨ (z.catchType ≠ 0 ∧ ∃ nm : String, (Cond.classLink own z.catchType nm).before args s = true ∧ va_Nc E nm s)) (hcell : H[q]? = some ce) (hv : ce.vm = .none) (hcl : s.vm.findClass E = some ce.cls)
    (hx : ∀ t : State, t.heap = H → s.vm.Alike t.vm → XC E s t) (hf : ∀ z ∈ locs, free z.base) (hc : cells ≤ mc) (hs : slots ≤ ms) :
    vx_W p l e R s m args below meth c H locs cells slots (vx_MQ below Qc XC args s mc ms free) (F0 m pc ls rest) q := by
  intro T hT X
  have hpl : e.platform.magicAccessors = ({} : Platform).magicAccessors := by rw [X.admits.platform]
  obtain ⟨vm', hW', X', st⟩ := X.outThrough hlocks q (g := F0 m pc ls rest) rfl rfl rfl (cell := ce) (by rw [hT]; exact hcell) (by rw [hv]; rfl)
    (by obtain ⟨k9, h9, -⟩ := Vm.findClass_spec hcl; exact ⟨k9, h9⟩) (fun z hz => by
      rcases hpass z hz with h | ⟨hz0, nm, hl1, hn1⟩
      · exact Or.inl h
      · obtain ⟨c6, hc6, hcl6⟩ := Cond.classLink_spec hown hl1 e.platform hpl
        obtain ⟨a8, b8, h1, h2, h3⟩ := hn1
        cases Option.some.inj (h1.symm.trans hcl)
        cases Option.some.inj (h2.symm.trans hc6)
        exact Or.inr ⟨hz0, _, hcl6, h3⟩)
  obtain ⟨g₀, hfr⟩ := X'.frames_eq
  have hcell9 : ((T.setVm vm').setFrames (.throwing q :: below)).heap[q]? = some ce := by
    show T.heap[q]? = some ce
    rw [hT]; exact hcell
  have hend : Ended ((T.setVm vm').setFrames (.throwing q :: below)) below (.threw q) := State.frames_setFrames _ (State.cur_lt_of_frames hfr)
  refine ⟨(T.setVm vm').setFrames (.throwing q :: below), ?_, .threw q, X'.here.running, hend, Or.inr ⟨q, rfl, E, ce, locs, hx _ hT (X'.ends _).1.alike, hcell9, hv, hcl, (X'.ends _).1, (X'.ends _).2.mono hc hs, hf⟩⟩
  rw [X.pushThrowing_eq]
  exact st
/-- a thing of a world lies in the heap -/
theorem vx_lt {D : va_G} {cl : List vw_C} {ws : va_W} {H1 : Heap} (h : va_P D cl ws H1) {k : Nat} {q : Nat × va_E} (hk : ws[k]? = some q) : q.1 < H1.size := (h k q hk).lt
end VXS
/-! ===== END ===== -/
/-! ===== BEGIN methods with a table of their own: called by a name, returning or throwing ===== -/
section VXH
/-! vx_backW, vx_callVX, vx_callSX, vx_callVW, vx_runVW, vx_runVX, vx_runSX, vx_ofWH follow the same proofs as their sisters above (Free/Laws.lean, Shelf42/LK1.lean); vx_outP calls Shelf42/NT130.lean (outThrough). -/
section
variable {l : Launch} {R : Room} {p : Program} {e : Env} {below : List Frame} {s : State} {sargs : Array Value} {y : MethodName} {len W9 : Nat}
theorem vx_backW {ws : List Cond} {rm : Room} {Pc : Array Value → State → Prop} {Qc : Array Value → State → Outcome → State → Prop} {XC : String → State → State → Prop} {mc ms : Nat} {free : Addr → Prop} {bytes : ByteArray} {maxL : Nat} {ret : Option FieldType} {hh : List (Nat × Nat × Nat × Nat)}
    (hM : vx_Met l y ws rm Pc Qc XC mc ms free) (hblind : FrameBlind Pc) (hrc : rm.cells = mc) (hrs : rm.slots = ms)
    (hframes : rm.frames + 1 ≤ R.frames) (hlocals : W9 + (maxL + 11) + rm.locals ≤ R.locals)
    (hws : ∀ w ∈ ws, ∀ a' U, s.WarmedH U.vm → w.before a' U = true) (hcode : Cond.codeWith y bytes maxL ret hh ∈ ws) (hinit : ∀ a' U, s.WarmedH U.vm → (Cond.initialized y.cls).before a' U = true) :
    vx_Back l R p e below s sargs y len W9 (PreOf R mc ms Pc) (PostOf Qc mc ms free) (vx_Post XC mc ms free) := by
  intro m meth c A g ig mk a X hg hsize hdg hW hn hp
  have h1 : (headSpec ws rm).pre.before a A.U = true := atoms_intro fun w hw => hws w hw _ _ X.warmed
  have h2 : (Cond.codeWith y bytes maxL ret hh).before a A.U = true := hws _ hcode _ _ X.warmed
  have h3 : (Cond.initialized y.cls).before a A.U = true := hinit _ _ X.warmed
  have h4 : A.cells + (headSpec ws rm).room.cells ≤ R.cells := by rw [show (headSpec ws rm).room.cells = mc from hrc]; exact hp.1
  have h5 : A.slots + (headSpec ws rm).room.slots ≤ R.slots := by rw [show (headSpec ws rm).room.slots = ms from hrs]; exact hp.2.1
  have hPc : Pc a (A.U.calling g mk a) := hblind _ _ _ _ hp.2.2
  obtain ⟨U, Ls, c0, s0⟩ := A
  dsimp only [Pt.U, Pt.locs, Pt.cells, Pt.slots] at h1 h2 h3 h4 h5 X hn hPc ⊢
  obtain ⟨m9, methY, cY, hn9, hmY, hcY, -, hlY, -⟩ := Cond.codeWith_spec h2
  cases Option.some.inj (hn9.symm.trans hn)
  obtain ⟨kY, hkY, -⟩ := className_of_methodNamed hn
  have hinitY : kY.init = .initialized := Cond.initialized_spec (findClass_of_methodNamed hn) hkY h3
  have h : At U g.method c below := by rw [hg]; exact X.here
  have hlocals9 : W9 + (maxL + 11) + (headSpec ws rm).room.locals ≤ R.locals := hlocals
  have happ : (headSpec ws rm).appliesLoose y e.platform (U.calling g mk a) = true :=
    Spec.appliesLoose_calling (g := g) h hdg hn hkY hinitY
      (X.room_calling (g := g) (R' := (headSpec ws rm).room) hsize hmY hcY hframes (by rw [hlY]; omega) h4 h5) h1
  obtain ⟨mid, hmid⟩ := h.above
  have hfr : (U.setTop g).frames = (.java g :: mid) ++ below := by rw [State.frames_setTop' g h.top, hmid]; rfl
  obtain ⟨o, s₂, hsteps, -, hend, hq⟩ := Steps.callFree hM p X.admits X.cas X.clock (acts := []) hfr happ hPc trivial
  have hq' : vx_Q Qc XC mc ms free a (U.calling g mk a) o s₂ := hq
  rw [State.frames_setTop' g h.top] at hend
  obtain ⟨g₀, hg0⟩ := Option.isSome_iff_exists.mp h.top
  obtain ⟨r, hr⟩ := State.topJava?_eq_some.mp hg0
  have hr' : (({ U with heap := s₂.heap, slotsUsed := s₂.slotsUsed } : State).setVm s₂.vm).frames = .java g₀ :: r := hr
  rcases hq' with ⟨hqc, L, hfe, hL⟩ | ⟨q, rfl, E, ce, L, hx, hce, hcv, hcl, hW₂, hsm, hL⟩
  · obtain ⟨⟨v, rfl⟩, hW₂, e2, q2, q3, q4, q5, q6⟩ := id hfe
    have e3 : s₂ = ({ (U.calling g mk a).setFrames s₂.frames with heap := s₂.heap, slotsUsed := s₂.slotsUsed } : State).setVm s₂.vm := by
      have : s₂ = ({ s₂ with vm := (U.calling g mk a).vm } : State).setVm s₂.vm := rfl
      rw [e2] at this
      exact this
    obtain ⟨c₂, i₂, len₂, hc₂, hd₂, hf₂⟩ := hend
    have hW' : U.WarmedH s₂.vm := hW₂
    have hcc : c₂ = c := by
      have h1 : s₂.code? g.method = U.code? g.method := by
        rw [State.code?_eq, State.code?_eq, hW'.alike.method?]
      exact Option.some.inj (hc₂.symm.trans (h1.trans h.code))
    subst hcc
    have hlen : len₂ = len := by rw [hdg] at hd₂; cases hd₂; rfl
    subst hlen
    have hs₂ : s₂ = (({ U with heap := s₂.heap, slotsUsed := s₂.slotsUsed } : State).setVm s₂.vm).setTop { g with pc := g.pc + len₂, stack := v.toList ++ g.stack } := by
      refine e3.trans ?_
      rw [hf₂, State.calling_eq h.top, State.setFrames_setFrames, State.setTop_of_frames _ hr', hr]
      rfl
    have hsame : U.sameButNew ({ U with heap := s₂.heap, slotsUsed := s₂.slotsUsed } : State) L mc ms := by
      refine ⟨?_, q2, q3, q4, q5, q6⟩
      obtain ⟨t, ht, -⟩ := State.frames_cons hr
      show ({ U with heap := s₂.heap, slotsUsed := s₂.slotsUsed } : State) = { U.setFrames U.frames with heap := s₂.heap, slotsUsed := s₂.slotsUsed }
      rw [State.setFrames_self ht]
    subst hg
    refine Or.inl ⟨v, ⟨(({ U with heap := s₂.heap, slotsUsed := s₂.slotsUsed } : State).setVm s₂.vm), Ls ++ L, c0 + mc, s0 + ms⟩,
      ⟨X.admits, X.cas, X.clock, X.frames, X.room, X.hears, X.method, X.code, (X.here.setHeapUsed s₂.heap s₂.slotsUsed).setVm hW'.alike, X.tail, State.WarmedH.trans X.warmed hW', X.limits, X.bytes, X.same.trans (hsame.setVm s.vm)⟩,
      ⟨g, mk, s₂, L, rfl, rfl, hqc, rfl, hL, rfl, rfl⟩, ?_⟩
    show Steps p.tables e below _ ((({ U with heap := s₂.heap, slotsUsed := s₂.slotsUsed } : State).setVm s₂.vm).setTop { g with pc := g.pc + len₂, stack := v.toList ++ g.stack })
    rw [← hs₂]
    exact hsteps
  · obtain ⟨e2, q2, q3, q4, q5, q6⟩ := id hsm
    have e3 : s₂ = ({ (U.calling g mk a).setFrames s₂.frames with heap := s₂.heap, slotsUsed := s₂.slotsUsed } : State).setVm s₂.vm := by
      have : s₂ = ({ s₂ with vm := (U.calling g mk a).vm } : State).setVm s₂.vm := rfl
      rw [e2] at this
      exact this
    have hf₂ : s₂.frames = .throwing q :: .java g :: U.frames.tail := hend
    have hW' : U.WarmedH s₂.vm := hW₂
    have hs₂ : s₂ = ((({ U with heap := s₂.heap, slotsUsed := s₂.slotsUsed } : State).setVm s₂.vm).setTop g).pushFrame (.throwing q) := by
      refine e3.trans ?_
      rw [hf₂, State.calling_eq h.top, State.setFrames_setFrames, State.pushFrame, State.frames_setTop _ hr', State.setTop_of_frames _ hr', State.setFrames_setFrames, hr]
      rfl
    have hsame : U.sameButNew ({ U with heap := s₂.heap, slotsUsed := s₂.slotsUsed } : State) L mc ms := by
      refine ⟨?_, q2, q3, q4, q5, q6⟩
      obtain ⟨t, ht, -⟩ := State.frames_cons hr
      show ({ U with heap := s₂.heap, slotsUsed := s₂.slotsUsed } : State) = { U.setFrames U.frames with heap := s₂.heap, slotsUsed := s₂.slotsUsed }
      rw [State.setFrames_self ht]
    subst hg
    refine Or.inr ⟨q, ⟨(({ U with heap := s₂.heap, slotsUsed := s₂.slotsUsed } : State).setVm s₂.vm), Ls ++ L, c0 + mc, s0 + ms⟩,
      ⟨X.admits, X.cas, X.clock, X.frames, X.room, X.hears, X.method, X.code, (X.here.setHeapUsed s₂.heap s₂.slotsUsed).setVm hW'.alike, X.tail, State.WarmedH.trans X.warmed hW', X.limits, X.bytes, X.same.trans (hsame.setVm s.vm)⟩,
      ⟨g, mk, s₂, L, E, ce, rfl, rfl, hx, hce, hcv, hcl, rfl, hL, rfl, rfl⟩, ?_⟩
    show Steps p.tables e below _ (((({ U with heap := s₂.heap, slotsUsed := s₂.slotsUsed } : State).setVm s₂.vm).setTop g).pushFrame (.throwing q))
    rw [← hs₂]
    exact hsteps
end
variable {p : Program} {l : Launch} {e : Env} {R : Room} {s : State} {m : MethodId} {args : Array Value} {below : List Frame} {meth : Method} {c : Code} {T : State} {H : Heap} {locs : List Loc} {cells slots : Nat}
theorem vx_callVX (X : Stand p l e R s m args below meth c T locs cells slots) (hexec : p.tables.exec = Jvm.exec) {own C : String} {index : Nat} {y : MethodName} {bytes : ByteArray} {maxL : Nat} {ret : Option FieldType} {hh : List (Nat × Nat × Nat × Nat)}
    (hown : s.vm.findClass own = some m.cls) (hlink : (Cond.methodLink own index y).before args s = true) (hinst : (Cond.instanceMethod y).before args s = true) (hsel : (Cond.selects C y y).before args s = true)
    (hcode : (Cond.codeWith y bytes maxL ret hh).before args s = true) (hy : y.cls ≠ "java/lang/invoke/MethodHandle" ∧ y.cls ≠ "java/lang/invoke/VarHandle")
    {W9 : Nat} {Pre : Pt → Array Value → Prop} {Post : Pt → Array Value → Option Value → Pt → Prop} {PostX : Pt → Array Value → Addr → Pt → Prop} (hK : vx_Back l R p e below s args y 3 W9 Pre Post PostX)
    {b : Addr} {cellB : Cell} (hcell : T.heap[b]? = some cellB) (hobj : cellB.vm.isStatics = false) (hcls : s.vm.findClass C = some cellB.cls)
    {g : JFrame} (hg : g.method = m) (hsize : g.locals.size = c.maxLocals) {argsL rest : List Value} (hlen : ∀ sig, parseMethodDescriptor y.desc = some sig → argsL.length = sig.parameters.length)
    (hstack : g.stack = argsL.reverse ++ .ref b :: rest) (hW : 2 * g.monitorRoom + (rest.map fun v => v.category).sum ≤ W9) (hdg : decode c.code g.pc = .ok (.invokevirtual index, 3))
    (hpre : ∀ vm₁, s.WarmedH vm₁ → Pre ⟨T.setVm vm₁, locs, cells, slots⟩ (Value.ref b :: argsL).toArray) :
    (∃ (v : Option Value) (vm₁ : Vm) (B : Pt), s.WarmedH vm₁ ∧ Stand p l e R s m args below meth c B.U B.locs B.cells B.slots ∧ Post ⟨T.setVm vm₁, locs, cells, slots⟩ (Value.ref b :: argsL).toArray v B ∧
      ∀ target, Steps p.tables e below (B.U.setTop { g with pc := g.pc + 3, stack := v.toList ++ rest }) target → Steps p.tables e below (T.setTop g) target) ∨
    (∃ (q : Addr) (vm₁ : Vm) (B : Pt), s.WarmedH vm₁ ∧ Stand p l e R s m args below meth c B.U B.locs B.cells B.slots ∧ PostX ⟨T.setVm vm₁, locs, cells, slots⟩ (Value.ref b :: argsL).toArray q B ∧
      Steps p.tables e below (T.setTop g) ((B.U.setTop { g with stack := rest }).pushFrame (.throwing q))) := by
  obtain ⟨mk, methM, hnamed, hmethM, hstM, habM⟩ := Cond.instanceMethod_spec hinst
  obtain ⟨m8, methM', cM, hn8, hmethM', -, -, -, -, -, -, hsigM⟩ := Cond.codeWith_spec hcode
  cases Option.some.inj (hn8.symm.trans hnamed)
  cases hmethM.symm.trans hmethM'
  obtain ⟨c2, r2, m2, q1, q2, q3, q4, kP, hkP, hkPi⟩ := Cond.selects_spec hsel
  cases hcls.symm.trans q1
  cases (State.methodFound?_of_named hnamed hy).symm.trans q2
  cases hnamed.symm.trans q3
  have hselP : selectMethod e.platform s.vm cellB.cls mk = .method mk := by rw [Launch.admits_selectMethod X.admits]; exact q4
  obtain ⟨vm₁, X₁, hstep₁⟩ := X.invokevirtual hexec hown hlink hnamed hmethM hstM hkP hkPi hy (a := b) (cell := cellB) hcell
    (fun z h => by rw [h] at hobj; cases hobj) hselP hmethM habM hkP hkPi (g := g) hg (argsL := argsL) (rest := rest) (hlen _ hsigM) hstack hdg
  rcases hK m meth c ⟨T.setVm vm₁, locs, cells, slots⟩ { g with stack := rest } (.invokevirtual index) mk (Value.ref b :: argsL).toArray X₁ hg hsize hdg hW (X₁.named hnamed) (hpre vm₁ X₁.warmed) with ⟨v, B, X', hpost, hsteps⟩ | ⟨q, B, X', hpost, hsteps⟩
  · exact Or.inl ⟨v, vm₁, B, X₁.warmed, X', hpost, fun target h => hstep₁ _ fun acts => by rw [doInvoke_state]; exact hsteps.trans h⟩
  · exact Or.inr ⟨q, vm₁, B, X₁.warmed, X', hpost, hstep₁ _ fun acts => by rw [doInvoke_state]; exact hsteps⟩
theorem vx_callSX (X : Stand p l e R s m args below meth c T locs cells slots) (hexec : p.tables.exec = Jvm.exec) {own : String} {index : Nat} {y : MethodName} {bytes : ByteArray} {maxL : Nat} {ret : Option FieldType} {hh : List (Nat × Nat × Nat × Nat)}
    (hown : s.vm.findClass own = some m.cls) (hlink : (Cond.methodLink own index y).before args s = true) (hstat : (Cond.static y).before args s = true) (hinit : (Cond.initialized y.cls).before args s = true)
    (hcode : (Cond.codeWith y bytes maxL ret hh).before args s = true) (hy : y.cls ≠ "java/lang/invoke/MethodHandle" ∧ y.cls ≠ "java/lang/invoke/VarHandle")
    {W9 : Nat} {Pre : Pt → Array Value → Prop} {Post : Pt → Array Value → Option Value → Pt → Prop} {PostX : Pt → Array Value → Addr → Pt → Prop} (hK : vx_Back l R p e below s args y 3 W9 Pre Post PostX)
    {g : JFrame} (hg : g.method = m) (hsize : g.locals.size = c.maxLocals) {argsL rest : List Value} (hlen : ∀ sig, parseMethodDescriptor y.desc = some sig → argsL.length = sig.parameters.length)
    (hstack : g.stack = argsL.reverse ++ rest) (hW : 2 * g.monitorRoom + (rest.map fun v => v.category).sum ≤ W9) (hdg : decode c.code g.pc = .ok (.invokestatic index, 3))
    (hpre : ∀ vm₁, s.WarmedH vm₁ → Pre ⟨T.setVm vm₁, locs, cells, slots⟩ argsL.toArray) :
    (∃ (v : Option Value) (vm₁ : Vm) (B : Pt), s.WarmedH vm₁ ∧ Stand p l e R s m args below meth c B.U B.locs B.cells B.slots ∧ Post ⟨T.setVm vm₁, locs, cells, slots⟩ argsL.toArray v B ∧
      ∀ target, Steps p.tables e below (B.U.setTop { g with pc := g.pc + 3, stack := v.toList ++ rest }) target → Steps p.tables e below (T.setTop g) target) ∨
    (∃ (q : Addr) (vm₁ : Vm) (B : Pt), s.WarmedH vm₁ ∧ Stand p l e R s m args below meth c B.U B.locs B.cells B.slots ∧ PostX ⟨T.setVm vm₁, locs, cells, slots⟩ argsL.toArray q B ∧
      Steps p.tables e below (T.setTop g) ((B.U.setTop { g with stack := rest }).pushFrame (.throwing q))) := by
  obtain ⟨mk, methM, cM, hnamed, hmethM, -, -, -, -, -, -, hsigM⟩ := Cond.codeWith_spec hcode
  have hstatic : methM.isStatic = true := Cond.static_spec hnamed hmethM hstat
  obtain ⟨kP, hkP, -⟩ := className_of_methodNamed hnamed
  have hinitP : kP.init = .initialized := Cond.initialized_spec (findClass_of_methodNamed hnamed) hkP hinit
  obtain ⟨vm₁, X₁, hstep₁⟩ := X.invokestatic hexec hown hlink hnamed hmethM hstatic hkP hinitP hy (g := g) hg (argsL := argsL) (rest := rest) (hlen _ hsigM) hstack hdg
  rcases hK m meth c ⟨T.setVm vm₁, locs, cells, slots⟩ { g with stack := rest } (.invokestatic index) mk argsL.toArray X₁ hg hsize hdg hW (X₁.named hnamed) (hpre vm₁ X₁.warmed) with ⟨v, B, X', hpost, hsteps⟩ | ⟨q, B, X', hpost, hsteps⟩
  · exact Or.inl ⟨v, vm₁, B, X₁.warmed, X', hpost, fun target h => hstep₁ _ fun acts => by rw [doInvoke_state]; exact hsteps.trans h⟩
  · exact Or.inr ⟨q, vm₁, B, X₁.warmed, X', hpost, hstep₁ _ fun acts => by rw [doInvoke_state]; exact hsteps⟩
theorem vx_callVW (X : Stand p l e R s m args below meth c T locs cells slots) (hexec : p.tables.exec = Jvm.exec) {own C : String} {index : Nat} {y : MethodName} {bytes : ByteArray} {maxL : Nat} {ret : Option FieldType} {hh : List (Nat × Nat × Nat × Nat)}
    (hown : s.vm.findClass own = some m.cls) (hlink : (Cond.methodLink own index y).before args s = true) (hinst : (Cond.instanceMethod y).before args s = true) (hsel : (Cond.selects C y y).before args s = true)
    (hcode : (Cond.codeWith y bytes maxL ret hh).before args s = true) (hy : y.cls ≠ "java/lang/invoke/MethodHandle" ∧ y.cls ≠ "java/lang/invoke/VarHandle")
    {W9 : Nat} {Pre : Pt → Array Value → Prop} {Post : Pt → Array Value → Option Value → Pt → Prop} (hK : Back l R p e below s args y 3 W9 Pre Post)
    {b : Addr} {cellB : Cell} (hcell : T.heap[b]? = some cellB) (hobj : cellB.vm.isStatics = false) (hcls : s.vm.findClass C = some cellB.cls)
    {g : JFrame} (hg : g.method = m) (hsize : g.locals.size = c.maxLocals) {argsL rest : List Value} (hlen : ∀ sig, parseMethodDescriptor y.desc = some sig → argsL.length = sig.parameters.length)
    (hstack : g.stack = argsL.reverse ++ .ref b :: rest) (hW : 2 * g.monitorRoom + (rest.map fun v => v.category).sum ≤ W9) (hdg : decode c.code g.pc = .ok (.invokevirtual index, 3))
    (hpre : ∀ vm₁, s.WarmedH vm₁ → Pre ⟨T.setVm vm₁, locs, cells, slots⟩ (Value.ref b :: argsL).toArray) :
    ∃ (v : Option Value) (vm₁ : Vm) (B : Pt), s.WarmedH vm₁ ∧ Stand p l e R s m args below meth c B.U B.locs B.cells B.slots ∧ Post ⟨T.setVm vm₁, locs, cells, slots⟩ (Value.ref b :: argsL).toArray v B ∧
      ∀ target, Steps p.tables e below (B.U.setTop { g with pc := g.pc + 3, stack := v.toList ++ rest }) target → Steps p.tables e below (T.setTop g) target := by
  obtain ⟨mk, methM, hnamed, hmethM, hstM, habM⟩ := Cond.instanceMethod_spec hinst
  obtain ⟨m8, methM', cM, hn8, hmethM', -, -, -, -, -, -, hsigM⟩ := Cond.codeWith_spec hcode
  cases Option.some.inj (hn8.symm.trans hnamed)
  cases hmethM.symm.trans hmethM'
  obtain ⟨c2, r2, m2, q1, q2, q3, q4, kP, hkP, hkPi⟩ := Cond.selects_spec hsel
  cases hcls.symm.trans q1
  cases (State.methodFound?_of_named hnamed hy).symm.trans q2
  cases hnamed.symm.trans q3
  have hselP : selectMethod e.platform s.vm cellB.cls mk = .method mk := by rw [Launch.admits_selectMethod X.admits]; exact q4
  obtain ⟨vm₁, X₁, hstep₁⟩ := X.invokevirtual hexec hown hlink hnamed hmethM hstM hkP hkPi hy (a := b) (cell := cellB) hcell
    (fun z h => by rw [h] at hobj; cases hobj) hselP hmethM habM hkP hkPi (g := g) hg (argsL := argsL) (rest := rest) (hlen _ hsigM) hstack hdg
  obtain ⟨v, B, X', hpost, hsteps⟩ := hK m meth c ⟨T.setVm vm₁, locs, cells, slots⟩ { g with stack := rest } (.invokevirtual index) mk (Value.ref b :: argsL).toArray X₁ hg hsize hdg hW (X₁.named hnamed) (hpre vm₁ X₁.warmed)
  exact ⟨v, vm₁, B, X₁.warmed, X', hpost, fun target h => hstep₁ _ fun acts => by rw [doInvoke_state]; exact hsteps.trans h⟩
abbrev vx_CVW (R : Room) (s : State) (args : Array Value) (own C : String) (index : Nat) (y : MethodName) (bytes : ByteArray) (maxL : Nat) (ret : Option FieldType) (hh : List (Nat × Nat × Nat × Nat)) (ws : List Cond) (rm : Room) (mc ms n : Nat) : Prop :=
  (rm.cells = mc ∧ rm.slots = ms ∧ rm.frames + 1 ≤ R.frames ∧ 8 + (maxL + 11) + rm.locals ≤ R.locals ∧ (∀ w ∈ ws, ∀ (a' : Array Value) (U : State), s.WarmedH U.vm → w.before a' U = true) ∧ Cond.codeWith y bytes maxL ret hh ∈ ws) ∧
  (Cond.codeWith y bytes maxL ret hh).before args s = true ∧ (Cond.initialized y.cls).before args s = true ∧ (y.cls ≠ "java/lang/invoke/MethodHandle" ∧ y.cls ≠ "java/lang/invoke/VarHandle") ∧
  (∀ sig, parseMethodDescriptor y.desc = some sig → n = sig.parameters.length) ∧ (Cond.methodLink own index y).before args s = true ∧ (Cond.instanceMethod y).before args s = true ∧ (Cond.selects C y y).before args s = true
theorem vx_cwVW {own C : String} {index maxL mc ms : Nat} {y : MethodName} {bytes : ByteArray} {ret : Option FieldType} {hh : List (Nat × Nat × Nat × Nat)} {Ts ws ws' : List Cond} {rm : Room} (n : Nat) (ht : ∀ w ∈ Ts, w.before args s = true) (hT : GoodIn Ts (wsV own index C y ws)) (hw : ws = Cond.codeWith y bytes maxL ret hh :: ws') (hrc : rm.cells = mc) (hrs : rm.slots = ms)
    (hd : y.cls = C ∧ y.cls ≠ "java/lang/invoke/MethodHandle" ∧ y.cls ≠ "java/lang/invoke/VarHandle" ∧ (parseMethodDescriptor y.desc).map (fun d => d.parameters.length) = some n) (hR : rm.frames + 1 ≤ R.frames ∧ 8 + (maxL + 11) + rm.locals ≤ R.locals) :
    vx_CVW R s args own C index y bytes maxL ret hh ws rm mc ms n := by
  obtain ⟨hC, hd⟩ := hd
  subst hC
  have ok : ∀ w ∈ wsV own index y.cls y ws, w.before args s = true := fun w h => ht w (hT w h).1
  have hG : GoodIn Ts ws := fun w h => hT w (by unfold wsV; exact List.mem_append_right _ h)
  have hc : Cond.codeWith y bytes maxL ret hh ∈ ws := by rw [hw]; exact List.mem_cons_self
  refine ⟨⟨hrc, hrs, hR.1, hR.2, pay_in ht hG, hc⟩, ht _ (hG _ hc).1, ok _ (by simp [wsV]), ⟨hd.1, hd.2.1⟩, fun sig h => ?_, ok _ (by simp [wsV]), ok _ (by simp [wsV]), ok _ (by simp [wsV])⟩
  have h2 := hd.2.2
  rw [h] at h2
  exact (Option.some.inj h2).symm
theorem vx_runVW {y : MethodName} {bytes cc : ByteArray} {maxL nL mc ms n index : Nat} {ret : Option FieldType} {hh : List (Nat × Nat × Nat × Nat)} {ws : List Cond} {rm : Room} {Pc : Array Value → State → Prop} {Qc : Array Value → State → Outcome → State → Prop} {free : Addr → Prop} {Ts : List Cond} {own C : String} {b : Addr} {As rest : List Value} {g : JFrame}
    (S : CallFix p m c cc nL s args Ts own) (hM : Met l y ws rm Pc Qc mc ms free) (cw : vx_CVW R s args own C index y bytes maxL ret hh ws rm mc ms n) (hp : PreV s H C b Pc As)
    (hg : g.method = m) (hn : As.length = n) (hsize : g.locals.size = nL) (hstack : g.stack = As.reverse ++ .ref b :: rest) (hW : 2 * g.monitorRoom + (rest.map fun v => v.category).sum ≤ 8) (hdg : decode cc g.pc = .ok (.invokevirtual index, 3)) (hf : cells + mc ≤ R.cells ∧ slots + ms ≤ R.slots) :
    va_Run p l e R s m args below meth c H locs cells slots mc ms g rest (Qc (Value.ref b :: As).toArray) free := by
  obtain ⟨⟨hrc, hrs, hfr, hlo, hws, hcw⟩, hcode, hini, hy, hlen, hl, hin, hse⟩ := cw
  have hK : Back l R p e below s args y 3 8 (PreOf R mc ms Pc) (PostOf Qc mc ms free) := va_backW (hh := hh) (bytes := bytes) (maxL := maxL) (ret := ret) hM hp.1 hrc hrs hfr hlo hws hcw (fun a' U hW => word_at hW (Or.inl (by first | rfl | simp [Cond.onTables, Cond.keeps, Cond.steady])) hini)
  obtain ⟨hx, hb, hml, ho, -⟩ := S
  obtain ⟨-, ⟨cellB, hcB, hoB, hclB⟩, hPc⟩ := hp
  intro T hT X
  obtain ⟨v, vm₁, ⟨U', l2, c2, s2⟩, hW₁, X', ⟨g', mk, t, L, e1, e2, hq, h1, hL, h2, h3⟩, st⟩ := vx_callVW X hx (C := C) (hh := hh) (bytes := bytes) (maxL := maxL) (ret := ret) ho hl hin hse hcode hy hK (by rw [hT]; exact hcB) hoB hclB hg (hsize.trans hml.symm) (argsL := As) (rest := rest) (fun sig h => hn.trans (hlen sig h)) hstack hW (by rw [hb]; exact hdg)
    (fun vm₁ hW₁ => ⟨hf.1, hf.2, hPc (T.setVm vm₁) hT hW₁⟩)
  dsimp only [Pt.U, Pt.locs, Pt.cells, Pt.slots] at X' e1 e2 h1 h2 h3 st
  subst h1; subst h2; subst h3
  exact ⟨v, (T.setVm vm₁).calling g' mk (Value.ref b :: As).toArray, t, U', L, hT, X', hL, e1, e2, hq, st⟩
section
variable {y : MethodName} {bytes cc : ByteArray} {maxL nL mc ms n index : Nat} {ret : Option FieldType} {ws : List Cond} {rm : Room} {Pc : Array Value → State → Prop} {Qc : Array Value → State → Outcome → State → Prop} {XC : String → State → State → Prop} {free : Addr → Prop} {Ts : List Cond} {own C : String} {b : Addr} {As rest : List Value} {g : JFrame}
theorem vx_runVX {hh : List (Nat × Nat × Nat × Nat)} (S : CallFix p m c cc nL s args Ts own) (hM : vx_Met l y ws rm Pc Qc XC mc ms free) (cw : vx_CVW R s args own C index y bytes maxL ret hh ws rm mc ms n) (hp : PreV s H C b Pc As)
    (hg : g.method = m) (hn : As.length = n) (hsize : g.locals.size = nL) (hstack : g.stack = As.reverse ++ .ref b :: rest) (hW : 2 * g.monitorRoom + (rest.map fun v => v.category).sum ≤ 8) (hdg : decode cc g.pc = .ok (.invokevirtual index, 3)) (hf : cells + mc ≤ R.cells ∧ slots + ms ≤ R.slots) :
    vx_Run p l e R s m args below meth c H locs cells slots mc ms g rest (Qc (Value.ref b :: As).toArray) XC free := by
  obtain ⟨⟨hrc, hrs, hfr, hlo, hws, hcw⟩, hcode, hini, hy, hlen, hl, hin, hse⟩ := cw
  have hK : vx_Back l R p e below s args y 3 8 (PreOf R mc ms Pc) (PostOf Qc mc ms free) (vx_Post XC mc ms free) := vx_backW (hh := hh) (bytes := bytes) (maxL := maxL) (ret := ret) hM hp.1 hrc hrs hfr hlo hws hcw (fun a' U hW => word_at hW (Or.inl (by first | rfl | simp [Cond.onTables, Cond.keeps, Cond.steady])) hini)
  obtain ⟨hx, hb, hml, ho, -⟩ := S
  obtain ⟨-, ⟨cellB, hcB, hoB, hclB⟩, hPc⟩ := hp
  intro T hT X
  rcases vx_callVX X hx (C := C) (hh := hh) (bytes := bytes) (maxL := maxL) (ret := ret) ho hl hin hse hcode hy hK (by rw [hT]; exact hcB) hoB hclB hg (hsize.trans hml.symm) (argsL := As) (rest := rest) (fun sig h => hn.trans (hlen sig h)) hstack hW (by rw [hb]; exact hdg)
    (fun vm₁ hW₁ => ⟨hf.1, hf.2, hPc (T.setVm vm₁) hT hW₁⟩) with ⟨v, vm₁, ⟨U', l2, c2, s2⟩, hW₁, X', ⟨g', mk, t, L, e1, e2, hq, h1, hL, h2, h3⟩, st⟩ | ⟨q, vm₁, ⟨U', l2, c2, s2⟩, hW₁, X', ⟨g', mk, t, L, E, ce, e1, e2, hq, hce, hcv, hcl, h1, hL, h2, h3⟩, st⟩
  · dsimp only [Pt.U, Pt.locs, Pt.cells, Pt.slots] at X' e1 e2 h1 h2 h3 st
    subst h1; subst h2; subst h3
    exact Or.inl ⟨v, (T.setVm vm₁).calling g' mk (Value.ref b :: As).toArray, t, U', L, hT, X', hL, e1, e2, hq, st⟩
  · dsimp only [Pt.U, Pt.locs, Pt.cells, Pt.slots] at X' e1 e2 h1 h2 h3 st hcl
    subst h1; subst h2; subst h3
    exact Or.inr ⟨q, (T.setVm vm₁).calling g' mk (Value.ref b :: As).toArray, t, U', L, E, ce, hT, X', hL, e1, e2, hq, hce, hcv, vx_cls hW₁ hcl, st⟩
theorem vx_runSX {hh : List (Nat × Nat × Nat × Nat)} (S : CallFix p m c cc nL s args Ts own) (hM : vx_Met l y ws rm Pc Qc XC mc ms free) (cw : vx_CSW R s args own index y bytes maxL ret hh ws rm mc ms n) (hp : PreS s H Pc As)
    (hg : g.method = m) (hn : As.length = n) (hsize : g.locals.size = nL) (hstack : g.stack = As.reverse ++ rest) (hW : 2 * g.monitorRoom + (rest.map fun v => v.category).sum ≤ 8) (hdg : decode cc g.pc = .ok (.invokestatic index, 3)) (hf : cells + mc ≤ R.cells ∧ slots + ms ≤ R.slots) :
    vx_Run p l e R s m args below meth c H locs cells slots mc ms g rest (Qc As.toArray) XC free := by
  obtain ⟨⟨hrc, hrs, hfr, hlo, hws, hcw⟩, hcode, hini, hy, hlen, hl, hstt⟩ := cw
  have hK : vx_Back l R p e below s args y 3 8 (PreOf R mc ms Pc) (PostOf Qc mc ms free) (vx_Post XC mc ms free) := vx_backW (hh := hh) (bytes := bytes) (maxL := maxL) (ret := ret) hM hp.1 hrc hrs hfr hlo hws hcw (fun a' U hW => word_at hW (Or.inl (by first | rfl | simp [Cond.onTables, Cond.keeps, Cond.steady])) hini)
  obtain ⟨hx, hb, hml, ho, -⟩ := S
  intro T hT X
  rcases vx_callSX X hx (hh := hh) (bytes := bytes) (maxL := maxL) (ret := ret) ho hl hstt hini hcode hy hK hg (hsize.trans hml.symm) (argsL := As) (rest := rest) (fun sig h => hn.trans (hlen sig h)) hstack hW (by rw [hb]; exact hdg)
    (fun vm₁ hW₁ => ⟨hf.1, hf.2, hp.2 (T.setVm vm₁) hT hW₁⟩) with ⟨v, vm₁, ⟨U', l2, c2, s2⟩, hW₁, X', ⟨g', mk, t, L, e1, e2, hq, h1, hL, h2, h3⟩, st⟩ | ⟨q, vm₁, ⟨U', l2, c2, s2⟩, hW₁, X', ⟨g', mk, t, L, E, ce, e1, e2, hq, hce, hcv, hcl, h1, hL, h2, h3⟩, st⟩
  · dsimp only [Pt.U, Pt.locs, Pt.cells, Pt.slots] at X' e1 e2 h1 h2 h3 st
    subst h1; subst h2; subst h3
    exact Or.inl ⟨v, (T.setVm vm₁).calling g' mk As.toArray, t, U', L, hT, X', hL, e1, e2, hq, st⟩
  · dsimp only [Pt.U, Pt.locs, Pt.cells, Pt.slots] at X' e1 e2 h1 h2 h3 st hcl
    subst h1; subst h2; subst h3
    exact Or.inr ⟨q, (T.setVm vm₁).calling g' mk As.toArray, t, U', L, E, ce, hT, X', hL, e1, e2, hq, hce, hcv, vx_cls hW₁ hcl, st⟩
end
end VXH
theorem vx_ofWH {l : Launch} {y : MethodName} {ws ws' : List Cond} {rm : Room} {Pc : Array Value → State → Prop} {Qc : Array Value → State → Outcome → State → Prop} {XC : String → State → State → Prop} {mc ms : Nat} {free : Addr → Prop} {cc : ByteArray} {maxL : Nat} {ret : Option FieldType} {hh : List (Nat × Nat × Nat × Nat)}
    (hy : plainName y.cls = true) (hw : ws = Cond.codeWith y cc maxL ret hh :: ws')
    (body : ∀ p e s m args below meth c s₁, BodyLoose p l y (headSpec ws rm) cc maxL ret e s m args below meth c s₁ → c.maxLocals = maxL → Pc args s →
      W p l e (headSpec ws rm).room s m args below meth c s.heap [] 0 0 (vx_MQ below Qc XC args s mc ms free) (entryFrame m args maxL)) : vx_Met l y ws rm Pc Qc XC mc ms free := by
  refine MetFree.of_bodyS (code := cc) (maxLocals := maxL) (ret := ret) hy ?_ ?_
  · intro args s m h hn
    obtain ⟨m9, meth, c, hn9, h1, h2, h3, h4, -, h5, h6, -⟩ := Cond.codeWith_spec (atoms_spec (ws := ws) h _ (by rw [hw]; exact List.mem_cons_self))
    cases hn.symm.trans hn9
    exact ⟨meth, c, h1, h2, h3, h4, h5, h6⟩
  · intro p e s m args below meth c s₁ B hml hP _
    have hh0 : s₁.heap = s.heap := by rw [B.state]; rfl
    obtain ⟨t, a1, o, b1, b2, b3⟩ := body p e s m args below meth c s₁ B hml hP s₁ hh0 (Stand.of_body B)
    exact ⟨t, o, a1, b1, b2, b3⟩
/-! ===== END ===== -/
end
section
/-! ===== BEGIN printed: names, fields, word lists, decode rows ===== -/
def RX0 : String := "MeterNetwork$History"
def TX0 : u_T := fun k => match k with
  | 0 => ("MeterNetwork$History", "ring", "[LMeterNetwork$State;", true)
  | 1 => ("MeterNetwork$History", "oldest", "I", false)
  | _ => ("MeterNetwork$History", "size", "I", false)
def tyX0 : Nat → FieldType := fun k => match k with
  | 0 => .array (.object "MeterNetwork$State")
  | 1 => .int
  | _ => .int
abbrev wsX00 : List Cond := u_ws RX0 TX0 3
theorem nmX0 : ∀ a, a < 3 → ∀ b, b < 3 → a ≠ b → (TX0 a).2.1 ≠ (TX0 b).2.1 := by decide +kernel
theorem tyX0_ok : ∀ k, k < 3 → parseFieldDescriptor (TX0 k).2.2.1 = some (tyX0 k) := by decide +kernel
abbrev cX0_init : ByteArray := prog_2_method_1_code
def yX0_init : MethodName := ⟨RX0, "<init>", "()V"⟩
abbrev cX0_save : ByteArray := prog_2_method_2_code
def yX0_save : MethodName := ⟨RX0, "save", "(LMeterNetwork$State;)V"⟩
abbrev cX0_newest : ByteArray := prog_2_method_3_code
def yX0_newest : MethodName := ⟨RX0, "newest", "()LMeterNetwork$State;"⟩
abbrev cX0_removeNewest : ByteArray := prog_2_method_4_code
def yX0_removeNewest : MethodName := ⟨RX0, "removeNewest", "()V"⟩
def RX1 : String := "MeterNetwork$Readings"
def TX1 : u_T := fun k => match k with
  | 0 => ("MeterNetwork$Readings", "meters", "[I", true)
  | 1 => ("MeterNetwork$Readings", "numbers", "[I", true)
  | 2 => ("MeterNetwork$Readings", "values", "[I", true)
  | 3 => ("MeterNetwork$Readings", "times", "[I", true)
  | 4 => ("MeterNetwork$Readings", "taken", "I", false)
  | 5 => ("MeterNetwork$Readings", "sizes", "[I", true)
  | 6 => ("MeterNetwork$Readings", "ids", "[I", true)
  | _ => ("MeterNetwork$Readings", "stamps", "[I", true)
def tyX1 : Nat → FieldType := fun k => match k with
  | 0 => .array .int
  | 1 => .array .int
  | 2 => .array .int
  | 3 => .array .int
  | 4 => .int
  | 5 => .array .int
  | 6 => .array .int
  | _ => .array .int
abbrev wsX10 : List Cond := u_ws RX1 TX1 8
theorem nmX1 : ∀ a, a < 8 → ∀ b, b < 8 → a ≠ b → (TX1 a).2.1 ≠ (TX1 b).2.1 := by decide +kernel
theorem tyX1_ok : ∀ k, k < 8 → parseFieldDescriptor (TX1 k).2.2.1 = some (tyX1 k) := by decide +kernel
abbrev cX1_init : ByteArray := prog_3_method_1_code
def yX1_init : MethodName := ⟨RX1, "<init>", "()V"⟩
abbrev cX1_copyFrom : ByteArray := prog_3_method_2_code
def yX1_copyFrom : MethodName := ⟨RX1, "copyFrom", "(LMeterNetwork$Readings;)V"⟩
abbrev cX1_takeAt : ByteArray := prog_3_method_3_code
def yX1_takeAt : MethodName := ⟨RX1, "takeAt", "(IIII)I"⟩
abbrev cX1_takenAt : ByteArray := prog_3_method_4_code
def yX1_takenAt : MethodName := ⟨RX1, "takenAt", "(I)I"⟩
abbrev cX1_findId : ByteArray := prog_3_method_5_code
def yX1_findId : MethodName := ⟨RX1, "findId", "(II)I"⟩
abbrev cX1_missingCount : ByteArray := prog_3_method_6_code
def yX1_missingCount : MethodName := ⟨RX1, "missingCount", "()I"⟩
abbrev cX1_sizeOf : ByteArray := prog_3_method_7_code
def yX1_sizeOf : MethodName := ⟨RX1, "sizeOf", "(I)I"⟩
abbrev cX1_isFull : ByteArray := prog_3_method_8_code
def yX1_isFull : MethodName := ⟨RX1, "isFull", "(I)Z"⟩
abbrev cX1_idAt : ByteArray := prog_3_method_9_code
def yX1_idAt : MethodName := ⟨RX1, "idAt", "(II)I"⟩
abbrev cX1_stampAt : ByteArray := prog_3_method_10_code
def yX1_stampAt : MethodName := ⟨RX1, "stampAt", "(II)I"⟩
abbrev cX1_partOf : ByteArray := prog_3_method_11_code
def yX1_partOf : MethodName := ⟨RX1, "partOf", "(III)I"⟩
abbrev cX1_holds : ByteArray := prog_3_method_12_code
def yX1_holds : MethodName := ⟨RX1, "holds", "(II)Z"⟩
abbrev cX1_storesWith : ByteArray := prog_3_method_13_code
def yX1_storesWith : MethodName := ⟨RX1, "storesWith", "(I)I"⟩
abbrev cX1_wrongStampCount : ByteArray := prog_3_method_14_code
def yX1_wrongStampCount : MethodName := ⟨RX1, "wrongStampCount", "()I"⟩
abbrev cX1_put : ByteArray := prog_3_method_15_code
def yX1_put : MethodName := ⟨RX1, "put", "(III)V"⟩
abbrev cX1_removeFirst : ByteArray := prog_3_method_16_code
def yX1_removeFirst : MethodName := ⟨RX1, "removeFirst", "(I)V"⟩
abbrev cX1_shiftStamps : ByteArray := prog_3_method_17_code
def yX1_shiftStamps : MethodName := ⟨RX1, "shiftStamps", "(II)V"⟩
def RX2 : String := "MeterNetwork$State"
def TX2 : u_T := fun k => match k with
  | 0 => ("MeterNetwork$State", "linked", "[Z", true)
  | 1 => ("MeterNetwork$State", "on", "[Z", true)
  | 2 => ("MeterNetwork$State", "parents", "[I", true)
  | 3 => ("MeterNetwork$State", "depths", "[I", true)
  | 4 => ("MeterNetwork$State", "lastHeard", "[I", true)
  | 5 => ("MeterNetwork$State", "offsets", "[I", true)
  | 6 => ("MeterNetwork$State", "faultsLeft", "[I", true)
  | 7 => ("MeterNetwork$State", "readings", "LMeterNetwork$Readings;", true)
  | 8 => ("MeterNetwork$State", "now", "I", false)
  | 9 => ("MeterNetwork$State", "patience", "I", false)
  | 10 => ("MeterNetwork$State", "sent", "I", false)
  | 11 => ("MeterNetwork$State", "duplicates", "I", false)
  | 12 => ("MeterNetwork$State", "refused", "I", false)
  | 13 => ("MeterNetwork$State", "lostAcknowledgements", "I", false)
  | _ => ("MeterNetwork$State", "droppedParents", "I", false)
def tyX2 : Nat → FieldType := fun k => match k with
  | 0 => .array .boolean
  | 1 => .array .boolean
  | 2 => .array .int
  | 3 => .array .int
  | 4 => .array .int
  | 5 => .array .int
  | 6 => .array .int
  | 7 => .object "MeterNetwork$Readings"
  | 8 => .int
  | 9 => .int
  | 10 => .int
  | 11 => .int
  | 12 => .int
  | 13 => .int
  | _ => .int
abbrev wsX20 : List Cond := u_ws RX2 TX2 15
theorem nmX2 : ∀ a, a < 15 → ∀ b, b < 15 → a ≠ b → (TX2 a).2.1 ≠ (TX2 b).2.1 := by decide +kernel
theorem tyX2_ok : ∀ k, k < 15 → parseFieldDescriptor (TX2 k).2.2.1 = some (tyX2 k) := by decide +kernel
abbrev cX2_init : ByteArray := prog_4_method_1_code
def yX2_init : MethodName := ⟨RX2, "<init>", "()V"⟩
abbrev cX2_copyFrom : ByteArray := prog_4_method_2_code
def yX2_copyFrom : MethodName := ⟨RX2, "copyFrom", "(LMeterNetwork$State;)V"⟩
abbrev cX2_setLink : ByteArray := prog_4_method_3_code
def yX2_setLink : MethodName := ⟨RX2, "setLink", "(IIZ)V"⟩
abbrev cX2_linkCount : ByteArray := prog_4_method_4_code
def yX2_linkCount : MethodName := ⟨RX2, "linkCount", "()I"⟩
abbrev cX2_isOn : ByteArray := prog_4_method_5_code
def yX2_isOn : MethodName := ⟨RX2, "isOn", "(I)Z"⟩
abbrev cX2_setPower : ByteArray := prog_4_method_6_code
def yX2_setPower : MethodName := ⟨RX2, "setPower", "(IZ)V"⟩
abbrev cX2_onCount : ByteArray := prog_4_method_7_code
def yX2_onCount : MethodName := ⟨RX2, "onCount", "()I"⟩
abbrev cX2_areConnected : ByteArray := prog_4_method_8_code
def yX2_areConnected : MethodName := ⟨RX2, "areConnected", "(II)Z"⟩
abbrev cX2_hopsToCollector : ByteArray := prog_4_method_9_code
def yX2_hopsToCollector : MethodName := ⟨RX2, "hopsToCollector", "(I)I"⟩
abbrev cX2_neighboursOf : ByteArray := prog_4_method_10_code
def yX2_neighboursOf : MethodName := ⟨RX2, "neighboursOf", "(I)I"⟩
abbrev cX2_joinedCount : ByteArray := prog_4_method_11_code
def yX2_joinedCount : MethodName := ⟨RX2, "joinedCount", "()I"⟩
abbrev cX2_canTake : ByteArray := prog_4_method_12_code
def yX2_canTake : MethodName := ⟨RX2, "canTake", "(I)Z"⟩
abbrev cX2_takeReading : ByteArray := prog_4_method_13_code
def yX2_takeReading : MethodName := ⟨RX2, "takeReading", "(II)I"⟩
abbrev cX2_runSlots : ByteArray := prog_4_method_14_code
def yX2_runSlots : MethodName := ⟨RX2, "runSlots", "(I)I"⟩
abbrev cX2_losePatience : ByteArray := prog_4_method_15_code
def yX2_losePatience : MethodName := ⟨RX2, "losePatience", "(I)V"⟩
abbrev cX2_beHeard : ByteArray := prog_4_method_16_code
def yX2_beHeard : MethodName := ⟨RX2, "beHeard", "(I)V"⟩
abbrev cX2_hear : ByteArray := prog_4_method_17_code
def yX2_hear : MethodName := ⟨RX2, "hear", "(II)V"⟩
abbrev cX2_isBetterParent : ByteArray := prog_4_method_18_code
def yX2_isBetterParent : MethodName := ⟨RX2, "isBetterParent", "(II)Z"⟩
abbrev cX2_dropParent : ByteArray := prog_4_method_19_code
def yX2_dropParent : MethodName := ⟨RX2, "dropParent", "(I)V"⟩
abbrev cX2_send : ByteArray := prog_4_method_20_code
def yX2_send : MethodName := ⟨RX2, "send", "(I)V"⟩
abbrev cX2_isAccepted : ByteArray := prog_4_method_21_code
def yX2_isAccepted : MethodName := ⟨RX2, "isAccepted", "(II)Z"⟩
def RX3 : String := "MeterNetwork$TextBuffer"
def TX3 : u_T := fun k => match k with
  | 0 => ("MeterNetwork$TextBuffer", "signs", "[C", true)
  | 1 => ("MeterNetwork$TextBuffer", "length", "I", false)
  | 2 => ("MeterNetwork$TextBuffer", "position", "I", false)
  | 3 => ("MeterNetwork$TextBuffer", "kind", "C", false)
  | 4 => ("MeterNetwork$TextBuffer", "first", "I", false)
  | 5 => ("MeterNetwork$TextBuffer", "second", "I", false)
  | _ => ("MeterNetwork$TextBuffer", "number", "I", false)
def tyX3 : Nat → FieldType := fun k => match k with
  | 0 => .array .char
  | 1 => .int
  | 2 => .int
  | 3 => .char
  | 4 => .int
  | 5 => .int
  | _ => .int
abbrev wsX30 : List Cond := u_ws RX3 TX3 7
theorem nmX3 : ∀ a, a < 7 → ∀ b, b < 7 → a ≠ b → (TX3 a).2.1 ≠ (TX3 b).2.1 := by decide +kernel
theorem tyX3_ok : ∀ k, k < 7 → parseFieldDescriptor (TX3 k).2.2.1 = some (tyX3 k) := by decide +kernel
abbrev cX3_init : ByteArray := prog_5_method_1_code
def yX3_init : MethodName := ⟨RX3, "<init>", "()V"⟩
abbrev cX3_isFull : ByteArray := prog_5_method_2_code
def yX3_isFull : MethodName := ⟨RX3, "isFull", "()Z"⟩
abbrev cX3_append : ByteArray := prog_5_method_3_code
def yX3_append : MethodName := ⟨RX3, "append", "(C)V"⟩
abbrev cX3_findError : ByteArray := prog_5_method_4_code
def yX3_findError : MethodName := ⟨RX3, "findError", "()I"⟩
abbrev cX3_readCommand : ByteArray := prog_5_method_5_code
def yX3_readCommand : MethodName := ⟨RX3, "readCommand", "()Z"⟩
abbrev cX3_readSign : ByteArray := prog_5_method_6_code
def yX3_readSign : MethodName := ⟨RX3, "readSign", "(C)Z"⟩
abbrev cX3_readFirst : ByteArray := prog_5_method_7_code
def yX3_readFirst : MethodName := ⟨RX3, "readFirst", "(I)Z"⟩
abbrev cX3_readSecond : ByteArray := prog_5_method_8_code
def yX3_readSecond : MethodName := ⟨RX3, "readSecond", "()Z"⟩
abbrev cX3_readNumber : ByteArray := prog_5_method_9_code
def yX3_readNumber : MethodName := ⟨RX3, "readNumber", "(II)Z"⟩
abbrev cX3_signHere : ByteArray := prog_5_method_10_code
def yX3_signHere : MethodName := ⟨RX3, "signHere", "()C"⟩
abbrev cX3_digitHere : ByteArray := prog_5_method_11_code
def yX3_digitHere : MethodName := ⟨RX3, "digitHere", "()I"⟩
def RX4 : String := "MeterNetwork"
def TX4 : u_T := fun k => match k with
  | 0 => ("MeterNetwork", "state", "LMeterNetwork$State;", true)
  | 1 => ("MeterNetwork", "trial", "LMeterNetwork$State;", true)
  | 2 => ("MeterNetwork", "history", "LMeterNetwork$History;", true)
  | _ => ("MeterNetwork", "text", "LMeterNetwork$TextBuffer;", true)
def tyX4 : Nat → FieldType := fun k => match k with
  | 0 => .object "MeterNetwork$State"
  | 1 => .object "MeterNetwork$State"
  | 2 => .object "MeterNetwork$History"
  | _ => .object "MeterNetwork$TextBuffer"
abbrev wsX40 : List Cond := u_ws RX4 TX4 4
theorem nmX4 : ∀ a, a < 4 → ∀ b, b < 4 → a ≠ b → (TX4 a).2.1 ≠ (TX4 b).2.1 := by decide +kernel
theorem tyX4_ok : ∀ k, k < 4 → parseFieldDescriptor (TX4 k).2.2.1 = some (tyX4 k) := by decide +kernel
abbrev cX4_init : ByteArray := prog_1_method_1_code
def yX4_init : MethodName := ⟨RX4, "<init>", "()V"⟩
abbrev cX4_link : ByteArray := prog_1_method_2_code
def yX4_link : MethodName := ⟨RX4, "link", "(IIZ)I"⟩
abbrev cX4_power : ByteArray := prog_1_method_3_code
def yX4_power : MethodName := ⟨RX4, "power", "(IZ)I"⟩
abbrev cX4_jump : ByteArray := prog_1_method_4_code
def yX4_jump : MethodName := ⟨RX4, "jump", "(II)I"⟩
abbrev cX4_setFaults : ByteArray := prog_1_method_5_code
def yX4_setFaults : MethodName := ⟨RX4, "setFaults", "(II)I"⟩
abbrev cX4_setPatience : ByteArray := prog_1_method_6_code
def yX4_setPatience : MethodName := ⟨RX4, "setPatience", "(I)I"⟩
abbrev cX4_take : ByteArray := prog_1_method_7_code
def yX4_take : MethodName := ⟨RX4, "take", "(II)I"⟩
abbrev cX4_run : ByteArray := prog_1_method_8_code
def yX4_run : MethodName := ⟨RX4, "run", "(I)I"⟩
abbrev cX4_appendText : ByteArray := prog_1_method_9_code
def yX4_appendText : MethodName := ⟨RX4, "appendText", "(I)I"⟩
abbrev cX4_clearText : ByteArray := prog_1_method_10_code
def yX4_clearText : MethodName := ⟨RX4, "clearText", "()I"⟩
abbrev cX4_errorPosition : ByteArray := prog_1_method_11_code
def yX4_errorPosition : MethodName := ⟨RX4, "errorPosition", "()I"⟩
abbrev cX4_runText : ByteArray := prog_1_method_12_code
def yX4_runText : MethodName := ⟨RX4, "runText", "()I"⟩
abbrev cX4_executeCommand : ByteArray := prog_1_method_13_code
def yX4_executeCommand : MethodName := ⟨RX4, "executeCommand", "()Z"⟩
abbrev cX4_undo : ByteArray := prog_1_method_14_code
def yX4_undo : MethodName := ⟨RX4, "undo", "()I"⟩
abbrev cX4_isConnected : ByteArray := prog_1_method_15_code
def yX4_isConnected : MethodName := ⟨RX4, "isConnected", "(II)Z"⟩
abbrev cX4_parent : ByteArray := prog_1_method_16_code
def yX4_parent : MethodName := ⟨RX4, "parent", "(I)I"⟩
abbrev cX4_depth : ByteArray := prog_1_method_17_code
def yX4_depth : MethodName := ⟨RX4, "depth", "(I)I"⟩
abbrev cX4_clock : ByteArray := prog_1_method_18_code
def yX4_clock : MethodName := ⟨RX4, "clock", "(I)I"⟩
abbrev cX4_silence : ByteArray := prog_1_method_19_code
def yX4_silence : MethodName := ⟨RX4, "silence", "(I)I"⟩
abbrev cX4_faults : ByteArray := prog_1_method_20_code
def yX4_faults : MethodName := ⟨RX4, "faults", "(I)I"⟩
abbrev cX4_hops : ByteArray := prog_1_method_21_code
def yX4_hops : MethodName := ⟨RX4, "hops", "(I)I"⟩
abbrev cX4_stored : ByteArray := prog_1_method_22_code
def yX4_stored : MethodName := ⟨RX4, "stored", "(I)I"⟩
abbrev cX4_storedReading : ByteArray := prog_1_method_23_code
def yX4_storedReading : MethodName := ⟨RX4, "storedReading", "(III)I"⟩
abbrev cX4_collected : ByteArray := prog_1_method_24_code
def yX4_collected : MethodName := ⟨RX4, "collected", "()I"⟩
abbrev cX4_collectedReading : ByteArray := prog_1_method_25_code
def yX4_collectedReading : MethodName := ⟨RX4, "collectedReading", "(II)I"⟩
abbrev cX4_copies : ByteArray := prog_1_method_26_code
def yX4_copies : MethodName := ⟨RX4, "copies", "(II)I"⟩
abbrev cX4_missing : ByteArray := prog_1_method_27_code
def yX4_missing : MethodName := ⟨RX4, "missing", "()I"⟩
abbrev cX4_wrongStamps : ByteArray := prog_1_method_28_code
def yX4_wrongStamps : MethodName := ⟨RX4, "wrongStamps", "()I"⟩
abbrev cX4_slotsToCollect : ByteArray := prog_1_method_29_code
def yX4_slotsToCollect : MethodName := ⟨RX4, "slotsToCollect", "()I"⟩
abbrev cX4_ifRun : ByteArray := prog_1_method_30_code
def yX4_ifRun : MethodName := ⟨RX4, "ifRun", "(I)I"⟩
abbrev cX4_time : ByteArray := prog_1_method_31_code
def yX4_time : MethodName := ⟨RX4, "time", "()I"⟩
abbrev cX4_count : ByteArray := prog_1_method_32_code
def yX4_count : MethodName := ⟨RX4, "count", "(I)I"⟩
abbrev cX4_joined : ByteArray := prog_1_method_33_code
def yX4_joined : MethodName := ⟨RX4, "joined", "()D"⟩
abbrev cX4_savedStates : ByteArray := prog_1_method_34_code
def yX4_savedStates : MethodName := ⟨RX4, "savedStates", "()I"⟩
abbrev cX4_textLength : ByteArray := prog_1_method_35_code
def yX4_textLength : MethodName := ⟨RX4, "textLength", "()I"⟩
abbrev cX4_isNode : ByteArray := prog_1_method_36_code
def yX4_isNode : MethodName := ⟨RX4, "isNode", "(I)Z"⟩
abbrev cX4_checkNode : ByteArray := prog_1_method_37_code
def yX4_checkNode : MethodName := ⟨RX4, "checkNode", "(I)V"⟩
abbrev cX4_checkMeter : ByteArray := prog_1_method_38_code
def yX4_checkMeter : MethodName := ⟨RX4, "checkMeter", "(I)V"⟩
abbrev cX4_checkIndex : ByteArray := prog_1_method_39_code
def yX4_checkIndex : MethodName := ⟨RX4, "checkIndex", "(I)V"⟩
abbrev cX4_checkRange : ByteArray := prog_1_method_40_code
def yX4_checkRange : MethodName := ⟨RX4, "checkRange", "(III)V"⟩
abbrev cX4_copyRow : ByteArray := prog_1_method_41_code
def yX4_copyRow : MethodName := ⟨RX4, "copyRow", "([I[I)V"⟩
abbrev cX4_copyRow_ : ByteArray := prog_1_method_42_code
def yX4_copyRow_ : MethodName := ⟨RX4, "copyRow", "([Z[Z)V"⟩
def RX5 : String := "MeterNetworkModel"
def TX5 : u_T := fun k => match k with
  | 0 => ("MeterNetworkModel", "s", "[I", true)
  | 1 => ("MeterNetworkModel", "saved", "I", false)
  | 2 => ("MeterNetworkModel", "text", "[C", true)
  | 3 => ("MeterNetworkModel", "typed", "I", false)
  | 4 => ("MeterNetworkModel", "thrown", "I", false)
  | 5 => ("MeterNetworkModel", "hops", "[I", true)
  | 6 => ("MeterNetworkModel", "spot", "I", false)
  | 7 => ("MeterNetworkModel", "one", "I", false)
  | _ => ("MeterNetworkModel", "two", "I", false)
def tyX5 : Nat → FieldType := fun k => match k with
  | 0 => .array .int
  | 1 => .int
  | 2 => .array .char
  | 3 => .int
  | 4 => .int
  | 5 => .array .int
  | 6 => .int
  | 7 => .int
  | _ => .int
abbrev wsX50 : List Cond := u_ws RX5 TX5 9
theorem nmX5 : ∀ a, a < 9 → ∀ b, b < 9 → a ≠ b → (TX5 a).2.1 ≠ (TX5 b).2.1 := by decide +kernel
theorem tyX5_ok : ∀ k, k < 9 → parseFieldDescriptor (TX5 k).2.2.1 = some (tyX5 k) := by decide +kernel
abbrev cX5_init : ByteArray := prog_7_method_1_code
def yX5_init : MethodName := ⟨RX5, "<init>", "()V"⟩
abbrev cX5_thrown : ByteArray := prog_7_method_2_code
def yX5_thrown : MethodName := ⟨RX5, "thrown", "()I"⟩
abbrev cX5_in : ByteArray := prog_7_method_3_code
def yX5_in : MethodName := ⟨RX5, "in", "(III)Z"⟩
abbrev cX5_goes : ByteArray := prog_7_method_4_code
def yX5_goes : MethodName := ⟨RX5, "goes", "(ZZZ)Z"⟩
abbrev cX5_isNode : ByteArray := prog_7_method_5_code
def yX5_isNode : MethodName := ⟨RX5, "isNode", "(I)Z"⟩
abbrev cX5_isMeter : ByteArray := prog_7_method_6_code
def yX5_isMeter : MethodName := ⟨RX5, "isMeter", "(I)Z"⟩
abbrev cX5_lays : ByteArray := prog_7_method_7_code
def yX5_lays : MethodName := ⟨RX5, "lays", "(II)V"⟩
abbrev cX5_saves : ByteArray := prog_7_method_8_code
def yX5_saves : MethodName := ⟨RX5, "saves", "()V"⟩
abbrev cX5_at : ByteArray := prog_7_method_9_code
def yX5_at : MethodName := ⟨RX5, "at", "(II)I"⟩
abbrev cX5_storeAt : ByteArray := prog_7_method_10_code
def yX5_storeAt : MethodName := ⟨RX5, "storeAt", "(III)I"⟩
abbrev cX5_listAt : ByteArray := prog_7_method_11_code
def yX5_listAt : MethodName := ⟨RX5, "listAt", "(II)I"⟩
abbrev cX5_isOn : ByteArray := prog_7_method_12_code
def yX5_isOn : MethodName := ⟨RX5, "isOn", "(II)Z"⟩
abbrev cX5_areConnected : ByteArray := prog_7_method_13_code
def yX5_areConnected : MethodName := ⟨RX5, "areConnected", "(III)Z"⟩
abbrev cX5_drops : ByteArray := prog_7_method_14_code
def yX5_drops : MethodName := ⟨RX5, "drops", "(II)V"⟩
abbrev cX5_setsClock : ByteArray := prog_7_method_15_code
def yX5_setsClock : MethodName := ⟨RX5, "setsClock", "(III)V"⟩
abbrev cX5_follows : ByteArray := prog_7_method_16_code
def yX5_follows : MethodName := ⟨RX5, "follows", "(III)V"⟩
abbrev cX5_hears : ByteArray := prog_7_method_17_code
def yX5_hears : MethodName := ⟨RX5, "hears", "(III)V"⟩
abbrev cX5_areSame : ByteArray := prog_7_method_18_code
def yX5_areSame : MethodName := ⟨RX5, "areSame", "(II)Z"⟩
abbrev cX5_isCollected : ByteArray := prog_7_method_19_code
def yX5_isCollected : MethodName := ⟨RX5, "isCollected", "(II)Z"⟩
abbrev cX5_isStored : ByteArray := prog_7_method_20_code
def yX5_isStored : MethodName := ⟨RX5, "isStored", "(III)Z"⟩
abbrev cX5_writes : ByteArray := prog_7_method_21_code
def yX5_writes : MethodName := ⟨RX5, "writes", "(III)V"⟩
abbrev cX5_hands : ByteArray := prog_7_method_22_code
def yX5_hands : MethodName := ⟨RX5, "hands", "(IIII)Z"⟩
abbrev cX5_removesFirst : ByteArray := prog_7_method_23_code
def yX5_removesFirst : MethodName := ⟨RX5, "removesFirst", "(II)V"⟩
abbrev cX5_sends : ByteArray := prog_7_method_24_code
def yX5_sends : MethodName := ⟨RX5, "sends", "(II)V"⟩
abbrev cX5_slot : ByteArray := prog_7_method_25_code
def yX5_slot : MethodName := ⟨RX5, "slot", "(I)V"⟩
abbrev cX5_runs : ByteArray := prog_7_method_26_code
def yX5_runs : MethodName := ⟨RX5, "runs", "(II)I"⟩
abbrev cX5_ones : ByteArray := prog_7_method_27_code
def yX5_ones : MethodName := ⟨RX5, "ones", "(I)I"⟩
abbrev cX5_links : ByteArray := prog_7_method_28_code
def yX5_links : MethodName := ⟨RX5, "links", "(IIZ)I"⟩
abbrev cX5_powers : ByteArray := prog_7_method_29_code
def yX5_powers : MethodName := ⟨RX5, "powers", "(IZ)I"⟩
abbrev cX5_canTake : ByteArray := prog_7_method_30_code
def yX5_canTake : MethodName := ⟨RX5, "canTake", "(I)Z"⟩
abbrev cX5_takes : ByteArray := prog_7_method_31_code
def yX5_takes : MethodName := ⟨RX5, "takes", "(II)I"⟩
abbrev cX5_link : ByteArray := prog_7_method_32_code
def yX5_link : MethodName := ⟨RX5, "link", "(IIZ)I"⟩
abbrev cX5_power : ByteArray := prog_7_method_33_code
def yX5_power : MethodName := ⟨RX5, "power", "(IZ)I"⟩
abbrev cX5_jump : ByteArray := prog_7_method_34_code
def yX5_jump : MethodName := ⟨RX5, "jump", "(II)I"⟩
abbrev cX5_sets : ByteArray := prog_7_method_35_code
def yX5_sets : MethodName := ⟨RX5, "sets", "(II)I"⟩
abbrev cX5_setFaults : ByteArray := prog_7_method_36_code
def yX5_setFaults : MethodName := ⟨RX5, "setFaults", "(II)I"⟩
abbrev cX5_setPatience : ByteArray := prog_7_method_37_code
def yX5_setPatience : MethodName := ⟨RX5, "setPatience", "(I)I"⟩
abbrev cX5_take : ByteArray := prog_7_method_38_code
def yX5_take : MethodName := ⟨RX5, "take", "(II)I"⟩
abbrev cX5_run : ByteArray := prog_7_method_39_code
def yX5_run : MethodName := ⟨RX5, "run", "(I)I"⟩
abbrev cX5_appendText : ByteArray := prog_7_method_40_code
def yX5_appendText : MethodName := ⟨RX5, "appendText", "(I)I"⟩
abbrev cX5_clearText : ByteArray := prog_7_method_41_code
def yX5_clearText : MethodName := ⟨RX5, "clearText", "()I"⟩
abbrev cX5_isHere : ByteArray := prog_7_method_42_code
def yX5_isHere : MethodName := ⟨RX5, "isHere", "(CC)Z"⟩
abbrev cX5_digit : ByteArray := prog_7_method_43_code
def yX5_digit : MethodName := ⟨RX5, "digit", "(C)I"⟩
abbrev cX5_number : ByteArray := prog_7_method_44_code
def yX5_number : MethodName := ⟨RX5, "number", "(II)I"⟩
abbrev cX5_readsLink : ByteArray := prog_7_method_45_code
def yX5_readsLink : MethodName := ⟨RX5, "readsLink", "()Z"⟩
abbrev cX5_readsTake : ByteArray := prog_7_method_46_code
def yX5_readsTake : MethodName := ⟨RX5, "readsTake", "()Z"⟩
abbrev cX5_command : ByteArray := prog_7_method_47_code
def yX5_command : MethodName := ⟨RX5, "command", "()C"⟩
abbrev cX5_error : ByteArray := prog_7_method_48_code
def yX5_error : MethodName := ⟨RX5, "error", "()I"⟩
abbrev cX5_errorPosition : ByteArray := prog_7_method_49_code
def yX5_errorPosition : MethodName := ⟨RX5, "errorPosition", "()I"⟩
abbrev cX5_does : ByteArray := prog_7_method_50_code
def yX5_does : MethodName := ⟨RX5, "does", "(C)I"⟩
abbrev cX5_runText : ByteArray := prog_7_method_51_code
def yX5_runText : MethodName := ⟨RX5, "runText", "()I"⟩
abbrev cX5_undo : ByteArray := prog_7_method_52_code
def yX5_undo : MethodName := ⟨RX5, "undo", "()I"⟩
abbrev cX5_isConnected : ByteArray := prog_7_method_53_code
def yX5_isConnected : MethodName := ⟨RX5, "isConnected", "(II)Z"⟩
abbrev cX5_parent : ByteArray := prog_7_method_54_code
def yX5_parent : MethodName := ⟨RX5, "parent", "(I)I"⟩
abbrev cX5_depth : ByteArray := prog_7_method_55_code
def yX5_depth : MethodName := ⟨RX5, "depth", "(I)I"⟩
abbrev cX5_clock : ByteArray := prog_7_method_56_code
def yX5_clock : MethodName := ⟨RX5, "clock", "(I)I"⟩
abbrev cX5_silence : ByteArray := prog_7_method_57_code
def yX5_silence : MethodName := ⟨RX5, "silence", "(I)I"⟩
abbrev cX5_faults : ByteArray := prog_7_method_58_code
def yX5_faults : MethodName := ⟨RX5, "faults", "(I)I"⟩
abbrev cX5_hops : ByteArray := prog_7_method_59_code
def yX5_hops : MethodName := ⟨RX5, "hops", "(I)I"⟩
abbrev cX5_stored : ByteArray := prog_7_method_60_code
def yX5_stored : MethodName := ⟨RX5, "stored", "(I)I"⟩
abbrev cX5_storedReading : ByteArray := prog_7_method_61_code
def yX5_storedReading : MethodName := ⟨RX5, "storedReading", "(III)I"⟩
abbrev cX5_collected : ByteArray := prog_7_method_62_code
def yX5_collected : MethodName := ⟨RX5, "collected", "()I"⟩
abbrev cX5_collectedReading : ByteArray := prog_7_method_63_code
def yX5_collectedReading : MethodName := ⟨RX5, "collectedReading", "(II)I"⟩
abbrev cX5_copies : ByteArray := prog_7_method_64_code
def yX5_copies : MethodName := ⟨RX5, "copies", "(II)I"⟩
abbrev cX5_missing : ByteArray := prog_7_method_65_code
def yX5_missing : MethodName := ⟨RX5, "missing", "()I"⟩
abbrev cX5_wrongStamps : ByteArray := prog_7_method_66_code
def yX5_wrongStamps : MethodName := ⟨RX5, "wrongStamps", "()I"⟩
abbrev cX5_slotsToCollect : ByteArray := prog_7_method_67_code
def yX5_slotsToCollect : MethodName := ⟨RX5, "slotsToCollect", "()I"⟩
abbrev cX5_ifRun : ByteArray := prog_7_method_68_code
def yX5_ifRun : MethodName := ⟨RX5, "ifRun", "(I)I"⟩
abbrev cX5_time : ByteArray := prog_7_method_69_code
def yX5_time : MethodName := ⟨RX5, "time", "()I"⟩
abbrev cX5_count : ByteArray := prog_7_method_70_code
def yX5_count : MethodName := ⟨RX5, "count", "(I)I"⟩
abbrev cX5_joined : ByteArray := prog_7_method_71_code
def yX5_joined : MethodName := ⟨RX5, "joined", "()D"⟩
abbrev cX5_savedStates : ByteArray := prog_7_method_72_code
def yX5_savedStates : MethodName := ⟨RX5, "savedStates", "()I"⟩
abbrev cX5_textLength : ByteArray := prog_7_method_73_code
def yX5_textLength : MethodName := ⟨RX5, "textLength", "()I"⟩
def RJ9 : String := "java/lang/Math"
def TJ9 : u_T := fun k => match k with
  | _ => ("", "", "", false)
def tyJ9 : Nat → FieldType := fun k => match k with
  | _ => .int
abbrev wsJ90 : List Cond := u_ws RJ9 TJ9 0
theorem nmJ9 : ∀ a, a < 0 → ∀ b, b < 0 → a ≠ b → (TJ9 a).2.1 ≠ (TJ9 b).2.1 := by decide +kernel
theorem tyJ9_ok : ∀ k, k < 0 → parseFieldDescriptor (TJ9 k).2.2.1 = some (tyJ9 k) := by decide +kernel
abbrev cJ9_floorMod_7cf53 : ByteArray := prog_12_method_50_code
def yJ9_floorMod_7cf53 : MethodName := ⟨RJ9, "floorMod", "(II)I"⟩
abbrev cJ9_min_7cf53 : ByteArray := prog_12_method_69_code
def yJ9_min_7cf53 : MethodName := ⟨RJ9, "min", "(II)I"⟩
def RJ0 : String := "java/lang/String"
def TJ0 : u_T := fun k => match k with
  | _ => ("", "", "", false)
def tyJ0 : Nat → FieldType := fun k => match k with
  | _ => .int
abbrev wsJ00 : List Cond := u_ws RJ0 TJ0 0
theorem nmJ0 : ∀ a, a < 0 → ∀ b, b < 0 → a ≠ b → (TJ0 a).2.1 ≠ (TJ0 b).2.1 := by decide +kernel
theorem tyJ0_ok : ∀ k, k < 0 → parseFieldDescriptor (TJ0 k).2.2.1 = some (tyJ0 k) := by decide +kernel
def RJ10 : String := "java/lang/System"
def TJ10 : u_T := fun k => match k with
  | _ => ("", "", "", false)
def tyJ10 : Nat → FieldType := fun k => match k with
  | _ => .int
abbrev wsJ100 : List Cond := u_ws RJ10 TJ10 0
theorem nmJ10 : ∀ a, a < 0 → ∀ b, b < 0 → a ≠ b → (TJ10 a).2.1 ≠ (TJ10 b).2.1 := by decide +kernel
theorem tyJ10_ok : ∀ k, k < 0 → parseFieldDescriptor (TJ10 k).2.2.1 = some (tyJ10 k) := by decide +kernel
def RL : String := "MeterNetworkLaw"
abbrev cL_link : ByteArray := method_3_code
def yL_link : MethodName := ⟨RL, "link", "(LMeterNetwork;IIZ[J)I"⟩
abbrev cL_power : ByteArray := method_4_code
def yL_power : MethodName := ⟨RL, "power", "(LMeterNetwork;IZ[J)I"⟩
abbrev cL_jump : ByteArray := method_5_code
def yL_jump : MethodName := ⟨RL, "jump", "(LMeterNetwork;II[J)I"⟩
abbrev cL_setFaults : ByteArray := method_6_code
def yL_setFaults : MethodName := ⟨RL, "setFaults", "(LMeterNetwork;II[J)I"⟩
abbrev cL_setPatience : ByteArray := method_7_code
def yL_setPatience : MethodName := ⟨RL, "setPatience", "(LMeterNetwork;I[J)I"⟩
abbrev cL_take : ByteArray := method_8_code
def yL_take : MethodName := ⟨RL, "take", "(LMeterNetwork;II[J)I"⟩
abbrev cL_run : ByteArray := method_9_code
def yL_run : MethodName := ⟨RL, "run", "(LMeterNetwork;I[J)I"⟩
abbrev cL_appendText : ByteArray := method_10_code
def yL_appendText : MethodName := ⟨RL, "appendText", "(LMeterNetwork;I[J)I"⟩
abbrev cL_runText : ByteArray := method_11_code
def yL_runText : MethodName := ⟨RL, "runText", "(LMeterNetwork;[J)I"⟩
abbrev cL_undo : ByteArray := method_12_code
def yL_undo : MethodName := ⟨RL, "undo", "(LMeterNetwork;[J)I"⟩
abbrev cL_isConnected : ByteArray := method_13_code
def yL_isConnected : MethodName := ⟨RL, "isConnected", "(LMeterNetwork;II[J)I"⟩
abbrev cL_parent : ByteArray := method_14_code
def yL_parent : MethodName := ⟨RL, "parent", "(LMeterNetwork;I[J)I"⟩
abbrev cL_depth : ByteArray := method_15_code
def yL_depth : MethodName := ⟨RL, "depth", "(LMeterNetwork;I[J)I"⟩
abbrev cL_clock : ByteArray := method_16_code
def yL_clock : MethodName := ⟨RL, "clock", "(LMeterNetwork;I[J)I"⟩
abbrev cL_silence : ByteArray := method_17_code
def yL_silence : MethodName := ⟨RL, "silence", "(LMeterNetwork;I[J)I"⟩
abbrev cL_faults : ByteArray := method_18_code
def yL_faults : MethodName := ⟨RL, "faults", "(LMeterNetwork;I[J)I"⟩
abbrev cL_hops : ByteArray := method_19_code
def yL_hops : MethodName := ⟨RL, "hops", "(LMeterNetwork;I[J)I"⟩
abbrev cL_stored : ByteArray := method_20_code
def yL_stored : MethodName := ⟨RL, "stored", "(LMeterNetwork;I[J)I"⟩
abbrev cL_storedReading : ByteArray := method_21_code
def yL_storedReading : MethodName := ⟨RL, "storedReading", "(LMeterNetwork;III[J)I"⟩
abbrev cL_collectedReading : ByteArray := method_22_code
def yL_collectedReading : MethodName := ⟨RL, "collectedReading", "(LMeterNetwork;II[J)I"⟩
abbrev cL_copies : ByteArray := method_23_code
def yL_copies : MethodName := ⟨RL, "copies", "(LMeterNetwork;II[J)I"⟩
abbrev cL_ifRun : ByteArray := method_24_code
def yL_ifRun : MethodName := ⟨RL, "ifRun", "(LMeterNetwork;I[J)I"⟩
abbrev cL_count : ByteArray := method_25_code
def yL_count : MethodName := ⟨RL, "count", "(LMeterNetwork;I[J)I"⟩
abbrev cL_law : ByteArray := code
def yL_law : MethodName := ⟨RL, "law", "([I)Z"⟩
def wsJ9_floorMod_7cf53 : List Cond := .code yJ9_floorMod_7cf53 cJ9_floorMod_7cf53 3 (some .int) :: ([])
def wsJ9_min_7cf53 : List Cond := .code yJ9_min_7cf53 cJ9_min_7cf53 2 (some .int) :: ([])
theorem dJ9_floorMod_7cf53_0 : decode cJ9_floorMod_7cf53 0 = .ok (.iload_n 0, 1) := by decide +kernel
theorem dJ9_floorMod_7cf53_1 : decode cJ9_floorMod_7cf53 1 = .ok (.iload_n 1, 1) := by decide +kernel
theorem dJ9_floorMod_7cf53_2 : decode cJ9_floorMod_7cf53 2 = .ok (.irem, 1) := by decide +kernel
theorem dJ9_floorMod_7cf53_3 : decode cJ9_floorMod_7cf53 3 = .ok (.istore_n 2, 1) := by decide +kernel
theorem dJ9_floorMod_7cf53_4 : decode cJ9_floorMod_7cf53 4 = .ok (.iload_n 0, 1) := by decide +kernel
theorem dJ9_floorMod_7cf53_5 : decode cJ9_floorMod_7cf53 5 = .ok (.iload_n 1, 1) := by decide +kernel
theorem dJ9_floorMod_7cf53_6 : decode cJ9_floorMod_7cf53 6 = .ok (.ixor, 1) := by decide +kernel
theorem dJ9_floorMod_7cf53_7 : decode cJ9_floorMod_7cf53 7 = .ok (.ifCond .ge 11, 3) := by decide +kernel
theorem dJ9_floorMod_7cf53_10 : decode cJ9_floorMod_7cf53 10 = .ok (.iload_n 2, 1) := by decide +kernel
theorem dJ9_floorMod_7cf53_11 : decode cJ9_floorMod_7cf53 11 = .ok (.ifCond .eq 7, 3) := by decide +kernel
theorem dJ9_floorMod_7cf53_14 : decode cJ9_floorMod_7cf53 14 = .ok (.iload_n 2, 1) := by decide +kernel
theorem dJ9_floorMod_7cf53_15 : decode cJ9_floorMod_7cf53 15 = .ok (.iload_n 1, 1) := by decide +kernel
theorem dJ9_floorMod_7cf53_16 : decode cJ9_floorMod_7cf53 16 = .ok (.iadd, 1) := by decide +kernel
theorem dJ9_floorMod_7cf53_17 : decode cJ9_floorMod_7cf53 17 = .ok (.ireturn, 1) := by decide +kernel
theorem dJ9_floorMod_7cf53_18 : decode cJ9_floorMod_7cf53 18 = .ok (.iload_n 2, 1) := by decide +kernel
theorem dJ9_floorMod_7cf53_19 : decode cJ9_floorMod_7cf53 19 = .ok (.ireturn, 1) := by decide +kernel
theorem dJ9_min_7cf53_0 : decode cJ9_min_7cf53 0 = .ok (.iload_n 0, 1) := by decide +kernel
theorem dJ9_min_7cf53_1 : decode cJ9_min_7cf53 1 = .ok (.iload_n 1, 1) := by decide +kernel
theorem dJ9_min_7cf53_2 : decode cJ9_min_7cf53 2 = .ok (.if_icmp .gt 7, 3) := by decide +kernel
theorem dJ9_min_7cf53_5 : decode cJ9_min_7cf53 5 = .ok (.iload_n 0, 1) := by decide +kernel
theorem dJ9_min_7cf53_6 : decode cJ9_min_7cf53 6 = .ok (.goto 4, 3) := by decide +kernel
theorem dJ9_min_7cf53_9 : decode cJ9_min_7cf53 9 = .ok (.iload_n 1, 1) := by decide +kernel
theorem dJ9_min_7cf53_10 : decode cJ9_min_7cf53 10 = .ok (.ireturn, 1) := by decide +kernel
abbrev vwCl : List vw_C := [(RX0, TX0, 3), (RX1, TX1, 8), (RX2, TX2, 15), (RX3, TX3, 7), (RX4, TX4, 4), (RX5, TX5, 9)]
end
section
theorem dX0_init_0 : decode cX0_init 0 = .ok (.aload_n 0, 1) := by decide +kernel
theorem dX0_init_1 : decode cX0_init 1 = .ok (.invokespecial 3, 3) := by decide +kernel
theorem dX0_init_4 : decode cX0_init 4 = .ok (.aload_n 0, 1) := by decide +kernel
theorem dX0_init_5 : decode cX0_init 5 = .ok (.bipush 6, 2) := by decide +kernel
theorem dX0_init_7 : decode cX0_init 7 = .ok (.anewarray 9, 3) := by decide +kernel
theorem dX0_init_10 : decode cX0_init 10 = .ok (.putfield 11, 3) := by decide +kernel
theorem dX0_init_13 : decode cX0_init 13 = .ok (.return_, 1) := by decide +kernel
theorem dX0_save_0 : decode cX0_save 0 = .ok (.aload_n 0, 1) := by decide +kernel
theorem dX0_save_1 : decode cX0_save 1 = .ok (.getfield 17, 3) := by decide +kernel
theorem dX0_save_4 : decode cX0_save 4 = .ok (.aload_n 0, 1) := by decide +kernel
theorem dX0_save_5 : decode cX0_save 5 = .ok (.getfield 21, 3) := by decide +kernel
theorem dX0_save_8 : decode cX0_save 8 = .ok (.iadd, 1) := by decide +kernel
theorem dX0_save_9 : decode cX0_save 9 = .ok (.bipush 6, 2) := by decide +kernel
theorem dX0_save_11 : decode cX0_save 11 = .ok (.invokestatic 24, 3) := by decide +kernel
theorem dX0_save_14 : decode cX0_save 14 = .ok (.istore_n 2, 1) := by decide +kernel
theorem dX0_save_15 : decode cX0_save 15 = .ok (.aload_n 0, 1) := by decide +kernel
theorem dX0_save_16 : decode cX0_save 16 = .ok (.getfield 11, 3) := by decide +kernel
theorem dX0_save_19 : decode cX0_save 19 = .ok (.iload_n 2, 1) := by decide +kernel
theorem dX0_save_20 : decode cX0_save 20 = .ok (.aaload, 1) := by decide +kernel
theorem dX0_save_21 : decode cX0_save 21 = .ok (.astore_n 3, 1) := by decide +kernel
theorem dX0_save_22 : decode cX0_save 22 = .ok (.aload_n 3, 1) := by decide +kernel
theorem dX0_save_23 : decode cX0_save 23 = .ok (.ifnonnull 18, 3) := by decide +kernel
theorem dX0_save_26 : decode cX0_save 26 = .ok (.new 9, 3) := by decide +kernel
theorem dX0_save_29 : decode cX0_save 29 = .ok (.dup, 1) := by decide +kernel
theorem dX0_save_30 : decode cX0_save 30 = .ok (.invokespecial 30, 3) := by decide +kernel
theorem dX0_save_33 : decode cX0_save 33 = .ok (.astore_n 3, 1) := by decide +kernel
theorem dX0_save_34 : decode cX0_save 34 = .ok (.aload_n 0, 1) := by decide +kernel
theorem dX0_save_35 : decode cX0_save 35 = .ok (.getfield 11, 3) := by decide +kernel
theorem dX0_save_38 : decode cX0_save 38 = .ok (.iload_n 2, 1) := by decide +kernel
theorem dX0_save_39 : decode cX0_save 39 = .ok (.aload_n 3, 1) := by decide +kernel
theorem dX0_save_40 : decode cX0_save 40 = .ok (.aastore, 1) := by decide +kernel
theorem dX0_save_41 : decode cX0_save 41 = .ok (.aload_n 3, 1) := by decide +kernel
theorem dX0_save_42 : decode cX0_save 42 = .ok (.aload_n 1, 1) := by decide +kernel
theorem dX0_save_43 : decode cX0_save 43 = .ok (.invokevirtual 31, 3) := by decide +kernel
theorem dX0_save_46 : decode cX0_save 46 = .ok (.aload_n 0, 1) := by decide +kernel
theorem dX0_save_47 : decode cX0_save 47 = .ok (.getfield 21, 3) := by decide +kernel
theorem dX0_save_50 : decode cX0_save 50 = .ok (.bipush 6, 2) := by decide +kernel
theorem dX0_save_52 : decode cX0_save 52 = .ok (.if_icmp .ge 16, 3) := by decide +kernel
theorem dX0_save_55 : decode cX0_save 55 = .ok (.aload_n 0, 1) := by decide +kernel
theorem dX0_save_56 : decode cX0_save 56 = .ok (.dup, 1) := by decide +kernel
theorem dX0_save_57 : decode cX0_save 57 = .ok (.getfield 21, 3) := by decide +kernel
theorem dX0_save_60 : decode cX0_save 60 = .ok (.iconst 1, 1) := by decide +kernel
theorem dX0_save_61 : decode cX0_save 61 = .ok (.iadd, 1) := by decide +kernel
theorem dX0_save_62 : decode cX0_save 62 = .ok (.putfield 21, 3) := by decide +kernel
theorem dX0_save_65 : decode cX0_save 65 = .ok (.goto 18, 3) := by decide +kernel
theorem dX0_save_68 : decode cX0_save 68 = .ok (.aload_n 0, 1) := by decide +kernel
theorem dX0_save_69 : decode cX0_save 69 = .ok (.aload_n 0, 1) := by decide +kernel
theorem dX0_save_70 : decode cX0_save 70 = .ok (.getfield 17, 3) := by decide +kernel
theorem dX0_save_73 : decode cX0_save 73 = .ok (.iconst 1, 1) := by decide +kernel
theorem dX0_save_74 : decode cX0_save 74 = .ok (.iadd, 1) := by decide +kernel
theorem dX0_save_75 : decode cX0_save 75 = .ok (.bipush 6, 2) := by decide +kernel
theorem dX0_save_77 : decode cX0_save 77 = .ok (.invokestatic 24, 3) := by decide +kernel
theorem dX0_save_80 : decode cX0_save 80 = .ok (.putfield 17, 3) := by decide +kernel
theorem dX0_save_83 : decode cX0_save 83 = .ok (.return_, 1) := by decide +kernel
theorem dX0_newest_0 : decode cX0_newest 0 = .ok (.aload_n 0, 1) := by decide +kernel
theorem dX0_newest_1 : decode cX0_newest 1 = .ok (.getfield 21, 3) := by decide +kernel
theorem dX0_newest_4 : decode cX0_newest 4 = .ok (.ifCond .ne 7, 3) := by decide +kernel
theorem dX0_newest_7 : decode cX0_newest 7 = .ok (.aconst_null, 1) := by decide +kernel
theorem dX0_newest_8 : decode cX0_newest 8 = .ok (.goto 24, 3) := by decide +kernel
theorem dX0_newest_11 : decode cX0_newest 11 = .ok (.aload_n 0, 1) := by decide +kernel
theorem dX0_newest_12 : decode cX0_newest 12 = .ok (.getfield 11, 3) := by decide +kernel
theorem dX0_newest_15 : decode cX0_newest 15 = .ok (.aload_n 0, 1) := by decide +kernel
theorem dX0_newest_16 : decode cX0_newest 16 = .ok (.getfield 17, 3) := by decide +kernel
theorem dX0_newest_19 : decode cX0_newest 19 = .ok (.aload_n 0, 1) := by decide +kernel
theorem dX0_newest_20 : decode cX0_newest 20 = .ok (.getfield 21, 3) := by decide +kernel
theorem dX0_newest_23 : decode cX0_newest 23 = .ok (.iadd, 1) := by decide +kernel
theorem dX0_newest_24 : decode cX0_newest 24 = .ok (.iconst 1, 1) := by decide +kernel
theorem dX0_newest_25 : decode cX0_newest 25 = .ok (.isub, 1) := by decide +kernel
theorem dX0_newest_26 : decode cX0_newest 26 = .ok (.bipush 6, 2) := by decide +kernel
theorem dX0_newest_28 : decode cX0_newest 28 = .ok (.invokestatic 24, 3) := by decide +kernel
theorem dX0_newest_31 : decode cX0_newest 31 = .ok (.aaload, 1) := by decide +kernel
theorem dX0_newest_32 : decode cX0_newest 32 = .ok (.areturn, 1) := by decide +kernel
theorem dX0_removeNewest_0 : decode cX0_removeNewest 0 = .ok (.aload_n 0, 1) := by decide +kernel
theorem dX0_removeNewest_1 : decode cX0_removeNewest 1 = .ok (.getfield 21, 3) := by decide +kernel
theorem dX0_removeNewest_4 : decode cX0_removeNewest 4 = .ok (.ifCond .le 13, 3) := by decide +kernel
theorem dX0_removeNewest_7 : decode cX0_removeNewest 7 = .ok (.aload_n 0, 1) := by decide +kernel
theorem dX0_removeNewest_8 : decode cX0_removeNewest 8 = .ok (.dup, 1) := by decide +kernel
theorem dX0_removeNewest_9 : decode cX0_removeNewest 9 = .ok (.getfield 21, 3) := by decide +kernel
theorem dX0_removeNewest_12 : decode cX0_removeNewest 12 = .ok (.iconst 1, 1) := by decide +kernel
theorem dX0_removeNewest_13 : decode cX0_removeNewest 13 = .ok (.isub, 1) := by decide +kernel
theorem dX0_removeNewest_14 : decode cX0_removeNewest 14 = .ok (.putfield 21, 3) := by decide +kernel
theorem dX0_removeNewest_17 : decode cX0_removeNewest 17 = .ok (.return_, 1) := by decide +kernel
theorem dX1_init_0 : decode cX1_init 0 = .ok (.aload_n 0, 1) := by decide +kernel
theorem dX1_init_1 : decode cX1_init 1 = .ok (.invokespecial 3, 3) := by decide +kernel
theorem dX1_init_4 : decode cX1_init 4 = .ok (.aload_n 0, 1) := by decide +kernel
theorem dX1_init_5 : decode cX1_init 5 = .ok (.bipush 60, 2) := by decide +kernel
theorem dX1_init_7 : decode cX1_init 7 = .ok (.newarray .int, 2) := by decide +kernel
theorem dX1_init_9 : decode cX1_init 9 = .ok (.putfield 9, 3) := by decide +kernel
theorem dX1_init_12 : decode cX1_init 12 = .ok (.aload_n 0, 1) := by decide +kernel
theorem dX1_init_13 : decode cX1_init 13 = .ok (.bipush 60, 2) := by decide +kernel
theorem dX1_init_15 : decode cX1_init 15 = .ok (.newarray .int, 2) := by decide +kernel
theorem dX1_init_17 : decode cX1_init 17 = .ok (.putfield 15, 3) := by decide +kernel
theorem dX1_init_20 : decode cX1_init 20 = .ok (.aload_n 0, 1) := by decide +kernel
theorem dX1_init_21 : decode cX1_init 21 = .ok (.bipush 60, 2) := by decide +kernel
theorem dX1_init_23 : decode cX1_init 23 = .ok (.newarray .int, 2) := by decide +kernel
theorem dX1_init_25 : decode cX1_init 25 = .ok (.putfield 18, 3) := by decide +kernel
theorem dX1_init_28 : decode cX1_init 28 = .ok (.aload_n 0, 1) := by decide +kernel
theorem dX1_init_29 : decode cX1_init 29 = .ok (.bipush 60, 2) := by decide +kernel
theorem dX1_init_31 : decode cX1_init 31 = .ok (.newarray .int, 2) := by decide +kernel
theorem dX1_init_33 : decode cX1_init 33 = .ok (.putfield 21, 3) := by decide +kernel
theorem dX1_init_36 : decode cX1_init 36 = .ok (.aload_n 0, 1) := by decide +kernel
theorem dX1_init_37 : decode cX1_init 37 = .ok (.bipush 10, 2) := by decide +kernel
theorem dX1_init_39 : decode cX1_init 39 = .ok (.newarray .int, 2) := by decide +kernel
theorem dX1_init_41 : decode cX1_init 41 = .ok (.putfield 24, 3) := by decide +kernel
theorem dX1_init_44 : decode cX1_init 44 = .ok (.aload_n 0, 1) := by decide +kernel
theorem dX1_init_45 : decode cX1_init 45 = .ok (.sipush 600, 3) := by decide +kernel
theorem dX1_init_48 : decode cX1_init 48 = .ok (.newarray .int, 2) := by decide +kernel
theorem dX1_init_50 : decode cX1_init 50 = .ok (.putfield 27, 3) := by decide +kernel
theorem dX1_init_53 : decode cX1_init 53 = .ok (.aload_n 0, 1) := by decide +kernel
theorem dX1_init_54 : decode cX1_init 54 = .ok (.sipush 600, 3) := by decide +kernel
theorem dX1_init_57 : decode cX1_init 57 = .ok (.newarray .int, 2) := by decide +kernel
theorem dX1_init_59 : decode cX1_init 59 = .ok (.putfield 30, 3) := by decide +kernel
theorem dX1_init_62 : decode cX1_init 62 = .ok (.return_, 1) := by decide +kernel
theorem dX1_copyFrom_0 : decode cX1_copyFrom 0 = .ok (.aload_n 1, 1) := by decide +kernel
theorem dX1_copyFrom_1 : decode cX1_copyFrom 1 = .ok (.getfield 9, 3) := by decide +kernel
theorem dX1_copyFrom_4 : decode cX1_copyFrom 4 = .ok (.aload_n 0, 1) := by decide +kernel
theorem dX1_copyFrom_5 : decode cX1_copyFrom 5 = .ok (.getfield 9, 3) := by decide +kernel
theorem dX1_copyFrom_8 : decode cX1_copyFrom 8 = .ok (.invokestatic 33, 3) := by decide +kernel
theorem dX1_copyFrom_11 : decode cX1_copyFrom 11 = .ok (.aload_n 1, 1) := by decide +kernel
theorem dX1_copyFrom_12 : decode cX1_copyFrom 12 = .ok (.getfield 15, 3) := by decide +kernel
theorem dX1_copyFrom_15 : decode cX1_copyFrom 15 = .ok (.aload_n 0, 1) := by decide +kernel
theorem dX1_copyFrom_16 : decode cX1_copyFrom 16 = .ok (.getfield 15, 3) := by decide +kernel
theorem dX1_copyFrom_19 : decode cX1_copyFrom 19 = .ok (.invokestatic 33, 3) := by decide +kernel
theorem dX1_copyFrom_22 : decode cX1_copyFrom 22 = .ok (.aload_n 1, 1) := by decide +kernel
theorem dX1_copyFrom_23 : decode cX1_copyFrom 23 = .ok (.getfield 18, 3) := by decide +kernel
theorem dX1_copyFrom_26 : decode cX1_copyFrom 26 = .ok (.aload_n 0, 1) := by decide +kernel
theorem dX1_copyFrom_27 : decode cX1_copyFrom 27 = .ok (.getfield 18, 3) := by decide +kernel
theorem dX1_copyFrom_30 : decode cX1_copyFrom 30 = .ok (.invokestatic 33, 3) := by decide +kernel
theorem dX1_copyFrom_33 : decode cX1_copyFrom 33 = .ok (.aload_n 1, 1) := by decide +kernel
theorem dX1_copyFrom_34 : decode cX1_copyFrom 34 = .ok (.getfield 21, 3) := by decide +kernel
theorem dX1_copyFrom_37 : decode cX1_copyFrom 37 = .ok (.aload_n 0, 1) := by decide +kernel
theorem dX1_copyFrom_38 : decode cX1_copyFrom 38 = .ok (.getfield 21, 3) := by decide +kernel
theorem dX1_copyFrom_41 : decode cX1_copyFrom 41 = .ok (.invokestatic 33, 3) := by decide +kernel
theorem dX1_copyFrom_44 : decode cX1_copyFrom 44 = .ok (.aload_n 0, 1) := by decide +kernel
theorem dX1_copyFrom_45 : decode cX1_copyFrom 45 = .ok (.aload_n 1, 1) := by decide +kernel
theorem dX1_copyFrom_46 : decode cX1_copyFrom 46 = .ok (.getfield 37, 3) := by decide +kernel
theorem dX1_copyFrom_49 : decode cX1_copyFrom 49 = .ok (.putfield 37, 3) := by decide +kernel
theorem dX1_copyFrom_52 : decode cX1_copyFrom 52 = .ok (.aload_n 1, 1) := by decide +kernel
theorem dX1_copyFrom_53 : decode cX1_copyFrom 53 = .ok (.getfield 24, 3) := by decide +kernel
theorem dX1_copyFrom_56 : decode cX1_copyFrom 56 = .ok (.aload_n 0, 1) := by decide +kernel
theorem dX1_copyFrom_57 : decode cX1_copyFrom 57 = .ok (.getfield 24, 3) := by decide +kernel
theorem dX1_copyFrom_60 : decode cX1_copyFrom 60 = .ok (.invokestatic 33, 3) := by decide +kernel
theorem dX1_copyFrom_63 : decode cX1_copyFrom 63 = .ok (.aload_n 1, 1) := by decide +kernel
theorem dX1_copyFrom_64 : decode cX1_copyFrom 64 = .ok (.getfield 27, 3) := by decide +kernel
theorem dX1_copyFrom_67 : decode cX1_copyFrom 67 = .ok (.aload_n 0, 1) := by decide +kernel
theorem dX1_copyFrom_68 : decode cX1_copyFrom 68 = .ok (.getfield 27, 3) := by decide +kernel
theorem dX1_copyFrom_71 : decode cX1_copyFrom 71 = .ok (.invokestatic 33, 3) := by decide +kernel
theorem dX1_copyFrom_74 : decode cX1_copyFrom 74 = .ok (.aload_n 1, 1) := by decide +kernel
theorem dX1_copyFrom_75 : decode cX1_copyFrom 75 = .ok (.getfield 30, 3) := by decide +kernel
theorem dX1_copyFrom_78 : decode cX1_copyFrom 78 = .ok (.aload_n 0, 1) := by decide +kernel
theorem dX1_copyFrom_79 : decode cX1_copyFrom 79 = .ok (.getfield 30, 3) := by decide +kernel
theorem dX1_copyFrom_82 : decode cX1_copyFrom 82 = .ok (.invokestatic 33, 3) := by decide +kernel
theorem dX1_copyFrom_85 : decode cX1_copyFrom 85 = .ok (.return_, 1) := by decide +kernel
theorem dX1_takeAt_0 : decode cX1_takeAt 0 = .ok (.aload_n 0, 1) := by decide +kernel
theorem dX1_takeAt_1 : decode cX1_takeAt 1 = .ok (.getfield 37, 3) := by decide +kernel
theorem dX1_takeAt_4 : decode cX1_takeAt 4 = .ok (.istore 5, 2) := by decide +kernel
theorem dX1_takeAt_6 : decode cX1_takeAt 6 = .ok (.iload 5, 2) := by decide +kernel
theorem dX1_takeAt_8 : decode cX1_takeAt 8 = .ok (.ifCond .lt 10, 3) := by decide +kernel
theorem dX1_takeAt_11 : decode cX1_takeAt 11 = .ok (.iload 5, 2) := by decide +kernel
theorem dX1_takeAt_13 : decode cX1_takeAt 13 = .ok (.bipush 60, 2) := by decide +kernel
theorem dX1_takeAt_15 : decode cX1_takeAt 15 = .ok (.if_icmp .lt 5, 3) := by decide +kernel
theorem dX1_takeAt_18 : decode cX1_takeAt 18 = .ok (.iconst (-1), 1) := by decide +kernel
theorem dX1_takeAt_19 : decode cX1_takeAt 19 = .ok (.ireturn, 1) := by decide +kernel
theorem dX1_takeAt_20 : decode cX1_takeAt 20 = .ok (.aload_n 0, 1) := by decide +kernel
theorem dX1_takeAt_21 : decode cX1_takeAt 21 = .ok (.iload_n 1, 1) := by decide +kernel
theorem dX1_takeAt_22 : decode cX1_takeAt 22 = .ok (.invokevirtual 41, 3) := by decide +kernel
theorem dX1_takeAt_25 : decode cX1_takeAt 25 = .ok (.istore 6, 2) := by decide +kernel
theorem dX1_takeAt_27 : decode cX1_takeAt 27 = .ok (.aload_n 0, 1) := by decide +kernel
theorem dX1_takeAt_28 : decode cX1_takeAt 28 = .ok (.getfield 9, 3) := by decide +kernel
theorem dX1_takeAt_31 : decode cX1_takeAt 31 = .ok (.iload 5, 2) := by decide +kernel
theorem dX1_takeAt_33 : decode cX1_takeAt 33 = .ok (.iload_n 1, 1) := by decide +kernel
theorem dX1_takeAt_34 : decode cX1_takeAt 34 = .ok (.iastore, 1) := by decide +kernel
theorem dX1_takeAt_35 : decode cX1_takeAt 35 = .ok (.aload_n 0, 1) := by decide +kernel
theorem dX1_takeAt_36 : decode cX1_takeAt 36 = .ok (.getfield 15, 3) := by decide +kernel
theorem dX1_takeAt_39 : decode cX1_takeAt 39 = .ok (.iload 5, 2) := by decide +kernel
theorem dX1_takeAt_41 : decode cX1_takeAt 41 = .ok (.iload 6, 2) := by decide +kernel
theorem dX1_takeAt_43 : decode cX1_takeAt 43 = .ok (.iastore, 1) := by decide +kernel
theorem dX1_takeAt_44 : decode cX1_takeAt 44 = .ok (.aload_n 0, 1) := by decide +kernel
theorem dX1_takeAt_45 : decode cX1_takeAt 45 = .ok (.getfield 18, 3) := by decide +kernel
theorem dX1_takeAt_48 : decode cX1_takeAt 48 = .ok (.iload 5, 2) := by decide +kernel
theorem dX1_takeAt_50 : decode cX1_takeAt 50 = .ok (.iload_n 2, 1) := by decide +kernel
theorem dX1_takeAt_51 : decode cX1_takeAt 51 = .ok (.iastore, 1) := by decide +kernel
theorem dX1_takeAt_52 : decode cX1_takeAt 52 = .ok (.aload_n 0, 1) := by decide +kernel
theorem dX1_takeAt_53 : decode cX1_takeAt 53 = .ok (.getfield 21, 3) := by decide +kernel
theorem dX1_takeAt_56 : decode cX1_takeAt 56 = .ok (.iload 5, 2) := by decide +kernel
theorem dX1_takeAt_58 : decode cX1_takeAt 58 = .ok (.iload_n 3, 1) := by decide +kernel
theorem dX1_takeAt_59 : decode cX1_takeAt 59 = .ok (.iastore, 1) := by decide +kernel
theorem dX1_takeAt_60 : decode cX1_takeAt 60 = .ok (.aload_n 0, 1) := by decide +kernel
theorem dX1_takeAt_61 : decode cX1_takeAt 61 = .ok (.dup, 1) := by decide +kernel
theorem dX1_takeAt_62 : decode cX1_takeAt 62 = .ok (.getfield 37, 3) := by decide +kernel
theorem dX1_takeAt_65 : decode cX1_takeAt 65 = .ok (.iconst 1, 1) := by decide +kernel
theorem dX1_takeAt_66 : decode cX1_takeAt 66 = .ok (.iadd, 1) := by decide +kernel
theorem dX1_takeAt_67 : decode cX1_takeAt 67 = .ok (.putfield 37, 3) := by decide +kernel
theorem dX1_takeAt_70 : decode cX1_takeAt 70 = .ok (.aload_n 0, 1) := by decide +kernel
theorem dX1_takeAt_71 : decode cX1_takeAt 71 = .ok (.iload_n 1, 1) := by decide +kernel
theorem dX1_takeAt_72 : decode cX1_takeAt 72 = .ok (.iload 5, 2) := by decide +kernel
theorem dX1_takeAt_74 : decode cX1_takeAt 74 = .ok (.iload 4, 2) := by decide +kernel
theorem dX1_takeAt_76 : decode cX1_takeAt 76 = .ok (.invokevirtual 45, 3) := by decide +kernel
theorem dX1_takeAt_79 : decode cX1_takeAt 79 = .ok (.iload 6, 2) := by decide +kernel
theorem dX1_takeAt_81 : decode cX1_takeAt 81 = .ok (.ireturn, 1) := by decide +kernel
theorem dX1_takenAt_0 : decode cX1_takenAt 0 = .ok (.iconst 0, 1) := by decide +kernel
theorem dX1_takenAt_1 : decode cX1_takenAt 1 = .ok (.istore_n 2, 1) := by decide +kernel
theorem dX1_takenAt_2 : decode cX1_takenAt 2 = .ok (.iconst 0, 1) := by decide +kernel
theorem dX1_takenAt_3 : decode cX1_takenAt 3 = .ok (.istore_n 3, 1) := by decide +kernel
theorem dX1_takenAt_4 : decode cX1_takenAt 4 = .ok (.iload_n 3, 1) := by decide +kernel
theorem dX1_takenAt_5 : decode cX1_takenAt 5 = .ok (.bipush 60, 2) := by decide +kernel
theorem dX1_takenAt_7 : decode cX1_takenAt 7 = .ok (.if_icmp .ge 35, 3) := by decide +kernel
theorem dX1_takenAt_10 : decode cX1_takenAt 10 = .ok (.iload_n 3, 1) := by decide +kernel
theorem dX1_takenAt_11 : decode cX1_takenAt 11 = .ok (.aload_n 0, 1) := by decide +kernel
theorem dX1_takenAt_12 : decode cX1_takenAt 12 = .ok (.getfield 37, 3) := by decide +kernel
theorem dX1_takenAt_15 : decode cX1_takenAt 15 = .ok (.if_icmp .ge 27, 3) := by decide +kernel
theorem dX1_takenAt_18 : decode cX1_takenAt 18 = .ok (.iload_n 2, 1) := by decide +kernel
theorem dX1_takenAt_19 : decode cX1_takenAt 19 = .ok (.aload_n 0, 1) := by decide +kernel
theorem dX1_takenAt_20 : decode cX1_takenAt 20 = .ok (.getfield 9, 3) := by decide +kernel
theorem dX1_takenAt_23 : decode cX1_takenAt 23 = .ok (.iload_n 3, 1) := by decide +kernel
theorem dX1_takenAt_24 : decode cX1_takenAt 24 = .ok (.iaload, 1) := by decide +kernel
theorem dX1_takenAt_25 : decode cX1_takenAt 25 = .ok (.iload_n 1, 1) := by decide +kernel
theorem dX1_takenAt_26 : decode cX1_takenAt 26 = .ok (.if_icmp .ne 7, 3) := by decide +kernel
theorem dX1_takenAt_29 : decode cX1_takenAt 29 = .ok (.iconst 1, 1) := by decide +kernel
theorem dX1_takenAt_30 : decode cX1_takenAt 30 = .ok (.goto 4, 3) := by decide +kernel
theorem dX1_takenAt_33 : decode cX1_takenAt 33 = .ok (.iconst 0, 1) := by decide +kernel
theorem dX1_takenAt_34 : decode cX1_takenAt 34 = .ok (.iadd, 1) := by decide +kernel
theorem dX1_takenAt_35 : decode cX1_takenAt 35 = .ok (.istore_n 2, 1) := by decide +kernel
theorem dX1_takenAt_36 : decode cX1_takenAt 36 = .ok (.iinc 3 1, 3) := by decide +kernel
theorem dX1_takenAt_39 : decode cX1_takenAt 39 = .ok (.goto (-35), 3) := by decide +kernel
theorem dX1_takenAt_42 : decode cX1_takenAt 42 = .ok (.iload_n 2, 1) := by decide +kernel
theorem dX1_takenAt_43 : decode cX1_takenAt 43 = .ok (.ireturn, 1) := by decide +kernel
theorem dX1_findId_0 : decode cX1_findId 0 = .ok (.iconst 0, 1) := by decide +kernel
theorem dX1_findId_1 : decode cX1_findId 1 = .ok (.istore_n 3, 1) := by decide +kernel
theorem dX1_findId_2 : decode cX1_findId 2 = .ok (.iload_n 3, 1) := by decide +kernel
theorem dX1_findId_3 : decode cX1_findId 3 = .ok (.bipush 60, 2) := by decide +kernel
theorem dX1_findId_5 : decode cX1_findId 5 = .ok (.if_icmp .ge 39, 3) := by decide +kernel
theorem dX1_findId_8 : decode cX1_findId 8 = .ok (.iload_n 3, 1) := by decide +kernel
theorem dX1_findId_9 : decode cX1_findId 9 = .ok (.aload_n 0, 1) := by decide +kernel
theorem dX1_findId_10 : decode cX1_findId 10 = .ok (.getfield 37, 3) := by decide +kernel
theorem dX1_findId_13 : decode cX1_findId 13 = .ok (.if_icmp .ge 31, 3) := by decide +kernel
theorem dX1_findId_16 : decode cX1_findId 16 = .ok (.aload_n 0, 1) := by decide +kernel
theorem dX1_findId_17 : decode cX1_findId 17 = .ok (.getfield 9, 3) := by decide +kernel
theorem dX1_findId_20 : decode cX1_findId 20 = .ok (.iload_n 3, 1) := by decide +kernel
theorem dX1_findId_21 : decode cX1_findId 21 = .ok (.iaload, 1) := by decide +kernel
theorem dX1_findId_22 : decode cX1_findId 22 = .ok (.iload_n 1, 1) := by decide +kernel
theorem dX1_findId_23 : decode cX1_findId 23 = .ok (.if_icmp .ne 15, 3) := by decide +kernel
theorem dX1_findId_26 : decode cX1_findId 26 = .ok (.aload_n 0, 1) := by decide +kernel
theorem dX1_findId_27 : decode cX1_findId 27 = .ok (.getfield 15, 3) := by decide +kernel
theorem dX1_findId_30 : decode cX1_findId 30 = .ok (.iload_n 3, 1) := by decide +kernel
theorem dX1_findId_31 : decode cX1_findId 31 = .ok (.iaload, 1) := by decide +kernel
theorem dX1_findId_32 : decode cX1_findId 32 = .ok (.iload_n 2, 1) := by decide +kernel
theorem dX1_findId_33 : decode cX1_findId 33 = .ok (.if_icmp .ne 5, 3) := by decide +kernel
theorem dX1_findId_36 : decode cX1_findId 36 = .ok (.iload_n 3, 1) := by decide +kernel
theorem dX1_findId_37 : decode cX1_findId 37 = .ok (.ireturn, 1) := by decide +kernel
theorem dX1_findId_38 : decode cX1_findId 38 = .ok (.iinc 3 1, 3) := by decide +kernel
theorem dX1_findId_41 : decode cX1_findId 41 = .ok (.goto (-39), 3) := by decide +kernel
theorem dX1_findId_44 : decode cX1_findId 44 = .ok (.iconst (-1), 1) := by decide +kernel
theorem dX1_findId_45 : decode cX1_findId 45 = .ok (.ireturn, 1) := by decide +kernel
theorem dX1_missingCount_0 : decode cX1_missingCount 0 = .ok (.aload_n 0, 1) := by decide +kernel
theorem dX1_missingCount_1 : decode cX1_missingCount 1 = .ok (.getfield 37, 3) := by decide +kernel
theorem dX1_missingCount_4 : decode cX1_missingCount 4 = .ok (.aload_n 0, 1) := by decide +kernel
theorem dX1_missingCount_5 : decode cX1_missingCount 5 = .ok (.iconst 0, 1) := by decide +kernel
theorem dX1_missingCount_6 : decode cX1_missingCount 6 = .ok (.invokevirtual 49, 3) := by decide +kernel
theorem dX1_missingCount_9 : decode cX1_missingCount 9 = .ok (.isub, 1) := by decide +kernel
theorem dX1_missingCount_10 : decode cX1_missingCount 10 = .ok (.ireturn, 1) := by decide +kernel
theorem dX1_sizeOf_0 : decode cX1_sizeOf 0 = .ok (.iload_n 1, 1) := by decide +kernel
theorem dX1_sizeOf_1 : decode cX1_sizeOf 1 = .ok (.ifCond .lt 13, 3) := by decide +kernel
theorem dX1_sizeOf_4 : decode cX1_sizeOf 4 = .ok (.iload_n 1, 1) := by decide +kernel
theorem dX1_sizeOf_5 : decode cX1_sizeOf 5 = .ok (.bipush 10, 2) := by decide +kernel
theorem dX1_sizeOf_7 : decode cX1_sizeOf 7 = .ok (.if_icmp .ge 7, 3) := by decide +kernel
theorem dX1_sizeOf_10 : decode cX1_sizeOf 10 = .ok (.iconst 1, 1) := by decide +kernel
theorem dX1_sizeOf_11 : decode cX1_sizeOf 11 = .ok (.goto 4, 3) := by decide +kernel
theorem dX1_sizeOf_14 : decode cX1_sizeOf 14 = .ok (.iconst 0, 1) := by decide +kernel
theorem dX1_sizeOf_15 : decode cX1_sizeOf 15 = .ok (.istore_n 2, 1) := by decide +kernel
theorem dX1_sizeOf_16 : decode cX1_sizeOf 16 = .ok (.iload_n 2, 1) := by decide +kernel
theorem dX1_sizeOf_17 : decode cX1_sizeOf 17 = .ok (.ifCond .eq 17, 3) := by decide +kernel
theorem dX1_sizeOf_20 : decode cX1_sizeOf 20 = .ok (.aload_n 0, 1) := by decide +kernel
theorem dX1_sizeOf_21 : decode cX1_sizeOf 21 = .ok (.getfield 24, 3) := by decide +kernel
theorem dX1_sizeOf_24 : decode cX1_sizeOf 24 = .ok (.iload_n 1, 1) := by decide +kernel
theorem dX1_sizeOf_25 : decode cX1_sizeOf 25 = .ok (.iaload, 1) := by decide +kernel
theorem dX1_sizeOf_26 : decode cX1_sizeOf 26 = .ok (.bipush 60, 2) := by decide +kernel
theorem dX1_sizeOf_28 : decode cX1_sizeOf 28 = .ok (.invokestatic 52, 3) := by decide +kernel
theorem dX1_sizeOf_31 : decode cX1_sizeOf 31 = .ok (.goto 4, 3) := by decide +kernel
theorem dX1_sizeOf_34 : decode cX1_sizeOf 34 = .ok (.iconst 0, 1) := by decide +kernel
theorem dX1_sizeOf_35 : decode cX1_sizeOf 35 = .ok (.ireturn, 1) := by decide +kernel
theorem dX1_isFull_0 : decode cX1_isFull 0 = .ok (.aload_n 0, 1) := by decide +kernel
theorem dX1_isFull_1 : decode cX1_isFull 1 = .ok (.iload_n 1, 1) := by decide +kernel
theorem dX1_isFull_2 : decode cX1_isFull 2 = .ok (.invokevirtual 49, 3) := by decide +kernel
theorem dX1_isFull_5 : decode cX1_isFull 5 = .ok (.iload_n 1, 1) := by decide +kernel
theorem dX1_isFull_6 : decode cX1_isFull 6 = .ok (.ifCond .ne 8, 3) := by decide +kernel
theorem dX1_isFull_9 : decode cX1_isFull 9 = .ok (.bipush 60, 2) := by decide +kernel
theorem dX1_isFull_11 : decode cX1_isFull 11 = .ok (.goto 5, 3) := by decide +kernel
theorem dX1_isFull_14 : decode cX1_isFull 14 = .ok (.bipush 6, 2) := by decide +kernel
theorem dX1_isFull_16 : decode cX1_isFull 16 = .ok (.if_icmp .lt 7, 3) := by decide +kernel
theorem dX1_isFull_19 : decode cX1_isFull 19 = .ok (.iconst 1, 1) := by decide +kernel
theorem dX1_isFull_20 : decode cX1_isFull 20 = .ok (.goto 4, 3) := by decide +kernel
theorem dX1_isFull_23 : decode cX1_isFull 23 = .ok (.iconst 0, 1) := by decide +kernel
theorem dX1_isFull_24 : decode cX1_isFull 24 = .ok (.ireturn, 1) := by decide +kernel
theorem dX1_idAt_0 : decode cX1_idAt 0 = .ok (.iload_n 2, 1) := by decide +kernel
theorem dX1_idAt_1 : decode cX1_idAt 1 = .ok (.ifCond .lt 16, 3) := by decide +kernel
theorem dX1_idAt_4 : decode cX1_idAt 4 = .ok (.iload_n 2, 1) := by decide +kernel
theorem dX1_idAt_5 : decode cX1_idAt 5 = .ok (.aload_n 0, 1) := by decide +kernel
theorem dX1_idAt_6 : decode cX1_idAt 6 = .ok (.iload_n 1, 1) := by decide +kernel
theorem dX1_idAt_7 : decode cX1_idAt 7 = .ok (.invokevirtual 49, 3) := by decide +kernel
theorem dX1_idAt_10 : decode cX1_idAt 10 = .ok (.if_icmp .ge 7, 3) := by decide +kernel
theorem dX1_idAt_13 : decode cX1_idAt 13 = .ok (.iconst 1, 1) := by decide +kernel
theorem dX1_idAt_14 : decode cX1_idAt 14 = .ok (.goto 4, 3) := by decide +kernel
theorem dX1_idAt_17 : decode cX1_idAt 17 = .ok (.iconst 0, 1) := by decide +kernel
theorem dX1_idAt_18 : decode cX1_idAt 18 = .ok (.istore_n 3, 1) := by decide +kernel
theorem dX1_idAt_19 : decode cX1_idAt 19 = .ok (.iload_n 3, 1) := by decide +kernel
theorem dX1_idAt_20 : decode cX1_idAt 20 = .ok (.ifCond .eq 17, 3) := by decide +kernel
theorem dX1_idAt_23 : decode cX1_idAt 23 = .ok (.aload_n 0, 1) := by decide +kernel
theorem dX1_idAt_24 : decode cX1_idAt 24 = .ok (.getfield 27, 3) := by decide +kernel
theorem dX1_idAt_27 : decode cX1_idAt 27 = .ok (.iload_n 1, 1) := by decide +kernel
theorem dX1_idAt_28 : decode cX1_idAt 28 = .ok (.bipush 60, 2) := by decide +kernel
theorem dX1_idAt_30 : decode cX1_idAt 30 = .ok (.imul, 1) := by decide +kernel
theorem dX1_idAt_31 : decode cX1_idAt 31 = .ok (.iload_n 2, 1) := by decide +kernel
theorem dX1_idAt_32 : decode cX1_idAt 32 = .ok (.iadd, 1) := by decide +kernel
theorem dX1_idAt_33 : decode cX1_idAt 33 = .ok (.iaload, 1) := by decide +kernel
theorem dX1_idAt_34 : decode cX1_idAt 34 = .ok (.goto 4, 3) := by decide +kernel
theorem dX1_idAt_37 : decode cX1_idAt 37 = .ok (.iconst (-1), 1) := by decide +kernel
theorem dX1_idAt_38 : decode cX1_idAt 38 = .ok (.ireturn, 1) := by decide +kernel
theorem dX1_stampAt_0 : decode cX1_stampAt 0 = .ok (.iload_n 2, 1) := by decide +kernel
theorem dX1_stampAt_1 : decode cX1_stampAt 1 = .ok (.ifCond .lt 16, 3) := by decide +kernel
theorem dX1_stampAt_4 : decode cX1_stampAt 4 = .ok (.iload_n 2, 1) := by decide +kernel
theorem dX1_stampAt_5 : decode cX1_stampAt 5 = .ok (.aload_n 0, 1) := by decide +kernel
theorem dX1_stampAt_6 : decode cX1_stampAt 6 = .ok (.iload_n 1, 1) := by decide +kernel
theorem dX1_stampAt_7 : decode cX1_stampAt 7 = .ok (.invokevirtual 49, 3) := by decide +kernel
theorem dX1_stampAt_10 : decode cX1_stampAt 10 = .ok (.if_icmp .ge 7, 3) := by decide +kernel
theorem dX1_stampAt_13 : decode cX1_stampAt 13 = .ok (.iconst 1, 1) := by decide +kernel
theorem dX1_stampAt_14 : decode cX1_stampAt 14 = .ok (.goto 4, 3) := by decide +kernel
theorem dX1_stampAt_17 : decode cX1_stampAt 17 = .ok (.iconst 0, 1) := by decide +kernel
theorem dX1_stampAt_18 : decode cX1_stampAt 18 = .ok (.istore_n 3, 1) := by decide +kernel
theorem dX1_stampAt_19 : decode cX1_stampAt 19 = .ok (.iload_n 3, 1) := by decide +kernel
theorem dX1_stampAt_20 : decode cX1_stampAt 20 = .ok (.ifCond .eq 17, 3) := by decide +kernel
theorem dX1_stampAt_23 : decode cX1_stampAt 23 = .ok (.aload_n 0, 1) := by decide +kernel
theorem dX1_stampAt_24 : decode cX1_stampAt 24 = .ok (.getfield 30, 3) := by decide +kernel
theorem dX1_stampAt_27 : decode cX1_stampAt 27 = .ok (.iload_n 1, 1) := by decide +kernel
theorem dX1_stampAt_28 : decode cX1_stampAt 28 = .ok (.bipush 60, 2) := by decide +kernel
theorem dX1_stampAt_30 : decode cX1_stampAt 30 = .ok (.imul, 1) := by decide +kernel
theorem dX1_stampAt_31 : decode cX1_stampAt 31 = .ok (.iload_n 2, 1) := by decide +kernel
theorem dX1_stampAt_32 : decode cX1_stampAt 32 = .ok (.iadd, 1) := by decide +kernel
theorem dX1_stampAt_33 : decode cX1_stampAt 33 = .ok (.iaload, 1) := by decide +kernel
theorem dX1_stampAt_34 : decode cX1_stampAt 34 = .ok (.goto 4, 3) := by decide +kernel
theorem dX1_stampAt_37 : decode cX1_stampAt 37 = .ok (.iconst (-1), 1) := by decide +kernel
theorem dX1_stampAt_38 : decode cX1_stampAt 38 = .ok (.ireturn, 1) := by decide +kernel
theorem dX1_partOf_0 : decode cX1_partOf 0 = .ok (.aload_n 0, 1) := by decide +kernel
theorem dX1_partOf_1 : decode cX1_partOf 1 = .ok (.iload_n 1, 1) := by decide +kernel
theorem dX1_partOf_2 : decode cX1_partOf 2 = .ok (.iload_n 2, 1) := by decide +kernel
theorem dX1_partOf_3 : decode cX1_partOf 3 = .ok (.invokevirtual 58, 3) := by decide +kernel
theorem dX1_partOf_6 : decode cX1_partOf 6 = .ok (.istore 4, 2) := by decide +kernel
theorem dX1_partOf_8 : decode cX1_partOf 8 = .ok (.iload 4, 2) := by decide +kernel
theorem dX1_partOf_10 : decode cX1_partOf 10 = .ok (.ifCond .lt 10, 3) := by decide +kernel
theorem dX1_partOf_13 : decode cX1_partOf 13 = .ok (.iload 4, 2) := by decide +kernel
theorem dX1_partOf_15 : decode cX1_partOf 15 = .ok (.bipush 60, 2) := by decide +kernel
theorem dX1_partOf_17 : decode cX1_partOf 17 = .ok (.if_icmp .lt 5, 3) := by decide +kernel
theorem dX1_partOf_20 : decode cX1_partOf 20 = .ok (.iconst (-1), 1) := by decide +kernel
theorem dX1_partOf_21 : decode cX1_partOf 21 = .ok (.ireturn, 1) := by decide +kernel
theorem dX1_partOf_22 : decode cX1_partOf 22 = .ok (.iload_n 3, 1) := by decide +kernel
theorem dX1_partOf_23 : decode cX1_partOf 23 = .ok (.tableswitch 61 0 3 #[29, 37, 45, 53], 29) := by decide +kernel
theorem dX1_partOf_52 : decode cX1_partOf 52 = .ok (.aload_n 0, 1) := by decide +kernel
theorem dX1_partOf_53 : decode cX1_partOf 53 = .ok (.getfield 9, 3) := by decide +kernel
theorem dX1_partOf_56 : decode cX1_partOf 56 = .ok (.iload 4, 2) := by decide +kernel
theorem dX1_partOf_58 : decode cX1_partOf 58 = .ok (.iaload, 1) := by decide +kernel
theorem dX1_partOf_59 : decode cX1_partOf 59 = .ok (.ireturn, 1) := by decide +kernel
theorem dX1_partOf_60 : decode cX1_partOf 60 = .ok (.aload_n 0, 1) := by decide +kernel
theorem dX1_partOf_61 : decode cX1_partOf 61 = .ok (.getfield 15, 3) := by decide +kernel
theorem dX1_partOf_64 : decode cX1_partOf 64 = .ok (.iload 4, 2) := by decide +kernel
theorem dX1_partOf_66 : decode cX1_partOf 66 = .ok (.iaload, 1) := by decide +kernel
theorem dX1_partOf_67 : decode cX1_partOf 67 = .ok (.ireturn, 1) := by decide +kernel
theorem dX1_partOf_68 : decode cX1_partOf 68 = .ok (.aload_n 0, 1) := by decide +kernel
theorem dX1_partOf_69 : decode cX1_partOf 69 = .ok (.getfield 18, 3) := by decide +kernel
theorem dX1_partOf_72 : decode cX1_partOf 72 = .ok (.iload 4, 2) := by decide +kernel
theorem dX1_partOf_74 : decode cX1_partOf 74 = .ok (.iaload, 1) := by decide +kernel
theorem dX1_partOf_75 : decode cX1_partOf 75 = .ok (.ireturn, 1) := by decide +kernel
theorem dX1_partOf_76 : decode cX1_partOf 76 = .ok (.aload_n 0, 1) := by decide +kernel
theorem dX1_partOf_77 : decode cX1_partOf 77 = .ok (.getfield 21, 3) := by decide +kernel
theorem dX1_partOf_80 : decode cX1_partOf 80 = .ok (.iload 4, 2) := by decide +kernel
theorem dX1_partOf_82 : decode cX1_partOf 82 = .ok (.iaload, 1) := by decide +kernel
theorem dX1_partOf_83 : decode cX1_partOf 83 = .ok (.ireturn, 1) := by decide +kernel
theorem dX1_partOf_84 : decode cX1_partOf 84 = .ok (.aload_n 0, 1) := by decide +kernel
theorem dX1_partOf_85 : decode cX1_partOf 85 = .ok (.iload_n 1, 1) := by decide +kernel
theorem dX1_partOf_86 : decode cX1_partOf 86 = .ok (.iload_n 2, 1) := by decide +kernel
theorem dX1_partOf_87 : decode cX1_partOf 87 = .ok (.invokevirtual 61, 3) := by decide +kernel
theorem dX1_partOf_90 : decode cX1_partOf 90 = .ok (.ireturn, 1) := by decide +kernel
theorem dX1_holds_0 : decode cX1_holds 0 = .ok (.iconst 0, 1) := by decide +kernel
theorem dX1_holds_1 : decode cX1_holds 1 = .ok (.istore_n 3, 1) := by decide +kernel
theorem dX1_holds_2 : decode cX1_holds 2 = .ok (.iload_n 3, 1) := by decide +kernel
theorem dX1_holds_3 : decode cX1_holds 3 = .ok (.aload_n 0, 1) := by decide +kernel
theorem dX1_holds_4 : decode cX1_holds 4 = .ok (.iload_n 1, 1) := by decide +kernel
theorem dX1_holds_5 : decode cX1_holds 5 = .ok (.invokevirtual 49, 3) := by decide +kernel
theorem dX1_holds_8 : decode cX1_holds 8 = .ok (.if_icmp .ge 26, 3) := by decide +kernel
theorem dX1_holds_11 : decode cX1_holds 11 = .ok (.aload_n 0, 1) := by decide +kernel
theorem dX1_holds_12 : decode cX1_holds 12 = .ok (.getfield 27, 3) := by decide +kernel
theorem dX1_holds_15 : decode cX1_holds 15 = .ok (.iload_n 1, 1) := by decide +kernel
theorem dX1_holds_16 : decode cX1_holds 16 = .ok (.bipush 60, 2) := by decide +kernel
theorem dX1_holds_18 : decode cX1_holds 18 = .ok (.imul, 1) := by decide +kernel
theorem dX1_holds_19 : decode cX1_holds 19 = .ok (.iload_n 3, 1) := by decide +kernel
theorem dX1_holds_20 : decode cX1_holds 20 = .ok (.iadd, 1) := by decide +kernel
theorem dX1_holds_21 : decode cX1_holds 21 = .ok (.iaload, 1) := by decide +kernel
theorem dX1_holds_22 : decode cX1_holds 22 = .ok (.iload_n 2, 1) := by decide +kernel
theorem dX1_holds_23 : decode cX1_holds 23 = .ok (.if_icmp .ne 5, 3) := by decide +kernel
theorem dX1_holds_26 : decode cX1_holds 26 = .ok (.iconst 1, 1) := by decide +kernel
theorem dX1_holds_27 : decode cX1_holds 27 = .ok (.ireturn, 1) := by decide +kernel
theorem dX1_holds_28 : decode cX1_holds 28 = .ok (.iinc 3 1, 3) := by decide +kernel
theorem dX1_holds_31 : decode cX1_holds 31 = .ok (.goto (-29), 3) := by decide +kernel
theorem dX1_holds_34 : decode cX1_holds 34 = .ok (.iconst 0, 1) := by decide +kernel
theorem dX1_holds_35 : decode cX1_holds 35 = .ok (.ireturn, 1) := by decide +kernel
theorem dX1_storesWith_0 : decode cX1_storesWith 0 = .ok (.iconst 0, 1) := by decide +kernel
theorem dX1_storesWith_1 : decode cX1_storesWith 1 = .ok (.istore_n 2, 1) := by decide +kernel
theorem dX1_storesWith_2 : decode cX1_storesWith 2 = .ok (.iconst 0, 1) := by decide +kernel
theorem dX1_storesWith_3 : decode cX1_storesWith 3 = .ok (.istore_n 3, 1) := by decide +kernel
theorem dX1_storesWith_4 : decode cX1_storesWith 4 = .ok (.iload_n 3, 1) := by decide +kernel
theorem dX1_storesWith_5 : decode cX1_storesWith 5 = .ok (.bipush 10, 2) := by decide +kernel
theorem dX1_storesWith_7 : decode cX1_storesWith 7 = .ok (.if_icmp .ge 30, 3) := by decide +kernel
theorem dX1_storesWith_10 : decode cX1_storesWith 10 = .ok (.iload_n 2, 1) := by decide +kernel
theorem dX1_storesWith_11 : decode cX1_storesWith 11 = .ok (.iload_n 3, 1) := by decide +kernel
theorem dX1_storesWith_12 : decode cX1_storesWith 12 = .ok (.ifCond .eq 16, 3) := by decide +kernel
theorem dX1_storesWith_15 : decode cX1_storesWith 15 = .ok (.aload_n 0, 1) := by decide +kernel
theorem dX1_storesWith_16 : decode cX1_storesWith 16 = .ok (.iload_n 3, 1) := by decide +kernel
theorem dX1_storesWith_17 : decode cX1_storesWith 17 = .ok (.iload_n 1, 1) := by decide +kernel
theorem dX1_storesWith_18 : decode cX1_storesWith 18 = .ok (.invokevirtual 64, 3) := by decide +kernel
theorem dX1_storesWith_21 : decode cX1_storesWith 21 = .ok (.ifCond .eq 7, 3) := by decide +kernel
theorem dX1_storesWith_24 : decode cX1_storesWith 24 = .ok (.iconst 1, 1) := by decide +kernel
theorem dX1_storesWith_25 : decode cX1_storesWith 25 = .ok (.goto 4, 3) := by decide +kernel
theorem dX1_storesWith_28 : decode cX1_storesWith 28 = .ok (.iconst 0, 1) := by decide +kernel
theorem dX1_storesWith_29 : decode cX1_storesWith 29 = .ok (.iadd, 1) := by decide +kernel
theorem dX1_storesWith_30 : decode cX1_storesWith 30 = .ok (.istore_n 2, 1) := by decide +kernel
theorem dX1_storesWith_31 : decode cX1_storesWith 31 = .ok (.iinc 3 1, 3) := by decide +kernel
theorem dX1_storesWith_34 : decode cX1_storesWith 34 = .ok (.goto (-30), 3) := by decide +kernel
theorem dX1_storesWith_37 : decode cX1_storesWith 37 = .ok (.iload_n 2, 1) := by decide +kernel
theorem dX1_storesWith_38 : decode cX1_storesWith 38 = .ok (.ireturn, 1) := by decide +kernel
theorem dX1_wrongStampCount_0 : decode cX1_wrongStampCount 0 = .ok (.iconst 0, 1) := by decide +kernel
theorem dX1_wrongStampCount_1 : decode cX1_wrongStampCount 1 = .ok (.istore_n 1, 1) := by decide +kernel
theorem dX1_wrongStampCount_2 : decode cX1_wrongStampCount 2 = .ok (.iconst 0, 1) := by decide +kernel
theorem dX1_wrongStampCount_3 : decode cX1_wrongStampCount 3 = .ok (.istore_n 2, 1) := by decide +kernel
theorem dX1_wrongStampCount_4 : decode cX1_wrongStampCount 4 = .ok (.iload_n 2, 1) := by decide +kernel
theorem dX1_wrongStampCount_5 : decode cX1_wrongStampCount 5 = .ok (.aload_n 0, 1) := by decide +kernel
theorem dX1_wrongStampCount_6 : decode cX1_wrongStampCount 6 = .ok (.iconst 0, 1) := by decide +kernel
theorem dX1_wrongStampCount_7 : decode cX1_wrongStampCount 7 = .ok (.invokevirtual 49, 3) := by decide +kernel
theorem dX1_wrongStampCount_10 : decode cX1_wrongStampCount 10 = .ok (.if_icmp .ge 34, 3) := by decide +kernel
theorem dX1_wrongStampCount_13 : decode cX1_wrongStampCount 13 = .ok (.iload_n 1, 1) := by decide +kernel
theorem dX1_wrongStampCount_14 : decode cX1_wrongStampCount 14 = .ok (.aload_n 0, 1) := by decide +kernel
theorem dX1_wrongStampCount_15 : decode cX1_wrongStampCount 15 = .ok (.iconst 0, 1) := by decide +kernel
theorem dX1_wrongStampCount_16 : decode cX1_wrongStampCount 16 = .ok (.iload_n 2, 1) := by decide +kernel
theorem dX1_wrongStampCount_17 : decode cX1_wrongStampCount 17 = .ok (.iconst 4, 1) := by decide +kernel
theorem dX1_wrongStampCount_18 : decode cX1_wrongStampCount 18 = .ok (.invokevirtual 68, 3) := by decide +kernel
theorem dX1_wrongStampCount_21 : decode cX1_wrongStampCount 21 = .ok (.aload_n 0, 1) := by decide +kernel
theorem dX1_wrongStampCount_22 : decode cX1_wrongStampCount 22 = .ok (.iconst 0, 1) := by decide +kernel
theorem dX1_wrongStampCount_23 : decode cX1_wrongStampCount 23 = .ok (.iload_n 2, 1) := by decide +kernel
theorem dX1_wrongStampCount_24 : decode cX1_wrongStampCount 24 = .ok (.iconst 3, 1) := by decide +kernel
theorem dX1_wrongStampCount_25 : decode cX1_wrongStampCount 25 = .ok (.invokevirtual 68, 3) := by decide +kernel
theorem dX1_wrongStampCount_28 : decode cX1_wrongStampCount 28 = .ok (.if_icmp .ne 7, 3) := by decide +kernel
theorem dX1_wrongStampCount_31 : decode cX1_wrongStampCount 31 = .ok (.iconst 0, 1) := by decide +kernel
theorem dX1_wrongStampCount_32 : decode cX1_wrongStampCount 32 = .ok (.goto 4, 3) := by decide +kernel
theorem dX1_wrongStampCount_35 : decode cX1_wrongStampCount 35 = .ok (.iconst 1, 1) := by decide +kernel
theorem dX1_wrongStampCount_36 : decode cX1_wrongStampCount 36 = .ok (.iadd, 1) := by decide +kernel
theorem dX1_wrongStampCount_37 : decode cX1_wrongStampCount 37 = .ok (.istore_n 1, 1) := by decide +kernel
theorem dX1_wrongStampCount_38 : decode cX1_wrongStampCount 38 = .ok (.iinc 2 1, 3) := by decide +kernel
theorem dX1_wrongStampCount_41 : decode cX1_wrongStampCount 41 = .ok (.goto (-37), 3) := by decide +kernel
theorem dX1_wrongStampCount_44 : decode cX1_wrongStampCount 44 = .ok (.iload_n 1, 1) := by decide +kernel
theorem dX1_wrongStampCount_45 : decode cX1_wrongStampCount 45 = .ok (.ireturn, 1) := by decide +kernel
theorem dX1_put_0 : decode cX1_put 0 = .ok (.aload_n 0, 1) := by decide +kernel
theorem dX1_put_1 : decode cX1_put 1 = .ok (.iload_n 1, 1) := by decide +kernel
theorem dX1_put_2 : decode cX1_put 2 = .ok (.invokevirtual 49, 3) := by decide +kernel
theorem dX1_put_5 : decode cX1_put 5 = .ok (.istore 4, 2) := by decide +kernel
theorem dX1_put_7 : decode cX1_put 7 = .ok (.iload_n 1, 1) := by decide +kernel
theorem dX1_put_8 : decode cX1_put 8 = .ok (.invokestatic 72, 3) := by decide +kernel
theorem dX1_put_11 : decode cX1_put 11 = .ok (.ifCond .eq 46, 3) := by decide +kernel
theorem dX1_put_14 : decode cX1_put 14 = .ok (.iload 4, 2) := by decide +kernel
theorem dX1_put_16 : decode cX1_put 16 = .ok (.bipush 60, 2) := by decide +kernel
theorem dX1_put_18 : decode cX1_put 18 = .ok (.if_icmp .ge 39, 3) := by decide +kernel
theorem dX1_put_21 : decode cX1_put 21 = .ok (.aload_n 0, 1) := by decide +kernel
theorem dX1_put_22 : decode cX1_put 22 = .ok (.getfield 27, 3) := by decide +kernel
theorem dX1_put_25 : decode cX1_put 25 = .ok (.iload_n 1, 1) := by decide +kernel
theorem dX1_put_26 : decode cX1_put 26 = .ok (.bipush 60, 2) := by decide +kernel
theorem dX1_put_28 : decode cX1_put 28 = .ok (.imul, 1) := by decide +kernel
theorem dX1_put_29 : decode cX1_put 29 = .ok (.iload 4, 2) := by decide +kernel
theorem dX1_put_31 : decode cX1_put 31 = .ok (.iadd, 1) := by decide +kernel
theorem dX1_put_32 : decode cX1_put 32 = .ok (.iload_n 2, 1) := by decide +kernel
theorem dX1_put_33 : decode cX1_put 33 = .ok (.iastore, 1) := by decide +kernel
theorem dX1_put_34 : decode cX1_put 34 = .ok (.aload_n 0, 1) := by decide +kernel
theorem dX1_put_35 : decode cX1_put 35 = .ok (.getfield 30, 3) := by decide +kernel
theorem dX1_put_38 : decode cX1_put 38 = .ok (.iload_n 1, 1) := by decide +kernel
theorem dX1_put_39 : decode cX1_put 39 = .ok (.bipush 60, 2) := by decide +kernel
theorem dX1_put_41 : decode cX1_put 41 = .ok (.imul, 1) := by decide +kernel
theorem dX1_put_42 : decode cX1_put 42 = .ok (.iload 4, 2) := by decide +kernel
theorem dX1_put_44 : decode cX1_put 44 = .ok (.iadd, 1) := by decide +kernel
theorem dX1_put_45 : decode cX1_put 45 = .ok (.iload_n 3, 1) := by decide +kernel
theorem dX1_put_46 : decode cX1_put 46 = .ok (.iastore, 1) := by decide +kernel
theorem dX1_put_47 : decode cX1_put 47 = .ok (.aload_n 0, 1) := by decide +kernel
theorem dX1_put_48 : decode cX1_put 48 = .ok (.getfield 24, 3) := by decide +kernel
theorem dX1_put_51 : decode cX1_put 51 = .ok (.iload_n 1, 1) := by decide +kernel
theorem dX1_put_52 : decode cX1_put 52 = .ok (.iload 4, 2) := by decide +kernel
theorem dX1_put_54 : decode cX1_put 54 = .ok (.iconst 1, 1) := by decide +kernel
theorem dX1_put_55 : decode cX1_put 55 = .ok (.iadd, 1) := by decide +kernel
theorem dX1_put_56 : decode cX1_put 56 = .ok (.iastore, 1) := by decide +kernel
theorem dX1_put_57 : decode cX1_put 57 = .ok (.return_, 1) := by decide +kernel
theorem dX1_removeFirst_0 : decode cX1_removeFirst 0 = .ok (.aload_n 0, 1) := by decide +kernel
theorem dX1_removeFirst_1 : decode cX1_removeFirst 1 = .ok (.iload_n 1, 1) := by decide +kernel
theorem dX1_removeFirst_2 : decode cX1_removeFirst 2 = .ok (.invokevirtual 49, 3) := by decide +kernel
theorem dX1_removeFirst_5 : decode cX1_removeFirst 5 = .ok (.istore_n 2, 1) := by decide +kernel
theorem dX1_removeFirst_6 : decode cX1_removeFirst 6 = .ok (.iload_n 2, 1) := by decide +kernel
theorem dX1_removeFirst_7 : decode cX1_removeFirst 7 = .ok (.ifCond .ne 4, 3) := by decide +kernel
theorem dX1_removeFirst_10 : decode cX1_removeFirst 10 = .ok (.return_, 1) := by decide +kernel
theorem dX1_removeFirst_11 : decode cX1_removeFirst 11 = .ok (.iconst 1, 1) := by decide +kernel
theorem dX1_removeFirst_12 : decode cX1_removeFirst 12 = .ok (.istore_n 3, 1) := by decide +kernel
theorem dX1_removeFirst_13 : decode cX1_removeFirst 13 = .ok (.iload_n 3, 1) := by decide +kernel
theorem dX1_removeFirst_14 : decode cX1_removeFirst 14 = .ok (.iload_n 2, 1) := by decide +kernel
theorem dX1_removeFirst_15 : decode cX1_removeFirst 15 = .ok (.if_icmp .ge 49, 3) := by decide +kernel
theorem dX1_removeFirst_18 : decode cX1_removeFirst 18 = .ok (.iload_n 1, 1) := by decide +kernel
theorem dX1_removeFirst_19 : decode cX1_removeFirst 19 = .ok (.bipush 60, 2) := by decide +kernel
theorem dX1_removeFirst_21 : decode cX1_removeFirst 21 = .ok (.imul, 1) := by decide +kernel
theorem dX1_removeFirst_22 : decode cX1_removeFirst 22 = .ok (.iload_n 3, 1) := by decide +kernel
theorem dX1_removeFirst_23 : decode cX1_removeFirst 23 = .ok (.iadd, 1) := by decide +kernel
theorem dX1_removeFirst_24 : decode cX1_removeFirst 24 = .ok (.istore 4, 2) := by decide +kernel
theorem dX1_removeFirst_26 : decode cX1_removeFirst 26 = .ok (.aload_n 0, 1) := by decide +kernel
theorem dX1_removeFirst_27 : decode cX1_removeFirst 27 = .ok (.getfield 27, 3) := by decide +kernel
theorem dX1_removeFirst_30 : decode cX1_removeFirst 30 = .ok (.iload 4, 2) := by decide +kernel
theorem dX1_removeFirst_32 : decode cX1_removeFirst 32 = .ok (.iconst 1, 1) := by decide +kernel
theorem dX1_removeFirst_33 : decode cX1_removeFirst 33 = .ok (.isub, 1) := by decide +kernel
theorem dX1_removeFirst_34 : decode cX1_removeFirst 34 = .ok (.aload_n 0, 1) := by decide +kernel
theorem dX1_removeFirst_35 : decode cX1_removeFirst 35 = .ok (.getfield 27, 3) := by decide +kernel
theorem dX1_removeFirst_38 : decode cX1_removeFirst 38 = .ok (.iload 4, 2) := by decide +kernel
theorem dX1_removeFirst_40 : decode cX1_removeFirst 40 = .ok (.iaload, 1) := by decide +kernel
theorem dX1_removeFirst_41 : decode cX1_removeFirst 41 = .ok (.iastore, 1) := by decide +kernel
theorem dX1_removeFirst_42 : decode cX1_removeFirst 42 = .ok (.aload_n 0, 1) := by decide +kernel
theorem dX1_removeFirst_43 : decode cX1_removeFirst 43 = .ok (.getfield 30, 3) := by decide +kernel
theorem dX1_removeFirst_46 : decode cX1_removeFirst 46 = .ok (.iload 4, 2) := by decide +kernel
theorem dX1_removeFirst_48 : decode cX1_removeFirst 48 = .ok (.iconst 1, 1) := by decide +kernel
theorem dX1_removeFirst_49 : decode cX1_removeFirst 49 = .ok (.isub, 1) := by decide +kernel
theorem dX1_removeFirst_50 : decode cX1_removeFirst 50 = .ok (.aload_n 0, 1) := by decide +kernel
theorem dX1_removeFirst_51 : decode cX1_removeFirst 51 = .ok (.getfield 30, 3) := by decide +kernel
theorem dX1_removeFirst_54 : decode cX1_removeFirst 54 = .ok (.iload 4, 2) := by decide +kernel
theorem dX1_removeFirst_56 : decode cX1_removeFirst 56 = .ok (.iaload, 1) := by decide +kernel
theorem dX1_removeFirst_57 : decode cX1_removeFirst 57 = .ok (.iastore, 1) := by decide +kernel
theorem dX1_removeFirst_58 : decode cX1_removeFirst 58 = .ok (.iinc 3 1, 3) := by decide +kernel
theorem dX1_removeFirst_61 : decode cX1_removeFirst 61 = .ok (.goto (-48), 3) := by decide +kernel
theorem dX1_removeFirst_64 : decode cX1_removeFirst 64 = .ok (.aload_n 0, 1) := by decide +kernel
theorem dX1_removeFirst_65 : decode cX1_removeFirst 65 = .ok (.getfield 24, 3) := by decide +kernel
theorem dX1_removeFirst_68 : decode cX1_removeFirst 68 = .ok (.iload_n 1, 1) := by decide +kernel
theorem dX1_removeFirst_69 : decode cX1_removeFirst 69 = .ok (.iload_n 2, 1) := by decide +kernel
theorem dX1_removeFirst_70 : decode cX1_removeFirst 70 = .ok (.iconst 1, 1) := by decide +kernel
theorem dX1_removeFirst_71 : decode cX1_removeFirst 71 = .ok (.isub, 1) := by decide +kernel
theorem dX1_removeFirst_72 : decode cX1_removeFirst 72 = .ok (.iastore, 1) := by decide +kernel
theorem dX1_removeFirst_73 : decode cX1_removeFirst 73 = .ok (.return_, 1) := by decide +kernel
theorem dX1_shiftStamps_0 : decode cX1_shiftStamps 0 = .ok (.iconst 0, 1) := by decide +kernel
theorem dX1_shiftStamps_1 : decode cX1_shiftStamps 1 = .ok (.istore_n 3, 1) := by decide +kernel
theorem dX1_shiftStamps_2 : decode cX1_shiftStamps 2 = .ok (.iload_n 3, 1) := by decide +kernel
theorem dX1_shiftStamps_3 : decode cX1_shiftStamps 3 = .ok (.aload_n 0, 1) := by decide +kernel
theorem dX1_shiftStamps_4 : decode cX1_shiftStamps 4 = .ok (.iload_n 1, 1) := by decide +kernel
theorem dX1_shiftStamps_5 : decode cX1_shiftStamps 5 = .ok (.invokevirtual 49, 3) := by decide +kernel
theorem dX1_shiftStamps_8 : decode cX1_shiftStamps 8 = .ok (.if_icmp .ge 24, 3) := by decide +kernel
theorem dX1_shiftStamps_11 : decode cX1_shiftStamps 11 = .ok (.aload_n 0, 1) := by decide +kernel
theorem dX1_shiftStamps_12 : decode cX1_shiftStamps 12 = .ok (.getfield 30, 3) := by decide +kernel
theorem dX1_shiftStamps_15 : decode cX1_shiftStamps 15 = .ok (.iload_n 1, 1) := by decide +kernel
theorem dX1_shiftStamps_16 : decode cX1_shiftStamps 16 = .ok (.bipush 60, 2) := by decide +kernel
theorem dX1_shiftStamps_18 : decode cX1_shiftStamps 18 = .ok (.imul, 1) := by decide +kernel
theorem dX1_shiftStamps_19 : decode cX1_shiftStamps 19 = .ok (.iload_n 3, 1) := by decide +kernel
theorem dX1_shiftStamps_20 : decode cX1_shiftStamps 20 = .ok (.iadd, 1) := by decide +kernel
theorem dX1_shiftStamps_21 : decode cX1_shiftStamps 21 = .ok (.dup2, 1) := by decide +kernel
theorem dX1_shiftStamps_22 : decode cX1_shiftStamps 22 = .ok (.iaload, 1) := by decide +kernel
theorem dX1_shiftStamps_23 : decode cX1_shiftStamps 23 = .ok (.iload_n 2, 1) := by decide +kernel
theorem dX1_shiftStamps_24 : decode cX1_shiftStamps 24 = .ok (.iadd, 1) := by decide +kernel
theorem dX1_shiftStamps_25 : decode cX1_shiftStamps 25 = .ok (.iastore, 1) := by decide +kernel
theorem dX1_shiftStamps_26 : decode cX1_shiftStamps 26 = .ok (.iinc 3 1, 3) := by decide +kernel
theorem dX1_shiftStamps_29 : decode cX1_shiftStamps 29 = .ok (.goto (-27), 3) := by decide +kernel
theorem dX1_shiftStamps_32 : decode cX1_shiftStamps 32 = .ok (.return_, 1) := by decide +kernel
theorem dX2_init_0 : decode cX2_init 0 = .ok (.aload_n 0, 1) := by decide +kernel
theorem dX2_init_1 : decode cX2_init 1 = .ok (.invokespecial 3, 3) := by decide +kernel
theorem dX2_init_4 : decode cX2_init 4 = .ok (.aload_n 0, 1) := by decide +kernel
theorem dX2_init_5 : decode cX2_init 5 = .ok (.bipush 100, 2) := by decide +kernel
theorem dX2_init_7 : decode cX2_init 7 = .ok (.newarray .boolean, 2) := by decide +kernel
theorem dX2_init_9 : decode cX2_init 9 = .ok (.putfield 9, 3) := by decide +kernel
theorem dX2_init_12 : decode cX2_init 12 = .ok (.aload_n 0, 1) := by decide +kernel
theorem dX2_init_13 : decode cX2_init 13 = .ok (.bipush 10, 2) := by decide +kernel
theorem dX2_init_15 : decode cX2_init 15 = .ok (.newarray .boolean, 2) := by decide +kernel
theorem dX2_init_17 : decode cX2_init 17 = .ok (.putfield 15, 3) := by decide +kernel
theorem dX2_init_20 : decode cX2_init 20 = .ok (.aload_n 0, 1) := by decide +kernel
theorem dX2_init_21 : decode cX2_init 21 = .ok (.bipush 10, 2) := by decide +kernel
theorem dX2_init_23 : decode cX2_init 23 = .ok (.newarray .int, 2) := by decide +kernel
theorem dX2_init_25 : decode cX2_init 25 = .ok (.putfield 18, 3) := by decide +kernel
theorem dX2_init_28 : decode cX2_init 28 = .ok (.aload_n 0, 1) := by decide +kernel
theorem dX2_init_29 : decode cX2_init 29 = .ok (.bipush 10, 2) := by decide +kernel
theorem dX2_init_31 : decode cX2_init 31 = .ok (.newarray .int, 2) := by decide +kernel
theorem dX2_init_33 : decode cX2_init 33 = .ok (.putfield 22, 3) := by decide +kernel
theorem dX2_init_36 : decode cX2_init 36 = .ok (.aload_n 0, 1) := by decide +kernel
theorem dX2_init_37 : decode cX2_init 37 = .ok (.bipush 10, 2) := by decide +kernel
theorem dX2_init_39 : decode cX2_init 39 = .ok (.newarray .int, 2) := by decide +kernel
theorem dX2_init_41 : decode cX2_init 41 = .ok (.putfield 25, 3) := by decide +kernel
theorem dX2_init_44 : decode cX2_init 44 = .ok (.aload_n 0, 1) := by decide +kernel
theorem dX2_init_45 : decode cX2_init 45 = .ok (.bipush 10, 2) := by decide +kernel
theorem dX2_init_47 : decode cX2_init 47 = .ok (.newarray .int, 2) := by decide +kernel
theorem dX2_init_49 : decode cX2_init 49 = .ok (.putfield 28, 3) := by decide +kernel
theorem dX2_init_52 : decode cX2_init 52 = .ok (.aload_n 0, 1) := by decide +kernel
theorem dX2_init_53 : decode cX2_init 53 = .ok (.bipush 10, 2) := by decide +kernel
theorem dX2_init_55 : decode cX2_init 55 = .ok (.newarray .int, 2) := by decide +kernel
theorem dX2_init_57 : decode cX2_init 57 = .ok (.putfield 31, 3) := by decide +kernel
theorem dX2_init_60 : decode cX2_init 60 = .ok (.aload_n 0, 1) := by decide +kernel
theorem dX2_init_61 : decode cX2_init 61 = .ok (.new 34, 3) := by decide +kernel
theorem dX2_init_64 : decode cX2_init 64 = .ok (.dup, 1) := by decide +kernel
theorem dX2_init_65 : decode cX2_init 65 = .ok (.invokespecial 36, 3) := by decide +kernel
theorem dX2_init_68 : decode cX2_init 68 = .ok (.putfield 37, 3) := by decide +kernel
theorem dX2_init_71 : decode cX2_init 71 = .ok (.aload_n 0, 1) := by decide +kernel
theorem dX2_init_72 : decode cX2_init 72 = .ok (.iconst 2, 1) := by decide +kernel
theorem dX2_init_73 : decode cX2_init 73 = .ok (.putfield 41, 3) := by decide +kernel
theorem dX2_init_76 : decode cX2_init 76 = .ok (.iconst 0, 1) := by decide +kernel
theorem dX2_init_77 : decode cX2_init 77 = .ok (.istore_n 1, 1) := by decide +kernel
theorem dX2_init_78 : decode cX2_init 78 = .ok (.iload_n 1, 1) := by decide +kernel
theorem dX2_init_79 : decode cX2_init 79 = .ok (.bipush 10, 2) := by decide +kernel
theorem dX2_init_81 : decode cX2_init 81 = .ok (.if_icmp .ge 38, 3) := by decide +kernel
theorem dX2_init_84 : decode cX2_init 84 = .ok (.aload_n 0, 1) := by decide +kernel
theorem dX2_init_85 : decode cX2_init 85 = .ok (.getfield 15, 3) := by decide +kernel
theorem dX2_init_88 : decode cX2_init 88 = .ok (.iload_n 1, 1) := by decide +kernel
theorem dX2_init_89 : decode cX2_init 89 = .ok (.iconst 1, 1) := by decide +kernel
theorem dX2_init_90 : decode cX2_init 90 = .ok (.bastore, 1) := by decide +kernel
theorem dX2_init_91 : decode cX2_init 91 = .ok (.aload_n 0, 1) := by decide +kernel
theorem dX2_init_92 : decode cX2_init 92 = .ok (.getfield 18, 3) := by decide +kernel
theorem dX2_init_95 : decode cX2_init 95 = .ok (.iload_n 1, 1) := by decide +kernel
theorem dX2_init_96 : decode cX2_init 96 = .ok (.iconst (-1), 1) := by decide +kernel
theorem dX2_init_97 : decode cX2_init 97 = .ok (.iastore, 1) := by decide +kernel
theorem dX2_init_98 : decode cX2_init 98 = .ok (.aload_n 0, 1) := by decide +kernel
theorem dX2_init_99 : decode cX2_init 99 = .ok (.getfield 22, 3) := by decide +kernel
theorem dX2_init_102 : decode cX2_init 102 = .ok (.iload_n 1, 1) := by decide +kernel
theorem dX2_init_103 : decode cX2_init 103 = .ok (.iload_n 1, 1) := by decide +kernel
theorem dX2_init_104 : decode cX2_init 104 = .ok (.ifCond .ne 7, 3) := by decide +kernel
theorem dX2_init_107 : decode cX2_init 107 = .ok (.iconst 0, 1) := by decide +kernel
theorem dX2_init_108 : decode cX2_init 108 = .ok (.goto 4, 3) := by decide +kernel
theorem dX2_init_111 : decode cX2_init 111 = .ok (.iconst (-1), 1) := by decide +kernel
theorem dX2_init_112 : decode cX2_init 112 = .ok (.iastore, 1) := by decide +kernel
theorem dX2_init_113 : decode cX2_init 113 = .ok (.iinc 1 1, 3) := by decide +kernel
theorem dX2_init_116 : decode cX2_init 116 = .ok (.goto (-38), 3) := by decide +kernel
theorem dX2_init_119 : decode cX2_init 119 = .ok (.return_, 1) := by decide +kernel
theorem dX2_copyFrom_0 : decode cX2_copyFrom 0 = .ok (.aload_n 1, 1) := by decide +kernel
theorem dX2_copyFrom_1 : decode cX2_copyFrom 1 = .ok (.getfield 9, 3) := by decide +kernel
theorem dX2_copyFrom_4 : decode cX2_copyFrom 4 = .ok (.aload_n 0, 1) := by decide +kernel
theorem dX2_copyFrom_5 : decode cX2_copyFrom 5 = .ok (.getfield 9, 3) := by decide +kernel
theorem dX2_copyFrom_8 : decode cX2_copyFrom 8 = .ok (.invokestatic 45, 3) := by decide +kernel
theorem dX2_copyFrom_11 : decode cX2_copyFrom 11 = .ok (.aload_n 1, 1) := by decide +kernel
theorem dX2_copyFrom_12 : decode cX2_copyFrom 12 = .ok (.getfield 15, 3) := by decide +kernel
theorem dX2_copyFrom_15 : decode cX2_copyFrom 15 = .ok (.aload_n 0, 1) := by decide +kernel
theorem dX2_copyFrom_16 : decode cX2_copyFrom 16 = .ok (.getfield 15, 3) := by decide +kernel
theorem dX2_copyFrom_19 : decode cX2_copyFrom 19 = .ok (.invokestatic 45, 3) := by decide +kernel
theorem dX2_copyFrom_22 : decode cX2_copyFrom 22 = .ok (.aload_n 1, 1) := by decide +kernel
theorem dX2_copyFrom_23 : decode cX2_copyFrom 23 = .ok (.getfield 18, 3) := by decide +kernel
theorem dX2_copyFrom_26 : decode cX2_copyFrom 26 = .ok (.aload_n 0, 1) := by decide +kernel
theorem dX2_copyFrom_27 : decode cX2_copyFrom 27 = .ok (.getfield 18, 3) := by decide +kernel
theorem dX2_copyFrom_30 : decode cX2_copyFrom 30 = .ok (.invokestatic 49, 3) := by decide +kernel
theorem dX2_copyFrom_33 : decode cX2_copyFrom 33 = .ok (.aload_n 1, 1) := by decide +kernel
theorem dX2_copyFrom_34 : decode cX2_copyFrom 34 = .ok (.getfield 22, 3) := by decide +kernel
theorem dX2_copyFrom_37 : decode cX2_copyFrom 37 = .ok (.aload_n 0, 1) := by decide +kernel
theorem dX2_copyFrom_38 : decode cX2_copyFrom 38 = .ok (.getfield 22, 3) := by decide +kernel
theorem dX2_copyFrom_41 : decode cX2_copyFrom 41 = .ok (.invokestatic 49, 3) := by decide +kernel
theorem dX2_copyFrom_44 : decode cX2_copyFrom 44 = .ok (.aload_n 1, 1) := by decide +kernel
theorem dX2_copyFrom_45 : decode cX2_copyFrom 45 = .ok (.getfield 25, 3) := by decide +kernel
theorem dX2_copyFrom_48 : decode cX2_copyFrom 48 = .ok (.aload_n 0, 1) := by decide +kernel
theorem dX2_copyFrom_49 : decode cX2_copyFrom 49 = .ok (.getfield 25, 3) := by decide +kernel
theorem dX2_copyFrom_52 : decode cX2_copyFrom 52 = .ok (.invokestatic 49, 3) := by decide +kernel
theorem dX2_copyFrom_55 : decode cX2_copyFrom 55 = .ok (.aload_n 1, 1) := by decide +kernel
theorem dX2_copyFrom_56 : decode cX2_copyFrom 56 = .ok (.getfield 28, 3) := by decide +kernel
theorem dX2_copyFrom_59 : decode cX2_copyFrom 59 = .ok (.aload_n 0, 1) := by decide +kernel
theorem dX2_copyFrom_60 : decode cX2_copyFrom 60 = .ok (.getfield 28, 3) := by decide +kernel
theorem dX2_copyFrom_63 : decode cX2_copyFrom 63 = .ok (.invokestatic 49, 3) := by decide +kernel
theorem dX2_copyFrom_66 : decode cX2_copyFrom 66 = .ok (.aload_n 1, 1) := by decide +kernel
theorem dX2_copyFrom_67 : decode cX2_copyFrom 67 = .ok (.getfield 31, 3) := by decide +kernel
theorem dX2_copyFrom_70 : decode cX2_copyFrom 70 = .ok (.aload_n 0, 1) := by decide +kernel
theorem dX2_copyFrom_71 : decode cX2_copyFrom 71 = .ok (.getfield 31, 3) := by decide +kernel
theorem dX2_copyFrom_74 : decode cX2_copyFrom 74 = .ok (.invokestatic 49, 3) := by decide +kernel
theorem dX2_copyFrom_77 : decode cX2_copyFrom 77 = .ok (.aload_n 0, 1) := by decide +kernel
theorem dX2_copyFrom_78 : decode cX2_copyFrom 78 = .ok (.getfield 37, 3) := by decide +kernel
theorem dX2_copyFrom_81 : decode cX2_copyFrom 81 = .ok (.aload_n 1, 1) := by decide +kernel
theorem dX2_copyFrom_82 : decode cX2_copyFrom 82 = .ok (.getfield 37, 3) := by decide +kernel
theorem dX2_copyFrom_85 : decode cX2_copyFrom 85 = .ok (.invokevirtual 52, 3) := by decide +kernel
theorem dX2_copyFrom_88 : decode cX2_copyFrom 88 = .ok (.aload_n 0, 1) := by decide +kernel
theorem dX2_copyFrom_89 : decode cX2_copyFrom 89 = .ok (.aload_n 1, 1) := by decide +kernel
theorem dX2_copyFrom_90 : decode cX2_copyFrom 90 = .ok (.getfield 56, 3) := by decide +kernel
theorem dX2_copyFrom_93 : decode cX2_copyFrom 93 = .ok (.putfield 56, 3) := by decide +kernel
theorem dX2_copyFrom_96 : decode cX2_copyFrom 96 = .ok (.aload_n 0, 1) := by decide +kernel
theorem dX2_copyFrom_97 : decode cX2_copyFrom 97 = .ok (.aload_n 1, 1) := by decide +kernel
theorem dX2_copyFrom_98 : decode cX2_copyFrom 98 = .ok (.getfield 41, 3) := by decide +kernel
theorem dX2_copyFrom_101 : decode cX2_copyFrom 101 = .ok (.putfield 41, 3) := by decide +kernel
theorem dX2_copyFrom_104 : decode cX2_copyFrom 104 = .ok (.aload_n 0, 1) := by decide +kernel
theorem dX2_copyFrom_105 : decode cX2_copyFrom 105 = .ok (.aload_n 1, 1) := by decide +kernel
theorem dX2_copyFrom_106 : decode cX2_copyFrom 106 = .ok (.getfield 59, 3) := by decide +kernel
theorem dX2_copyFrom_109 : decode cX2_copyFrom 109 = .ok (.putfield 59, 3) := by decide +kernel
theorem dX2_copyFrom_112 : decode cX2_copyFrom 112 = .ok (.aload_n 0, 1) := by decide +kernel
theorem dX2_copyFrom_113 : decode cX2_copyFrom 113 = .ok (.aload_n 1, 1) := by decide +kernel
theorem dX2_copyFrom_114 : decode cX2_copyFrom 114 = .ok (.getfield 62, 3) := by decide +kernel
theorem dX2_copyFrom_117 : decode cX2_copyFrom 117 = .ok (.putfield 62, 3) := by decide +kernel
theorem dX2_copyFrom_120 : decode cX2_copyFrom 120 = .ok (.aload_n 0, 1) := by decide +kernel
theorem dX2_copyFrom_121 : decode cX2_copyFrom 121 = .ok (.aload_n 1, 1) := by decide +kernel
theorem dX2_copyFrom_122 : decode cX2_copyFrom 122 = .ok (.getfield 65, 3) := by decide +kernel
theorem dX2_copyFrom_125 : decode cX2_copyFrom 125 = .ok (.putfield 65, 3) := by decide +kernel
theorem dX2_copyFrom_128 : decode cX2_copyFrom 128 = .ok (.aload_n 0, 1) := by decide +kernel
theorem dX2_copyFrom_129 : decode cX2_copyFrom 129 = .ok (.aload_n 1, 1) := by decide +kernel
theorem dX2_copyFrom_130 : decode cX2_copyFrom 130 = .ok (.getfield 68, 3) := by decide +kernel
theorem dX2_copyFrom_133 : decode cX2_copyFrom 133 = .ok (.putfield 68, 3) := by decide +kernel
theorem dX2_copyFrom_136 : decode cX2_copyFrom 136 = .ok (.aload_n 0, 1) := by decide +kernel
theorem dX2_copyFrom_137 : decode cX2_copyFrom 137 = .ok (.aload_n 1, 1) := by decide +kernel
theorem dX2_copyFrom_138 : decode cX2_copyFrom 138 = .ok (.getfield 71, 3) := by decide +kernel
theorem dX2_copyFrom_141 : decode cX2_copyFrom 141 = .ok (.putfield 71, 3) := by decide +kernel
theorem dX2_copyFrom_144 : decode cX2_copyFrom 144 = .ok (.return_, 1) := by decide +kernel
theorem dX2_setLink_0 : decode cX2_setLink 0 = .ok (.iload_n 1, 1) := by decide +kernel
theorem dX2_setLink_1 : decode cX2_setLink 1 = .ok (.invokestatic 74, 3) := by decide +kernel
theorem dX2_setLink_4 : decode cX2_setLink 4 = .ok (.ifCond .eq 34, 3) := by decide +kernel
theorem dX2_setLink_7 : decode cX2_setLink 7 = .ok (.iload_n 2, 1) := by decide +kernel
theorem dX2_setLink_8 : decode cX2_setLink 8 = .ok (.invokestatic 74, 3) := by decide +kernel
theorem dX2_setLink_11 : decode cX2_setLink 11 = .ok (.ifCond .eq 27, 3) := by decide +kernel
theorem dX2_setLink_14 : decode cX2_setLink 14 = .ok (.aload_n 0, 1) := by decide +kernel
theorem dX2_setLink_15 : decode cX2_setLink 15 = .ok (.getfield 9, 3) := by decide +kernel
theorem dX2_setLink_18 : decode cX2_setLink 18 = .ok (.iload_n 1, 1) := by decide +kernel
theorem dX2_setLink_19 : decode cX2_setLink 19 = .ok (.bipush 10, 2) := by decide +kernel
theorem dX2_setLink_21 : decode cX2_setLink 21 = .ok (.imul, 1) := by decide +kernel
theorem dX2_setLink_22 : decode cX2_setLink 22 = .ok (.iload_n 2, 1) := by decide +kernel
theorem dX2_setLink_23 : decode cX2_setLink 23 = .ok (.iadd, 1) := by decide +kernel
theorem dX2_setLink_24 : decode cX2_setLink 24 = .ok (.iload_n 3, 1) := by decide +kernel
theorem dX2_setLink_25 : decode cX2_setLink 25 = .ok (.bastore, 1) := by decide +kernel
theorem dX2_setLink_26 : decode cX2_setLink 26 = .ok (.aload_n 0, 1) := by decide +kernel
theorem dX2_setLink_27 : decode cX2_setLink 27 = .ok (.getfield 9, 3) := by decide +kernel
theorem dX2_setLink_30 : decode cX2_setLink 30 = .ok (.iload_n 2, 1) := by decide +kernel
theorem dX2_setLink_31 : decode cX2_setLink 31 = .ok (.bipush 10, 2) := by decide +kernel
theorem dX2_setLink_33 : decode cX2_setLink 33 = .ok (.imul, 1) := by decide +kernel
theorem dX2_setLink_34 : decode cX2_setLink 34 = .ok (.iload_n 1, 1) := by decide +kernel
theorem dX2_setLink_35 : decode cX2_setLink 35 = .ok (.iadd, 1) := by decide +kernel
theorem dX2_setLink_36 : decode cX2_setLink 36 = .ok (.iload_n 3, 1) := by decide +kernel
theorem dX2_setLink_37 : decode cX2_setLink 37 = .ok (.bastore, 1) := by decide +kernel
theorem dX2_setLink_38 : decode cX2_setLink 38 = .ok (.return_, 1) := by decide +kernel
theorem dX2_linkCount_0 : decode cX2_linkCount 0 = .ok (.iconst 0, 1) := by decide +kernel
theorem dX2_linkCount_1 : decode cX2_linkCount 1 = .ok (.istore_n 1, 1) := by decide +kernel
theorem dX2_linkCount_2 : decode cX2_linkCount 2 = .ok (.iconst 0, 1) := by decide +kernel
theorem dX2_linkCount_3 : decode cX2_linkCount 3 = .ok (.istore_n 2, 1) := by decide +kernel
theorem dX2_linkCount_4 : decode cX2_linkCount 4 = .ok (.iload_n 2, 1) := by decide +kernel
theorem dX2_linkCount_5 : decode cX2_linkCount 5 = .ok (.aload_n 0, 1) := by decide +kernel
theorem dX2_linkCount_6 : decode cX2_linkCount 6 = .ok (.getfield 9, 3) := by decide +kernel
theorem dX2_linkCount_9 : decode cX2_linkCount 9 = .ok (.arraylength, 1) := by decide +kernel
theorem dX2_linkCount_10 : decode cX2_linkCount 10 = .ok (.if_icmp .ge 26, 3) := by decide +kernel
theorem dX2_linkCount_13 : decode cX2_linkCount 13 = .ok (.iload_n 1, 1) := by decide +kernel
theorem dX2_linkCount_14 : decode cX2_linkCount 14 = .ok (.aload_n 0, 1) := by decide +kernel
theorem dX2_linkCount_15 : decode cX2_linkCount 15 = .ok (.getfield 9, 3) := by decide +kernel
theorem dX2_linkCount_18 : decode cX2_linkCount 18 = .ok (.iload_n 2, 1) := by decide +kernel
theorem dX2_linkCount_19 : decode cX2_linkCount 19 = .ok (.baload, 1) := by decide +kernel
theorem dX2_linkCount_20 : decode cX2_linkCount 20 = .ok (.ifCond .eq 7, 3) := by decide +kernel
theorem dX2_linkCount_23 : decode cX2_linkCount 23 = .ok (.iconst 1, 1) := by decide +kernel
theorem dX2_linkCount_24 : decode cX2_linkCount 24 = .ok (.goto 4, 3) := by decide +kernel
theorem dX2_linkCount_27 : decode cX2_linkCount 27 = .ok (.iconst 0, 1) := by decide +kernel
theorem dX2_linkCount_28 : decode cX2_linkCount 28 = .ok (.iadd, 1) := by decide +kernel
theorem dX2_linkCount_29 : decode cX2_linkCount 29 = .ok (.istore_n 1, 1) := by decide +kernel
theorem dX2_linkCount_30 : decode cX2_linkCount 30 = .ok (.iinc 2 1, 3) := by decide +kernel
theorem dX2_linkCount_33 : decode cX2_linkCount 33 = .ok (.goto (-29), 3) := by decide +kernel
theorem dX2_linkCount_36 : decode cX2_linkCount 36 = .ok (.iload_n 1, 1) := by decide +kernel
theorem dX2_linkCount_37 : decode cX2_linkCount 37 = .ok (.iconst 2, 1) := by decide +kernel
theorem dX2_linkCount_38 : decode cX2_linkCount 38 = .ok (.idiv, 1) := by decide +kernel
theorem dX2_linkCount_39 : decode cX2_linkCount 39 = .ok (.ireturn, 1) := by decide +kernel
theorem dX2_isOn_0 : decode cX2_isOn 0 = .ok (.iload_n 1, 1) := by decide +kernel
theorem dX2_isOn_1 : decode cX2_isOn 1 = .ok (.invokestatic 74, 3) := by decide +kernel
theorem dX2_isOn_4 : decode cX2_isOn 4 = .ok (.ifCond .eq 16, 3) := by decide +kernel
theorem dX2_isOn_7 : decode cX2_isOn 7 = .ok (.aload_n 0, 1) := by decide +kernel
theorem dX2_isOn_8 : decode cX2_isOn 8 = .ok (.getfield 15, 3) := by decide +kernel
theorem dX2_isOn_11 : decode cX2_isOn 11 = .ok (.iload_n 1, 1) := by decide +kernel
theorem dX2_isOn_12 : decode cX2_isOn 12 = .ok (.baload, 1) := by decide +kernel
theorem dX2_isOn_13 : decode cX2_isOn 13 = .ok (.ifCond .eq 7, 3) := by decide +kernel
theorem dX2_isOn_16 : decode cX2_isOn 16 = .ok (.iconst 1, 1) := by decide +kernel
theorem dX2_isOn_17 : decode cX2_isOn 17 = .ok (.goto 4, 3) := by decide +kernel
theorem dX2_isOn_20 : decode cX2_isOn 20 = .ok (.iconst 0, 1) := by decide +kernel
theorem dX2_isOn_21 : decode cX2_isOn 21 = .ok (.ireturn, 1) := by decide +kernel
theorem dX2_setPower_0 : decode cX2_setPower 0 = .ok (.iload_n 1, 1) := by decide +kernel
theorem dX2_setPower_1 : decode cX2_setPower 1 = .ok (.invokestatic 74, 3) := by decide +kernel
theorem dX2_setPower_4 : decode cX2_setPower 4 = .ok (.ifCond .eq 10, 3) := by decide +kernel
theorem dX2_setPower_7 : decode cX2_setPower 7 = .ok (.aload_n 0, 1) := by decide +kernel
theorem dX2_setPower_8 : decode cX2_setPower 8 = .ok (.getfield 15, 3) := by decide +kernel
theorem dX2_setPower_11 : decode cX2_setPower 11 = .ok (.iload_n 1, 1) := by decide +kernel
theorem dX2_setPower_12 : decode cX2_setPower 12 = .ok (.iload_n 2, 1) := by decide +kernel
theorem dX2_setPower_13 : decode cX2_setPower 13 = .ok (.bastore, 1) := by decide +kernel
theorem dX2_setPower_14 : decode cX2_setPower 14 = .ok (.return_, 1) := by decide +kernel
theorem dX2_onCount_0 : decode cX2_onCount 0 = .ok (.iconst 0, 1) := by decide +kernel
theorem dX2_onCount_1 : decode cX2_onCount 1 = .ok (.istore_n 1, 1) := by decide +kernel
theorem dX2_onCount_2 : decode cX2_onCount 2 = .ok (.iconst 0, 1) := by decide +kernel
theorem dX2_onCount_3 : decode cX2_onCount 3 = .ok (.istore_n 2, 1) := by decide +kernel
theorem dX2_onCount_4 : decode cX2_onCount 4 = .ok (.iload_n 2, 1) := by decide +kernel
theorem dX2_onCount_5 : decode cX2_onCount 5 = .ok (.bipush 10, 2) := by decide +kernel
theorem dX2_onCount_7 : decode cX2_onCount 7 = .ok (.if_icmp .ge 26, 3) := by decide +kernel
theorem dX2_onCount_10 : decode cX2_onCount 10 = .ok (.iload_n 1, 1) := by decide +kernel
theorem dX2_onCount_11 : decode cX2_onCount 11 = .ok (.aload_n 0, 1) := by decide +kernel
theorem dX2_onCount_12 : decode cX2_onCount 12 = .ok (.getfield 15, 3) := by decide +kernel
theorem dX2_onCount_15 : decode cX2_onCount 15 = .ok (.iload_n 2, 1) := by decide +kernel
theorem dX2_onCount_16 : decode cX2_onCount 16 = .ok (.baload, 1) := by decide +kernel
theorem dX2_onCount_17 : decode cX2_onCount 17 = .ok (.ifCond .eq 7, 3) := by decide +kernel
theorem dX2_onCount_20 : decode cX2_onCount 20 = .ok (.iconst 1, 1) := by decide +kernel
theorem dX2_onCount_21 : decode cX2_onCount 21 = .ok (.goto 4, 3) := by decide +kernel
theorem dX2_onCount_24 : decode cX2_onCount 24 = .ok (.iconst 0, 1) := by decide +kernel
theorem dX2_onCount_25 : decode cX2_onCount 25 = .ok (.iadd, 1) := by decide +kernel
theorem dX2_onCount_26 : decode cX2_onCount 26 = .ok (.istore_n 1, 1) := by decide +kernel
theorem dX2_onCount_27 : decode cX2_onCount 27 = .ok (.iinc 2 1, 3) := by decide +kernel
theorem dX2_onCount_30 : decode cX2_onCount 30 = .ok (.goto (-26), 3) := by decide +kernel
theorem dX2_onCount_33 : decode cX2_onCount 33 = .ok (.iload_n 1, 1) := by decide +kernel
theorem dX2_onCount_34 : decode cX2_onCount 34 = .ok (.ireturn, 1) := by decide +kernel
theorem dX2_areConnected_0 : decode cX2_areConnected 0 = .ok (.aload_n 0, 1) := by decide +kernel
theorem dX2_areConnected_1 : decode cX2_areConnected 1 = .ok (.iload_n 1, 1) := by decide +kernel
theorem dX2_areConnected_2 : decode cX2_areConnected 2 = .ok (.invokevirtual 78, 3) := by decide +kernel
theorem dX2_areConnected_5 : decode cX2_areConnected 5 = .ok (.ifCond .eq 29, 3) := by decide +kernel
theorem dX2_areConnected_8 : decode cX2_areConnected 8 = .ok (.aload_n 0, 1) := by decide +kernel
theorem dX2_areConnected_9 : decode cX2_areConnected 9 = .ok (.iload_n 2, 1) := by decide +kernel
theorem dX2_areConnected_10 : decode cX2_areConnected 10 = .ok (.invokevirtual 78, 3) := by decide +kernel
theorem dX2_areConnected_13 : decode cX2_areConnected 13 = .ok (.ifCond .eq 21, 3) := by decide +kernel
theorem dX2_areConnected_16 : decode cX2_areConnected 16 = .ok (.aload_n 0, 1) := by decide +kernel
theorem dX2_areConnected_17 : decode cX2_areConnected 17 = .ok (.getfield 9, 3) := by decide +kernel
theorem dX2_areConnected_20 : decode cX2_areConnected 20 = .ok (.iload_n 1, 1) := by decide +kernel
theorem dX2_areConnected_21 : decode cX2_areConnected 21 = .ok (.bipush 10, 2) := by decide +kernel
theorem dX2_areConnected_23 : decode cX2_areConnected 23 = .ok (.imul, 1) := by decide +kernel
theorem dX2_areConnected_24 : decode cX2_areConnected 24 = .ok (.iload_n 2, 1) := by decide +kernel
theorem dX2_areConnected_25 : decode cX2_areConnected 25 = .ok (.iadd, 1) := by decide +kernel
theorem dX2_areConnected_26 : decode cX2_areConnected 26 = .ok (.baload, 1) := by decide +kernel
theorem dX2_areConnected_27 : decode cX2_areConnected 27 = .ok (.ifCond .eq 7, 3) := by decide +kernel
theorem dX2_areConnected_30 : decode cX2_areConnected 30 = .ok (.iconst 1, 1) := by decide +kernel
theorem dX2_areConnected_31 : decode cX2_areConnected 31 = .ok (.goto 4, 3) := by decide +kernel
theorem dX2_areConnected_34 : decode cX2_areConnected 34 = .ok (.iconst 0, 1) := by decide +kernel
theorem dX2_areConnected_35 : decode cX2_areConnected 35 = .ok (.ireturn, 1) := by decide +kernel
theorem dX2_hopsToCollector_0 : decode cX2_hopsToCollector 0 = .ok (.aload_n 0, 1) := by decide +kernel
theorem dX2_hopsToCollector_1 : decode cX2_hopsToCollector 1 = .ok (.getfield 15, 3) := by decide +kernel
theorem dX2_hopsToCollector_4 : decode cX2_hopsToCollector 4 = .ok (.iconst 0, 1) := by decide +kernel
theorem dX2_hopsToCollector_5 : decode cX2_hopsToCollector 5 = .ok (.baload, 1) := by decide +kernel
theorem dX2_hopsToCollector_6 : decode cX2_hopsToCollector 6 = .ok (.ifCond .eq 7, 3) := by decide +kernel
theorem dX2_hopsToCollector_9 : decode cX2_hopsToCollector 9 = .ok (.iconst 1, 1) := by decide +kernel
theorem dX2_hopsToCollector_10 : decode cX2_hopsToCollector 10 = .ok (.goto 4, 3) := by decide +kernel
theorem dX2_hopsToCollector_13 : decode cX2_hopsToCollector 13 = .ok (.iconst 0, 1) := by decide +kernel
theorem dX2_hopsToCollector_14 : decode cX2_hopsToCollector 14 = .ok (.istore_n 2, 1) := by decide +kernel
theorem dX2_hopsToCollector_15 : decode cX2_hopsToCollector 15 = .ok (.iconst 0, 1) := by decide +kernel
theorem dX2_hopsToCollector_16 : decode cX2_hopsToCollector 16 = .ok (.istore_n 3, 1) := by decide +kernel
theorem dX2_hopsToCollector_17 : decode cX2_hopsToCollector 17 = .ok (.iload_n 3, 1) := by decide +kernel
theorem dX2_hopsToCollector_18 : decode cX2_hopsToCollector 18 = .ok (.bipush 10, 2) := by decide +kernel
theorem dX2_hopsToCollector_20 : decode cX2_hopsToCollector 20 = .ok (.if_icmp .ge 27, 3) := by decide +kernel
theorem dX2_hopsToCollector_23 : decode cX2_hopsToCollector 23 = .ok (.iload_n 2, 1) := by decide +kernel
theorem dX2_hopsToCollector_24 : decode cX2_hopsToCollector 24 = .ok (.iconst 1, 1) := by decide +kernel
theorem dX2_hopsToCollector_25 : decode cX2_hopsToCollector 25 = .ok (.iload_n 1, 1) := by decide +kernel
theorem dX2_hopsToCollector_26 : decode cX2_hopsToCollector 26 = .ok (.ishl, 1) := by decide +kernel
theorem dX2_hopsToCollector_27 : decode cX2_hopsToCollector 27 = .ok (.iand, 1) := by decide +kernel
theorem dX2_hopsToCollector_28 : decode cX2_hopsToCollector 28 = .ok (.ifCond .eq 5, 3) := by decide +kernel
theorem dX2_hopsToCollector_31 : decode cX2_hopsToCollector 31 = .ok (.iload_n 3, 1) := by decide +kernel
theorem dX2_hopsToCollector_32 : decode cX2_hopsToCollector 32 = .ok (.ireturn, 1) := by decide +kernel
theorem dX2_hopsToCollector_33 : decode cX2_hopsToCollector 33 = .ok (.iload_n 2, 1) := by decide +kernel
theorem dX2_hopsToCollector_34 : decode cX2_hopsToCollector 34 = .ok (.aload_n 0, 1) := by decide +kernel
theorem dX2_hopsToCollector_35 : decode cX2_hopsToCollector 35 = .ok (.iload_n 2, 1) := by decide +kernel
theorem dX2_hopsToCollector_36 : decode cX2_hopsToCollector 36 = .ok (.invokevirtual 81, 3) := by decide +kernel
theorem dX2_hopsToCollector_39 : decode cX2_hopsToCollector 39 = .ok (.ior, 1) := by decide +kernel
theorem dX2_hopsToCollector_40 : decode cX2_hopsToCollector 40 = .ok (.istore_n 2, 1) := by decide +kernel
theorem dX2_hopsToCollector_41 : decode cX2_hopsToCollector 41 = .ok (.iinc 3 1, 3) := by decide +kernel
theorem dX2_hopsToCollector_44 : decode cX2_hopsToCollector 44 = .ok (.goto (-27), 3) := by decide +kernel
theorem dX2_hopsToCollector_47 : decode cX2_hopsToCollector 47 = .ok (.iconst (-1), 1) := by decide +kernel
theorem dX2_hopsToCollector_48 : decode cX2_hopsToCollector 48 = .ok (.ireturn, 1) := by decide +kernel
theorem dX2_neighboursOf_0 : decode cX2_neighboursOf 0 = .ok (.iconst 0, 1) := by decide +kernel
theorem dX2_neighboursOf_1 : decode cX2_neighboursOf 1 = .ok (.istore_n 2, 1) := by decide +kernel
theorem dX2_neighboursOf_2 : decode cX2_neighboursOf 2 = .ok (.iconst 0, 1) := by decide +kernel
theorem dX2_neighboursOf_3 : decode cX2_neighboursOf 3 = .ok (.istore_n 3, 1) := by decide +kernel
theorem dX2_neighboursOf_4 : decode cX2_neighboursOf 4 = .ok (.iload_n 3, 1) := by decide +kernel
theorem dX2_neighboursOf_5 : decode cX2_neighboursOf 5 = .ok (.bipush 10, 2) := by decide +kernel
theorem dX2_neighboursOf_7 : decode cX2_neighboursOf 7 = .ok (.if_icmp .ge 50, 3) := by decide +kernel
theorem dX2_neighboursOf_10 : decode cX2_neighboursOf 10 = .ok (.iconst 0, 1) := by decide +kernel
theorem dX2_neighboursOf_11 : decode cX2_neighboursOf 11 = .ok (.istore 4, 2) := by decide +kernel
theorem dX2_neighboursOf_13 : decode cX2_neighboursOf 13 = .ok (.iload 4, 2) := by decide +kernel
theorem dX2_neighboursOf_15 : decode cX2_neighboursOf 15 = .ok (.bipush 10, 2) := by decide +kernel
theorem dX2_neighboursOf_17 : decode cX2_neighboursOf 17 = .ok (.if_icmp .ge 34, 3) := by decide +kernel
theorem dX2_neighboursOf_20 : decode cX2_neighboursOf 20 = .ok (.iload_n 1, 1) := by decide +kernel
theorem dX2_neighboursOf_21 : decode cX2_neighboursOf 21 = .ok (.iconst 1, 1) := by decide +kernel
theorem dX2_neighboursOf_22 : decode cX2_neighboursOf 22 = .ok (.iload_n 3, 1) := by decide +kernel
theorem dX2_neighboursOf_23 : decode cX2_neighboursOf 23 = .ok (.ishl, 1) := by decide +kernel
theorem dX2_neighboursOf_24 : decode cX2_neighboursOf 24 = .ok (.iand, 1) := by decide +kernel
theorem dX2_neighboursOf_25 : decode cX2_neighboursOf 25 = .ok (.ifCond .eq 20, 3) := by decide +kernel
theorem dX2_neighboursOf_28 : decode cX2_neighboursOf 28 = .ok (.aload_n 0, 1) := by decide +kernel
theorem dX2_neighboursOf_29 : decode cX2_neighboursOf 29 = .ok (.iload_n 3, 1) := by decide +kernel
theorem dX2_neighboursOf_30 : decode cX2_neighboursOf 30 = .ok (.iload 4, 2) := by decide +kernel
theorem dX2_neighboursOf_32 : decode cX2_neighboursOf 32 = .ok (.invokevirtual 85, 3) := by decide +kernel
theorem dX2_neighboursOf_35 : decode cX2_neighboursOf 35 = .ok (.ifCond .eq 10, 3) := by decide +kernel
theorem dX2_neighboursOf_38 : decode cX2_neighboursOf 38 = .ok (.iload_n 2, 1) := by decide +kernel
theorem dX2_neighboursOf_39 : decode cX2_neighboursOf 39 = .ok (.iconst 1, 1) := by decide +kernel
theorem dX2_neighboursOf_40 : decode cX2_neighboursOf 40 = .ok (.iload 4, 2) := by decide +kernel
theorem dX2_neighboursOf_42 : decode cX2_neighboursOf 42 = .ok (.ishl, 1) := by decide +kernel
theorem dX2_neighboursOf_43 : decode cX2_neighboursOf 43 = .ok (.ior, 1) := by decide +kernel
theorem dX2_neighboursOf_44 : decode cX2_neighboursOf 44 = .ok (.istore_n 2, 1) := by decide +kernel
theorem dX2_neighboursOf_45 : decode cX2_neighboursOf 45 = .ok (.iinc 4 1, 3) := by decide +kernel
theorem dX2_neighboursOf_48 : decode cX2_neighboursOf 48 = .ok (.goto (-35), 3) := by decide +kernel
theorem dX2_neighboursOf_51 : decode cX2_neighboursOf 51 = .ok (.iinc 3 1, 3) := by decide +kernel
theorem dX2_neighboursOf_54 : decode cX2_neighboursOf 54 = .ok (.goto (-50), 3) := by decide +kernel
theorem dX2_neighboursOf_57 : decode cX2_neighboursOf 57 = .ok (.iload_n 2, 1) := by decide +kernel
theorem dX2_neighboursOf_58 : decode cX2_neighboursOf 58 = .ok (.ireturn, 1) := by decide +kernel
theorem dX2_joinedCount_0 : decode cX2_joinedCount 0 = .ok (.iconst 0, 1) := by decide +kernel
theorem dX2_joinedCount_1 : decode cX2_joinedCount 1 = .ok (.istore_n 1, 1) := by decide +kernel
theorem dX2_joinedCount_2 : decode cX2_joinedCount 2 = .ok (.iconst 0, 1) := by decide +kernel
theorem dX2_joinedCount_3 : decode cX2_joinedCount 3 = .ok (.istore_n 2, 1) := by decide +kernel
theorem dX2_joinedCount_4 : decode cX2_joinedCount 4 = .ok (.iload_n 2, 1) := by decide +kernel
theorem dX2_joinedCount_5 : decode cX2_joinedCount 5 = .ok (.bipush 10, 2) := by decide +kernel
theorem dX2_joinedCount_7 : decode cX2_joinedCount 7 = .ok (.if_icmp .ge 27, 3) := by decide +kernel
theorem dX2_joinedCount_10 : decode cX2_joinedCount 10 = .ok (.iload_n 1, 1) := by decide +kernel
theorem dX2_joinedCount_11 : decode cX2_joinedCount 11 = .ok (.aload_n 0, 1) := by decide +kernel
theorem dX2_joinedCount_12 : decode cX2_joinedCount 12 = .ok (.getfield 18, 3) := by decide +kernel
theorem dX2_joinedCount_15 : decode cX2_joinedCount 15 = .ok (.iload_n 2, 1) := by decide +kernel
theorem dX2_joinedCount_16 : decode cX2_joinedCount 16 = .ok (.iaload, 1) := by decide +kernel
theorem dX2_joinedCount_17 : decode cX2_joinedCount 17 = .ok (.iconst (-1), 1) := by decide +kernel
theorem dX2_joinedCount_18 : decode cX2_joinedCount 18 = .ok (.if_icmp .ne 7, 3) := by decide +kernel
theorem dX2_joinedCount_21 : decode cX2_joinedCount 21 = .ok (.iconst 0, 1) := by decide +kernel
theorem dX2_joinedCount_22 : decode cX2_joinedCount 22 = .ok (.goto 4, 3) := by decide +kernel
theorem dX2_joinedCount_25 : decode cX2_joinedCount 25 = .ok (.iconst 1, 1) := by decide +kernel
theorem dX2_joinedCount_26 : decode cX2_joinedCount 26 = .ok (.iadd, 1) := by decide +kernel
theorem dX2_joinedCount_27 : decode cX2_joinedCount 27 = .ok (.istore_n 1, 1) := by decide +kernel
theorem dX2_joinedCount_28 : decode cX2_joinedCount 28 = .ok (.iinc 2 1, 3) := by decide +kernel
theorem dX2_joinedCount_31 : decode cX2_joinedCount 31 = .ok (.goto (-27), 3) := by decide +kernel
theorem dX2_joinedCount_34 : decode cX2_joinedCount 34 = .ok (.iload_n 1, 1) := by decide +kernel
theorem dX2_joinedCount_35 : decode cX2_joinedCount 35 = .ok (.ireturn, 1) := by decide +kernel
theorem dX2_canTake_0 : decode cX2_canTake 0 = .ok (.aload_n 0, 1) := by decide +kernel
theorem dX2_canTake_1 : decode cX2_canTake 1 = .ok (.getfield 37, 3) := by decide +kernel
theorem dX2_canTake_4 : decode cX2_canTake 4 = .ok (.getfield 89, 3) := by decide +kernel
theorem dX2_canTake_7 : decode cX2_canTake 7 = .ok (.bipush 60, 2) := by decide +kernel
theorem dX2_canTake_9 : decode cX2_canTake 9 = .ok (.if_icmp .ge 18, 3) := by decide +kernel
theorem dX2_canTake_12 : decode cX2_canTake 12 = .ok (.aload_n 0, 1) := by decide +kernel
theorem dX2_canTake_13 : decode cX2_canTake 13 = .ok (.getfield 37, 3) := by decide +kernel
theorem dX2_canTake_16 : decode cX2_canTake 16 = .ok (.iload_n 1, 1) := by decide +kernel
theorem dX2_canTake_17 : decode cX2_canTake 17 = .ok (.invokevirtual 92, 3) := by decide +kernel
theorem dX2_canTake_20 : decode cX2_canTake 20 = .ok (.ifCond .ne 7, 3) := by decide +kernel
theorem dX2_canTake_23 : decode cX2_canTake 23 = .ok (.iconst 1, 1) := by decide +kernel
theorem dX2_canTake_24 : decode cX2_canTake 24 = .ok (.goto 4, 3) := by decide +kernel
theorem dX2_canTake_27 : decode cX2_canTake 27 = .ok (.iconst 0, 1) := by decide +kernel
theorem dX2_canTake_28 : decode cX2_canTake 28 = .ok (.ireturn, 1) := by decide +kernel
theorem dX2_takeReading_0 : decode cX2_takeReading 0 = .ok (.iload_n 1, 1) := by decide +kernel
theorem dX2_takeReading_1 : decode cX2_takeReading 1 = .ok (.invokestatic 74, 3) := by decide +kernel
theorem dX2_takeReading_4 : decode cX2_takeReading 4 = .ok (.ifCond .ne 5, 3) := by decide +kernel
theorem dX2_takeReading_7 : decode cX2_takeReading 7 = .ok (.iconst (-1), 1) := by decide +kernel
theorem dX2_takeReading_8 : decode cX2_takeReading 8 = .ok (.ireturn, 1) := by decide +kernel
theorem dX2_takeReading_9 : decode cX2_takeReading 9 = .ok (.aload_n 0, 1) := by decide +kernel
theorem dX2_takeReading_10 : decode cX2_takeReading 10 = .ok (.getfield 37, 3) := by decide +kernel
theorem dX2_takeReading_13 : decode cX2_takeReading 13 = .ok (.iload_n 1, 1) := by decide +kernel
theorem dX2_takeReading_14 : decode cX2_takeReading 14 = .ok (.iload_n 2, 1) := by decide +kernel
theorem dX2_takeReading_15 : decode cX2_takeReading 15 = .ok (.aload_n 0, 1) := by decide +kernel
theorem dX2_takeReading_16 : decode cX2_takeReading 16 = .ok (.getfield 56, 3) := by decide +kernel
theorem dX2_takeReading_19 : decode cX2_takeReading 19 = .ok (.aload_n 0, 1) := by decide +kernel
theorem dX2_takeReading_20 : decode cX2_takeReading 20 = .ok (.getfield 56, 3) := by decide +kernel
theorem dX2_takeReading_23 : decode cX2_takeReading 23 = .ok (.aload_n 0, 1) := by decide +kernel
theorem dX2_takeReading_24 : decode cX2_takeReading 24 = .ok (.getfield 28, 3) := by decide +kernel
theorem dX2_takeReading_27 : decode cX2_takeReading 27 = .ok (.iload_n 1, 1) := by decide +kernel
theorem dX2_takeReading_28 : decode cX2_takeReading 28 = .ok (.iaload, 1) := by decide +kernel
theorem dX2_takeReading_29 : decode cX2_takeReading 29 = .ok (.iadd, 1) := by decide +kernel
theorem dX2_takeReading_30 : decode cX2_takeReading 30 = .ok (.invokevirtual 95, 3) := by decide +kernel
theorem dX2_takeReading_33 : decode cX2_takeReading 33 = .ok (.ireturn, 1) := by decide +kernel
theorem dX2_runSlots_0 : decode cX2_runSlots 0 = .ok (.aload_n 0, 1) := by decide +kernel
theorem dX2_runSlots_1 : decode cX2_runSlots 1 = .ok (.getfield 37, 3) := by decide +kernel
theorem dX2_runSlots_4 : decode cX2_runSlots 4 = .ok (.iconst 0, 1) := by decide +kernel
theorem dX2_runSlots_5 : decode cX2_runSlots 5 = .ok (.invokevirtual 99, 3) := by decide +kernel
theorem dX2_runSlots_8 : decode cX2_runSlots 8 = .ok (.istore_n 2, 1) := by decide +kernel
theorem dX2_runSlots_9 : decode cX2_runSlots 9 = .ok (.iconst 0, 1) := by decide +kernel
theorem dX2_runSlots_10 : decode cX2_runSlots 10 = .ok (.istore_n 3, 1) := by decide +kernel
theorem dX2_runSlots_11 : decode cX2_runSlots 11 = .ok (.iload_n 3, 1) := by decide +kernel
theorem dX2_runSlots_12 : decode cX2_runSlots 12 = .ok (.iload_n 1, 1) := by decide +kernel
theorem dX2_runSlots_13 : decode cX2_runSlots 13 = .ok (.if_icmp .ge 58, 3) := by decide +kernel
theorem dX2_runSlots_16 : decode cX2_runSlots 16 = .ok (.aload_n 0, 1) := by decide +kernel
theorem dX2_runSlots_17 : decode cX2_runSlots 17 = .ok (.getfield 56, 3) := by decide +kernel
theorem dX2_runSlots_20 : decode cX2_runSlots 20 = .ok (.bipush 10, 2) := by decide +kernel
theorem dX2_runSlots_22 : decode cX2_runSlots 22 = .ok (.invokestatic 102, 3) := by decide +kernel
theorem dX2_runSlots_25 : decode cX2_runSlots 25 = .ok (.istore 4, 2) := by decide +kernel
theorem dX2_runSlots_27 : decode cX2_runSlots 27 = .ok (.aload_n 0, 1) := by decide +kernel
theorem dX2_runSlots_28 : decode cX2_runSlots 28 = .ok (.getfield 15, 3) := by decide +kernel
theorem dX2_runSlots_31 : decode cX2_runSlots 31 = .ok (.iload 4, 2) := by decide +kernel
theorem dX2_runSlots_33 : decode cX2_runSlots 33 = .ok (.baload, 1) := by decide +kernel
theorem dX2_runSlots_34 : decode cX2_runSlots 34 = .ok (.ifCond .eq 21, 3) := by decide +kernel
theorem dX2_runSlots_37 : decode cX2_runSlots 37 = .ok (.aload_n 0, 1) := by decide +kernel
theorem dX2_runSlots_38 : decode cX2_runSlots 38 = .ok (.iload 4, 2) := by decide +kernel
theorem dX2_runSlots_40 : decode cX2_runSlots 40 = .ok (.invokevirtual 108, 3) := by decide +kernel
theorem dX2_runSlots_43 : decode cX2_runSlots 43 = .ok (.aload_n 0, 1) := by decide +kernel
theorem dX2_runSlots_44 : decode cX2_runSlots 44 = .ok (.iload 4, 2) := by decide +kernel
theorem dX2_runSlots_46 : decode cX2_runSlots 46 = .ok (.invokevirtual 112, 3) := by decide +kernel
theorem dX2_runSlots_49 : decode cX2_runSlots 49 = .ok (.aload_n 0, 1) := by decide +kernel
theorem dX2_runSlots_50 : decode cX2_runSlots 50 = .ok (.iload 4, 2) := by decide +kernel
theorem dX2_runSlots_52 : decode cX2_runSlots 52 = .ok (.invokevirtual 115, 3) := by decide +kernel
theorem dX2_runSlots_55 : decode cX2_runSlots 55 = .ok (.aload_n 0, 1) := by decide +kernel
theorem dX2_runSlots_56 : decode cX2_runSlots 56 = .ok (.dup, 1) := by decide +kernel
theorem dX2_runSlots_57 : decode cX2_runSlots 57 = .ok (.getfield 56, 3) := by decide +kernel
theorem dX2_runSlots_60 : decode cX2_runSlots 60 = .ok (.iconst 1, 1) := by decide +kernel
theorem dX2_runSlots_61 : decode cX2_runSlots 61 = .ok (.iadd, 1) := by decide +kernel
theorem dX2_runSlots_62 : decode cX2_runSlots 62 = .ok (.putfield 56, 3) := by decide +kernel
theorem dX2_runSlots_65 : decode cX2_runSlots 65 = .ok (.iinc 3 1, 3) := by decide +kernel
theorem dX2_runSlots_68 : decode cX2_runSlots 68 = .ok (.goto (-57), 3) := by decide +kernel
theorem dX2_runSlots_71 : decode cX2_runSlots 71 = .ok (.aload_n 0, 1) := by decide +kernel
theorem dX2_runSlots_72 : decode cX2_runSlots 72 = .ok (.getfield 37, 3) := by decide +kernel
theorem dX2_runSlots_75 : decode cX2_runSlots 75 = .ok (.iconst 0, 1) := by decide +kernel
theorem dX2_runSlots_76 : decode cX2_runSlots 76 = .ok (.invokevirtual 99, 3) := by decide +kernel
theorem dX2_runSlots_79 : decode cX2_runSlots 79 = .ok (.iload_n 2, 1) := by decide +kernel
theorem dX2_runSlots_80 : decode cX2_runSlots 80 = .ok (.isub, 1) := by decide +kernel
theorem dX2_runSlots_81 : decode cX2_runSlots 81 = .ok (.ireturn, 1) := by decide +kernel
theorem dX2_losePatience_0 : decode cX2_losePatience 0 = .ok (.aload_n 0, 1) := by decide +kernel
theorem dX2_losePatience_1 : decode cX2_losePatience 1 = .ok (.getfield 18, 3) := by decide +kernel
theorem dX2_losePatience_4 : decode cX2_losePatience 4 = .ok (.iload_n 1, 1) := by decide +kernel
theorem dX2_losePatience_5 : decode cX2_losePatience 5 = .ok (.iaload, 1) := by decide +kernel
theorem dX2_losePatience_6 : decode cX2_losePatience 6 = .ok (.iconst (-1), 1) := by decide +kernel
theorem dX2_losePatience_7 : decode cX2_losePatience 7 = .ok (.if_icmp .eq 29, 3) := by decide +kernel
theorem dX2_losePatience_10 : decode cX2_losePatience 10 = .ok (.aload_n 0, 1) := by decide +kernel
theorem dX2_losePatience_11 : decode cX2_losePatience 11 = .ok (.getfield 56, 3) := by decide +kernel
theorem dX2_losePatience_14 : decode cX2_losePatience 14 = .ok (.aload_n 0, 1) := by decide +kernel
theorem dX2_losePatience_15 : decode cX2_losePatience 15 = .ok (.getfield 25, 3) := by decide +kernel
theorem dX2_losePatience_18 : decode cX2_losePatience 18 = .ok (.iload_n 1, 1) := by decide +kernel
theorem dX2_losePatience_19 : decode cX2_losePatience 19 = .ok (.iaload, 1) := by decide +kernel
theorem dX2_losePatience_20 : decode cX2_losePatience 20 = .ok (.isub, 1) := by decide +kernel
theorem dX2_losePatience_21 : decode cX2_losePatience 21 = .ok (.bipush 10, 2) := by decide +kernel
theorem dX2_losePatience_23 : decode cX2_losePatience 23 = .ok (.aload_n 0, 1) := by decide +kernel
theorem dX2_losePatience_24 : decode cX2_losePatience 24 = .ok (.getfield 41, 3) := by decide +kernel
theorem dX2_losePatience_27 : decode cX2_losePatience 27 = .ok (.imul, 1) := by decide +kernel
theorem dX2_losePatience_28 : decode cX2_losePatience 28 = .ok (.if_icmp .le 8, 3) := by decide +kernel
theorem dX2_losePatience_31 : decode cX2_losePatience 31 = .ok (.aload_n 0, 1) := by decide +kernel
theorem dX2_losePatience_32 : decode cX2_losePatience 32 = .ok (.iload_n 1, 1) := by decide +kernel
theorem dX2_losePatience_33 : decode cX2_losePatience 33 = .ok (.invokevirtual 118, 3) := by decide +kernel
theorem dX2_losePatience_36 : decode cX2_losePatience 36 = .ok (.return_, 1) := by decide +kernel
theorem dX2_beHeard_0 : decode cX2_beHeard 0 = .ok (.iconst 0, 1) := by decide +kernel
theorem dX2_beHeard_1 : decode cX2_beHeard 1 = .ok (.istore_n 2, 1) := by decide +kernel
theorem dX2_beHeard_2 : decode cX2_beHeard 2 = .ok (.iload_n 2, 1) := by decide +kernel
theorem dX2_beHeard_3 : decode cX2_beHeard 3 = .ok (.bipush 10, 2) := by decide +kernel
theorem dX2_beHeard_5 : decode cX2_beHeard 5 = .ok (.if_icmp .ge 28, 3) := by decide +kernel
theorem dX2_beHeard_8 : decode cX2_beHeard 8 = .ok (.iload_n 2, 1) := by decide +kernel
theorem dX2_beHeard_9 : decode cX2_beHeard 9 = .ok (.ifCond .eq 18, 3) := by decide +kernel
theorem dX2_beHeard_12 : decode cX2_beHeard 12 = .ok (.aload_n 0, 1) := by decide +kernel
theorem dX2_beHeard_13 : decode cX2_beHeard 13 = .ok (.iload_n 2, 1) := by decide +kernel
theorem dX2_beHeard_14 : decode cX2_beHeard 14 = .ok (.iload_n 1, 1) := by decide +kernel
theorem dX2_beHeard_15 : decode cX2_beHeard 15 = .ok (.invokevirtual 85, 3) := by decide +kernel
theorem dX2_beHeard_18 : decode cX2_beHeard 18 = .ok (.ifCond .eq 9, 3) := by decide +kernel
theorem dX2_beHeard_21 : decode cX2_beHeard 21 = .ok (.aload_n 0, 1) := by decide +kernel
theorem dX2_beHeard_22 : decode cX2_beHeard 22 = .ok (.iload_n 2, 1) := by decide +kernel
theorem dX2_beHeard_23 : decode cX2_beHeard 23 = .ok (.iload_n 1, 1) := by decide +kernel
theorem dX2_beHeard_24 : decode cX2_beHeard 24 = .ok (.invokevirtual 121, 3) := by decide +kernel
theorem dX2_beHeard_27 : decode cX2_beHeard 27 = .ok (.iinc 2 1, 3) := by decide +kernel
theorem dX2_beHeard_30 : decode cX2_beHeard 30 = .ok (.goto (-28), 3) := by decide +kernel
theorem dX2_beHeard_33 : decode cX2_beHeard 33 = .ok (.return_, 1) := by decide +kernel
theorem dX2_hear_0 : decode cX2_hear 0 = .ok (.aload_n 0, 1) := by decide +kernel
theorem dX2_hear_1 : decode cX2_hear 1 = .ok (.getfield 22, 3) := by decide +kernel
theorem dX2_hear_4 : decode cX2_hear 4 = .ok (.iload_n 2, 1) := by decide +kernel
theorem dX2_hear_5 : decode cX2_hear 5 = .ok (.iaload, 1) := by decide +kernel
theorem dX2_hear_6 : decode cX2_hear 6 = .ok (.iconst (-1), 1) := by decide +kernel
theorem dX2_hear_7 : decode cX2_hear 7 = .ok (.if_icmp .eq 18, 3) := by decide +kernel
theorem dX2_hear_10 : decode cX2_hear 10 = .ok (.aload_n 0, 1) := by decide +kernel
theorem dX2_hear_11 : decode cX2_hear 11 = .ok (.getfield 22, 3) := by decide +kernel
theorem dX2_hear_14 : decode cX2_hear 14 = .ok (.iload_n 2, 1) := by decide +kernel
theorem dX2_hear_15 : decode cX2_hear 15 = .ok (.iaload, 1) := by decide +kernel
theorem dX2_hear_16 : decode cX2_hear 16 = .ok (.bipush 9, 2) := by decide +kernel
theorem dX2_hear_18 : decode cX2_hear 18 = .ok (.if_icmp .ge 7, 3) := by decide +kernel
theorem dX2_hear_21 : decode cX2_hear 21 = .ok (.iconst 1, 1) := by decide +kernel
theorem dX2_hear_22 : decode cX2_hear 22 = .ok (.goto 4, 3) := by decide +kernel
theorem dX2_hear_25 : decode cX2_hear 25 = .ok (.iconst 0, 1) := by decide +kernel
theorem dX2_hear_26 : decode cX2_hear 26 = .ok (.istore_n 3, 1) := by decide +kernel
theorem dX2_hear_27 : decode cX2_hear 27 = .ok (.aload_n 0, 1) := by decide +kernel
theorem dX2_hear_28 : decode cX2_hear 28 = .ok (.getfield 18, 3) := by decide +kernel
theorem dX2_hear_31 : decode cX2_hear 31 = .ok (.iload_n 1, 1) := by decide +kernel
theorem dX2_hear_32 : decode cX2_hear 32 = .ok (.iaload, 1) := by decide +kernel
theorem dX2_hear_33 : decode cX2_hear 33 = .ok (.iload_n 2, 1) := by decide +kernel
theorem dX2_hear_34 : decode cX2_hear 34 = .ok (.if_icmp .ne 7, 3) := by decide +kernel
theorem dX2_hear_37 : decode cX2_hear 37 = .ok (.iconst 1, 1) := by decide +kernel
theorem dX2_hear_38 : decode cX2_hear 38 = .ok (.goto 4, 3) := by decide +kernel
theorem dX2_hear_41 : decode cX2_hear 41 = .ok (.iconst 0, 1) := by decide +kernel
theorem dX2_hear_42 : decode cX2_hear 42 = .ok (.istore 4, 2) := by decide +kernel
theorem dX2_hear_44 : decode cX2_hear 44 = .ok (.iload 4, 2) := by decide +kernel
theorem dX2_hear_46 : decode cX2_hear 46 = .ok (.ifCond .eq 15, 3) := by decide +kernel
theorem dX2_hear_49 : decode cX2_hear 49 = .ok (.iload_n 3, 1) := by decide +kernel
theorem dX2_hear_50 : decode cX2_hear 50 = .ok (.ifCond .ne 11, 3) := by decide +kernel
theorem dX2_hear_53 : decode cX2_hear 53 = .ok (.aload_n 0, 1) := by decide +kernel
theorem dX2_hear_54 : decode cX2_hear 54 = .ok (.iload_n 1, 1) := by decide +kernel
theorem dX2_hear_55 : decode cX2_hear 55 = .ok (.invokevirtual 118, 3) := by decide +kernel
theorem dX2_hear_58 : decode cX2_hear 58 = .ok (.goto 85, 3) := by decide +kernel
theorem dX2_hear_61 : decode cX2_hear 61 = .ok (.iload 4, 2) := by decide +kernel
theorem dX2_hear_63 : decode cX2_hear 63 = .ok (.ifCond .ne 16, 3) := by decide +kernel
theorem dX2_hear_66 : decode cX2_hear 66 = .ok (.iload_n 3, 1) := by decide +kernel
theorem dX2_hear_67 : decode cX2_hear 67 = .ok (.ifCond .eq 76, 3) := by decide +kernel
theorem dX2_hear_70 : decode cX2_hear 70 = .ok (.aload_n 0, 1) := by decide +kernel
theorem dX2_hear_71 : decode cX2_hear 71 = .ok (.iload_n 1, 1) := by decide +kernel
theorem dX2_hear_72 : decode cX2_hear 72 = .ok (.iload_n 2, 1) := by decide +kernel
theorem dX2_hear_73 : decode cX2_hear 73 = .ok (.invokevirtual 125, 3) := by decide +kernel
theorem dX2_hear_76 : decode cX2_hear 76 = .ok (.ifCond .eq 67, 3) := by decide +kernel
theorem dX2_hear_79 : decode cX2_hear 79 = .ok (.aload_n 0, 1) := by decide +kernel
theorem dX2_hear_80 : decode cX2_hear 80 = .ok (.getfield 18, 3) := by decide +kernel
theorem dX2_hear_83 : decode cX2_hear 83 = .ok (.iload_n 1, 1) := by decide +kernel
theorem dX2_hear_84 : decode cX2_hear 84 = .ok (.iload_n 2, 1) := by decide +kernel
theorem dX2_hear_85 : decode cX2_hear 85 = .ok (.iastore, 1) := by decide +kernel
theorem dX2_hear_86 : decode cX2_hear 86 = .ok (.aload_n 0, 1) := by decide +kernel
theorem dX2_hear_87 : decode cX2_hear 87 = .ok (.getfield 22, 3) := by decide +kernel
theorem dX2_hear_90 : decode cX2_hear 90 = .ok (.iload_n 1, 1) := by decide +kernel
theorem dX2_hear_91 : decode cX2_hear 91 = .ok (.aload_n 0, 1) := by decide +kernel
theorem dX2_hear_92 : decode cX2_hear 92 = .ok (.getfield 22, 3) := by decide +kernel
theorem dX2_hear_95 : decode cX2_hear 95 = .ok (.iload_n 2, 1) := by decide +kernel
theorem dX2_hear_96 : decode cX2_hear 96 = .ok (.iaload, 1) := by decide +kernel
theorem dX2_hear_97 : decode cX2_hear 97 = .ok (.iconst 1, 1) := by decide +kernel
theorem dX2_hear_98 : decode cX2_hear 98 = .ok (.iadd, 1) := by decide +kernel
theorem dX2_hear_99 : decode cX2_hear 99 = .ok (.iastore, 1) := by decide +kernel
theorem dX2_hear_100 : decode cX2_hear 100 = .ok (.aload_n 0, 1) := by decide +kernel
theorem dX2_hear_101 : decode cX2_hear 101 = .ok (.getfield 25, 3) := by decide +kernel
theorem dX2_hear_104 : decode cX2_hear 104 = .ok (.iload_n 1, 1) := by decide +kernel
theorem dX2_hear_105 : decode cX2_hear 105 = .ok (.aload_n 0, 1) := by decide +kernel
theorem dX2_hear_106 : decode cX2_hear 106 = .ok (.getfield 56, 3) := by decide +kernel
theorem dX2_hear_109 : decode cX2_hear 109 = .ok (.iastore, 1) := by decide +kernel
theorem dX2_hear_110 : decode cX2_hear 110 = .ok (.aload_n 0, 1) := by decide +kernel
theorem dX2_hear_111 : decode cX2_hear 111 = .ok (.getfield 37, 3) := by decide +kernel
theorem dX2_hear_114 : decode cX2_hear 114 = .ok (.iload_n 1, 1) := by decide +kernel
theorem dX2_hear_115 : decode cX2_hear 115 = .ok (.aload_n 0, 1) := by decide +kernel
theorem dX2_hear_116 : decode cX2_hear 116 = .ok (.getfield 28, 3) := by decide +kernel
theorem dX2_hear_119 : decode cX2_hear 119 = .ok (.iload_n 2, 1) := by decide +kernel
theorem dX2_hear_120 : decode cX2_hear 120 = .ok (.iaload, 1) := by decide +kernel
theorem dX2_hear_121 : decode cX2_hear 121 = .ok (.aload_n 0, 1) := by decide +kernel
theorem dX2_hear_122 : decode cX2_hear 122 = .ok (.getfield 28, 3) := by decide +kernel
theorem dX2_hear_125 : decode cX2_hear 125 = .ok (.iload_n 1, 1) := by decide +kernel
theorem dX2_hear_126 : decode cX2_hear 126 = .ok (.iaload, 1) := by decide +kernel
theorem dX2_hear_127 : decode cX2_hear 127 = .ok (.isub, 1) := by decide +kernel
theorem dX2_hear_128 : decode cX2_hear 128 = .ok (.invokevirtual 128, 3) := by decide +kernel
theorem dX2_hear_131 : decode cX2_hear 131 = .ok (.aload_n 0, 1) := by decide +kernel
theorem dX2_hear_132 : decode cX2_hear 132 = .ok (.getfield 28, 3) := by decide +kernel
theorem dX2_hear_135 : decode cX2_hear 135 = .ok (.iload_n 1, 1) := by decide +kernel
theorem dX2_hear_136 : decode cX2_hear 136 = .ok (.aload_n 0, 1) := by decide +kernel
theorem dX2_hear_137 : decode cX2_hear 137 = .ok (.getfield 28, 3) := by decide +kernel
theorem dX2_hear_140 : decode cX2_hear 140 = .ok (.iload_n 2, 1) := by decide +kernel
theorem dX2_hear_141 : decode cX2_hear 141 = .ok (.iaload, 1) := by decide +kernel
theorem dX2_hear_142 : decode cX2_hear 142 = .ok (.iastore, 1) := by decide +kernel
theorem dX2_hear_143 : decode cX2_hear 143 = .ok (.return_, 1) := by decide +kernel
theorem dX2_isBetterParent_0 : decode cX2_isBetterParent 0 = .ok (.aload_n 0, 1) := by decide +kernel
theorem dX2_isBetterParent_1 : decode cX2_isBetterParent 1 = .ok (.getfield 18, 3) := by decide +kernel
theorem dX2_isBetterParent_4 : decode cX2_isBetterParent 4 = .ok (.iload_n 2, 1) := by decide +kernel
theorem dX2_isBetterParent_5 : decode cX2_isBetterParent 5 = .ok (.iaload, 1) := by decide +kernel
theorem dX2_isBetterParent_6 : decode cX2_isBetterParent 6 = .ok (.iload_n 1, 1) := by decide +kernel
theorem dX2_isBetterParent_7 : decode cX2_isBetterParent 7 = .ok (.if_icmp .eq 34, 3) := by decide +kernel
theorem dX2_isBetterParent_10 : decode cX2_isBetterParent 10 = .ok (.aload_n 0, 1) := by decide +kernel
theorem dX2_isBetterParent_11 : decode cX2_isBetterParent 11 = .ok (.getfield 18, 3) := by decide +kernel
theorem dX2_isBetterParent_14 : decode cX2_isBetterParent 14 = .ok (.iload_n 1, 1) := by decide +kernel
theorem dX2_isBetterParent_15 : decode cX2_isBetterParent 15 = .ok (.iaload, 1) := by decide +kernel
theorem dX2_isBetterParent_16 : decode cX2_isBetterParent 16 = .ok (.iconst (-1), 1) := by decide +kernel
theorem dX2_isBetterParent_17 : decode cX2_isBetterParent 17 = .ok (.if_icmp .eq 20, 3) := by decide +kernel
theorem dX2_isBetterParent_20 : decode cX2_isBetterParent 20 = .ok (.aload_n 0, 1) := by decide +kernel
theorem dX2_isBetterParent_21 : decode cX2_isBetterParent 21 = .ok (.getfield 22, 3) := by decide +kernel
theorem dX2_isBetterParent_24 : decode cX2_isBetterParent 24 = .ok (.iload_n 1, 1) := by decide +kernel
theorem dX2_isBetterParent_25 : decode cX2_isBetterParent 25 = .ok (.iaload, 1) := by decide +kernel
theorem dX2_isBetterParent_26 : decode cX2_isBetterParent 26 = .ok (.aload_n 0, 1) := by decide +kernel
theorem dX2_isBetterParent_27 : decode cX2_isBetterParent 27 = .ok (.getfield 22, 3) := by decide +kernel
theorem dX2_isBetterParent_30 : decode cX2_isBetterParent 30 = .ok (.iload_n 2, 1) := by decide +kernel
theorem dX2_isBetterParent_31 : decode cX2_isBetterParent 31 = .ok (.iaload, 1) := by decide +kernel
theorem dX2_isBetterParent_32 : decode cX2_isBetterParent 32 = .ok (.iconst 1, 1) := by decide +kernel
theorem dX2_isBetterParent_33 : decode cX2_isBetterParent 33 = .ok (.iadd, 1) := by decide +kernel
theorem dX2_isBetterParent_34 : decode cX2_isBetterParent 34 = .ok (.if_icmp .le 7, 3) := by decide +kernel
theorem dX2_isBetterParent_37 : decode cX2_isBetterParent 37 = .ok (.iconst 1, 1) := by decide +kernel
theorem dX2_isBetterParent_38 : decode cX2_isBetterParent 38 = .ok (.goto 4, 3) := by decide +kernel
theorem dX2_isBetterParent_41 : decode cX2_isBetterParent 41 = .ok (.iconst 0, 1) := by decide +kernel
theorem dX2_isBetterParent_42 : decode cX2_isBetterParent 42 = .ok (.ireturn, 1) := by decide +kernel
theorem dX2_dropParent_0 : decode cX2_dropParent 0 = .ok (.aload_n 0, 1) := by decide +kernel
theorem dX2_dropParent_1 : decode cX2_dropParent 1 = .ok (.getfield 18, 3) := by decide +kernel
theorem dX2_dropParent_4 : decode cX2_dropParent 4 = .ok (.iload_n 1, 1) := by decide +kernel
theorem dX2_dropParent_5 : decode cX2_dropParent 5 = .ok (.iconst (-1), 1) := by decide +kernel
theorem dX2_dropParent_6 : decode cX2_dropParent 6 = .ok (.iastore, 1) := by decide +kernel
theorem dX2_dropParent_7 : decode cX2_dropParent 7 = .ok (.aload_n 0, 1) := by decide +kernel
theorem dX2_dropParent_8 : decode cX2_dropParent 8 = .ok (.getfield 22, 3) := by decide +kernel
theorem dX2_dropParent_11 : decode cX2_dropParent 11 = .ok (.iload_n 1, 1) := by decide +kernel
theorem dX2_dropParent_12 : decode cX2_dropParent 12 = .ok (.iconst (-1), 1) := by decide +kernel
theorem dX2_dropParent_13 : decode cX2_dropParent 13 = .ok (.iastore, 1) := by decide +kernel
theorem dX2_dropParent_14 : decode cX2_dropParent 14 = .ok (.aload_n 0, 1) := by decide +kernel
theorem dX2_dropParent_15 : decode cX2_dropParent 15 = .ok (.dup, 1) := by decide +kernel
theorem dX2_dropParent_16 : decode cX2_dropParent 16 = .ok (.getfield 71, 3) := by decide +kernel
theorem dX2_dropParent_19 : decode cX2_dropParent 19 = .ok (.iconst 1, 1) := by decide +kernel
theorem dX2_dropParent_20 : decode cX2_dropParent 20 = .ok (.iadd, 1) := by decide +kernel
theorem dX2_dropParent_21 : decode cX2_dropParent 21 = .ok (.putfield 71, 3) := by decide +kernel
theorem dX2_dropParent_24 : decode cX2_dropParent 24 = .ok (.return_, 1) := by decide +kernel
theorem dX2_send_0 : decode cX2_send 0 = .ok (.aload_n 0, 1) := by decide +kernel
theorem dX2_send_1 : decode cX2_send 1 = .ok (.getfield 18, 3) := by decide +kernel
theorem dX2_send_4 : decode cX2_send 4 = .ok (.iload_n 1, 1) := by decide +kernel
theorem dX2_send_5 : decode cX2_send 5 = .ok (.iaload, 1) := by decide +kernel
theorem dX2_send_6 : decode cX2_send 6 = .ok (.istore_n 2, 1) := by decide +kernel
theorem dX2_send_7 : decode cX2_send 7 = .ok (.aload_n 0, 1) := by decide +kernel
theorem dX2_send_8 : decode cX2_send 8 = .ok (.iload_n 1, 1) := by decide +kernel
theorem dX2_send_9 : decode cX2_send 9 = .ok (.iload_n 2, 1) := by decide +kernel
theorem dX2_send_10 : decode cX2_send 10 = .ok (.invokevirtual 85, 3) := by decide +kernel
theorem dX2_send_13 : decode cX2_send 13 = .ok (.ifCond .eq 14, 3) := by decide +kernel
theorem dX2_send_16 : decode cX2_send 16 = .ok (.aload_n 0, 1) := by decide +kernel
theorem dX2_send_17 : decode cX2_send 17 = .ok (.getfield 37, 3) := by decide +kernel
theorem dX2_send_20 : decode cX2_send 20 = .ok (.iload_n 1, 1) := by decide +kernel
theorem dX2_send_21 : decode cX2_send 21 = .ok (.invokevirtual 99, 3) := by decide +kernel
theorem dX2_send_24 : decode cX2_send 24 = .ok (.ifCond .ne 4, 3) := by decide +kernel
theorem dX2_send_27 : decode cX2_send 27 = .ok (.return_, 1) := by decide +kernel
theorem dX2_send_28 : decode cX2_send 28 = .ok (.aload_n 0, 1) := by decide +kernel
theorem dX2_send_29 : decode cX2_send 29 = .ok (.dup, 1) := by decide +kernel
theorem dX2_send_30 : decode cX2_send 30 = .ok (.getfield 59, 3) := by decide +kernel
theorem dX2_send_33 : decode cX2_send 33 = .ok (.iconst 1, 1) := by decide +kernel
theorem dX2_send_34 : decode cX2_send 34 = .ok (.iadd, 1) := by decide +kernel
theorem dX2_send_35 : decode cX2_send 35 = .ok (.putfield 59, 3) := by decide +kernel
theorem dX2_send_38 : decode cX2_send 38 = .ok (.aload_n 0, 1) := by decide +kernel
theorem dX2_send_39 : decode cX2_send 39 = .ok (.iload_n 1, 1) := by decide +kernel
theorem dX2_send_40 : decode cX2_send 40 = .ok (.iload_n 2, 1) := by decide +kernel
theorem dX2_send_41 : decode cX2_send 41 = .ok (.invokevirtual 131, 3) := by decide +kernel
theorem dX2_send_44 : decode cX2_send 44 = .ok (.ifCond .ne 16, 3) := by decide +kernel
theorem dX2_send_47 : decode cX2_send 47 = .ok (.aload_n 0, 1) := by decide +kernel
theorem dX2_send_48 : decode cX2_send 48 = .ok (.dup, 1) := by decide +kernel
theorem dX2_send_49 : decode cX2_send 49 = .ok (.getfield 65, 3) := by decide +kernel
theorem dX2_send_52 : decode cX2_send 52 = .ok (.iconst 1, 1) := by decide +kernel
theorem dX2_send_53 : decode cX2_send 53 = .ok (.iadd, 1) := by decide +kernel
theorem dX2_send_54 : decode cX2_send 54 = .ok (.putfield 65, 3) := by decide +kernel
theorem dX2_send_57 : decode cX2_send 57 = .ok (.goto 43, 3) := by decide +kernel
theorem dX2_send_60 : decode cX2_send 60 = .ok (.aload_n 0, 1) := by decide +kernel
theorem dX2_send_61 : decode cX2_send 61 = .ok (.getfield 31, 3) := by decide +kernel
theorem dX2_send_64 : decode cX2_send 64 = .ok (.iload_n 1, 1) := by decide +kernel
theorem dX2_send_65 : decode cX2_send 65 = .ok (.iaload, 1) := by decide +kernel
theorem dX2_send_66 : decode cX2_send 66 = .ok (.ifCond .le 26, 3) := by decide +kernel
theorem dX2_send_69 : decode cX2_send 69 = .ok (.aload_n 0, 1) := by decide +kernel
theorem dX2_send_70 : decode cX2_send 70 = .ok (.getfield 31, 3) := by decide +kernel
theorem dX2_send_73 : decode cX2_send 73 = .ok (.iload_n 1, 1) := by decide +kernel
theorem dX2_send_74 : decode cX2_send 74 = .ok (.dup2, 1) := by decide +kernel
theorem dX2_send_75 : decode cX2_send 75 = .ok (.iaload, 1) := by decide +kernel
theorem dX2_send_76 : decode cX2_send 76 = .ok (.iconst 1, 1) := by decide +kernel
theorem dX2_send_77 : decode cX2_send 77 = .ok (.isub, 1) := by decide +kernel
theorem dX2_send_78 : decode cX2_send 78 = .ok (.iastore, 1) := by decide +kernel
theorem dX2_send_79 : decode cX2_send 79 = .ok (.aload_n 0, 1) := by decide +kernel
theorem dX2_send_80 : decode cX2_send 80 = .ok (.dup, 1) := by decide +kernel
theorem dX2_send_81 : decode cX2_send 81 = .ok (.getfield 68, 3) := by decide +kernel
theorem dX2_send_84 : decode cX2_send 84 = .ok (.iconst 1, 1) := by decide +kernel
theorem dX2_send_85 : decode cX2_send 85 = .ok (.iadd, 1) := by decide +kernel
theorem dX2_send_86 : decode cX2_send 86 = .ok (.putfield 68, 3) := by decide +kernel
theorem dX2_send_89 : decode cX2_send 89 = .ok (.goto 11, 3) := by decide +kernel
theorem dX2_send_92 : decode cX2_send 92 = .ok (.aload_n 0, 1) := by decide +kernel
theorem dX2_send_93 : decode cX2_send 93 = .ok (.getfield 37, 3) := by decide +kernel
theorem dX2_send_96 : decode cX2_send 96 = .ok (.iload_n 1, 1) := by decide +kernel
theorem dX2_send_97 : decode cX2_send 97 = .ok (.invokevirtual 134, 3) := by decide +kernel
theorem dX2_send_100 : decode cX2_send 100 = .ok (.return_, 1) := by decide +kernel
theorem dX2_isAccepted_0 : decode cX2_isAccepted 0 = .ok (.aload_n 0, 1) := by decide +kernel
theorem dX2_isAccepted_1 : decode cX2_isAccepted 1 = .ok (.getfield 37, 3) := by decide +kernel
theorem dX2_isAccepted_4 : decode cX2_isAccepted 4 = .ok (.iload_n 1, 1) := by decide +kernel
theorem dX2_isAccepted_5 : decode cX2_isAccepted 5 = .ok (.iconst 0, 1) := by decide +kernel
theorem dX2_isAccepted_6 : decode cX2_isAccepted 6 = .ok (.invokevirtual 137, 3) := by decide +kernel
theorem dX2_isAccepted_9 : decode cX2_isAccepted 9 = .ok (.istore_n 3, 1) := by decide +kernel
theorem dX2_isAccepted_10 : decode cX2_isAccepted 10 = .ok (.aload_n 0, 1) := by decide +kernel
theorem dX2_isAccepted_11 : decode cX2_isAccepted 11 = .ok (.getfield 37, 3) := by decide +kernel
theorem dX2_isAccepted_14 : decode cX2_isAccepted 14 = .ok (.iload_n 2, 1) := by decide +kernel
theorem dX2_isAccepted_15 : decode cX2_isAccepted 15 = .ok (.iload_n 3, 1) := by decide +kernel
theorem dX2_isAccepted_16 : decode cX2_isAccepted 16 = .ok (.invokevirtual 140, 3) := by decide +kernel
theorem dX2_isAccepted_19 : decode cX2_isAccepted 19 = .ok (.ifCond .eq 15, 3) := by decide +kernel
theorem dX2_isAccepted_22 : decode cX2_isAccepted 22 = .ok (.aload_n 0, 1) := by decide +kernel
theorem dX2_isAccepted_23 : decode cX2_isAccepted 23 = .ok (.dup, 1) := by decide +kernel
theorem dX2_isAccepted_24 : decode cX2_isAccepted 24 = .ok (.getfield 62, 3) := by decide +kernel
theorem dX2_isAccepted_27 : decode cX2_isAccepted 27 = .ok (.iconst 1, 1) := by decide +kernel
theorem dX2_isAccepted_28 : decode cX2_isAccepted 28 = .ok (.iadd, 1) := by decide +kernel
theorem dX2_isAccepted_29 : decode cX2_isAccepted 29 = .ok (.putfield 62, 3) := by decide +kernel
theorem dX2_isAccepted_32 : decode cX2_isAccepted 32 = .ok (.iconst 1, 1) := by decide +kernel
theorem dX2_isAccepted_33 : decode cX2_isAccepted 33 = .ok (.ireturn, 1) := by decide +kernel
theorem dX2_isAccepted_34 : decode cX2_isAccepted 34 = .ok (.iload_n 2, 1) := by decide +kernel
theorem dX2_isAccepted_35 : decode cX2_isAccepted 35 = .ok (.invokestatic 74, 3) := by decide +kernel
theorem dX2_isAccepted_38 : decode cX2_isAccepted 38 = .ok (.ifCond .eq 14, 3) := by decide +kernel
theorem dX2_isAccepted_41 : decode cX2_isAccepted 41 = .ok (.aload_n 0, 1) := by decide +kernel
theorem dX2_isAccepted_42 : decode cX2_isAccepted 42 = .ok (.getfield 37, 3) := by decide +kernel
theorem dX2_isAccepted_45 : decode cX2_isAccepted 45 = .ok (.iload_n 2, 1) := by decide +kernel
theorem dX2_isAccepted_46 : decode cX2_isAccepted 46 = .ok (.invokevirtual 92, 3) := by decide +kernel
theorem dX2_isAccepted_49 : decode cX2_isAccepted 49 = .ok (.ifCond .eq 5, 3) := by decide +kernel
theorem dX2_isAccepted_52 : decode cX2_isAccepted 52 = .ok (.iconst 0, 1) := by decide +kernel
theorem dX2_isAccepted_53 : decode cX2_isAccepted 53 = .ok (.ireturn, 1) := by decide +kernel
theorem dX2_isAccepted_54 : decode cX2_isAccepted 54 = .ok (.aload_n 0, 1) := by decide +kernel
theorem dX2_isAccepted_55 : decode cX2_isAccepted 55 = .ok (.getfield 37, 3) := by decide +kernel
theorem dX2_isAccepted_58 : decode cX2_isAccepted 58 = .ok (.iload_n 2, 1) := by decide +kernel
theorem dX2_isAccepted_59 : decode cX2_isAccepted 59 = .ok (.iload_n 3, 1) := by decide +kernel
theorem dX2_isAccepted_60 : decode cX2_isAccepted 60 = .ok (.aload_n 0, 1) := by decide +kernel
theorem dX2_isAccepted_61 : decode cX2_isAccepted 61 = .ok (.getfield 37, 3) := by decide +kernel
theorem dX2_isAccepted_64 : decode cX2_isAccepted 64 = .ok (.iload_n 1, 1) := by decide +kernel
theorem dX2_isAccepted_65 : decode cX2_isAccepted 65 = .ok (.iconst 0, 1) := by decide +kernel
theorem dX2_isAccepted_66 : decode cX2_isAccepted 66 = .ok (.invokevirtual 143, 3) := by decide +kernel
theorem dX2_isAccepted_69 : decode cX2_isAccepted 69 = .ok (.aload_n 0, 1) := by decide +kernel
theorem dX2_isAccepted_70 : decode cX2_isAccepted 70 = .ok (.getfield 28, 3) := by decide +kernel
theorem dX2_isAccepted_73 : decode cX2_isAccepted 73 = .ok (.iload_n 2, 1) := by decide +kernel
theorem dX2_isAccepted_74 : decode cX2_isAccepted 74 = .ok (.iaload, 1) := by decide +kernel
theorem dX2_isAccepted_75 : decode cX2_isAccepted 75 = .ok (.iadd, 1) := by decide +kernel
theorem dX2_isAccepted_76 : decode cX2_isAccepted 76 = .ok (.aload_n 0, 1) := by decide +kernel
theorem dX2_isAccepted_77 : decode cX2_isAccepted 77 = .ok (.getfield 28, 3) := by decide +kernel
theorem dX2_isAccepted_80 : decode cX2_isAccepted 80 = .ok (.iload_n 1, 1) := by decide +kernel
theorem dX2_isAccepted_81 : decode cX2_isAccepted 81 = .ok (.iaload, 1) := by decide +kernel
theorem dX2_isAccepted_82 : decode cX2_isAccepted 82 = .ok (.isub, 1) := by decide +kernel
theorem dX2_isAccepted_83 : decode cX2_isAccepted 83 = .ok (.invokevirtual 146, 3) := by decide +kernel
theorem dX2_isAccepted_86 : decode cX2_isAccepted 86 = .ok (.iconst 1, 1) := by decide +kernel
theorem dX2_isAccepted_87 : decode cX2_isAccepted 87 = .ok (.ireturn, 1) := by decide +kernel
theorem dX3_init_0 : decode cX3_init 0 = .ok (.aload_n 0, 1) := by decide +kernel
theorem dX3_init_1 : decode cX3_init 1 = .ok (.invokespecial 3, 3) := by decide +kernel
theorem dX3_init_4 : decode cX3_init 4 = .ok (.aload_n 0, 1) := by decide +kernel
theorem dX3_init_5 : decode cX3_init 5 = .ok (.bipush 80, 2) := by decide +kernel
theorem dX3_init_7 : decode cX3_init 7 = .ok (.newarray .char, 2) := by decide +kernel
theorem dX3_init_9 : decode cX3_init 9 = .ok (.putfield 9, 3) := by decide +kernel
theorem dX3_init_12 : decode cX3_init 12 = .ok (.return_, 1) := by decide +kernel
theorem dX3_isFull_0 : decode cX3_isFull 0 = .ok (.aload_n 0, 1) := by decide +kernel
theorem dX3_isFull_1 : decode cX3_isFull 1 = .ok (.getfield 15, 3) := by decide +kernel
theorem dX3_isFull_4 : decode cX3_isFull 4 = .ok (.bipush 80, 2) := by decide +kernel
theorem dX3_isFull_6 : decode cX3_isFull 6 = .ok (.if_icmp .lt 7, 3) := by decide +kernel
theorem dX3_isFull_9 : decode cX3_isFull 9 = .ok (.iconst 1, 1) := by decide +kernel
theorem dX3_isFull_10 : decode cX3_isFull 10 = .ok (.goto 4, 3) := by decide +kernel
theorem dX3_isFull_13 : decode cX3_isFull 13 = .ok (.iconst 0, 1) := by decide +kernel
theorem dX3_isFull_14 : decode cX3_isFull 14 = .ok (.ireturn, 1) := by decide +kernel
theorem dX3_append_0 : decode cX3_append 0 = .ok (.aload_n 0, 1) := by decide +kernel
theorem dX3_append_1 : decode cX3_append 1 = .ok (.getfield 15, 3) := by decide +kernel
theorem dX3_append_4 : decode cX3_append 4 = .ok (.ifCond .lt 35, 3) := by decide +kernel
theorem dX3_append_7 : decode cX3_append 7 = .ok (.aload_n 0, 1) := by decide +kernel
theorem dX3_append_8 : decode cX3_append 8 = .ok (.getfield 15, 3) := by decide +kernel
theorem dX3_append_11 : decode cX3_append 11 = .ok (.aload_n 0, 1) := by decide +kernel
theorem dX3_append_12 : decode cX3_append 12 = .ok (.getfield 9, 3) := by decide +kernel
theorem dX3_append_15 : decode cX3_append 15 = .ok (.arraylength, 1) := by decide +kernel
theorem dX3_append_16 : decode cX3_append 16 = .ok (.if_icmp .ge 23, 3) := by decide +kernel
theorem dX3_append_19 : decode cX3_append 19 = .ok (.aload_n 0, 1) := by decide +kernel
theorem dX3_append_20 : decode cX3_append 20 = .ok (.getfield 9, 3) := by decide +kernel
theorem dX3_append_23 : decode cX3_append 23 = .ok (.aload_n 0, 1) := by decide +kernel
theorem dX3_append_24 : decode cX3_append 24 = .ok (.getfield 15, 3) := by decide +kernel
theorem dX3_append_27 : decode cX3_append 27 = .ok (.iload_n 1, 1) := by decide +kernel
theorem dX3_append_28 : decode cX3_append 28 = .ok (.castore, 1) := by decide +kernel
theorem dX3_append_29 : decode cX3_append 29 = .ok (.aload_n 0, 1) := by decide +kernel
theorem dX3_append_30 : decode cX3_append 30 = .ok (.dup, 1) := by decide +kernel
theorem dX3_append_31 : decode cX3_append 31 = .ok (.getfield 15, 3) := by decide +kernel
theorem dX3_append_34 : decode cX3_append 34 = .ok (.iconst 1, 1) := by decide +kernel
theorem dX3_append_35 : decode cX3_append 35 = .ok (.iadd, 1) := by decide +kernel
theorem dX3_append_36 : decode cX3_append 36 = .ok (.putfield 15, 3) := by decide +kernel
theorem dX3_append_39 : decode cX3_append 39 = .ok (.return_, 1) := by decide +kernel
theorem dX3_findError_0 : decode cX3_findError 0 = .ok (.aload_n 0, 1) := by decide +kernel
theorem dX3_findError_1 : decode cX3_findError 1 = .ok (.iconst 0, 1) := by decide +kernel
theorem dX3_findError_2 : decode cX3_findError 2 = .ok (.putfield 19, 3) := by decide +kernel
theorem dX3_findError_5 : decode cX3_findError 5 = .ok (.iconst 0, 1) := by decide +kernel
theorem dX3_findError_6 : decode cX3_findError 6 = .ok (.istore_n 1, 1) := by decide +kernel
theorem dX3_findError_7 : decode cX3_findError 7 = .ok (.iload_n 1, 1) := by decide +kernel
theorem dX3_findError_8 : decode cX3_findError 8 = .ok (.bipush 80, 2) := by decide +kernel
theorem dX3_findError_10 : decode cX3_findError 10 = .ok (.if_icmp .gt 48, 3) := by decide +kernel
theorem dX3_findError_13 : decode cX3_findError 13 = .ok (.aload_n 0, 1) := by decide +kernel
theorem dX3_findError_14 : decode cX3_findError 14 = .ok (.invokevirtual 22, 3) := by decide +kernel
theorem dX3_findError_17 : decode cX3_findError 17 = .ok (.ifCond .ne 8, 3) := by decide +kernel
theorem dX3_findError_20 : decode cX3_findError 20 = .ok (.aload_n 0, 1) := by decide +kernel
theorem dX3_findError_21 : decode cX3_findError 21 = .ok (.getfield 19, 3) := by decide +kernel
theorem dX3_findError_24 : decode cX3_findError 24 = .ok (.ireturn, 1) := by decide +kernel
theorem dX3_findError_25 : decode cX3_findError 25 = .ok (.aload_n 0, 1) := by decide +kernel
theorem dX3_findError_26 : decode cX3_findError 26 = .ok (.getfield 19, 3) := by decide +kernel
theorem dX3_findError_29 : decode cX3_findError 29 = .ok (.aload_n 0, 1) := by decide +kernel
theorem dX3_findError_30 : decode cX3_findError 30 = .ok (.getfield 15, 3) := by decide +kernel
theorem dX3_findError_33 : decode cX3_findError 33 = .ok (.if_icmp .lt 5, 3) := by decide +kernel
theorem dX3_findError_36 : decode cX3_findError 36 = .ok (.iconst (-1), 1) := by decide +kernel
theorem dX3_findError_37 : decode cX3_findError 37 = .ok (.ireturn, 1) := by decide +kernel
theorem dX3_findError_38 : decode cX3_findError 38 = .ok (.aload_n 0, 1) := by decide +kernel
theorem dX3_findError_39 : decode cX3_findError 39 = .ok (.bipush 59, 2) := by decide +kernel
theorem dX3_findError_41 : decode cX3_findError 41 = .ok (.invokevirtual 26, 3) := by decide +kernel
theorem dX3_findError_44 : decode cX3_findError 44 = .ok (.ifCond .ne 8, 3) := by decide +kernel
theorem dX3_findError_47 : decode cX3_findError 47 = .ok (.aload_n 0, 1) := by decide +kernel
theorem dX3_findError_48 : decode cX3_findError 48 = .ok (.getfield 19, 3) := by decide +kernel
theorem dX3_findError_51 : decode cX3_findError 51 = .ok (.ireturn, 1) := by decide +kernel
theorem dX3_findError_52 : decode cX3_findError 52 = .ok (.iinc 1 1, 3) := by decide +kernel
theorem dX3_findError_55 : decode cX3_findError 55 = .ok (.goto (-48), 3) := by decide +kernel
theorem dX3_findError_58 : decode cX3_findError 58 = .ok (.aload_n 0, 1) := by decide +kernel
theorem dX3_findError_59 : decode cX3_findError 59 = .ok (.getfield 19, 3) := by decide +kernel
theorem dX3_findError_62 : decode cX3_findError 62 = .ok (.ireturn, 1) := by decide +kernel
theorem dX3_readCommand_0 : decode cX3_readCommand 0 = .ok (.aload_n 0, 1) := by decide +kernel
theorem dX3_readCommand_1 : decode cX3_readCommand 1 = .ok (.aload_n 0, 1) := by decide +kernel
theorem dX3_readCommand_2 : decode cX3_readCommand 2 = .ok (.invokevirtual 30, 3) := by decide +kernel
theorem dX3_readCommand_5 : decode cX3_readCommand 5 = .ok (.putfield 34, 3) := by decide +kernel
theorem dX3_readCommand_8 : decode cX3_readCommand 8 = .ok (.aload_n 0, 1) := by decide +kernel
theorem dX3_readCommand_9 : decode cX3_readCommand 9 = .ok (.getfield 34, 3) := by decide +kernel
theorem dX3_readCommand_12 : decode cX3_readCommand 12 = .ok (.lookupswitch 161 #[(33, 83), (43, 52), (45, 52), (114, 143), (116, 99)], 52) := by decide +kernel
theorem dX3_readCommand_64 : decode cX3_readCommand 64 = .ok (.aload_n 0, 1) := by decide +kernel
theorem dX3_readCommand_65 : decode cX3_readCommand 65 = .ok (.dup, 1) := by decide +kernel
theorem dX3_readCommand_66 : decode cX3_readCommand 66 = .ok (.getfield 19, 3) := by decide +kernel
theorem dX3_readCommand_69 : decode cX3_readCommand 69 = .ok (.iconst 1, 1) := by decide +kernel
theorem dX3_readCommand_70 : decode cX3_readCommand 70 = .ok (.iadd, 1) := by decide +kernel
theorem dX3_readCommand_71 : decode cX3_readCommand 71 = .ok (.putfield 19, 3) := by decide +kernel
theorem dX3_readCommand_74 : decode cX3_readCommand 74 = .ok (.aload_n 0, 1) := by decide +kernel
theorem dX3_readCommand_75 : decode cX3_readCommand 75 = .ok (.iconst 0, 1) := by decide +kernel
theorem dX3_readCommand_76 : decode cX3_readCommand 76 = .ok (.invokevirtual 38, 3) := by decide +kernel
theorem dX3_readCommand_79 : decode cX3_readCommand 79 = .ok (.ifCond .eq 14, 3) := by decide +kernel
theorem dX3_readCommand_82 : decode cX3_readCommand 82 = .ok (.aload_n 0, 1) := by decide +kernel
theorem dX3_readCommand_83 : decode cX3_readCommand 83 = .ok (.invokevirtual 42, 3) := by decide +kernel
theorem dX3_readCommand_86 : decode cX3_readCommand 86 = .ok (.ifCond .eq 7, 3) := by decide +kernel
theorem dX3_readCommand_89 : decode cX3_readCommand 89 = .ok (.iconst 1, 1) := by decide +kernel
theorem dX3_readCommand_90 : decode cX3_readCommand 90 = .ok (.goto 4, 3) := by decide +kernel
theorem dX3_readCommand_93 : decode cX3_readCommand 93 = .ok (.iconst 0, 1) := by decide +kernel
theorem dX3_readCommand_94 : decode cX3_readCommand 94 = .ok (.ireturn, 1) := by decide +kernel
theorem dX3_readCommand_95 : decode cX3_readCommand 95 = .ok (.aload_n 0, 1) := by decide +kernel
theorem dX3_readCommand_96 : decode cX3_readCommand 96 = .ok (.dup, 1) := by decide +kernel
theorem dX3_readCommand_97 : decode cX3_readCommand 97 = .ok (.getfield 19, 3) := by decide +kernel
theorem dX3_readCommand_100 : decode cX3_readCommand 100 = .ok (.iconst 1, 1) := by decide +kernel
theorem dX3_readCommand_101 : decode cX3_readCommand 101 = .ok (.iadd, 1) := by decide +kernel
theorem dX3_readCommand_102 : decode cX3_readCommand 102 = .ok (.putfield 19, 3) := by decide +kernel
theorem dX3_readCommand_105 : decode cX3_readCommand 105 = .ok (.aload_n 0, 1) := by decide +kernel
theorem dX3_readCommand_106 : decode cX3_readCommand 106 = .ok (.iconst 0, 1) := by decide +kernel
theorem dX3_readCommand_107 : decode cX3_readCommand 107 = .ok (.invokevirtual 38, 3) := by decide +kernel
theorem dX3_readCommand_110 : decode cX3_readCommand 110 = .ok (.ireturn, 1) := by decide +kernel
theorem dX3_readCommand_111 : decode cX3_readCommand 111 = .ok (.aload_n 0, 1) := by decide +kernel
theorem dX3_readCommand_112 : decode cX3_readCommand 112 = .ok (.dup, 1) := by decide +kernel
theorem dX3_readCommand_113 : decode cX3_readCommand 113 = .ok (.getfield 19, 3) := by decide +kernel
theorem dX3_readCommand_116 : decode cX3_readCommand 116 = .ok (.iconst 1, 1) := by decide +kernel
theorem dX3_readCommand_117 : decode cX3_readCommand 117 = .ok (.iadd, 1) := by decide +kernel
theorem dX3_readCommand_118 : decode cX3_readCommand 118 = .ok (.putfield 19, 3) := by decide +kernel
theorem dX3_readCommand_121 : decode cX3_readCommand 121 = .ok (.aload_n 0, 1) := by decide +kernel
theorem dX3_readCommand_122 : decode cX3_readCommand 122 = .ok (.iconst 1, 1) := by decide +kernel
theorem dX3_readCommand_123 : decode cX3_readCommand 123 = .ok (.invokevirtual 38, 3) := by decide +kernel
theorem dX3_readCommand_126 : decode cX3_readCommand 126 = .ok (.ifCond .eq 27, 3) := by decide +kernel
theorem dX3_readCommand_129 : decode cX3_readCommand 129 = .ok (.aload_n 0, 1) := by decide +kernel
theorem dX3_readCommand_130 : decode cX3_readCommand 130 = .ok (.bipush 44, 2) := by decide +kernel
theorem dX3_readCommand_132 : decode cX3_readCommand 132 = .ok (.invokevirtual 26, 3) := by decide +kernel
theorem dX3_readCommand_135 : decode cX3_readCommand 135 = .ok (.ifCond .eq 18, 3) := by decide +kernel
theorem dX3_readCommand_138 : decode cX3_readCommand 138 = .ok (.aload_n 0, 1) := by decide +kernel
theorem dX3_readCommand_139 : decode cX3_readCommand 139 = .ok (.iconst 0, 1) := by decide +kernel
theorem dX3_readCommand_140 : decode cX3_readCommand 140 = .ok (.sipush 999, 3) := by decide +kernel
theorem dX3_readCommand_143 : decode cX3_readCommand 143 = .ok (.invokevirtual 45, 3) := by decide +kernel
theorem dX3_readCommand_146 : decode cX3_readCommand 146 = .ok (.ifCond .eq 7, 3) := by decide +kernel
theorem dX3_readCommand_149 : decode cX3_readCommand 149 = .ok (.iconst 1, 1) := by decide +kernel
theorem dX3_readCommand_150 : decode cX3_readCommand 150 = .ok (.goto 4, 3) := by decide +kernel
theorem dX3_readCommand_153 : decode cX3_readCommand 153 = .ok (.iconst 0, 1) := by decide +kernel
theorem dX3_readCommand_154 : decode cX3_readCommand 154 = .ok (.ireturn, 1) := by decide +kernel
theorem dX3_readCommand_155 : decode cX3_readCommand 155 = .ok (.aload_n 0, 1) := by decide +kernel
theorem dX3_readCommand_156 : decode cX3_readCommand 156 = .ok (.dup, 1) := by decide +kernel
theorem dX3_readCommand_157 : decode cX3_readCommand 157 = .ok (.getfield 19, 3) := by decide +kernel
theorem dX3_readCommand_160 : decode cX3_readCommand 160 = .ok (.iconst 1, 1) := by decide +kernel
theorem dX3_readCommand_161 : decode cX3_readCommand 161 = .ok (.iadd, 1) := by decide +kernel
theorem dX3_readCommand_162 : decode cX3_readCommand 162 = .ok (.putfield 19, 3) := by decide +kernel
theorem dX3_readCommand_165 : decode cX3_readCommand 165 = .ok (.aload_n 0, 1) := by decide +kernel
theorem dX3_readCommand_166 : decode cX3_readCommand 166 = .ok (.iconst 1, 1) := by decide +kernel
theorem dX3_readCommand_167 : decode cX3_readCommand 167 = .ok (.bipush 100, 2) := by decide +kernel
theorem dX3_readCommand_169 : decode cX3_readCommand 169 = .ok (.invokevirtual 45, 3) := by decide +kernel
theorem dX3_readCommand_172 : decode cX3_readCommand 172 = .ok (.ireturn, 1) := by decide +kernel
theorem dX3_readCommand_173 : decode cX3_readCommand 173 = .ok (.iconst 0, 1) := by decide +kernel
theorem dX3_readCommand_174 : decode cX3_readCommand 174 = .ok (.ireturn, 1) := by decide +kernel
theorem dX3_readSign_0 : decode cX3_readSign 0 = .ok (.aload_n 0, 1) := by decide +kernel
theorem dX3_readSign_1 : decode cX3_readSign 1 = .ok (.invokevirtual 30, 3) := by decide +kernel
theorem dX3_readSign_4 : decode cX3_readSign 4 = .ok (.iload_n 1, 1) := by decide +kernel
theorem dX3_readSign_5 : decode cX3_readSign 5 = .ok (.if_icmp .eq 5, 3) := by decide +kernel
theorem dX3_readSign_8 : decode cX3_readSign 8 = .ok (.iconst 0, 1) := by decide +kernel
theorem dX3_readSign_9 : decode cX3_readSign 9 = .ok (.ireturn, 1) := by decide +kernel
theorem dX3_readSign_10 : decode cX3_readSign 10 = .ok (.aload_n 0, 1) := by decide +kernel
theorem dX3_readSign_11 : decode cX3_readSign 11 = .ok (.dup, 1) := by decide +kernel
theorem dX3_readSign_12 : decode cX3_readSign 12 = .ok (.getfield 19, 3) := by decide +kernel
theorem dX3_readSign_15 : decode cX3_readSign 15 = .ok (.iconst 1, 1) := by decide +kernel
theorem dX3_readSign_16 : decode cX3_readSign 16 = .ok (.iadd, 1) := by decide +kernel
theorem dX3_readSign_17 : decode cX3_readSign 17 = .ok (.putfield 19, 3) := by decide +kernel
theorem dX3_readSign_20 : decode cX3_readSign 20 = .ok (.iconst 1, 1) := by decide +kernel
theorem dX3_readSign_21 : decode cX3_readSign 21 = .ok (.ireturn, 1) := by decide +kernel
theorem dX3_readFirst_0 : decode cX3_readFirst 0 = .ok (.aload_n 0, 1) := by decide +kernel
theorem dX3_readFirst_1 : decode cX3_readFirst 1 = .ok (.invokevirtual 49, 3) := by decide +kernel
theorem dX3_readFirst_4 : decode cX3_readFirst 4 = .ok (.istore_n 2, 1) := by decide +kernel
theorem dX3_readFirst_5 : decode cX3_readFirst 5 = .ok (.iload_n 2, 1) := by decide +kernel
theorem dX3_readFirst_6 : decode cX3_readFirst 6 = .ok (.iload_n 1, 1) := by decide +kernel
theorem dX3_readFirst_7 : decode cX3_readFirst 7 = .ok (.if_icmp .ge 5, 3) := by decide +kernel
theorem dX3_readFirst_10 : decode cX3_readFirst 10 = .ok (.iconst 0, 1) := by decide +kernel
theorem dX3_readFirst_11 : decode cX3_readFirst 11 = .ok (.ireturn, 1) := by decide +kernel
theorem dX3_readFirst_12 : decode cX3_readFirst 12 = .ok (.aload_n 0, 1) := by decide +kernel
theorem dX3_readFirst_13 : decode cX3_readFirst 13 = .ok (.iload_n 2, 1) := by decide +kernel
theorem dX3_readFirst_14 : decode cX3_readFirst 14 = .ok (.putfield 53, 3) := by decide +kernel
theorem dX3_readFirst_17 : decode cX3_readFirst 17 = .ok (.aload_n 0, 1) := by decide +kernel
theorem dX3_readFirst_18 : decode cX3_readFirst 18 = .ok (.dup, 1) := by decide +kernel
theorem dX3_readFirst_19 : decode cX3_readFirst 19 = .ok (.getfield 19, 3) := by decide +kernel
theorem dX3_readFirst_22 : decode cX3_readFirst 22 = .ok (.iconst 1, 1) := by decide +kernel
theorem dX3_readFirst_23 : decode cX3_readFirst 23 = .ok (.iadd, 1) := by decide +kernel
theorem dX3_readFirst_24 : decode cX3_readFirst 24 = .ok (.putfield 19, 3) := by decide +kernel
theorem dX3_readFirst_27 : decode cX3_readFirst 27 = .ok (.iconst 1, 1) := by decide +kernel
theorem dX3_readFirst_28 : decode cX3_readFirst 28 = .ok (.ireturn, 1) := by decide +kernel
theorem dX3_readSecond_0 : decode cX3_readSecond 0 = .ok (.aload_n 0, 1) := by decide +kernel
theorem dX3_readSecond_1 : decode cX3_readSecond 1 = .ok (.invokevirtual 49, 3) := by decide +kernel
theorem dX3_readSecond_4 : decode cX3_readSecond 4 = .ok (.istore_n 1, 1) := by decide +kernel
theorem dX3_readSecond_5 : decode cX3_readSecond 5 = .ok (.iload_n 1, 1) := by decide +kernel
theorem dX3_readSecond_6 : decode cX3_readSecond 6 = .ok (.iconst (-1), 1) := by decide +kernel
theorem dX3_readSecond_7 : decode cX3_readSecond 7 = .ok (.if_icmp .eq 11, 3) := by decide +kernel
theorem dX3_readSecond_10 : decode cX3_readSecond 10 = .ok (.iload_n 1, 1) := by decide +kernel
theorem dX3_readSecond_11 : decode cX3_readSecond 11 = .ok (.aload_n 0, 1) := by decide +kernel
theorem dX3_readSecond_12 : decode cX3_readSecond 12 = .ok (.getfield 53, 3) := by decide +kernel
theorem dX3_readSecond_15 : decode cX3_readSecond 15 = .ok (.if_icmp .ne 5, 3) := by decide +kernel
theorem dX3_readSecond_18 : decode cX3_readSecond 18 = .ok (.iconst 0, 1) := by decide +kernel
theorem dX3_readSecond_19 : decode cX3_readSecond 19 = .ok (.ireturn, 1) := by decide +kernel
theorem dX3_readSecond_20 : decode cX3_readSecond 20 = .ok (.aload_n 0, 1) := by decide +kernel
theorem dX3_readSecond_21 : decode cX3_readSecond 21 = .ok (.iload_n 1, 1) := by decide +kernel
theorem dX3_readSecond_22 : decode cX3_readSecond 22 = .ok (.putfield 56, 3) := by decide +kernel
theorem dX3_readSecond_25 : decode cX3_readSecond 25 = .ok (.aload_n 0, 1) := by decide +kernel
theorem dX3_readSecond_26 : decode cX3_readSecond 26 = .ok (.dup, 1) := by decide +kernel
theorem dX3_readSecond_27 : decode cX3_readSecond 27 = .ok (.getfield 19, 3) := by decide +kernel
theorem dX3_readSecond_30 : decode cX3_readSecond 30 = .ok (.iconst 1, 1) := by decide +kernel
theorem dX3_readSecond_31 : decode cX3_readSecond 31 = .ok (.iadd, 1) := by decide +kernel
theorem dX3_readSecond_32 : decode cX3_readSecond 32 = .ok (.putfield 19, 3) := by decide +kernel
theorem dX3_readSecond_35 : decode cX3_readSecond 35 = .ok (.iconst 1, 1) := by decide +kernel
theorem dX3_readSecond_36 : decode cX3_readSecond 36 = .ok (.ireturn, 1) := by decide +kernel
theorem dX3_readNumber_0 : decode cX3_readNumber 0 = .ok (.aload_n 0, 1) := by decide +kernel
theorem dX3_readNumber_1 : decode cX3_readNumber 1 = .ok (.aload_n 0, 1) := by decide +kernel
theorem dX3_readNumber_2 : decode cX3_readNumber 2 = .ok (.invokevirtual 49, 3) := by decide +kernel
theorem dX3_readNumber_5 : decode cX3_readNumber 5 = .ok (.putfield 59, 3) := by decide +kernel
theorem dX3_readNumber_8 : decode cX3_readNumber 8 = .ok (.aload_n 0, 1) := by decide +kernel
theorem dX3_readNumber_9 : decode cX3_readNumber 9 = .ok (.getfield 59, 3) := by decide +kernel
theorem dX3_readNumber_12 : decode cX3_readNumber 12 = .ok (.iload_n 1, 1) := by decide +kernel
theorem dX3_readNumber_13 : decode cX3_readNumber 13 = .ok (.if_icmp .ge 5, 3) := by decide +kernel
theorem dX3_readNumber_16 : decode cX3_readNumber 16 = .ok (.iconst 0, 1) := by decide +kernel
theorem dX3_readNumber_17 : decode cX3_readNumber 17 = .ok (.ireturn, 1) := by decide +kernel
theorem dX3_readNumber_18 : decode cX3_readNumber 18 = .ok (.aload_n 0, 1) := by decide +kernel
theorem dX3_readNumber_19 : decode cX3_readNumber 19 = .ok (.dup, 1) := by decide +kernel
theorem dX3_readNumber_20 : decode cX3_readNumber 20 = .ok (.getfield 19, 3) := by decide +kernel
theorem dX3_readNumber_23 : decode cX3_readNumber 23 = .ok (.iconst 1, 1) := by decide +kernel
theorem dX3_readNumber_24 : decode cX3_readNumber 24 = .ok (.iadd, 1) := by decide +kernel
theorem dX3_readNumber_25 : decode cX3_readNumber 25 = .ok (.putfield 19, 3) := by decide +kernel
theorem dX3_readNumber_28 : decode cX3_readNumber 28 = .ok (.iconst 1, 1) := by decide +kernel
theorem dX3_readNumber_29 : decode cX3_readNumber 29 = .ok (.istore_n 3, 1) := by decide +kernel
theorem dX3_readNumber_30 : decode cX3_readNumber 30 = .ok (.iload_n 3, 1) := by decide +kernel
theorem dX3_readNumber_31 : decode cX3_readNumber 31 = .ok (.bipush 80, 2) := by decide +kernel
theorem dX3_readNumber_33 : decode cX3_readNumber 33 = .ok (.if_icmp .ge 62, 3) := by decide +kernel
theorem dX3_readNumber_36 : decode cX3_readNumber 36 = .ok (.aload_n 0, 1) := by decide +kernel
theorem dX3_readNumber_37 : decode cX3_readNumber 37 = .ok (.invokevirtual 49, 3) := by decide +kernel
theorem dX3_readNumber_40 : decode cX3_readNumber 40 = .ok (.iconst (-1), 1) := by decide +kernel
theorem dX3_readNumber_41 : decode cX3_readNumber 41 = .ok (.if_icmp .eq 54, 3) := by decide +kernel
theorem dX3_readNumber_44 : decode cX3_readNumber 44 = .ok (.aload_n 0, 1) := by decide +kernel
theorem dX3_readNumber_45 : decode cX3_readNumber 45 = .ok (.getfield 59, 3) := by decide +kernel
theorem dX3_readNumber_48 : decode cX3_readNumber 48 = .ok (.bipush 10, 2) := by decide +kernel
theorem dX3_readNumber_50 : decode cX3_readNumber 50 = .ok (.imul, 1) := by decide +kernel
theorem dX3_readNumber_51 : decode cX3_readNumber 51 = .ok (.aload_n 0, 1) := by decide +kernel
theorem dX3_readNumber_52 : decode cX3_readNumber 52 = .ok (.invokevirtual 49, 3) := by decide +kernel
theorem dX3_readNumber_55 : decode cX3_readNumber 55 = .ok (.iadd, 1) := by decide +kernel
theorem dX3_readNumber_56 : decode cX3_readNumber 56 = .ok (.istore 4, 2) := by decide +kernel
theorem dX3_readNumber_58 : decode cX3_readNumber 58 = .ok (.aload_n 0, 1) := by decide +kernel
theorem dX3_readNumber_59 : decode cX3_readNumber 59 = .ok (.getfield 59, 3) := by decide +kernel
theorem dX3_readNumber_62 : decode cX3_readNumber 62 = .ok (.ifCond .eq 9, 3) := by decide +kernel
theorem dX3_readNumber_65 : decode cX3_readNumber 65 = .ok (.iload 4, 2) := by decide +kernel
theorem dX3_readNumber_67 : decode cX3_readNumber 67 = .ok (.iload_n 2, 1) := by decide +kernel
theorem dX3_readNumber_68 : decode cX3_readNumber 68 = .ok (.if_icmp .le 5, 3) := by decide +kernel
theorem dX3_readNumber_71 : decode cX3_readNumber 71 = .ok (.iconst 0, 1) := by decide +kernel
theorem dX3_readNumber_72 : decode cX3_readNumber 72 = .ok (.ireturn, 1) := by decide +kernel
theorem dX3_readNumber_73 : decode cX3_readNumber 73 = .ok (.aload_n 0, 1) := by decide +kernel
theorem dX3_readNumber_74 : decode cX3_readNumber 74 = .ok (.iload 4, 2) := by decide +kernel
theorem dX3_readNumber_76 : decode cX3_readNumber 76 = .ok (.putfield 59, 3) := by decide +kernel
theorem dX3_readNumber_79 : decode cX3_readNumber 79 = .ok (.aload_n 0, 1) := by decide +kernel
theorem dX3_readNumber_80 : decode cX3_readNumber 80 = .ok (.dup, 1) := by decide +kernel
theorem dX3_readNumber_81 : decode cX3_readNumber 81 = .ok (.getfield 19, 3) := by decide +kernel
theorem dX3_readNumber_84 : decode cX3_readNumber 84 = .ok (.iconst 1, 1) := by decide +kernel
theorem dX3_readNumber_85 : decode cX3_readNumber 85 = .ok (.iadd, 1) := by decide +kernel
theorem dX3_readNumber_86 : decode cX3_readNumber 86 = .ok (.putfield 19, 3) := by decide +kernel
theorem dX3_readNumber_89 : decode cX3_readNumber 89 = .ok (.iinc 3 1, 3) := by decide +kernel
theorem dX3_readNumber_92 : decode cX3_readNumber 92 = .ok (.goto (-62), 3) := by decide +kernel
theorem dX3_readNumber_95 : decode cX3_readNumber 95 = .ok (.iconst 1, 1) := by decide +kernel
theorem dX3_readNumber_96 : decode cX3_readNumber 96 = .ok (.ireturn, 1) := by decide +kernel
theorem dX3_signHere_0 : decode cX3_signHere 0 = .ok (.aload_n 0, 1) := by decide +kernel
theorem dX3_signHere_1 : decode cX3_signHere 1 = .ok (.getfield 19, 3) := by decide +kernel
theorem dX3_signHere_4 : decode cX3_signHere 4 = .ok (.ifCond .lt 30, 3) := by decide +kernel
theorem dX3_signHere_7 : decode cX3_signHere 7 = .ok (.aload_n 0, 1) := by decide +kernel
theorem dX3_signHere_8 : decode cX3_signHere 8 = .ok (.getfield 19, 3) := by decide +kernel
theorem dX3_signHere_11 : decode cX3_signHere 11 = .ok (.aload_n 0, 1) := by decide +kernel
theorem dX3_signHere_12 : decode cX3_signHere 12 = .ok (.getfield 15, 3) := by decide +kernel
theorem dX3_signHere_15 : decode cX3_signHere 15 = .ok (.if_icmp .ge 19, 3) := by decide +kernel
theorem dX3_signHere_18 : decode cX3_signHere 18 = .ok (.aload_n 0, 1) := by decide +kernel
theorem dX3_signHere_19 : decode cX3_signHere 19 = .ok (.getfield 19, 3) := by decide +kernel
theorem dX3_signHere_22 : decode cX3_signHere 22 = .ok (.aload_n 0, 1) := by decide +kernel
theorem dX3_signHere_23 : decode cX3_signHere 23 = .ok (.getfield 9, 3) := by decide +kernel
theorem dX3_signHere_26 : decode cX3_signHere 26 = .ok (.arraylength, 1) := by decide +kernel
theorem dX3_signHere_27 : decode cX3_signHere 27 = .ok (.if_icmp .ge 7, 3) := by decide +kernel
theorem dX3_signHere_30 : decode cX3_signHere 30 = .ok (.iconst 1, 1) := by decide +kernel
theorem dX3_signHere_31 : decode cX3_signHere 31 = .ok (.goto 4, 3) := by decide +kernel
theorem dX3_signHere_34 : decode cX3_signHere 34 = .ok (.iconst 0, 1) := by decide +kernel
theorem dX3_signHere_35 : decode cX3_signHere 35 = .ok (.istore_n 1, 1) := by decide +kernel
theorem dX3_signHere_36 : decode cX3_signHere 36 = .ok (.iload_n 1, 1) := by decide +kernel
theorem dX3_signHere_37 : decode cX3_signHere 37 = .ok (.ifCond .eq 15, 3) := by decide +kernel
theorem dX3_signHere_40 : decode cX3_signHere 40 = .ok (.aload_n 0, 1) := by decide +kernel
theorem dX3_signHere_41 : decode cX3_signHere 41 = .ok (.getfield 9, 3) := by decide +kernel
theorem dX3_signHere_44 : decode cX3_signHere 44 = .ok (.aload_n 0, 1) := by decide +kernel
theorem dX3_signHere_45 : decode cX3_signHere 45 = .ok (.getfield 19, 3) := by decide +kernel
theorem dX3_signHere_48 : decode cX3_signHere 48 = .ok (.caload, 1) := by decide +kernel
theorem dX3_signHere_49 : decode cX3_signHere 49 = .ok (.goto 4, 3) := by decide +kernel
theorem dX3_signHere_52 : decode cX3_signHere 52 = .ok (.iconst 0, 1) := by decide +kernel
theorem dX3_signHere_53 : decode cX3_signHere 53 = .ok (.ireturn, 1) := by decide +kernel
theorem dX3_digitHere_0 : decode cX3_digitHere 0 = .ok (.aload_n 0, 1) := by decide +kernel
theorem dX3_digitHere_1 : decode cX3_digitHere 1 = .ok (.invokevirtual 30, 3) := by decide +kernel
theorem dX3_digitHere_4 : decode cX3_digitHere 4 = .ok (.istore_n 1, 1) := by decide +kernel
theorem dX3_digitHere_5 : decode cX3_digitHere 5 = .ok (.iload_n 1, 1) := by decide +kernel
theorem dX3_digitHere_6 : decode cX3_digitHere 6 = .ok (.bipush 48, 2) := by decide +kernel
theorem dX3_digitHere_8 : decode cX3_digitHere 8 = .ok (.if_icmp .lt 16, 3) := by decide +kernel
theorem dX3_digitHere_11 : decode cX3_digitHere 11 = .ok (.iload_n 1, 1) := by decide +kernel
theorem dX3_digitHere_12 : decode cX3_digitHere 12 = .ok (.bipush 57, 2) := by decide +kernel
theorem dX3_digitHere_14 : decode cX3_digitHere 14 = .ok (.if_icmp .gt 10, 3) := by decide +kernel
theorem dX3_digitHere_17 : decode cX3_digitHere 17 = .ok (.iload_n 1, 1) := by decide +kernel
theorem dX3_digitHere_18 : decode cX3_digitHere 18 = .ok (.bipush 48, 2) := by decide +kernel
theorem dX3_digitHere_20 : decode cX3_digitHere 20 = .ok (.isub, 1) := by decide +kernel
theorem dX3_digitHere_21 : decode cX3_digitHere 21 = .ok (.goto 4, 3) := by decide +kernel
theorem dX3_digitHere_24 : decode cX3_digitHere 24 = .ok (.iconst (-1), 1) := by decide +kernel
theorem dX3_digitHere_25 : decode cX3_digitHere 25 = .ok (.ireturn, 1) := by decide +kernel
theorem dX4_init_0 : decode cX4_init 0 = .ok (.aload_n 0, 1) := by decide +kernel
theorem dX4_init_1 : decode cX4_init 1 = .ok (.invokespecial 1, 3) := by decide +kernel
theorem dX4_init_4 : decode cX4_init 4 = .ok (.aload_n 0, 1) := by decide +kernel
theorem dX4_init_5 : decode cX4_init 5 = .ok (.new 7, 3) := by decide +kernel
theorem dX4_init_8 : decode cX4_init 8 = .ok (.dup, 1) := by decide +kernel
theorem dX4_init_9 : decode cX4_init 9 = .ok (.invokespecial 9, 3) := by decide +kernel
theorem dX4_init_12 : decode cX4_init 12 = .ok (.putfield 10, 3) := by decide +kernel
theorem dX4_init_15 : decode cX4_init 15 = .ok (.aload_n 0, 1) := by decide +kernel
theorem dX4_init_16 : decode cX4_init 16 = .ok (.new 7, 3) := by decide +kernel
theorem dX4_init_19 : decode cX4_init 19 = .ok (.dup, 1) := by decide +kernel
theorem dX4_init_20 : decode cX4_init 20 = .ok (.invokespecial 9, 3) := by decide +kernel
theorem dX4_init_23 : decode cX4_init 23 = .ok (.putfield 16, 3) := by decide +kernel
theorem dX4_init_26 : decode cX4_init 26 = .ok (.aload_n 0, 1) := by decide +kernel
theorem dX4_init_27 : decode cX4_init 27 = .ok (.new 19, 3) := by decide +kernel
theorem dX4_init_30 : decode cX4_init 30 = .ok (.dup, 1) := by decide +kernel
theorem dX4_init_31 : decode cX4_init 31 = .ok (.invokespecial 21, 3) := by decide +kernel
theorem dX4_init_34 : decode cX4_init 34 = .ok (.putfield 22, 3) := by decide +kernel
theorem dX4_init_37 : decode cX4_init 37 = .ok (.aload_n 0, 1) := by decide +kernel
theorem dX4_init_38 : decode cX4_init 38 = .ok (.new 26, 3) := by decide +kernel
theorem dX4_init_41 : decode cX4_init 41 = .ok (.dup, 1) := by decide +kernel
theorem dX4_init_42 : decode cX4_init 42 = .ok (.invokespecial 28, 3) := by decide +kernel
theorem dX4_init_45 : decode cX4_init 45 = .ok (.putfield 29, 3) := by decide +kernel
theorem dX4_init_48 : decode cX4_init 48 = .ok (.return_, 1) := by decide +kernel
theorem dX4_link_0 : decode cX4_link 0 = .ok (.iload_n 1, 1) := by decide +kernel
theorem dX4_link_1 : decode cX4_link 1 = .ok (.invokestatic 33, 3) := by decide +kernel
theorem dX4_link_4 : decode cX4_link 4 = .ok (.iload_n 2, 1) := by decide +kernel
theorem dX4_link_5 : decode cX4_link 5 = .ok (.invokestatic 33, 3) := by decide +kernel
theorem dX4_link_8 : decode cX4_link 8 = .ok (.iload_n 1, 1) := by decide +kernel
theorem dX4_link_9 : decode cX4_link 9 = .ok (.iload_n 2, 1) := by decide +kernel
theorem dX4_link_10 : decode cX4_link 10 = .ok (.if_icmp .ne 13, 3) := by decide +kernel
theorem dX4_link_13 : decode cX4_link 13 = .ok (.new 37, 3) := by decide +kernel
theorem dX4_link_16 : decode cX4_link 16 = .ok (.dup, 1) := by decide +kernel
theorem dX4_link_17 : decode cX4_link 17 = .ok (.ldc 39, 2) := by decide +kernel
theorem dX4_link_19 : decode cX4_link 19 = .ok (.invokespecial 41, 3) := by decide +kernel
theorem dX4_link_22 : decode cX4_link 22 = .ok (.athrow, 1) := by decide +kernel
theorem dX4_link_23 : decode cX4_link 23 = .ok (.aload_n 0, 1) := by decide +kernel
theorem dX4_link_24 : decode cX4_link 24 = .ok (.getfield 22, 3) := by decide +kernel
theorem dX4_link_27 : decode cX4_link 27 = .ok (.aload_n 0, 1) := by decide +kernel
theorem dX4_link_28 : decode cX4_link 28 = .ok (.getfield 10, 3) := by decide +kernel
theorem dX4_link_31 : decode cX4_link 31 = .ok (.invokevirtual 44, 3) := by decide +kernel
theorem dX4_link_34 : decode cX4_link 34 = .ok (.aload_n 0, 1) := by decide +kernel
theorem dX4_link_35 : decode cX4_link 35 = .ok (.getfield 10, 3) := by decide +kernel
theorem dX4_link_38 : decode cX4_link 38 = .ok (.iload_n 1, 1) := by decide +kernel
theorem dX4_link_39 : decode cX4_link 39 = .ok (.iload_n 2, 1) := by decide +kernel
theorem dX4_link_40 : decode cX4_link 40 = .ok (.iload_n 3, 1) := by decide +kernel
theorem dX4_link_41 : decode cX4_link 41 = .ok (.invokevirtual 48, 3) := by decide +kernel
theorem dX4_link_44 : decode cX4_link 44 = .ok (.aload_n 0, 1) := by decide +kernel
theorem dX4_link_45 : decode cX4_link 45 = .ok (.getfield 10, 3) := by decide +kernel
theorem dX4_link_48 : decode cX4_link 48 = .ok (.invokevirtual 52, 3) := by decide +kernel
theorem dX4_link_51 : decode cX4_link 51 = .ok (.ireturn, 1) := by decide +kernel
theorem dX4_power_0 : decode cX4_power 0 = .ok (.iload_n 1, 1) := by decide +kernel
theorem dX4_power_1 : decode cX4_power 1 = .ok (.invokestatic 33, 3) := by decide +kernel
theorem dX4_power_4 : decode cX4_power 4 = .ok (.aload_n 0, 1) := by decide +kernel
theorem dX4_power_5 : decode cX4_power 5 = .ok (.getfield 22, 3) := by decide +kernel
theorem dX4_power_8 : decode cX4_power 8 = .ok (.aload_n 0, 1) := by decide +kernel
theorem dX4_power_9 : decode cX4_power 9 = .ok (.getfield 10, 3) := by decide +kernel
theorem dX4_power_12 : decode cX4_power 12 = .ok (.invokevirtual 44, 3) := by decide +kernel
theorem dX4_power_15 : decode cX4_power 15 = .ok (.aload_n 0, 1) := by decide +kernel
theorem dX4_power_16 : decode cX4_power 16 = .ok (.getfield 10, 3) := by decide +kernel
theorem dX4_power_19 : decode cX4_power 19 = .ok (.iload_n 1, 1) := by decide +kernel
theorem dX4_power_20 : decode cX4_power 20 = .ok (.iload_n 2, 1) := by decide +kernel
theorem dX4_power_21 : decode cX4_power 21 = .ok (.invokevirtual 56, 3) := by decide +kernel
theorem dX4_power_24 : decode cX4_power 24 = .ok (.aload_n 0, 1) := by decide +kernel
theorem dX4_power_25 : decode cX4_power 25 = .ok (.getfield 10, 3) := by decide +kernel
theorem dX4_power_28 : decode cX4_power 28 = .ok (.invokevirtual 60, 3) := by decide +kernel
theorem dX4_power_31 : decode cX4_power 31 = .ok (.ireturn, 1) := by decide +kernel
theorem dX4_jump_0 : decode cX4_jump 0 = .ok (.iload_n 1, 1) := by decide +kernel
theorem dX4_jump_1 : decode cX4_jump 1 = .ok (.invokestatic 63, 3) := by decide +kernel
theorem dX4_jump_4 : decode cX4_jump 4 = .ok (.iload_n 2, 1) := by decide +kernel
theorem dX4_jump_5 : decode cX4_jump 5 = .ok (.bipush (-100), 2) := by decide +kernel
theorem dX4_jump_7 : decode cX4_jump 7 = .ok (.bipush 100, 2) := by decide +kernel
theorem dX4_jump_9 : decode cX4_jump 9 = .ok (.invokestatic 66, 3) := by decide +kernel
theorem dX4_jump_12 : decode cX4_jump 12 = .ok (.aload_n 0, 1) := by decide +kernel
theorem dX4_jump_13 : decode cX4_jump 13 = .ok (.getfield 22, 3) := by decide +kernel
theorem dX4_jump_16 : decode cX4_jump 16 = .ok (.aload_n 0, 1) := by decide +kernel
theorem dX4_jump_17 : decode cX4_jump 17 = .ok (.getfield 10, 3) := by decide +kernel
theorem dX4_jump_20 : decode cX4_jump 20 = .ok (.invokevirtual 44, 3) := by decide +kernel
theorem dX4_jump_23 : decode cX4_jump 23 = .ok (.aload_n 0, 1) := by decide +kernel
theorem dX4_jump_24 : decode cX4_jump 24 = .ok (.getfield 10, 3) := by decide +kernel
theorem dX4_jump_27 : decode cX4_jump 27 = .ok (.getfield 70, 3) := by decide +kernel
theorem dX4_jump_30 : decode cX4_jump 30 = .ok (.iload_n 1, 1) := by decide +kernel
theorem dX4_jump_31 : decode cX4_jump 31 = .ok (.dup2, 1) := by decide +kernel
theorem dX4_jump_32 : decode cX4_jump 32 = .ok (.iaload, 1) := by decide +kernel
theorem dX4_jump_33 : decode cX4_jump 33 = .ok (.iload_n 2, 1) := by decide +kernel
theorem dX4_jump_34 : decode cX4_jump 34 = .ok (.iadd, 1) := by decide +kernel
theorem dX4_jump_35 : decode cX4_jump 35 = .ok (.iastore, 1) := by decide +kernel
theorem dX4_jump_36 : decode cX4_jump 36 = .ok (.aload_n 0, 1) := by decide +kernel
theorem dX4_jump_37 : decode cX4_jump 37 = .ok (.getfield 10, 3) := by decide +kernel
theorem dX4_jump_40 : decode cX4_jump 40 = .ok (.getfield 70, 3) := by decide +kernel
theorem dX4_jump_43 : decode cX4_jump 43 = .ok (.iload_n 1, 1) := by decide +kernel
theorem dX4_jump_44 : decode cX4_jump 44 = .ok (.iaload, 1) := by decide +kernel
theorem dX4_jump_45 : decode cX4_jump 45 = .ok (.ireturn, 1) := by decide +kernel
theorem dX4_setFaults_0 : decode cX4_setFaults 0 = .ok (.iload_n 1, 1) := by decide +kernel
theorem dX4_setFaults_1 : decode cX4_setFaults 1 = .ok (.invokestatic 63, 3) := by decide +kernel
theorem dX4_setFaults_4 : decode cX4_setFaults 4 = .ok (.iload_n 2, 1) := by decide +kernel
theorem dX4_setFaults_5 : decode cX4_setFaults 5 = .ok (.iconst 0, 1) := by decide +kernel
theorem dX4_setFaults_6 : decode cX4_setFaults 6 = .ok (.bipush 9, 2) := by decide +kernel
theorem dX4_setFaults_8 : decode cX4_setFaults 8 = .ok (.invokestatic 66, 3) := by decide +kernel
theorem dX4_setFaults_11 : decode cX4_setFaults 11 = .ok (.aload_n 0, 1) := by decide +kernel
theorem dX4_setFaults_12 : decode cX4_setFaults 12 = .ok (.getfield 22, 3) := by decide +kernel
theorem dX4_setFaults_15 : decode cX4_setFaults 15 = .ok (.aload_n 0, 1) := by decide +kernel
theorem dX4_setFaults_16 : decode cX4_setFaults 16 = .ok (.getfield 10, 3) := by decide +kernel
theorem dX4_setFaults_19 : decode cX4_setFaults 19 = .ok (.invokevirtual 44, 3) := by decide +kernel
theorem dX4_setFaults_22 : decode cX4_setFaults 22 = .ok (.aload_n 0, 1) := by decide +kernel
theorem dX4_setFaults_23 : decode cX4_setFaults 23 = .ok (.getfield 10, 3) := by decide +kernel
theorem dX4_setFaults_26 : decode cX4_setFaults 26 = .ok (.getfield 74, 3) := by decide +kernel
theorem dX4_setFaults_29 : decode cX4_setFaults 29 = .ok (.iload_n 1, 1) := by decide +kernel
theorem dX4_setFaults_30 : decode cX4_setFaults 30 = .ok (.iaload, 1) := by decide +kernel
theorem dX4_setFaults_31 : decode cX4_setFaults 31 = .ok (.istore_n 3, 1) := by decide +kernel
theorem dX4_setFaults_32 : decode cX4_setFaults 32 = .ok (.aload_n 0, 1) := by decide +kernel
theorem dX4_setFaults_33 : decode cX4_setFaults 33 = .ok (.getfield 10, 3) := by decide +kernel
theorem dX4_setFaults_36 : decode cX4_setFaults 36 = .ok (.getfield 74, 3) := by decide +kernel
theorem dX4_setFaults_39 : decode cX4_setFaults 39 = .ok (.iload_n 1, 1) := by decide +kernel
theorem dX4_setFaults_40 : decode cX4_setFaults 40 = .ok (.iload_n 2, 1) := by decide +kernel
theorem dX4_setFaults_41 : decode cX4_setFaults 41 = .ok (.iastore, 1) := by decide +kernel
theorem dX4_setFaults_42 : decode cX4_setFaults 42 = .ok (.iload_n 3, 1) := by decide +kernel
theorem dX4_setFaults_43 : decode cX4_setFaults 43 = .ok (.ireturn, 1) := by decide +kernel
theorem dX4_setPatience_0 : decode cX4_setPatience 0 = .ok (.iload_n 1, 1) := by decide +kernel
theorem dX4_setPatience_1 : decode cX4_setPatience 1 = .ok (.iconst 1, 1) := by decide +kernel
theorem dX4_setPatience_2 : decode cX4_setPatience 2 = .ok (.iconst 5, 1) := by decide +kernel
theorem dX4_setPatience_3 : decode cX4_setPatience 3 = .ok (.invokestatic 66, 3) := by decide +kernel
theorem dX4_setPatience_6 : decode cX4_setPatience 6 = .ok (.aload_n 0, 1) := by decide +kernel
theorem dX4_setPatience_7 : decode cX4_setPatience 7 = .ok (.getfield 22, 3) := by decide +kernel
theorem dX4_setPatience_10 : decode cX4_setPatience 10 = .ok (.aload_n 0, 1) := by decide +kernel
theorem dX4_setPatience_11 : decode cX4_setPatience 11 = .ok (.getfield 10, 3) := by decide +kernel
theorem dX4_setPatience_14 : decode cX4_setPatience 14 = .ok (.invokevirtual 44, 3) := by decide +kernel
theorem dX4_setPatience_17 : decode cX4_setPatience 17 = .ok (.aload_n 0, 1) := by decide +kernel
theorem dX4_setPatience_18 : decode cX4_setPatience 18 = .ok (.getfield 10, 3) := by decide +kernel
theorem dX4_setPatience_21 : decode cX4_setPatience 21 = .ok (.getfield 77, 3) := by decide +kernel
theorem dX4_setPatience_24 : decode cX4_setPatience 24 = .ok (.istore_n 2, 1) := by decide +kernel
theorem dX4_setPatience_25 : decode cX4_setPatience 25 = .ok (.aload_n 0, 1) := by decide +kernel
theorem dX4_setPatience_26 : decode cX4_setPatience 26 = .ok (.getfield 10, 3) := by decide +kernel
theorem dX4_setPatience_29 : decode cX4_setPatience 29 = .ok (.iload_n 1, 1) := by decide +kernel
theorem dX4_setPatience_30 : decode cX4_setPatience 30 = .ok (.putfield 77, 3) := by decide +kernel
theorem dX4_setPatience_33 : decode cX4_setPatience 33 = .ok (.iload_n 2, 1) := by decide +kernel
theorem dX4_setPatience_34 : decode cX4_setPatience 34 = .ok (.ireturn, 1) := by decide +kernel
theorem dX4_take_0 : decode cX4_take 0 = .ok (.iload_n 1, 1) := by decide +kernel
theorem dX4_take_1 : decode cX4_take 1 = .ok (.invokestatic 63, 3) := by decide +kernel
theorem dX4_take_4 : decode cX4_take 4 = .ok (.iload_n 2, 1) := by decide +kernel
theorem dX4_take_5 : decode cX4_take 5 = .ok (.iconst 0, 1) := by decide +kernel
theorem dX4_take_6 : decode cX4_take 6 = .ok (.sipush 999, 3) := by decide +kernel
theorem dX4_take_9 : decode cX4_take 9 = .ok (.invokestatic 66, 3) := by decide +kernel
theorem dX4_take_12 : decode cX4_take 12 = .ok (.aload_n 0, 1) := by decide +kernel
theorem dX4_take_13 : decode cX4_take 13 = .ok (.getfield 10, 3) := by decide +kernel
theorem dX4_take_16 : decode cX4_take 16 = .ok (.iload_n 1, 1) := by decide +kernel
theorem dX4_take_17 : decode cX4_take 17 = .ok (.invokevirtual 81, 3) := by decide +kernel
theorem dX4_take_20 : decode cX4_take 20 = .ok (.ifCond .ne 13, 3) := by decide +kernel
theorem dX4_take_23 : decode cX4_take 23 = .ok (.new 85, 3) := by decide +kernel
theorem dX4_take_26 : decode cX4_take 26 = .ok (.dup, 1) := by decide +kernel
theorem dX4_take_27 : decode cX4_take 27 = .ok (.ldc 87, 2) := by decide +kernel
theorem dX4_take_29 : decode cX4_take 29 = .ok (.invokespecial 89, 3) := by decide +kernel
theorem dX4_take_32 : decode cX4_take 32 = .ok (.athrow, 1) := by decide +kernel
theorem dX4_take_33 : decode cX4_take 33 = .ok (.aload_n 0, 1) := by decide +kernel
theorem dX4_take_34 : decode cX4_take 34 = .ok (.getfield 22, 3) := by decide +kernel
theorem dX4_take_37 : decode cX4_take 37 = .ok (.aload_n 0, 1) := by decide +kernel
theorem dX4_take_38 : decode cX4_take 38 = .ok (.getfield 10, 3) := by decide +kernel
theorem dX4_take_41 : decode cX4_take 41 = .ok (.invokevirtual 44, 3) := by decide +kernel
theorem dX4_take_44 : decode cX4_take 44 = .ok (.aload_n 0, 1) := by decide +kernel
theorem dX4_take_45 : decode cX4_take 45 = .ok (.getfield 10, 3) := by decide +kernel
theorem dX4_take_48 : decode cX4_take 48 = .ok (.iload_n 1, 1) := by decide +kernel
theorem dX4_take_49 : decode cX4_take 49 = .ok (.iload_n 2, 1) := by decide +kernel
theorem dX4_take_50 : decode cX4_take 50 = .ok (.invokevirtual 90, 3) := by decide +kernel
theorem dX4_take_53 : decode cX4_take 53 = .ok (.ireturn, 1) := by decide +kernel
theorem dX4_run_0 : decode cX4_run 0 = .ok (.iload_n 1, 1) := by decide +kernel
theorem dX4_run_1 : decode cX4_run 1 = .ok (.iconst 1, 1) := by decide +kernel
theorem dX4_run_2 : decode cX4_run 2 = .ok (.bipush 100, 2) := by decide +kernel
theorem dX4_run_4 : decode cX4_run 4 = .ok (.invokestatic 66, 3) := by decide +kernel
theorem dX4_run_7 : decode cX4_run 7 = .ok (.aload_n 0, 1) := by decide +kernel
theorem dX4_run_8 : decode cX4_run 8 = .ok (.getfield 22, 3) := by decide +kernel
theorem dX4_run_11 : decode cX4_run 11 = .ok (.aload_n 0, 1) := by decide +kernel
theorem dX4_run_12 : decode cX4_run 12 = .ok (.getfield 10, 3) := by decide +kernel
theorem dX4_run_15 : decode cX4_run 15 = .ok (.invokevirtual 44, 3) := by decide +kernel
theorem dX4_run_18 : decode cX4_run 18 = .ok (.aload_n 0, 1) := by decide +kernel
theorem dX4_run_19 : decode cX4_run 19 = .ok (.getfield 10, 3) := by decide +kernel
theorem dX4_run_22 : decode cX4_run 22 = .ok (.iload_n 1, 1) := by decide +kernel
theorem dX4_run_23 : decode cX4_run 23 = .ok (.invokevirtual 94, 3) := by decide +kernel
theorem dX4_run_26 : decode cX4_run 26 = .ok (.ireturn, 1) := by decide +kernel
theorem dX4_appendText_0 : decode cX4_appendText 0 = .ok (.iload_n 1, 1) := by decide +kernel
theorem dX4_appendText_1 : decode cX4_appendText 1 = .ok (.bipush 32, 2) := by decide +kernel
theorem dX4_appendText_3 : decode cX4_appendText 3 = .ok (.bipush 126, 2) := by decide +kernel
theorem dX4_appendText_5 : decode cX4_appendText 5 = .ok (.invokestatic 66, 3) := by decide +kernel
theorem dX4_appendText_8 : decode cX4_appendText 8 = .ok (.aload_n 0, 1) := by decide +kernel
theorem dX4_appendText_9 : decode cX4_appendText 9 = .ok (.getfield 29, 3) := by decide +kernel
theorem dX4_appendText_12 : decode cX4_appendText 12 = .ok (.invokevirtual 98, 3) := by decide +kernel
theorem dX4_appendText_15 : decode cX4_appendText 15 = .ok (.ifCond .eq 13, 3) := by decide +kernel
theorem dX4_appendText_18 : decode cX4_appendText 18 = .ok (.new 85, 3) := by decide +kernel
theorem dX4_appendText_21 : decode cX4_appendText 21 = .ok (.dup, 1) := by decide +kernel
theorem dX4_appendText_22 : decode cX4_appendText 22 = .ok (.ldc 102, 2) := by decide +kernel
theorem dX4_appendText_24 : decode cX4_appendText 24 = .ok (.invokespecial 89, 3) := by decide +kernel
theorem dX4_appendText_27 : decode cX4_appendText 27 = .ok (.athrow, 1) := by decide +kernel
theorem dX4_appendText_28 : decode cX4_appendText 28 = .ok (.aload_n 0, 1) := by decide +kernel
theorem dX4_appendText_29 : decode cX4_appendText 29 = .ok (.getfield 29, 3) := by decide +kernel
theorem dX4_appendText_32 : decode cX4_appendText 32 = .ok (.iload_n 1, 1) := by decide +kernel
theorem dX4_appendText_33 : decode cX4_appendText 33 = .ok (.i2c, 1) := by decide +kernel
theorem dX4_appendText_34 : decode cX4_appendText 34 = .ok (.invokevirtual 104, 3) := by decide +kernel
theorem dX4_appendText_37 : decode cX4_appendText 37 = .ok (.aload_n 0, 1) := by decide +kernel
theorem dX4_appendText_38 : decode cX4_appendText 38 = .ok (.getfield 29, 3) := by decide +kernel
theorem dX4_appendText_41 : decode cX4_appendText 41 = .ok (.getfield 108, 3) := by decide +kernel
theorem dX4_appendText_44 : decode cX4_appendText 44 = .ok (.ireturn, 1) := by decide +kernel
theorem dX4_clearText_0 : decode cX4_clearText 0 = .ok (.aload_n 0, 1) := by decide +kernel
theorem dX4_clearText_1 : decode cX4_clearText 1 = .ok (.getfield 29, 3) := by decide +kernel
theorem dX4_clearText_4 : decode cX4_clearText 4 = .ok (.getfield 108, 3) := by decide +kernel
theorem dX4_clearText_7 : decode cX4_clearText 7 = .ok (.istore_n 1, 1) := by decide +kernel
theorem dX4_clearText_8 : decode cX4_clearText 8 = .ok (.aload_n 0, 1) := by decide +kernel
theorem dX4_clearText_9 : decode cX4_clearText 9 = .ok (.getfield 29, 3) := by decide +kernel
theorem dX4_clearText_12 : decode cX4_clearText 12 = .ok (.iconst 0, 1) := by decide +kernel
theorem dX4_clearText_13 : decode cX4_clearText 13 = .ok (.putfield 108, 3) := by decide +kernel
theorem dX4_clearText_16 : decode cX4_clearText 16 = .ok (.iload_n 1, 1) := by decide +kernel
theorem dX4_clearText_17 : decode cX4_clearText 17 = .ok (.ireturn, 1) := by decide +kernel
theorem dX4_errorPosition_0 : decode cX4_errorPosition 0 = .ok (.aload_n 0, 1) := by decide +kernel
theorem dX4_errorPosition_1 : decode cX4_errorPosition 1 = .ok (.getfield 29, 3) := by decide +kernel
theorem dX4_errorPosition_4 : decode cX4_errorPosition 4 = .ok (.invokevirtual 111, 3) := by decide +kernel
theorem dX4_errorPosition_7 : decode cX4_errorPosition 7 = .ok (.ireturn, 1) := by decide +kernel
theorem dX4_runText_0 : decode cX4_runText 0 = .ok (.aload_n 0, 1) := by decide +kernel
theorem dX4_runText_1 : decode cX4_runText 1 = .ok (.getfield 29, 3) := by decide +kernel
theorem dX4_runText_4 : decode cX4_runText 4 = .ok (.invokevirtual 111, 3) := by decide +kernel
theorem dX4_runText_7 : decode cX4_runText 7 = .ok (.iconst (-1), 1) := by decide +kernel
theorem dX4_runText_8 : decode cX4_runText 8 = .ok (.if_icmp .eq 13, 3) := by decide +kernel
theorem dX4_runText_11 : decode cX4_runText 11 = .ok (.new 85, 3) := by decide +kernel
theorem dX4_runText_14 : decode cX4_runText 14 = .ok (.dup, 1) := by decide +kernel
theorem dX4_runText_15 : decode cX4_runText 15 = .ok (.ldc 114, 2) := by decide +kernel
theorem dX4_runText_17 : decode cX4_runText 17 = .ok (.invokespecial 89, 3) := by decide +kernel
theorem dX4_runText_20 : decode cX4_runText 20 = .ok (.athrow, 1) := by decide +kernel
theorem dX4_runText_21 : decode cX4_runText 21 = .ok (.aload_n 0, 1) := by decide +kernel
theorem dX4_runText_22 : decode cX4_runText 22 = .ok (.getfield 22, 3) := by decide +kernel
theorem dX4_runText_25 : decode cX4_runText 25 = .ok (.aload_n 0, 1) := by decide +kernel
theorem dX4_runText_26 : decode cX4_runText 26 = .ok (.getfield 10, 3) := by decide +kernel
theorem dX4_runText_29 : decode cX4_runText 29 = .ok (.invokevirtual 44, 3) := by decide +kernel
theorem dX4_runText_32 : decode cX4_runText 32 = .ok (.aload_n 0, 1) := by decide +kernel
theorem dX4_runText_33 : decode cX4_runText 33 = .ok (.getfield 29, 3) := by decide +kernel
theorem dX4_runText_36 : decode cX4_runText 36 = .ok (.iconst 0, 1) := by decide +kernel
theorem dX4_runText_37 : decode cX4_runText 37 = .ok (.putfield 116, 3) := by decide +kernel
theorem dX4_runText_40 : decode cX4_runText 40 = .ok (.iconst 0, 1) := by decide +kernel
theorem dX4_runText_41 : decode cX4_runText 41 = .ok (.istore_n 1, 1) := by decide +kernel
theorem dX4_runText_42 : decode cX4_runText 42 = .ok (.iload_n 1, 1) := by decide +kernel
theorem dX4_runText_43 : decode cX4_runText 43 = .ok (.bipush 80, 2) := by decide +kernel
theorem dX4_runText_45 : decode cX4_runText 45 = .ok (.if_icmp .ge 37, 3) := by decide +kernel
theorem dX4_runText_48 : decode cX4_runText 48 = .ok (.aload_n 0, 1) := by decide +kernel
theorem dX4_runText_49 : decode cX4_runText 49 = .ok (.getfield 29, 3) := by decide +kernel
theorem dX4_runText_52 : decode cX4_runText 52 = .ok (.invokevirtual 119, 3) := by decide +kernel
theorem dX4_runText_55 : decode cX4_runText 55 = .ok (.ifCond .eq 27, 3) := by decide +kernel
theorem dX4_runText_58 : decode cX4_runText 58 = .ok (.aload_n 0, 1) := by decide +kernel
theorem dX4_runText_59 : decode cX4_runText 59 = .ok (.invokevirtual 122, 3) := by decide +kernel
theorem dX4_runText_62 : decode cX4_runText 62 = .ok (.ifCond .eq 20, 3) := by decide +kernel
theorem dX4_runText_65 : decode cX4_runText 65 = .ok (.iinc 1 1, 3) := by decide +kernel
theorem dX4_runText_68 : decode cX4_runText 68 = .ok (.aload_n 0, 1) := by decide +kernel
theorem dX4_runText_69 : decode cX4_runText 69 = .ok (.getfield 29, 3) := by decide +kernel
theorem dX4_runText_72 : decode cX4_runText 72 = .ok (.bipush 59, 2) := by decide +kernel
theorem dX4_runText_74 : decode cX4_runText 74 = .ok (.invokevirtual 125, 3) := by decide +kernel
theorem dX4_runText_77 : decode cX4_runText 77 = .ok (.ifCond .ne (-35), 3) := by decide +kernel
theorem dX4_runText_80 : decode cX4_runText 80 = .ok (.iload_n 1, 1) := by decide +kernel
theorem dX4_runText_81 : decode cX4_runText 81 = .ok (.ireturn, 1) := by decide +kernel
theorem dX4_runText_82 : decode cX4_runText 82 = .ok (.iload_n 1, 1) := by decide +kernel
theorem dX4_runText_83 : decode cX4_runText 83 = .ok (.ireturn, 1) := by decide +kernel
theorem dX4_executeCommand_0 : decode cX4_executeCommand 0 = .ok (.aload_n 0, 1) := by decide +kernel
theorem dX4_executeCommand_1 : decode cX4_executeCommand 1 = .ok (.getfield 29, 3) := by decide +kernel
theorem dX4_executeCommand_4 : decode cX4_executeCommand 4 = .ok (.getfield 129, 3) := by decide +kernel
theorem dX4_executeCommand_7 : decode cX4_executeCommand 7 = .ok (.lookupswitch 170 #[(33, 89), (43, 41), (45, 65), (116, 127)], 41) := by decide +kernel
theorem dX4_executeCommand_48 : decode cX4_executeCommand 48 = .ok (.aload_n 0, 1) := by decide +kernel
theorem dX4_executeCommand_49 : decode cX4_executeCommand 49 = .ok (.getfield 10, 3) := by decide +kernel
theorem dX4_executeCommand_52 : decode cX4_executeCommand 52 = .ok (.aload_n 0, 1) := by decide +kernel
theorem dX4_executeCommand_53 : decode cX4_executeCommand 53 = .ok (.getfield 29, 3) := by decide +kernel
theorem dX4_executeCommand_56 : decode cX4_executeCommand 56 = .ok (.getfield 133, 3) := by decide +kernel
theorem dX4_executeCommand_59 : decode cX4_executeCommand 59 = .ok (.aload_n 0, 1) := by decide +kernel
theorem dX4_executeCommand_60 : decode cX4_executeCommand 60 = .ok (.getfield 29, 3) := by decide +kernel
theorem dX4_executeCommand_63 : decode cX4_executeCommand 63 = .ok (.getfield 136, 3) := by decide +kernel
theorem dX4_executeCommand_66 : decode cX4_executeCommand 66 = .ok (.iconst 1, 1) := by decide +kernel
theorem dX4_executeCommand_67 : decode cX4_executeCommand 67 = .ok (.invokevirtual 48, 3) := by decide +kernel
theorem dX4_executeCommand_70 : decode cX4_executeCommand 70 = .ok (.iconst 1, 1) := by decide +kernel
theorem dX4_executeCommand_71 : decode cX4_executeCommand 71 = .ok (.ireturn, 1) := by decide +kernel
theorem dX4_executeCommand_72 : decode cX4_executeCommand 72 = .ok (.aload_n 0, 1) := by decide +kernel
theorem dX4_executeCommand_73 : decode cX4_executeCommand 73 = .ok (.getfield 10, 3) := by decide +kernel
theorem dX4_executeCommand_76 : decode cX4_executeCommand 76 = .ok (.aload_n 0, 1) := by decide +kernel
theorem dX4_executeCommand_77 : decode cX4_executeCommand 77 = .ok (.getfield 29, 3) := by decide +kernel
theorem dX4_executeCommand_80 : decode cX4_executeCommand 80 = .ok (.getfield 133, 3) := by decide +kernel
theorem dX4_executeCommand_83 : decode cX4_executeCommand 83 = .ok (.aload_n 0, 1) := by decide +kernel
theorem dX4_executeCommand_84 : decode cX4_executeCommand 84 = .ok (.getfield 29, 3) := by decide +kernel
theorem dX4_executeCommand_87 : decode cX4_executeCommand 87 = .ok (.getfield 136, 3) := by decide +kernel
theorem dX4_executeCommand_90 : decode cX4_executeCommand 90 = .ok (.iconst 0, 1) := by decide +kernel
theorem dX4_executeCommand_91 : decode cX4_executeCommand 91 = .ok (.invokevirtual 48, 3) := by decide +kernel
theorem dX4_executeCommand_94 : decode cX4_executeCommand 94 = .ok (.iconst 1, 1) := by decide +kernel
theorem dX4_executeCommand_95 : decode cX4_executeCommand 95 = .ok (.ireturn, 1) := by decide +kernel
theorem dX4_executeCommand_96 : decode cX4_executeCommand 96 = .ok (.aload_n 0, 1) := by decide +kernel
theorem dX4_executeCommand_97 : decode cX4_executeCommand 97 = .ok (.getfield 10, 3) := by decide +kernel
theorem dX4_executeCommand_100 : decode cX4_executeCommand 100 = .ok (.aload_n 0, 1) := by decide +kernel
theorem dX4_executeCommand_101 : decode cX4_executeCommand 101 = .ok (.getfield 29, 3) := by decide +kernel
theorem dX4_executeCommand_104 : decode cX4_executeCommand 104 = .ok (.getfield 133, 3) := by decide +kernel
theorem dX4_executeCommand_107 : decode cX4_executeCommand 107 = .ok (.aload_n 0, 1) := by decide +kernel
theorem dX4_executeCommand_108 : decode cX4_executeCommand 108 = .ok (.getfield 10, 3) := by decide +kernel
theorem dX4_executeCommand_111 : decode cX4_executeCommand 111 = .ok (.aload_n 0, 1) := by decide +kernel
theorem dX4_executeCommand_112 : decode cX4_executeCommand 112 = .ok (.getfield 29, 3) := by decide +kernel
theorem dX4_executeCommand_115 : decode cX4_executeCommand 115 = .ok (.getfield 133, 3) := by decide +kernel
theorem dX4_executeCommand_118 : decode cX4_executeCommand 118 = .ok (.invokevirtual 139, 3) := by decide +kernel
theorem dX4_executeCommand_121 : decode cX4_executeCommand 121 = .ok (.ifCond .ne 7, 3) := by decide +kernel
theorem dX4_executeCommand_124 : decode cX4_executeCommand 124 = .ok (.iconst 1, 1) := by decide +kernel
theorem dX4_executeCommand_125 : decode cX4_executeCommand 125 = .ok (.goto 4, 3) := by decide +kernel
theorem dX4_executeCommand_128 : decode cX4_executeCommand 128 = .ok (.iconst 0, 1) := by decide +kernel
theorem dX4_executeCommand_129 : decode cX4_executeCommand 129 = .ok (.invokevirtual 56, 3) := by decide +kernel
theorem dX4_executeCommand_132 : decode cX4_executeCommand 132 = .ok (.iconst 1, 1) := by decide +kernel
theorem dX4_executeCommand_133 : decode cX4_executeCommand 133 = .ok (.ireturn, 1) := by decide +kernel
theorem dX4_executeCommand_134 : decode cX4_executeCommand 134 = .ok (.aload_n 0, 1) := by decide +kernel
theorem dX4_executeCommand_135 : decode cX4_executeCommand 135 = .ok (.getfield 10, 3) := by decide +kernel
theorem dX4_executeCommand_138 : decode cX4_executeCommand 138 = .ok (.aload_n 0, 1) := by decide +kernel
theorem dX4_executeCommand_139 : decode cX4_executeCommand 139 = .ok (.getfield 29, 3) := by decide +kernel
theorem dX4_executeCommand_142 : decode cX4_executeCommand 142 = .ok (.getfield 133, 3) := by decide +kernel
theorem dX4_executeCommand_145 : decode cX4_executeCommand 145 = .ok (.invokevirtual 81, 3) := by decide +kernel
theorem dX4_executeCommand_148 : decode cX4_executeCommand 148 = .ok (.ifCond .ne 5, 3) := by decide +kernel
theorem dX4_executeCommand_151 : decode cX4_executeCommand 151 = .ok (.iconst 0, 1) := by decide +kernel
theorem dX4_executeCommand_152 : decode cX4_executeCommand 152 = .ok (.ireturn, 1) := by decide +kernel
theorem dX4_executeCommand_153 : decode cX4_executeCommand 153 = .ok (.aload_n 0, 1) := by decide +kernel
theorem dX4_executeCommand_154 : decode cX4_executeCommand 154 = .ok (.getfield 10, 3) := by decide +kernel
theorem dX4_executeCommand_157 : decode cX4_executeCommand 157 = .ok (.aload_n 0, 1) := by decide +kernel
theorem dX4_executeCommand_158 : decode cX4_executeCommand 158 = .ok (.getfield 29, 3) := by decide +kernel
theorem dX4_executeCommand_161 : decode cX4_executeCommand 161 = .ok (.getfield 133, 3) := by decide +kernel
theorem dX4_executeCommand_164 : decode cX4_executeCommand 164 = .ok (.aload_n 0, 1) := by decide +kernel
theorem dX4_executeCommand_165 : decode cX4_executeCommand 165 = .ok (.getfield 29, 3) := by decide +kernel
theorem dX4_executeCommand_168 : decode cX4_executeCommand 168 = .ok (.getfield 142, 3) := by decide +kernel
theorem dX4_executeCommand_171 : decode cX4_executeCommand 171 = .ok (.invokevirtual 90, 3) := by decide +kernel
theorem dX4_executeCommand_174 : decode cX4_executeCommand 174 = .ok (.pop, 1) := by decide +kernel
theorem dX4_executeCommand_175 : decode cX4_executeCommand 175 = .ok (.iconst 1, 1) := by decide +kernel
theorem dX4_executeCommand_176 : decode cX4_executeCommand 176 = .ok (.ireturn, 1) := by decide +kernel
theorem dX4_executeCommand_177 : decode cX4_executeCommand 177 = .ok (.aload_n 0, 1) := by decide +kernel
theorem dX4_executeCommand_178 : decode cX4_executeCommand 178 = .ok (.getfield 10, 3) := by decide +kernel
theorem dX4_executeCommand_181 : decode cX4_executeCommand 181 = .ok (.aload_n 0, 1) := by decide +kernel
theorem dX4_executeCommand_182 : decode cX4_executeCommand 182 = .ok (.getfield 29, 3) := by decide +kernel
theorem dX4_executeCommand_185 : decode cX4_executeCommand 185 = .ok (.getfield 142, 3) := by decide +kernel
theorem dX4_executeCommand_188 : decode cX4_executeCommand 188 = .ok (.invokevirtual 94, 3) := by decide +kernel
theorem dX4_executeCommand_191 : decode cX4_executeCommand 191 = .ok (.pop, 1) := by decide +kernel
theorem dX4_executeCommand_192 : decode cX4_executeCommand 192 = .ok (.iconst 1, 1) := by decide +kernel
theorem dX4_executeCommand_193 : decode cX4_executeCommand 193 = .ok (.ireturn, 1) := by decide +kernel
theorem dX4_undo_0 : decode cX4_undo 0 = .ok (.aload_n 0, 1) := by decide +kernel
theorem dX4_undo_1 : decode cX4_undo 1 = .ok (.getfield 22, 3) := by decide +kernel
theorem dX4_undo_4 : decode cX4_undo 4 = .ok (.invokevirtual 145, 3) := by decide +kernel
theorem dX4_undo_7 : decode cX4_undo 7 = .ok (.astore_n 1, 1) := by decide +kernel
theorem dX4_undo_8 : decode cX4_undo 8 = .ok (.aload_n 1, 1) := by decide +kernel
theorem dX4_undo_9 : decode cX4_undo 9 = .ok (.ifnonnull 13, 3) := by decide +kernel
theorem dX4_undo_12 : decode cX4_undo 12 = .ok (.new 85, 3) := by decide +kernel
theorem dX4_undo_15 : decode cX4_undo 15 = .ok (.dup, 1) := by decide +kernel
theorem dX4_undo_16 : decode cX4_undo 16 = .ok (.ldc 149, 2) := by decide +kernel
theorem dX4_undo_18 : decode cX4_undo 18 = .ok (.invokespecial 89, 3) := by decide +kernel
theorem dX4_undo_21 : decode cX4_undo 21 = .ok (.athrow, 1) := by decide +kernel
theorem dX4_undo_22 : decode cX4_undo 22 = .ok (.aload_n 0, 1) := by decide +kernel
theorem dX4_undo_23 : decode cX4_undo 23 = .ok (.getfield 10, 3) := by decide +kernel
theorem dX4_undo_26 : decode cX4_undo 26 = .ok (.aload_n 1, 1) := by decide +kernel
theorem dX4_undo_27 : decode cX4_undo 27 = .ok (.invokevirtual 151, 3) := by decide +kernel
theorem dX4_undo_30 : decode cX4_undo 30 = .ok (.aload_n 0, 1) := by decide +kernel
theorem dX4_undo_31 : decode cX4_undo 31 = .ok (.getfield 22, 3) := by decide +kernel
theorem dX4_undo_34 : decode cX4_undo 34 = .ok (.invokevirtual 154, 3) := by decide +kernel
theorem dX4_undo_37 : decode cX4_undo 37 = .ok (.aload_n 0, 1) := by decide +kernel
theorem dX4_undo_38 : decode cX4_undo 38 = .ok (.getfield 22, 3) := by decide +kernel
theorem dX4_undo_41 : decode cX4_undo 41 = .ok (.getfield 157, 3) := by decide +kernel
theorem dX4_undo_44 : decode cX4_undo 44 = .ok (.ireturn, 1) := by decide +kernel
theorem dX4_isConnected_0 : decode cX4_isConnected 0 = .ok (.iload_n 1, 1) := by decide +kernel
theorem dX4_isConnected_1 : decode cX4_isConnected 1 = .ok (.invokestatic 33, 3) := by decide +kernel
theorem dX4_isConnected_4 : decode cX4_isConnected 4 = .ok (.iload_n 2, 1) := by decide +kernel
theorem dX4_isConnected_5 : decode cX4_isConnected 5 = .ok (.invokestatic 33, 3) := by decide +kernel
theorem dX4_isConnected_8 : decode cX4_isConnected 8 = .ok (.aload_n 0, 1) := by decide +kernel
theorem dX4_isConnected_9 : decode cX4_isConnected 9 = .ok (.getfield 10, 3) := by decide +kernel
theorem dX4_isConnected_12 : decode cX4_isConnected 12 = .ok (.iload_n 1, 1) := by decide +kernel
theorem dX4_isConnected_13 : decode cX4_isConnected 13 = .ok (.iload_n 2, 1) := by decide +kernel
theorem dX4_isConnected_14 : decode cX4_isConnected 14 = .ok (.invokevirtual 160, 3) := by decide +kernel
theorem dX4_isConnected_17 : decode cX4_isConnected 17 = .ok (.ireturn, 1) := by decide +kernel
theorem dX4_parent_0 : decode cX4_parent 0 = .ok (.iload_n 1, 1) := by decide +kernel
theorem dX4_parent_1 : decode cX4_parent 1 = .ok (.invokestatic 33, 3) := by decide +kernel
theorem dX4_parent_4 : decode cX4_parent 4 = .ok (.aload_n 0, 1) := by decide +kernel
theorem dX4_parent_5 : decode cX4_parent 5 = .ok (.getfield 10, 3) := by decide +kernel
theorem dX4_parent_8 : decode cX4_parent 8 = .ok (.getfield 164, 3) := by decide +kernel
theorem dX4_parent_11 : decode cX4_parent 11 = .ok (.iload_n 1, 1) := by decide +kernel
theorem dX4_parent_12 : decode cX4_parent 12 = .ok (.iaload, 1) := by decide +kernel
theorem dX4_parent_13 : decode cX4_parent 13 = .ok (.ireturn, 1) := by decide +kernel
theorem dX4_depth_0 : decode cX4_depth 0 = .ok (.iload_n 1, 1) := by decide +kernel
theorem dX4_depth_1 : decode cX4_depth 1 = .ok (.invokestatic 33, 3) := by decide +kernel
theorem dX4_depth_4 : decode cX4_depth 4 = .ok (.aload_n 0, 1) := by decide +kernel
theorem dX4_depth_5 : decode cX4_depth 5 = .ok (.getfield 10, 3) := by decide +kernel
theorem dX4_depth_8 : decode cX4_depth 8 = .ok (.getfield 167, 3) := by decide +kernel
theorem dX4_depth_11 : decode cX4_depth 11 = .ok (.iload_n 1, 1) := by decide +kernel
theorem dX4_depth_12 : decode cX4_depth 12 = .ok (.iaload, 1) := by decide +kernel
theorem dX4_depth_13 : decode cX4_depth 13 = .ok (.ireturn, 1) := by decide +kernel
theorem dX4_clock_0 : decode cX4_clock 0 = .ok (.iload_n 1, 1) := by decide +kernel
theorem dX4_clock_1 : decode cX4_clock 1 = .ok (.invokestatic 33, 3) := by decide +kernel
theorem dX4_clock_4 : decode cX4_clock 4 = .ok (.aload_n 0, 1) := by decide +kernel
theorem dX4_clock_5 : decode cX4_clock 5 = .ok (.getfield 10, 3) := by decide +kernel
theorem dX4_clock_8 : decode cX4_clock 8 = .ok (.getfield 170, 3) := by decide +kernel
theorem dX4_clock_11 : decode cX4_clock 11 = .ok (.aload_n 0, 1) := by decide +kernel
theorem dX4_clock_12 : decode cX4_clock 12 = .ok (.getfield 10, 3) := by decide +kernel
theorem dX4_clock_15 : decode cX4_clock 15 = .ok (.getfield 70, 3) := by decide +kernel
theorem dX4_clock_18 : decode cX4_clock 18 = .ok (.iload_n 1, 1) := by decide +kernel
theorem dX4_clock_19 : decode cX4_clock 19 = .ok (.iaload, 1) := by decide +kernel
theorem dX4_clock_20 : decode cX4_clock 20 = .ok (.iadd, 1) := by decide +kernel
theorem dX4_clock_21 : decode cX4_clock 21 = .ok (.ireturn, 1) := by decide +kernel
theorem dX4_silence_0 : decode cX4_silence 0 = .ok (.iload_n 1, 1) := by decide +kernel
theorem dX4_silence_1 : decode cX4_silence 1 = .ok (.invokestatic 63, 3) := by decide +kernel
theorem dX4_silence_4 : decode cX4_silence 4 = .ok (.aload_n 0, 1) := by decide +kernel
theorem dX4_silence_5 : decode cX4_silence 5 = .ok (.getfield 10, 3) := by decide +kernel
theorem dX4_silence_8 : decode cX4_silence 8 = .ok (.getfield 164, 3) := by decide +kernel
theorem dX4_silence_11 : decode cX4_silence 11 = .ok (.iload_n 1, 1) := by decide +kernel
theorem dX4_silence_12 : decode cX4_silence 12 = .ok (.iaload, 1) := by decide +kernel
theorem dX4_silence_13 : decode cX4_silence 13 = .ok (.iconst (-1), 1) := by decide +kernel
theorem dX4_silence_14 : decode cX4_silence 14 = .ok (.if_icmp .ne 7, 3) := by decide +kernel
theorem dX4_silence_17 : decode cX4_silence 17 = .ok (.iconst (-1), 1) := by decide +kernel
theorem dX4_silence_18 : decode cX4_silence 18 = .ok (.goto 20, 3) := by decide +kernel
theorem dX4_silence_21 : decode cX4_silence 21 = .ok (.aload_n 0, 1) := by decide +kernel
theorem dX4_silence_22 : decode cX4_silence 22 = .ok (.getfield 10, 3) := by decide +kernel
theorem dX4_silence_25 : decode cX4_silence 25 = .ok (.getfield 170, 3) := by decide +kernel
theorem dX4_silence_28 : decode cX4_silence 28 = .ok (.aload_n 0, 1) := by decide +kernel
theorem dX4_silence_29 : decode cX4_silence 29 = .ok (.getfield 10, 3) := by decide +kernel
theorem dX4_silence_32 : decode cX4_silence 32 = .ok (.getfield 173, 3) := by decide +kernel
theorem dX4_silence_35 : decode cX4_silence 35 = .ok (.iload_n 1, 1) := by decide +kernel
theorem dX4_silence_36 : decode cX4_silence 36 = .ok (.iaload, 1) := by decide +kernel
theorem dX4_silence_37 : decode cX4_silence 37 = .ok (.isub, 1) := by decide +kernel
theorem dX4_silence_38 : decode cX4_silence 38 = .ok (.ireturn, 1) := by decide +kernel
theorem dX4_faults_0 : decode cX4_faults 0 = .ok (.iload_n 1, 1) := by decide +kernel
theorem dX4_faults_1 : decode cX4_faults 1 = .ok (.invokestatic 63, 3) := by decide +kernel
theorem dX4_faults_4 : decode cX4_faults 4 = .ok (.aload_n 0, 1) := by decide +kernel
theorem dX4_faults_5 : decode cX4_faults 5 = .ok (.getfield 10, 3) := by decide +kernel
theorem dX4_faults_8 : decode cX4_faults 8 = .ok (.getfield 74, 3) := by decide +kernel
theorem dX4_faults_11 : decode cX4_faults 11 = .ok (.iload_n 1, 1) := by decide +kernel
theorem dX4_faults_12 : decode cX4_faults 12 = .ok (.iaload, 1) := by decide +kernel
theorem dX4_faults_13 : decode cX4_faults 13 = .ok (.ireturn, 1) := by decide +kernel
theorem dX4_hops_0 : decode cX4_hops 0 = .ok (.iload_n 1, 1) := by decide +kernel
theorem dX4_hops_1 : decode cX4_hops 1 = .ok (.invokestatic 33, 3) := by decide +kernel
theorem dX4_hops_4 : decode cX4_hops 4 = .ok (.aload_n 0, 1) := by decide +kernel
theorem dX4_hops_5 : decode cX4_hops 5 = .ok (.getfield 10, 3) := by decide +kernel
theorem dX4_hops_8 : decode cX4_hops 8 = .ok (.iload_n 1, 1) := by decide +kernel
theorem dX4_hops_9 : decode cX4_hops 9 = .ok (.invokevirtual 176, 3) := by decide +kernel
theorem dX4_hops_12 : decode cX4_hops 12 = .ok (.ireturn, 1) := by decide +kernel
theorem dX4_stored_0 : decode cX4_stored 0 = .ok (.iload_n 1, 1) := by decide +kernel
theorem dX4_stored_1 : decode cX4_stored 1 = .ok (.invokestatic 63, 3) := by decide +kernel
theorem dX4_stored_4 : decode cX4_stored 4 = .ok (.aload_n 0, 1) := by decide +kernel
theorem dX4_stored_5 : decode cX4_stored 5 = .ok (.getfield 10, 3) := by decide +kernel
theorem dX4_stored_8 : decode cX4_stored 8 = .ok (.getfield 179, 3) := by decide +kernel
theorem dX4_stored_11 : decode cX4_stored 11 = .ok (.iload_n 1, 1) := by decide +kernel
theorem dX4_stored_12 : decode cX4_stored 12 = .ok (.invokevirtual 183, 3) := by decide +kernel
theorem dX4_stored_15 : decode cX4_stored 15 = .ok (.ireturn, 1) := by decide +kernel
theorem dX4_storedReading_0 : decode cX4_storedReading 0 = .ok (.iload_n 1, 1) := by decide +kernel
theorem dX4_storedReading_1 : decode cX4_storedReading 1 = .ok (.invokestatic 63, 3) := by decide +kernel
theorem dX4_storedReading_4 : decode cX4_storedReading 4 = .ok (.iload_n 2, 1) := by decide +kernel
theorem dX4_storedReading_5 : decode cX4_storedReading 5 = .ok (.invokestatic 188, 3) := by decide +kernel
theorem dX4_storedReading_8 : decode cX4_storedReading 8 = .ok (.iload_n 3, 1) := by decide +kernel
theorem dX4_storedReading_9 : decode cX4_storedReading 9 = .ok (.iconst 0, 1) := by decide +kernel
theorem dX4_storedReading_10 : decode cX4_storedReading 10 = .ok (.iconst 4, 1) := by decide +kernel
theorem dX4_storedReading_11 : decode cX4_storedReading 11 = .ok (.invokestatic 66, 3) := by decide +kernel
theorem dX4_storedReading_14 : decode cX4_storedReading 14 = .ok (.aload_n 0, 1) := by decide +kernel
theorem dX4_storedReading_15 : decode cX4_storedReading 15 = .ok (.getfield 10, 3) := by decide +kernel
theorem dX4_storedReading_18 : decode cX4_storedReading 18 = .ok (.getfield 179, 3) := by decide +kernel
theorem dX4_storedReading_21 : decode cX4_storedReading 21 = .ok (.iload_n 1, 1) := by decide +kernel
theorem dX4_storedReading_22 : decode cX4_storedReading 22 = .ok (.iload_n 2, 1) := by decide +kernel
theorem dX4_storedReading_23 : decode cX4_storedReading 23 = .ok (.iload_n 3, 1) := by decide +kernel
theorem dX4_storedReading_24 : decode cX4_storedReading 24 = .ok (.invokevirtual 191, 3) := by decide +kernel
theorem dX4_storedReading_27 : decode cX4_storedReading 27 = .ok (.ireturn, 1) := by decide +kernel
theorem dX4_collected_0 : decode cX4_collected 0 = .ok (.aload_n 0, 1) := by decide +kernel
theorem dX4_collected_1 : decode cX4_collected 1 = .ok (.getfield 10, 3) := by decide +kernel
theorem dX4_collected_4 : decode cX4_collected 4 = .ok (.getfield 179, 3) := by decide +kernel
theorem dX4_collected_7 : decode cX4_collected 7 = .ok (.iconst 0, 1) := by decide +kernel
theorem dX4_collected_8 : decode cX4_collected 8 = .ok (.invokevirtual 183, 3) := by decide +kernel
theorem dX4_collected_11 : decode cX4_collected 11 = .ok (.ireturn, 1) := by decide +kernel
theorem dX4_collectedReading_0 : decode cX4_collectedReading 0 = .ok (.iload_n 1, 1) := by decide +kernel
theorem dX4_collectedReading_1 : decode cX4_collectedReading 1 = .ok (.invokestatic 188, 3) := by decide +kernel
theorem dX4_collectedReading_4 : decode cX4_collectedReading 4 = .ok (.iload_n 2, 1) := by decide +kernel
theorem dX4_collectedReading_5 : decode cX4_collectedReading 5 = .ok (.iconst 0, 1) := by decide +kernel
theorem dX4_collectedReading_6 : decode cX4_collectedReading 6 = .ok (.iconst 4, 1) := by decide +kernel
theorem dX4_collectedReading_7 : decode cX4_collectedReading 7 = .ok (.invokestatic 66, 3) := by decide +kernel
theorem dX4_collectedReading_10 : decode cX4_collectedReading 10 = .ok (.aload_n 0, 1) := by decide +kernel
theorem dX4_collectedReading_11 : decode cX4_collectedReading 11 = .ok (.getfield 10, 3) := by decide +kernel
theorem dX4_collectedReading_14 : decode cX4_collectedReading 14 = .ok (.getfield 179, 3) := by decide +kernel
theorem dX4_collectedReading_17 : decode cX4_collectedReading 17 = .ok (.iconst 0, 1) := by decide +kernel
theorem dX4_collectedReading_18 : decode cX4_collectedReading 18 = .ok (.iload_n 1, 1) := by decide +kernel
theorem dX4_collectedReading_19 : decode cX4_collectedReading 19 = .ok (.iload_n 2, 1) := by decide +kernel
theorem dX4_collectedReading_20 : decode cX4_collectedReading 20 = .ok (.invokevirtual 191, 3) := by decide +kernel
theorem dX4_collectedReading_23 : decode cX4_collectedReading 23 = .ok (.ireturn, 1) := by decide +kernel
theorem dX4_copies_0 : decode cX4_copies 0 = .ok (.iload_n 1, 1) := by decide +kernel
theorem dX4_copies_1 : decode cX4_copies 1 = .ok (.invokestatic 63, 3) := by decide +kernel
theorem dX4_copies_4 : decode cX4_copies 4 = .ok (.aload_n 0, 1) := by decide +kernel
theorem dX4_copies_5 : decode cX4_copies 5 = .ok (.getfield 10, 3) := by decide +kernel
theorem dX4_copies_8 : decode cX4_copies 8 = .ok (.getfield 179, 3) := by decide +kernel
theorem dX4_copies_11 : decode cX4_copies 11 = .ok (.iload_n 1, 1) := by decide +kernel
theorem dX4_copies_12 : decode cX4_copies 12 = .ok (.iload_n 2, 1) := by decide +kernel
theorem dX4_copies_13 : decode cX4_copies 13 = .ok (.invokevirtual 195, 3) := by decide +kernel
theorem dX4_copies_16 : decode cX4_copies 16 = .ok (.istore_n 3, 1) := by decide +kernel
theorem dX4_copies_17 : decode cX4_copies 17 = .ok (.iload_n 3, 1) := by decide +kernel
theorem dX4_copies_18 : decode cX4_copies 18 = .ok (.iconst (-1), 1) := by decide +kernel
theorem dX4_copies_19 : decode cX4_copies 19 = .ok (.if_icmp .ne 7, 3) := by decide +kernel
theorem dX4_copies_22 : decode cX4_copies 22 = .ok (.iconst (-1), 1) := by decide +kernel
theorem dX4_copies_23 : decode cX4_copies 23 = .ok (.goto 14, 3) := by decide +kernel
theorem dX4_copies_26 : decode cX4_copies 26 = .ok (.aload_n 0, 1) := by decide +kernel
theorem dX4_copies_27 : decode cX4_copies 27 = .ok (.getfield 10, 3) := by decide +kernel
theorem dX4_copies_30 : decode cX4_copies 30 = .ok (.getfield 179, 3) := by decide +kernel
theorem dX4_copies_33 : decode cX4_copies 33 = .ok (.iload_n 3, 1) := by decide +kernel
theorem dX4_copies_34 : decode cX4_copies 34 = .ok (.invokevirtual 198, 3) := by decide +kernel
theorem dX4_copies_37 : decode cX4_copies 37 = .ok (.ireturn, 1) := by decide +kernel
theorem dX4_missing_0 : decode cX4_missing 0 = .ok (.aload_n 0, 1) := by decide +kernel
theorem dX4_missing_1 : decode cX4_missing 1 = .ok (.getfield 10, 3) := by decide +kernel
theorem dX4_missing_4 : decode cX4_missing 4 = .ok (.getfield 179, 3) := by decide +kernel
theorem dX4_missing_7 : decode cX4_missing 7 = .ok (.invokevirtual 201, 3) := by decide +kernel
theorem dX4_missing_10 : decode cX4_missing 10 = .ok (.ireturn, 1) := by decide +kernel
theorem dX4_wrongStamps_0 : decode cX4_wrongStamps 0 = .ok (.aload_n 0, 1) := by decide +kernel
theorem dX4_wrongStamps_1 : decode cX4_wrongStamps 1 = .ok (.getfield 10, 3) := by decide +kernel
theorem dX4_wrongStamps_4 : decode cX4_wrongStamps 4 = .ok (.getfield 179, 3) := by decide +kernel
theorem dX4_wrongStamps_7 : decode cX4_wrongStamps 7 = .ok (.invokevirtual 204, 3) := by decide +kernel
theorem dX4_wrongStamps_10 : decode cX4_wrongStamps 10 = .ok (.ireturn, 1) := by decide +kernel
theorem dX4_slotsToCollect_0 : decode cX4_slotsToCollect 0 = .ok (.aload_n 0, 1) := by decide +kernel
theorem dX4_slotsToCollect_1 : decode cX4_slotsToCollect 1 = .ok (.getfield 16, 3) := by decide +kernel
theorem dX4_slotsToCollect_4 : decode cX4_slotsToCollect 4 = .ok (.aload_n 0, 1) := by decide +kernel
theorem dX4_slotsToCollect_5 : decode cX4_slotsToCollect 5 = .ok (.getfield 10, 3) := by decide +kernel
theorem dX4_slotsToCollect_8 : decode cX4_slotsToCollect 8 = .ok (.invokevirtual 151, 3) := by decide +kernel
theorem dX4_slotsToCollect_11 : decode cX4_slotsToCollect 11 = .ok (.iconst 0, 1) := by decide +kernel
theorem dX4_slotsToCollect_12 : decode cX4_slotsToCollect 12 = .ok (.istore_n 1, 1) := by decide +kernel
theorem dX4_slotsToCollect_13 : decode cX4_slotsToCollect 13 = .ok (.iload_n 1, 1) := by decide +kernel
theorem dX4_slotsToCollect_14 : decode cX4_slotsToCollect 14 = .ok (.sipush 400, 3) := by decide +kernel
theorem dX4_slotsToCollect_17 : decode cX4_slotsToCollect 17 = .ok (.if_icmp .gt 33, 3) := by decide +kernel
theorem dX4_slotsToCollect_20 : decode cX4_slotsToCollect 20 = .ok (.aload_n 0, 1) := by decide +kernel
theorem dX4_slotsToCollect_21 : decode cX4_slotsToCollect 21 = .ok (.getfield 16, 3) := by decide +kernel
theorem dX4_slotsToCollect_24 : decode cX4_slotsToCollect 24 = .ok (.getfield 179, 3) := by decide +kernel
theorem dX4_slotsToCollect_27 : decode cX4_slotsToCollect 27 = .ok (.invokevirtual 201, 3) := by decide +kernel
theorem dX4_slotsToCollect_30 : decode cX4_slotsToCollect 30 = .ok (.ifCond .ne 5, 3) := by decide +kernel
theorem dX4_slotsToCollect_33 : decode cX4_slotsToCollect 33 = .ok (.iload_n 1, 1) := by decide +kernel
theorem dX4_slotsToCollect_34 : decode cX4_slotsToCollect 34 = .ok (.ireturn, 1) := by decide +kernel
theorem dX4_slotsToCollect_35 : decode cX4_slotsToCollect 35 = .ok (.aload_n 0, 1) := by decide +kernel
theorem dX4_slotsToCollect_36 : decode cX4_slotsToCollect 36 = .ok (.getfield 16, 3) := by decide +kernel
theorem dX4_slotsToCollect_39 : decode cX4_slotsToCollect 39 = .ok (.iconst 1, 1) := by decide +kernel
theorem dX4_slotsToCollect_40 : decode cX4_slotsToCollect 40 = .ok (.invokevirtual 94, 3) := by decide +kernel
theorem dX4_slotsToCollect_43 : decode cX4_slotsToCollect 43 = .ok (.pop, 1) := by decide +kernel
theorem dX4_slotsToCollect_44 : decode cX4_slotsToCollect 44 = .ok (.iinc 1 1, 3) := by decide +kernel
theorem dX4_slotsToCollect_47 : decode cX4_slotsToCollect 47 = .ok (.goto (-34), 3) := by decide +kernel
theorem dX4_slotsToCollect_50 : decode cX4_slotsToCollect 50 = .ok (.iconst (-1), 1) := by decide +kernel
theorem dX4_slotsToCollect_51 : decode cX4_slotsToCollect 51 = .ok (.ireturn, 1) := by decide +kernel
theorem dX4_ifRun_0 : decode cX4_ifRun 0 = .ok (.iload_n 1, 1) := by decide +kernel
theorem dX4_ifRun_1 : decode cX4_ifRun 1 = .ok (.iconst 1, 1) := by decide +kernel
theorem dX4_ifRun_2 : decode cX4_ifRun 2 = .ok (.bipush 100, 2) := by decide +kernel
theorem dX4_ifRun_4 : decode cX4_ifRun 4 = .ok (.invokestatic 66, 3) := by decide +kernel
theorem dX4_ifRun_7 : decode cX4_ifRun 7 = .ok (.aload_n 0, 1) := by decide +kernel
theorem dX4_ifRun_8 : decode cX4_ifRun 8 = .ok (.getfield 16, 3) := by decide +kernel
theorem dX4_ifRun_11 : decode cX4_ifRun 11 = .ok (.aload_n 0, 1) := by decide +kernel
theorem dX4_ifRun_12 : decode cX4_ifRun 12 = .ok (.getfield 10, 3) := by decide +kernel
theorem dX4_ifRun_15 : decode cX4_ifRun 15 = .ok (.invokevirtual 151, 3) := by decide +kernel
theorem dX4_ifRun_18 : decode cX4_ifRun 18 = .ok (.aload_n 0, 1) := by decide +kernel
theorem dX4_ifRun_19 : decode cX4_ifRun 19 = .ok (.getfield 16, 3) := by decide +kernel
theorem dX4_ifRun_22 : decode cX4_ifRun 22 = .ok (.iload_n 1, 1) := by decide +kernel
theorem dX4_ifRun_23 : decode cX4_ifRun 23 = .ok (.invokevirtual 94, 3) := by decide +kernel
theorem dX4_ifRun_26 : decode cX4_ifRun 26 = .ok (.ireturn, 1) := by decide +kernel
theorem dX4_time_0 : decode cX4_time 0 = .ok (.aload_n 0, 1) := by decide +kernel
theorem dX4_time_1 : decode cX4_time 1 = .ok (.getfield 10, 3) := by decide +kernel
theorem dX4_time_4 : decode cX4_time 4 = .ok (.getfield 170, 3) := by decide +kernel
theorem dX4_time_7 : decode cX4_time 7 = .ok (.ireturn, 1) := by decide +kernel
theorem dX4_count_0 : decode cX4_count 0 = .ok (.iload_n 1, 1) := by decide +kernel
theorem dX4_count_1 : decode cX4_count 1 = .ok (.tableswitch 90 0 5 #[39, 50, 58, 66, 74, 82], 39) := by decide +kernel
theorem dX4_count_40 : decode cX4_count 40 = .ok (.aload_n 0, 1) := by decide +kernel
theorem dX4_count_41 : decode cX4_count 41 = .ok (.getfield 10, 3) := by decide +kernel
theorem dX4_count_44 : decode cX4_count 44 = .ok (.getfield 179, 3) := by decide +kernel
theorem dX4_count_47 : decode cX4_count 47 = .ok (.getfield 207, 3) := by decide +kernel
theorem dX4_count_50 : decode cX4_count 50 = .ok (.ireturn, 1) := by decide +kernel
theorem dX4_count_51 : decode cX4_count 51 = .ok (.aload_n 0, 1) := by decide +kernel
theorem dX4_count_52 : decode cX4_count 52 = .ok (.getfield 10, 3) := by decide +kernel
theorem dX4_count_55 : decode cX4_count 55 = .ok (.getfield 210, 3) := by decide +kernel
theorem dX4_count_58 : decode cX4_count 58 = .ok (.ireturn, 1) := by decide +kernel
theorem dX4_count_59 : decode cX4_count 59 = .ok (.aload_n 0, 1) := by decide +kernel
theorem dX4_count_60 : decode cX4_count 60 = .ok (.getfield 10, 3) := by decide +kernel
theorem dX4_count_63 : decode cX4_count 63 = .ok (.getfield 213, 3) := by decide +kernel
theorem dX4_count_66 : decode cX4_count 66 = .ok (.ireturn, 1) := by decide +kernel
theorem dX4_count_67 : decode cX4_count 67 = .ok (.aload_n 0, 1) := by decide +kernel
theorem dX4_count_68 : decode cX4_count 68 = .ok (.getfield 10, 3) := by decide +kernel
theorem dX4_count_71 : decode cX4_count 71 = .ok (.getfield 216, 3) := by decide +kernel
theorem dX4_count_74 : decode cX4_count 74 = .ok (.ireturn, 1) := by decide +kernel
theorem dX4_count_75 : decode cX4_count 75 = .ok (.aload_n 0, 1) := by decide +kernel
theorem dX4_count_76 : decode cX4_count 76 = .ok (.getfield 10, 3) := by decide +kernel
theorem dX4_count_79 : decode cX4_count 79 = .ok (.getfield 219, 3) := by decide +kernel
theorem dX4_count_82 : decode cX4_count 82 = .ok (.ireturn, 1) := by decide +kernel
theorem dX4_count_83 : decode cX4_count 83 = .ok (.aload_n 0, 1) := by decide +kernel
theorem dX4_count_84 : decode cX4_count 84 = .ok (.getfield 10, 3) := by decide +kernel
theorem dX4_count_87 : decode cX4_count 87 = .ok (.getfield 222, 3) := by decide +kernel
theorem dX4_count_90 : decode cX4_count 90 = .ok (.ireturn, 1) := by decide +kernel
theorem dX4_count_91 : decode cX4_count 91 = .ok (.new 37, 3) := by decide +kernel
theorem dX4_count_94 : decode cX4_count 94 = .ok (.dup, 1) := by decide +kernel
theorem dX4_count_95 : decode cX4_count 95 = .ok (.ldc 225, 2) := by decide +kernel
theorem dX4_count_97 : decode cX4_count 97 = .ok (.invokespecial 41, 3) := by decide +kernel
theorem dX4_count_100 : decode cX4_count 100 = .ok (.athrow, 1) := by decide +kernel
theorem dX4_joined_0 : decode cX4_joined 0 = .ok (.aload_n 0, 1) := by decide +kernel
theorem dX4_joined_1 : decode cX4_joined 1 = .ok (.getfield 10, 3) := by decide +kernel
theorem dX4_joined_4 : decode cX4_joined 4 = .ok (.invokevirtual 227, 3) := by decide +kernel
theorem dX4_joined_7 : decode cX4_joined 7 = .ok (.i2d, 1) := by decide +kernel
theorem dX4_joined_8 : decode cX4_joined 8 = .ok (.ldc2_w 230, 3) := by decide +kernel
theorem dX4_joined_11 : decode cX4_joined 11 = .ok (.ddiv, 1) := by decide +kernel
theorem dX4_joined_12 : decode cX4_joined 12 = .ok (.dreturn, 1) := by decide +kernel
theorem dX4_savedStates_0 : decode cX4_savedStates 0 = .ok (.aload_n 0, 1) := by decide +kernel
theorem dX4_savedStates_1 : decode cX4_savedStates 1 = .ok (.getfield 22, 3) := by decide +kernel
theorem dX4_savedStates_4 : decode cX4_savedStates 4 = .ok (.getfield 157, 3) := by decide +kernel
theorem dX4_savedStates_7 : decode cX4_savedStates 7 = .ok (.ireturn, 1) := by decide +kernel
theorem dX4_textLength_0 : decode cX4_textLength 0 = .ok (.aload_n 0, 1) := by decide +kernel
theorem dX4_textLength_1 : decode cX4_textLength 1 = .ok (.getfield 29, 3) := by decide +kernel
theorem dX4_textLength_4 : decode cX4_textLength 4 = .ok (.getfield 108, 3) := by decide +kernel
theorem dX4_textLength_7 : decode cX4_textLength 7 = .ok (.ireturn, 1) := by decide +kernel
theorem dX4_isNode_0 : decode cX4_isNode 0 = .ok (.iload_n 0, 1) := by decide +kernel
theorem dX4_isNode_1 : decode cX4_isNode 1 = .ok (.ifCond .lt 13, 3) := by decide +kernel
theorem dX4_isNode_4 : decode cX4_isNode 4 = .ok (.iload_n 0, 1) := by decide +kernel
theorem dX4_isNode_5 : decode cX4_isNode 5 = .ok (.bipush 10, 2) := by decide +kernel
theorem dX4_isNode_7 : decode cX4_isNode 7 = .ok (.if_icmp .ge 7, 3) := by decide +kernel
theorem dX4_isNode_10 : decode cX4_isNode 10 = .ok (.iconst 1, 1) := by decide +kernel
theorem dX4_isNode_11 : decode cX4_isNode 11 = .ok (.goto 4, 3) := by decide +kernel
theorem dX4_isNode_14 : decode cX4_isNode 14 = .ok (.iconst 0, 1) := by decide +kernel
theorem dX4_isNode_15 : decode cX4_isNode 15 = .ok (.ireturn, 1) := by decide +kernel
theorem dX4_checkNode_0 : decode cX4_checkNode 0 = .ok (.iload_n 0, 1) := by decide +kernel
theorem dX4_checkNode_1 : decode cX4_checkNode 1 = .ok (.invokestatic 232, 3) := by decide +kernel
theorem dX4_checkNode_4 : decode cX4_checkNode 4 = .ok (.ifCond .ne 13, 3) := by decide +kernel
theorem dX4_checkNode_7 : decode cX4_checkNode 7 = .ok (.new 235, 3) := by decide +kernel
theorem dX4_checkNode_10 : decode cX4_checkNode 10 = .ok (.dup, 1) := by decide +kernel
theorem dX4_checkNode_11 : decode cX4_checkNode 11 = .ok (.ldc 237, 2) := by decide +kernel
theorem dX4_checkNode_13 : decode cX4_checkNode 13 = .ok (.invokespecial 239, 3) := by decide +kernel
theorem dX4_checkNode_16 : decode cX4_checkNode 16 = .ok (.athrow, 1) := by decide +kernel
theorem dX4_checkNode_17 : decode cX4_checkNode 17 = .ok (.return_, 1) := by decide +kernel
theorem dX4_checkMeter_0 : decode cX4_checkMeter 0 = .ok (.iload_n 0, 1) := by decide +kernel
theorem dX4_checkMeter_1 : decode cX4_checkMeter 1 = .ok (.invokestatic 232, 3) := by decide +kernel
theorem dX4_checkMeter_4 : decode cX4_checkMeter 4 = .ok (.ifCond .eq 7, 3) := by decide +kernel
theorem dX4_checkMeter_7 : decode cX4_checkMeter 7 = .ok (.iload_n 0, 1) := by decide +kernel
theorem dX4_checkMeter_8 : decode cX4_checkMeter 8 = .ok (.ifCond .ne 13, 3) := by decide +kernel
theorem dX4_checkMeter_11 : decode cX4_checkMeter 11 = .ok (.new 235, 3) := by decide +kernel
theorem dX4_checkMeter_14 : decode cX4_checkMeter 14 = .ok (.dup, 1) := by decide +kernel
theorem dX4_checkMeter_15 : decode cX4_checkMeter 15 = .ok (.ldc 240, 2) := by decide +kernel
theorem dX4_checkMeter_17 : decode cX4_checkMeter 17 = .ok (.invokespecial 239, 3) := by decide +kernel
theorem dX4_checkMeter_20 : decode cX4_checkMeter 20 = .ok (.athrow, 1) := by decide +kernel
theorem dX4_checkMeter_21 : decode cX4_checkMeter 21 = .ok (.return_, 1) := by decide +kernel
theorem dX4_checkIndex_0 : decode cX4_checkIndex 0 = .ok (.iload_n 0, 1) := by decide +kernel
theorem dX4_checkIndex_1 : decode cX4_checkIndex 1 = .ok (.ifCond .ge 13, 3) := by decide +kernel
theorem dX4_checkIndex_4 : decode cX4_checkIndex 4 = .ok (.new 235, 3) := by decide +kernel
theorem dX4_checkIndex_7 : decode cX4_checkIndex 7 = .ok (.dup, 1) := by decide +kernel
theorem dX4_checkIndex_8 : decode cX4_checkIndex 8 = .ok (.ldc 242, 2) := by decide +kernel
theorem dX4_checkIndex_10 : decode cX4_checkIndex 10 = .ok (.invokespecial 239, 3) := by decide +kernel
theorem dX4_checkIndex_13 : decode cX4_checkIndex 13 = .ok (.athrow, 1) := by decide +kernel
theorem dX4_checkIndex_14 : decode cX4_checkIndex 14 = .ok (.return_, 1) := by decide +kernel
theorem dX4_checkRange_0 : decode cX4_checkRange 0 = .ok (.iload_n 0, 1) := by decide +kernel
theorem dX4_checkRange_1 : decode cX4_checkRange 1 = .ok (.iload_n 1, 1) := by decide +kernel
theorem dX4_checkRange_2 : decode cX4_checkRange 2 = .ok (.if_icmp .lt 8, 3) := by decide +kernel
theorem dX4_checkRange_5 : decode cX4_checkRange 5 = .ok (.iload_n 0, 1) := by decide +kernel
theorem dX4_checkRange_6 : decode cX4_checkRange 6 = .ok (.iload_n 2, 1) := by decide +kernel
theorem dX4_checkRange_7 : decode cX4_checkRange 7 = .ok (.if_icmp .le 13, 3) := by decide +kernel
theorem dX4_checkRange_10 : decode cX4_checkRange 10 = .ok (.new 37, 3) := by decide +kernel
theorem dX4_checkRange_13 : decode cX4_checkRange 13 = .ok (.dup, 1) := by decide +kernel
theorem dX4_checkRange_14 : decode cX4_checkRange 14 = .ok (.ldc 244, 2) := by decide +kernel
theorem dX4_checkRange_16 : decode cX4_checkRange 16 = .ok (.invokespecial 41, 3) := by decide +kernel
theorem dX4_checkRange_19 : decode cX4_checkRange 19 = .ok (.athrow, 1) := by decide +kernel
theorem dX4_checkRange_20 : decode cX4_checkRange 20 = .ok (.return_, 1) := by decide +kernel
theorem dX4_copyRow_0 : decode cX4_copyRow 0 = .ok (.aload_n 0, 1) := by decide +kernel
theorem dX4_copyRow_1 : decode cX4_copyRow 1 = .ok (.iconst 0, 1) := by decide +kernel
theorem dX4_copyRow_2 : decode cX4_copyRow 2 = .ok (.aload_n 1, 1) := by decide +kernel
theorem dX4_copyRow_3 : decode cX4_copyRow 3 = .ok (.iconst 0, 1) := by decide +kernel
theorem dX4_copyRow_4 : decode cX4_copyRow 4 = .ok (.aload_n 0, 1) := by decide +kernel
theorem dX4_copyRow_5 : decode cX4_copyRow 5 = .ok (.arraylength, 1) := by decide +kernel
theorem dX4_copyRow_6 : decode cX4_copyRow 6 = .ok (.aload_n 1, 1) := by decide +kernel
theorem dX4_copyRow_7 : decode cX4_copyRow 7 = .ok (.arraylength, 1) := by decide +kernel
theorem dX4_copyRow_8 : decode cX4_copyRow 8 = .ok (.invokestatic 246, 3) := by decide +kernel
theorem dX4_copyRow_11 : decode cX4_copyRow 11 = .ok (.invokestatic 251, 3) := by decide +kernel
theorem dX4_copyRow_14 : decode cX4_copyRow 14 = .ok (.return_, 1) := by decide +kernel
theorem dX4_copyRow__0 : decode cX4_copyRow_ 0 = .ok (.aload_n 0, 1) := by decide +kernel
theorem dX4_copyRow__1 : decode cX4_copyRow_ 1 = .ok (.iconst 0, 1) := by decide +kernel
theorem dX4_copyRow__2 : decode cX4_copyRow_ 2 = .ok (.aload_n 1, 1) := by decide +kernel
theorem dX4_copyRow__3 : decode cX4_copyRow_ 3 = .ok (.iconst 0, 1) := by decide +kernel
theorem dX4_copyRow__4 : decode cX4_copyRow_ 4 = .ok (.aload_n 0, 1) := by decide +kernel
theorem dX4_copyRow__5 : decode cX4_copyRow_ 5 = .ok (.arraylength, 1) := by decide +kernel
theorem dX4_copyRow__6 : decode cX4_copyRow_ 6 = .ok (.aload_n 1, 1) := by decide +kernel
theorem dX4_copyRow__7 : decode cX4_copyRow_ 7 = .ok (.arraylength, 1) := by decide +kernel
theorem dX4_copyRow__8 : decode cX4_copyRow_ 8 = .ok (.invokestatic 246, 3) := by decide +kernel
theorem dX4_copyRow__11 : decode cX4_copyRow_ 11 = .ok (.invokestatic 251, 3) := by decide +kernel
theorem dX4_copyRow__14 : decode cX4_copyRow_ 14 = .ok (.return_, 1) := by decide +kernel
end
section
theorem dX5_init_0 : decode cX5_init 0 = .ok (.aload_n 0, 1) := by decide +kernel
theorem dX5_init_1 : decode cX5_init 1 = .ok (.invokespecial 1, 3) := by decide +kernel
theorem dX5_init_4 : decode cX5_init 4 = .ok (.aload_n 0, 1) := by decide +kernel
theorem dX5_init_5 : decode cX5_init 5 = .ok (.sipush 5520, 3) := by decide +kernel
theorem dX5_init_8 : decode cX5_init 8 = .ok (.newarray .int, 2) := by decide +kernel
theorem dX5_init_10 : decode cX5_init 10 = .ok (.putfield 7, 3) := by decide +kernel
theorem dX5_init_13 : decode cX5_init 13 = .ok (.aload_n 0, 1) := by decide +kernel
theorem dX5_init_14 : decode cX5_init 14 = .ok (.bipush 80, 2) := by decide +kernel
theorem dX5_init_16 : decode cX5_init 16 = .ok (.newarray .char, 2) := by decide +kernel
theorem dX5_init_18 : decode cX5_init 18 = .ok (.putfield 13, 3) := by decide +kernel
theorem dX5_init_21 : decode cX5_init 21 = .ok (.aload_n 0, 1) := by decide +kernel
theorem dX5_init_22 : decode cX5_init 22 = .ok (.bipush 10, 2) := by decide +kernel
theorem dX5_init_24 : decode cX5_init 24 = .ok (.newarray .int, 2) := by decide +kernel
theorem dX5_init_26 : decode cX5_init 26 = .ok (.putfield 17, 3) := by decide +kernel
theorem dX5_init_29 : decode cX5_init 29 = .ok (.aload_n 0, 1) := by decide +kernel
theorem dX5_init_30 : decode cX5_init 30 = .ok (.getfield 7, 3) := by decide +kernel
theorem dX5_init_33 : decode cX5_init 33 = .ok (.bipush 10, 2) := by decide +kernel
theorem dX5_init_35 : decode cX5_init 35 = .ok (.sipush 1023, 3) := by decide +kernel
theorem dX5_init_38 : decode cX5_init 38 = .ok (.iastore, 1) := by decide +kernel
theorem dX5_init_39 : decode cX5_init 39 = .ok (.aload_n 0, 1) := by decide +kernel
theorem dX5_init_40 : decode cX5_init 40 = .ok (.getfield 7, 3) := by decide +kernel
theorem dX5_init_43 : decode cX5_init 43 = .ok (.bipush 11, 2) := by decide +kernel
theorem dX5_init_45 : decode cX5_init 45 = .ok (.iconst 2, 1) := by decide +kernel
theorem dX5_init_46 : decode cX5_init 46 = .ok (.iastore, 1) := by decide +kernel
theorem dX5_init_47 : decode cX5_init 47 = .ok (.iconst 0, 1) := by decide +kernel
theorem dX5_init_48 : decode cX5_init 48 = .ok (.istore_n 1, 1) := by decide +kernel
theorem dX5_init_49 : decode cX5_init 49 = .ok (.iload_n 1, 1) := by decide +kernel
theorem dX5_init_50 : decode cX5_init 50 = .ok (.bipush 10, 2) := by decide +kernel
theorem dX5_init_52 : decode cX5_init 52 = .ok (.if_icmp .ge 43, 3) := by decide +kernel
theorem dX5_init_55 : decode cX5_init 55 = .ok (.aload_n 0, 1) := by decide +kernel
theorem dX5_init_56 : decode cX5_init 56 = .ok (.getfield 7, 3) := by decide +kernel
theorem dX5_init_59 : decode cX5_init 59 = .ok (.iconst 0, 1) := by decide +kernel
theorem dX5_init_60 : decode cX5_init 60 = .ok (.iload_n 1, 1) := by decide +kernel
theorem dX5_init_61 : decode cX5_init 61 = .ok (.invokestatic 20, 3) := by decide +kernel
theorem dX5_init_64 : decode cX5_init 64 = .ok (.iconst 1, 1) := by decide +kernel
theorem dX5_init_65 : decode cX5_init 65 = .ok (.iadd, 1) := by decide +kernel
theorem dX5_init_66 : decode cX5_init 66 = .ok (.iconst (-1), 1) := by decide +kernel
theorem dX5_init_67 : decode cX5_init 67 = .ok (.iastore, 1) := by decide +kernel
theorem dX5_init_68 : decode cX5_init 68 = .ok (.aload_n 0, 1) := by decide +kernel
theorem dX5_init_69 : decode cX5_init 69 = .ok (.getfield 7, 3) := by decide +kernel
theorem dX5_init_72 : decode cX5_init 72 = .ok (.iconst 0, 1) := by decide +kernel
theorem dX5_init_73 : decode cX5_init 73 = .ok (.iload_n 1, 1) := by decide +kernel
theorem dX5_init_74 : decode cX5_init 74 = .ok (.invokestatic 20, 3) := by decide +kernel
theorem dX5_init_77 : decode cX5_init 77 = .ok (.iconst 2, 1) := by decide +kernel
theorem dX5_init_78 : decode cX5_init 78 = .ok (.iadd, 1) := by decide +kernel
theorem dX5_init_79 : decode cX5_init 79 = .ok (.iload_n 1, 1) := by decide +kernel
theorem dX5_init_80 : decode cX5_init 80 = .ok (.ifCond .ne 7, 3) := by decide +kernel
theorem dX5_init_83 : decode cX5_init 83 = .ok (.iconst 0, 1) := by decide +kernel
theorem dX5_init_84 : decode cX5_init 84 = .ok (.goto 4, 3) := by decide +kernel
theorem dX5_init_87 : decode cX5_init 87 = .ok (.iconst (-1), 1) := by decide +kernel
theorem dX5_init_88 : decode cX5_init 88 = .ok (.iastore, 1) := by decide +kernel
theorem dX5_init_89 : decode cX5_init 89 = .ok (.iinc 1 1, 3) := by decide +kernel
theorem dX5_init_92 : decode cX5_init 92 = .ok (.goto (-43), 3) := by decide +kernel
theorem dX5_init_95 : decode cX5_init 95 = .ok (.return_, 1) := by decide +kernel
theorem dX5_thrown_0 : decode cX5_thrown 0 = .ok (.aload_n 0, 1) := by decide +kernel
theorem dX5_thrown_1 : decode cX5_thrown 1 = .ok (.getfield 24, 3) := by decide +kernel
theorem dX5_thrown_4 : decode cX5_thrown 4 = .ok (.ireturn, 1) := by decide +kernel
theorem dX5_in_0 : decode cX5_in 0 = .ok (.iload_n 0, 1) := by decide +kernel
theorem dX5_in_1 : decode cX5_in 1 = .ok (.iload_n 1, 1) := by decide +kernel
theorem dX5_in_2 : decode cX5_in 2 = .ok (.if_icmp .lt 12, 3) := by decide +kernel
theorem dX5_in_5 : decode cX5_in 5 = .ok (.iload_n 0, 1) := by decide +kernel
theorem dX5_in_6 : decode cX5_in 6 = .ok (.iload_n 2, 1) := by decide +kernel
theorem dX5_in_7 : decode cX5_in 7 = .ok (.if_icmp .gt 7, 3) := by decide +kernel
theorem dX5_in_10 : decode cX5_in 10 = .ok (.iconst 1, 1) := by decide +kernel
theorem dX5_in_11 : decode cX5_in 11 = .ok (.goto 4, 3) := by decide +kernel
theorem dX5_in_14 : decode cX5_in 14 = .ok (.iconst 0, 1) := by decide +kernel
theorem dX5_in_15 : decode cX5_in 15 = .ok (.ireturn, 1) := by decide +kernel
theorem dX5_goes_0 : decode cX5_goes 0 = .ok (.aload_n 0, 1) := by decide +kernel
theorem dX5_goes_1 : decode cX5_goes 1 = .ok (.iload_n 1, 1) := by decide +kernel
theorem dX5_goes_2 : decode cX5_goes 2 = .ok (.ifCond .ne 7, 3) := by decide +kernel
theorem dX5_goes_5 : decode cX5_goes 5 = .ok (.iconst 1, 1) := by decide +kernel
theorem dX5_goes_6 : decode cX5_goes 6 = .ok (.goto 20, 3) := by decide +kernel
theorem dX5_goes_9 : decode cX5_goes 9 = .ok (.iload_n 2, 1) := by decide +kernel
theorem dX5_goes_10 : decode cX5_goes 10 = .ok (.ifCond .ne 7, 3) := by decide +kernel
theorem dX5_goes_13 : decode cX5_goes 13 = .ok (.iconst 2, 1) := by decide +kernel
theorem dX5_goes_14 : decode cX5_goes 14 = .ok (.goto 12, 3) := by decide +kernel
theorem dX5_goes_17 : decode cX5_goes 17 = .ok (.iload_n 3, 1) := by decide +kernel
theorem dX5_goes_18 : decode cX5_goes 18 = .ok (.ifCond .ne 7, 3) := by decide +kernel
theorem dX5_goes_21 : decode cX5_goes 21 = .ok (.iconst 3, 1) := by decide +kernel
theorem dX5_goes_22 : decode cX5_goes 22 = .ok (.goto 4, 3) := by decide +kernel
theorem dX5_goes_25 : decode cX5_goes 25 = .ok (.iconst 0, 1) := by decide +kernel
theorem dX5_goes_26 : decode cX5_goes 26 = .ok (.putfield 24, 3) := by decide +kernel
theorem dX5_goes_29 : decode cX5_goes 29 = .ok (.aload_n 0, 1) := by decide +kernel
theorem dX5_goes_30 : decode cX5_goes 30 = .ok (.getfield 24, 3) := by decide +kernel
theorem dX5_goes_33 : decode cX5_goes 33 = .ok (.ifCond .ne 7, 3) := by decide +kernel
theorem dX5_goes_36 : decode cX5_goes 36 = .ok (.iconst 1, 1) := by decide +kernel
theorem dX5_goes_37 : decode cX5_goes 37 = .ok (.goto 4, 3) := by decide +kernel
theorem dX5_goes_40 : decode cX5_goes 40 = .ok (.iconst 0, 1) := by decide +kernel
theorem dX5_goes_41 : decode cX5_goes 41 = .ok (.ireturn, 1) := by decide +kernel
theorem dX5_isNode_0 : decode cX5_isNode 0 = .ok (.iload_n 0, 1) := by decide +kernel
theorem dX5_isNode_1 : decode cX5_isNode 1 = .ok (.iconst 0, 1) := by decide +kernel
theorem dX5_isNode_2 : decode cX5_isNode 2 = .ok (.bipush 9, 2) := by decide +kernel
theorem dX5_isNode_4 : decode cX5_isNode 4 = .ok (.invokestatic 28, 3) := by decide +kernel
theorem dX5_isNode_7 : decode cX5_isNode 7 = .ok (.ireturn, 1) := by decide +kernel
theorem dX5_isMeter_0 : decode cX5_isMeter 0 = .ok (.iload_n 0, 1) := by decide +kernel
theorem dX5_isMeter_1 : decode cX5_isMeter 1 = .ok (.iconst 1, 1) := by decide +kernel
theorem dX5_isMeter_2 : decode cX5_isMeter 2 = .ok (.bipush 9, 2) := by decide +kernel
theorem dX5_isMeter_4 : decode cX5_isMeter 4 = .ok (.invokestatic 28, 3) := by decide +kernel
theorem dX5_isMeter_7 : decode cX5_isMeter 7 = .ok (.ireturn, 1) := by decide +kernel
theorem dX5_lays_0 : decode cX5_lays 0 = .ok (.iconst 0, 1) := by decide +kernel
theorem dX5_lays_1 : decode cX5_lays 1 = .ok (.istore_n 3, 1) := by decide +kernel
theorem dX5_lays_2 : decode cX5_lays 2 = .ok (.iload_n 3, 1) := by decide +kernel
theorem dX5_lays_3 : decode cX5_lays 3 = .ok (.sipush 690, 3) := by decide +kernel
theorem dX5_lays_6 : decode cX5_lays 6 = .ok (.if_icmp .ge 33, 3) := by decide +kernel
theorem dX5_lays_9 : decode cX5_lays 9 = .ok (.aload_n 0, 1) := by decide +kernel
theorem dX5_lays_10 : decode cX5_lays 10 = .ok (.getfield 7, 3) := by decide +kernel
theorem dX5_lays_13 : decode cX5_lays 13 = .ok (.sipush 690, 3) := by decide +kernel
theorem dX5_lays_16 : decode cX5_lays 16 = .ok (.iload_n 2, 1) := by decide +kernel
theorem dX5_lays_17 : decode cX5_lays 17 = .ok (.imul, 1) := by decide +kernel
theorem dX5_lays_18 : decode cX5_lays 18 = .ok (.iload_n 3, 1) := by decide +kernel
theorem dX5_lays_19 : decode cX5_lays 19 = .ok (.iadd, 1) := by decide +kernel
theorem dX5_lays_20 : decode cX5_lays 20 = .ok (.aload_n 0, 1) := by decide +kernel
theorem dX5_lays_21 : decode cX5_lays 21 = .ok (.getfield 7, 3) := by decide +kernel
theorem dX5_lays_24 : decode cX5_lays 24 = .ok (.sipush 690, 3) := by decide +kernel
theorem dX5_lays_27 : decode cX5_lays 27 = .ok (.iload_n 1, 1) := by decide +kernel
theorem dX5_lays_28 : decode cX5_lays 28 = .ok (.imul, 1) := by decide +kernel
theorem dX5_lays_29 : decode cX5_lays 29 = .ok (.iload_n 3, 1) := by decide +kernel
theorem dX5_lays_30 : decode cX5_lays 30 = .ok (.iadd, 1) := by decide +kernel
theorem dX5_lays_31 : decode cX5_lays 31 = .ok (.iaload, 1) := by decide +kernel
theorem dX5_lays_32 : decode cX5_lays 32 = .ok (.iastore, 1) := by decide +kernel
theorem dX5_lays_33 : decode cX5_lays 33 = .ok (.iinc 3 1, 3) := by decide +kernel
theorem dX5_lays_36 : decode cX5_lays 36 = .ok (.goto (-34), 3) := by decide +kernel
theorem dX5_lays_39 : decode cX5_lays 39 = .ok (.return_, 1) := by decide +kernel
theorem dX5_saves_0 : decode cX5_saves 0 = .ok (.aload_n 0, 1) := by decide +kernel
theorem dX5_saves_1 : decode cX5_saves 1 = .ok (.getfield 32, 3) := by decide +kernel
theorem dX5_saves_4 : decode cX5_saves 4 = .ok (.bipush 6, 2) := by decide +kernel
theorem dX5_saves_6 : decode cX5_saves 6 = .ok (.if_icmp .ne 35, 3) := by decide +kernel
theorem dX5_saves_9 : decode cX5_saves 9 = .ok (.iconst 1, 1) := by decide +kernel
theorem dX5_saves_10 : decode cX5_saves 10 = .ok (.istore_n 1, 1) := by decide +kernel
theorem dX5_saves_11 : decode cX5_saves 11 = .ok (.iload_n 1, 1) := by decide +kernel
theorem dX5_saves_12 : decode cX5_saves 12 = .ok (.bipush 6, 2) := by decide +kernel
theorem dX5_saves_14 : decode cX5_saves 14 = .ok (.if_icmp .ge 17, 3) := by decide +kernel
theorem dX5_saves_17 : decode cX5_saves 17 = .ok (.aload_n 0, 1) := by decide +kernel
theorem dX5_saves_18 : decode cX5_saves 18 = .ok (.iload_n 1, 1) := by decide +kernel
theorem dX5_saves_19 : decode cX5_saves 19 = .ok (.iconst 1, 1) := by decide +kernel
theorem dX5_saves_20 : decode cX5_saves 20 = .ok (.iadd, 1) := by decide +kernel
theorem dX5_saves_21 : decode cX5_saves 21 = .ok (.iload_n 1, 1) := by decide +kernel
theorem dX5_saves_22 : decode cX5_saves 22 = .ok (.invokevirtual 35, 3) := by decide +kernel
theorem dX5_saves_25 : decode cX5_saves 25 = .ok (.iinc 1 1, 3) := by decide +kernel
theorem dX5_saves_28 : decode cX5_saves 28 = .ok (.goto (-17), 3) := by decide +kernel
theorem dX5_saves_31 : decode cX5_saves 31 = .ok (.aload_n 0, 1) := by decide +kernel
theorem dX5_saves_32 : decode cX5_saves 32 = .ok (.dup, 1) := by decide +kernel
theorem dX5_saves_33 : decode cX5_saves 33 = .ok (.getfield 32, 3) := by decide +kernel
theorem dX5_saves_36 : decode cX5_saves 36 = .ok (.iconst 1, 1) := by decide +kernel
theorem dX5_saves_37 : decode cX5_saves 37 = .ok (.isub, 1) := by decide +kernel
theorem dX5_saves_38 : decode cX5_saves 38 = .ok (.putfield 32, 3) := by decide +kernel
theorem dX5_saves_41 : decode cX5_saves 41 = .ok (.aload_n 0, 1) := by decide +kernel
theorem dX5_saves_42 : decode cX5_saves 42 = .ok (.dup, 1) := by decide +kernel
theorem dX5_saves_43 : decode cX5_saves 43 = .ok (.getfield 32, 3) := by decide +kernel
theorem dX5_saves_46 : decode cX5_saves 46 = .ok (.iconst 1, 1) := by decide +kernel
theorem dX5_saves_47 : decode cX5_saves 47 = .ok (.iadd, 1) := by decide +kernel
theorem dX5_saves_48 : decode cX5_saves 48 = .ok (.putfield 32, 3) := by decide +kernel
theorem dX5_saves_51 : decode cX5_saves 51 = .ok (.aload_n 0, 1) := by decide +kernel
theorem dX5_saves_52 : decode cX5_saves 52 = .ok (.iconst 0, 1) := by decide +kernel
theorem dX5_saves_53 : decode cX5_saves 53 = .ok (.aload_n 0, 1) := by decide +kernel
theorem dX5_saves_54 : decode cX5_saves 54 = .ok (.getfield 32, 3) := by decide +kernel
theorem dX5_saves_57 : decode cX5_saves 57 = .ok (.invokevirtual 35, 3) := by decide +kernel
theorem dX5_saves_60 : decode cX5_saves 60 = .ok (.return_, 1) := by decide +kernel
theorem dX5_at_0 : decode cX5_at 0 = .ok (.iload_n 0, 1) := by decide +kernel
theorem dX5_at_1 : decode cX5_at 1 = .ok (.bipush 20, 2) := by decide +kernel
theorem dX5_at_3 : decode cX5_at 3 = .ok (.iadd, 1) := by decide +kernel
theorem dX5_at_4 : decode cX5_at 4 = .ok (.bipush 7, 2) := by decide +kernel
theorem dX5_at_6 : decode cX5_at 6 = .ok (.iload_n 1, 1) := by decide +kernel
theorem dX5_at_7 : decode cX5_at 7 = .ok (.imul, 1) := by decide +kernel
theorem dX5_at_8 : decode cX5_at 8 = .ok (.iadd, 1) := by decide +kernel
theorem dX5_at_9 : decode cX5_at 9 = .ok (.ireturn, 1) := by decide +kernel
theorem dX5_storeAt_0 : decode cX5_storeAt 0 = .ok (.iload_n 0, 1) := by decide +kernel
theorem dX5_storeAt_1 : decode cX5_storeAt 1 = .ok (.bipush 90, 2) := by decide +kernel
theorem dX5_storeAt_3 : decode cX5_storeAt 3 = .ok (.iadd, 1) := by decide +kernel
theorem dX5_storeAt_4 : decode cX5_storeAt 4 = .ok (.iconst 5, 1) := by decide +kernel
theorem dX5_storeAt_5 : decode cX5_storeAt 5 = .ok (.bipush 6, 2) := by decide +kernel
theorem dX5_storeAt_7 : decode cX5_storeAt 7 = .ok (.iload_n 1, 1) := by decide +kernel
theorem dX5_storeAt_8 : decode cX5_storeAt 8 = .ok (.imul, 1) := by decide +kernel
theorem dX5_storeAt_9 : decode cX5_storeAt 9 = .ok (.iload_n 2, 1) := by decide +kernel
theorem dX5_storeAt_10 : decode cX5_storeAt 10 = .ok (.iadd, 1) := by decide +kernel
theorem dX5_storeAt_11 : decode cX5_storeAt 11 = .ok (.imul, 1) := by decide +kernel
theorem dX5_storeAt_12 : decode cX5_storeAt 12 = .ok (.iadd, 1) := by decide +kernel
theorem dX5_storeAt_13 : decode cX5_storeAt 13 = .ok (.ireturn, 1) := by decide +kernel
theorem dX5_listAt_0 : decode cX5_listAt 0 = .ok (.iload_n 0, 1) := by decide +kernel
theorem dX5_listAt_1 : decode cX5_listAt 1 = .ok (.sipush 390, 3) := by decide +kernel
theorem dX5_listAt_4 : decode cX5_listAt 4 = .ok (.iadd, 1) := by decide +kernel
theorem dX5_listAt_5 : decode cX5_listAt 5 = .ok (.iconst 5, 1) := by decide +kernel
theorem dX5_listAt_6 : decode cX5_listAt 6 = .ok (.iload_n 1, 1) := by decide +kernel
theorem dX5_listAt_7 : decode cX5_listAt 7 = .ok (.imul, 1) := by decide +kernel
theorem dX5_listAt_8 : decode cX5_listAt 8 = .ok (.iadd, 1) := by decide +kernel
theorem dX5_listAt_9 : decode cX5_listAt 9 = .ok (.ireturn, 1) := by decide +kernel
theorem dX5_isOn_0 : decode cX5_isOn 0 = .ok (.aload_n 0, 1) := by decide +kernel
theorem dX5_isOn_1 : decode cX5_isOn 1 = .ok (.getfield 7, 3) := by decide +kernel
theorem dX5_isOn_4 : decode cX5_isOn 4 = .ok (.iload_n 1, 1) := by decide +kernel
theorem dX5_isOn_5 : decode cX5_isOn 5 = .ok (.bipush 10, 2) := by decide +kernel
theorem dX5_isOn_7 : decode cX5_isOn 7 = .ok (.iadd, 1) := by decide +kernel
theorem dX5_isOn_8 : decode cX5_isOn 8 = .ok (.iaload, 1) := by decide +kernel
theorem dX5_isOn_9 : decode cX5_isOn 9 = .ok (.iload_n 2, 1) := by decide +kernel
theorem dX5_isOn_10 : decode cX5_isOn 10 = .ok (.ishr, 1) := by decide +kernel
theorem dX5_isOn_11 : decode cX5_isOn 11 = .ok (.iconst 1, 1) := by decide +kernel
theorem dX5_isOn_12 : decode cX5_isOn 12 = .ok (.iand, 1) := by decide +kernel
theorem dX5_isOn_13 : decode cX5_isOn 13 = .ok (.iconst 1, 1) := by decide +kernel
theorem dX5_isOn_14 : decode cX5_isOn 14 = .ok (.if_icmp .ne 7, 3) := by decide +kernel
theorem dX5_isOn_17 : decode cX5_isOn 17 = .ok (.iconst 1, 1) := by decide +kernel
theorem dX5_isOn_18 : decode cX5_isOn 18 = .ok (.goto 4, 3) := by decide +kernel
theorem dX5_isOn_21 : decode cX5_isOn 21 = .ok (.iconst 0, 1) := by decide +kernel
theorem dX5_isOn_22 : decode cX5_isOn 22 = .ok (.ireturn, 1) := by decide +kernel
theorem dX5_areConnected_0 : decode cX5_areConnected 0 = .ok (.aload_n 0, 1) := by decide +kernel
theorem dX5_areConnected_1 : decode cX5_areConnected 1 = .ok (.getfield 7, 3) := by decide +kernel
theorem dX5_areConnected_4 : decode cX5_areConnected 4 = .ok (.iload_n 1, 1) := by decide +kernel
theorem dX5_areConnected_5 : decode cX5_areConnected 5 = .ok (.iconst 0, 1) := by decide +kernel
theorem dX5_areConnected_6 : decode cX5_areConnected 6 = .ok (.iadd, 1) := by decide +kernel
theorem dX5_areConnected_7 : decode cX5_areConnected 7 = .ok (.iload_n 2, 1) := by decide +kernel
theorem dX5_areConnected_8 : decode cX5_areConnected 8 = .ok (.iadd, 1) := by decide +kernel
theorem dX5_areConnected_9 : decode cX5_areConnected 9 = .ok (.iaload, 1) := by decide +kernel
theorem dX5_areConnected_10 : decode cX5_areConnected 10 = .ok (.iload_n 3, 1) := by decide +kernel
theorem dX5_areConnected_11 : decode cX5_areConnected 11 = .ok (.ishr, 1) := by decide +kernel
theorem dX5_areConnected_12 : decode cX5_areConnected 12 = .ok (.iconst 1, 1) := by decide +kernel
theorem dX5_areConnected_13 : decode cX5_areConnected 13 = .ok (.iand, 1) := by decide +kernel
theorem dX5_areConnected_14 : decode cX5_areConnected 14 = .ok (.iconst 1, 1) := by decide +kernel
theorem dX5_areConnected_15 : decode cX5_areConnected 15 = .ok (.if_icmp .ne 25, 3) := by decide +kernel
theorem dX5_areConnected_18 : decode cX5_areConnected 18 = .ok (.aload_n 0, 1) := by decide +kernel
theorem dX5_areConnected_19 : decode cX5_areConnected 19 = .ok (.iload_n 1, 1) := by decide +kernel
theorem dX5_areConnected_20 : decode cX5_areConnected 20 = .ok (.iload_n 2, 1) := by decide +kernel
theorem dX5_areConnected_21 : decode cX5_areConnected 21 = .ok (.invokevirtual 39, 3) := by decide +kernel
theorem dX5_areConnected_24 : decode cX5_areConnected 24 = .ok (.ifCond .eq 16, 3) := by decide +kernel
theorem dX5_areConnected_27 : decode cX5_areConnected 27 = .ok (.aload_n 0, 1) := by decide +kernel
theorem dX5_areConnected_28 : decode cX5_areConnected 28 = .ok (.iload_n 1, 1) := by decide +kernel
theorem dX5_areConnected_29 : decode cX5_areConnected 29 = .ok (.iload_n 3, 1) := by decide +kernel
theorem dX5_areConnected_30 : decode cX5_areConnected 30 = .ok (.invokevirtual 39, 3) := by decide +kernel
theorem dX5_areConnected_33 : decode cX5_areConnected 33 = .ok (.ifCond .eq 7, 3) := by decide +kernel
theorem dX5_areConnected_36 : decode cX5_areConnected 36 = .ok (.iconst 1, 1) := by decide +kernel
theorem dX5_areConnected_37 : decode cX5_areConnected 37 = .ok (.goto 4, 3) := by decide +kernel
theorem dX5_areConnected_40 : decode cX5_areConnected 40 = .ok (.iconst 0, 1) := by decide +kernel
theorem dX5_areConnected_41 : decode cX5_areConnected 41 = .ok (.ireturn, 1) := by decide +kernel
theorem dX5_drops_0 : decode cX5_drops 0 = .ok (.aload_n 0, 1) := by decide +kernel
theorem dX5_drops_1 : decode cX5_drops 1 = .ok (.getfield 7, 3) := by decide +kernel
theorem dX5_drops_4 : decode cX5_drops 4 = .ok (.iload_n 1, 1) := by decide +kernel
theorem dX5_drops_5 : decode cX5_drops 5 = .ok (.iload_n 2, 1) := by decide +kernel
theorem dX5_drops_6 : decode cX5_drops 6 = .ok (.invokestatic 20, 3) := by decide +kernel
theorem dX5_drops_9 : decode cX5_drops 9 = .ok (.iconst 1, 1) := by decide +kernel
theorem dX5_drops_10 : decode cX5_drops 10 = .ok (.iadd, 1) := by decide +kernel
theorem dX5_drops_11 : decode cX5_drops 11 = .ok (.iconst (-1), 1) := by decide +kernel
theorem dX5_drops_12 : decode cX5_drops 12 = .ok (.iastore, 1) := by decide +kernel
theorem dX5_drops_13 : decode cX5_drops 13 = .ok (.aload_n 0, 1) := by decide +kernel
theorem dX5_drops_14 : decode cX5_drops 14 = .ok (.getfield 7, 3) := by decide +kernel
theorem dX5_drops_17 : decode cX5_drops 17 = .ok (.iload_n 1, 1) := by decide +kernel
theorem dX5_drops_18 : decode cX5_drops 18 = .ok (.iload_n 2, 1) := by decide +kernel
theorem dX5_drops_19 : decode cX5_drops 19 = .ok (.invokestatic 20, 3) := by decide +kernel
theorem dX5_drops_22 : decode cX5_drops 22 = .ok (.iconst 2, 1) := by decide +kernel
theorem dX5_drops_23 : decode cX5_drops 23 = .ok (.iadd, 1) := by decide +kernel
theorem dX5_drops_24 : decode cX5_drops 24 = .ok (.iconst (-1), 1) := by decide +kernel
theorem dX5_drops_25 : decode cX5_drops 25 = .ok (.iastore, 1) := by decide +kernel
theorem dX5_drops_26 : decode cX5_drops 26 = .ok (.aload_n 0, 1) := by decide +kernel
theorem dX5_drops_27 : decode cX5_drops 27 = .ok (.getfield 7, 3) := by decide +kernel
theorem dX5_drops_30 : decode cX5_drops 30 = .ok (.iload_n 1, 1) := by decide +kernel
theorem dX5_drops_31 : decode cX5_drops 31 = .ok (.bipush 18, 2) := by decide +kernel
theorem dX5_drops_33 : decode cX5_drops 33 = .ok (.iadd, 1) := by decide +kernel
theorem dX5_drops_34 : decode cX5_drops 34 = .ok (.dup2, 1) := by decide +kernel
theorem dX5_drops_35 : decode cX5_drops 35 = .ok (.iaload, 1) := by decide +kernel
theorem dX5_drops_36 : decode cX5_drops 36 = .ok (.iconst 1, 1) := by decide +kernel
theorem dX5_drops_37 : decode cX5_drops 37 = .ok (.iadd, 1) := by decide +kernel
theorem dX5_drops_38 : decode cX5_drops 38 = .ok (.iastore, 1) := by decide +kernel
theorem dX5_drops_39 : decode cX5_drops 39 = .ok (.return_, 1) := by decide +kernel
theorem dX5_setsClock_0 : decode cX5_setsClock 0 = .ok (.aload_n 0, 1) := by decide +kernel
theorem dX5_setsClock_1 : decode cX5_setsClock 1 = .ok (.getfield 7, 3) := by decide +kernel
theorem dX5_setsClock_4 : decode cX5_setsClock 4 = .ok (.iload_n 1, 1) := by decide +kernel
theorem dX5_setsClock_5 : decode cX5_setsClock 5 = .ok (.iload_n 3, 1) := by decide +kernel
theorem dX5_setsClock_6 : decode cX5_setsClock 6 = .ok (.invokestatic 20, 3) := by decide +kernel
theorem dX5_setsClock_9 : decode cX5_setsClock 9 = .ok (.iconst 0, 1) := by decide +kernel
theorem dX5_setsClock_10 : decode cX5_setsClock 10 = .ok (.iadd, 1) := by decide +kernel
theorem dX5_setsClock_11 : decode cX5_setsClock 11 = .ok (.iaload, 1) := by decide +kernel
theorem dX5_setsClock_12 : decode cX5_setsClock 12 = .ok (.aload_n 0, 1) := by decide +kernel
theorem dX5_setsClock_13 : decode cX5_setsClock 13 = .ok (.getfield 7, 3) := by decide +kernel
theorem dX5_setsClock_16 : decode cX5_setsClock 16 = .ok (.iload_n 1, 1) := by decide +kernel
theorem dX5_setsClock_17 : decode cX5_setsClock 17 = .ok (.iload_n 2, 1) := by decide +kernel
theorem dX5_setsClock_18 : decode cX5_setsClock 18 = .ok (.invokestatic 20, 3) := by decide +kernel
theorem dX5_setsClock_21 : decode cX5_setsClock 21 = .ok (.iconst 0, 1) := by decide +kernel
theorem dX5_setsClock_22 : decode cX5_setsClock 22 = .ok (.iadd, 1) := by decide +kernel
theorem dX5_setsClock_23 : decode cX5_setsClock 23 = .ok (.iaload, 1) := by decide +kernel
theorem dX5_setsClock_24 : decode cX5_setsClock 24 = .ok (.isub, 1) := by decide +kernel
theorem dX5_setsClock_25 : decode cX5_setsClock 25 = .ok (.istore 4, 2) := by decide +kernel
theorem dX5_setsClock_27 : decode cX5_setsClock 27 = .ok (.aload_n 0, 1) := by decide +kernel
theorem dX5_setsClock_28 : decode cX5_setsClock 28 = .ok (.getfield 7, 3) := by decide +kernel
theorem dX5_setsClock_31 : decode cX5_setsClock 31 = .ok (.iload_n 1, 1) := by decide +kernel
theorem dX5_setsClock_32 : decode cX5_setsClock 32 = .ok (.iload_n 2, 1) := by decide +kernel
theorem dX5_setsClock_33 : decode cX5_setsClock 33 = .ok (.invokestatic 20, 3) := by decide +kernel
theorem dX5_setsClock_36 : decode cX5_setsClock 36 = .ok (.iconst 0, 1) := by decide +kernel
theorem dX5_setsClock_37 : decode cX5_setsClock 37 = .ok (.iadd, 1) := by decide +kernel
theorem dX5_setsClock_38 : decode cX5_setsClock 38 = .ok (.dup2, 1) := by decide +kernel
theorem dX5_setsClock_39 : decode cX5_setsClock 39 = .ok (.iaload, 1) := by decide +kernel
theorem dX5_setsClock_40 : decode cX5_setsClock 40 = .ok (.iload 4, 2) := by decide +kernel
theorem dX5_setsClock_42 : decode cX5_setsClock 42 = .ok (.iadd, 1) := by decide +kernel
theorem dX5_setsClock_43 : decode cX5_setsClock 43 = .ok (.iastore, 1) := by decide +kernel
theorem dX5_setsClock_44 : decode cX5_setsClock 44 = .ok (.iconst 0, 1) := by decide +kernel
theorem dX5_setsClock_45 : decode cX5_setsClock 45 = .ok (.istore 5, 2) := by decide +kernel
theorem dX5_setsClock_47 : decode cX5_setsClock 47 = .ok (.iload 5, 2) := by decide +kernel
theorem dX5_setsClock_49 : decode cX5_setsClock 49 = .ok (.aload_n 0, 1) := by decide +kernel
theorem dX5_setsClock_50 : decode cX5_setsClock 50 = .ok (.getfield 7, 3) := by decide +kernel
theorem dX5_setsClock_53 : decode cX5_setsClock 53 = .ok (.iload_n 1, 1) := by decide +kernel
theorem dX5_setsClock_54 : decode cX5_setsClock 54 = .ok (.iload_n 2, 1) := by decide +kernel
theorem dX5_setsClock_55 : decode cX5_setsClock 55 = .ok (.invokestatic 20, 3) := by decide +kernel
theorem dX5_setsClock_58 : decode cX5_setsClock 58 = .ok (.bipush 6, 2) := by decide +kernel
theorem dX5_setsClock_60 : decode cX5_setsClock 60 = .ok (.iadd, 1) := by decide +kernel
theorem dX5_setsClock_61 : decode cX5_setsClock 61 = .ok (.iaload, 1) := by decide +kernel
theorem dX5_setsClock_62 : decode cX5_setsClock 62 = .ok (.if_icmp .ge 28, 3) := by decide +kernel
theorem dX5_setsClock_65 : decode cX5_setsClock 65 = .ok (.aload_n 0, 1) := by decide +kernel
theorem dX5_setsClock_66 : decode cX5_setsClock 66 = .ok (.getfield 7, 3) := by decide +kernel
theorem dX5_setsClock_69 : decode cX5_setsClock 69 = .ok (.iload_n 1, 1) := by decide +kernel
theorem dX5_setsClock_70 : decode cX5_setsClock 70 = .ok (.iload_n 2, 1) := by decide +kernel
theorem dX5_setsClock_71 : decode cX5_setsClock 71 = .ok (.iload 5, 2) := by decide +kernel
theorem dX5_setsClock_73 : decode cX5_setsClock 73 = .ok (.invokestatic 43, 3) := by decide +kernel
theorem dX5_setsClock_76 : decode cX5_setsClock 76 = .ok (.iconst 4, 1) := by decide +kernel
theorem dX5_setsClock_77 : decode cX5_setsClock 77 = .ok (.iadd, 1) := by decide +kernel
theorem dX5_setsClock_78 : decode cX5_setsClock 78 = .ok (.dup2, 1) := by decide +kernel
theorem dX5_setsClock_79 : decode cX5_setsClock 79 = .ok (.iaload, 1) := by decide +kernel
theorem dX5_setsClock_80 : decode cX5_setsClock 80 = .ok (.iload 4, 2) := by decide +kernel
theorem dX5_setsClock_82 : decode cX5_setsClock 82 = .ok (.iadd, 1) := by decide +kernel
theorem dX5_setsClock_83 : decode cX5_setsClock 83 = .ok (.iastore, 1) := by decide +kernel
theorem dX5_setsClock_84 : decode cX5_setsClock 84 = .ok (.iinc 5 1, 3) := by decide +kernel
theorem dX5_setsClock_87 : decode cX5_setsClock 87 = .ok (.goto (-40), 3) := by decide +kernel
theorem dX5_setsClock_90 : decode cX5_setsClock 90 = .ok (.return_, 1) := by decide +kernel
theorem dX5_follows_0 : decode cX5_follows 0 = .ok (.aload_n 0, 1) := by decide +kernel
theorem dX5_follows_1 : decode cX5_follows 1 = .ok (.getfield 7, 3) := by decide +kernel
theorem dX5_follows_4 : decode cX5_follows 4 = .ok (.iload_n 1, 1) := by decide +kernel
theorem dX5_follows_5 : decode cX5_follows 5 = .ok (.iload_n 2, 1) := by decide +kernel
theorem dX5_follows_6 : decode cX5_follows 6 = .ok (.invokestatic 20, 3) := by decide +kernel
theorem dX5_follows_9 : decode cX5_follows 9 = .ok (.iconst 1, 1) := by decide +kernel
theorem dX5_follows_10 : decode cX5_follows 10 = .ok (.iadd, 1) := by decide +kernel
theorem dX5_follows_11 : decode cX5_follows 11 = .ok (.iload_n 3, 1) := by decide +kernel
theorem dX5_follows_12 : decode cX5_follows 12 = .ok (.iastore, 1) := by decide +kernel
theorem dX5_follows_13 : decode cX5_follows 13 = .ok (.aload_n 0, 1) := by decide +kernel
theorem dX5_follows_14 : decode cX5_follows 14 = .ok (.getfield 7, 3) := by decide +kernel
theorem dX5_follows_17 : decode cX5_follows 17 = .ok (.iload_n 1, 1) := by decide +kernel
theorem dX5_follows_18 : decode cX5_follows 18 = .ok (.iload_n 2, 1) := by decide +kernel
theorem dX5_follows_19 : decode cX5_follows 19 = .ok (.invokestatic 20, 3) := by decide +kernel
theorem dX5_follows_22 : decode cX5_follows 22 = .ok (.iconst 2, 1) := by decide +kernel
theorem dX5_follows_23 : decode cX5_follows 23 = .ok (.iadd, 1) := by decide +kernel
theorem dX5_follows_24 : decode cX5_follows 24 = .ok (.aload_n 0, 1) := by decide +kernel
theorem dX5_follows_25 : decode cX5_follows 25 = .ok (.getfield 7, 3) := by decide +kernel
theorem dX5_follows_28 : decode cX5_follows 28 = .ok (.iload_n 1, 1) := by decide +kernel
theorem dX5_follows_29 : decode cX5_follows 29 = .ok (.iload_n 3, 1) := by decide +kernel
theorem dX5_follows_30 : decode cX5_follows 30 = .ok (.invokestatic 20, 3) := by decide +kernel
theorem dX5_follows_33 : decode cX5_follows 33 = .ok (.iconst 2, 1) := by decide +kernel
theorem dX5_follows_34 : decode cX5_follows 34 = .ok (.iadd, 1) := by decide +kernel
theorem dX5_follows_35 : decode cX5_follows 35 = .ok (.iaload, 1) := by decide +kernel
theorem dX5_follows_36 : decode cX5_follows 36 = .ok (.iconst 1, 1) := by decide +kernel
theorem dX5_follows_37 : decode cX5_follows 37 = .ok (.iadd, 1) := by decide +kernel
theorem dX5_follows_38 : decode cX5_follows 38 = .ok (.iastore, 1) := by decide +kernel
theorem dX5_follows_39 : decode cX5_follows 39 = .ok (.aload_n 0, 1) := by decide +kernel
theorem dX5_follows_40 : decode cX5_follows 40 = .ok (.getfield 7, 3) := by decide +kernel
theorem dX5_follows_43 : decode cX5_follows 43 = .ok (.iload_n 1, 1) := by decide +kernel
theorem dX5_follows_44 : decode cX5_follows 44 = .ok (.iload_n 2, 1) := by decide +kernel
theorem dX5_follows_45 : decode cX5_follows 45 = .ok (.invokestatic 20, 3) := by decide +kernel
theorem dX5_follows_48 : decode cX5_follows 48 = .ok (.iconst 3, 1) := by decide +kernel
theorem dX5_follows_49 : decode cX5_follows 49 = .ok (.iadd, 1) := by decide +kernel
theorem dX5_follows_50 : decode cX5_follows 50 = .ok (.aload_n 0, 1) := by decide +kernel
theorem dX5_follows_51 : decode cX5_follows 51 = .ok (.getfield 7, 3) := by decide +kernel
theorem dX5_follows_54 : decode cX5_follows 54 = .ok (.iload_n 1, 1) := by decide +kernel
theorem dX5_follows_55 : decode cX5_follows 55 = .ok (.bipush 12, 2) := by decide +kernel
theorem dX5_follows_57 : decode cX5_follows 57 = .ok (.iadd, 1) := by decide +kernel
theorem dX5_follows_58 : decode cX5_follows 58 = .ok (.iaload, 1) := by decide +kernel
theorem dX5_follows_59 : decode cX5_follows 59 = .ok (.iastore, 1) := by decide +kernel
theorem dX5_follows_60 : decode cX5_follows 60 = .ok (.aload_n 0, 1) := by decide +kernel
theorem dX5_follows_61 : decode cX5_follows 61 = .ok (.iload_n 1, 1) := by decide +kernel
theorem dX5_follows_62 : decode cX5_follows 62 = .ok (.iload_n 2, 1) := by decide +kernel
theorem dX5_follows_63 : decode cX5_follows 63 = .ok (.iload_n 3, 1) := by decide +kernel
theorem dX5_follows_64 : decode cX5_follows 64 = .ok (.invokevirtual 47, 3) := by decide +kernel
theorem dX5_follows_67 : decode cX5_follows 67 = .ok (.return_, 1) := by decide +kernel
theorem dX5_hears_0 : decode cX5_hears 0 = .ok (.iload_n 1, 1) := by decide +kernel
theorem dX5_hears_1 : decode cX5_hears 1 = .ok (.iload_n 2, 1) := by decide +kernel
theorem dX5_hears_2 : decode cX5_hears 2 = .ok (.invokestatic 20, 3) := by decide +kernel
theorem dX5_hears_5 : decode cX5_hears 5 = .ok (.istore 4, 2) := by decide +kernel
theorem dX5_hears_7 : decode cX5_hears 7 = .ok (.aload_n 0, 1) := by decide +kernel
theorem dX5_hears_8 : decode cX5_hears 8 = .ok (.getfield 7, 3) := by decide +kernel
theorem dX5_hears_11 : decode cX5_hears 11 = .ok (.iload_n 1, 1) := by decide +kernel
theorem dX5_hears_12 : decode cX5_hears 12 = .ok (.iload_n 3, 1) := by decide +kernel
theorem dX5_hears_13 : decode cX5_hears 13 = .ok (.invokestatic 20, 3) := by decide +kernel
theorem dX5_hears_16 : decode cX5_hears 16 = .ok (.iconst 2, 1) := by decide +kernel
theorem dX5_hears_17 : decode cX5_hears 17 = .ok (.iadd, 1) := by decide +kernel
theorem dX5_hears_18 : decode cX5_hears 18 = .ok (.iaload, 1) := by decide +kernel
theorem dX5_hears_19 : decode cX5_hears 19 = .ok (.istore 5, 2) := by decide +kernel
theorem dX5_hears_21 : decode cX5_hears 21 = .ok (.iload 5, 2) := by decide +kernel
theorem dX5_hears_23 : decode cX5_hears 23 = .ok (.iconst (-1), 1) := by decide +kernel
theorem dX5_hears_24 : decode cX5_hears 24 = .ok (.if_icmp .eq 14, 3) := by decide +kernel
theorem dX5_hears_27 : decode cX5_hears 27 = .ok (.iload 5, 2) := by decide +kernel
theorem dX5_hears_29 : decode cX5_hears 29 = .ok (.bipush 9, 2) := by decide +kernel
theorem dX5_hears_31 : decode cX5_hears 31 = .ok (.if_icmp .ge 7, 3) := by decide +kernel
theorem dX5_hears_34 : decode cX5_hears 34 = .ok (.iconst 1, 1) := by decide +kernel
theorem dX5_hears_35 : decode cX5_hears 35 = .ok (.goto 4, 3) := by decide +kernel
theorem dX5_hears_38 : decode cX5_hears 38 = .ok (.iconst 0, 1) := by decide +kernel
theorem dX5_hears_39 : decode cX5_hears 39 = .ok (.istore 6, 2) := by decide +kernel
theorem dX5_hears_41 : decode cX5_hears 41 = .ok (.aload_n 0, 1) := by decide +kernel
theorem dX5_hears_42 : decode cX5_hears 42 = .ok (.getfield 7, 3) := by decide +kernel
theorem dX5_hears_45 : decode cX5_hears 45 = .ok (.iload 4, 2) := by decide +kernel
theorem dX5_hears_47 : decode cX5_hears 47 = .ok (.iconst 1, 1) := by decide +kernel
theorem dX5_hears_48 : decode cX5_hears 48 = .ok (.iadd, 1) := by decide +kernel
theorem dX5_hears_49 : decode cX5_hears 49 = .ok (.iaload, 1) := by decide +kernel
theorem dX5_hears_50 : decode cX5_hears 50 = .ok (.iload_n 3, 1) := by decide +kernel
theorem dX5_hears_51 : decode cX5_hears 51 = .ok (.if_icmp .ne 27, 3) := by decide +kernel
theorem dX5_hears_54 : decode cX5_hears 54 = .ok (.iload 6, 2) := by decide +kernel
theorem dX5_hears_56 : decode cX5_hears 56 = .ok (.ifCond .eq 13, 3) := by decide +kernel
theorem dX5_hears_59 : decode cX5_hears 59 = .ok (.aload_n 0, 1) := by decide +kernel
theorem dX5_hears_60 : decode cX5_hears 60 = .ok (.iload_n 1, 1) := by decide +kernel
theorem dX5_hears_61 : decode cX5_hears 61 = .ok (.iload_n 2, 1) := by decide +kernel
theorem dX5_hears_62 : decode cX5_hears 62 = .ok (.iload_n 3, 1) := by decide +kernel
theorem dX5_hears_63 : decode cX5_hears 63 = .ok (.invokevirtual 51, 3) := by decide +kernel
theorem dX5_hears_66 : decode cX5_hears 66 = .ok (.goto 69, 3) := by decide +kernel
theorem dX5_hears_69 : decode cX5_hears 69 = .ok (.aload_n 0, 1) := by decide +kernel
theorem dX5_hears_70 : decode cX5_hears 70 = .ok (.iload_n 1, 1) := by decide +kernel
theorem dX5_hears_71 : decode cX5_hears 71 = .ok (.iload_n 2, 1) := by decide +kernel
theorem dX5_hears_72 : decode cX5_hears 72 = .ok (.invokevirtual 54, 3) := by decide +kernel
theorem dX5_hears_75 : decode cX5_hears 75 = .ok (.goto 60, 3) := by decide +kernel
theorem dX5_hears_78 : decode cX5_hears 78 = .ok (.iload 6, 2) := by decide +kernel
theorem dX5_hears_80 : decode cX5_hears 80 = .ok (.ifCond .eq 55, 3) := by decide +kernel
theorem dX5_hears_83 : decode cX5_hears 83 = .ok (.aload_n 0, 1) := by decide +kernel
theorem dX5_hears_84 : decode cX5_hears 84 = .ok (.getfield 7, 3) := by decide +kernel
theorem dX5_hears_87 : decode cX5_hears 87 = .ok (.iload_n 1, 1) := by decide +kernel
theorem dX5_hears_88 : decode cX5_hears 88 = .ok (.iload_n 3, 1) := by decide +kernel
theorem dX5_hears_89 : decode cX5_hears 89 = .ok (.invokestatic 20, 3) := by decide +kernel
theorem dX5_hears_92 : decode cX5_hears 92 = .ok (.iconst 1, 1) := by decide +kernel
theorem dX5_hears_93 : decode cX5_hears 93 = .ok (.iadd, 1) := by decide +kernel
theorem dX5_hears_94 : decode cX5_hears 94 = .ok (.iaload, 1) := by decide +kernel
theorem dX5_hears_95 : decode cX5_hears 95 = .ok (.iload_n 2, 1) := by decide +kernel
theorem dX5_hears_96 : decode cX5_hears 96 = .ok (.if_icmp .eq 39, 3) := by decide +kernel
theorem dX5_hears_99 : decode cX5_hears 99 = .ok (.aload_n 0, 1) := by decide +kernel
theorem dX5_hears_100 : decode cX5_hears 100 = .ok (.getfield 7, 3) := by decide +kernel
theorem dX5_hears_103 : decode cX5_hears 103 = .ok (.iload 4, 2) := by decide +kernel
theorem dX5_hears_105 : decode cX5_hears 105 = .ok (.iconst 1, 1) := by decide +kernel
theorem dX5_hears_106 : decode cX5_hears 106 = .ok (.iadd, 1) := by decide +kernel
theorem dX5_hears_107 : decode cX5_hears 107 = .ok (.iaload, 1) := by decide +kernel
theorem dX5_hears_108 : decode cX5_hears 108 = .ok (.iconst (-1), 1) := by decide +kernel
theorem dX5_hears_109 : decode cX5_hears 109 = .ok (.if_icmp .eq 19, 3) := by decide +kernel
theorem dX5_hears_112 : decode cX5_hears 112 = .ok (.aload_n 0, 1) := by decide +kernel
theorem dX5_hears_113 : decode cX5_hears 113 = .ok (.getfield 7, 3) := by decide +kernel
theorem dX5_hears_116 : decode cX5_hears 116 = .ok (.iload 4, 2) := by decide +kernel
theorem dX5_hears_118 : decode cX5_hears 118 = .ok (.iconst 2, 1) := by decide +kernel
theorem dX5_hears_119 : decode cX5_hears 119 = .ok (.iadd, 1) := by decide +kernel
theorem dX5_hears_120 : decode cX5_hears 120 = .ok (.iaload, 1) := by decide +kernel
theorem dX5_hears_121 : decode cX5_hears 121 = .ok (.iload 5, 2) := by decide +kernel
theorem dX5_hears_123 : decode cX5_hears 123 = .ok (.iconst 1, 1) := by decide +kernel
theorem dX5_hears_124 : decode cX5_hears 124 = .ok (.iadd, 1) := by decide +kernel
theorem dX5_hears_125 : decode cX5_hears 125 = .ok (.if_icmp .le 10, 3) := by decide +kernel
theorem dX5_hears_128 : decode cX5_hears 128 = .ok (.aload_n 0, 1) := by decide +kernel
theorem dX5_hears_129 : decode cX5_hears 129 = .ok (.iload_n 1, 1) := by decide +kernel
theorem dX5_hears_130 : decode cX5_hears 130 = .ok (.iload_n 2, 1) := by decide +kernel
theorem dX5_hears_131 : decode cX5_hears 131 = .ok (.iload_n 3, 1) := by decide +kernel
theorem dX5_hears_132 : decode cX5_hears 132 = .ok (.invokevirtual 51, 3) := by decide +kernel
theorem dX5_hears_135 : decode cX5_hears 135 = .ok (.return_, 1) := by decide +kernel
theorem dX5_areSame_0 : decode cX5_areSame 0 = .ok (.aload_n 0, 1) := by decide +kernel
theorem dX5_areSame_1 : decode cX5_areSame 1 = .ok (.getfield 7, 3) := by decide +kernel
theorem dX5_areSame_4 : decode cX5_areSame 4 = .ok (.iload_n 1, 1) := by decide +kernel
theorem dX5_areSame_5 : decode cX5_areSame 5 = .ok (.iaload, 1) := by decide +kernel
theorem dX5_areSame_6 : decode cX5_areSame 6 = .ok (.aload_n 0, 1) := by decide +kernel
theorem dX5_areSame_7 : decode cX5_areSame 7 = .ok (.getfield 7, 3) := by decide +kernel
theorem dX5_areSame_10 : decode cX5_areSame 10 = .ok (.iload_n 2, 1) := by decide +kernel
theorem dX5_areSame_11 : decode cX5_areSame 11 = .ok (.iaload, 1) := by decide +kernel
theorem dX5_areSame_12 : decode cX5_areSame 12 = .ok (.if_icmp .ne 26, 3) := by decide +kernel
theorem dX5_areSame_15 : decode cX5_areSame 15 = .ok (.aload_n 0, 1) := by decide +kernel
theorem dX5_areSame_16 : decode cX5_areSame 16 = .ok (.getfield 7, 3) := by decide +kernel
theorem dX5_areSame_19 : decode cX5_areSame 19 = .ok (.iload_n 1, 1) := by decide +kernel
theorem dX5_areSame_20 : decode cX5_areSame 20 = .ok (.iconst 1, 1) := by decide +kernel
theorem dX5_areSame_21 : decode cX5_areSame 21 = .ok (.iadd, 1) := by decide +kernel
theorem dX5_areSame_22 : decode cX5_areSame 22 = .ok (.iaload, 1) := by decide +kernel
theorem dX5_areSame_23 : decode cX5_areSame 23 = .ok (.aload_n 0, 1) := by decide +kernel
theorem dX5_areSame_24 : decode cX5_areSame 24 = .ok (.getfield 7, 3) := by decide +kernel
theorem dX5_areSame_27 : decode cX5_areSame 27 = .ok (.iload_n 2, 1) := by decide +kernel
theorem dX5_areSame_28 : decode cX5_areSame 28 = .ok (.iconst 1, 1) := by decide +kernel
theorem dX5_areSame_29 : decode cX5_areSame 29 = .ok (.iadd, 1) := by decide +kernel
theorem dX5_areSame_30 : decode cX5_areSame 30 = .ok (.iaload, 1) := by decide +kernel
theorem dX5_areSame_31 : decode cX5_areSame 31 = .ok (.if_icmp .ne 7, 3) := by decide +kernel
theorem dX5_areSame_34 : decode cX5_areSame 34 = .ok (.iconst 1, 1) := by decide +kernel
theorem dX5_areSame_35 : decode cX5_areSame 35 = .ok (.goto 4, 3) := by decide +kernel
theorem dX5_areSame_38 : decode cX5_areSame 38 = .ok (.iconst 0, 1) := by decide +kernel
theorem dX5_areSame_39 : decode cX5_areSame 39 = .ok (.ireturn, 1) := by decide +kernel
theorem dX5_isCollected_0 : decode cX5_isCollected 0 = .ok (.iconst 0, 1) := by decide +kernel
theorem dX5_isCollected_1 : decode cX5_isCollected 1 = .ok (.istore_n 3, 1) := by decide +kernel
theorem dX5_isCollected_2 : decode cX5_isCollected 2 = .ok (.iconst 0, 1) := by decide +kernel
theorem dX5_isCollected_3 : decode cX5_isCollected 3 = .ok (.istore 4, 2) := by decide +kernel
theorem dX5_isCollected_5 : decode cX5_isCollected 5 = .ok (.iload 4, 2) := by decide +kernel
theorem dX5_isCollected_7 : decode cX5_isCollected 7 = .ok (.aload_n 0, 1) := by decide +kernel
theorem dX5_isCollected_8 : decode cX5_isCollected 8 = .ok (.getfield 7, 3) := by decide +kernel
theorem dX5_isCollected_11 : decode cX5_isCollected 11 = .ok (.iload_n 1, 1) := by decide +kernel
theorem dX5_isCollected_12 : decode cX5_isCollected 12 = .ok (.bipush 19, 2) := by decide +kernel
theorem dX5_isCollected_14 : decode cX5_isCollected 14 = .ok (.iadd, 1) := by decide +kernel
theorem dX5_isCollected_15 : decode cX5_isCollected 15 = .ok (.iaload, 1) := by decide +kernel
theorem dX5_isCollected_16 : decode cX5_isCollected 16 = .ok (.if_icmp .ge 33, 3) := by decide +kernel
theorem dX5_isCollected_19 : decode cX5_isCollected 19 = .ok (.iload_n 3, 1) := by decide +kernel
theorem dX5_isCollected_20 : decode cX5_isCollected 20 = .ok (.ifCond .ne 17, 3) := by decide +kernel
theorem dX5_isCollected_23 : decode cX5_isCollected 23 = .ok (.aload_n 0, 1) := by decide +kernel
theorem dX5_isCollected_24 : decode cX5_isCollected 24 = .ok (.iload_n 2, 1) := by decide +kernel
theorem dX5_isCollected_25 : decode cX5_isCollected 25 = .ok (.iload_n 1, 1) := by decide +kernel
theorem dX5_isCollected_26 : decode cX5_isCollected 26 = .ok (.iload 4, 2) := by decide +kernel
theorem dX5_isCollected_28 : decode cX5_isCollected 28 = .ok (.invokestatic 57, 3) := by decide +kernel
theorem dX5_isCollected_31 : decode cX5_isCollected 31 = .ok (.invokevirtual 60, 3) := by decide +kernel
theorem dX5_isCollected_34 : decode cX5_isCollected 34 = .ok (.ifCond .eq 7, 3) := by decide +kernel
theorem dX5_isCollected_37 : decode cX5_isCollected 37 = .ok (.iconst 1, 1) := by decide +kernel
theorem dX5_isCollected_38 : decode cX5_isCollected 38 = .ok (.goto 4, 3) := by decide +kernel
theorem dX5_isCollected_41 : decode cX5_isCollected 41 = .ok (.iconst 0, 1) := by decide +kernel
theorem dX5_isCollected_42 : decode cX5_isCollected 42 = .ok (.istore_n 3, 1) := by decide +kernel
theorem dX5_isCollected_43 : decode cX5_isCollected 43 = .ok (.iinc 4 1, 3) := by decide +kernel
theorem dX5_isCollected_46 : decode cX5_isCollected 46 = .ok (.goto (-41), 3) := by decide +kernel
theorem dX5_isCollected_49 : decode cX5_isCollected 49 = .ok (.iload_n 3, 1) := by decide +kernel
theorem dX5_isCollected_50 : decode cX5_isCollected 50 = .ok (.ireturn, 1) := by decide +kernel
theorem dX5_isStored_0 : decode cX5_isStored 0 = .ok (.iconst 0, 1) := by decide +kernel
theorem dX5_isStored_1 : decode cX5_isStored 1 = .ok (.istore 4, 2) := by decide +kernel
theorem dX5_isStored_3 : decode cX5_isStored 3 = .ok (.iconst 0, 1) := by decide +kernel
theorem dX5_isStored_4 : decode cX5_isStored 4 = .ok (.istore 5, 2) := by decide +kernel
theorem dX5_isStored_6 : decode cX5_isStored 6 = .ok (.iload 5, 2) := by decide +kernel
theorem dX5_isStored_8 : decode cX5_isStored 8 = .ok (.aload_n 0, 1) := by decide +kernel
theorem dX5_isStored_9 : decode cX5_isStored 9 = .ok (.getfield 7, 3) := by decide +kernel
theorem dX5_isStored_12 : decode cX5_isStored 12 = .ok (.iload_n 1, 1) := by decide +kernel
theorem dX5_isStored_13 : decode cX5_isStored 13 = .ok (.iload_n 2, 1) := by decide +kernel
theorem dX5_isStored_14 : decode cX5_isStored 14 = .ok (.invokestatic 20, 3) := by decide +kernel
theorem dX5_isStored_17 : decode cX5_isStored 17 = .ok (.bipush 6, 2) := by decide +kernel
theorem dX5_isStored_19 : decode cX5_isStored 19 = .ok (.iadd, 1) := by decide +kernel
theorem dX5_isStored_20 : decode cX5_isStored 20 = .ok (.iaload, 1) := by decide +kernel
theorem dX5_isStored_21 : decode cX5_isStored 21 = .ok (.if_icmp .ge 36, 3) := by decide +kernel
theorem dX5_isStored_24 : decode cX5_isStored 24 = .ok (.iload 4, 2) := by decide +kernel
theorem dX5_isStored_26 : decode cX5_isStored 26 = .ok (.ifCond .ne 18, 3) := by decide +kernel
theorem dX5_isStored_29 : decode cX5_isStored 29 = .ok (.aload_n 0, 1) := by decide +kernel
theorem dX5_isStored_30 : decode cX5_isStored 30 = .ok (.iload_n 3, 1) := by decide +kernel
theorem dX5_isStored_31 : decode cX5_isStored 31 = .ok (.iload_n 1, 1) := by decide +kernel
theorem dX5_isStored_32 : decode cX5_isStored 32 = .ok (.iload_n 2, 1) := by decide +kernel
theorem dX5_isStored_33 : decode cX5_isStored 33 = .ok (.iload 5, 2) := by decide +kernel
theorem dX5_isStored_35 : decode cX5_isStored 35 = .ok (.invokestatic 43, 3) := by decide +kernel
theorem dX5_isStored_38 : decode cX5_isStored 38 = .ok (.invokevirtual 60, 3) := by decide +kernel
theorem dX5_isStored_41 : decode cX5_isStored 41 = .ok (.ifCond .eq 7, 3) := by decide +kernel
theorem dX5_isStored_44 : decode cX5_isStored 44 = .ok (.iconst 1, 1) := by decide +kernel
theorem dX5_isStored_45 : decode cX5_isStored 45 = .ok (.goto 4, 3) := by decide +kernel
theorem dX5_isStored_48 : decode cX5_isStored 48 = .ok (.iconst 0, 1) := by decide +kernel
theorem dX5_isStored_49 : decode cX5_isStored 49 = .ok (.istore 4, 2) := by decide +kernel
theorem dX5_isStored_51 : decode cX5_isStored 51 = .ok (.iinc 5 1, 3) := by decide +kernel
theorem dX5_isStored_54 : decode cX5_isStored 54 = .ok (.goto (-48), 3) := by decide +kernel
theorem dX5_isStored_57 : decode cX5_isStored 57 = .ok (.iload 4, 2) := by decide +kernel
theorem dX5_isStored_59 : decode cX5_isStored 59 = .ok (.ireturn, 1) := by decide +kernel
theorem dX5_writes_0 : decode cX5_writes 0 = .ok (.iconst 0, 1) := by decide +kernel
theorem dX5_writes_1 : decode cX5_writes 1 = .ok (.istore 4, 2) := by decide +kernel
theorem dX5_writes_3 : decode cX5_writes 3 = .ok (.iload 4, 2) := by decide +kernel
theorem dX5_writes_5 : decode cX5_writes 5 = .ok (.iconst 5, 1) := by decide +kernel
theorem dX5_writes_6 : decode cX5_writes 6 = .ok (.if_icmp .ge 27, 3) := by decide +kernel
theorem dX5_writes_9 : decode cX5_writes 9 = .ok (.aload_n 0, 1) := by decide +kernel
theorem dX5_writes_10 : decode cX5_writes 10 = .ok (.getfield 7, 3) := by decide +kernel
theorem dX5_writes_13 : decode cX5_writes 13 = .ok (.iload_n 2, 1) := by decide +kernel
theorem dX5_writes_14 : decode cX5_writes 14 = .ok (.iload 4, 2) := by decide +kernel
theorem dX5_writes_16 : decode cX5_writes 16 = .ok (.iadd, 1) := by decide +kernel
theorem dX5_writes_17 : decode cX5_writes 17 = .ok (.aload_n 0, 1) := by decide +kernel
theorem dX5_writes_18 : decode cX5_writes 18 = .ok (.getfield 7, 3) := by decide +kernel
theorem dX5_writes_21 : decode cX5_writes 21 = .ok (.iload_n 1, 1) := by decide +kernel
theorem dX5_writes_22 : decode cX5_writes 22 = .ok (.iload 4, 2) := by decide +kernel
theorem dX5_writes_24 : decode cX5_writes 24 = .ok (.iadd, 1) := by decide +kernel
theorem dX5_writes_25 : decode cX5_writes 25 = .ok (.iaload, 1) := by decide +kernel
theorem dX5_writes_26 : decode cX5_writes 26 = .ok (.iastore, 1) := by decide +kernel
theorem dX5_writes_27 : decode cX5_writes 27 = .ok (.iinc 4 1, 3) := by decide +kernel
theorem dX5_writes_30 : decode cX5_writes 30 = .ok (.goto (-27), 3) := by decide +kernel
theorem dX5_writes_33 : decode cX5_writes 33 = .ok (.aload_n 0, 1) := by decide +kernel
theorem dX5_writes_34 : decode cX5_writes 34 = .ok (.getfield 7, 3) := by decide +kernel
theorem dX5_writes_37 : decode cX5_writes 37 = .ok (.iload_n 2, 1) := by decide +kernel
theorem dX5_writes_38 : decode cX5_writes 38 = .ok (.iconst 4, 1) := by decide +kernel
theorem dX5_writes_39 : decode cX5_writes 39 = .ok (.iadd, 1) := by decide +kernel
theorem dX5_writes_40 : decode cX5_writes 40 = .ok (.dup2, 1) := by decide +kernel
theorem dX5_writes_41 : decode cX5_writes 41 = .ok (.iaload, 1) := by decide +kernel
theorem dX5_writes_42 : decode cX5_writes 42 = .ok (.iload_n 3, 1) := by decide +kernel
theorem dX5_writes_43 : decode cX5_writes 43 = .ok (.iadd, 1) := by decide +kernel
theorem dX5_writes_44 : decode cX5_writes 44 = .ok (.iastore, 1) := by decide +kernel
theorem dX5_writes_45 : decode cX5_writes 45 = .ok (.return_, 1) := by decide +kernel
theorem dX5_hands_0 : decode cX5_hands 0 = .ok (.iload_n 3, 1) := by decide +kernel
theorem dX5_hands_1 : decode cX5_hands 1 = .ok (.ifCond .ne 63, 3) := by decide +kernel
theorem dX5_hands_4 : decode cX5_hands 4 = .ok (.aload_n 0, 1) := by decide +kernel
theorem dX5_hands_5 : decode cX5_hands 5 = .ok (.iload_n 1, 1) := by decide +kernel
theorem dX5_hands_6 : decode cX5_hands 6 = .ok (.iload_n 2, 1) := by decide +kernel
theorem dX5_hands_7 : decode cX5_hands 7 = .ok (.invokevirtual 63, 3) := by decide +kernel
theorem dX5_hands_10 : decode cX5_hands 10 = .ok (.ifCond .eq 19, 3) := by decide +kernel
theorem dX5_hands_13 : decode cX5_hands 13 = .ok (.aload_n 0, 1) := by decide +kernel
theorem dX5_hands_14 : decode cX5_hands 14 = .ok (.getfield 7, 3) := by decide +kernel
theorem dX5_hands_17 : decode cX5_hands 17 = .ok (.iload_n 1, 1) := by decide +kernel
theorem dX5_hands_18 : decode cX5_hands 18 = .ok (.bipush 15, 2) := by decide +kernel
theorem dX5_hands_20 : decode cX5_hands 20 = .ok (.iadd, 1) := by decide +kernel
theorem dX5_hands_21 : decode cX5_hands 21 = .ok (.dup2, 1) := by decide +kernel
theorem dX5_hands_22 : decode cX5_hands 22 = .ok (.iaload, 1) := by decide +kernel
theorem dX5_hands_23 : decode cX5_hands 23 = .ok (.iconst 1, 1) := by decide +kernel
theorem dX5_hands_24 : decode cX5_hands 24 = .ok (.iadd, 1) := by decide +kernel
theorem dX5_hands_25 : decode cX5_hands 25 = .ok (.iastore, 1) := by decide +kernel
theorem dX5_hands_26 : decode cX5_hands 26 = .ok (.goto 36, 3) := by decide +kernel
theorem dX5_hands_29 : decode cX5_hands 29 = .ok (.aload_n 0, 1) := by decide +kernel
theorem dX5_hands_30 : decode cX5_hands 30 = .ok (.iload_n 2, 1) := by decide +kernel
theorem dX5_hands_31 : decode cX5_hands 31 = .ok (.iload_n 1, 1) := by decide +kernel
theorem dX5_hands_32 : decode cX5_hands 32 = .ok (.aload_n 0, 1) := by decide +kernel
theorem dX5_hands_33 : decode cX5_hands 33 = .ok (.getfield 7, 3) := by decide +kernel
theorem dX5_hands_36 : decode cX5_hands 36 = .ok (.iload_n 1, 1) := by decide +kernel
theorem dX5_hands_37 : decode cX5_hands 37 = .ok (.bipush 19, 2) := by decide +kernel
theorem dX5_hands_39 : decode cX5_hands 39 = .ok (.iadd, 1) := by decide +kernel
theorem dX5_hands_40 : decode cX5_hands 40 = .ok (.iaload, 1) := by decide +kernel
theorem dX5_hands_41 : decode cX5_hands 41 = .ok (.invokestatic 57, 3) := by decide +kernel
theorem dX5_hands_44 : decode cX5_hands 44 = .ok (.iload 4, 2) := by decide +kernel
theorem dX5_hands_46 : decode cX5_hands 46 = .ok (.invokevirtual 66, 3) := by decide +kernel
theorem dX5_hands_49 : decode cX5_hands 49 = .ok (.aload_n 0, 1) := by decide +kernel
theorem dX5_hands_50 : decode cX5_hands 50 = .ok (.getfield 7, 3) := by decide +kernel
theorem dX5_hands_53 : decode cX5_hands 53 = .ok (.iload_n 1, 1) := by decide +kernel
theorem dX5_hands_54 : decode cX5_hands 54 = .ok (.bipush 19, 2) := by decide +kernel
theorem dX5_hands_56 : decode cX5_hands 56 = .ok (.iadd, 1) := by decide +kernel
theorem dX5_hands_57 : decode cX5_hands 57 = .ok (.dup2, 1) := by decide +kernel
theorem dX5_hands_58 : decode cX5_hands 58 = .ok (.iaload, 1) := by decide +kernel
theorem dX5_hands_59 : decode cX5_hands 59 = .ok (.iconst 1, 1) := by decide +kernel
theorem dX5_hands_60 : decode cX5_hands 60 = .ok (.iadd, 1) := by decide +kernel
theorem dX5_hands_61 : decode cX5_hands 61 = .ok (.iastore, 1) := by decide +kernel
theorem dX5_hands_62 : decode cX5_hands 62 = .ok (.iconst 1, 1) := by decide +kernel
theorem dX5_hands_63 : decode cX5_hands 63 = .ok (.ireturn, 1) := by decide +kernel
theorem dX5_hands_64 : decode cX5_hands 64 = .ok (.aload_n 0, 1) := by decide +kernel
theorem dX5_hands_65 : decode cX5_hands 65 = .ok (.iload_n 1, 1) := by decide +kernel
theorem dX5_hands_66 : decode cX5_hands 66 = .ok (.iload_n 3, 1) := by decide +kernel
theorem dX5_hands_67 : decode cX5_hands 67 = .ok (.iload_n 2, 1) := by decide +kernel
theorem dX5_hands_68 : decode cX5_hands 68 = .ok (.invokevirtual 69, 3) := by decide +kernel
theorem dX5_hands_71 : decode cX5_hands 71 = .ok (.ifCond .eq 18, 3) := by decide +kernel
theorem dX5_hands_74 : decode cX5_hands 74 = .ok (.aload_n 0, 1) := by decide +kernel
theorem dX5_hands_75 : decode cX5_hands 75 = .ok (.getfield 7, 3) := by decide +kernel
theorem dX5_hands_78 : decode cX5_hands 78 = .ok (.iload_n 1, 1) := by decide +kernel
theorem dX5_hands_79 : decode cX5_hands 79 = .ok (.bipush 15, 2) := by decide +kernel
theorem dX5_hands_81 : decode cX5_hands 81 = .ok (.iadd, 1) := by decide +kernel
theorem dX5_hands_82 : decode cX5_hands 82 = .ok (.dup2, 1) := by decide +kernel
theorem dX5_hands_83 : decode cX5_hands 83 = .ok (.iaload, 1) := by decide +kernel
theorem dX5_hands_84 : decode cX5_hands 84 = .ok (.iconst 1, 1) := by decide +kernel
theorem dX5_hands_85 : decode cX5_hands 85 = .ok (.iadd, 1) := by decide +kernel
theorem dX5_hands_86 : decode cX5_hands 86 = .ok (.iastore, 1) := by decide +kernel
theorem dX5_hands_87 : decode cX5_hands 87 = .ok (.iconst 1, 1) := by decide +kernel
theorem dX5_hands_88 : decode cX5_hands 88 = .ok (.ireturn, 1) := by decide +kernel
theorem dX5_hands_89 : decode cX5_hands 89 = .ok (.aload_n 0, 1) := by decide +kernel
theorem dX5_hands_90 : decode cX5_hands 90 = .ok (.getfield 7, 3) := by decide +kernel
theorem dX5_hands_93 : decode cX5_hands 93 = .ok (.iload_n 1, 1) := by decide +kernel
theorem dX5_hands_94 : decode cX5_hands 94 = .ok (.iload_n 3, 1) := by decide +kernel
theorem dX5_hands_95 : decode cX5_hands 95 = .ok (.invokestatic 20, 3) := by decide +kernel
theorem dX5_hands_98 : decode cX5_hands 98 = .ok (.bipush 6, 2) := by decide +kernel
theorem dX5_hands_100 : decode cX5_hands 100 = .ok (.iadd, 1) := by decide +kernel
theorem dX5_hands_101 : decode cX5_hands 101 = .ok (.iaload, 1) := by decide +kernel
theorem dX5_hands_102 : decode cX5_hands 102 = .ok (.bipush 6, 2) := by decide +kernel
theorem dX5_hands_104 : decode cX5_hands 104 = .ok (.if_icmp .ne 18, 3) := by decide +kernel
theorem dX5_hands_107 : decode cX5_hands 107 = .ok (.aload_n 0, 1) := by decide +kernel
theorem dX5_hands_108 : decode cX5_hands 108 = .ok (.getfield 7, 3) := by decide +kernel
theorem dX5_hands_111 : decode cX5_hands 111 = .ok (.iload_n 1, 1) := by decide +kernel
theorem dX5_hands_112 : decode cX5_hands 112 = .ok (.bipush 16, 2) := by decide +kernel
theorem dX5_hands_114 : decode cX5_hands 114 = .ok (.iadd, 1) := by decide +kernel
theorem dX5_hands_115 : decode cX5_hands 115 = .ok (.dup2, 1) := by decide +kernel
theorem dX5_hands_116 : decode cX5_hands 116 = .ok (.iaload, 1) := by decide +kernel
theorem dX5_hands_117 : decode cX5_hands 117 = .ok (.iconst 1, 1) := by decide +kernel
theorem dX5_hands_118 : decode cX5_hands 118 = .ok (.iadd, 1) := by decide +kernel
theorem dX5_hands_119 : decode cX5_hands 119 = .ok (.iastore, 1) := by decide +kernel
theorem dX5_hands_120 : decode cX5_hands 120 = .ok (.iconst 0, 1) := by decide +kernel
theorem dX5_hands_121 : decode cX5_hands 121 = .ok (.ireturn, 1) := by decide +kernel
theorem dX5_hands_122 : decode cX5_hands 122 = .ok (.aload_n 0, 1) := by decide +kernel
theorem dX5_hands_123 : decode cX5_hands 123 = .ok (.iload_n 2, 1) := by decide +kernel
theorem dX5_hands_124 : decode cX5_hands 124 = .ok (.iload_n 1, 1) := by decide +kernel
theorem dX5_hands_125 : decode cX5_hands 125 = .ok (.iload_n 3, 1) := by decide +kernel
theorem dX5_hands_126 : decode cX5_hands 126 = .ok (.aload_n 0, 1) := by decide +kernel
theorem dX5_hands_127 : decode cX5_hands 127 = .ok (.getfield 7, 3) := by decide +kernel
theorem dX5_hands_130 : decode cX5_hands 130 = .ok (.iload_n 1, 1) := by decide +kernel
theorem dX5_hands_131 : decode cX5_hands 131 = .ok (.iload_n 3, 1) := by decide +kernel
theorem dX5_hands_132 : decode cX5_hands 132 = .ok (.invokestatic 20, 3) := by decide +kernel
theorem dX5_hands_135 : decode cX5_hands 135 = .ok (.bipush 6, 2) := by decide +kernel
theorem dX5_hands_137 : decode cX5_hands 137 = .ok (.iadd, 1) := by decide +kernel
theorem dX5_hands_138 : decode cX5_hands 138 = .ok (.iaload, 1) := by decide +kernel
theorem dX5_hands_139 : decode cX5_hands 139 = .ok (.invokestatic 43, 3) := by decide +kernel
theorem dX5_hands_142 : decode cX5_hands 142 = .ok (.iload 4, 2) := by decide +kernel
theorem dX5_hands_144 : decode cX5_hands 144 = .ok (.invokevirtual 66, 3) := by decide +kernel
theorem dX5_hands_147 : decode cX5_hands 147 = .ok (.aload_n 0, 1) := by decide +kernel
theorem dX5_hands_148 : decode cX5_hands 148 = .ok (.getfield 7, 3) := by decide +kernel
theorem dX5_hands_151 : decode cX5_hands 151 = .ok (.iload_n 1, 1) := by decide +kernel
theorem dX5_hands_152 : decode cX5_hands 152 = .ok (.iload_n 3, 1) := by decide +kernel
theorem dX5_hands_153 : decode cX5_hands 153 = .ok (.invokestatic 20, 3) := by decide +kernel
theorem dX5_hands_156 : decode cX5_hands 156 = .ok (.bipush 6, 2) := by decide +kernel
theorem dX5_hands_158 : decode cX5_hands 158 = .ok (.iadd, 1) := by decide +kernel
theorem dX5_hands_159 : decode cX5_hands 159 = .ok (.dup2, 1) := by decide +kernel
theorem dX5_hands_160 : decode cX5_hands 160 = .ok (.iaload, 1) := by decide +kernel
theorem dX5_hands_161 : decode cX5_hands 161 = .ok (.iconst 1, 1) := by decide +kernel
theorem dX5_hands_162 : decode cX5_hands 162 = .ok (.iadd, 1) := by decide +kernel
theorem dX5_hands_163 : decode cX5_hands 163 = .ok (.iastore, 1) := by decide +kernel
theorem dX5_hands_164 : decode cX5_hands 164 = .ok (.iconst 1, 1) := by decide +kernel
theorem dX5_hands_165 : decode cX5_hands 165 = .ok (.ireturn, 1) := by decide +kernel
theorem dX5_removesFirst_0 : decode cX5_removesFirst 0 = .ok (.aload_n 0, 1) := by decide +kernel
theorem dX5_removesFirst_1 : decode cX5_removesFirst 1 = .ok (.getfield 7, 3) := by decide +kernel
theorem dX5_removesFirst_4 : decode cX5_removesFirst 4 = .ok (.iload_n 1, 1) := by decide +kernel
theorem dX5_removesFirst_5 : decode cX5_removesFirst 5 = .ok (.iload_n 2, 1) := by decide +kernel
theorem dX5_removesFirst_6 : decode cX5_removesFirst 6 = .ok (.invokestatic 20, 3) := by decide +kernel
theorem dX5_removesFirst_9 : decode cX5_removesFirst 9 = .ok (.bipush 6, 2) := by decide +kernel
theorem dX5_removesFirst_11 : decode cX5_removesFirst 11 = .ok (.iadd, 1) := by decide +kernel
theorem dX5_removesFirst_12 : decode cX5_removesFirst 12 = .ok (.dup2, 1) := by decide +kernel
theorem dX5_removesFirst_13 : decode cX5_removesFirst 13 = .ok (.iaload, 1) := by decide +kernel
theorem dX5_removesFirst_14 : decode cX5_removesFirst 14 = .ok (.iconst 1, 1) := by decide +kernel
theorem dX5_removesFirst_15 : decode cX5_removesFirst 15 = .ok (.isub, 1) := by decide +kernel
theorem dX5_removesFirst_16 : decode cX5_removesFirst 16 = .ok (.iastore, 1) := by decide +kernel
theorem dX5_removesFirst_17 : decode cX5_removesFirst 17 = .ok (.iconst 0, 1) := by decide +kernel
theorem dX5_removesFirst_18 : decode cX5_removesFirst 18 = .ok (.istore_n 3, 1) := by decide +kernel
theorem dX5_removesFirst_19 : decode cX5_removesFirst 19 = .ok (.iload_n 3, 1) := by decide +kernel
theorem dX5_removesFirst_20 : decode cX5_removesFirst 20 = .ok (.aload_n 0, 1) := by decide +kernel
theorem dX5_removesFirst_21 : decode cX5_removesFirst 21 = .ok (.getfield 7, 3) := by decide +kernel
theorem dX5_removesFirst_24 : decode cX5_removesFirst 24 = .ok (.iload_n 1, 1) := by decide +kernel
theorem dX5_removesFirst_25 : decode cX5_removesFirst 25 = .ok (.iload_n 2, 1) := by decide +kernel
theorem dX5_removesFirst_26 : decode cX5_removesFirst 26 = .ok (.invokestatic 20, 3) := by decide +kernel
theorem dX5_removesFirst_29 : decode cX5_removesFirst 29 = .ok (.bipush 6, 2) := by decide +kernel
theorem dX5_removesFirst_31 : decode cX5_removesFirst 31 = .ok (.iadd, 1) := by decide +kernel
theorem dX5_removesFirst_32 : decode cX5_removesFirst 32 = .ok (.iaload, 1) := by decide +kernel
theorem dX5_removesFirst_33 : decode cX5_removesFirst 33 = .ok (.if_icmp .ge 28, 3) := by decide +kernel
theorem dX5_removesFirst_36 : decode cX5_removesFirst 36 = .ok (.aload_n 0, 1) := by decide +kernel
theorem dX5_removesFirst_37 : decode cX5_removesFirst 37 = .ok (.iload_n 1, 1) := by decide +kernel
theorem dX5_removesFirst_38 : decode cX5_removesFirst 38 = .ok (.iload_n 2, 1) := by decide +kernel
theorem dX5_removesFirst_39 : decode cX5_removesFirst 39 = .ok (.iload_n 3, 1) := by decide +kernel
theorem dX5_removesFirst_40 : decode cX5_removesFirst 40 = .ok (.iconst 1, 1) := by decide +kernel
theorem dX5_removesFirst_41 : decode cX5_removesFirst 41 = .ok (.iadd, 1) := by decide +kernel
theorem dX5_removesFirst_42 : decode cX5_removesFirst 42 = .ok (.invokestatic 43, 3) := by decide +kernel
theorem dX5_removesFirst_45 : decode cX5_removesFirst 45 = .ok (.iload_n 1, 1) := by decide +kernel
theorem dX5_removesFirst_46 : decode cX5_removesFirst 46 = .ok (.iload_n 2, 1) := by decide +kernel
theorem dX5_removesFirst_47 : decode cX5_removesFirst 47 = .ok (.iload_n 3, 1) := by decide +kernel
theorem dX5_removesFirst_48 : decode cX5_removesFirst 48 = .ok (.invokestatic 43, 3) := by decide +kernel
theorem dX5_removesFirst_51 : decode cX5_removesFirst 51 = .ok (.iconst 0, 1) := by decide +kernel
theorem dX5_removesFirst_52 : decode cX5_removesFirst 52 = .ok (.invokevirtual 66, 3) := by decide +kernel
theorem dX5_removesFirst_55 : decode cX5_removesFirst 55 = .ok (.iinc 3 1, 3) := by decide +kernel
theorem dX5_removesFirst_58 : decode cX5_removesFirst 58 = .ok (.goto (-39), 3) := by decide +kernel
theorem dX5_removesFirst_61 : decode cX5_removesFirst 61 = .ok (.return_, 1) := by decide +kernel
theorem dX5_sends_0 : decode cX5_sends 0 = .ok (.iload_n 1, 1) := by decide +kernel
theorem dX5_sends_1 : decode cX5_sends 1 = .ok (.iload_n 2, 1) := by decide +kernel
theorem dX5_sends_2 : decode cX5_sends 2 = .ok (.invokestatic 20, 3) := by decide +kernel
theorem dX5_sends_5 : decode cX5_sends 5 = .ok (.istore_n 3, 1) := by decide +kernel
theorem dX5_sends_6 : decode cX5_sends 6 = .ok (.aload_n 0, 1) := by decide +kernel
theorem dX5_sends_7 : decode cX5_sends 7 = .ok (.getfield 7, 3) := by decide +kernel
theorem dX5_sends_10 : decode cX5_sends 10 = .ok (.iload_n 3, 1) := by decide +kernel
theorem dX5_sends_11 : decode cX5_sends 11 = .ok (.iconst 1, 1) := by decide +kernel
theorem dX5_sends_12 : decode cX5_sends 12 = .ok (.iadd, 1) := by decide +kernel
theorem dX5_sends_13 : decode cX5_sends 13 = .ok (.iaload, 1) := by decide +kernel
theorem dX5_sends_14 : decode cX5_sends 14 = .ok (.istore 4, 2) := by decide +kernel
theorem dX5_sends_16 : decode cX5_sends 16 = .ok (.iload 4, 2) := by decide +kernel
theorem dX5_sends_18 : decode cX5_sends 18 = .ok (.iconst (-1), 1) := by decide +kernel
theorem dX5_sends_19 : decode cX5_sends 19 = .ok (.if_icmp .eq 26, 3) := by decide +kernel
theorem dX5_sends_22 : decode cX5_sends 22 = .ok (.aload_n 0, 1) := by decide +kernel
theorem dX5_sends_23 : decode cX5_sends 23 = .ok (.getfield 7, 3) := by decide +kernel
theorem dX5_sends_26 : decode cX5_sends 26 = .ok (.iload_n 3, 1) := by decide +kernel
theorem dX5_sends_27 : decode cX5_sends 27 = .ok (.bipush 6, 2) := by decide +kernel
theorem dX5_sends_29 : decode cX5_sends 29 = .ok (.iadd, 1) := by decide +kernel
theorem dX5_sends_30 : decode cX5_sends 30 = .ok (.iaload, 1) := by decide +kernel
theorem dX5_sends_31 : decode cX5_sends 31 = .ok (.ifCond .eq 14, 3) := by decide +kernel
theorem dX5_sends_34 : decode cX5_sends 34 = .ok (.aload_n 0, 1) := by decide +kernel
theorem dX5_sends_35 : decode cX5_sends 35 = .ok (.iload_n 1, 1) := by decide +kernel
theorem dX5_sends_36 : decode cX5_sends 36 = .ok (.iload_n 2, 1) := by decide +kernel
theorem dX5_sends_37 : decode cX5_sends 37 = .ok (.iload 4, 2) := by decide +kernel
theorem dX5_sends_39 : decode cX5_sends 39 = .ok (.invokevirtual 72, 3) := by decide +kernel
theorem dX5_sends_42 : decode cX5_sends 42 = .ok (.ifCond .ne 4, 3) := by decide +kernel
theorem dX5_sends_45 : decode cX5_sends 45 = .ok (.return_, 1) := by decide +kernel
theorem dX5_sends_46 : decode cX5_sends 46 = .ok (.aload_n 0, 1) := by decide +kernel
theorem dX5_sends_47 : decode cX5_sends 47 = .ok (.getfield 7, 3) := by decide +kernel
theorem dX5_sends_50 : decode cX5_sends 50 = .ok (.iload_n 1, 1) := by decide +kernel
theorem dX5_sends_51 : decode cX5_sends 51 = .ok (.bipush 14, 2) := by decide +kernel
theorem dX5_sends_53 : decode cX5_sends 53 = .ok (.iadd, 1) := by decide +kernel
theorem dX5_sends_54 : decode cX5_sends 54 = .ok (.dup2, 1) := by decide +kernel
theorem dX5_sends_55 : decode cX5_sends 55 = .ok (.iaload, 1) := by decide +kernel
theorem dX5_sends_56 : decode cX5_sends 56 = .ok (.iconst 1, 1) := by decide +kernel
theorem dX5_sends_57 : decode cX5_sends 57 = .ok (.iadd, 1) := by decide +kernel
theorem dX5_sends_58 : decode cX5_sends 58 = .ok (.iastore, 1) := by decide +kernel
theorem dX5_sends_59 : decode cX5_sends 59 = .ok (.aload_n 0, 1) := by decide +kernel
theorem dX5_sends_60 : decode cX5_sends 60 = .ok (.iload_n 1, 1) := by decide +kernel
theorem dX5_sends_61 : decode cX5_sends 61 = .ok (.iload_n 1, 1) := by decide +kernel
theorem dX5_sends_62 : decode cX5_sends 62 = .ok (.iload_n 2, 1) := by decide +kernel
theorem dX5_sends_63 : decode cX5_sends 63 = .ok (.iconst 0, 1) := by decide +kernel
theorem dX5_sends_64 : decode cX5_sends 64 = .ok (.invokestatic 43, 3) := by decide +kernel
theorem dX5_sends_67 : decode cX5_sends 67 = .ok (.iload 4, 2) := by decide +kernel
theorem dX5_sends_69 : decode cX5_sends 69 = .ok (.aload_n 0, 1) := by decide +kernel
theorem dX5_sends_70 : decode cX5_sends 70 = .ok (.getfield 7, 3) := by decide +kernel
theorem dX5_sends_73 : decode cX5_sends 73 = .ok (.iload_n 1, 1) := by decide +kernel
theorem dX5_sends_74 : decode cX5_sends 74 = .ok (.iload 4, 2) := by decide +kernel
theorem dX5_sends_76 : decode cX5_sends 76 = .ok (.invokestatic 20, 3) := by decide +kernel
theorem dX5_sends_79 : decode cX5_sends 79 = .ok (.iconst 0, 1) := by decide +kernel
theorem dX5_sends_80 : decode cX5_sends 80 = .ok (.iadd, 1) := by decide +kernel
theorem dX5_sends_81 : decode cX5_sends 81 = .ok (.iaload, 1) := by decide +kernel
theorem dX5_sends_82 : decode cX5_sends 82 = .ok (.aload_n 0, 1) := by decide +kernel
theorem dX5_sends_83 : decode cX5_sends 83 = .ok (.getfield 7, 3) := by decide +kernel
theorem dX5_sends_86 : decode cX5_sends 86 = .ok (.iload_n 3, 1) := by decide +kernel
theorem dX5_sends_87 : decode cX5_sends 87 = .ok (.iconst 0, 1) := by decide +kernel
theorem dX5_sends_88 : decode cX5_sends 88 = .ok (.iadd, 1) := by decide +kernel
theorem dX5_sends_89 : decode cX5_sends 89 = .ok (.iaload, 1) := by decide +kernel
theorem dX5_sends_90 : decode cX5_sends 90 = .ok (.isub, 1) := by decide +kernel
theorem dX5_sends_91 : decode cX5_sends 91 = .ok (.invokevirtual 75, 3) := by decide +kernel
theorem dX5_sends_94 : decode cX5_sends 94 = .ok (.ifCond .ne 4, 3) := by decide +kernel
theorem dX5_sends_97 : decode cX5_sends 97 = .ok (.return_, 1) := by decide +kernel
theorem dX5_sends_98 : decode cX5_sends 98 = .ok (.aload_n 0, 1) := by decide +kernel
theorem dX5_sends_99 : decode cX5_sends 99 = .ok (.getfield 7, 3) := by decide +kernel
theorem dX5_sends_102 : decode cX5_sends 102 = .ok (.iload_n 3, 1) := by decide +kernel
theorem dX5_sends_103 : decode cX5_sends 103 = .ok (.iconst 4, 1) := by decide +kernel
theorem dX5_sends_104 : decode cX5_sends 104 = .ok (.iadd, 1) := by decide +kernel
theorem dX5_sends_105 : decode cX5_sends 105 = .ok (.iaload, 1) := by decide +kernel
theorem dX5_sends_106 : decode cX5_sends 106 = .ok (.ifCond .le 31, 3) := by decide +kernel
theorem dX5_sends_109 : decode cX5_sends 109 = .ok (.aload_n 0, 1) := by decide +kernel
theorem dX5_sends_110 : decode cX5_sends 110 = .ok (.getfield 7, 3) := by decide +kernel
theorem dX5_sends_113 : decode cX5_sends 113 = .ok (.iload_n 3, 1) := by decide +kernel
theorem dX5_sends_114 : decode cX5_sends 114 = .ok (.iconst 4, 1) := by decide +kernel
theorem dX5_sends_115 : decode cX5_sends 115 = .ok (.iadd, 1) := by decide +kernel
theorem dX5_sends_116 : decode cX5_sends 116 = .ok (.dup2, 1) := by decide +kernel
theorem dX5_sends_117 : decode cX5_sends 117 = .ok (.iaload, 1) := by decide +kernel
theorem dX5_sends_118 : decode cX5_sends 118 = .ok (.iconst 1, 1) := by decide +kernel
theorem dX5_sends_119 : decode cX5_sends 119 = .ok (.isub, 1) := by decide +kernel
theorem dX5_sends_120 : decode cX5_sends 120 = .ok (.iastore, 1) := by decide +kernel
theorem dX5_sends_121 : decode cX5_sends 121 = .ok (.aload_n 0, 1) := by decide +kernel
theorem dX5_sends_122 : decode cX5_sends 122 = .ok (.getfield 7, 3) := by decide +kernel
theorem dX5_sends_125 : decode cX5_sends 125 = .ok (.iload_n 1, 1) := by decide +kernel
theorem dX5_sends_126 : decode cX5_sends 126 = .ok (.bipush 17, 2) := by decide +kernel
theorem dX5_sends_128 : decode cX5_sends 128 = .ok (.iadd, 1) := by decide +kernel
theorem dX5_sends_129 : decode cX5_sends 129 = .ok (.dup2, 1) := by decide +kernel
theorem dX5_sends_130 : decode cX5_sends 130 = .ok (.iaload, 1) := by decide +kernel
theorem dX5_sends_131 : decode cX5_sends 131 = .ok (.iconst 1, 1) := by decide +kernel
theorem dX5_sends_132 : decode cX5_sends 132 = .ok (.iadd, 1) := by decide +kernel
theorem dX5_sends_133 : decode cX5_sends 133 = .ok (.iastore, 1) := by decide +kernel
theorem dX5_sends_134 : decode cX5_sends 134 = .ok (.goto 9, 3) := by decide +kernel
theorem dX5_sends_137 : decode cX5_sends 137 = .ok (.aload_n 0, 1) := by decide +kernel
theorem dX5_sends_138 : decode cX5_sends 138 = .ok (.iload_n 1, 1) := by decide +kernel
theorem dX5_sends_139 : decode cX5_sends 139 = .ok (.iload_n 2, 1) := by decide +kernel
theorem dX5_sends_140 : decode cX5_sends 140 = .ok (.invokevirtual 79, 3) := by decide +kernel
theorem dX5_sends_143 : decode cX5_sends 143 = .ok (.return_, 1) := by decide +kernel
theorem dX5_slot_0 : decode cX5_slot 0 = .ok (.aload_n 0, 1) := by decide +kernel
theorem dX5_slot_1 : decode cX5_slot 1 = .ok (.getfield 7, 3) := by decide +kernel
theorem dX5_slot_4 : decode cX5_slot 4 = .ok (.iload_n 1, 1) := by decide +kernel
theorem dX5_slot_5 : decode cX5_slot 5 = .ok (.bipush 12, 2) := by decide +kernel
theorem dX5_slot_7 : decode cX5_slot 7 = .ok (.iadd, 1) := by decide +kernel
theorem dX5_slot_8 : decode cX5_slot 8 = .ok (.iaload, 1) := by decide +kernel
theorem dX5_slot_9 : decode cX5_slot 9 = .ok (.bipush 10, 2) := by decide +kernel
theorem dX5_slot_11 : decode cX5_slot 11 = .ok (.irem, 1) := by decide +kernel
theorem dX5_slot_12 : decode cX5_slot 12 = .ok (.istore_n 2, 1) := by decide +kernel
theorem dX5_slot_13 : decode cX5_slot 13 = .ok (.aload_n 0, 1) := by decide +kernel
theorem dX5_slot_14 : decode cX5_slot 14 = .ok (.iload_n 1, 1) := by decide +kernel
theorem dX5_slot_15 : decode cX5_slot 15 = .ok (.iload_n 2, 1) := by decide +kernel
theorem dX5_slot_16 : decode cX5_slot 16 = .ok (.invokevirtual 39, 3) := by decide +kernel
theorem dX5_slot_19 : decode cX5_slot 19 = .ok (.ifCond .eq 105, 3) := by decide +kernel
theorem dX5_slot_22 : decode cX5_slot 22 = .ok (.iload_n 1, 1) := by decide +kernel
theorem dX5_slot_23 : decode cX5_slot 23 = .ok (.iload_n 2, 1) := by decide +kernel
theorem dX5_slot_24 : decode cX5_slot 24 = .ok (.invokestatic 20, 3) := by decide +kernel
theorem dX5_slot_27 : decode cX5_slot 27 = .ok (.istore_n 3, 1) := by decide +kernel
theorem dX5_slot_28 : decode cX5_slot 28 = .ok (.aload_n 0, 1) := by decide +kernel
theorem dX5_slot_29 : decode cX5_slot 29 = .ok (.getfield 7, 3) := by decide +kernel
theorem dX5_slot_32 : decode cX5_slot 32 = .ok (.iload_n 3, 1) := by decide +kernel
theorem dX5_slot_33 : decode cX5_slot 33 = .ok (.iconst 1, 1) := by decide +kernel
theorem dX5_slot_34 : decode cX5_slot 34 = .ok (.iadd, 1) := by decide +kernel
theorem dX5_slot_35 : decode cX5_slot 35 = .ok (.iaload, 1) := by decide +kernel
theorem dX5_slot_36 : decode cX5_slot 36 = .ok (.iconst (-1), 1) := by decide +kernel
theorem dX5_slot_37 : decode cX5_slot 37 = .ok (.if_icmp .eq 42, 3) := by decide +kernel
theorem dX5_slot_40 : decode cX5_slot 40 = .ok (.aload_n 0, 1) := by decide +kernel
theorem dX5_slot_41 : decode cX5_slot 41 = .ok (.getfield 7, 3) := by decide +kernel
theorem dX5_slot_44 : decode cX5_slot 44 = .ok (.iload_n 1, 1) := by decide +kernel
theorem dX5_slot_45 : decode cX5_slot 45 = .ok (.bipush 12, 2) := by decide +kernel
theorem dX5_slot_47 : decode cX5_slot 47 = .ok (.iadd, 1) := by decide +kernel
theorem dX5_slot_48 : decode cX5_slot 48 = .ok (.iaload, 1) := by decide +kernel
theorem dX5_slot_49 : decode cX5_slot 49 = .ok (.aload_n 0, 1) := by decide +kernel
theorem dX5_slot_50 : decode cX5_slot 50 = .ok (.getfield 7, 3) := by decide +kernel
theorem dX5_slot_53 : decode cX5_slot 53 = .ok (.iload_n 3, 1) := by decide +kernel
theorem dX5_slot_54 : decode cX5_slot 54 = .ok (.iconst 3, 1) := by decide +kernel
theorem dX5_slot_55 : decode cX5_slot 55 = .ok (.iadd, 1) := by decide +kernel
theorem dX5_slot_56 : decode cX5_slot 56 = .ok (.iaload, 1) := by decide +kernel
theorem dX5_slot_57 : decode cX5_slot 57 = .ok (.isub, 1) := by decide +kernel
theorem dX5_slot_58 : decode cX5_slot 58 = .ok (.bipush 10, 2) := by decide +kernel
theorem dX5_slot_60 : decode cX5_slot 60 = .ok (.aload_n 0, 1) := by decide +kernel
theorem dX5_slot_61 : decode cX5_slot 61 = .ok (.getfield 7, 3) := by decide +kernel
theorem dX5_slot_64 : decode cX5_slot 64 = .ok (.iload_n 1, 1) := by decide +kernel
theorem dX5_slot_65 : decode cX5_slot 65 = .ok (.bipush 11, 2) := by decide +kernel
theorem dX5_slot_67 : decode cX5_slot 67 = .ok (.iadd, 1) := by decide +kernel
theorem dX5_slot_68 : decode cX5_slot 68 = .ok (.iaload, 1) := by decide +kernel
theorem dX5_slot_69 : decode cX5_slot 69 = .ok (.imul, 1) := by decide +kernel
theorem dX5_slot_70 : decode cX5_slot 70 = .ok (.if_icmp .le 9, 3) := by decide +kernel
theorem dX5_slot_73 : decode cX5_slot 73 = .ok (.aload_n 0, 1) := by decide +kernel
theorem dX5_slot_74 : decode cX5_slot 74 = .ok (.iload_n 1, 1) := by decide +kernel
theorem dX5_slot_75 : decode cX5_slot 75 = .ok (.iload_n 2, 1) := by decide +kernel
theorem dX5_slot_76 : decode cX5_slot 76 = .ok (.invokevirtual 54, 3) := by decide +kernel
theorem dX5_slot_79 : decode cX5_slot 79 = .ok (.iconst 1, 1) := by decide +kernel
theorem dX5_slot_80 : decode cX5_slot 80 = .ok (.istore 4, 2) := by decide +kernel
theorem dX5_slot_82 : decode cX5_slot 82 = .ok (.iload 4, 2) := by decide +kernel
theorem dX5_slot_84 : decode cX5_slot 84 = .ok (.bipush 10, 2) := by decide +kernel
theorem dX5_slot_86 : decode cX5_slot 86 = .ok (.if_icmp .ge 28, 3) := by decide +kernel
theorem dX5_slot_89 : decode cX5_slot 89 = .ok (.aload_n 0, 1) := by decide +kernel
theorem dX5_slot_90 : decode cX5_slot 90 = .ok (.iload_n 1, 1) := by decide +kernel
theorem dX5_slot_91 : decode cX5_slot 91 = .ok (.iload 4, 2) := by decide +kernel
theorem dX5_slot_93 : decode cX5_slot 93 = .ok (.iload_n 2, 1) := by decide +kernel
theorem dX5_slot_94 : decode cX5_slot 94 = .ok (.invokevirtual 72, 3) := by decide +kernel
theorem dX5_slot_97 : decode cX5_slot 97 = .ok (.ifCond .eq 11, 3) := by decide +kernel
theorem dX5_slot_100 : decode cX5_slot 100 = .ok (.aload_n 0, 1) := by decide +kernel
theorem dX5_slot_101 : decode cX5_slot 101 = .ok (.iload_n 1, 1) := by decide +kernel
theorem dX5_slot_102 : decode cX5_slot 102 = .ok (.iload 4, 2) := by decide +kernel
theorem dX5_slot_104 : decode cX5_slot 104 = .ok (.iload_n 2, 1) := by decide +kernel
theorem dX5_slot_105 : decode cX5_slot 105 = .ok (.invokevirtual 82, 3) := by decide +kernel
theorem dX5_slot_108 : decode cX5_slot 108 = .ok (.iinc 4 1, 3) := by decide +kernel
theorem dX5_slot_111 : decode cX5_slot 111 = .ok (.goto (-29), 3) := by decide +kernel
theorem dX5_slot_114 : decode cX5_slot 114 = .ok (.iload_n 2, 1) := by decide +kernel
theorem dX5_slot_115 : decode cX5_slot 115 = .ok (.ifCond .le 9, 3) := by decide +kernel
theorem dX5_slot_118 : decode cX5_slot 118 = .ok (.aload_n 0, 1) := by decide +kernel
theorem dX5_slot_119 : decode cX5_slot 119 = .ok (.iload_n 1, 1) := by decide +kernel
theorem dX5_slot_120 : decode cX5_slot 120 = .ok (.iload_n 2, 1) := by decide +kernel
theorem dX5_slot_121 : decode cX5_slot 121 = .ok (.invokevirtual 85, 3) := by decide +kernel
theorem dX5_slot_124 : decode cX5_slot 124 = .ok (.aload_n 0, 1) := by decide +kernel
theorem dX5_slot_125 : decode cX5_slot 125 = .ok (.getfield 7, 3) := by decide +kernel
theorem dX5_slot_128 : decode cX5_slot 128 = .ok (.iload_n 1, 1) := by decide +kernel
theorem dX5_slot_129 : decode cX5_slot 129 = .ok (.bipush 12, 2) := by decide +kernel
theorem dX5_slot_131 : decode cX5_slot 131 = .ok (.iadd, 1) := by decide +kernel
theorem dX5_slot_132 : decode cX5_slot 132 = .ok (.dup2, 1) := by decide +kernel
theorem dX5_slot_133 : decode cX5_slot 133 = .ok (.iaload, 1) := by decide +kernel
theorem dX5_slot_134 : decode cX5_slot 134 = .ok (.iconst 1, 1) := by decide +kernel
theorem dX5_slot_135 : decode cX5_slot 135 = .ok (.iadd, 1) := by decide +kernel
theorem dX5_slot_136 : decode cX5_slot 136 = .ok (.iastore, 1) := by decide +kernel
theorem dX5_slot_137 : decode cX5_slot 137 = .ok (.return_, 1) := by decide +kernel
theorem dX5_runs_0 : decode cX5_runs 0 = .ok (.aload_n 0, 1) := by decide +kernel
theorem dX5_runs_1 : decode cX5_runs 1 = .ok (.getfield 7, 3) := by decide +kernel
theorem dX5_runs_4 : decode cX5_runs 4 = .ok (.iload_n 1, 1) := by decide +kernel
theorem dX5_runs_5 : decode cX5_runs 5 = .ok (.bipush 19, 2) := by decide +kernel
theorem dX5_runs_7 : decode cX5_runs 7 = .ok (.iadd, 1) := by decide +kernel
theorem dX5_runs_8 : decode cX5_runs 8 = .ok (.iaload, 1) := by decide +kernel
theorem dX5_runs_9 : decode cX5_runs 9 = .ok (.istore_n 3, 1) := by decide +kernel
theorem dX5_runs_10 : decode cX5_runs 10 = .ok (.iconst 0, 1) := by decide +kernel
theorem dX5_runs_11 : decode cX5_runs 11 = .ok (.istore 4, 2) := by decide +kernel
theorem dX5_runs_13 : decode cX5_runs 13 = .ok (.iload 4, 2) := by decide +kernel
theorem dX5_runs_15 : decode cX5_runs 15 = .ok (.iload_n 2, 1) := by decide +kernel
theorem dX5_runs_16 : decode cX5_runs 16 = .ok (.if_icmp .ge 14, 3) := by decide +kernel
theorem dX5_runs_19 : decode cX5_runs 19 = .ok (.aload_n 0, 1) := by decide +kernel
theorem dX5_runs_20 : decode cX5_runs 20 = .ok (.iload_n 1, 1) := by decide +kernel
theorem dX5_runs_21 : decode cX5_runs 21 = .ok (.invokevirtual 88, 3) := by decide +kernel
theorem dX5_runs_24 : decode cX5_runs 24 = .ok (.iinc 4 1, 3) := by decide +kernel
theorem dX5_runs_27 : decode cX5_runs 27 = .ok (.goto (-14), 3) := by decide +kernel
theorem dX5_runs_30 : decode cX5_runs 30 = .ok (.aload_n 0, 1) := by decide +kernel
theorem dX5_runs_31 : decode cX5_runs 31 = .ok (.getfield 7, 3) := by decide +kernel
theorem dX5_runs_34 : decode cX5_runs 34 = .ok (.iload_n 1, 1) := by decide +kernel
theorem dX5_runs_35 : decode cX5_runs 35 = .ok (.bipush 19, 2) := by decide +kernel
theorem dX5_runs_37 : decode cX5_runs 37 = .ok (.iadd, 1) := by decide +kernel
theorem dX5_runs_38 : decode cX5_runs 38 = .ok (.iaload, 1) := by decide +kernel
theorem dX5_runs_39 : decode cX5_runs 39 = .ok (.iload_n 3, 1) := by decide +kernel
theorem dX5_runs_40 : decode cX5_runs 40 = .ok (.isub, 1) := by decide +kernel
theorem dX5_runs_41 : decode cX5_runs 41 = .ok (.ireturn, 1) := by decide +kernel
theorem dX5_ones_0 : decode cX5_ones 0 = .ok (.iconst 0, 1) := by decide +kernel
theorem dX5_ones_1 : decode cX5_ones 1 = .ok (.istore_n 1, 1) := by decide +kernel
theorem dX5_ones_2 : decode cX5_ones 2 = .ok (.iconst 0, 1) := by decide +kernel
theorem dX5_ones_3 : decode cX5_ones 3 = .ok (.istore_n 2, 1) := by decide +kernel
theorem dX5_ones_4 : decode cX5_ones 4 = .ok (.iload_n 2, 1) := by decide +kernel
theorem dX5_ones_5 : decode cX5_ones 5 = .ok (.bipush 10, 2) := by decide +kernel
theorem dX5_ones_7 : decode cX5_ones 7 = .ok (.if_icmp .ge 17, 3) := by decide +kernel
theorem dX5_ones_10 : decode cX5_ones 10 = .ok (.iload_n 1, 1) := by decide +kernel
theorem dX5_ones_11 : decode cX5_ones 11 = .ok (.iload_n 0, 1) := by decide +kernel
theorem dX5_ones_12 : decode cX5_ones 12 = .ok (.iload_n 2, 1) := by decide +kernel
theorem dX5_ones_13 : decode cX5_ones 13 = .ok (.ishr, 1) := by decide +kernel
theorem dX5_ones_14 : decode cX5_ones 14 = .ok (.iconst 1, 1) := by decide +kernel
theorem dX5_ones_15 : decode cX5_ones 15 = .ok (.iand, 1) := by decide +kernel
theorem dX5_ones_16 : decode cX5_ones 16 = .ok (.iadd, 1) := by decide +kernel
theorem dX5_ones_17 : decode cX5_ones 17 = .ok (.istore_n 1, 1) := by decide +kernel
theorem dX5_ones_18 : decode cX5_ones 18 = .ok (.iinc 2 1, 3) := by decide +kernel
theorem dX5_ones_21 : decode cX5_ones 21 = .ok (.goto (-17), 3) := by decide +kernel
theorem dX5_ones_24 : decode cX5_ones 24 = .ok (.iload_n 1, 1) := by decide +kernel
theorem dX5_ones_25 : decode cX5_ones 25 = .ok (.ireturn, 1) := by decide +kernel
theorem dX5_links_0 : decode cX5_links 0 = .ok (.aload_n 0, 1) := by decide +kernel
theorem dX5_links_1 : decode cX5_links 1 = .ok (.getfield 7, 3) := by decide +kernel
theorem dX5_links_4 : decode cX5_links 4 = .ok (.iconst 0, 1) := by decide +kernel
theorem dX5_links_5 : decode cX5_links 5 = .ok (.iload_n 1, 1) := by decide +kernel
theorem dX5_links_6 : decode cX5_links 6 = .ok (.iadd, 1) := by decide +kernel
theorem dX5_links_7 : decode cX5_links 7 = .ok (.iload_n 3, 1) := by decide +kernel
theorem dX5_links_8 : decode cX5_links 8 = .ok (.ifCond .eq 18, 3) := by decide +kernel
theorem dX5_links_11 : decode cX5_links 11 = .ok (.aload_n 0, 1) := by decide +kernel
theorem dX5_links_12 : decode cX5_links 12 = .ok (.getfield 7, 3) := by decide +kernel
theorem dX5_links_15 : decode cX5_links 15 = .ok (.iconst 0, 1) := by decide +kernel
theorem dX5_links_16 : decode cX5_links 16 = .ok (.iload_n 1, 1) := by decide +kernel
theorem dX5_links_17 : decode cX5_links 17 = .ok (.iadd, 1) := by decide +kernel
theorem dX5_links_18 : decode cX5_links 18 = .ok (.iaload, 1) := by decide +kernel
theorem dX5_links_19 : decode cX5_links 19 = .ok (.iconst 1, 1) := by decide +kernel
theorem dX5_links_20 : decode cX5_links 20 = .ok (.iload_n 2, 1) := by decide +kernel
theorem dX5_links_21 : decode cX5_links 21 = .ok (.ishl, 1) := by decide +kernel
theorem dX5_links_22 : decode cX5_links 22 = .ok (.ior, 1) := by decide +kernel
theorem dX5_links_23 : decode cX5_links 23 = .ok (.goto 17, 3) := by decide +kernel
theorem dX5_links_26 : decode cX5_links 26 = .ok (.aload_n 0, 1) := by decide +kernel
theorem dX5_links_27 : decode cX5_links 27 = .ok (.getfield 7, 3) := by decide +kernel
theorem dX5_links_30 : decode cX5_links 30 = .ok (.iconst 0, 1) := by decide +kernel
theorem dX5_links_31 : decode cX5_links 31 = .ok (.iload_n 1, 1) := by decide +kernel
theorem dX5_links_32 : decode cX5_links 32 = .ok (.iadd, 1) := by decide +kernel
theorem dX5_links_33 : decode cX5_links 33 = .ok (.iaload, 1) := by decide +kernel
theorem dX5_links_34 : decode cX5_links 34 = .ok (.iconst 1, 1) := by decide +kernel
theorem dX5_links_35 : decode cX5_links 35 = .ok (.iload_n 2, 1) := by decide +kernel
theorem dX5_links_36 : decode cX5_links 36 = .ok (.ishl, 1) := by decide +kernel
theorem dX5_links_37 : decode cX5_links 37 = .ok (.iconst (-1), 1) := by decide +kernel
theorem dX5_links_38 : decode cX5_links 38 = .ok (.ixor, 1) := by decide +kernel
theorem dX5_links_39 : decode cX5_links 39 = .ok (.iand, 1) := by decide +kernel
theorem dX5_links_40 : decode cX5_links 40 = .ok (.iastore, 1) := by decide +kernel
theorem dX5_links_41 : decode cX5_links 41 = .ok (.aload_n 0, 1) := by decide +kernel
theorem dX5_links_42 : decode cX5_links 42 = .ok (.getfield 7, 3) := by decide +kernel
theorem dX5_links_45 : decode cX5_links 45 = .ok (.iconst 0, 1) := by decide +kernel
theorem dX5_links_46 : decode cX5_links 46 = .ok (.iload_n 2, 1) := by decide +kernel
theorem dX5_links_47 : decode cX5_links 47 = .ok (.iadd, 1) := by decide +kernel
theorem dX5_links_48 : decode cX5_links 48 = .ok (.iload_n 3, 1) := by decide +kernel
theorem dX5_links_49 : decode cX5_links 49 = .ok (.ifCond .eq 18, 3) := by decide +kernel
theorem dX5_links_52 : decode cX5_links 52 = .ok (.aload_n 0, 1) := by decide +kernel
theorem dX5_links_53 : decode cX5_links 53 = .ok (.getfield 7, 3) := by decide +kernel
theorem dX5_links_56 : decode cX5_links 56 = .ok (.iconst 0, 1) := by decide +kernel
theorem dX5_links_57 : decode cX5_links 57 = .ok (.iload_n 2, 1) := by decide +kernel
theorem dX5_links_58 : decode cX5_links 58 = .ok (.iadd, 1) := by decide +kernel
theorem dX5_links_59 : decode cX5_links 59 = .ok (.iaload, 1) := by decide +kernel
theorem dX5_links_60 : decode cX5_links 60 = .ok (.iconst 1, 1) := by decide +kernel
theorem dX5_links_61 : decode cX5_links 61 = .ok (.iload_n 1, 1) := by decide +kernel
theorem dX5_links_62 : decode cX5_links 62 = .ok (.ishl, 1) := by decide +kernel
theorem dX5_links_63 : decode cX5_links 63 = .ok (.ior, 1) := by decide +kernel
theorem dX5_links_64 : decode cX5_links 64 = .ok (.goto 17, 3) := by decide +kernel
theorem dX5_links_67 : decode cX5_links 67 = .ok (.aload_n 0, 1) := by decide +kernel
theorem dX5_links_68 : decode cX5_links 68 = .ok (.getfield 7, 3) := by decide +kernel
theorem dX5_links_71 : decode cX5_links 71 = .ok (.iconst 0, 1) := by decide +kernel
theorem dX5_links_72 : decode cX5_links 72 = .ok (.iload_n 2, 1) := by decide +kernel
theorem dX5_links_73 : decode cX5_links 73 = .ok (.iadd, 1) := by decide +kernel
theorem dX5_links_74 : decode cX5_links 74 = .ok (.iaload, 1) := by decide +kernel
theorem dX5_links_75 : decode cX5_links 75 = .ok (.iconst 1, 1) := by decide +kernel
theorem dX5_links_76 : decode cX5_links 76 = .ok (.iload_n 1, 1) := by decide +kernel
theorem dX5_links_77 : decode cX5_links 77 = .ok (.ishl, 1) := by decide +kernel
theorem dX5_links_78 : decode cX5_links 78 = .ok (.iconst (-1), 1) := by decide +kernel
theorem dX5_links_79 : decode cX5_links 79 = .ok (.ixor, 1) := by decide +kernel
theorem dX5_links_80 : decode cX5_links 80 = .ok (.iand, 1) := by decide +kernel
theorem dX5_links_81 : decode cX5_links 81 = .ok (.iastore, 1) := by decide +kernel
theorem dX5_links_82 : decode cX5_links 82 = .ok (.iconst 0, 1) := by decide +kernel
theorem dX5_links_83 : decode cX5_links 83 = .ok (.istore 4, 2) := by decide +kernel
theorem dX5_links_85 : decode cX5_links 85 = .ok (.iconst 0, 1) := by decide +kernel
theorem dX5_links_86 : decode cX5_links 86 = .ok (.istore 5, 2) := by decide +kernel
theorem dX5_links_88 : decode cX5_links 88 = .ok (.iload 5, 2) := by decide +kernel
theorem dX5_links_90 : decode cX5_links 90 = .ok (.bipush 10, 2) := by decide +kernel
theorem dX5_links_92 : decode cX5_links 92 = .ok (.if_icmp .ge 26, 3) := by decide +kernel
theorem dX5_links_95 : decode cX5_links 95 = .ok (.iload 4, 2) := by decide +kernel
theorem dX5_links_97 : decode cX5_links 97 = .ok (.aload_n 0, 1) := by decide +kernel
theorem dX5_links_98 : decode cX5_links 98 = .ok (.getfield 7, 3) := by decide +kernel
theorem dX5_links_101 : decode cX5_links 101 = .ok (.iconst 0, 1) := by decide +kernel
theorem dX5_links_102 : decode cX5_links 102 = .ok (.iload 5, 2) := by decide +kernel
theorem dX5_links_104 : decode cX5_links 104 = .ok (.iadd, 1) := by decide +kernel
theorem dX5_links_105 : decode cX5_links 105 = .ok (.iaload, 1) := by decide +kernel
theorem dX5_links_106 : decode cX5_links 106 = .ok (.invokestatic 92, 3) := by decide +kernel
theorem dX5_links_109 : decode cX5_links 109 = .ok (.iadd, 1) := by decide +kernel
theorem dX5_links_110 : decode cX5_links 110 = .ok (.istore 4, 2) := by decide +kernel
theorem dX5_links_112 : decode cX5_links 112 = .ok (.iinc 5 1, 3) := by decide +kernel
theorem dX5_links_115 : decode cX5_links 115 = .ok (.goto (-27), 3) := by decide +kernel
theorem dX5_links_118 : decode cX5_links 118 = .ok (.iload 4, 2) := by decide +kernel
theorem dX5_links_120 : decode cX5_links 120 = .ok (.iconst 2, 1) := by decide +kernel
theorem dX5_links_121 : decode cX5_links 121 = .ok (.idiv, 1) := by decide +kernel
theorem dX5_links_122 : decode cX5_links 122 = .ok (.ireturn, 1) := by decide +kernel
theorem dX5_powers_0 : decode cX5_powers 0 = .ok (.aload_n 0, 1) := by decide +kernel
theorem dX5_powers_1 : decode cX5_powers 1 = .ok (.getfield 7, 3) := by decide +kernel
theorem dX5_powers_4 : decode cX5_powers 4 = .ok (.bipush 10, 2) := by decide +kernel
theorem dX5_powers_6 : decode cX5_powers 6 = .ok (.iload_n 2, 1) := by decide +kernel
theorem dX5_powers_7 : decode cX5_powers 7 = .ok (.ifCond .eq 17, 3) := by decide +kernel
theorem dX5_powers_10 : decode cX5_powers 10 = .ok (.aload_n 0, 1) := by decide +kernel
theorem dX5_powers_11 : decode cX5_powers 11 = .ok (.getfield 7, 3) := by decide +kernel
theorem dX5_powers_14 : decode cX5_powers 14 = .ok (.bipush 10, 2) := by decide +kernel
theorem dX5_powers_16 : decode cX5_powers 16 = .ok (.iaload, 1) := by decide +kernel
theorem dX5_powers_17 : decode cX5_powers 17 = .ok (.iconst 1, 1) := by decide +kernel
theorem dX5_powers_18 : decode cX5_powers 18 = .ok (.iload_n 1, 1) := by decide +kernel
theorem dX5_powers_19 : decode cX5_powers 19 = .ok (.ishl, 1) := by decide +kernel
theorem dX5_powers_20 : decode cX5_powers 20 = .ok (.ior, 1) := by decide +kernel
theorem dX5_powers_21 : decode cX5_powers 21 = .ok (.goto 16, 3) := by decide +kernel
theorem dX5_powers_24 : decode cX5_powers 24 = .ok (.aload_n 0, 1) := by decide +kernel
theorem dX5_powers_25 : decode cX5_powers 25 = .ok (.getfield 7, 3) := by decide +kernel
theorem dX5_powers_28 : decode cX5_powers 28 = .ok (.bipush 10, 2) := by decide +kernel
theorem dX5_powers_30 : decode cX5_powers 30 = .ok (.iaload, 1) := by decide +kernel
theorem dX5_powers_31 : decode cX5_powers 31 = .ok (.iconst 1, 1) := by decide +kernel
theorem dX5_powers_32 : decode cX5_powers 32 = .ok (.iload_n 1, 1) := by decide +kernel
theorem dX5_powers_33 : decode cX5_powers 33 = .ok (.ishl, 1) := by decide +kernel
theorem dX5_powers_34 : decode cX5_powers 34 = .ok (.iconst (-1), 1) := by decide +kernel
theorem dX5_powers_35 : decode cX5_powers 35 = .ok (.ixor, 1) := by decide +kernel
theorem dX5_powers_36 : decode cX5_powers 36 = .ok (.iand, 1) := by decide +kernel
theorem dX5_powers_37 : decode cX5_powers 37 = .ok (.iastore, 1) := by decide +kernel
theorem dX5_powers_38 : decode cX5_powers 38 = .ok (.aload_n 0, 1) := by decide +kernel
theorem dX5_powers_39 : decode cX5_powers 39 = .ok (.getfield 7, 3) := by decide +kernel
theorem dX5_powers_42 : decode cX5_powers 42 = .ok (.bipush 10, 2) := by decide +kernel
theorem dX5_powers_44 : decode cX5_powers 44 = .ok (.iaload, 1) := by decide +kernel
theorem dX5_powers_45 : decode cX5_powers 45 = .ok (.invokestatic 92, 3) := by decide +kernel
theorem dX5_powers_48 : decode cX5_powers 48 = .ok (.ireturn, 1) := by decide +kernel
theorem dX5_canTake_0 : decode cX5_canTake 0 = .ok (.aload_n 0, 1) := by decide +kernel
theorem dX5_canTake_1 : decode cX5_canTake 1 = .ok (.getfield 7, 3) := by decide +kernel
theorem dX5_canTake_4 : decode cX5_canTake 4 = .ok (.iconst 0, 1) := by decide +kernel
theorem dX5_canTake_5 : decode cX5_canTake 5 = .ok (.iload_n 1, 1) := by decide +kernel
theorem dX5_canTake_6 : decode cX5_canTake 6 = .ok (.invokestatic 20, 3) := by decide +kernel
theorem dX5_canTake_9 : decode cX5_canTake 9 = .ok (.bipush 6, 2) := by decide +kernel
theorem dX5_canTake_11 : decode cX5_canTake 11 = .ok (.iadd, 1) := by decide +kernel
theorem dX5_canTake_12 : decode cX5_canTake 12 = .ok (.iaload, 1) := by decide +kernel
theorem dX5_canTake_13 : decode cX5_canTake 13 = .ok (.bipush 6, 2) := by decide +kernel
theorem dX5_canTake_15 : decode cX5_canTake 15 = .ok (.if_icmp .ge 19, 3) := by decide +kernel
theorem dX5_canTake_18 : decode cX5_canTake 18 = .ok (.aload_n 0, 1) := by decide +kernel
theorem dX5_canTake_19 : decode cX5_canTake 19 = .ok (.getfield 7, 3) := by decide +kernel
theorem dX5_canTake_22 : decode cX5_canTake 22 = .ok (.bipush 13, 2) := by decide +kernel
theorem dX5_canTake_24 : decode cX5_canTake 24 = .ok (.iaload, 1) := by decide +kernel
theorem dX5_canTake_25 : decode cX5_canTake 25 = .ok (.bipush 60, 2) := by decide +kernel
theorem dX5_canTake_27 : decode cX5_canTake 27 = .ok (.if_icmp .ge 7, 3) := by decide +kernel
theorem dX5_canTake_30 : decode cX5_canTake 30 = .ok (.iconst 1, 1) := by decide +kernel
theorem dX5_canTake_31 : decode cX5_canTake 31 = .ok (.goto 4, 3) := by decide +kernel
theorem dX5_canTake_34 : decode cX5_canTake 34 = .ok (.iconst 0, 1) := by decide +kernel
theorem dX5_canTake_35 : decode cX5_canTake 35 = .ok (.ireturn, 1) := by decide +kernel
theorem dX5_takes_0 : decode cX5_takes 0 = .ok (.iconst 0, 1) := by decide +kernel
theorem dX5_takes_1 : decode cX5_takes 1 = .ok (.iload_n 1, 1) := by decide +kernel
theorem dX5_takes_2 : decode cX5_takes 2 = .ok (.invokestatic 20, 3) := by decide +kernel
theorem dX5_takes_5 : decode cX5_takes 5 = .ok (.istore_n 3, 1) := by decide +kernel
theorem dX5_takes_6 : decode cX5_takes 6 = .ok (.iconst 0, 1) := by decide +kernel
theorem dX5_takes_7 : decode cX5_takes 7 = .ok (.iload_n 1, 1) := by decide +kernel
theorem dX5_takes_8 : decode cX5_takes 8 = .ok (.aload_n 0, 1) := by decide +kernel
theorem dX5_takes_9 : decode cX5_takes 9 = .ok (.getfield 7, 3) := by decide +kernel
theorem dX5_takes_12 : decode cX5_takes 12 = .ok (.iload_n 3, 1) := by decide +kernel
theorem dX5_takes_13 : decode cX5_takes 13 = .ok (.bipush 6, 2) := by decide +kernel
theorem dX5_takes_15 : decode cX5_takes 15 = .ok (.iadd, 1) := by decide +kernel
theorem dX5_takes_16 : decode cX5_takes 16 = .ok (.iaload, 1) := by decide +kernel
theorem dX5_takes_17 : decode cX5_takes 17 = .ok (.invokestatic 43, 3) := by decide +kernel
theorem dX5_takes_20 : decode cX5_takes 20 = .ok (.istore 4, 2) := by decide +kernel
theorem dX5_takes_22 : decode cX5_takes 22 = .ok (.aload_n 0, 1) := by decide +kernel
theorem dX5_takes_23 : decode cX5_takes 23 = .ok (.getfield 7, 3) := by decide +kernel
theorem dX5_takes_26 : decode cX5_takes 26 = .ok (.iload 4, 2) := by decide +kernel
theorem dX5_takes_28 : decode cX5_takes 28 = .ok (.iload_n 1, 1) := by decide +kernel
theorem dX5_takes_29 : decode cX5_takes 29 = .ok (.iastore, 1) := by decide +kernel
theorem dX5_takes_30 : decode cX5_takes 30 = .ok (.aload_n 0, 1) := by decide +kernel
theorem dX5_takes_31 : decode cX5_takes 31 = .ok (.getfield 7, 3) := by decide +kernel
theorem dX5_takes_34 : decode cX5_takes 34 = .ok (.iload 4, 2) := by decide +kernel
theorem dX5_takes_36 : decode cX5_takes 36 = .ok (.iconst 1, 1) := by decide +kernel
theorem dX5_takes_37 : decode cX5_takes 37 = .ok (.iadd, 1) := by decide +kernel
theorem dX5_takes_38 : decode cX5_takes 38 = .ok (.aload_n 0, 1) := by decide +kernel
theorem dX5_takes_39 : decode cX5_takes 39 = .ok (.getfield 7, 3) := by decide +kernel
theorem dX5_takes_42 : decode cX5_takes 42 = .ok (.iload_n 3, 1) := by decide +kernel
theorem dX5_takes_43 : decode cX5_takes 43 = .ok (.iconst 5, 1) := by decide +kernel
theorem dX5_takes_44 : decode cX5_takes 44 = .ok (.iadd, 1) := by decide +kernel
theorem dX5_takes_45 : decode cX5_takes 45 = .ok (.iaload, 1) := by decide +kernel
theorem dX5_takes_46 : decode cX5_takes 46 = .ok (.iastore, 1) := by decide +kernel
theorem dX5_takes_47 : decode cX5_takes 47 = .ok (.aload_n 0, 1) := by decide +kernel
theorem dX5_takes_48 : decode cX5_takes 48 = .ok (.getfield 7, 3) := by decide +kernel
theorem dX5_takes_51 : decode cX5_takes 51 = .ok (.iload 4, 2) := by decide +kernel
theorem dX5_takes_53 : decode cX5_takes 53 = .ok (.iconst 2, 1) := by decide +kernel
theorem dX5_takes_54 : decode cX5_takes 54 = .ok (.iadd, 1) := by decide +kernel
theorem dX5_takes_55 : decode cX5_takes 55 = .ok (.iload_n 2, 1) := by decide +kernel
theorem dX5_takes_56 : decode cX5_takes 56 = .ok (.iastore, 1) := by decide +kernel
theorem dX5_takes_57 : decode cX5_takes 57 = .ok (.aload_n 0, 1) := by decide +kernel
theorem dX5_takes_58 : decode cX5_takes 58 = .ok (.getfield 7, 3) := by decide +kernel
theorem dX5_takes_61 : decode cX5_takes 61 = .ok (.iload 4, 2) := by decide +kernel
theorem dX5_takes_63 : decode cX5_takes 63 = .ok (.iconst 3, 1) := by decide +kernel
theorem dX5_takes_64 : decode cX5_takes 64 = .ok (.iadd, 1) := by decide +kernel
theorem dX5_takes_65 : decode cX5_takes 65 = .ok (.aload_n 0, 1) := by decide +kernel
theorem dX5_takes_66 : decode cX5_takes 66 = .ok (.getfield 7, 3) := by decide +kernel
theorem dX5_takes_69 : decode cX5_takes 69 = .ok (.bipush 12, 2) := by decide +kernel
theorem dX5_takes_71 : decode cX5_takes 71 = .ok (.iaload, 1) := by decide +kernel
theorem dX5_takes_72 : decode cX5_takes 72 = .ok (.iastore, 1) := by decide +kernel
theorem dX5_takes_73 : decode cX5_takes 73 = .ok (.aload_n 0, 1) := by decide +kernel
theorem dX5_takes_74 : decode cX5_takes 74 = .ok (.getfield 7, 3) := by decide +kernel
theorem dX5_takes_77 : decode cX5_takes 77 = .ok (.iload 4, 2) := by decide +kernel
theorem dX5_takes_79 : decode cX5_takes 79 = .ok (.iconst 4, 1) := by decide +kernel
theorem dX5_takes_80 : decode cX5_takes 80 = .ok (.iadd, 1) := by decide +kernel
theorem dX5_takes_81 : decode cX5_takes 81 = .ok (.aload_n 0, 1) := by decide +kernel
theorem dX5_takes_82 : decode cX5_takes 82 = .ok (.getfield 7, 3) := by decide +kernel
theorem dX5_takes_85 : decode cX5_takes 85 = .ok (.bipush 12, 2) := by decide +kernel
theorem dX5_takes_87 : decode cX5_takes 87 = .ok (.iaload, 1) := by decide +kernel
theorem dX5_takes_88 : decode cX5_takes 88 = .ok (.aload_n 0, 1) := by decide +kernel
theorem dX5_takes_89 : decode cX5_takes 89 = .ok (.getfield 7, 3) := by decide +kernel
theorem dX5_takes_92 : decode cX5_takes 92 = .ok (.iload_n 3, 1) := by decide +kernel
theorem dX5_takes_93 : decode cX5_takes 93 = .ok (.iconst 0, 1) := by decide +kernel
theorem dX5_takes_94 : decode cX5_takes 94 = .ok (.iadd, 1) := by decide +kernel
theorem dX5_takes_95 : decode cX5_takes 95 = .ok (.iaload, 1) := by decide +kernel
theorem dX5_takes_96 : decode cX5_takes 96 = .ok (.iadd, 1) := by decide +kernel
theorem dX5_takes_97 : decode cX5_takes 97 = .ok (.iastore, 1) := by decide +kernel
theorem dX5_takes_98 : decode cX5_takes 98 = .ok (.aload_n 0, 1) := by decide +kernel
theorem dX5_takes_99 : decode cX5_takes 99 = .ok (.getfield 7, 3) := by decide +kernel
theorem dX5_takes_102 : decode cX5_takes 102 = .ok (.iload_n 3, 1) := by decide +kernel
theorem dX5_takes_103 : decode cX5_takes 103 = .ok (.bipush 6, 2) := by decide +kernel
theorem dX5_takes_105 : decode cX5_takes 105 = .ok (.iadd, 1) := by decide +kernel
theorem dX5_takes_106 : decode cX5_takes 106 = .ok (.dup2, 1) := by decide +kernel
theorem dX5_takes_107 : decode cX5_takes 107 = .ok (.iaload, 1) := by decide +kernel
theorem dX5_takes_108 : decode cX5_takes 108 = .ok (.iconst 1, 1) := by decide +kernel
theorem dX5_takes_109 : decode cX5_takes 109 = .ok (.iadd, 1) := by decide +kernel
theorem dX5_takes_110 : decode cX5_takes 110 = .ok (.iastore, 1) := by decide +kernel
theorem dX5_takes_111 : decode cX5_takes 111 = .ok (.aload_n 0, 1) := by decide +kernel
theorem dX5_takes_112 : decode cX5_takes 112 = .ok (.getfield 7, 3) := by decide +kernel
theorem dX5_takes_115 : decode cX5_takes 115 = .ok (.iload_n 3, 1) := by decide +kernel
theorem dX5_takes_116 : decode cX5_takes 116 = .ok (.iconst 5, 1) := by decide +kernel
theorem dX5_takes_117 : decode cX5_takes 117 = .ok (.iadd, 1) := by decide +kernel
theorem dX5_takes_118 : decode cX5_takes 118 = .ok (.dup2, 1) := by decide +kernel
theorem dX5_takes_119 : decode cX5_takes 119 = .ok (.iaload, 1) := by decide +kernel
theorem dX5_takes_120 : decode cX5_takes 120 = .ok (.iconst 1, 1) := by decide +kernel
theorem dX5_takes_121 : decode cX5_takes 121 = .ok (.iadd, 1) := by decide +kernel
theorem dX5_takes_122 : decode cX5_takes 122 = .ok (.iastore, 1) := by decide +kernel
theorem dX5_takes_123 : decode cX5_takes 123 = .ok (.aload_n 0, 1) := by decide +kernel
theorem dX5_takes_124 : decode cX5_takes 124 = .ok (.getfield 7, 3) := by decide +kernel
theorem dX5_takes_127 : decode cX5_takes 127 = .ok (.bipush 13, 2) := by decide +kernel
theorem dX5_takes_129 : decode cX5_takes 129 = .ok (.dup2, 1) := by decide +kernel
theorem dX5_takes_130 : decode cX5_takes 130 = .ok (.iaload, 1) := by decide +kernel
theorem dX5_takes_131 : decode cX5_takes 131 = .ok (.iconst 1, 1) := by decide +kernel
theorem dX5_takes_132 : decode cX5_takes 132 = .ok (.iadd, 1) := by decide +kernel
theorem dX5_takes_133 : decode cX5_takes 133 = .ok (.iastore, 1) := by decide +kernel
theorem dX5_takes_134 : decode cX5_takes 134 = .ok (.aload_n 0, 1) := by decide +kernel
theorem dX5_takes_135 : decode cX5_takes 135 = .ok (.getfield 7, 3) := by decide +kernel
theorem dX5_takes_138 : decode cX5_takes 138 = .ok (.iload_n 3, 1) := by decide +kernel
theorem dX5_takes_139 : decode cX5_takes 139 = .ok (.iconst 5, 1) := by decide +kernel
theorem dX5_takes_140 : decode cX5_takes 140 = .ok (.iadd, 1) := by decide +kernel
theorem dX5_takes_141 : decode cX5_takes 141 = .ok (.iaload, 1) := by decide +kernel
theorem dX5_takes_142 : decode cX5_takes 142 = .ok (.iconst 1, 1) := by decide +kernel
theorem dX5_takes_143 : decode cX5_takes 143 = .ok (.isub, 1) := by decide +kernel
theorem dX5_takes_144 : decode cX5_takes 144 = .ok (.ireturn, 1) := by decide +kernel
theorem dX5_link_0 : decode cX5_link 0 = .ok (.aload_n 0, 1) := by decide +kernel
theorem dX5_link_1 : decode cX5_link 1 = .ok (.iload_n 1, 1) := by decide +kernel
theorem dX5_link_2 : decode cX5_link 2 = .ok (.invokestatic 96, 3) := by decide +kernel
theorem dX5_link_5 : decode cX5_link 5 = .ok (.ifCond .eq 14, 3) := by decide +kernel
theorem dX5_link_8 : decode cX5_link 8 = .ok (.iload_n 2, 1) := by decide +kernel
theorem dX5_link_9 : decode cX5_link 9 = .ok (.invokestatic 96, 3) := by decide +kernel
theorem dX5_link_12 : decode cX5_link 12 = .ok (.ifCond .eq 7, 3) := by decide +kernel
theorem dX5_link_15 : decode cX5_link 15 = .ok (.iconst 1, 1) := by decide +kernel
theorem dX5_link_16 : decode cX5_link 16 = .ok (.goto 4, 3) := by decide +kernel
theorem dX5_link_19 : decode cX5_link 19 = .ok (.iconst 0, 1) := by decide +kernel
theorem dX5_link_20 : decode cX5_link 20 = .ok (.iload_n 1, 1) := by decide +kernel
theorem dX5_link_21 : decode cX5_link 21 = .ok (.iload_n 2, 1) := by decide +kernel
theorem dX5_link_22 : decode cX5_link 22 = .ok (.if_icmp .eq 7, 3) := by decide +kernel
theorem dX5_link_25 : decode cX5_link 25 = .ok (.iconst 1, 1) := by decide +kernel
theorem dX5_link_26 : decode cX5_link 26 = .ok (.goto 4, 3) := by decide +kernel
theorem dX5_link_29 : decode cX5_link 29 = .ok (.iconst 0, 1) := by decide +kernel
theorem dX5_link_30 : decode cX5_link 30 = .ok (.iconst 1, 1) := by decide +kernel
theorem dX5_link_31 : decode cX5_link 31 = .ok (.invokevirtual 100, 3) := by decide +kernel
theorem dX5_link_34 : decode cX5_link 34 = .ok (.ifCond .ne 5, 3) := by decide +kernel
theorem dX5_link_37 : decode cX5_link 37 = .ok (.iconst 0, 1) := by decide +kernel
theorem dX5_link_38 : decode cX5_link 38 = .ok (.ireturn, 1) := by decide +kernel
theorem dX5_link_39 : decode cX5_link 39 = .ok (.aload_n 0, 1) := by decide +kernel
theorem dX5_link_40 : decode cX5_link 40 = .ok (.invokevirtual 104, 3) := by decide +kernel
theorem dX5_link_43 : decode cX5_link 43 = .ok (.aload_n 0, 1) := by decide +kernel
theorem dX5_link_44 : decode cX5_link 44 = .ok (.iload_n 1, 1) := by decide +kernel
theorem dX5_link_45 : decode cX5_link 45 = .ok (.iload_n 2, 1) := by decide +kernel
theorem dX5_link_46 : decode cX5_link 46 = .ok (.iload_n 3, 1) := by decide +kernel
theorem dX5_link_47 : decode cX5_link 47 = .ok (.invokevirtual 107, 3) := by decide +kernel
theorem dX5_link_50 : decode cX5_link 50 = .ok (.ireturn, 1) := by decide +kernel
theorem dX5_power_0 : decode cX5_power 0 = .ok (.aload_n 0, 1) := by decide +kernel
theorem dX5_power_1 : decode cX5_power 1 = .ok (.iload_n 1, 1) := by decide +kernel
theorem dX5_power_2 : decode cX5_power 2 = .ok (.invokestatic 96, 3) := by decide +kernel
theorem dX5_power_5 : decode cX5_power 5 = .ok (.iconst 1, 1) := by decide +kernel
theorem dX5_power_6 : decode cX5_power 6 = .ok (.iconst 1, 1) := by decide +kernel
theorem dX5_power_7 : decode cX5_power 7 = .ok (.invokevirtual 100, 3) := by decide +kernel
theorem dX5_power_10 : decode cX5_power 10 = .ok (.ifCond .ne 5, 3) := by decide +kernel
theorem dX5_power_13 : decode cX5_power 13 = .ok (.iconst 0, 1) := by decide +kernel
theorem dX5_power_14 : decode cX5_power 14 = .ok (.ireturn, 1) := by decide +kernel
theorem dX5_power_15 : decode cX5_power 15 = .ok (.aload_n 0, 1) := by decide +kernel
theorem dX5_power_16 : decode cX5_power 16 = .ok (.invokevirtual 104, 3) := by decide +kernel
theorem dX5_power_19 : decode cX5_power 19 = .ok (.aload_n 0, 1) := by decide +kernel
theorem dX5_power_20 : decode cX5_power 20 = .ok (.iload_n 1, 1) := by decide +kernel
theorem dX5_power_21 : decode cX5_power 21 = .ok (.iload_n 2, 1) := by decide +kernel
theorem dX5_power_22 : decode cX5_power 22 = .ok (.invokevirtual 111, 3) := by decide +kernel
theorem dX5_power_25 : decode cX5_power 25 = .ok (.ireturn, 1) := by decide +kernel
theorem dX5_jump_0 : decode cX5_jump 0 = .ok (.aload_n 0, 1) := by decide +kernel
theorem dX5_jump_1 : decode cX5_jump 1 = .ok (.iload_n 1, 1) := by decide +kernel
theorem dX5_jump_2 : decode cX5_jump 2 = .ok (.invokestatic 115, 3) := by decide +kernel
theorem dX5_jump_5 : decode cX5_jump 5 = .ok (.iload_n 2, 1) := by decide +kernel
theorem dX5_jump_6 : decode cX5_jump 6 = .ok (.bipush (-100), 2) := by decide +kernel
theorem dX5_jump_8 : decode cX5_jump 8 = .ok (.bipush 100, 2) := by decide +kernel
theorem dX5_jump_10 : decode cX5_jump 10 = .ok (.invokestatic 28, 3) := by decide +kernel
theorem dX5_jump_13 : decode cX5_jump 13 = .ok (.iconst 1, 1) := by decide +kernel
theorem dX5_jump_14 : decode cX5_jump 14 = .ok (.invokevirtual 100, 3) := by decide +kernel
theorem dX5_jump_17 : decode cX5_jump 17 = .ok (.ifCond .ne 5, 3) := by decide +kernel
theorem dX5_jump_20 : decode cX5_jump 20 = .ok (.iconst 0, 1) := by decide +kernel
theorem dX5_jump_21 : decode cX5_jump 21 = .ok (.ireturn, 1) := by decide +kernel
theorem dX5_jump_22 : decode cX5_jump 22 = .ok (.aload_n 0, 1) := by decide +kernel
theorem dX5_jump_23 : decode cX5_jump 23 = .ok (.invokevirtual 104, 3) := by decide +kernel
theorem dX5_jump_26 : decode cX5_jump 26 = .ok (.aload_n 0, 1) := by decide +kernel
theorem dX5_jump_27 : decode cX5_jump 27 = .ok (.getfield 7, 3) := by decide +kernel
theorem dX5_jump_30 : decode cX5_jump 30 = .ok (.iconst 0, 1) := by decide +kernel
theorem dX5_jump_31 : decode cX5_jump 31 = .ok (.iload_n 1, 1) := by decide +kernel
theorem dX5_jump_32 : decode cX5_jump 32 = .ok (.invokestatic 20, 3) := by decide +kernel
theorem dX5_jump_35 : decode cX5_jump 35 = .ok (.iconst 0, 1) := by decide +kernel
theorem dX5_jump_36 : decode cX5_jump 36 = .ok (.iadd, 1) := by decide +kernel
theorem dX5_jump_37 : decode cX5_jump 37 = .ok (.dup2, 1) := by decide +kernel
theorem dX5_jump_38 : decode cX5_jump 38 = .ok (.iaload, 1) := by decide +kernel
theorem dX5_jump_39 : decode cX5_jump 39 = .ok (.iload_n 2, 1) := by decide +kernel
theorem dX5_jump_40 : decode cX5_jump 40 = .ok (.iadd, 1) := by decide +kernel
theorem dX5_jump_41 : decode cX5_jump 41 = .ok (.iastore, 1) := by decide +kernel
theorem dX5_jump_42 : decode cX5_jump 42 = .ok (.aload_n 0, 1) := by decide +kernel
theorem dX5_jump_43 : decode cX5_jump 43 = .ok (.getfield 7, 3) := by decide +kernel
theorem dX5_jump_46 : decode cX5_jump 46 = .ok (.iconst 0, 1) := by decide +kernel
theorem dX5_jump_47 : decode cX5_jump 47 = .ok (.iload_n 1, 1) := by decide +kernel
theorem dX5_jump_48 : decode cX5_jump 48 = .ok (.invokestatic 20, 3) := by decide +kernel
theorem dX5_jump_51 : decode cX5_jump 51 = .ok (.iconst 0, 1) := by decide +kernel
theorem dX5_jump_52 : decode cX5_jump 52 = .ok (.iadd, 1) := by decide +kernel
theorem dX5_jump_53 : decode cX5_jump 53 = .ok (.iaload, 1) := by decide +kernel
theorem dX5_jump_54 : decode cX5_jump 54 = .ok (.ireturn, 1) := by decide +kernel
theorem dX5_sets_0 : decode cX5_sets 0 = .ok (.aload_n 0, 1) := by decide +kernel
theorem dX5_sets_1 : decode cX5_sets 1 = .ok (.invokevirtual 104, 3) := by decide +kernel
theorem dX5_sets_4 : decode cX5_sets 4 = .ok (.aload_n 0, 1) := by decide +kernel
theorem dX5_sets_5 : decode cX5_sets 5 = .ok (.getfield 7, 3) := by decide +kernel
theorem dX5_sets_8 : decode cX5_sets 8 = .ok (.iload_n 1, 1) := by decide +kernel
theorem dX5_sets_9 : decode cX5_sets 9 = .ok (.iaload, 1) := by decide +kernel
theorem dX5_sets_10 : decode cX5_sets 10 = .ok (.istore_n 3, 1) := by decide +kernel
theorem dX5_sets_11 : decode cX5_sets 11 = .ok (.aload_n 0, 1) := by decide +kernel
theorem dX5_sets_12 : decode cX5_sets 12 = .ok (.getfield 7, 3) := by decide +kernel
theorem dX5_sets_15 : decode cX5_sets 15 = .ok (.iload_n 1, 1) := by decide +kernel
theorem dX5_sets_16 : decode cX5_sets 16 = .ok (.iload_n 2, 1) := by decide +kernel
theorem dX5_sets_17 : decode cX5_sets 17 = .ok (.iastore, 1) := by decide +kernel
theorem dX5_sets_18 : decode cX5_sets 18 = .ok (.iload_n 3, 1) := by decide +kernel
theorem dX5_sets_19 : decode cX5_sets 19 = .ok (.ireturn, 1) := by decide +kernel
theorem dX5_setFaults_0 : decode cX5_setFaults 0 = .ok (.aload_n 0, 1) := by decide +kernel
theorem dX5_setFaults_1 : decode cX5_setFaults 1 = .ok (.iload_n 1, 1) := by decide +kernel
theorem dX5_setFaults_2 : decode cX5_setFaults 2 = .ok (.invokestatic 115, 3) := by decide +kernel
theorem dX5_setFaults_5 : decode cX5_setFaults 5 = .ok (.iload_n 2, 1) := by decide +kernel
theorem dX5_setFaults_6 : decode cX5_setFaults 6 = .ok (.iconst 0, 1) := by decide +kernel
theorem dX5_setFaults_7 : decode cX5_setFaults 7 = .ok (.bipush 9, 2) := by decide +kernel
theorem dX5_setFaults_9 : decode cX5_setFaults 9 = .ok (.invokestatic 28, 3) := by decide +kernel
theorem dX5_setFaults_12 : decode cX5_setFaults 12 = .ok (.iconst 1, 1) := by decide +kernel
theorem dX5_setFaults_13 : decode cX5_setFaults 13 = .ok (.invokevirtual 100, 3) := by decide +kernel
theorem dX5_setFaults_16 : decode cX5_setFaults 16 = .ok (.ifCond .eq 18, 3) := by decide +kernel
theorem dX5_setFaults_19 : decode cX5_setFaults 19 = .ok (.aload_n 0, 1) := by decide +kernel
theorem dX5_setFaults_20 : decode cX5_setFaults 20 = .ok (.iconst 0, 1) := by decide +kernel
theorem dX5_setFaults_21 : decode cX5_setFaults 21 = .ok (.iload_n 1, 1) := by decide +kernel
theorem dX5_setFaults_22 : decode cX5_setFaults 22 = .ok (.invokestatic 20, 3) := by decide +kernel
theorem dX5_setFaults_25 : decode cX5_setFaults 25 = .ok (.iconst 4, 1) := by decide +kernel
theorem dX5_setFaults_26 : decode cX5_setFaults 26 = .ok (.iadd, 1) := by decide +kernel
theorem dX5_setFaults_27 : decode cX5_setFaults 27 = .ok (.iload_n 2, 1) := by decide +kernel
theorem dX5_setFaults_28 : decode cX5_setFaults 28 = .ok (.invokevirtual 118, 3) := by decide +kernel
theorem dX5_setFaults_31 : decode cX5_setFaults 31 = .ok (.goto 4, 3) := by decide +kernel
theorem dX5_setFaults_34 : decode cX5_setFaults 34 = .ok (.iconst 0, 1) := by decide +kernel
theorem dX5_setFaults_35 : decode cX5_setFaults 35 = .ok (.ireturn, 1) := by decide +kernel
theorem dX5_setPatience_0 : decode cX5_setPatience 0 = .ok (.aload_n 0, 1) := by decide +kernel
theorem dX5_setPatience_1 : decode cX5_setPatience 1 = .ok (.iload_n 1, 1) := by decide +kernel
theorem dX5_setPatience_2 : decode cX5_setPatience 2 = .ok (.iconst 1, 1) := by decide +kernel
theorem dX5_setPatience_3 : decode cX5_setPatience 3 = .ok (.iconst 5, 1) := by decide +kernel
theorem dX5_setPatience_4 : decode cX5_setPatience 4 = .ok (.invokestatic 28, 3) := by decide +kernel
theorem dX5_setPatience_7 : decode cX5_setPatience 7 = .ok (.iconst 1, 1) := by decide +kernel
theorem dX5_setPatience_8 : decode cX5_setPatience 8 = .ok (.iconst 1, 1) := by decide +kernel
theorem dX5_setPatience_9 : decode cX5_setPatience 9 = .ok (.invokevirtual 100, 3) := by decide +kernel
theorem dX5_setPatience_12 : decode cX5_setPatience 12 = .ok (.ifCond .eq 13, 3) := by decide +kernel
theorem dX5_setPatience_15 : decode cX5_setPatience 15 = .ok (.aload_n 0, 1) := by decide +kernel
theorem dX5_setPatience_16 : decode cX5_setPatience 16 = .ok (.bipush 11, 2) := by decide +kernel
theorem dX5_setPatience_18 : decode cX5_setPatience 18 = .ok (.iload_n 1, 1) := by decide +kernel
theorem dX5_setPatience_19 : decode cX5_setPatience 19 = .ok (.invokevirtual 118, 3) := by decide +kernel
theorem dX5_setPatience_22 : decode cX5_setPatience 22 = .ok (.goto 4, 3) := by decide +kernel
theorem dX5_setPatience_25 : decode cX5_setPatience 25 = .ok (.iconst 0, 1) := by decide +kernel
theorem dX5_setPatience_26 : decode cX5_setPatience 26 = .ok (.ireturn, 1) := by decide +kernel
theorem dX5_take_0 : decode cX5_take 0 = .ok (.aload_n 0, 1) := by decide +kernel
theorem dX5_take_1 : decode cX5_take 1 = .ok (.iload_n 1, 1) := by decide +kernel
theorem dX5_take_2 : decode cX5_take 2 = .ok (.invokestatic 115, 3) := by decide +kernel
theorem dX5_take_5 : decode cX5_take 5 = .ok (.iload_n 2, 1) := by decide +kernel
theorem dX5_take_6 : decode cX5_take 6 = .ok (.iconst 0, 1) := by decide +kernel
theorem dX5_take_7 : decode cX5_take 7 = .ok (.sipush 999, 3) := by decide +kernel
theorem dX5_take_10 : decode cX5_take 10 = .ok (.invokestatic 28, 3) := by decide +kernel
theorem dX5_take_13 : decode cX5_take 13 = .ok (.iload_n 1, 1) := by decide +kernel
theorem dX5_take_14 : decode cX5_take 14 = .ok (.invokestatic 115, 3) := by decide +kernel
theorem dX5_take_17 : decode cX5_take 17 = .ok (.ifCond .eq 15, 3) := by decide +kernel
theorem dX5_take_20 : decode cX5_take 20 = .ok (.aload_n 0, 1) := by decide +kernel
theorem dX5_take_21 : decode cX5_take 21 = .ok (.iload_n 1, 1) := by decide +kernel
theorem dX5_take_22 : decode cX5_take 22 = .ok (.invokevirtual 121, 3) := by decide +kernel
theorem dX5_take_25 : decode cX5_take 25 = .ok (.ifCond .eq 7, 3) := by decide +kernel
theorem dX5_take_28 : decode cX5_take 28 = .ok (.iconst 1, 1) := by decide +kernel
theorem dX5_take_29 : decode cX5_take 29 = .ok (.goto 4, 3) := by decide +kernel
theorem dX5_take_32 : decode cX5_take 32 = .ok (.iconst 0, 1) := by decide +kernel
theorem dX5_take_33 : decode cX5_take 33 = .ok (.invokevirtual 100, 3) := by decide +kernel
theorem dX5_take_36 : decode cX5_take 36 = .ok (.ifCond .ne 5, 3) := by decide +kernel
theorem dX5_take_39 : decode cX5_take 39 = .ok (.iconst 0, 1) := by decide +kernel
theorem dX5_take_40 : decode cX5_take 40 = .ok (.ireturn, 1) := by decide +kernel
theorem dX5_take_41 : decode cX5_take 41 = .ok (.aload_n 0, 1) := by decide +kernel
theorem dX5_take_42 : decode cX5_take 42 = .ok (.invokevirtual 104, 3) := by decide +kernel
theorem dX5_take_45 : decode cX5_take 45 = .ok (.aload_n 0, 1) := by decide +kernel
theorem dX5_take_46 : decode cX5_take 46 = .ok (.iload_n 1, 1) := by decide +kernel
theorem dX5_take_47 : decode cX5_take 47 = .ok (.iload_n 2, 1) := by decide +kernel
theorem dX5_take_48 : decode cX5_take 48 = .ok (.invokevirtual 124, 3) := by decide +kernel
theorem dX5_take_51 : decode cX5_take 51 = .ok (.ireturn, 1) := by decide +kernel
theorem dX5_run_0 : decode cX5_run 0 = .ok (.aload_n 0, 1) := by decide +kernel
theorem dX5_run_1 : decode cX5_run 1 = .ok (.iload_n 1, 1) := by decide +kernel
theorem dX5_run_2 : decode cX5_run 2 = .ok (.iconst 1, 1) := by decide +kernel
theorem dX5_run_3 : decode cX5_run 3 = .ok (.bipush 100, 2) := by decide +kernel
theorem dX5_run_5 : decode cX5_run 5 = .ok (.invokestatic 28, 3) := by decide +kernel
theorem dX5_run_8 : decode cX5_run 8 = .ok (.iconst 1, 1) := by decide +kernel
theorem dX5_run_9 : decode cX5_run 9 = .ok (.iconst 1, 1) := by decide +kernel
theorem dX5_run_10 : decode cX5_run 10 = .ok (.invokevirtual 100, 3) := by decide +kernel
theorem dX5_run_13 : decode cX5_run 13 = .ok (.ifCond .ne 5, 3) := by decide +kernel
theorem dX5_run_16 : decode cX5_run 16 = .ok (.iconst 0, 1) := by decide +kernel
theorem dX5_run_17 : decode cX5_run 17 = .ok (.ireturn, 1) := by decide +kernel
theorem dX5_run_18 : decode cX5_run 18 = .ok (.aload_n 0, 1) := by decide +kernel
theorem dX5_run_19 : decode cX5_run 19 = .ok (.invokevirtual 104, 3) := by decide +kernel
theorem dX5_run_22 : decode cX5_run 22 = .ok (.aload_n 0, 1) := by decide +kernel
theorem dX5_run_23 : decode cX5_run 23 = .ok (.iconst 0, 1) := by decide +kernel
theorem dX5_run_24 : decode cX5_run 24 = .ok (.iload_n 1, 1) := by decide +kernel
theorem dX5_run_25 : decode cX5_run 25 = .ok (.invokevirtual 127, 3) := by decide +kernel
theorem dX5_run_28 : decode cX5_run 28 = .ok (.ireturn, 1) := by decide +kernel
theorem dX5_appendText_0 : decode cX5_appendText 0 = .ok (.aload_n 0, 1) := by decide +kernel
theorem dX5_appendText_1 : decode cX5_appendText 1 = .ok (.iload_n 1, 1) := by decide +kernel
theorem dX5_appendText_2 : decode cX5_appendText 2 = .ok (.bipush 32, 2) := by decide +kernel
theorem dX5_appendText_4 : decode cX5_appendText 4 = .ok (.bipush 126, 2) := by decide +kernel
theorem dX5_appendText_6 : decode cX5_appendText 6 = .ok (.invokestatic 28, 3) := by decide +kernel
theorem dX5_appendText_9 : decode cX5_appendText 9 = .ok (.aload_n 0, 1) := by decide +kernel
theorem dX5_appendText_10 : decode cX5_appendText 10 = .ok (.getfield 130, 3) := by decide +kernel
theorem dX5_appendText_13 : decode cX5_appendText 13 = .ok (.bipush 80, 2) := by decide +kernel
theorem dX5_appendText_15 : decode cX5_appendText 15 = .ok (.if_icmp .ge 7, 3) := by decide +kernel
theorem dX5_appendText_18 : decode cX5_appendText 18 = .ok (.iconst 1, 1) := by decide +kernel
theorem dX5_appendText_19 : decode cX5_appendText 19 = .ok (.goto 4, 3) := by decide +kernel
theorem dX5_appendText_22 : decode cX5_appendText 22 = .ok (.iconst 0, 1) := by decide +kernel
theorem dX5_appendText_23 : decode cX5_appendText 23 = .ok (.iconst 1, 1) := by decide +kernel
theorem dX5_appendText_24 : decode cX5_appendText 24 = .ok (.invokevirtual 100, 3) := by decide +kernel
theorem dX5_appendText_27 : decode cX5_appendText 27 = .ok (.ifCond .ne 5, 3) := by decide +kernel
theorem dX5_appendText_30 : decode cX5_appendText 30 = .ok (.iconst 0, 1) := by decide +kernel
theorem dX5_appendText_31 : decode cX5_appendText 31 = .ok (.ireturn, 1) := by decide +kernel
theorem dX5_appendText_32 : decode cX5_appendText 32 = .ok (.aload_n 0, 1) := by decide +kernel
theorem dX5_appendText_33 : decode cX5_appendText 33 = .ok (.getfield 13, 3) := by decide +kernel
theorem dX5_appendText_36 : decode cX5_appendText 36 = .ok (.aload_n 0, 1) := by decide +kernel
theorem dX5_appendText_37 : decode cX5_appendText 37 = .ok (.getfield 130, 3) := by decide +kernel
theorem dX5_appendText_40 : decode cX5_appendText 40 = .ok (.iload_n 1, 1) := by decide +kernel
theorem dX5_appendText_41 : decode cX5_appendText 41 = .ok (.i2c, 1) := by decide +kernel
theorem dX5_appendText_42 : decode cX5_appendText 42 = .ok (.castore, 1) := by decide +kernel
theorem dX5_appendText_43 : decode cX5_appendText 43 = .ok (.aload_n 0, 1) := by decide +kernel
theorem dX5_appendText_44 : decode cX5_appendText 44 = .ok (.dup, 1) := by decide +kernel
theorem dX5_appendText_45 : decode cX5_appendText 45 = .ok (.getfield 130, 3) := by decide +kernel
theorem dX5_appendText_48 : decode cX5_appendText 48 = .ok (.iconst 1, 1) := by decide +kernel
theorem dX5_appendText_49 : decode cX5_appendText 49 = .ok (.iadd, 1) := by decide +kernel
theorem dX5_appendText_50 : decode cX5_appendText 50 = .ok (.putfield 130, 3) := by decide +kernel
theorem dX5_appendText_53 : decode cX5_appendText 53 = .ok (.aload_n 0, 1) := by decide +kernel
theorem dX5_appendText_54 : decode cX5_appendText 54 = .ok (.getfield 130, 3) := by decide +kernel
theorem dX5_appendText_57 : decode cX5_appendText 57 = .ok (.ireturn, 1) := by decide +kernel
theorem dX5_clearText_0 : decode cX5_clearText 0 = .ok (.aload_n 0, 1) := by decide +kernel
theorem dX5_clearText_1 : decode cX5_clearText 1 = .ok (.iconst 0, 1) := by decide +kernel
theorem dX5_clearText_2 : decode cX5_clearText 2 = .ok (.putfield 24, 3) := by decide +kernel
theorem dX5_clearText_5 : decode cX5_clearText 5 = .ok (.aload_n 0, 1) := by decide +kernel
theorem dX5_clearText_6 : decode cX5_clearText 6 = .ok (.getfield 130, 3) := by decide +kernel
theorem dX5_clearText_9 : decode cX5_clearText 9 = .ok (.istore_n 1, 1) := by decide +kernel
theorem dX5_clearText_10 : decode cX5_clearText 10 = .ok (.aload_n 0, 1) := by decide +kernel
theorem dX5_clearText_11 : decode cX5_clearText 11 = .ok (.iconst 0, 1) := by decide +kernel
theorem dX5_clearText_12 : decode cX5_clearText 12 = .ok (.putfield 130, 3) := by decide +kernel
theorem dX5_clearText_15 : decode cX5_clearText 15 = .ok (.iload_n 1, 1) := by decide +kernel
theorem dX5_clearText_16 : decode cX5_clearText 16 = .ok (.ireturn, 1) := by decide +kernel
theorem dX5_isHere_0 : decode cX5_isHere 0 = .ok (.aload_n 0, 1) := by decide +kernel
theorem dX5_isHere_1 : decode cX5_isHere 1 = .ok (.getfield 133, 3) := by decide +kernel
theorem dX5_isHere_4 : decode cX5_isHere 4 = .ok (.aload_n 0, 1) := by decide +kernel
theorem dX5_isHere_5 : decode cX5_isHere 5 = .ok (.getfield 130, 3) := by decide +kernel
theorem dX5_isHere_8 : decode cX5_isHere 8 = .ok (.if_icmp .ge 24, 3) := by decide +kernel
theorem dX5_isHere_11 : decode cX5_isHere 11 = .ok (.aload_n 0, 1) := by decide +kernel
theorem dX5_isHere_12 : decode cX5_isHere 12 = .ok (.getfield 13, 3) := by decide +kernel
theorem dX5_isHere_15 : decode cX5_isHere 15 = .ok (.aload_n 0, 1) := by decide +kernel
theorem dX5_isHere_16 : decode cX5_isHere 16 = .ok (.getfield 133, 3) := by decide +kernel
theorem dX5_isHere_19 : decode cX5_isHere 19 = .ok (.caload, 1) := by decide +kernel
theorem dX5_isHere_20 : decode cX5_isHere 20 = .ok (.iload_n 1, 1) := by decide +kernel
theorem dX5_isHere_21 : decode cX5_isHere 21 = .ok (.iload_n 2, 1) := by decide +kernel
theorem dX5_isHere_22 : decode cX5_isHere 22 = .ok (.invokestatic 28, 3) := by decide +kernel
theorem dX5_isHere_25 : decode cX5_isHere 25 = .ok (.ifCond .eq 7, 3) := by decide +kernel
theorem dX5_isHere_28 : decode cX5_isHere 28 = .ok (.iconst 1, 1) := by decide +kernel
theorem dX5_isHere_29 : decode cX5_isHere 29 = .ok (.goto 4, 3) := by decide +kernel
theorem dX5_isHere_32 : decode cX5_isHere 32 = .ok (.iconst 0, 1) := by decide +kernel
theorem dX5_isHere_33 : decode cX5_isHere 33 = .ok (.ireturn, 1) := by decide +kernel
theorem dX5_digit_0 : decode cX5_digit 0 = .ok (.aload_n 0, 1) := by decide +kernel
theorem dX5_digit_1 : decode cX5_digit 1 = .ok (.iload_n 1, 1) := by decide +kernel
theorem dX5_digit_2 : decode cX5_digit 2 = .ok (.bipush 57, 2) := by decide +kernel
theorem dX5_digit_4 : decode cX5_digit 4 = .ok (.invokevirtual 136, 3) := by decide +kernel
theorem dX5_digit_7 : decode cX5_digit 7 = .ok (.ifCond .eq 18, 3) := by decide +kernel
theorem dX5_digit_10 : decode cX5_digit 10 = .ok (.aload_n 0, 1) := by decide +kernel
theorem dX5_digit_11 : decode cX5_digit 11 = .ok (.getfield 13, 3) := by decide +kernel
theorem dX5_digit_14 : decode cX5_digit 14 = .ok (.aload_n 0, 1) := by decide +kernel
theorem dX5_digit_15 : decode cX5_digit 15 = .ok (.getfield 133, 3) := by decide +kernel
theorem dX5_digit_18 : decode cX5_digit 18 = .ok (.caload, 1) := by decide +kernel
theorem dX5_digit_19 : decode cX5_digit 19 = .ok (.bipush 48, 2) := by decide +kernel
theorem dX5_digit_21 : decode cX5_digit 21 = .ok (.isub, 1) := by decide +kernel
theorem dX5_digit_22 : decode cX5_digit 22 = .ok (.goto 4, 3) := by decide +kernel
theorem dX5_digit_25 : decode cX5_digit 25 = .ok (.iconst (-1), 1) := by decide +kernel
theorem dX5_digit_26 : decode cX5_digit 26 = .ok (.istore_n 2, 1) := by decide +kernel
theorem dX5_digit_27 : decode cX5_digit 27 = .ok (.aload_n 0, 1) := by decide +kernel
theorem dX5_digit_28 : decode cX5_digit 28 = .ok (.dup, 1) := by decide +kernel
theorem dX5_digit_29 : decode cX5_digit 29 = .ok (.getfield 133, 3) := by decide +kernel
theorem dX5_digit_32 : decode cX5_digit 32 = .ok (.iload_n 2, 1) := by decide +kernel
theorem dX5_digit_33 : decode cX5_digit 33 = .ok (.iconst (-1), 1) := by decide +kernel
theorem dX5_digit_34 : decode cX5_digit 34 = .ok (.if_icmp .ne 7, 3) := by decide +kernel
theorem dX5_digit_37 : decode cX5_digit 37 = .ok (.iconst 0, 1) := by decide +kernel
theorem dX5_digit_38 : decode cX5_digit 38 = .ok (.goto 4, 3) := by decide +kernel
theorem dX5_digit_41 : decode cX5_digit 41 = .ok (.iconst 1, 1) := by decide +kernel
theorem dX5_digit_42 : decode cX5_digit 42 = .ok (.iadd, 1) := by decide +kernel
theorem dX5_digit_43 : decode cX5_digit 43 = .ok (.putfield 133, 3) := by decide +kernel
theorem dX5_digit_46 : decode cX5_digit 46 = .ok (.iload_n 2, 1) := by decide +kernel
theorem dX5_digit_47 : decode cX5_digit 47 = .ok (.ireturn, 1) := by decide +kernel
theorem dX5_number_0 : decode cX5_number 0 = .ok (.aload_n 0, 1) := by decide +kernel
theorem dX5_number_1 : decode cX5_number 1 = .ok (.iload_n 1, 1) := by decide +kernel
theorem dX5_number_2 : decode cX5_number 2 = .ok (.ifCond .ne 8, 3) := by decide +kernel
theorem dX5_number_5 : decode cX5_number 5 = .ok (.bipush 48, 2) := by decide +kernel
theorem dX5_number_7 : decode cX5_number 7 = .ok (.goto 5, 3) := by decide +kernel
theorem dX5_number_10 : decode cX5_number 10 = .ok (.bipush 49, 2) := by decide +kernel
theorem dX5_number_12 : decode cX5_number 12 = .ok (.invokevirtual 140, 3) := by decide +kernel
theorem dX5_number_15 : decode cX5_number 15 = .ok (.istore_n 3, 1) := by decide +kernel
theorem dX5_number_16 : decode cX5_number 16 = .ok (.iload_n 3, 1) := by decide +kernel
theorem dX5_number_17 : decode cX5_number 17 = .ok (.ifCond .le 66, 3) := by decide +kernel
theorem dX5_number_20 : decode cX5_number 20 = .ok (.aload_n 0, 1) := by decide +kernel
theorem dX5_number_21 : decode cX5_number 21 = .ok (.bipush 48, 2) := by decide +kernel
theorem dX5_number_23 : decode cX5_number 23 = .ok (.bipush 57, 2) := by decide +kernel
theorem dX5_number_25 : decode cX5_number 25 = .ok (.invokevirtual 136, 3) := by decide +kernel
theorem dX5_number_28 : decode cX5_number 28 = .ok (.ifCond .eq 55, 3) := by decide +kernel
theorem dX5_number_31 : decode cX5_number 31 = .ok (.bipush 10, 2) := by decide +kernel
theorem dX5_number_33 : decode cX5_number 33 = .ok (.iload_n 3, 1) := by decide +kernel
theorem dX5_number_34 : decode cX5_number 34 = .ok (.imul, 1) := by decide +kernel
theorem dX5_number_35 : decode cX5_number 35 = .ok (.aload_n 0, 1) := by decide +kernel
theorem dX5_number_36 : decode cX5_number 36 = .ok (.getfield 13, 3) := by decide +kernel
theorem dX5_number_39 : decode cX5_number 39 = .ok (.aload_n 0, 1) := by decide +kernel
theorem dX5_number_40 : decode cX5_number 40 = .ok (.getfield 133, 3) := by decide +kernel
theorem dX5_number_43 : decode cX5_number 43 = .ok (.caload, 1) := by decide +kernel
theorem dX5_number_44 : decode cX5_number 44 = .ok (.iadd, 1) := by decide +kernel
theorem dX5_number_45 : decode cX5_number 45 = .ok (.bipush 48, 2) := by decide +kernel
theorem dX5_number_47 : decode cX5_number 47 = .ok (.isub, 1) := by decide +kernel
theorem dX5_number_48 : decode cX5_number 48 = .ok (.iload_n 2, 1) := by decide +kernel
theorem dX5_number_49 : decode cX5_number 49 = .ok (.if_icmp .gt 34, 3) := by decide +kernel
theorem dX5_number_52 : decode cX5_number 52 = .ok (.bipush 10, 2) := by decide +kernel
theorem dX5_number_54 : decode cX5_number 54 = .ok (.iload_n 3, 1) := by decide +kernel
theorem dX5_number_55 : decode cX5_number 55 = .ok (.imul, 1) := by decide +kernel
theorem dX5_number_56 : decode cX5_number 56 = .ok (.aload_n 0, 1) := by decide +kernel
theorem dX5_number_57 : decode cX5_number 57 = .ok (.getfield 13, 3) := by decide +kernel
theorem dX5_number_60 : decode cX5_number 60 = .ok (.aload_n 0, 1) := by decide +kernel
theorem dX5_number_61 : decode cX5_number 61 = .ok (.getfield 133, 3) := by decide +kernel
theorem dX5_number_64 : decode cX5_number 64 = .ok (.caload, 1) := by decide +kernel
theorem dX5_number_65 : decode cX5_number 65 = .ok (.iadd, 1) := by decide +kernel
theorem dX5_number_66 : decode cX5_number 66 = .ok (.bipush 48, 2) := by decide +kernel
theorem dX5_number_68 : decode cX5_number 68 = .ok (.isub, 1) := by decide +kernel
theorem dX5_number_69 : decode cX5_number 69 = .ok (.istore_n 3, 1) := by decide +kernel
theorem dX5_number_70 : decode cX5_number 70 = .ok (.aload_n 0, 1) := by decide +kernel
theorem dX5_number_71 : decode cX5_number 71 = .ok (.dup, 1) := by decide +kernel
theorem dX5_number_72 : decode cX5_number 72 = .ok (.getfield 133, 3) := by decide +kernel
theorem dX5_number_75 : decode cX5_number 75 = .ok (.iconst 1, 1) := by decide +kernel
theorem dX5_number_76 : decode cX5_number 76 = .ok (.iadd, 1) := by decide +kernel
theorem dX5_number_77 : decode cX5_number 77 = .ok (.putfield 133, 3) := by decide +kernel
theorem dX5_number_80 : decode cX5_number 80 = .ok (.goto (-64), 3) := by decide +kernel
theorem dX5_number_83 : decode cX5_number 83 = .ok (.iload_n 3, 1) := by decide +kernel
theorem dX5_number_84 : decode cX5_number 84 = .ok (.ireturn, 1) := by decide +kernel
theorem dX5_readsLink_0 : decode cX5_readsLink 0 = .ok (.aload_n 0, 1) := by decide +kernel
theorem dX5_readsLink_1 : decode cX5_readsLink 1 = .ok (.aload_n 0, 1) := by decide +kernel
theorem dX5_readsLink_2 : decode cX5_readsLink 2 = .ok (.bipush 48, 2) := by decide +kernel
theorem dX5_readsLink_4 : decode cX5_readsLink 4 = .ok (.invokevirtual 140, 3) := by decide +kernel
theorem dX5_readsLink_7 : decode cX5_readsLink 7 = .ok (.putfield 144, 3) := by decide +kernel
theorem dX5_readsLink_10 : decode cX5_readsLink 10 = .ok (.aload_n 0, 1) := by decide +kernel
theorem dX5_readsLink_11 : decode cX5_readsLink 11 = .ok (.getfield 144, 3) := by decide +kernel
theorem dX5_readsLink_14 : decode cX5_readsLink 14 = .ok (.iconst (-1), 1) := by decide +kernel
theorem dX5_readsLink_15 : decode cX5_readsLink 15 = .ok (.if_icmp .eq 33, 3) := by decide +kernel
theorem dX5_readsLink_18 : decode cX5_readsLink 18 = .ok (.aload_n 0, 1) := by decide +kernel
theorem dX5_readsLink_19 : decode cX5_readsLink 19 = .ok (.getfield 133, 3) := by decide +kernel
theorem dX5_readsLink_22 : decode cX5_readsLink 22 = .ok (.aload_n 0, 1) := by decide +kernel
theorem dX5_readsLink_23 : decode cX5_readsLink 23 = .ok (.getfield 130, 3) := by decide +kernel
theorem dX5_readsLink_26 : decode cX5_readsLink 26 = .ok (.if_icmp .ge 24, 3) := by decide +kernel
theorem dX5_readsLink_29 : decode cX5_readsLink 29 = .ok (.aload_n 0, 1) := by decide +kernel
theorem dX5_readsLink_30 : decode cX5_readsLink 30 = .ok (.getfield 13, 3) := by decide +kernel
theorem dX5_readsLink_33 : decode cX5_readsLink 33 = .ok (.aload_n 0, 1) := by decide +kernel
theorem dX5_readsLink_34 : decode cX5_readsLink 34 = .ok (.getfield 133, 3) := by decide +kernel
theorem dX5_readsLink_37 : decode cX5_readsLink 37 = .ok (.caload, 1) := by decide +kernel
theorem dX5_readsLink_38 : decode cX5_readsLink 38 = .ok (.bipush 48, 2) := by decide +kernel
theorem dX5_readsLink_40 : decode cX5_readsLink 40 = .ok (.isub, 1) := by decide +kernel
theorem dX5_readsLink_41 : decode cX5_readsLink 41 = .ok (.aload_n 0, 1) := by decide +kernel
theorem dX5_readsLink_42 : decode cX5_readsLink 42 = .ok (.getfield 144, 3) := by decide +kernel
theorem dX5_readsLink_45 : decode cX5_readsLink 45 = .ok (.if_icmp .ne 5, 3) := by decide +kernel
theorem dX5_readsLink_48 : decode cX5_readsLink 48 = .ok (.iconst 0, 1) := by decide +kernel
theorem dX5_readsLink_49 : decode cX5_readsLink 49 = .ok (.ireturn, 1) := by decide +kernel
theorem dX5_readsLink_50 : decode cX5_readsLink 50 = .ok (.aload_n 0, 1) := by decide +kernel
theorem dX5_readsLink_51 : decode cX5_readsLink 51 = .ok (.aload_n 0, 1) := by decide +kernel
theorem dX5_readsLink_52 : decode cX5_readsLink 52 = .ok (.bipush 48, 2) := by decide +kernel
theorem dX5_readsLink_54 : decode cX5_readsLink 54 = .ok (.invokevirtual 140, 3) := by decide +kernel
theorem dX5_readsLink_57 : decode cX5_readsLink 57 = .ok (.putfield 147, 3) := by decide +kernel
theorem dX5_readsLink_60 : decode cX5_readsLink 60 = .ok (.aload_n 0, 1) := by decide +kernel
theorem dX5_readsLink_61 : decode cX5_readsLink 61 = .ok (.getfield 147, 3) := by decide +kernel
theorem dX5_readsLink_64 : decode cX5_readsLink 64 = .ok (.iconst (-1), 1) := by decide +kernel
theorem dX5_readsLink_65 : decode cX5_readsLink 65 = .ok (.if_icmp .eq 7, 3) := by decide +kernel
theorem dX5_readsLink_68 : decode cX5_readsLink 68 = .ok (.iconst 1, 1) := by decide +kernel
theorem dX5_readsLink_69 : decode cX5_readsLink 69 = .ok (.goto 4, 3) := by decide +kernel
theorem dX5_readsLink_72 : decode cX5_readsLink 72 = .ok (.iconst 0, 1) := by decide +kernel
theorem dX5_readsLink_73 : decode cX5_readsLink 73 = .ok (.ireturn, 1) := by decide +kernel
theorem dX5_readsTake_0 : decode cX5_readsTake 0 = .ok (.aload_n 0, 1) := by decide +kernel
theorem dX5_readsTake_1 : decode cX5_readsTake 1 = .ok (.aload_n 0, 1) := by decide +kernel
theorem dX5_readsTake_2 : decode cX5_readsTake 2 = .ok (.bipush 49, 2) := by decide +kernel
theorem dX5_readsTake_4 : decode cX5_readsTake 4 = .ok (.invokevirtual 140, 3) := by decide +kernel
theorem dX5_readsTake_7 : decode cX5_readsTake 7 = .ok (.putfield 144, 3) := by decide +kernel
theorem dX5_readsTake_10 : decode cX5_readsTake 10 = .ok (.aload_n 0, 1) := by decide +kernel
theorem dX5_readsTake_11 : decode cX5_readsTake 11 = .ok (.getfield 144, 3) := by decide +kernel
theorem dX5_readsTake_14 : decode cX5_readsTake 14 = .ok (.iconst (-1), 1) := by decide +kernel
theorem dX5_readsTake_15 : decode cX5_readsTake 15 = .ok (.if_icmp .eq 14, 3) := by decide +kernel
theorem dX5_readsTake_18 : decode cX5_readsTake 18 = .ok (.aload_n 0, 1) := by decide +kernel
theorem dX5_readsTake_19 : decode cX5_readsTake 19 = .ok (.bipush 44, 2) := by decide +kernel
theorem dX5_readsTake_21 : decode cX5_readsTake 21 = .ok (.bipush 44, 2) := by decide +kernel
theorem dX5_readsTake_23 : decode cX5_readsTake 23 = .ok (.invokevirtual 136, 3) := by decide +kernel
theorem dX5_readsTake_26 : decode cX5_readsTake 26 = .ok (.ifCond .ne 5, 3) := by decide +kernel
theorem dX5_readsTake_29 : decode cX5_readsTake 29 = .ok (.iconst 0, 1) := by decide +kernel
theorem dX5_readsTake_30 : decode cX5_readsTake 30 = .ok (.ireturn, 1) := by decide +kernel
theorem dX5_readsTake_31 : decode cX5_readsTake 31 = .ok (.aload_n 0, 1) := by decide +kernel
theorem dX5_readsTake_32 : decode cX5_readsTake 32 = .ok (.dup, 1) := by decide +kernel
theorem dX5_readsTake_33 : decode cX5_readsTake 33 = .ok (.getfield 133, 3) := by decide +kernel
theorem dX5_readsTake_36 : decode cX5_readsTake 36 = .ok (.iconst 1, 1) := by decide +kernel
theorem dX5_readsTake_37 : decode cX5_readsTake 37 = .ok (.iadd, 1) := by decide +kernel
theorem dX5_readsTake_38 : decode cX5_readsTake 38 = .ok (.putfield 133, 3) := by decide +kernel
theorem dX5_readsTake_41 : decode cX5_readsTake 41 = .ok (.aload_n 0, 1) := by decide +kernel
theorem dX5_readsTake_42 : decode cX5_readsTake 42 = .ok (.aload_n 0, 1) := by decide +kernel
theorem dX5_readsTake_43 : decode cX5_readsTake 43 = .ok (.iconst 0, 1) := by decide +kernel
theorem dX5_readsTake_44 : decode cX5_readsTake 44 = .ok (.sipush 999, 3) := by decide +kernel
theorem dX5_readsTake_47 : decode cX5_readsTake 47 = .ok (.invokevirtual 150, 3) := by decide +kernel
theorem dX5_readsTake_50 : decode cX5_readsTake 50 = .ok (.putfield 147, 3) := by decide +kernel
theorem dX5_readsTake_53 : decode cX5_readsTake 53 = .ok (.aload_n 0, 1) := by decide +kernel
theorem dX5_readsTake_54 : decode cX5_readsTake 54 = .ok (.getfield 147, 3) := by decide +kernel
theorem dX5_readsTake_57 : decode cX5_readsTake 57 = .ok (.iconst (-1), 1) := by decide +kernel
theorem dX5_readsTake_58 : decode cX5_readsTake 58 = .ok (.if_icmp .eq 7, 3) := by decide +kernel
theorem dX5_readsTake_61 : decode cX5_readsTake 61 = .ok (.iconst 1, 1) := by decide +kernel
theorem dX5_readsTake_62 : decode cX5_readsTake 62 = .ok (.goto 4, 3) := by decide +kernel
theorem dX5_readsTake_65 : decode cX5_readsTake 65 = .ok (.iconst 0, 1) := by decide +kernel
theorem dX5_readsTake_66 : decode cX5_readsTake 66 = .ok (.ireturn, 1) := by decide +kernel
theorem dX5_command_0 : decode cX5_command 0 = .ok (.aload_n 0, 1) := by decide +kernel
theorem dX5_command_1 : decode cX5_command 1 = .ok (.getfield 133, 3) := by decide +kernel
theorem dX5_command_4 : decode cX5_command 4 = .ok (.aload_n 0, 1) := by decide +kernel
theorem dX5_command_5 : decode cX5_command 5 = .ok (.getfield 130, 3) := by decide +kernel
theorem dX5_command_8 : decode cX5_command 8 = .ok (.if_icmp .ge 15, 3) := by decide +kernel
theorem dX5_command_11 : decode cX5_command 11 = .ok (.aload_n 0, 1) := by decide +kernel
theorem dX5_command_12 : decode cX5_command 12 = .ok (.getfield 13, 3) := by decide +kernel
theorem dX5_command_15 : decode cX5_command 15 = .ok (.aload_n 0, 1) := by decide +kernel
theorem dX5_command_16 : decode cX5_command 16 = .ok (.getfield 133, 3) := by decide +kernel
theorem dX5_command_19 : decode cX5_command 19 = .ok (.caload, 1) := by decide +kernel
theorem dX5_command_20 : decode cX5_command 20 = .ok (.goto 5, 3) := by decide +kernel
theorem dX5_command_23 : decode cX5_command 23 = .ok (.bipush 32, 2) := by decide +kernel
theorem dX5_command_25 : decode cX5_command 25 = .ok (.istore_n 1, 1) := by decide +kernel
theorem dX5_command_26 : decode cX5_command 26 = .ok (.aload_n 0, 1) := by decide +kernel
theorem dX5_command_27 : decode cX5_command 27 = .ok (.dup, 1) := by decide +kernel
theorem dX5_command_28 : decode cX5_command 28 = .ok (.getfield 133, 3) := by decide +kernel
theorem dX5_command_31 : decode cX5_command 31 = .ok (.iconst 1, 1) := by decide +kernel
theorem dX5_command_32 : decode cX5_command 32 = .ok (.iadd, 1) := by decide +kernel
theorem dX5_command_33 : decode cX5_command 33 = .ok (.putfield 133, 3) := by decide +kernel
theorem dX5_command_36 : decode cX5_command 36 = .ok (.iload_n 1, 1) := by decide +kernel
theorem dX5_command_37 : decode cX5_command 37 = .ok (.lookupswitch 130 #[(33, 65), (43, 51), (45, 51), (114, 104), (116, 90)], 51) := by decide +kernel
theorem dX5_command_88 : decode cX5_command 88 = .ok (.aload_n 0, 1) := by decide +kernel
theorem dX5_command_89 : decode cX5_command 89 = .ok (.invokevirtual 153, 3) := by decide +kernel
theorem dX5_command_92 : decode cX5_command 92 = .ok (.ifCond .eq 7, 3) := by decide +kernel
theorem dX5_command_95 : decode cX5_command 95 = .ok (.iload_n 1, 1) := by decide +kernel
theorem dX5_command_96 : decode cX5_command 96 = .ok (.goto 5, 3) := by decide +kernel
theorem dX5_command_99 : decode cX5_command 99 = .ok (.bipush 32, 2) := by decide +kernel
theorem dX5_command_101 : decode cX5_command 101 = .ok (.ireturn, 1) := by decide +kernel
theorem dX5_command_102 : decode cX5_command 102 = .ok (.aload_n 0, 1) := by decide +kernel
theorem dX5_command_103 : decode cX5_command 103 = .ok (.aload_n 0, 1) := by decide +kernel
theorem dX5_command_104 : decode cX5_command 104 = .ok (.bipush 48, 2) := by decide +kernel
theorem dX5_command_106 : decode cX5_command 106 = .ok (.invokevirtual 140, 3) := by decide +kernel
theorem dX5_command_109 : decode cX5_command 109 = .ok (.putfield 144, 3) := by decide +kernel
theorem dX5_command_112 : decode cX5_command 112 = .ok (.aload_n 0, 1) := by decide +kernel
theorem dX5_command_113 : decode cX5_command 113 = .ok (.getfield 144, 3) := by decide +kernel
theorem dX5_command_116 : decode cX5_command 116 = .ok (.iconst (-1), 1) := by decide +kernel
theorem dX5_command_117 : decode cX5_command 117 = .ok (.if_icmp .eq 7, 3) := by decide +kernel
theorem dX5_command_120 : decode cX5_command 120 = .ok (.iload_n 1, 1) := by decide +kernel
theorem dX5_command_121 : decode cX5_command 121 = .ok (.goto 5, 3) := by decide +kernel
theorem dX5_command_124 : decode cX5_command 124 = .ok (.bipush 32, 2) := by decide +kernel
theorem dX5_command_126 : decode cX5_command 126 = .ok (.ireturn, 1) := by decide +kernel
theorem dX5_command_127 : decode cX5_command 127 = .ok (.aload_n 0, 1) := by decide +kernel
theorem dX5_command_128 : decode cX5_command 128 = .ok (.invokevirtual 157, 3) := by decide +kernel
theorem dX5_command_131 : decode cX5_command 131 = .ok (.ifCond .eq 7, 3) := by decide +kernel
theorem dX5_command_134 : decode cX5_command 134 = .ok (.iload_n 1, 1) := by decide +kernel
theorem dX5_command_135 : decode cX5_command 135 = .ok (.goto 5, 3) := by decide +kernel
theorem dX5_command_138 : decode cX5_command 138 = .ok (.bipush 32, 2) := by decide +kernel
theorem dX5_command_140 : decode cX5_command 140 = .ok (.ireturn, 1) := by decide +kernel
theorem dX5_command_141 : decode cX5_command 141 = .ok (.aload_n 0, 1) := by decide +kernel
theorem dX5_command_142 : decode cX5_command 142 = .ok (.aload_n 0, 1) := by decide +kernel
theorem dX5_command_143 : decode cX5_command 143 = .ok (.iconst 1, 1) := by decide +kernel
theorem dX5_command_144 : decode cX5_command 144 = .ok (.bipush 100, 2) := by decide +kernel
theorem dX5_command_146 : decode cX5_command 146 = .ok (.invokevirtual 150, 3) := by decide +kernel
theorem dX5_command_149 : decode cX5_command 149 = .ok (.putfield 144, 3) := by decide +kernel
theorem dX5_command_152 : decode cX5_command 152 = .ok (.aload_n 0, 1) := by decide +kernel
theorem dX5_command_153 : decode cX5_command 153 = .ok (.getfield 144, 3) := by decide +kernel
theorem dX5_command_156 : decode cX5_command 156 = .ok (.iconst (-1), 1) := by decide +kernel
theorem dX5_command_157 : decode cX5_command 157 = .ok (.if_icmp .eq 7, 3) := by decide +kernel
theorem dX5_command_160 : decode cX5_command 160 = .ok (.iload_n 1, 1) := by decide +kernel
theorem dX5_command_161 : decode cX5_command 161 = .ok (.goto 5, 3) := by decide +kernel
theorem dX5_command_164 : decode cX5_command 164 = .ok (.bipush 32, 2) := by decide +kernel
theorem dX5_command_166 : decode cX5_command 166 = .ok (.ireturn, 1) := by decide +kernel
theorem dX5_command_167 : decode cX5_command 167 = .ok (.aload_n 0, 1) := by decide +kernel
theorem dX5_command_168 : decode cX5_command 168 = .ok (.dup, 1) := by decide +kernel
theorem dX5_command_169 : decode cX5_command 169 = .ok (.getfield 133, 3) := by decide +kernel
theorem dX5_command_172 : decode cX5_command 172 = .ok (.iconst 1, 1) := by decide +kernel
theorem dX5_command_173 : decode cX5_command 173 = .ok (.isub, 1) := by decide +kernel
theorem dX5_command_174 : decode cX5_command 174 = .ok (.putfield 133, 3) := by decide +kernel
theorem dX5_command_177 : decode cX5_command 177 = .ok (.bipush 32, 2) := by decide +kernel
theorem dX5_command_179 : decode cX5_command 179 = .ok (.ireturn, 1) := by decide +kernel
theorem dX5_error_0 : decode cX5_error 0 = .ok (.aload_n 0, 1) := by decide +kernel
theorem dX5_error_1 : decode cX5_error 1 = .ok (.iconst 0, 1) := by decide +kernel
theorem dX5_error_2 : decode cX5_error 2 = .ok (.putfield 133, 3) := by decide +kernel
theorem dX5_error_5 : decode cX5_error 5 = .ok (.aload_n 0, 1) := by decide +kernel
theorem dX5_error_6 : decode cX5_error 6 = .ok (.invokevirtual 160, 3) := by decide +kernel
theorem dX5_error_9 : decode cX5_error 9 = .ok (.bipush 32, 2) := by decide +kernel
theorem dX5_error_11 : decode cX5_error 11 = .ok (.if_icmp .eq 48, 3) := by decide +kernel
theorem dX5_error_14 : decode cX5_error 14 = .ok (.aload_n 0, 1) := by decide +kernel
theorem dX5_error_15 : decode cX5_error 15 = .ok (.getfield 133, 3) := by decide +kernel
theorem dX5_error_18 : decode cX5_error 18 = .ok (.aload_n 0, 1) := by decide +kernel
theorem dX5_error_19 : decode cX5_error 19 = .ok (.getfield 130, 3) := by decide +kernel
theorem dX5_error_22 : decode cX5_error 22 = .ok (.if_icmp .ne 5, 3) := by decide +kernel
theorem dX5_error_25 : decode cX5_error 25 = .ok (.iconst (-1), 1) := by decide +kernel
theorem dX5_error_26 : decode cX5_error 26 = .ok (.ireturn, 1) := by decide +kernel
theorem dX5_error_27 : decode cX5_error 27 = .ok (.aload_n 0, 1) := by decide +kernel
theorem dX5_error_28 : decode cX5_error 28 = .ok (.getfield 13, 3) := by decide +kernel
theorem dX5_error_31 : decode cX5_error 31 = .ok (.aload_n 0, 1) := by decide +kernel
theorem dX5_error_32 : decode cX5_error 32 = .ok (.getfield 133, 3) := by decide +kernel
theorem dX5_error_35 : decode cX5_error 35 = .ok (.caload, 1) := by decide +kernel
theorem dX5_error_36 : decode cX5_error 36 = .ok (.bipush 59, 2) := by decide +kernel
theorem dX5_error_38 : decode cX5_error 38 = .ok (.if_icmp .eq 8, 3) := by decide +kernel
theorem dX5_error_41 : decode cX5_error 41 = .ok (.aload_n 0, 1) := by decide +kernel
theorem dX5_error_42 : decode cX5_error 42 = .ok (.getfield 133, 3) := by decide +kernel
theorem dX5_error_45 : decode cX5_error 45 = .ok (.ireturn, 1) := by decide +kernel
theorem dX5_error_46 : decode cX5_error 46 = .ok (.aload_n 0, 1) := by decide +kernel
theorem dX5_error_47 : decode cX5_error 47 = .ok (.dup, 1) := by decide +kernel
theorem dX5_error_48 : decode cX5_error 48 = .ok (.getfield 133, 3) := by decide +kernel
theorem dX5_error_51 : decode cX5_error 51 = .ok (.iconst 1, 1) := by decide +kernel
theorem dX5_error_52 : decode cX5_error 52 = .ok (.iadd, 1) := by decide +kernel
theorem dX5_error_53 : decode cX5_error 53 = .ok (.putfield 133, 3) := by decide +kernel
theorem dX5_error_56 : decode cX5_error 56 = .ok (.goto (-51), 3) := by decide +kernel
theorem dX5_error_59 : decode cX5_error 59 = .ok (.aload_n 0, 1) := by decide +kernel
theorem dX5_error_60 : decode cX5_error 60 = .ok (.getfield 133, 3) := by decide +kernel
theorem dX5_error_63 : decode cX5_error 63 = .ok (.ireturn, 1) := by decide +kernel
theorem dX5_errorPosition_0 : decode cX5_errorPosition 0 = .ok (.aload_n 0, 1) := by decide +kernel
theorem dX5_errorPosition_1 : decode cX5_errorPosition 1 = .ok (.iconst 0, 1) := by decide +kernel
theorem dX5_errorPosition_2 : decode cX5_errorPosition 2 = .ok (.putfield 24, 3) := by decide +kernel
theorem dX5_errorPosition_5 : decode cX5_errorPosition 5 = .ok (.aload_n 0, 1) := by decide +kernel
theorem dX5_errorPosition_6 : decode cX5_errorPosition 6 = .ok (.invokevirtual 164, 3) := by decide +kernel
theorem dX5_errorPosition_9 : decode cX5_errorPosition 9 = .ok (.ireturn, 1) := by decide +kernel
theorem dX5_does_0 : decode cX5_does 0 = .ok (.iload_n 1, 1) := by decide +kernel
theorem dX5_does_1 : decode cX5_does 1 = .ok (.lookupswitch 106 #[(33, 67), (43, 43), (45, 43), (116, 93)], 43) := by decide +kernel
theorem dX5_does_44 : decode cX5_does 44 = .ok (.aload_n 0, 1) := by decide +kernel
theorem dX5_does_45 : decode cX5_does 45 = .ok (.aload_n 0, 1) := by decide +kernel
theorem dX5_does_46 : decode cX5_does 46 = .ok (.getfield 144, 3) := by decide +kernel
theorem dX5_does_49 : decode cX5_does 49 = .ok (.aload_n 0, 1) := by decide +kernel
theorem dX5_does_50 : decode cX5_does 50 = .ok (.getfield 147, 3) := by decide +kernel
theorem dX5_does_53 : decode cX5_does 53 = .ok (.iload_n 1, 1) := by decide +kernel
theorem dX5_does_54 : decode cX5_does 54 = .ok (.bipush 43, 2) := by decide +kernel
theorem dX5_does_56 : decode cX5_does 56 = .ok (.if_icmp .ne 7, 3) := by decide +kernel
theorem dX5_does_59 : decode cX5_does 59 = .ok (.iconst 1, 1) := by decide +kernel
theorem dX5_does_60 : decode cX5_does 60 = .ok (.goto 4, 3) := by decide +kernel
theorem dX5_does_63 : decode cX5_does 63 = .ok (.iconst 0, 1) := by decide +kernel
theorem dX5_does_64 : decode cX5_does 64 = .ok (.invokevirtual 107, 3) := by decide +kernel
theorem dX5_does_67 : decode cX5_does 67 = .ok (.ireturn, 1) := by decide +kernel
theorem dX5_does_68 : decode cX5_does 68 = .ok (.aload_n 0, 1) := by decide +kernel
theorem dX5_does_69 : decode cX5_does 69 = .ok (.aload_n 0, 1) := by decide +kernel
theorem dX5_does_70 : decode cX5_does 70 = .ok (.getfield 144, 3) := by decide +kernel
theorem dX5_does_73 : decode cX5_does 73 = .ok (.aload_n 0, 1) := by decide +kernel
theorem dX5_does_74 : decode cX5_does 74 = .ok (.iconst 0, 1) := by decide +kernel
theorem dX5_does_75 : decode cX5_does 75 = .ok (.aload_n 0, 1) := by decide +kernel
theorem dX5_does_76 : decode cX5_does 76 = .ok (.getfield 144, 3) := by decide +kernel
theorem dX5_does_79 : decode cX5_does 79 = .ok (.invokevirtual 39, 3) := by decide +kernel
theorem dX5_does_82 : decode cX5_does 82 = .ok (.ifCond .ne 7, 3) := by decide +kernel
theorem dX5_does_85 : decode cX5_does 85 = .ok (.iconst 1, 1) := by decide +kernel
theorem dX5_does_86 : decode cX5_does 86 = .ok (.goto 4, 3) := by decide +kernel
theorem dX5_does_89 : decode cX5_does 89 = .ok (.iconst 0, 1) := by decide +kernel
theorem dX5_does_90 : decode cX5_does 90 = .ok (.invokevirtual 111, 3) := by decide +kernel
theorem dX5_does_93 : decode cX5_does 93 = .ok (.ireturn, 1) := by decide +kernel
theorem dX5_does_94 : decode cX5_does 94 = .ok (.aload_n 0, 1) := by decide +kernel
theorem dX5_does_95 : decode cX5_does 95 = .ok (.aload_n 0, 1) := by decide +kernel
theorem dX5_does_96 : decode cX5_does 96 = .ok (.getfield 144, 3) := by decide +kernel
theorem dX5_does_99 : decode cX5_does 99 = .ok (.aload_n 0, 1) := by decide +kernel
theorem dX5_does_100 : decode cX5_does 100 = .ok (.getfield 147, 3) := by decide +kernel
theorem dX5_does_103 : decode cX5_does 103 = .ok (.invokevirtual 124, 3) := by decide +kernel
theorem dX5_does_106 : decode cX5_does 106 = .ok (.ireturn, 1) := by decide +kernel
theorem dX5_does_107 : decode cX5_does 107 = .ok (.aload_n 0, 1) := by decide +kernel
theorem dX5_does_108 : decode cX5_does 108 = .ok (.iconst 0, 1) := by decide +kernel
theorem dX5_does_109 : decode cX5_does 109 = .ok (.aload_n 0, 1) := by decide +kernel
theorem dX5_does_110 : decode cX5_does 110 = .ok (.getfield 144, 3) := by decide +kernel
theorem dX5_does_113 : decode cX5_does 113 = .ok (.invokevirtual 127, 3) := by decide +kernel
theorem dX5_does_116 : decode cX5_does 116 = .ok (.ireturn, 1) := by decide +kernel
theorem dX5_runText_0 : decode cX5_runText 0 = .ok (.aload_n 0, 1) := by decide +kernel
theorem dX5_runText_1 : decode cX5_runText 1 = .ok (.aload_n 0, 1) := by decide +kernel
theorem dX5_runText_2 : decode cX5_runText 2 = .ok (.invokevirtual 164, 3) := by decide +kernel
theorem dX5_runText_5 : decode cX5_runText 5 = .ok (.iconst (-1), 1) := by decide +kernel
theorem dX5_runText_6 : decode cX5_runText 6 = .ok (.if_icmp .ne 7, 3) := by decide +kernel
theorem dX5_runText_9 : decode cX5_runText 9 = .ok (.iconst 1, 1) := by decide +kernel
theorem dX5_runText_10 : decode cX5_runText 10 = .ok (.goto 4, 3) := by decide +kernel
theorem dX5_runText_13 : decode cX5_runText 13 = .ok (.iconst 0, 1) := by decide +kernel
theorem dX5_runText_14 : decode cX5_runText 14 = .ok (.iconst 1, 1) := by decide +kernel
theorem dX5_runText_15 : decode cX5_runText 15 = .ok (.iconst 1, 1) := by decide +kernel
theorem dX5_runText_16 : decode cX5_runText 16 = .ok (.invokevirtual 100, 3) := by decide +kernel
theorem dX5_runText_19 : decode cX5_runText 19 = .ok (.ifCond .ne 5, 3) := by decide +kernel
theorem dX5_runText_22 : decode cX5_runText 22 = .ok (.iconst 0, 1) := by decide +kernel
theorem dX5_runText_23 : decode cX5_runText 23 = .ok (.ireturn, 1) := by decide +kernel
theorem dX5_runText_24 : decode cX5_runText 24 = .ok (.aload_n 0, 1) := by decide +kernel
theorem dX5_runText_25 : decode cX5_runText 25 = .ok (.invokevirtual 104, 3) := by decide +kernel
theorem dX5_runText_28 : decode cX5_runText 28 = .ok (.aload_n 0, 1) := by decide +kernel
theorem dX5_runText_29 : decode cX5_runText 29 = .ok (.iconst 0, 1) := by decide +kernel
theorem dX5_runText_30 : decode cX5_runText 30 = .ok (.putfield 133, 3) := by decide +kernel
theorem dX5_runText_33 : decode cX5_runText 33 = .ok (.iconst 0, 1) := by decide +kernel
theorem dX5_runText_34 : decode cX5_runText 34 = .ok (.istore_n 1, 1) := by decide +kernel
theorem dX5_runText_35 : decode cX5_runText 35 = .ok (.aload_n 0, 1) := by decide +kernel
theorem dX5_runText_36 : decode cX5_runText 36 = .ok (.getfield 133, 3) := by decide +kernel
theorem dX5_runText_39 : decode cX5_runText 39 = .ok (.aload_n 0, 1) := by decide +kernel
theorem dX5_runText_40 : decode cX5_runText 40 = .ok (.getfield 130, 3) := by decide +kernel
theorem dX5_runText_43 : decode cX5_runText 43 = .ok (.if_icmp .ge 49, 3) := by decide +kernel
theorem dX5_runText_46 : decode cX5_runText 46 = .ok (.aload_n 0, 1) := by decide +kernel
theorem dX5_runText_47 : decode cX5_runText 47 = .ok (.invokevirtual 160, 3) := by decide +kernel
theorem dX5_runText_50 : decode cX5_runText 50 = .ok (.istore_n 2, 1) := by decide +kernel
theorem dX5_runText_51 : decode cX5_runText 51 = .ok (.iload_n 2, 1) := by decide +kernel
theorem dX5_runText_52 : decode cX5_runText 52 = .ok (.bipush 116, 2) := by decide +kernel
theorem dX5_runText_54 : decode cX5_runText 54 = .ok (.if_icmp .ne 16, 3) := by decide +kernel
theorem dX5_runText_57 : decode cX5_runText 57 = .ok (.aload_n 0, 1) := by decide +kernel
theorem dX5_runText_58 : decode cX5_runText 58 = .ok (.aload_n 0, 1) := by decide +kernel
theorem dX5_runText_59 : decode cX5_runText 59 = .ok (.getfield 144, 3) := by decide +kernel
theorem dX5_runText_62 : decode cX5_runText 62 = .ok (.invokevirtual 121, 3) := by decide +kernel
theorem dX5_runText_65 : decode cX5_runText 65 = .ok (.ifCond .ne 5, 3) := by decide +kernel
theorem dX5_runText_68 : decode cX5_runText 68 = .ok (.iload_n 1, 1) := by decide +kernel
theorem dX5_runText_69 : decode cX5_runText 69 = .ok (.ireturn, 1) := by decide +kernel
theorem dX5_runText_70 : decode cX5_runText 70 = .ok (.aload_n 0, 1) := by decide +kernel
theorem dX5_runText_71 : decode cX5_runText 71 = .ok (.iload_n 2, 1) := by decide +kernel
theorem dX5_runText_72 : decode cX5_runText 72 = .ok (.invokevirtual 168, 3) := by decide +kernel
theorem dX5_runText_75 : decode cX5_runText 75 = .ok (.istore_n 3, 1) := by decide +kernel
theorem dX5_runText_76 : decode cX5_runText 76 = .ok (.iinc 1 1, 3) := by decide +kernel
theorem dX5_runText_79 : decode cX5_runText 79 = .ok (.aload_n 0, 1) := by decide +kernel
theorem dX5_runText_80 : decode cX5_runText 80 = .ok (.dup, 1) := by decide +kernel
theorem dX5_runText_81 : decode cX5_runText 81 = .ok (.getfield 133, 3) := by decide +kernel
theorem dX5_runText_84 : decode cX5_runText 84 = .ok (.iconst 1, 1) := by decide +kernel
theorem dX5_runText_85 : decode cX5_runText 85 = .ok (.iadd, 1) := by decide +kernel
theorem dX5_runText_86 : decode cX5_runText 86 = .ok (.putfield 133, 3) := by decide +kernel
theorem dX5_runText_89 : decode cX5_runText 89 = .ok (.goto (-54), 3) := by decide +kernel
theorem dX5_runText_92 : decode cX5_runText 92 = .ok (.iload_n 1, 1) := by decide +kernel
theorem dX5_runText_93 : decode cX5_runText 93 = .ok (.ireturn, 1) := by decide +kernel
theorem dX5_undo_0 : decode cX5_undo 0 = .ok (.aload_n 0, 1) := by decide +kernel
theorem dX5_undo_1 : decode cX5_undo 1 = .ok (.aload_n 0, 1) := by decide +kernel
theorem dX5_undo_2 : decode cX5_undo 2 = .ok (.getfield 32, 3) := by decide +kernel
theorem dX5_undo_5 : decode cX5_undo 5 = .ok (.ifCond .le 7, 3) := by decide +kernel
theorem dX5_undo_8 : decode cX5_undo 8 = .ok (.iconst 1, 1) := by decide +kernel
theorem dX5_undo_9 : decode cX5_undo 9 = .ok (.goto 4, 3) := by decide +kernel
theorem dX5_undo_12 : decode cX5_undo 12 = .ok (.iconst 0, 1) := by decide +kernel
theorem dX5_undo_13 : decode cX5_undo 13 = .ok (.iconst 1, 1) := by decide +kernel
theorem dX5_undo_14 : decode cX5_undo 14 = .ok (.iconst 1, 1) := by decide +kernel
theorem dX5_undo_15 : decode cX5_undo 15 = .ok (.invokevirtual 100, 3) := by decide +kernel
theorem dX5_undo_18 : decode cX5_undo 18 = .ok (.ifCond .ne 5, 3) := by decide +kernel
theorem dX5_undo_21 : decode cX5_undo 21 = .ok (.iconst 0, 1) := by decide +kernel
theorem dX5_undo_22 : decode cX5_undo 22 = .ok (.ireturn, 1) := by decide +kernel
theorem dX5_undo_23 : decode cX5_undo 23 = .ok (.aload_n 0, 1) := by decide +kernel
theorem dX5_undo_24 : decode cX5_undo 24 = .ok (.aload_n 0, 1) := by decide +kernel
theorem dX5_undo_25 : decode cX5_undo 25 = .ok (.getfield 32, 3) := by decide +kernel
theorem dX5_undo_28 : decode cX5_undo 28 = .ok (.iconst 0, 1) := by decide +kernel
theorem dX5_undo_29 : decode cX5_undo 29 = .ok (.invokevirtual 35, 3) := by decide +kernel
theorem dX5_undo_32 : decode cX5_undo 32 = .ok (.aload_n 0, 1) := by decide +kernel
theorem dX5_undo_33 : decode cX5_undo 33 = .ok (.dup, 1) := by decide +kernel
theorem dX5_undo_34 : decode cX5_undo 34 = .ok (.getfield 32, 3) := by decide +kernel
theorem dX5_undo_37 : decode cX5_undo 37 = .ok (.iconst 1, 1) := by decide +kernel
theorem dX5_undo_38 : decode cX5_undo 38 = .ok (.isub, 1) := by decide +kernel
theorem dX5_undo_39 : decode cX5_undo 39 = .ok (.putfield 32, 3) := by decide +kernel
theorem dX5_undo_42 : decode cX5_undo 42 = .ok (.aload_n 0, 1) := by decide +kernel
theorem dX5_undo_43 : decode cX5_undo 43 = .ok (.getfield 32, 3) := by decide +kernel
theorem dX5_undo_46 : decode cX5_undo 46 = .ok (.ireturn, 1) := by decide +kernel
theorem dX5_isConnected_0 : decode cX5_isConnected 0 = .ok (.aload_n 0, 1) := by decide +kernel
theorem dX5_isConnected_1 : decode cX5_isConnected 1 = .ok (.iload_n 1, 1) := by decide +kernel
theorem dX5_isConnected_2 : decode cX5_isConnected 2 = .ok (.invokestatic 96, 3) := by decide +kernel
theorem dX5_isConnected_5 : decode cX5_isConnected 5 = .ok (.ifCond .eq 14, 3) := by decide +kernel
theorem dX5_isConnected_8 : decode cX5_isConnected 8 = .ok (.iload_n 2, 1) := by decide +kernel
theorem dX5_isConnected_9 : decode cX5_isConnected 9 = .ok (.invokestatic 96, 3) := by decide +kernel
theorem dX5_isConnected_12 : decode cX5_isConnected 12 = .ok (.ifCond .eq 7, 3) := by decide +kernel
theorem dX5_isConnected_15 : decode cX5_isConnected 15 = .ok (.iconst 1, 1) := by decide +kernel
theorem dX5_isConnected_16 : decode cX5_isConnected 16 = .ok (.goto 4, 3) := by decide +kernel
theorem dX5_isConnected_19 : decode cX5_isConnected 19 = .ok (.iconst 0, 1) := by decide +kernel
theorem dX5_isConnected_20 : decode cX5_isConnected 20 = .ok (.iconst 1, 1) := by decide +kernel
theorem dX5_isConnected_21 : decode cX5_isConnected 21 = .ok (.iconst 1, 1) := by decide +kernel
theorem dX5_isConnected_22 : decode cX5_isConnected 22 = .ok (.invokevirtual 100, 3) := by decide +kernel
theorem dX5_isConnected_25 : decode cX5_isConnected 25 = .ok (.ifCond .eq 17, 3) := by decide +kernel
theorem dX5_isConnected_28 : decode cX5_isConnected 28 = .ok (.aload_n 0, 1) := by decide +kernel
theorem dX5_isConnected_29 : decode cX5_isConnected 29 = .ok (.iconst 0, 1) := by decide +kernel
theorem dX5_isConnected_30 : decode cX5_isConnected 30 = .ok (.iload_n 1, 1) := by decide +kernel
theorem dX5_isConnected_31 : decode cX5_isConnected 31 = .ok (.iload_n 2, 1) := by decide +kernel
theorem dX5_isConnected_32 : decode cX5_isConnected 32 = .ok (.invokevirtual 72, 3) := by decide +kernel
theorem dX5_isConnected_35 : decode cX5_isConnected 35 = .ok (.ifCond .eq 7, 3) := by decide +kernel
theorem dX5_isConnected_38 : decode cX5_isConnected 38 = .ok (.iconst 1, 1) := by decide +kernel
theorem dX5_isConnected_39 : decode cX5_isConnected 39 = .ok (.goto 4, 3) := by decide +kernel
theorem dX5_isConnected_42 : decode cX5_isConnected 42 = .ok (.iconst 0, 1) := by decide +kernel
theorem dX5_isConnected_43 : decode cX5_isConnected 43 = .ok (.ireturn, 1) := by decide +kernel
theorem dX5_parent_0 : decode cX5_parent 0 = .ok (.aload_n 0, 1) := by decide +kernel
theorem dX5_parent_1 : decode cX5_parent 1 = .ok (.iload_n 1, 1) := by decide +kernel
theorem dX5_parent_2 : decode cX5_parent 2 = .ok (.invokestatic 96, 3) := by decide +kernel
theorem dX5_parent_5 : decode cX5_parent 5 = .ok (.iconst 1, 1) := by decide +kernel
theorem dX5_parent_6 : decode cX5_parent 6 = .ok (.iconst 1, 1) := by decide +kernel
theorem dX5_parent_7 : decode cX5_parent 7 = .ok (.invokevirtual 100, 3) := by decide +kernel
theorem dX5_parent_10 : decode cX5_parent 10 = .ok (.ifCond .eq 18, 3) := by decide +kernel
theorem dX5_parent_13 : decode cX5_parent 13 = .ok (.aload_n 0, 1) := by decide +kernel
theorem dX5_parent_14 : decode cX5_parent 14 = .ok (.getfield 7, 3) := by decide +kernel
theorem dX5_parent_17 : decode cX5_parent 17 = .ok (.iconst 0, 1) := by decide +kernel
theorem dX5_parent_18 : decode cX5_parent 18 = .ok (.iload_n 1, 1) := by decide +kernel
theorem dX5_parent_19 : decode cX5_parent 19 = .ok (.invokestatic 20, 3) := by decide +kernel
theorem dX5_parent_22 : decode cX5_parent 22 = .ok (.iconst 1, 1) := by decide +kernel
theorem dX5_parent_23 : decode cX5_parent 23 = .ok (.iadd, 1) := by decide +kernel
theorem dX5_parent_24 : decode cX5_parent 24 = .ok (.iaload, 1) := by decide +kernel
theorem dX5_parent_25 : decode cX5_parent 25 = .ok (.goto 4, 3) := by decide +kernel
theorem dX5_parent_28 : decode cX5_parent 28 = .ok (.iconst 0, 1) := by decide +kernel
theorem dX5_parent_29 : decode cX5_parent 29 = .ok (.ireturn, 1) := by decide +kernel
theorem dX5_depth_0 : decode cX5_depth 0 = .ok (.aload_n 0, 1) := by decide +kernel
theorem dX5_depth_1 : decode cX5_depth 1 = .ok (.iload_n 1, 1) := by decide +kernel
theorem dX5_depth_2 : decode cX5_depth 2 = .ok (.invokestatic 96, 3) := by decide +kernel
theorem dX5_depth_5 : decode cX5_depth 5 = .ok (.iconst 1, 1) := by decide +kernel
theorem dX5_depth_6 : decode cX5_depth 6 = .ok (.iconst 1, 1) := by decide +kernel
theorem dX5_depth_7 : decode cX5_depth 7 = .ok (.invokevirtual 100, 3) := by decide +kernel
theorem dX5_depth_10 : decode cX5_depth 10 = .ok (.ifCond .eq 18, 3) := by decide +kernel
theorem dX5_depth_13 : decode cX5_depth 13 = .ok (.aload_n 0, 1) := by decide +kernel
theorem dX5_depth_14 : decode cX5_depth 14 = .ok (.getfield 7, 3) := by decide +kernel
theorem dX5_depth_17 : decode cX5_depth 17 = .ok (.iconst 0, 1) := by decide +kernel
theorem dX5_depth_18 : decode cX5_depth 18 = .ok (.iload_n 1, 1) := by decide +kernel
theorem dX5_depth_19 : decode cX5_depth 19 = .ok (.invokestatic 20, 3) := by decide +kernel
theorem dX5_depth_22 : decode cX5_depth 22 = .ok (.iconst 2, 1) := by decide +kernel
theorem dX5_depth_23 : decode cX5_depth 23 = .ok (.iadd, 1) := by decide +kernel
theorem dX5_depth_24 : decode cX5_depth 24 = .ok (.iaload, 1) := by decide +kernel
theorem dX5_depth_25 : decode cX5_depth 25 = .ok (.goto 4, 3) := by decide +kernel
theorem dX5_depth_28 : decode cX5_depth 28 = .ok (.iconst 0, 1) := by decide +kernel
theorem dX5_depth_29 : decode cX5_depth 29 = .ok (.ireturn, 1) := by decide +kernel
theorem dX5_clock_0 : decode cX5_clock 0 = .ok (.aload_n 0, 1) := by decide +kernel
theorem dX5_clock_1 : decode cX5_clock 1 = .ok (.iload_n 1, 1) := by decide +kernel
theorem dX5_clock_2 : decode cX5_clock 2 = .ok (.invokestatic 96, 3) := by decide +kernel
theorem dX5_clock_5 : decode cX5_clock 5 = .ok (.iconst 1, 1) := by decide +kernel
theorem dX5_clock_6 : decode cX5_clock 6 = .ok (.iconst 1, 1) := by decide +kernel
theorem dX5_clock_7 : decode cX5_clock 7 = .ok (.invokevirtual 100, 3) := by decide +kernel
theorem dX5_clock_10 : decode cX5_clock 10 = .ok (.ifCond .eq 26, 3) := by decide +kernel
theorem dX5_clock_13 : decode cX5_clock 13 = .ok (.aload_n 0, 1) := by decide +kernel
theorem dX5_clock_14 : decode cX5_clock 14 = .ok (.getfield 7, 3) := by decide +kernel
theorem dX5_clock_17 : decode cX5_clock 17 = .ok (.bipush 12, 2) := by decide +kernel
theorem dX5_clock_19 : decode cX5_clock 19 = .ok (.iaload, 1) := by decide +kernel
theorem dX5_clock_20 : decode cX5_clock 20 = .ok (.aload_n 0, 1) := by decide +kernel
theorem dX5_clock_21 : decode cX5_clock 21 = .ok (.getfield 7, 3) := by decide +kernel
theorem dX5_clock_24 : decode cX5_clock 24 = .ok (.iconst 0, 1) := by decide +kernel
theorem dX5_clock_25 : decode cX5_clock 25 = .ok (.iload_n 1, 1) := by decide +kernel
theorem dX5_clock_26 : decode cX5_clock 26 = .ok (.invokestatic 20, 3) := by decide +kernel
theorem dX5_clock_29 : decode cX5_clock 29 = .ok (.iconst 0, 1) := by decide +kernel
theorem dX5_clock_30 : decode cX5_clock 30 = .ok (.iadd, 1) := by decide +kernel
theorem dX5_clock_31 : decode cX5_clock 31 = .ok (.iaload, 1) := by decide +kernel
theorem dX5_clock_32 : decode cX5_clock 32 = .ok (.iadd, 1) := by decide +kernel
theorem dX5_clock_33 : decode cX5_clock 33 = .ok (.goto 4, 3) := by decide +kernel
theorem dX5_clock_36 : decode cX5_clock 36 = .ok (.iconst 0, 1) := by decide +kernel
theorem dX5_clock_37 : decode cX5_clock 37 = .ok (.ireturn, 1) := by decide +kernel
theorem dX5_silence_0 : decode cX5_silence 0 = .ok (.aload_n 0, 1) := by decide +kernel
theorem dX5_silence_1 : decode cX5_silence 1 = .ok (.iload_n 1, 1) := by decide +kernel
theorem dX5_silence_2 : decode cX5_silence 2 = .ok (.invokestatic 115, 3) := by decide +kernel
theorem dX5_silence_5 : decode cX5_silence 5 = .ok (.iconst 1, 1) := by decide +kernel
theorem dX5_silence_6 : decode cX5_silence 6 = .ok (.iconst 1, 1) := by decide +kernel
theorem dX5_silence_7 : decode cX5_silence 7 = .ok (.invokevirtual 100, 3) := by decide +kernel
theorem dX5_silence_10 : decode cX5_silence 10 = .ok (.ifCond .ne 5, 3) := by decide +kernel
theorem dX5_silence_13 : decode cX5_silence 13 = .ok (.iconst 0, 1) := by decide +kernel
theorem dX5_silence_14 : decode cX5_silence 14 = .ok (.ireturn, 1) := by decide +kernel
theorem dX5_silence_15 : decode cX5_silence 15 = .ok (.aload_n 0, 1) := by decide +kernel
theorem dX5_silence_16 : decode cX5_silence 16 = .ok (.getfield 7, 3) := by decide +kernel
theorem dX5_silence_19 : decode cX5_silence 19 = .ok (.iconst 0, 1) := by decide +kernel
theorem dX5_silence_20 : decode cX5_silence 20 = .ok (.iload_n 1, 1) := by decide +kernel
theorem dX5_silence_21 : decode cX5_silence 21 = .ok (.invokestatic 20, 3) := by decide +kernel
theorem dX5_silence_24 : decode cX5_silence 24 = .ok (.iconst 1, 1) := by decide +kernel
theorem dX5_silence_25 : decode cX5_silence 25 = .ok (.iadd, 1) := by decide +kernel
theorem dX5_silence_26 : decode cX5_silence 26 = .ok (.iaload, 1) := by decide +kernel
theorem dX5_silence_27 : decode cX5_silence 27 = .ok (.iconst (-1), 1) := by decide +kernel
theorem dX5_silence_28 : decode cX5_silence 28 = .ok (.if_icmp .ne 7, 3) := by decide +kernel
theorem dX5_silence_31 : decode cX5_silence 31 = .ok (.iconst (-1), 1) := by decide +kernel
theorem dX5_silence_32 : decode cX5_silence 32 = .ok (.goto 23, 3) := by decide +kernel
theorem dX5_silence_35 : decode cX5_silence 35 = .ok (.aload_n 0, 1) := by decide +kernel
theorem dX5_silence_36 : decode cX5_silence 36 = .ok (.getfield 7, 3) := by decide +kernel
theorem dX5_silence_39 : decode cX5_silence 39 = .ok (.bipush 12, 2) := by decide +kernel
theorem dX5_silence_41 : decode cX5_silence 41 = .ok (.iaload, 1) := by decide +kernel
theorem dX5_silence_42 : decode cX5_silence 42 = .ok (.aload_n 0, 1) := by decide +kernel
theorem dX5_silence_43 : decode cX5_silence 43 = .ok (.getfield 7, 3) := by decide +kernel
theorem dX5_silence_46 : decode cX5_silence 46 = .ok (.iconst 0, 1) := by decide +kernel
theorem dX5_silence_47 : decode cX5_silence 47 = .ok (.iload_n 1, 1) := by decide +kernel
theorem dX5_silence_48 : decode cX5_silence 48 = .ok (.invokestatic 20, 3) := by decide +kernel
theorem dX5_silence_51 : decode cX5_silence 51 = .ok (.iconst 3, 1) := by decide +kernel
theorem dX5_silence_52 : decode cX5_silence 52 = .ok (.iadd, 1) := by decide +kernel
theorem dX5_silence_53 : decode cX5_silence 53 = .ok (.iaload, 1) := by decide +kernel
theorem dX5_silence_54 : decode cX5_silence 54 = .ok (.isub, 1) := by decide +kernel
theorem dX5_silence_55 : decode cX5_silence 55 = .ok (.ireturn, 1) := by decide +kernel
theorem dX5_faults_0 : decode cX5_faults 0 = .ok (.aload_n 0, 1) := by decide +kernel
theorem dX5_faults_1 : decode cX5_faults 1 = .ok (.iload_n 1, 1) := by decide +kernel
theorem dX5_faults_2 : decode cX5_faults 2 = .ok (.invokestatic 115, 3) := by decide +kernel
theorem dX5_faults_5 : decode cX5_faults 5 = .ok (.iconst 1, 1) := by decide +kernel
theorem dX5_faults_6 : decode cX5_faults 6 = .ok (.iconst 1, 1) := by decide +kernel
theorem dX5_faults_7 : decode cX5_faults 7 = .ok (.invokevirtual 100, 3) := by decide +kernel
theorem dX5_faults_10 : decode cX5_faults 10 = .ok (.ifCond .eq 18, 3) := by decide +kernel
theorem dX5_faults_13 : decode cX5_faults 13 = .ok (.aload_n 0, 1) := by decide +kernel
theorem dX5_faults_14 : decode cX5_faults 14 = .ok (.getfield 7, 3) := by decide +kernel
theorem dX5_faults_17 : decode cX5_faults 17 = .ok (.iconst 0, 1) := by decide +kernel
theorem dX5_faults_18 : decode cX5_faults 18 = .ok (.iload_n 1, 1) := by decide +kernel
theorem dX5_faults_19 : decode cX5_faults 19 = .ok (.invokestatic 20, 3) := by decide +kernel
theorem dX5_faults_22 : decode cX5_faults 22 = .ok (.iconst 4, 1) := by decide +kernel
theorem dX5_faults_23 : decode cX5_faults 23 = .ok (.iadd, 1) := by decide +kernel
theorem dX5_faults_24 : decode cX5_faults 24 = .ok (.iaload, 1) := by decide +kernel
theorem dX5_faults_25 : decode cX5_faults 25 = .ok (.goto 4, 3) := by decide +kernel
theorem dX5_faults_28 : decode cX5_faults 28 = .ok (.iconst 0, 1) := by decide +kernel
theorem dX5_faults_29 : decode cX5_faults 29 = .ok (.ireturn, 1) := by decide +kernel
theorem dX5_hops_0 : decode cX5_hops 0 = .ok (.aload_n 0, 1) := by decide +kernel
theorem dX5_hops_1 : decode cX5_hops 1 = .ok (.iload_n 1, 1) := by decide +kernel
theorem dX5_hops_2 : decode cX5_hops 2 = .ok (.invokestatic 96, 3) := by decide +kernel
theorem dX5_hops_5 : decode cX5_hops 5 = .ok (.iconst 1, 1) := by decide +kernel
theorem dX5_hops_6 : decode cX5_hops 6 = .ok (.iconst 1, 1) := by decide +kernel
theorem dX5_hops_7 : decode cX5_hops 7 = .ok (.invokevirtual 100, 3) := by decide +kernel
theorem dX5_hops_10 : decode cX5_hops 10 = .ok (.ifCond .ne 5, 3) := by decide +kernel
theorem dX5_hops_13 : decode cX5_hops 13 = .ok (.iconst 0, 1) := by decide +kernel
theorem dX5_hops_14 : decode cX5_hops 14 = .ok (.ireturn, 1) := by decide +kernel
theorem dX5_hops_15 : decode cX5_hops 15 = .ok (.iconst 0, 1) := by decide +kernel
theorem dX5_hops_16 : decode cX5_hops 16 = .ok (.istore_n 2, 1) := by decide +kernel
theorem dX5_hops_17 : decode cX5_hops 17 = .ok (.iload_n 2, 1) := by decide +kernel
theorem dX5_hops_18 : decode cX5_hops 18 = .ok (.bipush 10, 2) := by decide +kernel
theorem dX5_hops_20 : decode cX5_hops 20 = .ok (.if_icmp .ge 33, 3) := by decide +kernel
theorem dX5_hops_23 : decode cX5_hops 23 = .ok (.aload_n 0, 1) := by decide +kernel
theorem dX5_hops_24 : decode cX5_hops 24 = .ok (.getfield 17, 3) := by decide +kernel
theorem dX5_hops_27 : decode cX5_hops 27 = .ok (.iload_n 2, 1) := by decide +kernel
theorem dX5_hops_28 : decode cX5_hops 28 = .ok (.iload_n 2, 1) := by decide +kernel
theorem dX5_hops_29 : decode cX5_hops 29 = .ok (.ifCond .ne 16, 3) := by decide +kernel
theorem dX5_hops_32 : decode cX5_hops 32 = .ok (.aload_n 0, 1) := by decide +kernel
theorem dX5_hops_33 : decode cX5_hops 33 = .ok (.iconst 0, 1) := by decide +kernel
theorem dX5_hops_34 : decode cX5_hops 34 = .ok (.iconst 0, 1) := by decide +kernel
theorem dX5_hops_35 : decode cX5_hops 35 = .ok (.invokevirtual 39, 3) := by decide +kernel
theorem dX5_hops_38 : decode cX5_hops 38 = .ok (.ifCond .eq 7, 3) := by decide +kernel
theorem dX5_hops_41 : decode cX5_hops 41 = .ok (.iconst 0, 1) := by decide +kernel
theorem dX5_hops_42 : decode cX5_hops 42 = .ok (.goto 4, 3) := by decide +kernel
theorem dX5_hops_45 : decode cX5_hops 45 = .ok (.iconst (-1), 1) := by decide +kernel
theorem dX5_hops_46 : decode cX5_hops 46 = .ok (.iastore, 1) := by decide +kernel
theorem dX5_hops_47 : decode cX5_hops 47 = .ok (.iinc 2 1, 3) := by decide +kernel
theorem dX5_hops_50 : decode cX5_hops 50 = .ok (.goto (-33), 3) := by decide +kernel
theorem dX5_hops_53 : decode cX5_hops 53 = .ok (.iconst 0, 1) := by decide +kernel
theorem dX5_hops_54 : decode cX5_hops 54 = .ok (.istore_n 2, 1) := by decide +kernel
theorem dX5_hops_55 : decode cX5_hops 55 = .ok (.iload_n 2, 1) := by decide +kernel
theorem dX5_hops_56 : decode cX5_hops 56 = .ok (.bipush 10, 2) := by decide +kernel
theorem dX5_hops_58 : decode cX5_hops 58 = .ok (.if_icmp .ge 101, 3) := by decide +kernel
theorem dX5_hops_61 : decode cX5_hops 61 = .ok (.iconst 0, 1) := by decide +kernel
theorem dX5_hops_62 : decode cX5_hops 62 = .ok (.istore_n 3, 1) := by decide +kernel
theorem dX5_hops_63 : decode cX5_hops 63 = .ok (.iload_n 3, 1) := by decide +kernel
theorem dX5_hops_64 : decode cX5_hops 64 = .ok (.bipush 100, 2) := by decide +kernel
theorem dX5_hops_66 : decode cX5_hops 66 = .ok (.if_icmp .ge 87, 3) := by decide +kernel
theorem dX5_hops_69 : decode cX5_hops 69 = .ok (.aload_n 0, 1) := by decide +kernel
theorem dX5_hops_70 : decode cX5_hops 70 = .ok (.getfield 17, 3) := by decide +kernel
theorem dX5_hops_73 : decode cX5_hops 73 = .ok (.iload_n 3, 1) := by decide +kernel
theorem dX5_hops_74 : decode cX5_hops 74 = .ok (.bipush 10, 2) := by decide +kernel
theorem dX5_hops_76 : decode cX5_hops 76 = .ok (.idiv, 1) := by decide +kernel
theorem dX5_hops_77 : decode cX5_hops 77 = .ok (.iaload, 1) := by decide +kernel
theorem dX5_hops_78 : decode cX5_hops 78 = .ok (.iload_n 2, 1) := by decide +kernel
theorem dX5_hops_79 : decode cX5_hops 79 = .ok (.if_icmp .ne 36, 3) := by decide +kernel
theorem dX5_hops_82 : decode cX5_hops 82 = .ok (.aload_n 0, 1) := by decide +kernel
theorem dX5_hops_83 : decode cX5_hops 83 = .ok (.getfield 17, 3) := by decide +kernel
theorem dX5_hops_86 : decode cX5_hops 86 = .ok (.iload_n 3, 1) := by decide +kernel
theorem dX5_hops_87 : decode cX5_hops 87 = .ok (.bipush 10, 2) := by decide +kernel
theorem dX5_hops_89 : decode cX5_hops 89 = .ok (.irem, 1) := by decide +kernel
theorem dX5_hops_90 : decode cX5_hops 90 = .ok (.iaload, 1) := by decide +kernel
theorem dX5_hops_91 : decode cX5_hops 91 = .ok (.iconst (-1), 1) := by decide +kernel
theorem dX5_hops_92 : decode cX5_hops 92 = .ok (.if_icmp .ne 23, 3) := by decide +kernel
theorem dX5_hops_95 : decode cX5_hops 95 = .ok (.aload_n 0, 1) := by decide +kernel
theorem dX5_hops_96 : decode cX5_hops 96 = .ok (.iconst 0, 1) := by decide +kernel
theorem dX5_hops_97 : decode cX5_hops 97 = .ok (.iload_n 3, 1) := by decide +kernel
theorem dX5_hops_98 : decode cX5_hops 98 = .ok (.bipush 10, 2) := by decide +kernel
theorem dX5_hops_100 : decode cX5_hops 100 = .ok (.idiv, 1) := by decide +kernel
theorem dX5_hops_101 : decode cX5_hops 101 = .ok (.iload_n 3, 1) := by decide +kernel
theorem dX5_hops_102 : decode cX5_hops 102 = .ok (.bipush 10, 2) := by decide +kernel
theorem dX5_hops_104 : decode cX5_hops 104 = .ok (.irem, 1) := by decide +kernel
theorem dX5_hops_105 : decode cX5_hops 105 = .ok (.invokevirtual 72, 3) := by decide +kernel
theorem dX5_hops_108 : decode cX5_hops 108 = .ok (.ifCond .eq 7, 3) := by decide +kernel
theorem dX5_hops_111 : decode cX5_hops 111 = .ok (.iconst 1, 1) := by decide +kernel
theorem dX5_hops_112 : decode cX5_hops 112 = .ok (.goto 4, 3) := by decide +kernel
theorem dX5_hops_115 : decode cX5_hops 115 = .ok (.iconst 0, 1) := by decide +kernel
theorem dX5_hops_116 : decode cX5_hops 116 = .ok (.istore 4, 2) := by decide +kernel
theorem dX5_hops_118 : decode cX5_hops 118 = .ok (.aload_n 0, 1) := by decide +kernel
theorem dX5_hops_119 : decode cX5_hops 119 = .ok (.getfield 17, 3) := by decide +kernel
theorem dX5_hops_122 : decode cX5_hops 122 = .ok (.iload_n 3, 1) := by decide +kernel
theorem dX5_hops_123 : decode cX5_hops 123 = .ok (.bipush 10, 2) := by decide +kernel
theorem dX5_hops_125 : decode cX5_hops 125 = .ok (.irem, 1) := by decide +kernel
theorem dX5_hops_126 : decode cX5_hops 126 = .ok (.iload 4, 2) := by decide +kernel
theorem dX5_hops_128 : decode cX5_hops 128 = .ok (.ifCond .eq 9, 3) := by decide +kernel
theorem dX5_hops_131 : decode cX5_hops 131 = .ok (.iload_n 2, 1) := by decide +kernel
theorem dX5_hops_132 : decode cX5_hops 132 = .ok (.iconst 1, 1) := by decide +kernel
theorem dX5_hops_133 : decode cX5_hops 133 = .ok (.iadd, 1) := by decide +kernel
theorem dX5_hops_134 : decode cX5_hops 134 = .ok (.goto 12, 3) := by decide +kernel
theorem dX5_hops_137 : decode cX5_hops 137 = .ok (.aload_n 0, 1) := by decide +kernel
theorem dX5_hops_138 : decode cX5_hops 138 = .ok (.getfield 17, 3) := by decide +kernel
theorem dX5_hops_141 : decode cX5_hops 141 = .ok (.iload_n 3, 1) := by decide +kernel
theorem dX5_hops_142 : decode cX5_hops 142 = .ok (.bipush 10, 2) := by decide +kernel
theorem dX5_hops_144 : decode cX5_hops 144 = .ok (.irem, 1) := by decide +kernel
theorem dX5_hops_145 : decode cX5_hops 145 = .ok (.iaload, 1) := by decide +kernel
theorem dX5_hops_146 : decode cX5_hops 146 = .ok (.iastore, 1) := by decide +kernel
theorem dX5_hops_147 : decode cX5_hops 147 = .ok (.iinc 3 1, 3) := by decide +kernel
theorem dX5_hops_150 : decode cX5_hops 150 = .ok (.goto (-87), 3) := by decide +kernel
theorem dX5_hops_153 : decode cX5_hops 153 = .ok (.iinc 2 1, 3) := by decide +kernel
theorem dX5_hops_156 : decode cX5_hops 156 = .ok (.goto (-101), 3) := by decide +kernel
theorem dX5_hops_159 : decode cX5_hops 159 = .ok (.aload_n 0, 1) := by decide +kernel
theorem dX5_hops_160 : decode cX5_hops 160 = .ok (.getfield 17, 3) := by decide +kernel
theorem dX5_hops_163 : decode cX5_hops 163 = .ok (.iload_n 1, 1) := by decide +kernel
theorem dX5_hops_164 : decode cX5_hops 164 = .ok (.iaload, 1) := by decide +kernel
theorem dX5_hops_165 : decode cX5_hops 165 = .ok (.ireturn, 1) := by decide +kernel
theorem dX5_stored_0 : decode cX5_stored 0 = .ok (.aload_n 0, 1) := by decide +kernel
theorem dX5_stored_1 : decode cX5_stored 1 = .ok (.iload_n 1, 1) := by decide +kernel
theorem dX5_stored_2 : decode cX5_stored 2 = .ok (.invokestatic 115, 3) := by decide +kernel
theorem dX5_stored_5 : decode cX5_stored 5 = .ok (.iconst 1, 1) := by decide +kernel
theorem dX5_stored_6 : decode cX5_stored 6 = .ok (.iconst 1, 1) := by decide +kernel
theorem dX5_stored_7 : decode cX5_stored 7 = .ok (.invokevirtual 100, 3) := by decide +kernel
theorem dX5_stored_10 : decode cX5_stored 10 = .ok (.ifCond .eq 19, 3) := by decide +kernel
theorem dX5_stored_13 : decode cX5_stored 13 = .ok (.aload_n 0, 1) := by decide +kernel
theorem dX5_stored_14 : decode cX5_stored 14 = .ok (.getfield 7, 3) := by decide +kernel
theorem dX5_stored_17 : decode cX5_stored 17 = .ok (.iconst 0, 1) := by decide +kernel
theorem dX5_stored_18 : decode cX5_stored 18 = .ok (.iload_n 1, 1) := by decide +kernel
theorem dX5_stored_19 : decode cX5_stored 19 = .ok (.invokestatic 20, 3) := by decide +kernel
theorem dX5_stored_22 : decode cX5_stored 22 = .ok (.bipush 6, 2) := by decide +kernel
theorem dX5_stored_24 : decode cX5_stored 24 = .ok (.iadd, 1) := by decide +kernel
theorem dX5_stored_25 : decode cX5_stored 25 = .ok (.iaload, 1) := by decide +kernel
theorem dX5_stored_26 : decode cX5_stored 26 = .ok (.goto 4, 3) := by decide +kernel
theorem dX5_stored_29 : decode cX5_stored 29 = .ok (.iconst 0, 1) := by decide +kernel
theorem dX5_stored_30 : decode cX5_stored 30 = .ok (.ireturn, 1) := by decide +kernel
theorem dX5_storedReading_0 : decode cX5_storedReading 0 = .ok (.aload_n 0, 1) := by decide +kernel
theorem dX5_storedReading_1 : decode cX5_storedReading 1 = .ok (.iload_n 1, 1) := by decide +kernel
theorem dX5_storedReading_2 : decode cX5_storedReading 2 = .ok (.invokestatic 115, 3) := by decide +kernel
theorem dX5_storedReading_5 : decode cX5_storedReading 5 = .ok (.ifCond .eq 11, 3) := by decide +kernel
theorem dX5_storedReading_8 : decode cX5_storedReading 8 = .ok (.iload_n 2, 1) := by decide +kernel
theorem dX5_storedReading_9 : decode cX5_storedReading 9 = .ok (.ifCond .lt 7, 3) := by decide +kernel
theorem dX5_storedReading_12 : decode cX5_storedReading 12 = .ok (.iconst 1, 1) := by decide +kernel
theorem dX5_storedReading_13 : decode cX5_storedReading 13 = .ok (.goto 4, 3) := by decide +kernel
theorem dX5_storedReading_16 : decode cX5_storedReading 16 = .ok (.iconst 0, 1) := by decide +kernel
theorem dX5_storedReading_17 : decode cX5_storedReading 17 = .ok (.iload_n 3, 1) := by decide +kernel
theorem dX5_storedReading_18 : decode cX5_storedReading 18 = .ok (.iconst 0, 1) := by decide +kernel
theorem dX5_storedReading_19 : decode cX5_storedReading 19 = .ok (.iconst 4, 1) := by decide +kernel
theorem dX5_storedReading_20 : decode cX5_storedReading 20 = .ok (.invokestatic 28, 3) := by decide +kernel
theorem dX5_storedReading_23 : decode cX5_storedReading 23 = .ok (.iconst 1, 1) := by decide +kernel
theorem dX5_storedReading_24 : decode cX5_storedReading 24 = .ok (.invokevirtual 100, 3) := by decide +kernel
theorem dX5_storedReading_27 : decode cX5_storedReading 27 = .ok (.ifCond .ne 5, 3) := by decide +kernel
theorem dX5_storedReading_30 : decode cX5_storedReading 30 = .ok (.iconst 0, 1) := by decide +kernel
theorem dX5_storedReading_31 : decode cX5_storedReading 31 = .ok (.ireturn, 1) := by decide +kernel
theorem dX5_storedReading_32 : decode cX5_storedReading 32 = .ok (.iload_n 2, 1) := by decide +kernel
theorem dX5_storedReading_33 : decode cX5_storedReading 33 = .ok (.aload_n 0, 1) := by decide +kernel
theorem dX5_storedReading_34 : decode cX5_storedReading 34 = .ok (.getfield 7, 3) := by decide +kernel
theorem dX5_storedReading_37 : decode cX5_storedReading 37 = .ok (.iconst 0, 1) := by decide +kernel
theorem dX5_storedReading_38 : decode cX5_storedReading 38 = .ok (.iload_n 1, 1) := by decide +kernel
theorem dX5_storedReading_39 : decode cX5_storedReading 39 = .ok (.invokestatic 20, 3) := by decide +kernel
theorem dX5_storedReading_42 : decode cX5_storedReading 42 = .ok (.bipush 6, 2) := by decide +kernel
theorem dX5_storedReading_44 : decode cX5_storedReading 44 = .ok (.iadd, 1) := by decide +kernel
theorem dX5_storedReading_45 : decode cX5_storedReading 45 = .ok (.iaload, 1) := by decide +kernel
theorem dX5_storedReading_46 : decode cX5_storedReading 46 = .ok (.if_icmp .ge 19, 3) := by decide +kernel
theorem dX5_storedReading_49 : decode cX5_storedReading 49 = .ok (.aload_n 0, 1) := by decide +kernel
theorem dX5_storedReading_50 : decode cX5_storedReading 50 = .ok (.getfield 7, 3) := by decide +kernel
theorem dX5_storedReading_53 : decode cX5_storedReading 53 = .ok (.iconst 0, 1) := by decide +kernel
theorem dX5_storedReading_54 : decode cX5_storedReading 54 = .ok (.iload_n 1, 1) := by decide +kernel
theorem dX5_storedReading_55 : decode cX5_storedReading 55 = .ok (.iload_n 2, 1) := by decide +kernel
theorem dX5_storedReading_56 : decode cX5_storedReading 56 = .ok (.invokestatic 43, 3) := by decide +kernel
theorem dX5_storedReading_59 : decode cX5_storedReading 59 = .ok (.iload_n 3, 1) := by decide +kernel
theorem dX5_storedReading_60 : decode cX5_storedReading 60 = .ok (.iadd, 1) := by decide +kernel
theorem dX5_storedReading_61 : decode cX5_storedReading 61 = .ok (.iaload, 1) := by decide +kernel
theorem dX5_storedReading_62 : decode cX5_storedReading 62 = .ok (.goto 4, 3) := by decide +kernel
theorem dX5_storedReading_65 : decode cX5_storedReading 65 = .ok (.iconst (-1), 1) := by decide +kernel
theorem dX5_storedReading_66 : decode cX5_storedReading 66 = .ok (.ireturn, 1) := by decide +kernel
theorem dX5_collected_0 : decode cX5_collected 0 = .ok (.aload_n 0, 1) := by decide +kernel
theorem dX5_collected_1 : decode cX5_collected 1 = .ok (.iconst 0, 1) := by decide +kernel
theorem dX5_collected_2 : decode cX5_collected 2 = .ok (.putfield 24, 3) := by decide +kernel
theorem dX5_collected_5 : decode cX5_collected 5 = .ok (.aload_n 0, 1) := by decide +kernel
theorem dX5_collected_6 : decode cX5_collected 6 = .ok (.getfield 7, 3) := by decide +kernel
theorem dX5_collected_9 : decode cX5_collected 9 = .ok (.bipush 19, 2) := by decide +kernel
theorem dX5_collected_11 : decode cX5_collected 11 = .ok (.iaload, 1) := by decide +kernel
theorem dX5_collected_12 : decode cX5_collected 12 = .ok (.ireturn, 1) := by decide +kernel
theorem dX5_collectedReading_0 : decode cX5_collectedReading 0 = .ok (.aload_n 0, 1) := by decide +kernel
theorem dX5_collectedReading_1 : decode cX5_collectedReading 1 = .ok (.iload_n 1, 1) := by decide +kernel
theorem dX5_collectedReading_2 : decode cX5_collectedReading 2 = .ok (.ifCond .lt 7, 3) := by decide +kernel
theorem dX5_collectedReading_5 : decode cX5_collectedReading 5 = .ok (.iconst 1, 1) := by decide +kernel
theorem dX5_collectedReading_6 : decode cX5_collectedReading 6 = .ok (.goto 4, 3) := by decide +kernel
theorem dX5_collectedReading_9 : decode cX5_collectedReading 9 = .ok (.iconst 0, 1) := by decide +kernel
theorem dX5_collectedReading_10 : decode cX5_collectedReading 10 = .ok (.iload_n 2, 1) := by decide +kernel
theorem dX5_collectedReading_11 : decode cX5_collectedReading 11 = .ok (.iconst 0, 1) := by decide +kernel
theorem dX5_collectedReading_12 : decode cX5_collectedReading 12 = .ok (.iconst 4, 1) := by decide +kernel
theorem dX5_collectedReading_13 : decode cX5_collectedReading 13 = .ok (.invokestatic 28, 3) := by decide +kernel
theorem dX5_collectedReading_16 : decode cX5_collectedReading 16 = .ok (.iconst 1, 1) := by decide +kernel
theorem dX5_collectedReading_17 : decode cX5_collectedReading 17 = .ok (.invokevirtual 100, 3) := by decide +kernel
theorem dX5_collectedReading_20 : decode cX5_collectedReading 20 = .ok (.ifCond .ne 5, 3) := by decide +kernel
theorem dX5_collectedReading_23 : decode cX5_collectedReading 23 = .ok (.iconst 0, 1) := by decide +kernel
theorem dX5_collectedReading_24 : decode cX5_collectedReading 24 = .ok (.ireturn, 1) := by decide +kernel
theorem dX5_collectedReading_25 : decode cX5_collectedReading 25 = .ok (.iload_n 1, 1) := by decide +kernel
theorem dX5_collectedReading_26 : decode cX5_collectedReading 26 = .ok (.aload_n 0, 1) := by decide +kernel
theorem dX5_collectedReading_27 : decode cX5_collectedReading 27 = .ok (.getfield 7, 3) := by decide +kernel
theorem dX5_collectedReading_30 : decode cX5_collectedReading 30 = .ok (.bipush 19, 2) := by decide +kernel
theorem dX5_collectedReading_32 : decode cX5_collectedReading 32 = .ok (.iaload, 1) := by decide +kernel
theorem dX5_collectedReading_33 : decode cX5_collectedReading 33 = .ok (.if_icmp .ge 18, 3) := by decide +kernel
theorem dX5_collectedReading_36 : decode cX5_collectedReading 36 = .ok (.aload_n 0, 1) := by decide +kernel
theorem dX5_collectedReading_37 : decode cX5_collectedReading 37 = .ok (.getfield 7, 3) := by decide +kernel
theorem dX5_collectedReading_40 : decode cX5_collectedReading 40 = .ok (.iconst 0, 1) := by decide +kernel
theorem dX5_collectedReading_41 : decode cX5_collectedReading 41 = .ok (.iload_n 1, 1) := by decide +kernel
theorem dX5_collectedReading_42 : decode cX5_collectedReading 42 = .ok (.invokestatic 57, 3) := by decide +kernel
theorem dX5_collectedReading_45 : decode cX5_collectedReading 45 = .ok (.iload_n 2, 1) := by decide +kernel
theorem dX5_collectedReading_46 : decode cX5_collectedReading 46 = .ok (.iadd, 1) := by decide +kernel
theorem dX5_collectedReading_47 : decode cX5_collectedReading 47 = .ok (.iaload, 1) := by decide +kernel
theorem dX5_collectedReading_48 : decode cX5_collectedReading 48 = .ok (.goto 4, 3) := by decide +kernel
theorem dX5_collectedReading_51 : decode cX5_collectedReading 51 = .ok (.iconst (-1), 1) := by decide +kernel
theorem dX5_collectedReading_52 : decode cX5_collectedReading 52 = .ok (.ireturn, 1) := by decide +kernel
theorem dX5_copies_0 : decode cX5_copies 0 = .ok (.aload_n 0, 1) := by decide +kernel
theorem dX5_copies_1 : decode cX5_copies 1 = .ok (.iload_n 1, 1) := by decide +kernel
theorem dX5_copies_2 : decode cX5_copies 2 = .ok (.invokestatic 115, 3) := by decide +kernel
theorem dX5_copies_5 : decode cX5_copies 5 = .ok (.iconst 1, 1) := by decide +kernel
theorem dX5_copies_6 : decode cX5_copies 6 = .ok (.iconst 1, 1) := by decide +kernel
theorem dX5_copies_7 : decode cX5_copies 7 = .ok (.invokevirtual 100, 3) := by decide +kernel
theorem dX5_copies_10 : decode cX5_copies 10 = .ok (.ifCond .ne 5, 3) := by decide +kernel
theorem dX5_copies_13 : decode cX5_copies 13 = .ok (.iconst 0, 1) := by decide +kernel
theorem dX5_copies_14 : decode cX5_copies 14 = .ok (.ireturn, 1) := by decide +kernel
theorem dX5_copies_15 : decode cX5_copies 15 = .ok (.iload_n 2, 1) := by decide +kernel
theorem dX5_copies_16 : decode cX5_copies 16 = .ok (.iconst 0, 1) := by decide +kernel
theorem dX5_copies_17 : decode cX5_copies 17 = .ok (.aload_n 0, 1) := by decide +kernel
theorem dX5_copies_18 : decode cX5_copies 18 = .ok (.getfield 7, 3) := by decide +kernel
theorem dX5_copies_21 : decode cX5_copies 21 = .ok (.iconst 0, 1) := by decide +kernel
theorem dX5_copies_22 : decode cX5_copies 22 = .ok (.iload_n 1, 1) := by decide +kernel
theorem dX5_copies_23 : decode cX5_copies 23 = .ok (.invokestatic 20, 3) := by decide +kernel
theorem dX5_copies_26 : decode cX5_copies 26 = .ok (.iconst 5, 1) := by decide +kernel
theorem dX5_copies_27 : decode cX5_copies 27 = .ok (.iadd, 1) := by decide +kernel
theorem dX5_copies_28 : decode cX5_copies 28 = .ok (.iaload, 1) := by decide +kernel
theorem dX5_copies_29 : decode cX5_copies 29 = .ok (.iconst 1, 1) := by decide +kernel
theorem dX5_copies_30 : decode cX5_copies 30 = .ok (.isub, 1) := by decide +kernel
theorem dX5_copies_31 : decode cX5_copies 31 = .ok (.invokestatic 28, 3) := by decide +kernel
theorem dX5_copies_34 : decode cX5_copies 34 = .ok (.ifCond .ne 5, 3) := by decide +kernel
theorem dX5_copies_37 : decode cX5_copies 37 = .ok (.iconst (-1), 1) := by decide +kernel
theorem dX5_copies_38 : decode cX5_copies 38 = .ok (.ireturn, 1) := by decide +kernel
theorem dX5_copies_39 : decode cX5_copies 39 = .ok (.iconst 0, 1) := by decide +kernel
theorem dX5_copies_40 : decode cX5_copies 40 = .ok (.istore_n 3, 1) := by decide +kernel
theorem dX5_copies_41 : decode cX5_copies 41 = .ok (.iconst 1, 1) := by decide +kernel
theorem dX5_copies_42 : decode cX5_copies 42 = .ok (.istore 4, 2) := by decide +kernel
theorem dX5_copies_44 : decode cX5_copies 44 = .ok (.iload 4, 2) := by decide +kernel
theorem dX5_copies_46 : decode cX5_copies 46 = .ok (.bipush 10, 2) := by decide +kernel
theorem dX5_copies_48 : decode cX5_copies 48 = .ok (.if_icmp .ge 79, 3) := by decide +kernel
theorem dX5_copies_51 : decode cX5_copies 51 = .ok (.iconst 0, 1) := by decide +kernel
theorem dX5_copies_52 : decode cX5_copies 52 = .ok (.istore 5, 2) := by decide +kernel
theorem dX5_copies_54 : decode cX5_copies 54 = .ok (.iload 5, 2) := by decide +kernel
theorem dX5_copies_56 : decode cX5_copies 56 = .ok (.aload_n 0, 1) := by decide +kernel
theorem dX5_copies_57 : decode cX5_copies 57 = .ok (.getfield 7, 3) := by decide +kernel
theorem dX5_copies_60 : decode cX5_copies 60 = .ok (.iconst 0, 1) := by decide +kernel
theorem dX5_copies_61 : decode cX5_copies 61 = .ok (.iload 4, 2) := by decide +kernel
theorem dX5_copies_63 : decode cX5_copies 63 = .ok (.invokestatic 20, 3) := by decide +kernel
theorem dX5_copies_66 : decode cX5_copies 66 = .ok (.bipush 6, 2) := by decide +kernel
theorem dX5_copies_68 : decode cX5_copies 68 = .ok (.iadd, 1) := by decide +kernel
theorem dX5_copies_69 : decode cX5_copies 69 = .ok (.iaload, 1) := by decide +kernel
theorem dX5_copies_70 : decode cX5_copies 70 = .ok (.if_icmp .ge 51, 3) := by decide +kernel
theorem dX5_copies_73 : decode cX5_copies 73 = .ok (.iconst 0, 1) := by decide +kernel
theorem dX5_copies_74 : decode cX5_copies 74 = .ok (.iload 4, 2) := by decide +kernel
theorem dX5_copies_76 : decode cX5_copies 76 = .ok (.iload 5, 2) := by decide +kernel
theorem dX5_copies_78 : decode cX5_copies 78 = .ok (.invokestatic 43, 3) := by decide +kernel
theorem dX5_copies_81 : decode cX5_copies 81 = .ok (.istore 6, 2) := by decide +kernel
theorem dX5_copies_83 : decode cX5_copies 83 = .ok (.iload_n 3, 1) := by decide +kernel
theorem dX5_copies_84 : decode cX5_copies 84 = .ok (.aload_n 0, 1) := by decide +kernel
theorem dX5_copies_85 : decode cX5_copies 85 = .ok (.getfield 7, 3) := by decide +kernel
theorem dX5_copies_88 : decode cX5_copies 88 = .ok (.iload 6, 2) := by decide +kernel
theorem dX5_copies_90 : decode cX5_copies 90 = .ok (.iaload, 1) := by decide +kernel
theorem dX5_copies_91 : decode cX5_copies 91 = .ok (.iload_n 1, 1) := by decide +kernel
theorem dX5_copies_92 : decode cX5_copies 92 = .ok (.if_icmp .ne 20, 3) := by decide +kernel
theorem dX5_copies_95 : decode cX5_copies 95 = .ok (.aload_n 0, 1) := by decide +kernel
theorem dX5_copies_96 : decode cX5_copies 96 = .ok (.getfield 7, 3) := by decide +kernel
theorem dX5_copies_99 : decode cX5_copies 99 = .ok (.iload 6, 2) := by decide +kernel
theorem dX5_copies_101 : decode cX5_copies 101 = .ok (.iconst 1, 1) := by decide +kernel
theorem dX5_copies_102 : decode cX5_copies 102 = .ok (.iadd, 1) := by decide +kernel
theorem dX5_copies_103 : decode cX5_copies 103 = .ok (.iaload, 1) := by decide +kernel
theorem dX5_copies_104 : decode cX5_copies 104 = .ok (.iload_n 2, 1) := by decide +kernel
theorem dX5_copies_105 : decode cX5_copies 105 = .ok (.if_icmp .ne 7, 3) := by decide +kernel
theorem dX5_copies_108 : decode cX5_copies 108 = .ok (.iconst 1, 1) := by decide +kernel
theorem dX5_copies_109 : decode cX5_copies 109 = .ok (.goto 4, 3) := by decide +kernel
theorem dX5_copies_112 : decode cX5_copies 112 = .ok (.iconst 0, 1) := by decide +kernel
theorem dX5_copies_113 : decode cX5_copies 113 = .ok (.iadd, 1) := by decide +kernel
theorem dX5_copies_114 : decode cX5_copies 114 = .ok (.istore_n 3, 1) := by decide +kernel
theorem dX5_copies_115 : decode cX5_copies 115 = .ok (.iinc 5 1, 3) := by decide +kernel
theorem dX5_copies_118 : decode cX5_copies 118 = .ok (.goto (-64), 3) := by decide +kernel
theorem dX5_copies_121 : decode cX5_copies 121 = .ok (.iinc 4 1, 3) := by decide +kernel
theorem dX5_copies_124 : decode cX5_copies 124 = .ok (.goto (-80), 3) := by decide +kernel
theorem dX5_copies_127 : decode cX5_copies 127 = .ok (.iload_n 3, 1) := by decide +kernel
theorem dX5_copies_128 : decode cX5_copies 128 = .ok (.ireturn, 1) := by decide +kernel
theorem dX5_missing_0 : decode cX5_missing 0 = .ok (.aload_n 0, 1) := by decide +kernel
theorem dX5_missing_1 : decode cX5_missing 1 = .ok (.iconst 0, 1) := by decide +kernel
theorem dX5_missing_2 : decode cX5_missing 2 = .ok (.putfield 24, 3) := by decide +kernel
theorem dX5_missing_5 : decode cX5_missing 5 = .ok (.aload_n 0, 1) := by decide +kernel
theorem dX5_missing_6 : decode cX5_missing 6 = .ok (.getfield 7, 3) := by decide +kernel
theorem dX5_missing_9 : decode cX5_missing 9 = .ok (.bipush 13, 2) := by decide +kernel
theorem dX5_missing_11 : decode cX5_missing 11 = .ok (.iaload, 1) := by decide +kernel
theorem dX5_missing_12 : decode cX5_missing 12 = .ok (.aload_n 0, 1) := by decide +kernel
theorem dX5_missing_13 : decode cX5_missing 13 = .ok (.getfield 7, 3) := by decide +kernel
theorem dX5_missing_16 : decode cX5_missing 16 = .ok (.bipush 19, 2) := by decide +kernel
theorem dX5_missing_18 : decode cX5_missing 18 = .ok (.iaload, 1) := by decide +kernel
theorem dX5_missing_19 : decode cX5_missing 19 = .ok (.isub, 1) := by decide +kernel
theorem dX5_missing_20 : decode cX5_missing 20 = .ok (.ireturn, 1) := by decide +kernel
theorem dX5_wrongStamps_0 : decode cX5_wrongStamps 0 = .ok (.aload_n 0, 1) := by decide +kernel
theorem dX5_wrongStamps_1 : decode cX5_wrongStamps 1 = .ok (.iconst 0, 1) := by decide +kernel
theorem dX5_wrongStamps_2 : decode cX5_wrongStamps 2 = .ok (.putfield 24, 3) := by decide +kernel
theorem dX5_wrongStamps_5 : decode cX5_wrongStamps 5 = .ok (.iconst 0, 1) := by decide +kernel
theorem dX5_wrongStamps_6 : decode cX5_wrongStamps 6 = .ok (.istore_n 1, 1) := by decide +kernel
theorem dX5_wrongStamps_7 : decode cX5_wrongStamps 7 = .ok (.iconst 0, 1) := by decide +kernel
theorem dX5_wrongStamps_8 : decode cX5_wrongStamps 8 = .ok (.istore_n 2, 1) := by decide +kernel
theorem dX5_wrongStamps_9 : decode cX5_wrongStamps 9 = .ok (.iload_n 2, 1) := by decide +kernel
theorem dX5_wrongStamps_10 : decode cX5_wrongStamps 10 = .ok (.aload_n 0, 1) := by decide +kernel
theorem dX5_wrongStamps_11 : decode cX5_wrongStamps 11 = .ok (.getfield 7, 3) := by decide +kernel
theorem dX5_wrongStamps_14 : decode cX5_wrongStamps 14 = .ok (.bipush 19, 2) := by decide +kernel
theorem dX5_wrongStamps_16 : decode cX5_wrongStamps 16 = .ok (.iaload, 1) := by decide +kernel
theorem dX5_wrongStamps_17 : decode cX5_wrongStamps 17 = .ok (.if_icmp .ge 44, 3) := by decide +kernel
theorem dX5_wrongStamps_20 : decode cX5_wrongStamps 20 = .ok (.iload_n 1, 1) := by decide +kernel
theorem dX5_wrongStamps_21 : decode cX5_wrongStamps 21 = .ok (.aload_n 0, 1) := by decide +kernel
theorem dX5_wrongStamps_22 : decode cX5_wrongStamps 22 = .ok (.getfield 7, 3) := by decide +kernel
theorem dX5_wrongStamps_25 : decode cX5_wrongStamps 25 = .ok (.iconst 0, 1) := by decide +kernel
theorem dX5_wrongStamps_26 : decode cX5_wrongStamps 26 = .ok (.iload_n 2, 1) := by decide +kernel
theorem dX5_wrongStamps_27 : decode cX5_wrongStamps 27 = .ok (.invokestatic 57, 3) := by decide +kernel
theorem dX5_wrongStamps_30 : decode cX5_wrongStamps 30 = .ok (.iconst 4, 1) := by decide +kernel
theorem dX5_wrongStamps_31 : decode cX5_wrongStamps 31 = .ok (.iadd, 1) := by decide +kernel
theorem dX5_wrongStamps_32 : decode cX5_wrongStamps 32 = .ok (.iaload, 1) := by decide +kernel
theorem dX5_wrongStamps_33 : decode cX5_wrongStamps 33 = .ok (.aload_n 0, 1) := by decide +kernel
theorem dX5_wrongStamps_34 : decode cX5_wrongStamps 34 = .ok (.getfield 7, 3) := by decide +kernel
theorem dX5_wrongStamps_37 : decode cX5_wrongStamps 37 = .ok (.iconst 0, 1) := by decide +kernel
theorem dX5_wrongStamps_38 : decode cX5_wrongStamps 38 = .ok (.iload_n 2, 1) := by decide +kernel
theorem dX5_wrongStamps_39 : decode cX5_wrongStamps 39 = .ok (.invokestatic 57, 3) := by decide +kernel
theorem dX5_wrongStamps_42 : decode cX5_wrongStamps 42 = .ok (.iconst 3, 1) := by decide +kernel
theorem dX5_wrongStamps_43 : decode cX5_wrongStamps 43 = .ok (.iadd, 1) := by decide +kernel
theorem dX5_wrongStamps_44 : decode cX5_wrongStamps 44 = .ok (.iaload, 1) := by decide +kernel
theorem dX5_wrongStamps_45 : decode cX5_wrongStamps 45 = .ok (.if_icmp .eq 7, 3) := by decide +kernel
theorem dX5_wrongStamps_48 : decode cX5_wrongStamps 48 = .ok (.iconst 1, 1) := by decide +kernel
theorem dX5_wrongStamps_49 : decode cX5_wrongStamps 49 = .ok (.goto 4, 3) := by decide +kernel
theorem dX5_wrongStamps_52 : decode cX5_wrongStamps 52 = .ok (.iconst 0, 1) := by decide +kernel
theorem dX5_wrongStamps_53 : decode cX5_wrongStamps 53 = .ok (.iadd, 1) := by decide +kernel
theorem dX5_wrongStamps_54 : decode cX5_wrongStamps 54 = .ok (.istore_n 1, 1) := by decide +kernel
theorem dX5_wrongStamps_55 : decode cX5_wrongStamps 55 = .ok (.iinc 2 1, 3) := by decide +kernel
theorem dX5_wrongStamps_58 : decode cX5_wrongStamps 58 = .ok (.goto (-49), 3) := by decide +kernel
theorem dX5_wrongStamps_61 : decode cX5_wrongStamps 61 = .ok (.iload_n 1, 1) := by decide +kernel
theorem dX5_wrongStamps_62 : decode cX5_wrongStamps 62 = .ok (.ireturn, 1) := by decide +kernel
theorem dX5_slotsToCollect_0 : decode cX5_slotsToCollect 0 = .ok (.aload_n 0, 1) := by decide +kernel
theorem dX5_slotsToCollect_1 : decode cX5_slotsToCollect 1 = .ok (.iconst 0, 1) := by decide +kernel
theorem dX5_slotsToCollect_2 : decode cX5_slotsToCollect 2 = .ok (.putfield 24, 3) := by decide +kernel
theorem dX5_slotsToCollect_5 : decode cX5_slotsToCollect 5 = .ok (.aload_n 0, 1) := by decide +kernel
theorem dX5_slotsToCollect_6 : decode cX5_slotsToCollect 6 = .ok (.iconst 0, 1) := by decide +kernel
theorem dX5_slotsToCollect_7 : decode cX5_slotsToCollect 7 = .ok (.bipush 7, 2) := by decide +kernel
theorem dX5_slotsToCollect_9 : decode cX5_slotsToCollect 9 = .ok (.invokevirtual 35, 3) := by decide +kernel
theorem dX5_slotsToCollect_12 : decode cX5_slotsToCollect 12 = .ok (.sipush 4830, 3) := by decide +kernel
theorem dX5_slotsToCollect_15 : decode cX5_slotsToCollect 15 = .ok (.istore_n 1, 1) := by decide +kernel
theorem dX5_slotsToCollect_16 : decode cX5_slotsToCollect 16 = .ok (.iconst 0, 1) := by decide +kernel
theorem dX5_slotsToCollect_17 : decode cX5_slotsToCollect 17 = .ok (.istore_n 2, 1) := by decide +kernel
theorem dX5_slotsToCollect_18 : decode cX5_slotsToCollect 18 = .ok (.iload_n 2, 1) := by decide +kernel
theorem dX5_slotsToCollect_19 : decode cX5_slotsToCollect 19 = .ok (.sipush 400, 3) := by decide +kernel
theorem dX5_slotsToCollect_22 : decode cX5_slotsToCollect 22 = .ok (.if_icmp .gt 37, 3) := by decide +kernel
theorem dX5_slotsToCollect_25 : decode cX5_slotsToCollect 25 = .ok (.aload_n 0, 1) := by decide +kernel
theorem dX5_slotsToCollect_26 : decode cX5_slotsToCollect 26 = .ok (.getfield 7, 3) := by decide +kernel
theorem dX5_slotsToCollect_29 : decode cX5_slotsToCollect 29 = .ok (.iload_n 1, 1) := by decide +kernel
theorem dX5_slotsToCollect_30 : decode cX5_slotsToCollect 30 = .ok (.bipush 13, 2) := by decide +kernel
theorem dX5_slotsToCollect_32 : decode cX5_slotsToCollect 32 = .ok (.iadd, 1) := by decide +kernel
theorem dX5_slotsToCollect_33 : decode cX5_slotsToCollect 33 = .ok (.iaload, 1) := by decide +kernel
theorem dX5_slotsToCollect_34 : decode cX5_slotsToCollect 34 = .ok (.aload_n 0, 1) := by decide +kernel
theorem dX5_slotsToCollect_35 : decode cX5_slotsToCollect 35 = .ok (.getfield 7, 3) := by decide +kernel
theorem dX5_slotsToCollect_38 : decode cX5_slotsToCollect 38 = .ok (.iload_n 1, 1) := by decide +kernel
theorem dX5_slotsToCollect_39 : decode cX5_slotsToCollect 39 = .ok (.bipush 19, 2) := by decide +kernel
theorem dX5_slotsToCollect_41 : decode cX5_slotsToCollect 41 = .ok (.iadd, 1) := by decide +kernel
theorem dX5_slotsToCollect_42 : decode cX5_slotsToCollect 42 = .ok (.iaload, 1) := by decide +kernel
theorem dX5_slotsToCollect_43 : decode cX5_slotsToCollect 43 = .ok (.if_icmp .ne 5, 3) := by decide +kernel
theorem dX5_slotsToCollect_46 : decode cX5_slotsToCollect 46 = .ok (.iload_n 2, 1) := by decide +kernel
theorem dX5_slotsToCollect_47 : decode cX5_slotsToCollect 47 = .ok (.ireturn, 1) := by decide +kernel
theorem dX5_slotsToCollect_48 : decode cX5_slotsToCollect 48 = .ok (.aload_n 0, 1) := by decide +kernel
theorem dX5_slotsToCollect_49 : decode cX5_slotsToCollect 49 = .ok (.iload_n 1, 1) := by decide +kernel
theorem dX5_slotsToCollect_50 : decode cX5_slotsToCollect 50 = .ok (.invokevirtual 88, 3) := by decide +kernel
theorem dX5_slotsToCollect_53 : decode cX5_slotsToCollect 53 = .ok (.iinc 2 1, 3) := by decide +kernel
theorem dX5_slotsToCollect_56 : decode cX5_slotsToCollect 56 = .ok (.goto (-38), 3) := by decide +kernel
theorem dX5_slotsToCollect_59 : decode cX5_slotsToCollect 59 = .ok (.iconst (-1), 1) := by decide +kernel
theorem dX5_slotsToCollect_60 : decode cX5_slotsToCollect 60 = .ok (.ireturn, 1) := by decide +kernel
theorem dX5_ifRun_0 : decode cX5_ifRun 0 = .ok (.aload_n 0, 1) := by decide +kernel
theorem dX5_ifRun_1 : decode cX5_ifRun 1 = .ok (.iload_n 1, 1) := by decide +kernel
theorem dX5_ifRun_2 : decode cX5_ifRun 2 = .ok (.iconst 1, 1) := by decide +kernel
theorem dX5_ifRun_3 : decode cX5_ifRun 3 = .ok (.bipush 100, 2) := by decide +kernel
theorem dX5_ifRun_5 : decode cX5_ifRun 5 = .ok (.invokestatic 28, 3) := by decide +kernel
theorem dX5_ifRun_8 : decode cX5_ifRun 8 = .ok (.iconst 1, 1) := by decide +kernel
theorem dX5_ifRun_9 : decode cX5_ifRun 9 = .ok (.iconst 1, 1) := by decide +kernel
theorem dX5_ifRun_10 : decode cX5_ifRun 10 = .ok (.invokevirtual 100, 3) := by decide +kernel
theorem dX5_ifRun_13 : decode cX5_ifRun 13 = .ok (.ifCond .ne 5, 3) := by decide +kernel
theorem dX5_ifRun_16 : decode cX5_ifRun 16 = .ok (.iconst 0, 1) := by decide +kernel
theorem dX5_ifRun_17 : decode cX5_ifRun 17 = .ok (.ireturn, 1) := by decide +kernel
theorem dX5_ifRun_18 : decode cX5_ifRun 18 = .ok (.aload_n 0, 1) := by decide +kernel
theorem dX5_ifRun_19 : decode cX5_ifRun 19 = .ok (.iconst 0, 1) := by decide +kernel
theorem dX5_ifRun_20 : decode cX5_ifRun 20 = .ok (.bipush 7, 2) := by decide +kernel
theorem dX5_ifRun_22 : decode cX5_ifRun 22 = .ok (.invokevirtual 35, 3) := by decide +kernel
theorem dX5_ifRun_25 : decode cX5_ifRun 25 = .ok (.aload_n 0, 1) := by decide +kernel
theorem dX5_ifRun_26 : decode cX5_ifRun 26 = .ok (.sipush 4830, 3) := by decide +kernel
theorem dX5_ifRun_29 : decode cX5_ifRun 29 = .ok (.iload_n 1, 1) := by decide +kernel
theorem dX5_ifRun_30 : decode cX5_ifRun 30 = .ok (.invokevirtual 127, 3) := by decide +kernel
theorem dX5_ifRun_33 : decode cX5_ifRun 33 = .ok (.ireturn, 1) := by decide +kernel
theorem dX5_time_0 : decode cX5_time 0 = .ok (.aload_n 0, 1) := by decide +kernel
theorem dX5_time_1 : decode cX5_time 1 = .ok (.iconst 0, 1) := by decide +kernel
theorem dX5_time_2 : decode cX5_time 2 = .ok (.putfield 24, 3) := by decide +kernel
theorem dX5_time_5 : decode cX5_time 5 = .ok (.aload_n 0, 1) := by decide +kernel
theorem dX5_time_6 : decode cX5_time 6 = .ok (.getfield 7, 3) := by decide +kernel
theorem dX5_time_9 : decode cX5_time 9 = .ok (.bipush 12, 2) := by decide +kernel
theorem dX5_time_11 : decode cX5_time 11 = .ok (.iaload, 1) := by decide +kernel
theorem dX5_time_12 : decode cX5_time 12 = .ok (.ireturn, 1) := by decide +kernel
theorem dX5_count_0 : decode cX5_count 0 = .ok (.aload_n 0, 1) := by decide +kernel
theorem dX5_count_1 : decode cX5_count 1 = .ok (.iload_n 1, 1) := by decide +kernel
theorem dX5_count_2 : decode cX5_count 2 = .ok (.iconst 0, 1) := by decide +kernel
theorem dX5_count_3 : decode cX5_count 3 = .ok (.iconst 5, 1) := by decide +kernel
theorem dX5_count_4 : decode cX5_count 4 = .ok (.invokestatic 28, 3) := by decide +kernel
theorem dX5_count_7 : decode cX5_count 7 = .ok (.iconst 1, 1) := by decide +kernel
theorem dX5_count_8 : decode cX5_count 8 = .ok (.iconst 1, 1) := by decide +kernel
theorem dX5_count_9 : decode cX5_count 9 = .ok (.invokevirtual 100, 3) := by decide +kernel
theorem dX5_count_12 : decode cX5_count 12 = .ok (.ifCond .eq 15, 3) := by decide +kernel
theorem dX5_count_15 : decode cX5_count 15 = .ok (.aload_n 0, 1) := by decide +kernel
theorem dX5_count_16 : decode cX5_count 16 = .ok (.getfield 7, 3) := by decide +kernel
theorem dX5_count_19 : decode cX5_count 19 = .ok (.bipush 13, 2) := by decide +kernel
theorem dX5_count_21 : decode cX5_count 21 = .ok (.iload_n 1, 1) := by decide +kernel
theorem dX5_count_22 : decode cX5_count 22 = .ok (.iadd, 1) := by decide +kernel
theorem dX5_count_23 : decode cX5_count 23 = .ok (.iaload, 1) := by decide +kernel
theorem dX5_count_24 : decode cX5_count 24 = .ok (.goto 4, 3) := by decide +kernel
theorem dX5_count_27 : decode cX5_count 27 = .ok (.iconst 0, 1) := by decide +kernel
theorem dX5_count_28 : decode cX5_count 28 = .ok (.ireturn, 1) := by decide +kernel
theorem dX5_joined_0 : decode cX5_joined 0 = .ok (.aload_n 0, 1) := by decide +kernel
theorem dX5_joined_1 : decode cX5_joined 1 = .ok (.iconst 0, 1) := by decide +kernel
theorem dX5_joined_2 : decode cX5_joined 2 = .ok (.putfield 24, 3) := by decide +kernel
theorem dX5_joined_5 : decode cX5_joined 5 = .ok (.iconst 0, 1) := by decide +kernel
theorem dX5_joined_6 : decode cX5_joined 6 = .ok (.istore_n 1, 1) := by decide +kernel
theorem dX5_joined_7 : decode cX5_joined 7 = .ok (.iconst 1, 1) := by decide +kernel
theorem dX5_joined_8 : decode cX5_joined 8 = .ok (.istore_n 2, 1) := by decide +kernel
theorem dX5_joined_9 : decode cX5_joined 9 = .ok (.iload_n 2, 1) := by decide +kernel
theorem dX5_joined_10 : decode cX5_joined 10 = .ok (.bipush 10, 2) := by decide +kernel
theorem dX5_joined_12 : decode cX5_joined 12 = .ok (.if_icmp .ge 33, 3) := by decide +kernel
theorem dX5_joined_15 : decode cX5_joined 15 = .ok (.iload_n 1, 1) := by decide +kernel
theorem dX5_joined_16 : decode cX5_joined 16 = .ok (.aload_n 0, 1) := by decide +kernel
theorem dX5_joined_17 : decode cX5_joined 17 = .ok (.getfield 7, 3) := by decide +kernel
theorem dX5_joined_20 : decode cX5_joined 20 = .ok (.iconst 0, 1) := by decide +kernel
theorem dX5_joined_21 : decode cX5_joined 21 = .ok (.iload_n 2, 1) := by decide +kernel
theorem dX5_joined_22 : decode cX5_joined 22 = .ok (.invokestatic 20, 3) := by decide +kernel
theorem dX5_joined_25 : decode cX5_joined 25 = .ok (.iconst 1, 1) := by decide +kernel
theorem dX5_joined_26 : decode cX5_joined 26 = .ok (.iadd, 1) := by decide +kernel
theorem dX5_joined_27 : decode cX5_joined 27 = .ok (.iaload, 1) := by decide +kernel
theorem dX5_joined_28 : decode cX5_joined 28 = .ok (.iconst (-1), 1) := by decide +kernel
theorem dX5_joined_29 : decode cX5_joined 29 = .ok (.if_icmp .ne 7, 3) := by decide +kernel
theorem dX5_joined_32 : decode cX5_joined 32 = .ok (.iconst 0, 1) := by decide +kernel
theorem dX5_joined_33 : decode cX5_joined 33 = .ok (.goto 4, 3) := by decide +kernel
theorem dX5_joined_36 : decode cX5_joined 36 = .ok (.iconst 1, 1) := by decide +kernel
theorem dX5_joined_37 : decode cX5_joined 37 = .ok (.iadd, 1) := by decide +kernel
theorem dX5_joined_38 : decode cX5_joined 38 = .ok (.istore_n 1, 1) := by decide +kernel
theorem dX5_joined_39 : decode cX5_joined 39 = .ok (.iinc 2 1, 3) := by decide +kernel
theorem dX5_joined_42 : decode cX5_joined 42 = .ok (.goto (-33), 3) := by decide +kernel
theorem dX5_joined_45 : decode cX5_joined 45 = .ok (.iload_n 1, 1) := by decide +kernel
theorem dX5_joined_46 : decode cX5_joined 46 = .ok (.i2d, 1) := by decide +kernel
theorem dX5_joined_47 : decode cX5_joined 47 = .ok (.ldc2_w 171, 3) := by decide +kernel
theorem dX5_joined_50 : decode cX5_joined 50 = .ok (.ddiv, 1) := by decide +kernel
theorem dX5_joined_51 : decode cX5_joined 51 = .ok (.dreturn, 1) := by decide +kernel
theorem dX5_savedStates_0 : decode cX5_savedStates 0 = .ok (.aload_n 0, 1) := by decide +kernel
theorem dX5_savedStates_1 : decode cX5_savedStates 1 = .ok (.iconst 0, 1) := by decide +kernel
theorem dX5_savedStates_2 : decode cX5_savedStates 2 = .ok (.putfield 24, 3) := by decide +kernel
theorem dX5_savedStates_5 : decode cX5_savedStates 5 = .ok (.aload_n 0, 1) := by decide +kernel
theorem dX5_savedStates_6 : decode cX5_savedStates 6 = .ok (.getfield 32, 3) := by decide +kernel
theorem dX5_savedStates_9 : decode cX5_savedStates 9 = .ok (.ireturn, 1) := by decide +kernel
theorem dX5_textLength_0 : decode cX5_textLength 0 = .ok (.aload_n 0, 1) := by decide +kernel
theorem dX5_textLength_1 : decode cX5_textLength 1 = .ok (.iconst 0, 1) := by decide +kernel
theorem dX5_textLength_2 : decode cX5_textLength 2 = .ok (.putfield 24, 3) := by decide +kernel
theorem dX5_textLength_5 : decode cX5_textLength 5 = .ok (.aload_n 0, 1) := by decide +kernel
theorem dX5_textLength_6 : decode cX5_textLength 6 = .ok (.getfield 130, 3) := by decide +kernel
theorem dX5_textLength_9 : decode cX5_textLength 9 = .ok (.ireturn, 1) := by decide +kernel
end
section
theorem dL_link_0 : decode cL_link 0 = .ok (.aload 4, 2) := by decide +kernel
theorem dL_link_2 : decode cL_link 2 = .ok (.iconst 0, 1) := by decide +kernel
theorem dL_link_3 : decode cL_link 3 = .ok (.aload_n 0, 1) := by decide +kernel
theorem dL_link_4 : decode cL_link 4 = .ok (.iload_n 1, 1) := by decide +kernel
theorem dL_link_5 : decode cL_link 5 = .ok (.iload_n 2, 1) := by decide +kernel
theorem dL_link_6 : decode cL_link 6 = .ok (.iload_n 3, 1) := by decide +kernel
theorem dL_link_7 : decode cL_link 7 = .ok (.invokevirtual 7, 3) := by decide +kernel
theorem dL_link_10 : decode cL_link 10 = .ok (.i2l, 1) := by decide +kernel
theorem dL_link_11 : decode cL_link 11 = .ok (.lastore, 1) := by decide +kernel
theorem dL_link_12 : decode cL_link 12 = .ok (.goto 11, 3) := by decide +kernel
theorem dL_link_15 : decode cL_link 15 = .ok (.astore 5, 2) := by decide +kernel
theorem dL_link_17 : decode cL_link 17 = .ok (.iconst 1, 1) := by decide +kernel
theorem dL_link_18 : decode cL_link 18 = .ok (.ireturn, 1) := by decide +kernel
theorem dL_link_19 : decode cL_link 19 = .ok (.astore 5, 2) := by decide +kernel
theorem dL_link_21 : decode cL_link 21 = .ok (.iconst 2, 1) := by decide +kernel
theorem dL_link_22 : decode cL_link 22 = .ok (.ireturn, 1) := by decide +kernel
theorem dL_link_23 : decode cL_link 23 = .ok (.iconst 0, 1) := by decide +kernel
theorem dL_link_24 : decode cL_link 24 = .ok (.ireturn, 1) := by decide +kernel
theorem dL_power_0 : decode cL_power 0 = .ok (.aload_n 3, 1) := by decide +kernel
theorem dL_power_1 : decode cL_power 1 = .ok (.iconst 0, 1) := by decide +kernel
theorem dL_power_2 : decode cL_power 2 = .ok (.aload_n 0, 1) := by decide +kernel
theorem dL_power_3 : decode cL_power 3 = .ok (.iload_n 1, 1) := by decide +kernel
theorem dL_power_4 : decode cL_power 4 = .ok (.iload_n 2, 1) := by decide +kernel
theorem dL_power_5 : decode cL_power 5 = .ok (.invokevirtual 17, 3) := by decide +kernel
theorem dL_power_8 : decode cL_power 8 = .ok (.i2l, 1) := by decide +kernel
theorem dL_power_9 : decode cL_power 9 = .ok (.lastore, 1) := by decide +kernel
theorem dL_power_10 : decode cL_power 10 = .ok (.goto 7, 3) := by decide +kernel
theorem dL_power_13 : decode cL_power 13 = .ok (.astore 4, 2) := by decide +kernel
theorem dL_power_15 : decode cL_power 15 = .ok (.iconst 1, 1) := by decide +kernel
theorem dL_power_16 : decode cL_power 16 = .ok (.ireturn, 1) := by decide +kernel
theorem dL_power_17 : decode cL_power 17 = .ok (.iconst 0, 1) := by decide +kernel
theorem dL_power_18 : decode cL_power 18 = .ok (.ireturn, 1) := by decide +kernel
theorem dL_jump_0 : decode cL_jump 0 = .ok (.aload_n 3, 1) := by decide +kernel
theorem dL_jump_1 : decode cL_jump 1 = .ok (.iconst 0, 1) := by decide +kernel
theorem dL_jump_2 : decode cL_jump 2 = .ok (.aload_n 0, 1) := by decide +kernel
theorem dL_jump_3 : decode cL_jump 3 = .ok (.iload_n 1, 1) := by decide +kernel
theorem dL_jump_4 : decode cL_jump 4 = .ok (.iload_n 2, 1) := by decide +kernel
theorem dL_jump_5 : decode cL_jump 5 = .ok (.invokevirtual 21, 3) := by decide +kernel
theorem dL_jump_8 : decode cL_jump 8 = .ok (.i2l, 1) := by decide +kernel
theorem dL_jump_9 : decode cL_jump 9 = .ok (.lastore, 1) := by decide +kernel
theorem dL_jump_10 : decode cL_jump 10 = .ok (.goto 11, 3) := by decide +kernel
theorem dL_jump_13 : decode cL_jump 13 = .ok (.astore 4, 2) := by decide +kernel
theorem dL_jump_15 : decode cL_jump 15 = .ok (.iconst 1, 1) := by decide +kernel
theorem dL_jump_16 : decode cL_jump 16 = .ok (.ireturn, 1) := by decide +kernel
theorem dL_jump_17 : decode cL_jump 17 = .ok (.astore 4, 2) := by decide +kernel
theorem dL_jump_19 : decode cL_jump 19 = .ok (.iconst 2, 1) := by decide +kernel
theorem dL_jump_20 : decode cL_jump 20 = .ok (.ireturn, 1) := by decide +kernel
theorem dL_jump_21 : decode cL_jump 21 = .ok (.iconst 0, 1) := by decide +kernel
theorem dL_jump_22 : decode cL_jump 22 = .ok (.ireturn, 1) := by decide +kernel
theorem dL_setFaults_0 : decode cL_setFaults 0 = .ok (.aload_n 3, 1) := by decide +kernel
theorem dL_setFaults_1 : decode cL_setFaults 1 = .ok (.iconst 0, 1) := by decide +kernel
theorem dL_setFaults_2 : decode cL_setFaults 2 = .ok (.aload_n 0, 1) := by decide +kernel
theorem dL_setFaults_3 : decode cL_setFaults 3 = .ok (.iload_n 1, 1) := by decide +kernel
theorem dL_setFaults_4 : decode cL_setFaults 4 = .ok (.iload_n 2, 1) := by decide +kernel
theorem dL_setFaults_5 : decode cL_setFaults 5 = .ok (.invokevirtual 25, 3) := by decide +kernel
theorem dL_setFaults_8 : decode cL_setFaults 8 = .ok (.i2l, 1) := by decide +kernel
theorem dL_setFaults_9 : decode cL_setFaults 9 = .ok (.lastore, 1) := by decide +kernel
theorem dL_setFaults_10 : decode cL_setFaults 10 = .ok (.goto 11, 3) := by decide +kernel
theorem dL_setFaults_13 : decode cL_setFaults 13 = .ok (.astore 4, 2) := by decide +kernel
theorem dL_setFaults_15 : decode cL_setFaults 15 = .ok (.iconst 1, 1) := by decide +kernel
theorem dL_setFaults_16 : decode cL_setFaults 16 = .ok (.ireturn, 1) := by decide +kernel
theorem dL_setFaults_17 : decode cL_setFaults 17 = .ok (.astore 4, 2) := by decide +kernel
theorem dL_setFaults_19 : decode cL_setFaults 19 = .ok (.iconst 2, 1) := by decide +kernel
theorem dL_setFaults_20 : decode cL_setFaults 20 = .ok (.ireturn, 1) := by decide +kernel
theorem dL_setFaults_21 : decode cL_setFaults 21 = .ok (.iconst 0, 1) := by decide +kernel
theorem dL_setFaults_22 : decode cL_setFaults 22 = .ok (.ireturn, 1) := by decide +kernel
theorem dL_setPatience_0 : decode cL_setPatience 0 = .ok (.aload_n 2, 1) := by decide +kernel
theorem dL_setPatience_1 : decode cL_setPatience 1 = .ok (.iconst 0, 1) := by decide +kernel
theorem dL_setPatience_2 : decode cL_setPatience 2 = .ok (.aload_n 0, 1) := by decide +kernel
theorem dL_setPatience_3 : decode cL_setPatience 3 = .ok (.iload_n 1, 1) := by decide +kernel
theorem dL_setPatience_4 : decode cL_setPatience 4 = .ok (.invokevirtual 28, 3) := by decide +kernel
theorem dL_setPatience_7 : decode cL_setPatience 7 = .ok (.i2l, 1) := by decide +kernel
theorem dL_setPatience_8 : decode cL_setPatience 8 = .ok (.lastore, 1) := by decide +kernel
theorem dL_setPatience_9 : decode cL_setPatience 9 = .ok (.goto 6, 3) := by decide +kernel
theorem dL_setPatience_12 : decode cL_setPatience 12 = .ok (.astore_n 3, 1) := by decide +kernel
theorem dL_setPatience_13 : decode cL_setPatience 13 = .ok (.iconst 1, 1) := by decide +kernel
theorem dL_setPatience_14 : decode cL_setPatience 14 = .ok (.ireturn, 1) := by decide +kernel
theorem dL_setPatience_15 : decode cL_setPatience 15 = .ok (.iconst 0, 1) := by decide +kernel
theorem dL_setPatience_16 : decode cL_setPatience 16 = .ok (.ireturn, 1) := by decide +kernel
theorem dL_take_0 : decode cL_take 0 = .ok (.aload_n 3, 1) := by decide +kernel
theorem dL_take_1 : decode cL_take 1 = .ok (.iconst 0, 1) := by decide +kernel
theorem dL_take_2 : decode cL_take 2 = .ok (.aload_n 0, 1) := by decide +kernel
theorem dL_take_3 : decode cL_take 3 = .ok (.iload_n 1, 1) := by decide +kernel
theorem dL_take_4 : decode cL_take 4 = .ok (.iload_n 2, 1) := by decide +kernel
theorem dL_take_5 : decode cL_take 5 = .ok (.invokevirtual 32, 3) := by decide +kernel
theorem dL_take_8 : decode cL_take 8 = .ok (.i2l, 1) := by decide +kernel
theorem dL_take_9 : decode cL_take 9 = .ok (.lastore, 1) := by decide +kernel
theorem dL_take_10 : decode cL_take 10 = .ok (.goto 15, 3) := by decide +kernel
theorem dL_take_13 : decode cL_take 13 = .ok (.astore 4, 2) := by decide +kernel
theorem dL_take_15 : decode cL_take 15 = .ok (.iconst 1, 1) := by decide +kernel
theorem dL_take_16 : decode cL_take 16 = .ok (.ireturn, 1) := by decide +kernel
theorem dL_take_17 : decode cL_take 17 = .ok (.astore 4, 2) := by decide +kernel
theorem dL_take_19 : decode cL_take 19 = .ok (.iconst 2, 1) := by decide +kernel
theorem dL_take_20 : decode cL_take 20 = .ok (.ireturn, 1) := by decide +kernel
theorem dL_take_21 : decode cL_take 21 = .ok (.astore 4, 2) := by decide +kernel
theorem dL_take_23 : decode cL_take 23 = .ok (.iconst 3, 1) := by decide +kernel
theorem dL_take_24 : decode cL_take 24 = .ok (.ireturn, 1) := by decide +kernel
theorem dL_take_25 : decode cL_take 25 = .ok (.iconst 0, 1) := by decide +kernel
theorem dL_take_26 : decode cL_take 26 = .ok (.ireturn, 1) := by decide +kernel
theorem dL_run_0 : decode cL_run 0 = .ok (.aload_n 2, 1) := by decide +kernel
theorem dL_run_1 : decode cL_run 1 = .ok (.iconst 0, 1) := by decide +kernel
theorem dL_run_2 : decode cL_run 2 = .ok (.aload_n 0, 1) := by decide +kernel
theorem dL_run_3 : decode cL_run 3 = .ok (.iload_n 1, 1) := by decide +kernel
theorem dL_run_4 : decode cL_run 4 = .ok (.invokevirtual 37, 3) := by decide +kernel
theorem dL_run_7 : decode cL_run 7 = .ok (.i2l, 1) := by decide +kernel
theorem dL_run_8 : decode cL_run 8 = .ok (.lastore, 1) := by decide +kernel
theorem dL_run_9 : decode cL_run 9 = .ok (.goto 6, 3) := by decide +kernel
theorem dL_run_12 : decode cL_run 12 = .ok (.astore_n 3, 1) := by decide +kernel
theorem dL_run_13 : decode cL_run 13 = .ok (.iconst 1, 1) := by decide +kernel
theorem dL_run_14 : decode cL_run 14 = .ok (.ireturn, 1) := by decide +kernel
theorem dL_run_15 : decode cL_run 15 = .ok (.iconst 0, 1) := by decide +kernel
theorem dL_run_16 : decode cL_run 16 = .ok (.ireturn, 1) := by decide +kernel
theorem dL_appendText_0 : decode cL_appendText 0 = .ok (.aload_n 2, 1) := by decide +kernel
theorem dL_appendText_1 : decode cL_appendText 1 = .ok (.iconst 0, 1) := by decide +kernel
theorem dL_appendText_2 : decode cL_appendText 2 = .ok (.aload_n 0, 1) := by decide +kernel
theorem dL_appendText_3 : decode cL_appendText 3 = .ok (.iload_n 1, 1) := by decide +kernel
theorem dL_appendText_4 : decode cL_appendText 4 = .ok (.invokevirtual 40, 3) := by decide +kernel
theorem dL_appendText_7 : decode cL_appendText 7 = .ok (.i2l, 1) := by decide +kernel
theorem dL_appendText_8 : decode cL_appendText 8 = .ok (.lastore, 1) := by decide +kernel
theorem dL_appendText_9 : decode cL_appendText 9 = .ok (.goto 9, 3) := by decide +kernel
theorem dL_appendText_12 : decode cL_appendText 12 = .ok (.astore_n 3, 1) := by decide +kernel
theorem dL_appendText_13 : decode cL_appendText 13 = .ok (.iconst 1, 1) := by decide +kernel
theorem dL_appendText_14 : decode cL_appendText 14 = .ok (.ireturn, 1) := by decide +kernel
theorem dL_appendText_15 : decode cL_appendText 15 = .ok (.astore_n 3, 1) := by decide +kernel
theorem dL_appendText_16 : decode cL_appendText 16 = .ok (.iconst 2, 1) := by decide +kernel
theorem dL_appendText_17 : decode cL_appendText 17 = .ok (.ireturn, 1) := by decide +kernel
theorem dL_appendText_18 : decode cL_appendText 18 = .ok (.iconst 0, 1) := by decide +kernel
theorem dL_appendText_19 : decode cL_appendText 19 = .ok (.ireturn, 1) := by decide +kernel
theorem dL_runText_0 : decode cL_runText 0 = .ok (.aload_n 1, 1) := by decide +kernel
theorem dL_runText_1 : decode cL_runText 1 = .ok (.iconst 0, 1) := by decide +kernel
theorem dL_runText_2 : decode cL_runText 2 = .ok (.aload_n 0, 1) := by decide +kernel
theorem dL_runText_3 : decode cL_runText 3 = .ok (.invokevirtual 43, 3) := by decide +kernel
theorem dL_runText_6 : decode cL_runText 6 = .ok (.i2l, 1) := by decide +kernel
theorem dL_runText_7 : decode cL_runText 7 = .ok (.lastore, 1) := by decide +kernel
theorem dL_runText_8 : decode cL_runText 8 = .ok (.goto 6, 3) := by decide +kernel
theorem dL_runText_11 : decode cL_runText 11 = .ok (.astore_n 2, 1) := by decide +kernel
theorem dL_runText_12 : decode cL_runText 12 = .ok (.iconst 1, 1) := by decide +kernel
theorem dL_runText_13 : decode cL_runText 13 = .ok (.ireturn, 1) := by decide +kernel
theorem dL_runText_14 : decode cL_runText 14 = .ok (.iconst 0, 1) := by decide +kernel
theorem dL_runText_15 : decode cL_runText 15 = .ok (.ireturn, 1) := by decide +kernel
theorem dL_undo_0 : decode cL_undo 0 = .ok (.aload_n 1, 1) := by decide +kernel
theorem dL_undo_1 : decode cL_undo 1 = .ok (.iconst 0, 1) := by decide +kernel
theorem dL_undo_2 : decode cL_undo 2 = .ok (.aload_n 0, 1) := by decide +kernel
theorem dL_undo_3 : decode cL_undo 3 = .ok (.invokevirtual 47, 3) := by decide +kernel
theorem dL_undo_6 : decode cL_undo 6 = .ok (.i2l, 1) := by decide +kernel
theorem dL_undo_7 : decode cL_undo 7 = .ok (.lastore, 1) := by decide +kernel
theorem dL_undo_8 : decode cL_undo 8 = .ok (.goto 6, 3) := by decide +kernel
theorem dL_undo_11 : decode cL_undo 11 = .ok (.astore_n 2, 1) := by decide +kernel
theorem dL_undo_12 : decode cL_undo 12 = .ok (.iconst 1, 1) := by decide +kernel
theorem dL_undo_13 : decode cL_undo 13 = .ok (.ireturn, 1) := by decide +kernel
theorem dL_undo_14 : decode cL_undo 14 = .ok (.iconst 0, 1) := by decide +kernel
theorem dL_undo_15 : decode cL_undo 15 = .ok (.ireturn, 1) := by decide +kernel
theorem dL_isConnected_0 : decode cL_isConnected 0 = .ok (.aload_n 3, 1) := by decide +kernel
theorem dL_isConnected_1 : decode cL_isConnected 1 = .ok (.iconst 0, 1) := by decide +kernel
theorem dL_isConnected_2 : decode cL_isConnected 2 = .ok (.aload_n 0, 1) := by decide +kernel
theorem dL_isConnected_3 : decode cL_isConnected 3 = .ok (.iload_n 1, 1) := by decide +kernel
theorem dL_isConnected_4 : decode cL_isConnected 4 = .ok (.iload_n 2, 1) := by decide +kernel
theorem dL_isConnected_5 : decode cL_isConnected 5 = .ok (.invokevirtual 50, 3) := by decide +kernel
theorem dL_isConnected_8 : decode cL_isConnected 8 = .ok (.ifCond .eq 7, 3) := by decide +kernel
theorem dL_isConnected_11 : decode cL_isConnected 11 = .ok (.lconst 1, 1) := by decide +kernel
theorem dL_isConnected_12 : decode cL_isConnected 12 = .ok (.goto 4, 3) := by decide +kernel
theorem dL_isConnected_15 : decode cL_isConnected 15 = .ok (.lconst 0, 1) := by decide +kernel
theorem dL_isConnected_16 : decode cL_isConnected 16 = .ok (.lastore, 1) := by decide +kernel
theorem dL_isConnected_17 : decode cL_isConnected 17 = .ok (.goto 7, 3) := by decide +kernel
theorem dL_isConnected_20 : decode cL_isConnected 20 = .ok (.astore 4, 2) := by decide +kernel
theorem dL_isConnected_22 : decode cL_isConnected 22 = .ok (.iconst 1, 1) := by decide +kernel
theorem dL_isConnected_23 : decode cL_isConnected 23 = .ok (.ireturn, 1) := by decide +kernel
theorem dL_isConnected_24 : decode cL_isConnected 24 = .ok (.iconst 0, 1) := by decide +kernel
theorem dL_isConnected_25 : decode cL_isConnected 25 = .ok (.ireturn, 1) := by decide +kernel
theorem dL_parent_0 : decode cL_parent 0 = .ok (.aload_n 2, 1) := by decide +kernel
theorem dL_parent_1 : decode cL_parent 1 = .ok (.iconst 0, 1) := by decide +kernel
theorem dL_parent_2 : decode cL_parent 2 = .ok (.aload_n 0, 1) := by decide +kernel
theorem dL_parent_3 : decode cL_parent 3 = .ok (.iload_n 1, 1) := by decide +kernel
theorem dL_parent_4 : decode cL_parent 4 = .ok (.invokevirtual 54, 3) := by decide +kernel
theorem dL_parent_7 : decode cL_parent 7 = .ok (.i2l, 1) := by decide +kernel
theorem dL_parent_8 : decode cL_parent 8 = .ok (.lastore, 1) := by decide +kernel
theorem dL_parent_9 : decode cL_parent 9 = .ok (.goto 6, 3) := by decide +kernel
theorem dL_parent_12 : decode cL_parent 12 = .ok (.astore_n 3, 1) := by decide +kernel
theorem dL_parent_13 : decode cL_parent 13 = .ok (.iconst 1, 1) := by decide +kernel
theorem dL_parent_14 : decode cL_parent 14 = .ok (.ireturn, 1) := by decide +kernel
theorem dL_parent_15 : decode cL_parent 15 = .ok (.iconst 0, 1) := by decide +kernel
theorem dL_parent_16 : decode cL_parent 16 = .ok (.ireturn, 1) := by decide +kernel
theorem dL_depth_0 : decode cL_depth 0 = .ok (.aload_n 2, 1) := by decide +kernel
theorem dL_depth_1 : decode cL_depth 1 = .ok (.iconst 0, 1) := by decide +kernel
theorem dL_depth_2 : decode cL_depth 2 = .ok (.aload_n 0, 1) := by decide +kernel
theorem dL_depth_3 : decode cL_depth 3 = .ok (.iload_n 1, 1) := by decide +kernel
theorem dL_depth_4 : decode cL_depth 4 = .ok (.invokevirtual 57, 3) := by decide +kernel
theorem dL_depth_7 : decode cL_depth 7 = .ok (.i2l, 1) := by decide +kernel
theorem dL_depth_8 : decode cL_depth 8 = .ok (.lastore, 1) := by decide +kernel
theorem dL_depth_9 : decode cL_depth 9 = .ok (.goto 6, 3) := by decide +kernel
theorem dL_depth_12 : decode cL_depth 12 = .ok (.astore_n 3, 1) := by decide +kernel
theorem dL_depth_13 : decode cL_depth 13 = .ok (.iconst 1, 1) := by decide +kernel
theorem dL_depth_14 : decode cL_depth 14 = .ok (.ireturn, 1) := by decide +kernel
theorem dL_depth_15 : decode cL_depth 15 = .ok (.iconst 0, 1) := by decide +kernel
theorem dL_depth_16 : decode cL_depth 16 = .ok (.ireturn, 1) := by decide +kernel
theorem dL_clock_0 : decode cL_clock 0 = .ok (.aload_n 2, 1) := by decide +kernel
theorem dL_clock_1 : decode cL_clock 1 = .ok (.iconst 0, 1) := by decide +kernel
theorem dL_clock_2 : decode cL_clock 2 = .ok (.aload_n 0, 1) := by decide +kernel
theorem dL_clock_3 : decode cL_clock 3 = .ok (.iload_n 1, 1) := by decide +kernel
theorem dL_clock_4 : decode cL_clock 4 = .ok (.invokevirtual 60, 3) := by decide +kernel
theorem dL_clock_7 : decode cL_clock 7 = .ok (.i2l, 1) := by decide +kernel
theorem dL_clock_8 : decode cL_clock 8 = .ok (.lastore, 1) := by decide +kernel
theorem dL_clock_9 : decode cL_clock 9 = .ok (.goto 6, 3) := by decide +kernel
theorem dL_clock_12 : decode cL_clock 12 = .ok (.astore_n 3, 1) := by decide +kernel
theorem dL_clock_13 : decode cL_clock 13 = .ok (.iconst 1, 1) := by decide +kernel
theorem dL_clock_14 : decode cL_clock 14 = .ok (.ireturn, 1) := by decide +kernel
theorem dL_clock_15 : decode cL_clock 15 = .ok (.iconst 0, 1) := by decide +kernel
theorem dL_clock_16 : decode cL_clock 16 = .ok (.ireturn, 1) := by decide +kernel
theorem dL_silence_0 : decode cL_silence 0 = .ok (.aload_n 2, 1) := by decide +kernel
theorem dL_silence_1 : decode cL_silence 1 = .ok (.iconst 0, 1) := by decide +kernel
theorem dL_silence_2 : decode cL_silence 2 = .ok (.aload_n 0, 1) := by decide +kernel
theorem dL_silence_3 : decode cL_silence 3 = .ok (.iload_n 1, 1) := by decide +kernel
theorem dL_silence_4 : decode cL_silence 4 = .ok (.invokevirtual 63, 3) := by decide +kernel
theorem dL_silence_7 : decode cL_silence 7 = .ok (.i2l, 1) := by decide +kernel
theorem dL_silence_8 : decode cL_silence 8 = .ok (.lastore, 1) := by decide +kernel
theorem dL_silence_9 : decode cL_silence 9 = .ok (.goto 6, 3) := by decide +kernel
theorem dL_silence_12 : decode cL_silence 12 = .ok (.astore_n 3, 1) := by decide +kernel
theorem dL_silence_13 : decode cL_silence 13 = .ok (.iconst 1, 1) := by decide +kernel
theorem dL_silence_14 : decode cL_silence 14 = .ok (.ireturn, 1) := by decide +kernel
theorem dL_silence_15 : decode cL_silence 15 = .ok (.iconst 0, 1) := by decide +kernel
theorem dL_silence_16 : decode cL_silence 16 = .ok (.ireturn, 1) := by decide +kernel
theorem dL_faults_0 : decode cL_faults 0 = .ok (.aload_n 2, 1) := by decide +kernel
theorem dL_faults_1 : decode cL_faults 1 = .ok (.iconst 0, 1) := by decide +kernel
theorem dL_faults_2 : decode cL_faults 2 = .ok (.aload_n 0, 1) := by decide +kernel
theorem dL_faults_3 : decode cL_faults 3 = .ok (.iload_n 1, 1) := by decide +kernel
theorem dL_faults_4 : decode cL_faults 4 = .ok (.invokevirtual 66, 3) := by decide +kernel
theorem dL_faults_7 : decode cL_faults 7 = .ok (.i2l, 1) := by decide +kernel
theorem dL_faults_8 : decode cL_faults 8 = .ok (.lastore, 1) := by decide +kernel
theorem dL_faults_9 : decode cL_faults 9 = .ok (.goto 6, 3) := by decide +kernel
theorem dL_faults_12 : decode cL_faults 12 = .ok (.astore_n 3, 1) := by decide +kernel
theorem dL_faults_13 : decode cL_faults 13 = .ok (.iconst 1, 1) := by decide +kernel
theorem dL_faults_14 : decode cL_faults 14 = .ok (.ireturn, 1) := by decide +kernel
theorem dL_faults_15 : decode cL_faults 15 = .ok (.iconst 0, 1) := by decide +kernel
theorem dL_faults_16 : decode cL_faults 16 = .ok (.ireturn, 1) := by decide +kernel
theorem dL_hops_0 : decode cL_hops 0 = .ok (.aload_n 2, 1) := by decide +kernel
theorem dL_hops_1 : decode cL_hops 1 = .ok (.iconst 0, 1) := by decide +kernel
theorem dL_hops_2 : decode cL_hops 2 = .ok (.aload_n 0, 1) := by decide +kernel
theorem dL_hops_3 : decode cL_hops 3 = .ok (.iload_n 1, 1) := by decide +kernel
theorem dL_hops_4 : decode cL_hops 4 = .ok (.invokevirtual 69, 3) := by decide +kernel
theorem dL_hops_7 : decode cL_hops 7 = .ok (.i2l, 1) := by decide +kernel
theorem dL_hops_8 : decode cL_hops 8 = .ok (.lastore, 1) := by decide +kernel
theorem dL_hops_9 : decode cL_hops 9 = .ok (.goto 6, 3) := by decide +kernel
theorem dL_hops_12 : decode cL_hops 12 = .ok (.astore_n 3, 1) := by decide +kernel
theorem dL_hops_13 : decode cL_hops 13 = .ok (.iconst 1, 1) := by decide +kernel
theorem dL_hops_14 : decode cL_hops 14 = .ok (.ireturn, 1) := by decide +kernel
theorem dL_hops_15 : decode cL_hops 15 = .ok (.iconst 0, 1) := by decide +kernel
theorem dL_hops_16 : decode cL_hops 16 = .ok (.ireturn, 1) := by decide +kernel
theorem dL_stored_0 : decode cL_stored 0 = .ok (.aload_n 2, 1) := by decide +kernel
theorem dL_stored_1 : decode cL_stored 1 = .ok (.iconst 0, 1) := by decide +kernel
theorem dL_stored_2 : decode cL_stored 2 = .ok (.aload_n 0, 1) := by decide +kernel
theorem dL_stored_3 : decode cL_stored 3 = .ok (.iload_n 1, 1) := by decide +kernel
theorem dL_stored_4 : decode cL_stored 4 = .ok (.invokevirtual 72, 3) := by decide +kernel
theorem dL_stored_7 : decode cL_stored 7 = .ok (.i2l, 1) := by decide +kernel
theorem dL_stored_8 : decode cL_stored 8 = .ok (.lastore, 1) := by decide +kernel
theorem dL_stored_9 : decode cL_stored 9 = .ok (.goto 6, 3) := by decide +kernel
theorem dL_stored_12 : decode cL_stored 12 = .ok (.astore_n 3, 1) := by decide +kernel
theorem dL_stored_13 : decode cL_stored 13 = .ok (.iconst 1, 1) := by decide +kernel
theorem dL_stored_14 : decode cL_stored 14 = .ok (.ireturn, 1) := by decide +kernel
theorem dL_stored_15 : decode cL_stored 15 = .ok (.iconst 0, 1) := by decide +kernel
theorem dL_stored_16 : decode cL_stored 16 = .ok (.ireturn, 1) := by decide +kernel
theorem dL_storedReading_0 : decode cL_storedReading 0 = .ok (.aload 4, 2) := by decide +kernel
theorem dL_storedReading_2 : decode cL_storedReading 2 = .ok (.iconst 0, 1) := by decide +kernel
theorem dL_storedReading_3 : decode cL_storedReading 3 = .ok (.aload_n 0, 1) := by decide +kernel
theorem dL_storedReading_4 : decode cL_storedReading 4 = .ok (.iload_n 1, 1) := by decide +kernel
theorem dL_storedReading_5 : decode cL_storedReading 5 = .ok (.iload_n 2, 1) := by decide +kernel
theorem dL_storedReading_6 : decode cL_storedReading 6 = .ok (.iload_n 3, 1) := by decide +kernel
theorem dL_storedReading_7 : decode cL_storedReading 7 = .ok (.invokevirtual 75, 3) := by decide +kernel
theorem dL_storedReading_10 : decode cL_storedReading 10 = .ok (.i2l, 1) := by decide +kernel
theorem dL_storedReading_11 : decode cL_storedReading 11 = .ok (.lastore, 1) := by decide +kernel
theorem dL_storedReading_12 : decode cL_storedReading 12 = .ok (.goto 11, 3) := by decide +kernel
theorem dL_storedReading_15 : decode cL_storedReading 15 = .ok (.astore 5, 2) := by decide +kernel
theorem dL_storedReading_17 : decode cL_storedReading 17 = .ok (.iconst 1, 1) := by decide +kernel
theorem dL_storedReading_18 : decode cL_storedReading 18 = .ok (.ireturn, 1) := by decide +kernel
theorem dL_storedReading_19 : decode cL_storedReading 19 = .ok (.astore 5, 2) := by decide +kernel
theorem dL_storedReading_21 : decode cL_storedReading 21 = .ok (.iconst 2, 1) := by decide +kernel
theorem dL_storedReading_22 : decode cL_storedReading 22 = .ok (.ireturn, 1) := by decide +kernel
theorem dL_storedReading_23 : decode cL_storedReading 23 = .ok (.iconst 0, 1) := by decide +kernel
theorem dL_storedReading_24 : decode cL_storedReading 24 = .ok (.ireturn, 1) := by decide +kernel
theorem dL_collectedReading_0 : decode cL_collectedReading 0 = .ok (.aload_n 3, 1) := by decide +kernel
theorem dL_collectedReading_1 : decode cL_collectedReading 1 = .ok (.iconst 0, 1) := by decide +kernel
theorem dL_collectedReading_2 : decode cL_collectedReading 2 = .ok (.aload_n 0, 1) := by decide +kernel
theorem dL_collectedReading_3 : decode cL_collectedReading 3 = .ok (.iload_n 1, 1) := by decide +kernel
theorem dL_collectedReading_4 : decode cL_collectedReading 4 = .ok (.iload_n 2, 1) := by decide +kernel
theorem dL_collectedReading_5 : decode cL_collectedReading 5 = .ok (.invokevirtual 79, 3) := by decide +kernel
theorem dL_collectedReading_8 : decode cL_collectedReading 8 = .ok (.i2l, 1) := by decide +kernel
theorem dL_collectedReading_9 : decode cL_collectedReading 9 = .ok (.lastore, 1) := by decide +kernel
theorem dL_collectedReading_10 : decode cL_collectedReading 10 = .ok (.goto 11, 3) := by decide +kernel
theorem dL_collectedReading_13 : decode cL_collectedReading 13 = .ok (.astore 4, 2) := by decide +kernel
theorem dL_collectedReading_15 : decode cL_collectedReading 15 = .ok (.iconst 1, 1) := by decide +kernel
theorem dL_collectedReading_16 : decode cL_collectedReading 16 = .ok (.ireturn, 1) := by decide +kernel
theorem dL_collectedReading_17 : decode cL_collectedReading 17 = .ok (.astore 4, 2) := by decide +kernel
theorem dL_collectedReading_19 : decode cL_collectedReading 19 = .ok (.iconst 2, 1) := by decide +kernel
theorem dL_collectedReading_20 : decode cL_collectedReading 20 = .ok (.ireturn, 1) := by decide +kernel
theorem dL_collectedReading_21 : decode cL_collectedReading 21 = .ok (.iconst 0, 1) := by decide +kernel
theorem dL_collectedReading_22 : decode cL_collectedReading 22 = .ok (.ireturn, 1) := by decide +kernel
theorem dL_copies_0 : decode cL_copies 0 = .ok (.aload_n 3, 1) := by decide +kernel
theorem dL_copies_1 : decode cL_copies 1 = .ok (.iconst 0, 1) := by decide +kernel
theorem dL_copies_2 : decode cL_copies 2 = .ok (.aload_n 0, 1) := by decide +kernel
theorem dL_copies_3 : decode cL_copies 3 = .ok (.iload_n 1, 1) := by decide +kernel
theorem dL_copies_4 : decode cL_copies 4 = .ok (.iload_n 2, 1) := by decide +kernel
theorem dL_copies_5 : decode cL_copies 5 = .ok (.invokevirtual 82, 3) := by decide +kernel
theorem dL_copies_8 : decode cL_copies 8 = .ok (.i2l, 1) := by decide +kernel
theorem dL_copies_9 : decode cL_copies 9 = .ok (.lastore, 1) := by decide +kernel
theorem dL_copies_10 : decode cL_copies 10 = .ok (.goto 7, 3) := by decide +kernel
theorem dL_copies_13 : decode cL_copies 13 = .ok (.astore 4, 2) := by decide +kernel
theorem dL_copies_15 : decode cL_copies 15 = .ok (.iconst 1, 1) := by decide +kernel
theorem dL_copies_16 : decode cL_copies 16 = .ok (.ireturn, 1) := by decide +kernel
theorem dL_copies_17 : decode cL_copies 17 = .ok (.iconst 0, 1) := by decide +kernel
theorem dL_copies_18 : decode cL_copies 18 = .ok (.ireturn, 1) := by decide +kernel
theorem dL_ifRun_0 : decode cL_ifRun 0 = .ok (.aload_n 2, 1) := by decide +kernel
theorem dL_ifRun_1 : decode cL_ifRun 1 = .ok (.iconst 0, 1) := by decide +kernel
theorem dL_ifRun_2 : decode cL_ifRun 2 = .ok (.aload_n 0, 1) := by decide +kernel
theorem dL_ifRun_3 : decode cL_ifRun 3 = .ok (.iload_n 1, 1) := by decide +kernel
theorem dL_ifRun_4 : decode cL_ifRun 4 = .ok (.invokevirtual 85, 3) := by decide +kernel
theorem dL_ifRun_7 : decode cL_ifRun 7 = .ok (.i2l, 1) := by decide +kernel
theorem dL_ifRun_8 : decode cL_ifRun 8 = .ok (.lastore, 1) := by decide +kernel
theorem dL_ifRun_9 : decode cL_ifRun 9 = .ok (.goto 6, 3) := by decide +kernel
theorem dL_ifRun_12 : decode cL_ifRun 12 = .ok (.astore_n 3, 1) := by decide +kernel
theorem dL_ifRun_13 : decode cL_ifRun 13 = .ok (.iconst 1, 1) := by decide +kernel
theorem dL_ifRun_14 : decode cL_ifRun 14 = .ok (.ireturn, 1) := by decide +kernel
theorem dL_ifRun_15 : decode cL_ifRun 15 = .ok (.iconst 0, 1) := by decide +kernel
theorem dL_ifRun_16 : decode cL_ifRun 16 = .ok (.ireturn, 1) := by decide +kernel
theorem dL_count_0 : decode cL_count 0 = .ok (.aload_n 2, 1) := by decide +kernel
theorem dL_count_1 : decode cL_count 1 = .ok (.iconst 0, 1) := by decide +kernel
theorem dL_count_2 : decode cL_count 2 = .ok (.aload_n 0, 1) := by decide +kernel
theorem dL_count_3 : decode cL_count 3 = .ok (.iload_n 1, 1) := by decide +kernel
theorem dL_count_4 : decode cL_count 4 = .ok (.invokevirtual 88, 3) := by decide +kernel
theorem dL_count_7 : decode cL_count 7 = .ok (.i2l, 1) := by decide +kernel
theorem dL_count_8 : decode cL_count 8 = .ok (.lastore, 1) := by decide +kernel
theorem dL_count_9 : decode cL_count 9 = .ok (.goto 6, 3) := by decide +kernel
theorem dL_count_12 : decode cL_count 12 = .ok (.astore_n 3, 1) := by decide +kernel
theorem dL_count_13 : decode cL_count 13 = .ok (.iconst 1, 1) := by decide +kernel
theorem dL_count_14 : decode cL_count 14 = .ok (.ireturn, 1) := by decide +kernel
theorem dL_count_15 : decode cL_count 15 = .ok (.iconst 0, 1) := by decide +kernel
theorem dL_count_16 : decode cL_count 16 = .ok (.ireturn, 1) := by decide +kernel
theorem dL_law_0 : decode cL_law 0 = .ok (.new 8, 3) := by decide +kernel
theorem dL_law_3 : decode cL_law 3 = .ok (.dup, 1) := by decide +kernel
theorem dL_law_4 : decode cL_law 4 = .ok (.invokespecial 91, 3) := by decide +kernel
theorem dL_law_7 : decode cL_law 7 = .ok (.astore_n 1, 1) := by decide +kernel
theorem dL_law_8 : decode cL_law 8 = .ok (.new 92, 3) := by decide +kernel
theorem dL_law_11 : decode cL_law 11 = .ok (.dup, 1) := by decide +kernel
theorem dL_law_12 : decode cL_law 12 = .ok (.invokespecial 94, 3) := by decide +kernel
theorem dL_law_15 : decode cL_law 15 = .ok (.astore_n 2, 1) := by decide +kernel
theorem dL_law_16 : decode cL_law 16 = .ok (.iconst 1, 1) := by decide +kernel
theorem dL_law_17 : decode cL_law 17 = .ok (.newarray .long, 2) := by decide +kernel
theorem dL_law_19 : decode cL_law 19 = .ok (.astore_n 3, 1) := by decide +kernel
theorem dL_law_20 : decode cL_law 20 = .ok (.iconst 0, 1) := by decide +kernel
theorem dL_law_21 : decode cL_law 21 = .ok (.istore 4, 2) := by decide +kernel
theorem dL_law_23 : decode cL_law 23 = .ok (.iload 4, 2) := by decide +kernel
theorem dL_law_25 : decode cL_law 25 = .ok (.aload_n 0, 1) := by decide +kernel
theorem dL_law_26 : decode cL_law 26 = .ok (.arraylength, 1) := by decide +kernel
theorem dL_law_27 : decode cL_law 27 = .ok (.iconst 4, 1) := by decide +kernel
theorem dL_law_28 : decode cL_law 28 = .ok (.isub, 1) := by decide +kernel
theorem dL_law_29 : decode cL_law 29 = .ok (.if_icmp .gt 1754, 3) := by decide +kernel
theorem dL_law_32 : decode cL_law 32 = .ok (.aload_n 0, 1) := by decide +kernel
theorem dL_law_33 : decode cL_law 33 = .ok (.iload 4, 2) := by decide +kernel
theorem dL_law_35 : decode cL_law 35 = .ok (.iaload, 1) := by decide +kernel
theorem dL_law_36 : decode cL_law 36 = .ok (.bipush 63, 2) := by decide +kernel
theorem dL_law_38 : decode cL_law 38 = .ok (.iand, 1) := by decide +kernel
theorem dL_law_39 : decode cL_law 39 = .ok (.tableswitch 1738 0 32 #[145, 241, 325, 393, 461, 517, 585, 641, 697, 710, 723, 767, 811, 886, 942, 998, 1054, 1110, 1166, 1222, 1278, 1358, 1371, 1439, 1507, 1520, 1533, 1546, 1602, 1615, 1671, 1712, 1725], 145) := by decide +kernel
theorem dL_law_184 : decode cL_law 184 = .ok (.aload_n 1, 1) := by decide +kernel
theorem dL_law_185 : decode cL_law 185 = .ok (.aload_n 0, 1) := by decide +kernel
theorem dL_law_186 : decode cL_law 186 = .ok (.iload 4, 2) := by decide +kernel
theorem dL_law_188 : decode cL_law 188 = .ok (.iconst 1, 1) := by decide +kernel
theorem dL_law_189 : decode cL_law 189 = .ok (.iadd, 1) := by decide +kernel
theorem dL_law_190 : decode cL_law 190 = .ok (.iaload, 1) := by decide +kernel
theorem dL_law_191 : decode cL_law 191 = .ok (.aload_n 0, 1) := by decide +kernel
theorem dL_law_192 : decode cL_law 192 = .ok (.iload 4, 2) := by decide +kernel
theorem dL_law_194 : decode cL_law 194 = .ok (.iconst 2, 1) := by decide +kernel
theorem dL_law_195 : decode cL_law 195 = .ok (.iadd, 1) := by decide +kernel
theorem dL_law_196 : decode cL_law 196 = .ok (.iaload, 1) := by decide +kernel
theorem dL_law_197 : decode cL_law 197 = .ok (.aload_n 0, 1) := by decide +kernel
theorem dL_law_198 : decode cL_law 198 = .ok (.iload 4, 2) := by decide +kernel
theorem dL_law_200 : decode cL_law 200 = .ok (.iconst 3, 1) := by decide +kernel
theorem dL_law_201 : decode cL_law 201 = .ok (.iadd, 1) := by decide +kernel
theorem dL_law_202 : decode cL_law 202 = .ok (.iaload, 1) := by decide +kernel
theorem dL_law_203 : decode cL_law 203 = .ok (.ifCond .eq 7, 3) := by decide +kernel
theorem dL_law_206 : decode cL_law 206 = .ok (.iconst 1, 1) := by decide +kernel
theorem dL_law_207 : decode cL_law 207 = .ok (.goto 4, 3) := by decide +kernel
theorem dL_law_210 : decode cL_law 210 = .ok (.iconst 0, 1) := by decide +kernel
theorem dL_law_211 : decode cL_law 211 = .ok (.aload_n 3, 1) := by decide +kernel
theorem dL_law_212 : decode cL_law 212 = .ok (.invokestatic 95, 3) := by decide +kernel
theorem dL_law_215 : decode cL_law 215 = .ok (.istore 5, 2) := by decide +kernel
theorem dL_law_217 : decode cL_law 217 = .ok (.aload_n 2, 1) := by decide +kernel
theorem dL_law_218 : decode cL_law 218 = .ok (.aload_n 0, 1) := by decide +kernel
theorem dL_law_219 : decode cL_law 219 = .ok (.iload 4, 2) := by decide +kernel
theorem dL_law_221 : decode cL_law 221 = .ok (.iconst 1, 1) := by decide +kernel
theorem dL_law_222 : decode cL_law 222 = .ok (.iadd, 1) := by decide +kernel
theorem dL_law_223 : decode cL_law 223 = .ok (.iaload, 1) := by decide +kernel
theorem dL_law_224 : decode cL_law 224 = .ok (.aload_n 0, 1) := by decide +kernel
theorem dL_law_225 : decode cL_law 225 = .ok (.iload 4, 2) := by decide +kernel
theorem dL_law_227 : decode cL_law 227 = .ok (.iconst 2, 1) := by decide +kernel
theorem dL_law_228 : decode cL_law 228 = .ok (.iadd, 1) := by decide +kernel
theorem dL_law_229 : decode cL_law 229 = .ok (.iaload, 1) := by decide +kernel
theorem dL_law_230 : decode cL_law 230 = .ok (.aload_n 0, 1) := by decide +kernel
theorem dL_law_231 : decode cL_law 231 = .ok (.iload 4, 2) := by decide +kernel
theorem dL_law_233 : decode cL_law 233 = .ok (.iconst 3, 1) := by decide +kernel
theorem dL_law_234 : decode cL_law 234 = .ok (.iadd, 1) := by decide +kernel
theorem dL_law_235 : decode cL_law 235 = .ok (.iaload, 1) := by decide +kernel
theorem dL_law_236 : decode cL_law 236 = .ok (.ifCond .eq 7, 3) := by decide +kernel
theorem dL_law_239 : decode cL_law 239 = .ok (.iconst 1, 1) := by decide +kernel
theorem dL_law_240 : decode cL_law 240 = .ok (.goto 4, 3) := by decide +kernel
theorem dL_law_243 : decode cL_law 243 = .ok (.iconst 0, 1) := by decide +kernel
theorem dL_law_244 : decode cL_law 244 = .ok (.invokevirtual 100, 3) := by decide +kernel
theorem dL_law_247 : decode cL_law 247 = .ok (.istore 6, 2) := by decide +kernel
theorem dL_law_249 : decode cL_law 249 = .ok (.aload_n 2, 1) := by decide +kernel
theorem dL_law_250 : decode cL_law 250 = .ok (.invokevirtual 101, 3) := by decide +kernel
theorem dL_law_253 : decode cL_law 253 = .ok (.iload 5, 2) := by decide +kernel
theorem dL_law_255 : decode cL_law 255 = .ok (.if_icmp .eq 5, 3) := by decide +kernel
theorem dL_law_258 : decode cL_law 258 = .ok (.iconst 0, 1) := by decide +kernel
theorem dL_law_259 : decode cL_law 259 = .ok (.ireturn, 1) := by decide +kernel
theorem dL_law_260 : decode cL_law 260 = .ok (.iload 5, 2) := by decide +kernel
theorem dL_law_262 : decode cL_law 262 = .ok (.ifCond .ne 15, 3) := by decide +kernel
theorem dL_law_265 : decode cL_law 265 = .ok (.aload_n 3, 1) := by decide +kernel
theorem dL_law_266 : decode cL_law 266 = .ok (.iconst 0, 1) := by decide +kernel
theorem dL_law_267 : decode cL_law 267 = .ok (.laload, 1) := by decide +kernel
theorem dL_law_268 : decode cL_law 268 = .ok (.iload 6, 2) := by decide +kernel
theorem dL_law_270 : decode cL_law 270 = .ok (.i2l, 1) := by decide +kernel
theorem dL_law_271 : decode cL_law 271 = .ok (.lcmp, 1) := by decide +kernel
theorem dL_law_272 : decode cL_law 272 = .ok (.ifCond .eq 5, 3) := by decide +kernel
theorem dL_law_275 : decode cL_law 275 = .ok (.iconst 0, 1) := by decide +kernel
theorem dL_law_276 : decode cL_law 276 = .ok (.ireturn, 1) := by decide +kernel
theorem dL_law_277 : decode cL_law 277 = .ok (.goto 1500, 3) := by decide +kernel
theorem dL_law_280 : decode cL_law 280 = .ok (.aload_n 1, 1) := by decide +kernel
theorem dL_law_281 : decode cL_law 281 = .ok (.aload_n 0, 1) := by decide +kernel
theorem dL_law_282 : decode cL_law 282 = .ok (.iload 4, 2) := by decide +kernel
theorem dL_law_284 : decode cL_law 284 = .ok (.iconst 1, 1) := by decide +kernel
theorem dL_law_285 : decode cL_law 285 = .ok (.iadd, 1) := by decide +kernel
theorem dL_law_286 : decode cL_law 286 = .ok (.iaload, 1) := by decide +kernel
theorem dL_law_287 : decode cL_law 287 = .ok (.aload_n 0, 1) := by decide +kernel
theorem dL_law_288 : decode cL_law 288 = .ok (.iload 4, 2) := by decide +kernel
theorem dL_law_290 : decode cL_law 290 = .ok (.iconst 2, 1) := by decide +kernel
theorem dL_law_291 : decode cL_law 291 = .ok (.iadd, 1) := by decide +kernel
theorem dL_law_292 : decode cL_law 292 = .ok (.iaload, 1) := by decide +kernel
theorem dL_law_293 : decode cL_law 293 = .ok (.ifCond .eq 7, 3) := by decide +kernel
theorem dL_law_296 : decode cL_law 296 = .ok (.iconst 1, 1) := by decide +kernel
theorem dL_law_297 : decode cL_law 297 = .ok (.goto 4, 3) := by decide +kernel
theorem dL_law_300 : decode cL_law 300 = .ok (.iconst 0, 1) := by decide +kernel
theorem dL_law_301 : decode cL_law 301 = .ok (.aload_n 3, 1) := by decide +kernel
theorem dL_law_302 : decode cL_law 302 = .ok (.invokestatic 104, 3) := by decide +kernel
theorem dL_law_305 : decode cL_law 305 = .ok (.istore 5, 2) := by decide +kernel
theorem dL_law_307 : decode cL_law 307 = .ok (.aload_n 2, 1) := by decide +kernel
theorem dL_law_308 : decode cL_law 308 = .ok (.aload_n 0, 1) := by decide +kernel
theorem dL_law_309 : decode cL_law 309 = .ok (.iload 4, 2) := by decide +kernel
theorem dL_law_311 : decode cL_law 311 = .ok (.iconst 1, 1) := by decide +kernel
theorem dL_law_312 : decode cL_law 312 = .ok (.iadd, 1) := by decide +kernel
theorem dL_law_313 : decode cL_law 313 = .ok (.iaload, 1) := by decide +kernel
theorem dL_law_314 : decode cL_law 314 = .ok (.aload_n 0, 1) := by decide +kernel
theorem dL_law_315 : decode cL_law 315 = .ok (.iload 4, 2) := by decide +kernel
theorem dL_law_317 : decode cL_law 317 = .ok (.iconst 2, 1) := by decide +kernel
theorem dL_law_318 : decode cL_law 318 = .ok (.iadd, 1) := by decide +kernel
theorem dL_law_319 : decode cL_law 319 = .ok (.iaload, 1) := by decide +kernel
theorem dL_law_320 : decode cL_law 320 = .ok (.ifCond .eq 7, 3) := by decide +kernel
theorem dL_law_323 : decode cL_law 323 = .ok (.iconst 1, 1) := by decide +kernel
theorem dL_law_324 : decode cL_law 324 = .ok (.goto 4, 3) := by decide +kernel
theorem dL_law_327 : decode cL_law 327 = .ok (.iconst 0, 1) := by decide +kernel
theorem dL_law_328 : decode cL_law 328 = .ok (.invokevirtual 107, 3) := by decide +kernel
theorem dL_law_331 : decode cL_law 331 = .ok (.istore 6, 2) := by decide +kernel
theorem dL_law_333 : decode cL_law 333 = .ok (.aload_n 2, 1) := by decide +kernel
theorem dL_law_334 : decode cL_law 334 = .ok (.invokevirtual 101, 3) := by decide +kernel
theorem dL_law_337 : decode cL_law 337 = .ok (.iload 5, 2) := by decide +kernel
theorem dL_law_339 : decode cL_law 339 = .ok (.if_icmp .eq 5, 3) := by decide +kernel
theorem dL_law_342 : decode cL_law 342 = .ok (.iconst 0, 1) := by decide +kernel
theorem dL_law_343 : decode cL_law 343 = .ok (.ireturn, 1) := by decide +kernel
theorem dL_law_344 : decode cL_law 344 = .ok (.iload 5, 2) := by decide +kernel
theorem dL_law_346 : decode cL_law 346 = .ok (.ifCond .ne 15, 3) := by decide +kernel
theorem dL_law_349 : decode cL_law 349 = .ok (.aload_n 3, 1) := by decide +kernel
theorem dL_law_350 : decode cL_law 350 = .ok (.iconst 0, 1) := by decide +kernel
theorem dL_law_351 : decode cL_law 351 = .ok (.laload, 1) := by decide +kernel
theorem dL_law_352 : decode cL_law 352 = .ok (.iload 6, 2) := by decide +kernel
theorem dL_law_354 : decode cL_law 354 = .ok (.i2l, 1) := by decide +kernel
theorem dL_law_355 : decode cL_law 355 = .ok (.lcmp, 1) := by decide +kernel
theorem dL_law_356 : decode cL_law 356 = .ok (.ifCond .eq 5, 3) := by decide +kernel
theorem dL_law_359 : decode cL_law 359 = .ok (.iconst 0, 1) := by decide +kernel
theorem dL_law_360 : decode cL_law 360 = .ok (.ireturn, 1) := by decide +kernel
theorem dL_law_361 : decode cL_law 361 = .ok (.goto 1416, 3) := by decide +kernel
theorem dL_law_364 : decode cL_law 364 = .ok (.aload_n 1, 1) := by decide +kernel
theorem dL_law_365 : decode cL_law 365 = .ok (.aload_n 0, 1) := by decide +kernel
theorem dL_law_366 : decode cL_law 366 = .ok (.iload 4, 2) := by decide +kernel
theorem dL_law_368 : decode cL_law 368 = .ok (.iconst 1, 1) := by decide +kernel
theorem dL_law_369 : decode cL_law 369 = .ok (.iadd, 1) := by decide +kernel
theorem dL_law_370 : decode cL_law 370 = .ok (.iaload, 1) := by decide +kernel
theorem dL_law_371 : decode cL_law 371 = .ok (.aload_n 0, 1) := by decide +kernel
theorem dL_law_372 : decode cL_law 372 = .ok (.iload 4, 2) := by decide +kernel
theorem dL_law_374 : decode cL_law 374 = .ok (.iconst 2, 1) := by decide +kernel
theorem dL_law_375 : decode cL_law 375 = .ok (.iadd, 1) := by decide +kernel
theorem dL_law_376 : decode cL_law 376 = .ok (.iaload, 1) := by decide +kernel
theorem dL_law_377 : decode cL_law 377 = .ok (.aload_n 3, 1) := by decide +kernel
theorem dL_law_378 : decode cL_law 378 = .ok (.invokestatic 108, 3) := by decide +kernel
theorem dL_law_381 : decode cL_law 381 = .ok (.istore 5, 2) := by decide +kernel
theorem dL_law_383 : decode cL_law 383 = .ok (.aload_n 2, 1) := by decide +kernel
theorem dL_law_384 : decode cL_law 384 = .ok (.aload_n 0, 1) := by decide +kernel
theorem dL_law_385 : decode cL_law 385 = .ok (.iload 4, 2) := by decide +kernel
theorem dL_law_387 : decode cL_law 387 = .ok (.iconst 1, 1) := by decide +kernel
theorem dL_law_388 : decode cL_law 388 = .ok (.iadd, 1) := by decide +kernel
theorem dL_law_389 : decode cL_law 389 = .ok (.iaload, 1) := by decide +kernel
theorem dL_law_390 : decode cL_law 390 = .ok (.aload_n 0, 1) := by decide +kernel
theorem dL_law_391 : decode cL_law 391 = .ok (.iload 4, 2) := by decide +kernel
theorem dL_law_393 : decode cL_law 393 = .ok (.iconst 2, 1) := by decide +kernel
theorem dL_law_394 : decode cL_law 394 = .ok (.iadd, 1) := by decide +kernel
theorem dL_law_395 : decode cL_law 395 = .ok (.iaload, 1) := by decide +kernel
theorem dL_law_396 : decode cL_law 396 = .ok (.invokevirtual 111, 3) := by decide +kernel
theorem dL_law_399 : decode cL_law 399 = .ok (.istore 6, 2) := by decide +kernel
theorem dL_law_401 : decode cL_law 401 = .ok (.aload_n 2, 1) := by decide +kernel
theorem dL_law_402 : decode cL_law 402 = .ok (.invokevirtual 101, 3) := by decide +kernel
theorem dL_law_405 : decode cL_law 405 = .ok (.iload 5, 2) := by decide +kernel
theorem dL_law_407 : decode cL_law 407 = .ok (.if_icmp .eq 5, 3) := by decide +kernel
theorem dL_law_410 : decode cL_law 410 = .ok (.iconst 0, 1) := by decide +kernel
theorem dL_law_411 : decode cL_law 411 = .ok (.ireturn, 1) := by decide +kernel
theorem dL_law_412 : decode cL_law 412 = .ok (.iload 5, 2) := by decide +kernel
theorem dL_law_414 : decode cL_law 414 = .ok (.ifCond .ne 15, 3) := by decide +kernel
theorem dL_law_417 : decode cL_law 417 = .ok (.aload_n 3, 1) := by decide +kernel
theorem dL_law_418 : decode cL_law 418 = .ok (.iconst 0, 1) := by decide +kernel
theorem dL_law_419 : decode cL_law 419 = .ok (.laload, 1) := by decide +kernel
theorem dL_law_420 : decode cL_law 420 = .ok (.iload 6, 2) := by decide +kernel
theorem dL_law_422 : decode cL_law 422 = .ok (.i2l, 1) := by decide +kernel
theorem dL_law_423 : decode cL_law 423 = .ok (.lcmp, 1) := by decide +kernel
theorem dL_law_424 : decode cL_law 424 = .ok (.ifCond .eq 5, 3) := by decide +kernel
theorem dL_law_427 : decode cL_law 427 = .ok (.iconst 0, 1) := by decide +kernel
theorem dL_law_428 : decode cL_law 428 = .ok (.ireturn, 1) := by decide +kernel
theorem dL_law_429 : decode cL_law 429 = .ok (.goto 1348, 3) := by decide +kernel
theorem dL_law_432 : decode cL_law 432 = .ok (.aload_n 1, 1) := by decide +kernel
theorem dL_law_433 : decode cL_law 433 = .ok (.aload_n 0, 1) := by decide +kernel
theorem dL_law_434 : decode cL_law 434 = .ok (.iload 4, 2) := by decide +kernel
theorem dL_law_436 : decode cL_law 436 = .ok (.iconst 1, 1) := by decide +kernel
theorem dL_law_437 : decode cL_law 437 = .ok (.iadd, 1) := by decide +kernel
theorem dL_law_438 : decode cL_law 438 = .ok (.iaload, 1) := by decide +kernel
theorem dL_law_439 : decode cL_law 439 = .ok (.aload_n 0, 1) := by decide +kernel
theorem dL_law_440 : decode cL_law 440 = .ok (.iload 4, 2) := by decide +kernel
theorem dL_law_442 : decode cL_law 442 = .ok (.iconst 2, 1) := by decide +kernel
theorem dL_law_443 : decode cL_law 443 = .ok (.iadd, 1) := by decide +kernel
theorem dL_law_444 : decode cL_law 444 = .ok (.iaload, 1) := by decide +kernel
theorem dL_law_445 : decode cL_law 445 = .ok (.aload_n 3, 1) := by decide +kernel
theorem dL_law_446 : decode cL_law 446 = .ok (.invokestatic 112, 3) := by decide +kernel
theorem dL_law_449 : decode cL_law 449 = .ok (.istore 5, 2) := by decide +kernel
theorem dL_law_451 : decode cL_law 451 = .ok (.aload_n 2, 1) := by decide +kernel
theorem dL_law_452 : decode cL_law 452 = .ok (.aload_n 0, 1) := by decide +kernel
theorem dL_law_453 : decode cL_law 453 = .ok (.iload 4, 2) := by decide +kernel
theorem dL_law_455 : decode cL_law 455 = .ok (.iconst 1, 1) := by decide +kernel
theorem dL_law_456 : decode cL_law 456 = .ok (.iadd, 1) := by decide +kernel
theorem dL_law_457 : decode cL_law 457 = .ok (.iaload, 1) := by decide +kernel
theorem dL_law_458 : decode cL_law 458 = .ok (.aload_n 0, 1) := by decide +kernel
theorem dL_law_459 : decode cL_law 459 = .ok (.iload 4, 2) := by decide +kernel
theorem dL_law_461 : decode cL_law 461 = .ok (.iconst 2, 1) := by decide +kernel
theorem dL_law_462 : decode cL_law 462 = .ok (.iadd, 1) := by decide +kernel
theorem dL_law_463 : decode cL_law 463 = .ok (.iaload, 1) := by decide +kernel
theorem dL_law_464 : decode cL_law 464 = .ok (.invokevirtual 114, 3) := by decide +kernel
theorem dL_law_467 : decode cL_law 467 = .ok (.istore 6, 2) := by decide +kernel
theorem dL_law_469 : decode cL_law 469 = .ok (.aload_n 2, 1) := by decide +kernel
theorem dL_law_470 : decode cL_law 470 = .ok (.invokevirtual 101, 3) := by decide +kernel
theorem dL_law_473 : decode cL_law 473 = .ok (.iload 5, 2) := by decide +kernel
theorem dL_law_475 : decode cL_law 475 = .ok (.if_icmp .eq 5, 3) := by decide +kernel
theorem dL_law_478 : decode cL_law 478 = .ok (.iconst 0, 1) := by decide +kernel
theorem dL_law_479 : decode cL_law 479 = .ok (.ireturn, 1) := by decide +kernel
theorem dL_law_480 : decode cL_law 480 = .ok (.iload 5, 2) := by decide +kernel
theorem dL_law_482 : decode cL_law 482 = .ok (.ifCond .ne 15, 3) := by decide +kernel
theorem dL_law_485 : decode cL_law 485 = .ok (.aload_n 3, 1) := by decide +kernel
theorem dL_law_486 : decode cL_law 486 = .ok (.iconst 0, 1) := by decide +kernel
theorem dL_law_487 : decode cL_law 487 = .ok (.laload, 1) := by decide +kernel
theorem dL_law_488 : decode cL_law 488 = .ok (.iload 6, 2) := by decide +kernel
theorem dL_law_490 : decode cL_law 490 = .ok (.i2l, 1) := by decide +kernel
theorem dL_law_491 : decode cL_law 491 = .ok (.lcmp, 1) := by decide +kernel
theorem dL_law_492 : decode cL_law 492 = .ok (.ifCond .eq 5, 3) := by decide +kernel
theorem dL_law_495 : decode cL_law 495 = .ok (.iconst 0, 1) := by decide +kernel
theorem dL_law_496 : decode cL_law 496 = .ok (.ireturn, 1) := by decide +kernel
theorem dL_law_497 : decode cL_law 497 = .ok (.goto 1280, 3) := by decide +kernel
theorem dL_law_500 : decode cL_law 500 = .ok (.aload_n 1, 1) := by decide +kernel
theorem dL_law_501 : decode cL_law 501 = .ok (.aload_n 0, 1) := by decide +kernel
theorem dL_law_502 : decode cL_law 502 = .ok (.iload 4, 2) := by decide +kernel
theorem dL_law_504 : decode cL_law 504 = .ok (.iconst 1, 1) := by decide +kernel
theorem dL_law_505 : decode cL_law 505 = .ok (.iadd, 1) := by decide +kernel
theorem dL_law_506 : decode cL_law 506 = .ok (.iaload, 1) := by decide +kernel
theorem dL_law_507 : decode cL_law 507 = .ok (.aload_n 3, 1) := by decide +kernel
theorem dL_law_508 : decode cL_law 508 = .ok (.invokestatic 115, 3) := by decide +kernel
theorem dL_law_511 : decode cL_law 511 = .ok (.istore 5, 2) := by decide +kernel
theorem dL_law_513 : decode cL_law 513 = .ok (.aload_n 2, 1) := by decide +kernel
theorem dL_law_514 : decode cL_law 514 = .ok (.aload_n 0, 1) := by decide +kernel
theorem dL_law_515 : decode cL_law 515 = .ok (.iload 4, 2) := by decide +kernel
theorem dL_law_517 : decode cL_law 517 = .ok (.iconst 1, 1) := by decide +kernel
theorem dL_law_518 : decode cL_law 518 = .ok (.iadd, 1) := by decide +kernel
theorem dL_law_519 : decode cL_law 519 = .ok (.iaload, 1) := by decide +kernel
theorem dL_law_520 : decode cL_law 520 = .ok (.invokevirtual 118, 3) := by decide +kernel
theorem dL_law_523 : decode cL_law 523 = .ok (.istore 6, 2) := by decide +kernel
theorem dL_law_525 : decode cL_law 525 = .ok (.aload_n 2, 1) := by decide +kernel
theorem dL_law_526 : decode cL_law 526 = .ok (.invokevirtual 101, 3) := by decide +kernel
theorem dL_law_529 : decode cL_law 529 = .ok (.iload 5, 2) := by decide +kernel
theorem dL_law_531 : decode cL_law 531 = .ok (.if_icmp .eq 5, 3) := by decide +kernel
theorem dL_law_534 : decode cL_law 534 = .ok (.iconst 0, 1) := by decide +kernel
theorem dL_law_535 : decode cL_law 535 = .ok (.ireturn, 1) := by decide +kernel
theorem dL_law_536 : decode cL_law 536 = .ok (.iload 5, 2) := by decide +kernel
theorem dL_law_538 : decode cL_law 538 = .ok (.ifCond .ne 15, 3) := by decide +kernel
theorem dL_law_541 : decode cL_law 541 = .ok (.aload_n 3, 1) := by decide +kernel
theorem dL_law_542 : decode cL_law 542 = .ok (.iconst 0, 1) := by decide +kernel
theorem dL_law_543 : decode cL_law 543 = .ok (.laload, 1) := by decide +kernel
theorem dL_law_544 : decode cL_law 544 = .ok (.iload 6, 2) := by decide +kernel
theorem dL_law_546 : decode cL_law 546 = .ok (.i2l, 1) := by decide +kernel
theorem dL_law_547 : decode cL_law 547 = .ok (.lcmp, 1) := by decide +kernel
theorem dL_law_548 : decode cL_law 548 = .ok (.ifCond .eq 5, 3) := by decide +kernel
theorem dL_law_551 : decode cL_law 551 = .ok (.iconst 0, 1) := by decide +kernel
theorem dL_law_552 : decode cL_law 552 = .ok (.ireturn, 1) := by decide +kernel
theorem dL_law_553 : decode cL_law 553 = .ok (.goto 1224, 3) := by decide +kernel
theorem dL_law_556 : decode cL_law 556 = .ok (.aload_n 1, 1) := by decide +kernel
theorem dL_law_557 : decode cL_law 557 = .ok (.aload_n 0, 1) := by decide +kernel
theorem dL_law_558 : decode cL_law 558 = .ok (.iload 4, 2) := by decide +kernel
theorem dL_law_560 : decode cL_law 560 = .ok (.iconst 1, 1) := by decide +kernel
theorem dL_law_561 : decode cL_law 561 = .ok (.iadd, 1) := by decide +kernel
theorem dL_law_562 : decode cL_law 562 = .ok (.iaload, 1) := by decide +kernel
theorem dL_law_563 : decode cL_law 563 = .ok (.aload_n 0, 1) := by decide +kernel
theorem dL_law_564 : decode cL_law 564 = .ok (.iload 4, 2) := by decide +kernel
theorem dL_law_566 : decode cL_law 566 = .ok (.iconst 2, 1) := by decide +kernel
theorem dL_law_567 : decode cL_law 567 = .ok (.iadd, 1) := by decide +kernel
theorem dL_law_568 : decode cL_law 568 = .ok (.iaload, 1) := by decide +kernel
theorem dL_law_569 : decode cL_law 569 = .ok (.aload_n 3, 1) := by decide +kernel
theorem dL_law_570 : decode cL_law 570 = .ok (.invokestatic 119, 3) := by decide +kernel
theorem dL_law_573 : decode cL_law 573 = .ok (.istore 5, 2) := by decide +kernel
theorem dL_law_575 : decode cL_law 575 = .ok (.aload_n 2, 1) := by decide +kernel
theorem dL_law_576 : decode cL_law 576 = .ok (.aload_n 0, 1) := by decide +kernel
theorem dL_law_577 : decode cL_law 577 = .ok (.iload 4, 2) := by decide +kernel
theorem dL_law_579 : decode cL_law 579 = .ok (.iconst 1, 1) := by decide +kernel
theorem dL_law_580 : decode cL_law 580 = .ok (.iadd, 1) := by decide +kernel
theorem dL_law_581 : decode cL_law 581 = .ok (.iaload, 1) := by decide +kernel
theorem dL_law_582 : decode cL_law 582 = .ok (.aload_n 0, 1) := by decide +kernel
theorem dL_law_583 : decode cL_law 583 = .ok (.iload 4, 2) := by decide +kernel
theorem dL_law_585 : decode cL_law 585 = .ok (.iconst 2, 1) := by decide +kernel
theorem dL_law_586 : decode cL_law 586 = .ok (.iadd, 1) := by decide +kernel
theorem dL_law_587 : decode cL_law 587 = .ok (.iaload, 1) := by decide +kernel
theorem dL_law_588 : decode cL_law 588 = .ok (.invokevirtual 121, 3) := by decide +kernel
theorem dL_law_591 : decode cL_law 591 = .ok (.istore 6, 2) := by decide +kernel
theorem dL_law_593 : decode cL_law 593 = .ok (.aload_n 2, 1) := by decide +kernel
theorem dL_law_594 : decode cL_law 594 = .ok (.invokevirtual 101, 3) := by decide +kernel
theorem dL_law_597 : decode cL_law 597 = .ok (.iload 5, 2) := by decide +kernel
theorem dL_law_599 : decode cL_law 599 = .ok (.if_icmp .eq 5, 3) := by decide +kernel
theorem dL_law_602 : decode cL_law 602 = .ok (.iconst 0, 1) := by decide +kernel
theorem dL_law_603 : decode cL_law 603 = .ok (.ireturn, 1) := by decide +kernel
theorem dL_law_604 : decode cL_law 604 = .ok (.iload 5, 2) := by decide +kernel
theorem dL_law_606 : decode cL_law 606 = .ok (.ifCond .ne 15, 3) := by decide +kernel
theorem dL_law_609 : decode cL_law 609 = .ok (.aload_n 3, 1) := by decide +kernel
theorem dL_law_610 : decode cL_law 610 = .ok (.iconst 0, 1) := by decide +kernel
theorem dL_law_611 : decode cL_law 611 = .ok (.laload, 1) := by decide +kernel
theorem dL_law_612 : decode cL_law 612 = .ok (.iload 6, 2) := by decide +kernel
theorem dL_law_614 : decode cL_law 614 = .ok (.i2l, 1) := by decide +kernel
theorem dL_law_615 : decode cL_law 615 = .ok (.lcmp, 1) := by decide +kernel
theorem dL_law_616 : decode cL_law 616 = .ok (.ifCond .eq 5, 3) := by decide +kernel
theorem dL_law_619 : decode cL_law 619 = .ok (.iconst 0, 1) := by decide +kernel
theorem dL_law_620 : decode cL_law 620 = .ok (.ireturn, 1) := by decide +kernel
theorem dL_law_621 : decode cL_law 621 = .ok (.goto 1156, 3) := by decide +kernel
theorem dL_law_624 : decode cL_law 624 = .ok (.aload_n 1, 1) := by decide +kernel
theorem dL_law_625 : decode cL_law 625 = .ok (.aload_n 0, 1) := by decide +kernel
theorem dL_law_626 : decode cL_law 626 = .ok (.iload 4, 2) := by decide +kernel
theorem dL_law_628 : decode cL_law 628 = .ok (.iconst 1, 1) := by decide +kernel
theorem dL_law_629 : decode cL_law 629 = .ok (.iadd, 1) := by decide +kernel
theorem dL_law_630 : decode cL_law 630 = .ok (.iaload, 1) := by decide +kernel
theorem dL_law_631 : decode cL_law 631 = .ok (.aload_n 3, 1) := by decide +kernel
theorem dL_law_632 : decode cL_law 632 = .ok (.invokestatic 122, 3) := by decide +kernel
theorem dL_law_635 : decode cL_law 635 = .ok (.istore 5, 2) := by decide +kernel
theorem dL_law_637 : decode cL_law 637 = .ok (.aload_n 2, 1) := by decide +kernel
theorem dL_law_638 : decode cL_law 638 = .ok (.aload_n 0, 1) := by decide +kernel
theorem dL_law_639 : decode cL_law 639 = .ok (.iload 4, 2) := by decide +kernel
theorem dL_law_641 : decode cL_law 641 = .ok (.iconst 1, 1) := by decide +kernel
theorem dL_law_642 : decode cL_law 642 = .ok (.iadd, 1) := by decide +kernel
theorem dL_law_643 : decode cL_law 643 = .ok (.iaload, 1) := by decide +kernel
theorem dL_law_644 : decode cL_law 644 = .ok (.invokevirtual 124, 3) := by decide +kernel
theorem dL_law_647 : decode cL_law 647 = .ok (.istore 6, 2) := by decide +kernel
theorem dL_law_649 : decode cL_law 649 = .ok (.aload_n 2, 1) := by decide +kernel
theorem dL_law_650 : decode cL_law 650 = .ok (.invokevirtual 101, 3) := by decide +kernel
theorem dL_law_653 : decode cL_law 653 = .ok (.iload 5, 2) := by decide +kernel
theorem dL_law_655 : decode cL_law 655 = .ok (.if_icmp .eq 5, 3) := by decide +kernel
theorem dL_law_658 : decode cL_law 658 = .ok (.iconst 0, 1) := by decide +kernel
theorem dL_law_659 : decode cL_law 659 = .ok (.ireturn, 1) := by decide +kernel
theorem dL_law_660 : decode cL_law 660 = .ok (.iload 5, 2) := by decide +kernel
theorem dL_law_662 : decode cL_law 662 = .ok (.ifCond .ne 15, 3) := by decide +kernel
theorem dL_law_665 : decode cL_law 665 = .ok (.aload_n 3, 1) := by decide +kernel
theorem dL_law_666 : decode cL_law 666 = .ok (.iconst 0, 1) := by decide +kernel
theorem dL_law_667 : decode cL_law 667 = .ok (.laload, 1) := by decide +kernel
theorem dL_law_668 : decode cL_law 668 = .ok (.iload 6, 2) := by decide +kernel
theorem dL_law_670 : decode cL_law 670 = .ok (.i2l, 1) := by decide +kernel
theorem dL_law_671 : decode cL_law 671 = .ok (.lcmp, 1) := by decide +kernel
theorem dL_law_672 : decode cL_law 672 = .ok (.ifCond .eq 5, 3) := by decide +kernel
theorem dL_law_675 : decode cL_law 675 = .ok (.iconst 0, 1) := by decide +kernel
theorem dL_law_676 : decode cL_law 676 = .ok (.ireturn, 1) := by decide +kernel
theorem dL_law_677 : decode cL_law 677 = .ok (.goto 1100, 3) := by decide +kernel
theorem dL_law_680 : decode cL_law 680 = .ok (.aload_n 1, 1) := by decide +kernel
theorem dL_law_681 : decode cL_law 681 = .ok (.aload_n 0, 1) := by decide +kernel
theorem dL_law_682 : decode cL_law 682 = .ok (.iload 4, 2) := by decide +kernel
theorem dL_law_684 : decode cL_law 684 = .ok (.iconst 1, 1) := by decide +kernel
theorem dL_law_685 : decode cL_law 685 = .ok (.iadd, 1) := by decide +kernel
theorem dL_law_686 : decode cL_law 686 = .ok (.iaload, 1) := by decide +kernel
theorem dL_law_687 : decode cL_law 687 = .ok (.aload_n 3, 1) := by decide +kernel
theorem dL_law_688 : decode cL_law 688 = .ok (.invokestatic 125, 3) := by decide +kernel
theorem dL_law_691 : decode cL_law 691 = .ok (.istore 5, 2) := by decide +kernel
theorem dL_law_693 : decode cL_law 693 = .ok (.aload_n 2, 1) := by decide +kernel
theorem dL_law_694 : decode cL_law 694 = .ok (.aload_n 0, 1) := by decide +kernel
theorem dL_law_695 : decode cL_law 695 = .ok (.iload 4, 2) := by decide +kernel
theorem dL_law_697 : decode cL_law 697 = .ok (.iconst 1, 1) := by decide +kernel
theorem dL_law_698 : decode cL_law 698 = .ok (.iadd, 1) := by decide +kernel
theorem dL_law_699 : decode cL_law 699 = .ok (.iaload, 1) := by decide +kernel
theorem dL_law_700 : decode cL_law 700 = .ok (.invokevirtual 127, 3) := by decide +kernel
theorem dL_law_703 : decode cL_law 703 = .ok (.istore 6, 2) := by decide +kernel
theorem dL_law_705 : decode cL_law 705 = .ok (.aload_n 2, 1) := by decide +kernel
theorem dL_law_706 : decode cL_law 706 = .ok (.invokevirtual 101, 3) := by decide +kernel
theorem dL_law_709 : decode cL_law 709 = .ok (.iload 5, 2) := by decide +kernel
theorem dL_law_711 : decode cL_law 711 = .ok (.if_icmp .eq 5, 3) := by decide +kernel
theorem dL_law_714 : decode cL_law 714 = .ok (.iconst 0, 1) := by decide +kernel
theorem dL_law_715 : decode cL_law 715 = .ok (.ireturn, 1) := by decide +kernel
theorem dL_law_716 : decode cL_law 716 = .ok (.iload 5, 2) := by decide +kernel
theorem dL_law_718 : decode cL_law 718 = .ok (.ifCond .ne 15, 3) := by decide +kernel
theorem dL_law_721 : decode cL_law 721 = .ok (.aload_n 3, 1) := by decide +kernel
theorem dL_law_722 : decode cL_law 722 = .ok (.iconst 0, 1) := by decide +kernel
theorem dL_law_723 : decode cL_law 723 = .ok (.laload, 1) := by decide +kernel
theorem dL_law_724 : decode cL_law 724 = .ok (.iload 6, 2) := by decide +kernel
theorem dL_law_726 : decode cL_law 726 = .ok (.i2l, 1) := by decide +kernel
theorem dL_law_727 : decode cL_law 727 = .ok (.lcmp, 1) := by decide +kernel
theorem dL_law_728 : decode cL_law 728 = .ok (.ifCond .eq 5, 3) := by decide +kernel
theorem dL_law_731 : decode cL_law 731 = .ok (.iconst 0, 1) := by decide +kernel
theorem dL_law_732 : decode cL_law 732 = .ok (.ireturn, 1) := by decide +kernel
theorem dL_law_733 : decode cL_law 733 = .ok (.goto 1044, 3) := by decide +kernel
theorem dL_law_736 : decode cL_law 736 = .ok (.aload_n 1, 1) := by decide +kernel
theorem dL_law_737 : decode cL_law 737 = .ok (.invokevirtual 128, 3) := by decide +kernel
theorem dL_law_740 : decode cL_law 740 = .ok (.aload_n 2, 1) := by decide +kernel
theorem dL_law_741 : decode cL_law 741 = .ok (.invokevirtual 131, 3) := by decide +kernel
theorem dL_law_744 : decode cL_law 744 = .ok (.if_icmp .eq 1033, 3) := by decide +kernel
theorem dL_law_747 : decode cL_law 747 = .ok (.iconst 0, 1) := by decide +kernel
theorem dL_law_748 : decode cL_law 748 = .ok (.ireturn, 1) := by decide +kernel
theorem dL_law_749 : decode cL_law 749 = .ok (.aload_n 1, 1) := by decide +kernel
theorem dL_law_750 : decode cL_law 750 = .ok (.invokevirtual 132, 3) := by decide +kernel
theorem dL_law_753 : decode cL_law 753 = .ok (.aload_n 2, 1) := by decide +kernel
theorem dL_law_754 : decode cL_law 754 = .ok (.invokevirtual 135, 3) := by decide +kernel
theorem dL_law_757 : decode cL_law 757 = .ok (.if_icmp .eq 1020, 3) := by decide +kernel
theorem dL_law_760 : decode cL_law 760 = .ok (.iconst 0, 1) := by decide +kernel
theorem dL_law_761 : decode cL_law 761 = .ok (.ireturn, 1) := by decide +kernel
theorem dL_law_762 : decode cL_law 762 = .ok (.aload_n 1, 1) := by decide +kernel
theorem dL_law_763 : decode cL_law 763 = .ok (.aload_n 3, 1) := by decide +kernel
theorem dL_law_764 : decode cL_law 764 = .ok (.invokestatic 136, 3) := by decide +kernel
theorem dL_law_767 : decode cL_law 767 = .ok (.istore 5, 2) := by decide +kernel
theorem dL_law_769 : decode cL_law 769 = .ok (.aload_n 2, 1) := by decide +kernel
theorem dL_law_770 : decode cL_law 770 = .ok (.invokevirtual 139, 3) := by decide +kernel
theorem dL_law_773 : decode cL_law 773 = .ok (.istore 6, 2) := by decide +kernel
theorem dL_law_775 : decode cL_law 775 = .ok (.aload_n 2, 1) := by decide +kernel
theorem dL_law_776 : decode cL_law 776 = .ok (.invokevirtual 101, 3) := by decide +kernel
theorem dL_law_779 : decode cL_law 779 = .ok (.iload 5, 2) := by decide +kernel
theorem dL_law_781 : decode cL_law 781 = .ok (.if_icmp .eq 5, 3) := by decide +kernel
theorem dL_law_784 : decode cL_law 784 = .ok (.iconst 0, 1) := by decide +kernel
theorem dL_law_785 : decode cL_law 785 = .ok (.ireturn, 1) := by decide +kernel
theorem dL_law_786 : decode cL_law 786 = .ok (.iload 5, 2) := by decide +kernel
theorem dL_law_788 : decode cL_law 788 = .ok (.ifCond .ne 15, 3) := by decide +kernel
theorem dL_law_791 : decode cL_law 791 = .ok (.aload_n 3, 1) := by decide +kernel
theorem dL_law_792 : decode cL_law 792 = .ok (.iconst 0, 1) := by decide +kernel
theorem dL_law_793 : decode cL_law 793 = .ok (.laload, 1) := by decide +kernel
theorem dL_law_794 : decode cL_law 794 = .ok (.iload 6, 2) := by decide +kernel
theorem dL_law_796 : decode cL_law 796 = .ok (.i2l, 1) := by decide +kernel
theorem dL_law_797 : decode cL_law 797 = .ok (.lcmp, 1) := by decide +kernel
theorem dL_law_798 : decode cL_law 798 = .ok (.ifCond .eq 5, 3) := by decide +kernel
theorem dL_law_801 : decode cL_law 801 = .ok (.iconst 0, 1) := by decide +kernel
theorem dL_law_802 : decode cL_law 802 = .ok (.ireturn, 1) := by decide +kernel
theorem dL_law_803 : decode cL_law 803 = .ok (.goto 974, 3) := by decide +kernel
theorem dL_law_806 : decode cL_law 806 = .ok (.aload_n 1, 1) := by decide +kernel
theorem dL_law_807 : decode cL_law 807 = .ok (.aload_n 3, 1) := by decide +kernel
theorem dL_law_808 : decode cL_law 808 = .ok (.invokestatic 140, 3) := by decide +kernel
theorem dL_law_811 : decode cL_law 811 = .ok (.istore 5, 2) := by decide +kernel
theorem dL_law_813 : decode cL_law 813 = .ok (.aload_n 2, 1) := by decide +kernel
theorem dL_law_814 : decode cL_law 814 = .ok (.invokevirtual 142, 3) := by decide +kernel
theorem dL_law_817 : decode cL_law 817 = .ok (.istore 6, 2) := by decide +kernel
theorem dL_law_819 : decode cL_law 819 = .ok (.aload_n 2, 1) := by decide +kernel
theorem dL_law_820 : decode cL_law 820 = .ok (.invokevirtual 101, 3) := by decide +kernel
theorem dL_law_823 : decode cL_law 823 = .ok (.iload 5, 2) := by decide +kernel
theorem dL_law_825 : decode cL_law 825 = .ok (.if_icmp .eq 5, 3) := by decide +kernel
theorem dL_law_828 : decode cL_law 828 = .ok (.iconst 0, 1) := by decide +kernel
theorem dL_law_829 : decode cL_law 829 = .ok (.ireturn, 1) := by decide +kernel
theorem dL_law_830 : decode cL_law 830 = .ok (.iload 5, 2) := by decide +kernel
theorem dL_law_832 : decode cL_law 832 = .ok (.ifCond .ne 15, 3) := by decide +kernel
theorem dL_law_835 : decode cL_law 835 = .ok (.aload_n 3, 1) := by decide +kernel
theorem dL_law_836 : decode cL_law 836 = .ok (.iconst 0, 1) := by decide +kernel
theorem dL_law_837 : decode cL_law 837 = .ok (.laload, 1) := by decide +kernel
theorem dL_law_838 : decode cL_law 838 = .ok (.iload 6, 2) := by decide +kernel
theorem dL_law_840 : decode cL_law 840 = .ok (.i2l, 1) := by decide +kernel
theorem dL_law_841 : decode cL_law 841 = .ok (.lcmp, 1) := by decide +kernel
theorem dL_law_842 : decode cL_law 842 = .ok (.ifCond .eq 5, 3) := by decide +kernel
theorem dL_law_845 : decode cL_law 845 = .ok (.iconst 0, 1) := by decide +kernel
theorem dL_law_846 : decode cL_law 846 = .ok (.ireturn, 1) := by decide +kernel
theorem dL_law_847 : decode cL_law 847 = .ok (.goto 930, 3) := by decide +kernel
theorem dL_law_850 : decode cL_law 850 = .ok (.aload_n 1, 1) := by decide +kernel
theorem dL_law_851 : decode cL_law 851 = .ok (.aload_n 0, 1) := by decide +kernel
theorem dL_law_852 : decode cL_law 852 = .ok (.iload 4, 2) := by decide +kernel
theorem dL_law_854 : decode cL_law 854 = .ok (.iconst 1, 1) := by decide +kernel
theorem dL_law_855 : decode cL_law 855 = .ok (.iadd, 1) := by decide +kernel
theorem dL_law_856 : decode cL_law 856 = .ok (.iaload, 1) := by decide +kernel
theorem dL_law_857 : decode cL_law 857 = .ok (.aload_n 0, 1) := by decide +kernel
theorem dL_law_858 : decode cL_law 858 = .ok (.iload 4, 2) := by decide +kernel
theorem dL_law_860 : decode cL_law 860 = .ok (.iconst 2, 1) := by decide +kernel
theorem dL_law_861 : decode cL_law 861 = .ok (.iadd, 1) := by decide +kernel
theorem dL_law_862 : decode cL_law 862 = .ok (.iaload, 1) := by decide +kernel
theorem dL_law_863 : decode cL_law 863 = .ok (.aload_n 3, 1) := by decide +kernel
theorem dL_law_864 : decode cL_law 864 = .ok (.invokestatic 143, 3) := by decide +kernel
theorem dL_law_867 : decode cL_law 867 = .ok (.istore 5, 2) := by decide +kernel
theorem dL_law_869 : decode cL_law 869 = .ok (.aload_n 2, 1) := by decide +kernel
theorem dL_law_870 : decode cL_law 870 = .ok (.aload_n 0, 1) := by decide +kernel
theorem dL_law_871 : decode cL_law 871 = .ok (.iload 4, 2) := by decide +kernel
theorem dL_law_873 : decode cL_law 873 = .ok (.iconst 1, 1) := by decide +kernel
theorem dL_law_874 : decode cL_law 874 = .ok (.iadd, 1) := by decide +kernel
theorem dL_law_875 : decode cL_law 875 = .ok (.iaload, 1) := by decide +kernel
theorem dL_law_876 : decode cL_law 876 = .ok (.aload_n 0, 1) := by decide +kernel
theorem dL_law_877 : decode cL_law 877 = .ok (.iload 4, 2) := by decide +kernel
theorem dL_law_879 : decode cL_law 879 = .ok (.iconst 2, 1) := by decide +kernel
theorem dL_law_880 : decode cL_law 880 = .ok (.iadd, 1) := by decide +kernel
theorem dL_law_881 : decode cL_law 881 = .ok (.iaload, 1) := by decide +kernel
theorem dL_law_882 : decode cL_law 882 = .ok (.invokevirtual 145, 3) := by decide +kernel
theorem dL_law_885 : decode cL_law 885 = .ok (.istore 6, 2) := by decide +kernel
theorem dL_law_887 : decode cL_law 887 = .ok (.aload_n 2, 1) := by decide +kernel
theorem dL_law_888 : decode cL_law 888 = .ok (.invokevirtual 101, 3) := by decide +kernel
theorem dL_law_891 : decode cL_law 891 = .ok (.iload 5, 2) := by decide +kernel
theorem dL_law_893 : decode cL_law 893 = .ok (.if_icmp .eq 5, 3) := by decide +kernel
theorem dL_law_896 : decode cL_law 896 = .ok (.iconst 0, 1) := by decide +kernel
theorem dL_law_897 : decode cL_law 897 = .ok (.ireturn, 1) := by decide +kernel
theorem dL_law_898 : decode cL_law 898 = .ok (.iload 5, 2) := by decide +kernel
theorem dL_law_900 : decode cL_law 900 = .ok (.ifCond .ne 22, 3) := by decide +kernel
theorem dL_law_903 : decode cL_law 903 = .ok (.aload_n 3, 1) := by decide +kernel
theorem dL_law_904 : decode cL_law 904 = .ok (.iconst 0, 1) := by decide +kernel
theorem dL_law_905 : decode cL_law 905 = .ok (.laload, 1) := by decide +kernel
theorem dL_law_906 : decode cL_law 906 = .ok (.iload 6, 2) := by decide +kernel
theorem dL_law_908 : decode cL_law 908 = .ok (.ifCond .eq 7, 3) := by decide +kernel
theorem dL_law_911 : decode cL_law 911 = .ok (.lconst 1, 1) := by decide +kernel
theorem dL_law_912 : decode cL_law 912 = .ok (.goto 4, 3) := by decide +kernel
theorem dL_law_915 : decode cL_law 915 = .ok (.lconst 0, 1) := by decide +kernel
theorem dL_law_916 : decode cL_law 916 = .ok (.lcmp, 1) := by decide +kernel
theorem dL_law_917 : decode cL_law 917 = .ok (.ifCond .eq 5, 3) := by decide +kernel
theorem dL_law_920 : decode cL_law 920 = .ok (.iconst 0, 1) := by decide +kernel
theorem dL_law_921 : decode cL_law 921 = .ok (.ireturn, 1) := by decide +kernel
theorem dL_law_922 : decode cL_law 922 = .ok (.goto 855, 3) := by decide +kernel
theorem dL_law_925 : decode cL_law 925 = .ok (.aload_n 1, 1) := by decide +kernel
theorem dL_law_926 : decode cL_law 926 = .ok (.aload_n 0, 1) := by decide +kernel
theorem dL_law_927 : decode cL_law 927 = .ok (.iload 4, 2) := by decide +kernel
theorem dL_law_929 : decode cL_law 929 = .ok (.iconst 1, 1) := by decide +kernel
theorem dL_law_930 : decode cL_law 930 = .ok (.iadd, 1) := by decide +kernel
theorem dL_law_931 : decode cL_law 931 = .ok (.iaload, 1) := by decide +kernel
theorem dL_law_932 : decode cL_law 932 = .ok (.aload_n 3, 1) := by decide +kernel
theorem dL_law_933 : decode cL_law 933 = .ok (.invokestatic 146, 3) := by decide +kernel
theorem dL_law_936 : decode cL_law 936 = .ok (.istore 5, 2) := by decide +kernel
theorem dL_law_938 : decode cL_law 938 = .ok (.aload_n 2, 1) := by decide +kernel
theorem dL_law_939 : decode cL_law 939 = .ok (.aload_n 0, 1) := by decide +kernel
theorem dL_law_940 : decode cL_law 940 = .ok (.iload 4, 2) := by decide +kernel
theorem dL_law_942 : decode cL_law 942 = .ok (.iconst 1, 1) := by decide +kernel
theorem dL_law_943 : decode cL_law 943 = .ok (.iadd, 1) := by decide +kernel
theorem dL_law_944 : decode cL_law 944 = .ok (.iaload, 1) := by decide +kernel
theorem dL_law_945 : decode cL_law 945 = .ok (.invokevirtual 148, 3) := by decide +kernel
theorem dL_law_948 : decode cL_law 948 = .ok (.istore 6, 2) := by decide +kernel
theorem dL_law_950 : decode cL_law 950 = .ok (.aload_n 2, 1) := by decide +kernel
theorem dL_law_951 : decode cL_law 951 = .ok (.invokevirtual 101, 3) := by decide +kernel
theorem dL_law_954 : decode cL_law 954 = .ok (.iload 5, 2) := by decide +kernel
theorem dL_law_956 : decode cL_law 956 = .ok (.if_icmp .eq 5, 3) := by decide +kernel
theorem dL_law_959 : decode cL_law 959 = .ok (.iconst 0, 1) := by decide +kernel
theorem dL_law_960 : decode cL_law 960 = .ok (.ireturn, 1) := by decide +kernel
theorem dL_law_961 : decode cL_law 961 = .ok (.iload 5, 2) := by decide +kernel
theorem dL_law_963 : decode cL_law 963 = .ok (.ifCond .ne 15, 3) := by decide +kernel
theorem dL_law_966 : decode cL_law 966 = .ok (.aload_n 3, 1) := by decide +kernel
theorem dL_law_967 : decode cL_law 967 = .ok (.iconst 0, 1) := by decide +kernel
theorem dL_law_968 : decode cL_law 968 = .ok (.laload, 1) := by decide +kernel
theorem dL_law_969 : decode cL_law 969 = .ok (.iload 6, 2) := by decide +kernel
theorem dL_law_971 : decode cL_law 971 = .ok (.i2l, 1) := by decide +kernel
theorem dL_law_972 : decode cL_law 972 = .ok (.lcmp, 1) := by decide +kernel
theorem dL_law_973 : decode cL_law 973 = .ok (.ifCond .eq 5, 3) := by decide +kernel
theorem dL_law_976 : decode cL_law 976 = .ok (.iconst 0, 1) := by decide +kernel
theorem dL_law_977 : decode cL_law 977 = .ok (.ireturn, 1) := by decide +kernel
theorem dL_law_978 : decode cL_law 978 = .ok (.goto 799, 3) := by decide +kernel
theorem dL_law_981 : decode cL_law 981 = .ok (.aload_n 1, 1) := by decide +kernel
theorem dL_law_982 : decode cL_law 982 = .ok (.aload_n 0, 1) := by decide +kernel
theorem dL_law_983 : decode cL_law 983 = .ok (.iload 4, 2) := by decide +kernel
theorem dL_law_985 : decode cL_law 985 = .ok (.iconst 1, 1) := by decide +kernel
theorem dL_law_986 : decode cL_law 986 = .ok (.iadd, 1) := by decide +kernel
theorem dL_law_987 : decode cL_law 987 = .ok (.iaload, 1) := by decide +kernel
theorem dL_law_988 : decode cL_law 988 = .ok (.aload_n 3, 1) := by decide +kernel
theorem dL_law_989 : decode cL_law 989 = .ok (.invokestatic 149, 3) := by decide +kernel
theorem dL_law_992 : decode cL_law 992 = .ok (.istore 5, 2) := by decide +kernel
theorem dL_law_994 : decode cL_law 994 = .ok (.aload_n 2, 1) := by decide +kernel
theorem dL_law_995 : decode cL_law 995 = .ok (.aload_n 0, 1) := by decide +kernel
theorem dL_law_996 : decode cL_law 996 = .ok (.iload 4, 2) := by decide +kernel
theorem dL_law_998 : decode cL_law 998 = .ok (.iconst 1, 1) := by decide +kernel
theorem dL_law_999 : decode cL_law 999 = .ok (.iadd, 1) := by decide +kernel
theorem dL_law_1000 : decode cL_law 1000 = .ok (.iaload, 1) := by decide +kernel
theorem dL_law_1001 : decode cL_law 1001 = .ok (.invokevirtual 151, 3) := by decide +kernel
theorem dL_law_1004 : decode cL_law 1004 = .ok (.istore 6, 2) := by decide +kernel
theorem dL_law_1006 : decode cL_law 1006 = .ok (.aload_n 2, 1) := by decide +kernel
theorem dL_law_1007 : decode cL_law 1007 = .ok (.invokevirtual 101, 3) := by decide +kernel
theorem dL_law_1010 : decode cL_law 1010 = .ok (.iload 5, 2) := by decide +kernel
theorem dL_law_1012 : decode cL_law 1012 = .ok (.if_icmp .eq 5, 3) := by decide +kernel
theorem dL_law_1015 : decode cL_law 1015 = .ok (.iconst 0, 1) := by decide +kernel
theorem dL_law_1016 : decode cL_law 1016 = .ok (.ireturn, 1) := by decide +kernel
theorem dL_law_1017 : decode cL_law 1017 = .ok (.iload 5, 2) := by decide +kernel
theorem dL_law_1019 : decode cL_law 1019 = .ok (.ifCond .ne 15, 3) := by decide +kernel
theorem dL_law_1022 : decode cL_law 1022 = .ok (.aload_n 3, 1) := by decide +kernel
theorem dL_law_1023 : decode cL_law 1023 = .ok (.iconst 0, 1) := by decide +kernel
theorem dL_law_1024 : decode cL_law 1024 = .ok (.laload, 1) := by decide +kernel
theorem dL_law_1025 : decode cL_law 1025 = .ok (.iload 6, 2) := by decide +kernel
theorem dL_law_1027 : decode cL_law 1027 = .ok (.i2l, 1) := by decide +kernel
theorem dL_law_1028 : decode cL_law 1028 = .ok (.lcmp, 1) := by decide +kernel
theorem dL_law_1029 : decode cL_law 1029 = .ok (.ifCond .eq 5, 3) := by decide +kernel
theorem dL_law_1032 : decode cL_law 1032 = .ok (.iconst 0, 1) := by decide +kernel
theorem dL_law_1033 : decode cL_law 1033 = .ok (.ireturn, 1) := by decide +kernel
theorem dL_law_1034 : decode cL_law 1034 = .ok (.goto 743, 3) := by decide +kernel
theorem dL_law_1037 : decode cL_law 1037 = .ok (.aload_n 1, 1) := by decide +kernel
theorem dL_law_1038 : decode cL_law 1038 = .ok (.aload_n 0, 1) := by decide +kernel
theorem dL_law_1039 : decode cL_law 1039 = .ok (.iload 4, 2) := by decide +kernel
theorem dL_law_1041 : decode cL_law 1041 = .ok (.iconst 1, 1) := by decide +kernel
theorem dL_law_1042 : decode cL_law 1042 = .ok (.iadd, 1) := by decide +kernel
theorem dL_law_1043 : decode cL_law 1043 = .ok (.iaload, 1) := by decide +kernel
theorem dL_law_1044 : decode cL_law 1044 = .ok (.aload_n 3, 1) := by decide +kernel
theorem dL_law_1045 : decode cL_law 1045 = .ok (.invokestatic 152, 3) := by decide +kernel
theorem dL_law_1048 : decode cL_law 1048 = .ok (.istore 5, 2) := by decide +kernel
theorem dL_law_1050 : decode cL_law 1050 = .ok (.aload_n 2, 1) := by decide +kernel
theorem dL_law_1051 : decode cL_law 1051 = .ok (.aload_n 0, 1) := by decide +kernel
theorem dL_law_1052 : decode cL_law 1052 = .ok (.iload 4, 2) := by decide +kernel
theorem dL_law_1054 : decode cL_law 1054 = .ok (.iconst 1, 1) := by decide +kernel
theorem dL_law_1055 : decode cL_law 1055 = .ok (.iadd, 1) := by decide +kernel
theorem dL_law_1056 : decode cL_law 1056 = .ok (.iaload, 1) := by decide +kernel
theorem dL_law_1057 : decode cL_law 1057 = .ok (.invokevirtual 154, 3) := by decide +kernel
theorem dL_law_1060 : decode cL_law 1060 = .ok (.istore 6, 2) := by decide +kernel
theorem dL_law_1062 : decode cL_law 1062 = .ok (.aload_n 2, 1) := by decide +kernel
theorem dL_law_1063 : decode cL_law 1063 = .ok (.invokevirtual 101, 3) := by decide +kernel
theorem dL_law_1066 : decode cL_law 1066 = .ok (.iload 5, 2) := by decide +kernel
theorem dL_law_1068 : decode cL_law 1068 = .ok (.if_icmp .eq 5, 3) := by decide +kernel
theorem dL_law_1071 : decode cL_law 1071 = .ok (.iconst 0, 1) := by decide +kernel
theorem dL_law_1072 : decode cL_law 1072 = .ok (.ireturn, 1) := by decide +kernel
theorem dL_law_1073 : decode cL_law 1073 = .ok (.iload 5, 2) := by decide +kernel
theorem dL_law_1075 : decode cL_law 1075 = .ok (.ifCond .ne 15, 3) := by decide +kernel
theorem dL_law_1078 : decode cL_law 1078 = .ok (.aload_n 3, 1) := by decide +kernel
theorem dL_law_1079 : decode cL_law 1079 = .ok (.iconst 0, 1) := by decide +kernel
theorem dL_law_1080 : decode cL_law 1080 = .ok (.laload, 1) := by decide +kernel
theorem dL_law_1081 : decode cL_law 1081 = .ok (.iload 6, 2) := by decide +kernel
theorem dL_law_1083 : decode cL_law 1083 = .ok (.i2l, 1) := by decide +kernel
theorem dL_law_1084 : decode cL_law 1084 = .ok (.lcmp, 1) := by decide +kernel
theorem dL_law_1085 : decode cL_law 1085 = .ok (.ifCond .eq 5, 3) := by decide +kernel
theorem dL_law_1088 : decode cL_law 1088 = .ok (.iconst 0, 1) := by decide +kernel
theorem dL_law_1089 : decode cL_law 1089 = .ok (.ireturn, 1) := by decide +kernel
theorem dL_law_1090 : decode cL_law 1090 = .ok (.goto 687, 3) := by decide +kernel
theorem dL_law_1093 : decode cL_law 1093 = .ok (.aload_n 1, 1) := by decide +kernel
theorem dL_law_1094 : decode cL_law 1094 = .ok (.aload_n 0, 1) := by decide +kernel
theorem dL_law_1095 : decode cL_law 1095 = .ok (.iload 4, 2) := by decide +kernel
theorem dL_law_1097 : decode cL_law 1097 = .ok (.iconst 1, 1) := by decide +kernel
theorem dL_law_1098 : decode cL_law 1098 = .ok (.iadd, 1) := by decide +kernel
theorem dL_law_1099 : decode cL_law 1099 = .ok (.iaload, 1) := by decide +kernel
theorem dL_law_1100 : decode cL_law 1100 = .ok (.aload_n 3, 1) := by decide +kernel
theorem dL_law_1101 : decode cL_law 1101 = .ok (.invokestatic 155, 3) := by decide +kernel
theorem dL_law_1104 : decode cL_law 1104 = .ok (.istore 5, 2) := by decide +kernel
theorem dL_law_1106 : decode cL_law 1106 = .ok (.aload_n 2, 1) := by decide +kernel
theorem dL_law_1107 : decode cL_law 1107 = .ok (.aload_n 0, 1) := by decide +kernel
theorem dL_law_1108 : decode cL_law 1108 = .ok (.iload 4, 2) := by decide +kernel
theorem dL_law_1110 : decode cL_law 1110 = .ok (.iconst 1, 1) := by decide +kernel
theorem dL_law_1111 : decode cL_law 1111 = .ok (.iadd, 1) := by decide +kernel
theorem dL_law_1112 : decode cL_law 1112 = .ok (.iaload, 1) := by decide +kernel
theorem dL_law_1113 : decode cL_law 1113 = .ok (.invokevirtual 157, 3) := by decide +kernel
theorem dL_law_1116 : decode cL_law 1116 = .ok (.istore 6, 2) := by decide +kernel
theorem dL_law_1118 : decode cL_law 1118 = .ok (.aload_n 2, 1) := by decide +kernel
theorem dL_law_1119 : decode cL_law 1119 = .ok (.invokevirtual 101, 3) := by decide +kernel
theorem dL_law_1122 : decode cL_law 1122 = .ok (.iload 5, 2) := by decide +kernel
theorem dL_law_1124 : decode cL_law 1124 = .ok (.if_icmp .eq 5, 3) := by decide +kernel
theorem dL_law_1127 : decode cL_law 1127 = .ok (.iconst 0, 1) := by decide +kernel
theorem dL_law_1128 : decode cL_law 1128 = .ok (.ireturn, 1) := by decide +kernel
theorem dL_law_1129 : decode cL_law 1129 = .ok (.iload 5, 2) := by decide +kernel
theorem dL_law_1131 : decode cL_law 1131 = .ok (.ifCond .ne 15, 3) := by decide +kernel
theorem dL_law_1134 : decode cL_law 1134 = .ok (.aload_n 3, 1) := by decide +kernel
theorem dL_law_1135 : decode cL_law 1135 = .ok (.iconst 0, 1) := by decide +kernel
theorem dL_law_1136 : decode cL_law 1136 = .ok (.laload, 1) := by decide +kernel
theorem dL_law_1137 : decode cL_law 1137 = .ok (.iload 6, 2) := by decide +kernel
theorem dL_law_1139 : decode cL_law 1139 = .ok (.i2l, 1) := by decide +kernel
theorem dL_law_1140 : decode cL_law 1140 = .ok (.lcmp, 1) := by decide +kernel
theorem dL_law_1141 : decode cL_law 1141 = .ok (.ifCond .eq 5, 3) := by decide +kernel
theorem dL_law_1144 : decode cL_law 1144 = .ok (.iconst 0, 1) := by decide +kernel
theorem dL_law_1145 : decode cL_law 1145 = .ok (.ireturn, 1) := by decide +kernel
theorem dL_law_1146 : decode cL_law 1146 = .ok (.goto 631, 3) := by decide +kernel
theorem dL_law_1149 : decode cL_law 1149 = .ok (.aload_n 1, 1) := by decide +kernel
theorem dL_law_1150 : decode cL_law 1150 = .ok (.aload_n 0, 1) := by decide +kernel
theorem dL_law_1151 : decode cL_law 1151 = .ok (.iload 4, 2) := by decide +kernel
theorem dL_law_1153 : decode cL_law 1153 = .ok (.iconst 1, 1) := by decide +kernel
theorem dL_law_1154 : decode cL_law 1154 = .ok (.iadd, 1) := by decide +kernel
theorem dL_law_1155 : decode cL_law 1155 = .ok (.iaload, 1) := by decide +kernel
theorem dL_law_1156 : decode cL_law 1156 = .ok (.aload_n 3, 1) := by decide +kernel
theorem dL_law_1157 : decode cL_law 1157 = .ok (.invokestatic 158, 3) := by decide +kernel
theorem dL_law_1160 : decode cL_law 1160 = .ok (.istore 5, 2) := by decide +kernel
theorem dL_law_1162 : decode cL_law 1162 = .ok (.aload_n 2, 1) := by decide +kernel
theorem dL_law_1163 : decode cL_law 1163 = .ok (.aload_n 0, 1) := by decide +kernel
theorem dL_law_1164 : decode cL_law 1164 = .ok (.iload 4, 2) := by decide +kernel
theorem dL_law_1166 : decode cL_law 1166 = .ok (.iconst 1, 1) := by decide +kernel
theorem dL_law_1167 : decode cL_law 1167 = .ok (.iadd, 1) := by decide +kernel
theorem dL_law_1168 : decode cL_law 1168 = .ok (.iaload, 1) := by decide +kernel
theorem dL_law_1169 : decode cL_law 1169 = .ok (.invokevirtual 160, 3) := by decide +kernel
theorem dL_law_1172 : decode cL_law 1172 = .ok (.istore 6, 2) := by decide +kernel
theorem dL_law_1174 : decode cL_law 1174 = .ok (.aload_n 2, 1) := by decide +kernel
theorem dL_law_1175 : decode cL_law 1175 = .ok (.invokevirtual 101, 3) := by decide +kernel
theorem dL_law_1178 : decode cL_law 1178 = .ok (.iload 5, 2) := by decide +kernel
theorem dL_law_1180 : decode cL_law 1180 = .ok (.if_icmp .eq 5, 3) := by decide +kernel
theorem dL_law_1183 : decode cL_law 1183 = .ok (.iconst 0, 1) := by decide +kernel
theorem dL_law_1184 : decode cL_law 1184 = .ok (.ireturn, 1) := by decide +kernel
theorem dL_law_1185 : decode cL_law 1185 = .ok (.iload 5, 2) := by decide +kernel
theorem dL_law_1187 : decode cL_law 1187 = .ok (.ifCond .ne 15, 3) := by decide +kernel
theorem dL_law_1190 : decode cL_law 1190 = .ok (.aload_n 3, 1) := by decide +kernel
theorem dL_law_1191 : decode cL_law 1191 = .ok (.iconst 0, 1) := by decide +kernel
theorem dL_law_1192 : decode cL_law 1192 = .ok (.laload, 1) := by decide +kernel
theorem dL_law_1193 : decode cL_law 1193 = .ok (.iload 6, 2) := by decide +kernel
theorem dL_law_1195 : decode cL_law 1195 = .ok (.i2l, 1) := by decide +kernel
theorem dL_law_1196 : decode cL_law 1196 = .ok (.lcmp, 1) := by decide +kernel
theorem dL_law_1197 : decode cL_law 1197 = .ok (.ifCond .eq 5, 3) := by decide +kernel
theorem dL_law_1200 : decode cL_law 1200 = .ok (.iconst 0, 1) := by decide +kernel
theorem dL_law_1201 : decode cL_law 1201 = .ok (.ireturn, 1) := by decide +kernel
theorem dL_law_1202 : decode cL_law 1202 = .ok (.goto 575, 3) := by decide +kernel
theorem dL_law_1205 : decode cL_law 1205 = .ok (.aload_n 1, 1) := by decide +kernel
theorem dL_law_1206 : decode cL_law 1206 = .ok (.aload_n 0, 1) := by decide +kernel
theorem dL_law_1207 : decode cL_law 1207 = .ok (.iload 4, 2) := by decide +kernel
theorem dL_law_1209 : decode cL_law 1209 = .ok (.iconst 1, 1) := by decide +kernel
theorem dL_law_1210 : decode cL_law 1210 = .ok (.iadd, 1) := by decide +kernel
theorem dL_law_1211 : decode cL_law 1211 = .ok (.iaload, 1) := by decide +kernel
theorem dL_law_1212 : decode cL_law 1212 = .ok (.aload_n 3, 1) := by decide +kernel
theorem dL_law_1213 : decode cL_law 1213 = .ok (.invokestatic 161, 3) := by decide +kernel
theorem dL_law_1216 : decode cL_law 1216 = .ok (.istore 5, 2) := by decide +kernel
theorem dL_law_1218 : decode cL_law 1218 = .ok (.aload_n 2, 1) := by decide +kernel
theorem dL_law_1219 : decode cL_law 1219 = .ok (.aload_n 0, 1) := by decide +kernel
theorem dL_law_1220 : decode cL_law 1220 = .ok (.iload 4, 2) := by decide +kernel
theorem dL_law_1222 : decode cL_law 1222 = .ok (.iconst 1, 1) := by decide +kernel
theorem dL_law_1223 : decode cL_law 1223 = .ok (.iadd, 1) := by decide +kernel
theorem dL_law_1224 : decode cL_law 1224 = .ok (.iaload, 1) := by decide +kernel
theorem dL_law_1225 : decode cL_law 1225 = .ok (.invokevirtual 163, 3) := by decide +kernel
theorem dL_law_1228 : decode cL_law 1228 = .ok (.istore 6, 2) := by decide +kernel
theorem dL_law_1230 : decode cL_law 1230 = .ok (.aload_n 2, 1) := by decide +kernel
theorem dL_law_1231 : decode cL_law 1231 = .ok (.invokevirtual 101, 3) := by decide +kernel
theorem dL_law_1234 : decode cL_law 1234 = .ok (.iload 5, 2) := by decide +kernel
theorem dL_law_1236 : decode cL_law 1236 = .ok (.if_icmp .eq 5, 3) := by decide +kernel
theorem dL_law_1239 : decode cL_law 1239 = .ok (.iconst 0, 1) := by decide +kernel
theorem dL_law_1240 : decode cL_law 1240 = .ok (.ireturn, 1) := by decide +kernel
theorem dL_law_1241 : decode cL_law 1241 = .ok (.iload 5, 2) := by decide +kernel
theorem dL_law_1243 : decode cL_law 1243 = .ok (.ifCond .ne 15, 3) := by decide +kernel
theorem dL_law_1246 : decode cL_law 1246 = .ok (.aload_n 3, 1) := by decide +kernel
theorem dL_law_1247 : decode cL_law 1247 = .ok (.iconst 0, 1) := by decide +kernel
theorem dL_law_1248 : decode cL_law 1248 = .ok (.laload, 1) := by decide +kernel
theorem dL_law_1249 : decode cL_law 1249 = .ok (.iload 6, 2) := by decide +kernel
theorem dL_law_1251 : decode cL_law 1251 = .ok (.i2l, 1) := by decide +kernel
theorem dL_law_1252 : decode cL_law 1252 = .ok (.lcmp, 1) := by decide +kernel
theorem dL_law_1253 : decode cL_law 1253 = .ok (.ifCond .eq 5, 3) := by decide +kernel
theorem dL_law_1256 : decode cL_law 1256 = .ok (.iconst 0, 1) := by decide +kernel
theorem dL_law_1257 : decode cL_law 1257 = .ok (.ireturn, 1) := by decide +kernel
theorem dL_law_1258 : decode cL_law 1258 = .ok (.goto 519, 3) := by decide +kernel
theorem dL_law_1261 : decode cL_law 1261 = .ok (.aload_n 1, 1) := by decide +kernel
theorem dL_law_1262 : decode cL_law 1262 = .ok (.aload_n 0, 1) := by decide +kernel
theorem dL_law_1263 : decode cL_law 1263 = .ok (.iload 4, 2) := by decide +kernel
theorem dL_law_1265 : decode cL_law 1265 = .ok (.iconst 1, 1) := by decide +kernel
theorem dL_law_1266 : decode cL_law 1266 = .ok (.iadd, 1) := by decide +kernel
theorem dL_law_1267 : decode cL_law 1267 = .ok (.iaload, 1) := by decide +kernel
theorem dL_law_1268 : decode cL_law 1268 = .ok (.aload_n 3, 1) := by decide +kernel
theorem dL_law_1269 : decode cL_law 1269 = .ok (.invokestatic 164, 3) := by decide +kernel
theorem dL_law_1272 : decode cL_law 1272 = .ok (.istore 5, 2) := by decide +kernel
theorem dL_law_1274 : decode cL_law 1274 = .ok (.aload_n 2, 1) := by decide +kernel
theorem dL_law_1275 : decode cL_law 1275 = .ok (.aload_n 0, 1) := by decide +kernel
theorem dL_law_1276 : decode cL_law 1276 = .ok (.iload 4, 2) := by decide +kernel
theorem dL_law_1278 : decode cL_law 1278 = .ok (.iconst 1, 1) := by decide +kernel
theorem dL_law_1279 : decode cL_law 1279 = .ok (.iadd, 1) := by decide +kernel
theorem dL_law_1280 : decode cL_law 1280 = .ok (.iaload, 1) := by decide +kernel
theorem dL_law_1281 : decode cL_law 1281 = .ok (.invokevirtual 166, 3) := by decide +kernel
theorem dL_law_1284 : decode cL_law 1284 = .ok (.istore 6, 2) := by decide +kernel
theorem dL_law_1286 : decode cL_law 1286 = .ok (.aload_n 2, 1) := by decide +kernel
theorem dL_law_1287 : decode cL_law 1287 = .ok (.invokevirtual 101, 3) := by decide +kernel
theorem dL_law_1290 : decode cL_law 1290 = .ok (.iload 5, 2) := by decide +kernel
theorem dL_law_1292 : decode cL_law 1292 = .ok (.if_icmp .eq 5, 3) := by decide +kernel
theorem dL_law_1295 : decode cL_law 1295 = .ok (.iconst 0, 1) := by decide +kernel
theorem dL_law_1296 : decode cL_law 1296 = .ok (.ireturn, 1) := by decide +kernel
theorem dL_law_1297 : decode cL_law 1297 = .ok (.iload 5, 2) := by decide +kernel
theorem dL_law_1299 : decode cL_law 1299 = .ok (.ifCond .ne 15, 3) := by decide +kernel
theorem dL_law_1302 : decode cL_law 1302 = .ok (.aload_n 3, 1) := by decide +kernel
theorem dL_law_1303 : decode cL_law 1303 = .ok (.iconst 0, 1) := by decide +kernel
theorem dL_law_1304 : decode cL_law 1304 = .ok (.laload, 1) := by decide +kernel
theorem dL_law_1305 : decode cL_law 1305 = .ok (.iload 6, 2) := by decide +kernel
theorem dL_law_1307 : decode cL_law 1307 = .ok (.i2l, 1) := by decide +kernel
theorem dL_law_1308 : decode cL_law 1308 = .ok (.lcmp, 1) := by decide +kernel
theorem dL_law_1309 : decode cL_law 1309 = .ok (.ifCond .eq 5, 3) := by decide +kernel
theorem dL_law_1312 : decode cL_law 1312 = .ok (.iconst 0, 1) := by decide +kernel
theorem dL_law_1313 : decode cL_law 1313 = .ok (.ireturn, 1) := by decide +kernel
theorem dL_law_1314 : decode cL_law 1314 = .ok (.goto 463, 3) := by decide +kernel
theorem dL_law_1317 : decode cL_law 1317 = .ok (.aload_n 1, 1) := by decide +kernel
theorem dL_law_1318 : decode cL_law 1318 = .ok (.aload_n 0, 1) := by decide +kernel
theorem dL_law_1319 : decode cL_law 1319 = .ok (.iload 4, 2) := by decide +kernel
theorem dL_law_1321 : decode cL_law 1321 = .ok (.iconst 1, 1) := by decide +kernel
theorem dL_law_1322 : decode cL_law 1322 = .ok (.iadd, 1) := by decide +kernel
theorem dL_law_1323 : decode cL_law 1323 = .ok (.iaload, 1) := by decide +kernel
theorem dL_law_1324 : decode cL_law 1324 = .ok (.aload_n 0, 1) := by decide +kernel
theorem dL_law_1325 : decode cL_law 1325 = .ok (.iload 4, 2) := by decide +kernel
theorem dL_law_1327 : decode cL_law 1327 = .ok (.iconst 2, 1) := by decide +kernel
theorem dL_law_1328 : decode cL_law 1328 = .ok (.iadd, 1) := by decide +kernel
theorem dL_law_1329 : decode cL_law 1329 = .ok (.iaload, 1) := by decide +kernel
theorem dL_law_1330 : decode cL_law 1330 = .ok (.aload_n 0, 1) := by decide +kernel
theorem dL_law_1331 : decode cL_law 1331 = .ok (.iload 4, 2) := by decide +kernel
theorem dL_law_1333 : decode cL_law 1333 = .ok (.iconst 3, 1) := by decide +kernel
theorem dL_law_1334 : decode cL_law 1334 = .ok (.iadd, 1) := by decide +kernel
theorem dL_law_1335 : decode cL_law 1335 = .ok (.iaload, 1) := by decide +kernel
theorem dL_law_1336 : decode cL_law 1336 = .ok (.aload_n 3, 1) := by decide +kernel
theorem dL_law_1337 : decode cL_law 1337 = .ok (.invokestatic 167, 3) := by decide +kernel
theorem dL_law_1340 : decode cL_law 1340 = .ok (.istore 5, 2) := by decide +kernel
theorem dL_law_1342 : decode cL_law 1342 = .ok (.aload_n 2, 1) := by decide +kernel
theorem dL_law_1343 : decode cL_law 1343 = .ok (.aload_n 0, 1) := by decide +kernel
theorem dL_law_1344 : decode cL_law 1344 = .ok (.iload 4, 2) := by decide +kernel
theorem dL_law_1346 : decode cL_law 1346 = .ok (.iconst 1, 1) := by decide +kernel
theorem dL_law_1347 : decode cL_law 1347 = .ok (.iadd, 1) := by decide +kernel
theorem dL_law_1348 : decode cL_law 1348 = .ok (.iaload, 1) := by decide +kernel
theorem dL_law_1349 : decode cL_law 1349 = .ok (.aload_n 0, 1) := by decide +kernel
theorem dL_law_1350 : decode cL_law 1350 = .ok (.iload 4, 2) := by decide +kernel
theorem dL_law_1352 : decode cL_law 1352 = .ok (.iconst 2, 1) := by decide +kernel
theorem dL_law_1353 : decode cL_law 1353 = .ok (.iadd, 1) := by decide +kernel
theorem dL_law_1354 : decode cL_law 1354 = .ok (.iaload, 1) := by decide +kernel
theorem dL_law_1355 : decode cL_law 1355 = .ok (.aload_n 0, 1) := by decide +kernel
theorem dL_law_1356 : decode cL_law 1356 = .ok (.iload 4, 2) := by decide +kernel
theorem dL_law_1358 : decode cL_law 1358 = .ok (.iconst 3, 1) := by decide +kernel
theorem dL_law_1359 : decode cL_law 1359 = .ok (.iadd, 1) := by decide +kernel
theorem dL_law_1360 : decode cL_law 1360 = .ok (.iaload, 1) := by decide +kernel
theorem dL_law_1361 : decode cL_law 1361 = .ok (.invokevirtual 170, 3) := by decide +kernel
theorem dL_law_1364 : decode cL_law 1364 = .ok (.istore 6, 2) := by decide +kernel
theorem dL_law_1366 : decode cL_law 1366 = .ok (.aload_n 2, 1) := by decide +kernel
theorem dL_law_1367 : decode cL_law 1367 = .ok (.invokevirtual 101, 3) := by decide +kernel
theorem dL_law_1370 : decode cL_law 1370 = .ok (.iload 5, 2) := by decide +kernel
theorem dL_law_1372 : decode cL_law 1372 = .ok (.if_icmp .eq 5, 3) := by decide +kernel
theorem dL_law_1375 : decode cL_law 1375 = .ok (.iconst 0, 1) := by decide +kernel
theorem dL_law_1376 : decode cL_law 1376 = .ok (.ireturn, 1) := by decide +kernel
theorem dL_law_1377 : decode cL_law 1377 = .ok (.iload 5, 2) := by decide +kernel
theorem dL_law_1379 : decode cL_law 1379 = .ok (.ifCond .ne 15, 3) := by decide +kernel
theorem dL_law_1382 : decode cL_law 1382 = .ok (.aload_n 3, 1) := by decide +kernel
theorem dL_law_1383 : decode cL_law 1383 = .ok (.iconst 0, 1) := by decide +kernel
theorem dL_law_1384 : decode cL_law 1384 = .ok (.laload, 1) := by decide +kernel
theorem dL_law_1385 : decode cL_law 1385 = .ok (.iload 6, 2) := by decide +kernel
theorem dL_law_1387 : decode cL_law 1387 = .ok (.i2l, 1) := by decide +kernel
theorem dL_law_1388 : decode cL_law 1388 = .ok (.lcmp, 1) := by decide +kernel
theorem dL_law_1389 : decode cL_law 1389 = .ok (.ifCond .eq 5, 3) := by decide +kernel
theorem dL_law_1392 : decode cL_law 1392 = .ok (.iconst 0, 1) := by decide +kernel
theorem dL_law_1393 : decode cL_law 1393 = .ok (.ireturn, 1) := by decide +kernel
theorem dL_law_1394 : decode cL_law 1394 = .ok (.goto 383, 3) := by decide +kernel
theorem dL_law_1397 : decode cL_law 1397 = .ok (.aload_n 1, 1) := by decide +kernel
theorem dL_law_1398 : decode cL_law 1398 = .ok (.invokevirtual 171, 3) := by decide +kernel
theorem dL_law_1401 : decode cL_law 1401 = .ok (.aload_n 2, 1) := by decide +kernel
theorem dL_law_1402 : decode cL_law 1402 = .ok (.invokevirtual 174, 3) := by decide +kernel
theorem dL_law_1405 : decode cL_law 1405 = .ok (.if_icmp .eq 372, 3) := by decide +kernel
theorem dL_law_1408 : decode cL_law 1408 = .ok (.iconst 0, 1) := by decide +kernel
theorem dL_law_1409 : decode cL_law 1409 = .ok (.ireturn, 1) := by decide +kernel
theorem dL_law_1410 : decode cL_law 1410 = .ok (.aload_n 1, 1) := by decide +kernel
theorem dL_law_1411 : decode cL_law 1411 = .ok (.aload_n 0, 1) := by decide +kernel
theorem dL_law_1412 : decode cL_law 1412 = .ok (.iload 4, 2) := by decide +kernel
theorem dL_law_1414 : decode cL_law 1414 = .ok (.iconst 1, 1) := by decide +kernel
theorem dL_law_1415 : decode cL_law 1415 = .ok (.iadd, 1) := by decide +kernel
theorem dL_law_1416 : decode cL_law 1416 = .ok (.iaload, 1) := by decide +kernel
theorem dL_law_1417 : decode cL_law 1417 = .ok (.aload_n 0, 1) := by decide +kernel
theorem dL_law_1418 : decode cL_law 1418 = .ok (.iload 4, 2) := by decide +kernel
theorem dL_law_1420 : decode cL_law 1420 = .ok (.iconst 2, 1) := by decide +kernel
theorem dL_law_1421 : decode cL_law 1421 = .ok (.iadd, 1) := by decide +kernel
theorem dL_law_1422 : decode cL_law 1422 = .ok (.iaload, 1) := by decide +kernel
theorem dL_law_1423 : decode cL_law 1423 = .ok (.aload_n 3, 1) := by decide +kernel
theorem dL_law_1424 : decode cL_law 1424 = .ok (.invokestatic 175, 3) := by decide +kernel
theorem dL_law_1427 : decode cL_law 1427 = .ok (.istore 5, 2) := by decide +kernel
theorem dL_law_1429 : decode cL_law 1429 = .ok (.aload_n 2, 1) := by decide +kernel
theorem dL_law_1430 : decode cL_law 1430 = .ok (.aload_n 0, 1) := by decide +kernel
theorem dL_law_1431 : decode cL_law 1431 = .ok (.iload 4, 2) := by decide +kernel
theorem dL_law_1433 : decode cL_law 1433 = .ok (.iconst 1, 1) := by decide +kernel
theorem dL_law_1434 : decode cL_law 1434 = .ok (.iadd, 1) := by decide +kernel
theorem dL_law_1435 : decode cL_law 1435 = .ok (.iaload, 1) := by decide +kernel
theorem dL_law_1436 : decode cL_law 1436 = .ok (.aload_n 0, 1) := by decide +kernel
theorem dL_law_1437 : decode cL_law 1437 = .ok (.iload 4, 2) := by decide +kernel
theorem dL_law_1439 : decode cL_law 1439 = .ok (.iconst 2, 1) := by decide +kernel
theorem dL_law_1440 : decode cL_law 1440 = .ok (.iadd, 1) := by decide +kernel
theorem dL_law_1441 : decode cL_law 1441 = .ok (.iaload, 1) := by decide +kernel
theorem dL_law_1442 : decode cL_law 1442 = .ok (.invokevirtual 177, 3) := by decide +kernel
theorem dL_law_1445 : decode cL_law 1445 = .ok (.istore 6, 2) := by decide +kernel
theorem dL_law_1447 : decode cL_law 1447 = .ok (.aload_n 2, 1) := by decide +kernel
theorem dL_law_1448 : decode cL_law 1448 = .ok (.invokevirtual 101, 3) := by decide +kernel
theorem dL_law_1451 : decode cL_law 1451 = .ok (.iload 5, 2) := by decide +kernel
theorem dL_law_1453 : decode cL_law 1453 = .ok (.if_icmp .eq 5, 3) := by decide +kernel
theorem dL_law_1456 : decode cL_law 1456 = .ok (.iconst 0, 1) := by decide +kernel
theorem dL_law_1457 : decode cL_law 1457 = .ok (.ireturn, 1) := by decide +kernel
theorem dL_law_1458 : decode cL_law 1458 = .ok (.iload 5, 2) := by decide +kernel
theorem dL_law_1460 : decode cL_law 1460 = .ok (.ifCond .ne 15, 3) := by decide +kernel
theorem dL_law_1463 : decode cL_law 1463 = .ok (.aload_n 3, 1) := by decide +kernel
theorem dL_law_1464 : decode cL_law 1464 = .ok (.iconst 0, 1) := by decide +kernel
theorem dL_law_1465 : decode cL_law 1465 = .ok (.laload, 1) := by decide +kernel
theorem dL_law_1466 : decode cL_law 1466 = .ok (.iload 6, 2) := by decide +kernel
theorem dL_law_1468 : decode cL_law 1468 = .ok (.i2l, 1) := by decide +kernel
theorem dL_law_1469 : decode cL_law 1469 = .ok (.lcmp, 1) := by decide +kernel
theorem dL_law_1470 : decode cL_law 1470 = .ok (.ifCond .eq 5, 3) := by decide +kernel
theorem dL_law_1473 : decode cL_law 1473 = .ok (.iconst 0, 1) := by decide +kernel
theorem dL_law_1474 : decode cL_law 1474 = .ok (.ireturn, 1) := by decide +kernel
theorem dL_law_1475 : decode cL_law 1475 = .ok (.goto 302, 3) := by decide +kernel
theorem dL_law_1478 : decode cL_law 1478 = .ok (.aload_n 1, 1) := by decide +kernel
theorem dL_law_1479 : decode cL_law 1479 = .ok (.aload_n 0, 1) := by decide +kernel
theorem dL_law_1480 : decode cL_law 1480 = .ok (.iload 4, 2) := by decide +kernel
theorem dL_law_1482 : decode cL_law 1482 = .ok (.iconst 1, 1) := by decide +kernel
theorem dL_law_1483 : decode cL_law 1483 = .ok (.iadd, 1) := by decide +kernel
theorem dL_law_1484 : decode cL_law 1484 = .ok (.iaload, 1) := by decide +kernel
theorem dL_law_1485 : decode cL_law 1485 = .ok (.aload_n 0, 1) := by decide +kernel
theorem dL_law_1486 : decode cL_law 1486 = .ok (.iload 4, 2) := by decide +kernel
theorem dL_law_1488 : decode cL_law 1488 = .ok (.iconst 2, 1) := by decide +kernel
theorem dL_law_1489 : decode cL_law 1489 = .ok (.iadd, 1) := by decide +kernel
theorem dL_law_1490 : decode cL_law 1490 = .ok (.iaload, 1) := by decide +kernel
theorem dL_law_1491 : decode cL_law 1491 = .ok (.aload_n 3, 1) := by decide +kernel
theorem dL_law_1492 : decode cL_law 1492 = .ok (.invokestatic 178, 3) := by decide +kernel
theorem dL_law_1495 : decode cL_law 1495 = .ok (.istore 5, 2) := by decide +kernel
theorem dL_law_1497 : decode cL_law 1497 = .ok (.aload_n 2, 1) := by decide +kernel
theorem dL_law_1498 : decode cL_law 1498 = .ok (.aload_n 0, 1) := by decide +kernel
theorem dL_law_1499 : decode cL_law 1499 = .ok (.iload 4, 2) := by decide +kernel
theorem dL_law_1501 : decode cL_law 1501 = .ok (.iconst 1, 1) := by decide +kernel
theorem dL_law_1502 : decode cL_law 1502 = .ok (.iadd, 1) := by decide +kernel
theorem dL_law_1503 : decode cL_law 1503 = .ok (.iaload, 1) := by decide +kernel
theorem dL_law_1504 : decode cL_law 1504 = .ok (.aload_n 0, 1) := by decide +kernel
theorem dL_law_1505 : decode cL_law 1505 = .ok (.iload 4, 2) := by decide +kernel
theorem dL_law_1507 : decode cL_law 1507 = .ok (.iconst 2, 1) := by decide +kernel
theorem dL_law_1508 : decode cL_law 1508 = .ok (.iadd, 1) := by decide +kernel
theorem dL_law_1509 : decode cL_law 1509 = .ok (.iaload, 1) := by decide +kernel
theorem dL_law_1510 : decode cL_law 1510 = .ok (.invokevirtual 180, 3) := by decide +kernel
theorem dL_law_1513 : decode cL_law 1513 = .ok (.istore 6, 2) := by decide +kernel
theorem dL_law_1515 : decode cL_law 1515 = .ok (.aload_n 2, 1) := by decide +kernel
theorem dL_law_1516 : decode cL_law 1516 = .ok (.invokevirtual 101, 3) := by decide +kernel
theorem dL_law_1519 : decode cL_law 1519 = .ok (.iload 5, 2) := by decide +kernel
theorem dL_law_1521 : decode cL_law 1521 = .ok (.if_icmp .eq 5, 3) := by decide +kernel
theorem dL_law_1524 : decode cL_law 1524 = .ok (.iconst 0, 1) := by decide +kernel
theorem dL_law_1525 : decode cL_law 1525 = .ok (.ireturn, 1) := by decide +kernel
theorem dL_law_1526 : decode cL_law 1526 = .ok (.iload 5, 2) := by decide +kernel
theorem dL_law_1528 : decode cL_law 1528 = .ok (.ifCond .ne 15, 3) := by decide +kernel
theorem dL_law_1531 : decode cL_law 1531 = .ok (.aload_n 3, 1) := by decide +kernel
theorem dL_law_1532 : decode cL_law 1532 = .ok (.iconst 0, 1) := by decide +kernel
theorem dL_law_1533 : decode cL_law 1533 = .ok (.laload, 1) := by decide +kernel
theorem dL_law_1534 : decode cL_law 1534 = .ok (.iload 6, 2) := by decide +kernel
theorem dL_law_1536 : decode cL_law 1536 = .ok (.i2l, 1) := by decide +kernel
theorem dL_law_1537 : decode cL_law 1537 = .ok (.lcmp, 1) := by decide +kernel
theorem dL_law_1538 : decode cL_law 1538 = .ok (.ifCond .eq 5, 3) := by decide +kernel
theorem dL_law_1541 : decode cL_law 1541 = .ok (.iconst 0, 1) := by decide +kernel
theorem dL_law_1542 : decode cL_law 1542 = .ok (.ireturn, 1) := by decide +kernel
theorem dL_law_1543 : decode cL_law 1543 = .ok (.goto 234, 3) := by decide +kernel
theorem dL_law_1546 : decode cL_law 1546 = .ok (.aload_n 1, 1) := by decide +kernel
theorem dL_law_1547 : decode cL_law 1547 = .ok (.invokevirtual 181, 3) := by decide +kernel
theorem dL_law_1550 : decode cL_law 1550 = .ok (.aload_n 2, 1) := by decide +kernel
theorem dL_law_1551 : decode cL_law 1551 = .ok (.invokevirtual 184, 3) := by decide +kernel
theorem dL_law_1554 : decode cL_law 1554 = .ok (.if_icmp .eq 223, 3) := by decide +kernel
theorem dL_law_1557 : decode cL_law 1557 = .ok (.iconst 0, 1) := by decide +kernel
theorem dL_law_1558 : decode cL_law 1558 = .ok (.ireturn, 1) := by decide +kernel
theorem dL_law_1559 : decode cL_law 1559 = .ok (.aload_n 1, 1) := by decide +kernel
theorem dL_law_1560 : decode cL_law 1560 = .ok (.invokevirtual 185, 3) := by decide +kernel
theorem dL_law_1563 : decode cL_law 1563 = .ok (.aload_n 2, 1) := by decide +kernel
theorem dL_law_1564 : decode cL_law 1564 = .ok (.invokevirtual 188, 3) := by decide +kernel
theorem dL_law_1567 : decode cL_law 1567 = .ok (.if_icmp .eq 210, 3) := by decide +kernel
theorem dL_law_1570 : decode cL_law 1570 = .ok (.iconst 0, 1) := by decide +kernel
theorem dL_law_1571 : decode cL_law 1571 = .ok (.ireturn, 1) := by decide +kernel
theorem dL_law_1572 : decode cL_law 1572 = .ok (.aload_n 1, 1) := by decide +kernel
theorem dL_law_1573 : decode cL_law 1573 = .ok (.invokevirtual 189, 3) := by decide +kernel
theorem dL_law_1576 : decode cL_law 1576 = .ok (.aload_n 2, 1) := by decide +kernel
theorem dL_law_1577 : decode cL_law 1577 = .ok (.invokevirtual 192, 3) := by decide +kernel
theorem dL_law_1580 : decode cL_law 1580 = .ok (.if_icmp .eq 197, 3) := by decide +kernel
theorem dL_law_1583 : decode cL_law 1583 = .ok (.iconst 0, 1) := by decide +kernel
theorem dL_law_1584 : decode cL_law 1584 = .ok (.ireturn, 1) := by decide +kernel
theorem dL_law_1585 : decode cL_law 1585 = .ok (.aload_n 1, 1) := by decide +kernel
theorem dL_law_1586 : decode cL_law 1586 = .ok (.aload_n 0, 1) := by decide +kernel
theorem dL_law_1587 : decode cL_law 1587 = .ok (.iload 4, 2) := by decide +kernel
theorem dL_law_1589 : decode cL_law 1589 = .ok (.iconst 1, 1) := by decide +kernel
theorem dL_law_1590 : decode cL_law 1590 = .ok (.iadd, 1) := by decide +kernel
theorem dL_law_1591 : decode cL_law 1591 = .ok (.iaload, 1) := by decide +kernel
theorem dL_law_1592 : decode cL_law 1592 = .ok (.aload_n 3, 1) := by decide +kernel
theorem dL_law_1593 : decode cL_law 1593 = .ok (.invokestatic 193, 3) := by decide +kernel
theorem dL_law_1596 : decode cL_law 1596 = .ok (.istore 5, 2) := by decide +kernel
theorem dL_law_1598 : decode cL_law 1598 = .ok (.aload_n 2, 1) := by decide +kernel
theorem dL_law_1599 : decode cL_law 1599 = .ok (.aload_n 0, 1) := by decide +kernel
theorem dL_law_1600 : decode cL_law 1600 = .ok (.iload 4, 2) := by decide +kernel
theorem dL_law_1602 : decode cL_law 1602 = .ok (.iconst 1, 1) := by decide +kernel
theorem dL_law_1603 : decode cL_law 1603 = .ok (.iadd, 1) := by decide +kernel
theorem dL_law_1604 : decode cL_law 1604 = .ok (.iaload, 1) := by decide +kernel
theorem dL_law_1605 : decode cL_law 1605 = .ok (.invokevirtual 195, 3) := by decide +kernel
theorem dL_law_1608 : decode cL_law 1608 = .ok (.istore 6, 2) := by decide +kernel
theorem dL_law_1610 : decode cL_law 1610 = .ok (.aload_n 2, 1) := by decide +kernel
theorem dL_law_1611 : decode cL_law 1611 = .ok (.invokevirtual 101, 3) := by decide +kernel
theorem dL_law_1614 : decode cL_law 1614 = .ok (.iload 5, 2) := by decide +kernel
theorem dL_law_1616 : decode cL_law 1616 = .ok (.if_icmp .eq 5, 3) := by decide +kernel
theorem dL_law_1619 : decode cL_law 1619 = .ok (.iconst 0, 1) := by decide +kernel
theorem dL_law_1620 : decode cL_law 1620 = .ok (.ireturn, 1) := by decide +kernel
theorem dL_law_1621 : decode cL_law 1621 = .ok (.iload 5, 2) := by decide +kernel
theorem dL_law_1623 : decode cL_law 1623 = .ok (.ifCond .ne 15, 3) := by decide +kernel
theorem dL_law_1626 : decode cL_law 1626 = .ok (.aload_n 3, 1) := by decide +kernel
theorem dL_law_1627 : decode cL_law 1627 = .ok (.iconst 0, 1) := by decide +kernel
theorem dL_law_1628 : decode cL_law 1628 = .ok (.laload, 1) := by decide +kernel
theorem dL_law_1629 : decode cL_law 1629 = .ok (.iload 6, 2) := by decide +kernel
theorem dL_law_1631 : decode cL_law 1631 = .ok (.i2l, 1) := by decide +kernel
theorem dL_law_1632 : decode cL_law 1632 = .ok (.lcmp, 1) := by decide +kernel
theorem dL_law_1633 : decode cL_law 1633 = .ok (.ifCond .eq 5, 3) := by decide +kernel
theorem dL_law_1636 : decode cL_law 1636 = .ok (.iconst 0, 1) := by decide +kernel
theorem dL_law_1637 : decode cL_law 1637 = .ok (.ireturn, 1) := by decide +kernel
theorem dL_law_1638 : decode cL_law 1638 = .ok (.goto 139, 3) := by decide +kernel
theorem dL_law_1641 : decode cL_law 1641 = .ok (.aload_n 1, 1) := by decide +kernel
theorem dL_law_1642 : decode cL_law 1642 = .ok (.invokevirtual 196, 3) := by decide +kernel
theorem dL_law_1645 : decode cL_law 1645 = .ok (.aload_n 2, 1) := by decide +kernel
theorem dL_law_1646 : decode cL_law 1646 = .ok (.invokevirtual 199, 3) := by decide +kernel
theorem dL_law_1649 : decode cL_law 1649 = .ok (.if_icmp .eq 128, 3) := by decide +kernel
theorem dL_law_1652 : decode cL_law 1652 = .ok (.iconst 0, 1) := by decide +kernel
theorem dL_law_1653 : decode cL_law 1653 = .ok (.ireturn, 1) := by decide +kernel
theorem dL_law_1654 : decode cL_law 1654 = .ok (.aload_n 1, 1) := by decide +kernel
theorem dL_law_1655 : decode cL_law 1655 = .ok (.aload_n 0, 1) := by decide +kernel
theorem dL_law_1656 : decode cL_law 1656 = .ok (.iload 4, 2) := by decide +kernel
theorem dL_law_1658 : decode cL_law 1658 = .ok (.iconst 1, 1) := by decide +kernel
theorem dL_law_1659 : decode cL_law 1659 = .ok (.iadd, 1) := by decide +kernel
theorem dL_law_1660 : decode cL_law 1660 = .ok (.iaload, 1) := by decide +kernel
theorem dL_law_1661 : decode cL_law 1661 = .ok (.aload_n 3, 1) := by decide +kernel
theorem dL_law_1662 : decode cL_law 1662 = .ok (.invokestatic 200, 3) := by decide +kernel
theorem dL_law_1665 : decode cL_law 1665 = .ok (.istore 5, 2) := by decide +kernel
theorem dL_law_1667 : decode cL_law 1667 = .ok (.aload_n 2, 1) := by decide +kernel
theorem dL_law_1668 : decode cL_law 1668 = .ok (.aload_n 0, 1) := by decide +kernel
theorem dL_law_1669 : decode cL_law 1669 = .ok (.iload 4, 2) := by decide +kernel
theorem dL_law_1671 : decode cL_law 1671 = .ok (.iconst 1, 1) := by decide +kernel
theorem dL_law_1672 : decode cL_law 1672 = .ok (.iadd, 1) := by decide +kernel
theorem dL_law_1673 : decode cL_law 1673 = .ok (.iaload, 1) := by decide +kernel
theorem dL_law_1674 : decode cL_law 1674 = .ok (.invokevirtual 202, 3) := by decide +kernel
theorem dL_law_1677 : decode cL_law 1677 = .ok (.istore 6, 2) := by decide +kernel
theorem dL_law_1679 : decode cL_law 1679 = .ok (.aload_n 2, 1) := by decide +kernel
theorem dL_law_1680 : decode cL_law 1680 = .ok (.invokevirtual 101, 3) := by decide +kernel
theorem dL_law_1683 : decode cL_law 1683 = .ok (.iload 5, 2) := by decide +kernel
theorem dL_law_1685 : decode cL_law 1685 = .ok (.if_icmp .eq 5, 3) := by decide +kernel
theorem dL_law_1688 : decode cL_law 1688 = .ok (.iconst 0, 1) := by decide +kernel
theorem dL_law_1689 : decode cL_law 1689 = .ok (.ireturn, 1) := by decide +kernel
theorem dL_law_1690 : decode cL_law 1690 = .ok (.iload 5, 2) := by decide +kernel
theorem dL_law_1692 : decode cL_law 1692 = .ok (.ifCond .ne 15, 3) := by decide +kernel
theorem dL_law_1695 : decode cL_law 1695 = .ok (.aload_n 3, 1) := by decide +kernel
theorem dL_law_1696 : decode cL_law 1696 = .ok (.iconst 0, 1) := by decide +kernel
theorem dL_law_1697 : decode cL_law 1697 = .ok (.laload, 1) := by decide +kernel
theorem dL_law_1698 : decode cL_law 1698 = .ok (.iload 6, 2) := by decide +kernel
theorem dL_law_1700 : decode cL_law 1700 = .ok (.i2l, 1) := by decide +kernel
theorem dL_law_1701 : decode cL_law 1701 = .ok (.lcmp, 1) := by decide +kernel
theorem dL_law_1702 : decode cL_law 1702 = .ok (.ifCond .eq 5, 3) := by decide +kernel
theorem dL_law_1705 : decode cL_law 1705 = .ok (.iconst 0, 1) := by decide +kernel
theorem dL_law_1706 : decode cL_law 1706 = .ok (.ireturn, 1) := by decide +kernel
theorem dL_law_1707 : decode cL_law 1707 = .ok (.goto 70, 3) := by decide +kernel
theorem dL_law_1710 : decode cL_law 1710 = .ok (.aload_n 1, 1) := by decide +kernel
theorem dL_law_1711 : decode cL_law 1711 = .ok (.invokevirtual 203, 3) := by decide +kernel
theorem dL_law_1714 : decode cL_law 1714 = .ok (.dstore 5, 2) := by decide +kernel
theorem dL_law_1716 : decode cL_law 1716 = .ok (.aload_n 2, 1) := by decide +kernel
theorem dL_law_1717 : decode cL_law 1717 = .ok (.invokevirtual 207, 3) := by decide +kernel
theorem dL_law_1720 : decode cL_law 1720 = .ok (.dstore 7, 2) := by decide +kernel
theorem dL_law_1722 : decode cL_law 1722 = .ok (.dload 5, 2) := by decide +kernel
theorem dL_law_1724 : decode cL_law 1724 = .ok (.dload 7, 2) := by decide +kernel
theorem dL_law_1726 : decode cL_law 1726 = .ok (.dcmp .l, 1) := by decide +kernel
theorem dL_law_1727 : decode cL_law 1727 = .ok (.ifCond .eq 21, 3) := by decide +kernel
theorem dL_law_1730 : decode cL_law 1730 = .ok (.dload 5, 2) := by decide +kernel
theorem dL_law_1732 : decode cL_law 1732 = .ok (.dload 5, 2) := by decide +kernel
theorem dL_law_1734 : decode cL_law 1734 = .ok (.dcmp .l, 1) := by decide +kernel
theorem dL_law_1735 : decode cL_law 1735 = .ok (.ifCond .eq 11, 3) := by decide +kernel
theorem dL_law_1738 : decode cL_law 1738 = .ok (.dload 7, 2) := by decide +kernel
theorem dL_law_1740 : decode cL_law 1740 = .ok (.dload 7, 2) := by decide +kernel
theorem dL_law_1742 : decode cL_law 1742 = .ok (.dcmp .l, 1) := by decide +kernel
theorem dL_law_1743 : decode cL_law 1743 = .ok (.ifCond .ne 5, 3) := by decide +kernel
theorem dL_law_1746 : decode cL_law 1746 = .ok (.iconst 0, 1) := by decide +kernel
theorem dL_law_1747 : decode cL_law 1747 = .ok (.ireturn, 1) := by decide +kernel
theorem dL_law_1748 : decode cL_law 1748 = .ok (.goto 29, 3) := by decide +kernel
theorem dL_law_1751 : decode cL_law 1751 = .ok (.aload_n 1, 1) := by decide +kernel
theorem dL_law_1752 : decode cL_law 1752 = .ok (.invokevirtual 208, 3) := by decide +kernel
theorem dL_law_1755 : decode cL_law 1755 = .ok (.aload_n 2, 1) := by decide +kernel
theorem dL_law_1756 : decode cL_law 1756 = .ok (.invokevirtual 211, 3) := by decide +kernel
theorem dL_law_1759 : decode cL_law 1759 = .ok (.if_icmp .eq 18, 3) := by decide +kernel
theorem dL_law_1762 : decode cL_law 1762 = .ok (.iconst 0, 1) := by decide +kernel
theorem dL_law_1763 : decode cL_law 1763 = .ok (.ireturn, 1) := by decide +kernel
theorem dL_law_1764 : decode cL_law 1764 = .ok (.aload_n 1, 1) := by decide +kernel
theorem dL_law_1765 : decode cL_law 1765 = .ok (.invokevirtual 212, 3) := by decide +kernel
theorem dL_law_1768 : decode cL_law 1768 = .ok (.aload_n 2, 1) := by decide +kernel
theorem dL_law_1769 : decode cL_law 1769 = .ok (.invokevirtual 215, 3) := by decide +kernel
theorem dL_law_1772 : decode cL_law 1772 = .ok (.if_icmp .eq 5, 3) := by decide +kernel
theorem dL_law_1775 : decode cL_law 1775 = .ok (.iconst 0, 1) := by decide +kernel
theorem dL_law_1776 : decode cL_law 1776 = .ok (.ireturn, 1) := by decide +kernel
theorem dL_law_1777 : decode cL_law 1777 = .ok (.iinc 4 4, 3) := by decide +kernel
theorem dL_law_1780 : decode cL_law 1780 = .ok (.goto (-1757), 3) := by decide +kernel
theorem dL_law_1783 : decode cL_law 1783 = .ok (.iconst 1, 1) := by decide +kernel
theorem dL_law_1784 : decode cL_law 1784 = .ok (.ireturn, 1) := by decide +kernel
end
section
/-- the good words of the tables -/
def BW : List Cond := lw_tbl.filter goodWord
theorem BW_good : ∀ w ∈ BW, goodWord w = true := fun _ h => (List.mem_filter.mp h).2
theorem BW_tbl : ∀ w ∈ BW, w ∈ lw_tbl := fun _ h => (List.mem_filter.mp h).1
theorem bw_of {w : Cond} (i : Nat) (h : lw_tbl[i]? = some w) (g : goodWord w = true) : w ∈ BW := List.mem_filter.mpr ⟨List.mem_of_getElem? h, g⟩
theorem bw_0 : (Cond.classLink RL 8 RX4 : Cond) ∈ BW := bw_of 97 (by decide +kernel) (by decide +kernel)
theorem bw_1 : (Cond.instantiable RX4 4 : Cond) ∈ BW := bw_of 98 (by decide +kernel) (by decide +kernel)
theorem bw_2 : (Cond.initialized RX4 : Cond) ∈ BW := bw_of 83 (by decide +kernel) (by decide +kernel)
theorem bw_3 : (Cond.classLink RL 92 RX5 : Cond) ∈ BW := bw_of 832 (by decide +kernel) (by decide +kernel)
theorem bw_4 : (Cond.instantiable RX5 9 : Cond) ∈ BW := bw_of 833 (by decide +kernel) (by decide +kernel)
theorem bw_5 : (Cond.initialized RX5 : Cond) ∈ BW := bw_of 88 (by decide +kernel) (by decide +kernel)
theorem bw_6 : (Cond.arrayClass .long : Cond) ∈ BW := bw_of 1148 (by decide +kernel) (by decide +kernel)
theorem bw_7 : (Cond.methodLink RL 91 yX4_init : Cond) ∈ BW := bw_of 99 (by decide +kernel) (by decide +kernel)
theorem bw_8 : (Cond.instanceMethod yX4_init : Cond) ∈ BW := bw_of 100 (by decide +kernel) (by decide +kernel)
theorem bw_9 : (Cond.code yX4_init cX4_init 1 none : Cond) ∈ BW := bw_of 101 (by decide +kernel) (by decide +kernel)
theorem bw_10 : (Cond.methodLink RX4 1 objectInit : Cond) ∈ BW := bw_of 102 (by decide +kernel) (by decide +kernel)
theorem bw_11 : (Cond.instanceMethod objectInit : Cond) ∈ BW := bw_of 103 (by decide +kernel) (by decide +kernel)
theorem bw_12 : (Cond.code objectInit ⟨#[0xb1]⟩ 1 none : Cond) ∈ BW := bw_of 104 (by decide +kernel) (by decide +kernel)
theorem bw_13 : (Cond.classLink RX4 7 RX2 : Cond) ∈ BW := bw_of 105 (by decide +kernel) (by decide +kernel)
theorem bw_14 : (Cond.instantiable RX2 15 : Cond) ∈ BW := bw_of 106 (by decide +kernel) (by decide +kernel)
theorem bw_15 : (Cond.initialized RX2 : Cond) ∈ BW := bw_of 84 (by decide +kernel) (by decide +kernel)
theorem bw_16 : (Cond.fieldLink RX4 10 "MeterNetwork" "state" "LMeterNetwork$State;" : Cond) ∈ BW := bw_of 259 (by decide +kernel) (by decide +kernel)
theorem bw_17 : (Cond.fieldLink RX4 16 "MeterNetwork" "trial" "LMeterNetwork$State;" : Cond) ∈ BW := bw_of 260 (by decide +kernel) (by decide +kernel)
theorem bw_18 : (Cond.classLink RX4 19 RX0 : Cond) ∈ BW := bw_of 205 (by decide +kernel) (by decide +kernel)
theorem bw_19 : (Cond.instantiable RX0 3 : Cond) ∈ BW := bw_of 206 (by decide +kernel) (by decide +kernel)
theorem bw_20 : (Cond.initialized RX0 : Cond) ∈ BW := bw_of 86 (by decide +kernel) (by decide +kernel)
theorem bw_21 : (Cond.fieldLink RX4 22 "MeterNetwork" "history" "LMeterNetwork$History;" : Cond) ∈ BW := bw_of 261 (by decide +kernel) (by decide +kernel)
theorem bw_22 : (Cond.classLink RX4 26 RX3 : Cond) ∈ BW := bw_of 224 (by decide +kernel) (by decide +kernel)
theorem bw_23 : (Cond.instantiable RX3 7 : Cond) ∈ BW := bw_of 225 (by decide +kernel) (by decide +kernel)
theorem bw_24 : (Cond.initialized RX3 : Cond) ∈ BW := bw_of 87 (by decide +kernel) (by decide +kernel)
theorem bw_25 : (Cond.fieldLink RX4 29 "MeterNetwork" "text" "LMeterNetwork$TextBuffer;" : Cond) ∈ BW := bw_of 262 (by decide +kernel) (by decide +kernel)
theorem bw_26 : (Cond.instanceMethod yX2_init : Cond) ∈ BW := bw_of 108 (by decide +kernel) (by decide +kernel)
theorem bw_27 : (Cond.code yX2_init cX2_init 2 none : Cond) ∈ BW := bw_of 109 (by decide +kernel) (by decide +kernel)
theorem bw_28 : (Cond.methodLink RX2 3 objectInit : Cond) ∈ BW := bw_of 110 (by decide +kernel) (by decide +kernel)
theorem bw_29 : (Cond.arrayClass .boolean : Cond) ∈ BW := bw_of 144 (by decide +kernel) (by decide +kernel)
theorem bw_30 : (Cond.fieldLink RX2 9 "MeterNetwork$State" "linked" "[Z" : Cond) ∈ BW := bw_of 146 (by decide +kernel) (by decide +kernel)
theorem bw_31 : (Cond.fieldLink RX2 15 "MeterNetwork$State" "on" "[Z" : Cond) ∈ BW := bw_of 147 (by decide +kernel) (by decide +kernel)
theorem bw_32 : (Cond.arrayClass .int : Cond) ∈ BW := bw_of 145 (by decide +kernel) (by decide +kernel)
theorem bw_33 : (Cond.fieldLink RX2 18 "MeterNetwork$State" "parents" "[I" : Cond) ∈ BW := bw_of 148 (by decide +kernel) (by decide +kernel)
theorem bw_34 : (Cond.fieldLink RX2 22 "MeterNetwork$State" "depths" "[I" : Cond) ∈ BW := bw_of 150 (by decide +kernel) (by decide +kernel)
theorem bw_35 : (Cond.fieldLink RX2 25 "MeterNetwork$State" "lastHeard" "[I" : Cond) ∈ BW := bw_of 152 (by decide +kernel) (by decide +kernel)
theorem bw_36 : (Cond.fieldLink RX2 28 "MeterNetwork$State" "offsets" "[I" : Cond) ∈ BW := bw_of 154 (by decide +kernel) (by decide +kernel)
theorem bw_37 : (Cond.fieldLink RX2 31 "MeterNetwork$State" "faultsLeft" "[I" : Cond) ∈ BW := bw_of 156 (by decide +kernel) (by decide +kernel)
theorem bw_38 : (Cond.classLink RX2 34 RX1 : Cond) ∈ BW := bw_of 111 (by decide +kernel) (by decide +kernel)
theorem bw_39 : (Cond.instantiable RX1 8 : Cond) ∈ BW := bw_of 112 (by decide +kernel) (by decide +kernel)
theorem bw_40 : (Cond.initialized RX1 : Cond) ∈ BW := bw_of 85 (by decide +kernel) (by decide +kernel)
theorem bw_41 : (Cond.fieldLink RX2 37 "MeterNetwork$State" "readings" "LMeterNetwork$Readings;" : Cond) ∈ BW := bw_of 158 (by decide +kernel) (by decide +kernel)
theorem bw_42 : (Cond.fieldLink RX2 41 "MeterNetwork$State" "patience" "I" : Cond) ∈ BW := bw_of 162 (by decide +kernel) (by decide +kernel)
theorem bw_43 : (Cond.instanceMethod yX1_init : Cond) ∈ BW := bw_of 114 (by decide +kernel) (by decide +kernel)
theorem bw_44 : (Cond.code yX1_init cX1_init 1 none : Cond) ∈ BW := bw_of 115 (by decide +kernel) (by decide +kernel)
theorem bw_45 : (Cond.methodLink RX1 3 objectInit : Cond) ∈ BW := bw_of 116 (by decide +kernel) (by decide +kernel)
theorem bw_46 : (Cond.fieldLink RX1 9 "MeterNetwork$Readings" "meters" "[I" : Cond) ∈ BW := bw_of 117 (by decide +kernel) (by decide +kernel)
theorem bw_47 : (Cond.fieldLink RX1 15 "MeterNetwork$Readings" "numbers" "[I" : Cond) ∈ BW := bw_of 118 (by decide +kernel) (by decide +kernel)
theorem bw_48 : (Cond.fieldLink RX1 18 "MeterNetwork$Readings" "values" "[I" : Cond) ∈ BW := bw_of 119 (by decide +kernel) (by decide +kernel)
theorem bw_49 : (Cond.fieldLink RX1 21 "MeterNetwork$Readings" "times" "[I" : Cond) ∈ BW := bw_of 120 (by decide +kernel) (by decide +kernel)
theorem bw_50 : (Cond.fieldLink RX1 24 "MeterNetwork$Readings" "sizes" "[I" : Cond) ∈ BW := bw_of 124 (by decide +kernel) (by decide +kernel)
theorem bw_51 : (Cond.fieldLink RX1 27 "MeterNetwork$Readings" "ids" "[I" : Cond) ∈ BW := bw_of 125 (by decide +kernel) (by decide +kernel)
theorem bw_52 : (Cond.fieldLink RX1 30 "MeterNetwork$Readings" "stamps" "[I" : Cond) ∈ BW := bw_of 126 (by decide +kernel) (by decide +kernel)
theorem bw_53 : (Cond.instanceMethod yX0_init : Cond) ∈ BW := bw_of 208 (by decide +kernel) (by decide +kernel)
theorem bw_54 : (Cond.code yX0_init cX0_init 1 none : Cond) ∈ BW := bw_of 209 (by decide +kernel) (by decide +kernel)
theorem bw_55 : (Cond.methodLink RX0 3 objectInit : Cond) ∈ BW := bw_of 210 (by decide +kernel) (by decide +kernel)
theorem bw_56 : (Cond.classLink RX0 9 RX2 : Cond) ∈ BW := bw_of 211 (by decide +kernel) (by decide +kernel)
theorem bw_57 : (Cond.fieldLink RX0 11 "MeterNetwork$History" "ring" "[LMeterNetwork$State;" : Cond) ∈ BW := bw_of 213 (by decide +kernel) (by decide +kernel)
theorem bw_58 : (Cond.instanceMethod yX3_init : Cond) ∈ BW := bw_of 227 (by decide +kernel) (by decide +kernel)
theorem bw_59 : (Cond.code yX3_init cX3_init 1 none : Cond) ∈ BW := bw_of 228 (by decide +kernel) (by decide +kernel)
theorem bw_60 : (Cond.methodLink RX3 3 objectInit : Cond) ∈ BW := bw_of 229 (by decide +kernel) (by decide +kernel)
theorem bw_61 : (Cond.arrayClass .char : Cond) ∈ BW := bw_of 258 (by decide +kernel) (by decide +kernel)
theorem bw_62 : (Cond.fieldLink RX3 9 "MeterNetwork$TextBuffer" "signs" "[C" : Cond) ∈ BW := bw_of 230 (by decide +kernel) (by decide +kernel)
theorem bw_63 : (Cond.methodLink RL 94 yX5_init : Cond) ∈ BW := bw_of 834 (by decide +kernel) (by decide +kernel)
theorem bw_64 : (Cond.instanceMethod yX5_init : Cond) ∈ BW := bw_of 835 (by decide +kernel) (by decide +kernel)
theorem bw_65 : (Cond.code yX5_init cX5_init 2 none : Cond) ∈ BW := bw_of 836 (by decide +kernel) (by decide +kernel)
theorem bw_66 : (Cond.methodLink RX5 1 objectInit : Cond) ∈ BW := bw_of 837 (by decide +kernel) (by decide +kernel)
theorem bw_67 : (Cond.fieldLink RX5 7 "MeterNetworkModel" "s" "[I" : Cond) ∈ BW := bw_of 841 (by decide +kernel) (by decide +kernel)
theorem bw_68 : (Cond.fieldLink RX5 13 "MeterNetworkModel" "text" "[C" : Cond) ∈ BW := bw_of 843 (by decide +kernel) (by decide +kernel)
theorem bw_69 : (Cond.fieldLink RX5 17 "MeterNetworkModel" "hops" "[I" : Cond) ∈ BW := bw_of 846 (by decide +kernel) (by decide +kernel)
theorem bw_70 : (Cond.methodLink RX5 20 yX5_at : Cond) ∈ BW := bw_of 838 (by decide +kernel) (by decide +kernel)
theorem bw_71 : (Cond.static yX5_at : Cond) ∈ BW := bw_of 839 (by decide +kernel) (by decide +kernel)
theorem bw_72 : (Cond.code yX5_at cX5_at 2 (some .int) : Cond) ∈ BW := bw_of 840 (by decide +kernel) (by decide +kernel)
theorem bw_73 : (Cond.methodLink RL 95 yL_link : Cond) ∈ BW := bw_of 466 (by decide +kernel) (by decide +kernel)
theorem bw_74 : (Cond.static yL_link : Cond) ∈ BW := bw_of 467 (by decide +kernel) (by decide +kernel)
theorem bw_75 : (Cond.initialized RL : Cond) ∈ BW := bw_of 82 (by decide +kernel) (by decide +kernel)
theorem bw_76 : (Cond.codeWith yL_link cL_link 6 (some .int) [(0, 12, 15, 13), (0, 12, 19, 15)] : Cond) ∈ BW := bw_of 468 (by decide +kernel) (by decide +kernel)
theorem bw_77 : (Cond.classLink RL 13 "java/lang/IndexOutOfBoundsException" : Cond) ∈ BW := bw_of 469 (by decide +kernel) (by decide +kernel)
theorem bw_78 : (Cond.classLink RL 15 "java/lang/IllegalArgumentException" : Cond) ∈ BW := bw_of 470 (by decide +kernel) (by decide +kernel)
theorem bw_79 : (Cond.methodLink RL 7 yX4_link : Cond) ∈ BW := bw_of 471 (by decide +kernel) (by decide +kernel)
theorem bw_80 : (Cond.instanceMethod yX4_link : Cond) ∈ BW := bw_of 472 (by decide +kernel) (by decide +kernel)
theorem bw_81 : (Cond.selects RX4 yX4_link yX4_link : Cond) ∈ BW := bw_of 473 (by decide +kernel) (by decide +kernel)
theorem bw_82 : (Cond.code yX4_link cX4_link 4 (some .int) : Cond) ∈ BW := bw_of 474 (by decide +kernel) (by decide +kernel)
theorem bw_83 : (Cond.classLink RX4 37 "java/lang/IllegalArgumentException" : Cond) ∈ BW := bw_of 547 (by decide +kernel) (by decide +kernel)
theorem bw_84 : (Cond.initialized "java/lang/IllegalArgumentException" : Cond) ∈ BW := bw_of 93 (by decide +kernel) (by decide +kernel)
theorem bw_85 : (Cond.methodLink RX4 33 yX4_checkNode : Cond) ∈ BW := bw_of 475 (by decide +kernel) (by decide +kernel)
theorem bw_86 : (Cond.static yX4_checkNode : Cond) ∈ BW := bw_of 476 (by decide +kernel) (by decide +kernel)
theorem bw_87 : (Cond.code yX4_checkNode cX4_checkNode 1 none : Cond) ∈ BW := bw_of 477 (by decide +kernel) (by decide +kernel)
theorem bw_88 : (Cond.classLink RX4 235 "java/lang/IndexOutOfBoundsException" : Cond) ∈ BW := bw_of 479 (by decide +kernel) (by decide +kernel)
theorem bw_89 : (Cond.initialized "java/lang/IndexOutOfBoundsException" : Cond) ∈ BW := bw_of 92 (by decide +kernel) (by decide +kernel)
theorem bw_90 : (Cond.methodLink RX4 232 yX4_isNode : Cond) ∈ BW := bw_of 478 (by decide +kernel) (by decide +kernel)
theorem bw_91 : (Cond.static yX4_isNode : Cond) ∈ BW := bw_of 404 (by decide +kernel) (by decide +kernel)
theorem bw_92 : (Cond.code yX4_isNode cX4_isNode 1 (some .boolean) : Cond) ∈ BW := bw_of 405 (by decide +kernel) (by decide +kernel)
theorem bw_93 : (Cond.instanceMethod yX0_save : Cond) ∈ BW := bw_of 565 (by decide +kernel) (by decide +kernel)
theorem bw_94 : (Cond.selects RX0 yX0_save yX0_save : Cond) ∈ BW := bw_of 33 (by decide +kernel) (by decide +kernel)
theorem bw_95 : (Cond.code yX0_save cX0_save 4 none : Cond) ∈ BW := bw_of 566 (by decide +kernel) (by decide +kernel)
theorem bw_96 : (Cond.fieldLink RX0 17 "MeterNetwork$History" "oldest" "I" : Cond) ∈ BW := bw_of 214 (by decide +kernel) (by decide +kernel)
theorem bw_97 : (Cond.fieldLink RX0 21 "MeterNetwork$History" "size" "I" : Cond) ∈ BW := bw_of 215 (by decide +kernel) (by decide +kernel)
theorem bw_98 : (Cond.methodLink RX0 24 yJ9_floorMod_7cf53 : Cond) ∈ BW := bw_of 567 (by decide +kernel) (by decide +kernel)
theorem bw_99 : (Cond.static yJ9_floorMod_7cf53 : Cond) ∈ BW := bw_of 381 (by decide +kernel) (by decide +kernel)
theorem bw_100 : (Cond.initialized RJ9 : Cond) ∈ BW := bw_of 94 (by decide +kernel) (by decide +kernel)
theorem bw_101 : (Cond.code yJ9_floorMod_7cf53 cJ9_floorMod_7cf53 3 (some .int) : Cond) ∈ BW := bw_of 382 (by decide +kernel) (by decide +kernel)
theorem bw_102 : (Cond.instanceMethod yX2_copyFrom : Cond) ∈ BW := bw_of 358 (by decide +kernel) (by decide +kernel)
theorem bw_103 : (Cond.selects RX2 yX2_copyFrom yX2_copyFrom : Cond) ∈ BW := bw_of 14 (by decide +kernel) (by decide +kernel)
theorem bw_104 : (Cond.code yX2_copyFrom cX2_copyFrom 2 none : Cond) ∈ BW := bw_of 359 (by decide +kernel) (by decide +kernel)
theorem bw_105 : (Cond.fieldLink RX2 56 "MeterNetwork$State" "now" "I" : Cond) ∈ BW := bw_of 160 (by decide +kernel) (by decide +kernel)
theorem bw_106 : (Cond.fieldLink RX2 59 "MeterNetwork$State" "sent" "I" : Cond) ∈ BW := bw_of 164 (by decide +kernel) (by decide +kernel)
theorem bw_107 : (Cond.fieldLink RX2 62 "MeterNetwork$State" "duplicates" "I" : Cond) ∈ BW := bw_of 166 (by decide +kernel) (by decide +kernel)
theorem bw_108 : (Cond.fieldLink RX2 65 "MeterNetwork$State" "refused" "I" : Cond) ∈ BW := bw_of 168 (by decide +kernel) (by decide +kernel)
theorem bw_109 : (Cond.fieldLink RX2 68 "MeterNetwork$State" "lostAcknowledgements" "I" : Cond) ∈ BW := bw_of 170 (by decide +kernel) (by decide +kernel)
theorem bw_110 : (Cond.fieldLink RX2 71 "MeterNetwork$State" "droppedParents" "I" : Cond) ∈ BW := bw_of 172 (by decide +kernel) (by decide +kernel)
theorem bw_111 : (Cond.static yX4_copyRow_ : Cond) ∈ BW := bw_of 361 (by decide +kernel) (by decide +kernel)
theorem bw_112 : (Cond.code yX4_copyRow_ cX4_copyRow_ 2 none : Cond) ∈ BW := bw_of 362 (by decide +kernel) (by decide +kernel)
theorem bw_113 : (Cond.methodLink RX4 246 Lib.Math.min.name : Cond) ∈ BW := bw_of 363 (by decide +kernel) (by decide +kernel)
theorem bw_114 : (Cond.static Lib.Math.min.name : Cond) ∈ BW := bw_of 321 (by decide +kernel) (by decide +kernel)
theorem bw_115 : (Cond.initialized "java/lang/Math" : Cond) ∈ BW := bw_of 94 (by decide +kernel) (by decide +kernel)
theorem bw_116 : (Cond.code Lib.Math.min.name Lib.Math.min.code 2 (some .int) : Cond) ∈ BW := bw_of 322 (by decide +kernel) (by decide +kernel)
theorem bw_117 : (Cond.methodLink RX4 251 arraycopyName : Cond) ∈ BW := bw_of 364 (by decide +kernel) (by decide +kernel)
theorem bw_118 : (Cond.native arraycopyName : Cond) ∈ BW := bw_of 366 (by decide +kernel) (by decide +kernel)
theorem bw_119 : (Cond.static arraycopyName : Cond) ∈ BW := bw_of 365 (by decide +kernel) (by decide +kernel)
theorem bw_120 : (Cond.initialized "java/lang/System" : Cond) ∈ BW := bw_of 95 (by decide +kernel) (by decide +kernel)
theorem bw_121 : (Cond.static yX4_copyRow : Cond) ∈ BW := bw_of 368 (by decide +kernel) (by decide +kernel)
theorem bw_122 : (Cond.code yX4_copyRow cX4_copyRow 2 none : Cond) ∈ BW := bw_of 369 (by decide +kernel) (by decide +kernel)
theorem bw_123 : (Cond.instanceMethod yX1_copyFrom : Cond) ∈ BW := bw_of 372 (by decide +kernel) (by decide +kernel)
theorem bw_124 : (Cond.selects RX1 yX1_copyFrom yX1_copyFrom : Cond) ∈ BW := bw_of 15 (by decide +kernel) (by decide +kernel)
theorem bw_125 : (Cond.code yX1_copyFrom cX1_copyFrom 2 none : Cond) ∈ BW := bw_of 373 (by decide +kernel) (by decide +kernel)
theorem bw_126 : (Cond.fieldLink RX1 37 "MeterNetwork$Readings" "taken" "I" : Cond) ∈ BW := bw_of 121 (by decide +kernel) (by decide +kernel)
theorem bw_127 : (Cond.instanceMethod yX2_setLink : Cond) ∈ BW := bw_of 572 (by decide +kernel) (by decide +kernel)
theorem bw_128 : (Cond.selects RX2 yX2_setLink yX2_setLink : Cond) ∈ BW := bw_of 34 (by decide +kernel) (by decide +kernel)
theorem bw_129 : (Cond.code yX2_setLink cX2_setLink 4 none : Cond) ∈ BW := bw_of 573 (by decide +kernel) (by decide +kernel)
theorem bw_130 : (Cond.instanceMethod yX2_linkCount : Cond) ∈ BW := bw_of 576 (by decide +kernel) (by decide +kernel)
theorem bw_131 : (Cond.selects RX2 yX2_linkCount yX2_linkCount : Cond) ∈ BW := bw_of 35 (by decide +kernel) (by decide +kernel)
theorem bw_132 : (Cond.code yX2_linkCount cX2_linkCount 3 (some .int) : Cond) ∈ BW := bw_of 577 (by decide +kernel) (by decide +kernel)
theorem bw_133 : (Cond.methodLink RL 100 yX5_link : Cond) ∈ BW := bw_of 873 (by decide +kernel) (by decide +kernel)
theorem bw_134 : (Cond.instanceMethod yX5_link : Cond) ∈ BW := bw_of 874 (by decide +kernel) (by decide +kernel)
theorem bw_135 : (Cond.selects RX5 yX5_link yX5_link : Cond) ∈ BW := bw_of 875 (by decide +kernel) (by decide +kernel)
theorem bw_136 : (Cond.code yX5_link cX5_link 4 (some .int) : Cond) ∈ BW := bw_of 876 (by decide +kernel) (by decide +kernel)
theorem bw_137 : (Cond.methodLink RX5 96 yX5_isNode : Cond) ∈ BW := bw_of 877 (by decide +kernel) (by decide +kernel)
theorem bw_138 : (Cond.static yX5_isNode : Cond) ∈ BW := bw_of 878 (by decide +kernel) (by decide +kernel)
theorem bw_139 : (Cond.code yX5_isNode cX5_isNode 1 (some .boolean) : Cond) ∈ BW := bw_of 879 (by decide +kernel) (by decide +kernel)
theorem bw_140 : (Cond.methodLink RX5 28 yX5_in : Cond) ∈ BW := bw_of 880 (by decide +kernel) (by decide +kernel)
theorem bw_141 : (Cond.static yX5_in : Cond) ∈ BW := bw_of 881 (by decide +kernel) (by decide +kernel)
theorem bw_142 : (Cond.code yX5_in cX5_in 3 (some .boolean) : Cond) ∈ BW := bw_of 882 (by decide +kernel) (by decide +kernel)
theorem bw_143 : (Cond.methodLink RX5 100 yX5_goes : Cond) ∈ BW := bw_of 883 (by decide +kernel) (by decide +kernel)
theorem bw_144 : (Cond.instanceMethod yX5_goes : Cond) ∈ BW := bw_of 885 (by decide +kernel) (by decide +kernel)
theorem bw_145 : (Cond.selects RX5 yX5_goes yX5_goes : Cond) ∈ BW := bw_of 51 (by decide +kernel) (by decide +kernel)
theorem bw_146 : (Cond.code yX5_goes cX5_goes 4 (some .boolean) : Cond) ∈ BW := bw_of 886 (by decide +kernel) (by decide +kernel)
theorem bw_147 : (Cond.fieldLink RX5 24 "MeterNetworkModel" "thrown" "I" : Cond) ∈ BW := bw_of 845 (by decide +kernel) (by decide +kernel)
theorem bw_148 : (Cond.methodLink RX5 104 yX5_saves : Cond) ∈ BW := bw_of 887 (by decide +kernel) (by decide +kernel)
theorem bw_149 : (Cond.instanceMethod yX5_saves : Cond) ∈ BW := bw_of 889 (by decide +kernel) (by decide +kernel)
theorem bw_150 : (Cond.selects RX5 yX5_saves yX5_saves : Cond) ∈ BW := bw_of 52 (by decide +kernel) (by decide +kernel)
theorem bw_151 : (Cond.code yX5_saves cX5_saves 2 none : Cond) ∈ BW := bw_of 890 (by decide +kernel) (by decide +kernel)
theorem bw_152 : (Cond.fieldLink RX5 32 "MeterNetworkModel" "saved" "I" : Cond) ∈ BW := bw_of 842 (by decide +kernel) (by decide +kernel)
theorem bw_153 : (Cond.methodLink RX5 35 yX5_lays : Cond) ∈ BW := bw_of 891 (by decide +kernel) (by decide +kernel)
theorem bw_154 : (Cond.instanceMethod yX5_lays : Cond) ∈ BW := bw_of 893 (by decide +kernel) (by decide +kernel)
theorem bw_155 : (Cond.selects RX5 yX5_lays yX5_lays : Cond) ∈ BW := bw_of 53 (by decide +kernel) (by decide +kernel)
theorem bw_156 : (Cond.code yX5_lays cX5_lays 4 none : Cond) ∈ BW := bw_of 894 (by decide +kernel) (by decide +kernel)
theorem bw_157 : (Cond.methodLink RX5 107 yX5_links : Cond) ∈ BW := bw_of 895 (by decide +kernel) (by decide +kernel)
theorem bw_158 : (Cond.instanceMethod yX5_links : Cond) ∈ BW := bw_of 897 (by decide +kernel) (by decide +kernel)
theorem bw_159 : (Cond.selects RX5 yX5_links yX5_links : Cond) ∈ BW := bw_of 54 (by decide +kernel) (by decide +kernel)
theorem bw_160 : (Cond.code yX5_links cX5_links 6 (some .int) : Cond) ∈ BW := bw_of 898 (by decide +kernel) (by decide +kernel)
theorem bw_161 : (Cond.methodLink RX5 92 yX5_ones : Cond) ∈ BW := bw_of 899 (by decide +kernel) (by decide +kernel)
theorem bw_162 : (Cond.static yX5_ones : Cond) ∈ BW := bw_of 900 (by decide +kernel) (by decide +kernel)
theorem bw_163 : (Cond.code yX5_ones cX5_ones 3 (some .int) : Cond) ∈ BW := bw_of 901 (by decide +kernel) (by decide +kernel)
theorem bw_164 : (Cond.methodLink RL 101 yX5_thrown : Cond) ∈ BW := bw_of 869 (by decide +kernel) (by decide +kernel)
theorem bw_165 : (Cond.instanceMethod yX5_thrown : Cond) ∈ BW := bw_of 870 (by decide +kernel) (by decide +kernel)
theorem bw_166 : (Cond.selects RX5 yX5_thrown yX5_thrown : Cond) ∈ BW := bw_of 871 (by decide +kernel) (by decide +kernel)
theorem bw_167 : (Cond.code yX5_thrown cX5_thrown 1 (some .int) : Cond) ∈ BW := bw_of 872 (by decide +kernel) (by decide +kernel)
theorem bw_168 : (Cond.methodLink RL 104 yL_power : Cond) ∈ BW := bw_of 578 (by decide +kernel) (by decide +kernel)
theorem bw_169 : (Cond.static yL_power : Cond) ∈ BW := bw_of 579 (by decide +kernel) (by decide +kernel)
theorem bw_170 : (Cond.codeWith yL_power cL_power 5 (some .int) [(0, 10, 13, 13)] : Cond) ∈ BW := bw_of 580 (by decide +kernel) (by decide +kernel)
theorem bw_171 : (Cond.methodLink RL 17 yX4_power : Cond) ∈ BW := bw_of 581 (by decide +kernel) (by decide +kernel)
theorem bw_172 : (Cond.instanceMethod yX4_power : Cond) ∈ BW := bw_of 582 (by decide +kernel) (by decide +kernel)
theorem bw_173 : (Cond.selects RX4 yX4_power yX4_power : Cond) ∈ BW := bw_of 583 (by decide +kernel) (by decide +kernel)
theorem bw_174 : (Cond.code yX4_power cX4_power 3 (some .int) : Cond) ∈ BW := bw_of 584 (by decide +kernel) (by decide +kernel)
theorem bw_175 : (Cond.instanceMethod yX2_setPower : Cond) ∈ BW := bw_of 587 (by decide +kernel) (by decide +kernel)
theorem bw_176 : (Cond.selects RX2 yX2_setPower yX2_setPower : Cond) ∈ BW := bw_of 36 (by decide +kernel) (by decide +kernel)
theorem bw_177 : (Cond.code yX2_setPower cX2_setPower 3 none : Cond) ∈ BW := bw_of 588 (by decide +kernel) (by decide +kernel)
theorem bw_178 : (Cond.instanceMethod yX2_onCount : Cond) ∈ BW := bw_of 591 (by decide +kernel) (by decide +kernel)
theorem bw_179 : (Cond.selects RX2 yX2_onCount yX2_onCount : Cond) ∈ BW := bw_of 37 (by decide +kernel) (by decide +kernel)
theorem bw_180 : (Cond.code yX2_onCount cX2_onCount 3 (some .int) : Cond) ∈ BW := bw_of 592 (by decide +kernel) (by decide +kernel)
theorem bw_181 : (Cond.methodLink RL 107 yX5_power : Cond) ∈ BW := bw_of 902 (by decide +kernel) (by decide +kernel)
theorem bw_182 : (Cond.instanceMethod yX5_power : Cond) ∈ BW := bw_of 903 (by decide +kernel) (by decide +kernel)
theorem bw_183 : (Cond.selects RX5 yX5_power yX5_power : Cond) ∈ BW := bw_of 904 (by decide +kernel) (by decide +kernel)
theorem bw_184 : (Cond.code yX5_power cX5_power 3 (some .int) : Cond) ∈ BW := bw_of 905 (by decide +kernel) (by decide +kernel)
theorem bw_185 : (Cond.methodLink RX5 111 yX5_powers : Cond) ∈ BW := bw_of 906 (by decide +kernel) (by decide +kernel)
theorem bw_186 : (Cond.instanceMethod yX5_powers : Cond) ∈ BW := bw_of 908 (by decide +kernel) (by decide +kernel)
theorem bw_187 : (Cond.selects RX5 yX5_powers yX5_powers : Cond) ∈ BW := bw_of 55 (by decide +kernel) (by decide +kernel)
theorem bw_188 : (Cond.code yX5_powers cX5_powers 3 (some .int) : Cond) ∈ BW := bw_of 909 (by decide +kernel) (by decide +kernel)
theorem bw_189 : (Cond.methodLink RL 108 yL_jump : Cond) ∈ BW := bw_of 593 (by decide +kernel) (by decide +kernel)
theorem bw_190 : (Cond.static yL_jump : Cond) ∈ BW := bw_of 594 (by decide +kernel) (by decide +kernel)
theorem bw_191 : (Cond.codeWith yL_jump cL_jump 5 (some .int) [(0, 10, 13, 13), (0, 10, 17, 15)] : Cond) ∈ BW := bw_of 595 (by decide +kernel) (by decide +kernel)
theorem bw_192 : (Cond.methodLink RL 21 yX4_jump : Cond) ∈ BW := bw_of 596 (by decide +kernel) (by decide +kernel)
theorem bw_193 : (Cond.instanceMethod yX4_jump : Cond) ∈ BW := bw_of 597 (by decide +kernel) (by decide +kernel)
theorem bw_194 : (Cond.selects RX4 yX4_jump yX4_jump : Cond) ∈ BW := bw_of 598 (by decide +kernel) (by decide +kernel)
theorem bw_195 : (Cond.code yX4_jump cX4_jump 3 (some .int) : Cond) ∈ BW := bw_of 599 (by decide +kernel) (by decide +kernel)
theorem bw_196 : (Cond.methodLink RX4 63 yX4_checkMeter : Cond) ∈ BW := bw_of 600 (by decide +kernel) (by decide +kernel)
theorem bw_197 : (Cond.static yX4_checkMeter : Cond) ∈ BW := bw_of 601 (by decide +kernel) (by decide +kernel)
theorem bw_198 : (Cond.code yX4_checkMeter cX4_checkMeter 1 none : Cond) ∈ BW := bw_of 602 (by decide +kernel) (by decide +kernel)
theorem bw_199 : (Cond.methodLink RX4 66 yX4_checkRange : Cond) ∈ BW := bw_of 604 (by decide +kernel) (by decide +kernel)
theorem bw_200 : (Cond.static yX4_checkRange : Cond) ∈ BW := bw_of 605 (by decide +kernel) (by decide +kernel)
theorem bw_201 : (Cond.code yX4_checkRange cX4_checkRange 3 none : Cond) ∈ BW := bw_of 606 (by decide +kernel) (by decide +kernel)
theorem bw_202 : (Cond.methodLink RL 111 yX5_jump : Cond) ∈ BW := bw_of 910 (by decide +kernel) (by decide +kernel)
theorem bw_203 : (Cond.instanceMethod yX5_jump : Cond) ∈ BW := bw_of 911 (by decide +kernel) (by decide +kernel)
theorem bw_204 : (Cond.selects RX5 yX5_jump yX5_jump : Cond) ∈ BW := bw_of 912 (by decide +kernel) (by decide +kernel)
theorem bw_205 : (Cond.code yX5_jump cX5_jump 3 (some .int) : Cond) ∈ BW := bw_of 913 (by decide +kernel) (by decide +kernel)
theorem bw_206 : (Cond.methodLink RX5 115 yX5_isMeter : Cond) ∈ BW := bw_of 914 (by decide +kernel) (by decide +kernel)
theorem bw_207 : (Cond.static yX5_isMeter : Cond) ∈ BW := bw_of 915 (by decide +kernel) (by decide +kernel)
theorem bw_208 : (Cond.code yX5_isMeter cX5_isMeter 1 (some .boolean) : Cond) ∈ BW := bw_of 916 (by decide +kernel) (by decide +kernel)
theorem bw_209 : (Cond.methodLink RL 112 yL_setFaults : Cond) ∈ BW := bw_of 608 (by decide +kernel) (by decide +kernel)
theorem bw_210 : (Cond.static yL_setFaults : Cond) ∈ BW := bw_of 609 (by decide +kernel) (by decide +kernel)
theorem bw_211 : (Cond.codeWith yL_setFaults cL_setFaults 5 (some .int) [(0, 10, 13, 13), (0, 10, 17, 15)] : Cond) ∈ BW := bw_of 610 (by decide +kernel) (by decide +kernel)
theorem bw_212 : (Cond.methodLink RL 25 yX4_setFaults : Cond) ∈ BW := bw_of 611 (by decide +kernel) (by decide +kernel)
theorem bw_213 : (Cond.instanceMethod yX4_setFaults : Cond) ∈ BW := bw_of 612 (by decide +kernel) (by decide +kernel)
theorem bw_214 : (Cond.selects RX4 yX4_setFaults yX4_setFaults : Cond) ∈ BW := bw_of 613 (by decide +kernel) (by decide +kernel)
theorem bw_215 : (Cond.code yX4_setFaults cX4_setFaults 4 (some .int) : Cond) ∈ BW := bw_of 614 (by decide +kernel) (by decide +kernel)
theorem bw_216 : (Cond.methodLink RL 114 yX5_setFaults : Cond) ∈ BW := bw_of 917 (by decide +kernel) (by decide +kernel)
theorem bw_217 : (Cond.instanceMethod yX5_setFaults : Cond) ∈ BW := bw_of 918 (by decide +kernel) (by decide +kernel)
theorem bw_218 : (Cond.selects RX5 yX5_setFaults yX5_setFaults : Cond) ∈ BW := bw_of 919 (by decide +kernel) (by decide +kernel)
theorem bw_219 : (Cond.code yX5_setFaults cX5_setFaults 3 (some .int) : Cond) ∈ BW := bw_of 920 (by decide +kernel) (by decide +kernel)
theorem bw_220 : (Cond.methodLink RX5 118 yX5_sets : Cond) ∈ BW := bw_of 921 (by decide +kernel) (by decide +kernel)
theorem bw_221 : (Cond.instanceMethod yX5_sets : Cond) ∈ BW := bw_of 923 (by decide +kernel) (by decide +kernel)
theorem bw_222 : (Cond.selects RX5 yX5_sets yX5_sets : Cond) ∈ BW := bw_of 56 (by decide +kernel) (by decide +kernel)
theorem bw_223 : (Cond.code yX5_sets cX5_sets 4 (some .int) : Cond) ∈ BW := bw_of 924 (by decide +kernel) (by decide +kernel)
theorem bw_224 : (Cond.methodLink RL 115 yL_setPatience : Cond) ∈ BW := bw_of 615 (by decide +kernel) (by decide +kernel)
theorem bw_225 : (Cond.static yL_setPatience : Cond) ∈ BW := bw_of 616 (by decide +kernel) (by decide +kernel)
theorem bw_226 : (Cond.codeWith yL_setPatience cL_setPatience 4 (some .int) [(0, 9, 12, 15)] : Cond) ∈ BW := bw_of 617 (by decide +kernel) (by decide +kernel)
theorem bw_227 : (Cond.methodLink RL 28 yX4_setPatience : Cond) ∈ BW := bw_of 618 (by decide +kernel) (by decide +kernel)
theorem bw_228 : (Cond.instanceMethod yX4_setPatience : Cond) ∈ BW := bw_of 619 (by decide +kernel) (by decide +kernel)
theorem bw_229 : (Cond.selects RX4 yX4_setPatience yX4_setPatience : Cond) ∈ BW := bw_of 620 (by decide +kernel) (by decide +kernel)
theorem bw_230 : (Cond.code yX4_setPatience cX4_setPatience 3 (some .int) : Cond) ∈ BW := bw_of 621 (by decide +kernel) (by decide +kernel)
theorem bw_231 : (Cond.methodLink RL 118 yX5_setPatience : Cond) ∈ BW := bw_of 925 (by decide +kernel) (by decide +kernel)
theorem bw_232 : (Cond.instanceMethod yX5_setPatience : Cond) ∈ BW := bw_of 926 (by decide +kernel) (by decide +kernel)
theorem bw_233 : (Cond.selects RX5 yX5_setPatience yX5_setPatience : Cond) ∈ BW := bw_of 927 (by decide +kernel) (by decide +kernel)
theorem bw_234 : (Cond.code yX5_setPatience cX5_setPatience 2 (some .int) : Cond) ∈ BW := bw_of 928 (by decide +kernel) (by decide +kernel)
theorem bw_235 : (Cond.methodLink RL 119 yL_take : Cond) ∈ BW := bw_of 622 (by decide +kernel) (by decide +kernel)
theorem bw_236 : (Cond.static yL_take : Cond) ∈ BW := bw_of 623 (by decide +kernel) (by decide +kernel)
theorem bw_237 : (Cond.codeWith yL_take cL_take 5 (some .int) [(0, 10, 13, 13), (0, 10, 17, 15), (0, 10, 21, 35)] : Cond) ∈ BW := bw_of 624 (by decide +kernel) (by decide +kernel)
theorem bw_238 : (Cond.classLink RL 35 "java/lang/IllegalStateException" : Cond) ∈ BW := bw_of 625 (by decide +kernel) (by decide +kernel)
theorem bw_239 : (Cond.methodLink RL 32 yX4_take : Cond) ∈ BW := bw_of 626 (by decide +kernel) (by decide +kernel)
theorem bw_240 : (Cond.instanceMethod yX4_take : Cond) ∈ BW := bw_of 627 (by decide +kernel) (by decide +kernel)
theorem bw_241 : (Cond.selects RX4 yX4_take yX4_take : Cond) ∈ BW := bw_of 628 (by decide +kernel) (by decide +kernel)
theorem bw_242 : (Cond.code yX4_take cX4_take 3 (some .int) : Cond) ∈ BW := bw_of 629 (by decide +kernel) (by decide +kernel)
theorem bw_243 : (Cond.classLink RX4 85 "java/lang/IllegalStateException" : Cond) ∈ BW := bw_of 634 (by decide +kernel) (by decide +kernel)
theorem bw_244 : (Cond.initialized "java/lang/IllegalStateException" : Cond) ∈ BW := bw_of 96 (by decide +kernel) (by decide +kernel)
theorem bw_245 : (Cond.instanceMethod yX2_canTake : Cond) ∈ BW := bw_of 632 (by decide +kernel) (by decide +kernel)
theorem bw_246 : (Cond.selects RX2 yX2_canTake yX2_canTake : Cond) ∈ BW := bw_of 38 (by decide +kernel) (by decide +kernel)
theorem bw_247 : (Cond.code yX2_canTake cX2_canTake 2 (some .boolean) : Cond) ∈ BW := bw_of 633 (by decide +kernel) (by decide +kernel)
theorem bw_248 : (Cond.instanceMethod yX1_isFull : Cond) ∈ BW := bw_of 433 (by decide +kernel) (by decide +kernel)
theorem bw_249 : (Cond.selects RX1 yX1_isFull yX1_isFull : Cond) ∈ BW := bw_of 28 (by decide +kernel) (by decide +kernel)
theorem bw_250 : (Cond.code yX1_isFull cX1_isFull 2 (some .boolean) : Cond) ∈ BW := bw_of 434 (by decide +kernel) (by decide +kernel)
theorem bw_251 : (Cond.methodLink RX1 49 yX1_sizeOf : Cond) ∈ BW := bw_of 331 (by decide +kernel) (by decide +kernel)
theorem bw_252 : (Cond.instanceMethod yX1_sizeOf : Cond) ∈ BW := bw_of 318 (by decide +kernel) (by decide +kernel)
theorem bw_253 : (Cond.selects RX1 yX1_sizeOf yX1_sizeOf : Cond) ∈ BW := bw_of 8 (by decide +kernel) (by decide +kernel)
theorem bw_254 : (Cond.code yX1_sizeOf cX1_sizeOf 3 (some .int) : Cond) ∈ BW := bw_of 319 (by decide +kernel) (by decide +kernel)
theorem bw_255 : (Cond.methodLink RX1 52 Lib.Math.min.name : Cond) ∈ BW := bw_of 320 (by decide +kernel) (by decide +kernel)
theorem bw_256 : (Cond.instanceMethod yX2_takeReading : Cond) ∈ BW := bw_of 652 (by decide +kernel) (by decide +kernel)
theorem bw_257 : (Cond.selects RX2 yX2_takeReading yX2_takeReading : Cond) ∈ BW := bw_of 39 (by decide +kernel) (by decide +kernel)
theorem bw_258 : (Cond.code yX2_takeReading cX2_takeReading 3 (some .int) : Cond) ∈ BW := bw_of 653 (by decide +kernel) (by decide +kernel)
theorem bw_259 : (Cond.instanceMethod yX1_takeAt : Cond) ∈ BW := bw_of 656 (by decide +kernel) (by decide +kernel)
theorem bw_260 : (Cond.selects RX1 yX1_takeAt yX1_takeAt : Cond) ∈ BW := bw_of 40 (by decide +kernel) (by decide +kernel)
theorem bw_261 : (Cond.code yX1_takeAt cX1_takeAt 7 (some .int) : Cond) ∈ BW := bw_of 657 (by decide +kernel) (by decide +kernel)
theorem bw_262 : (Cond.methodLink RX1 41 yX1_takenAt : Cond) ∈ BW := bw_of 658 (by decide +kernel) (by decide +kernel)
theorem bw_263 : (Cond.instanceMethod yX1_takenAt : Cond) ∈ BW := bw_of 660 (by decide +kernel) (by decide +kernel)
theorem bw_264 : (Cond.selects RX1 yX1_takenAt yX1_takenAt : Cond) ∈ BW := bw_of 41 (by decide +kernel) (by decide +kernel)
theorem bw_265 : (Cond.code yX1_takenAt cX1_takenAt 4 (some .int) : Cond) ∈ BW := bw_of 661 (by decide +kernel) (by decide +kernel)
theorem bw_266 : (Cond.methodLink RX1 45 yX1_put : Cond) ∈ BW := bw_of 662 (by decide +kernel) (by decide +kernel)
theorem bw_267 : (Cond.instanceMethod yX1_put : Cond) ∈ BW := bw_of 438 (by decide +kernel) (by decide +kernel)
theorem bw_268 : (Cond.selects RX1 yX1_put yX1_put : Cond) ∈ BW := bw_of 29 (by decide +kernel) (by decide +kernel)
theorem bw_269 : (Cond.code yX1_put cX1_put 5 none : Cond) ∈ BW := bw_of 439 (by decide +kernel) (by decide +kernel)
theorem bw_270 : (Cond.methodLink RL 121 yX5_take : Cond) ∈ BW := bw_of 929 (by decide +kernel) (by decide +kernel)
theorem bw_271 : (Cond.instanceMethod yX5_take : Cond) ∈ BW := bw_of 930 (by decide +kernel) (by decide +kernel)
theorem bw_272 : (Cond.selects RX5 yX5_take yX5_take : Cond) ∈ BW := bw_of 931 (by decide +kernel) (by decide +kernel)
theorem bw_273 : (Cond.code yX5_take cX5_take 3 (some .int) : Cond) ∈ BW := bw_of 932 (by decide +kernel) (by decide +kernel)
theorem bw_274 : (Cond.methodLink RX5 121 yX5_canTake : Cond) ∈ BW := bw_of 933 (by decide +kernel) (by decide +kernel)
theorem bw_275 : (Cond.instanceMethod yX5_canTake : Cond) ∈ BW := bw_of 935 (by decide +kernel) (by decide +kernel)
theorem bw_276 : (Cond.selects RX5 yX5_canTake yX5_canTake : Cond) ∈ BW := bw_of 57 (by decide +kernel) (by decide +kernel)
theorem bw_277 : (Cond.code yX5_canTake cX5_canTake 2 (some .boolean) : Cond) ∈ BW := bw_of 936 (by decide +kernel) (by decide +kernel)
theorem bw_278 : (Cond.methodLink RX5 124 yX5_takes : Cond) ∈ BW := bw_of 937 (by decide +kernel) (by decide +kernel)
theorem bw_279 : (Cond.instanceMethod yX5_takes : Cond) ∈ BW := bw_of 939 (by decide +kernel) (by decide +kernel)
theorem bw_280 : (Cond.selects RX5 yX5_takes yX5_takes : Cond) ∈ BW := bw_of 58 (by decide +kernel) (by decide +kernel)
theorem bw_281 : (Cond.code yX5_takes cX5_takes 5 (some .int) : Cond) ∈ BW := bw_of 940 (by decide +kernel) (by decide +kernel)
theorem bw_282 : (Cond.methodLink RX5 43 yX5_storeAt : Cond) ∈ BW := bw_of 941 (by decide +kernel) (by decide +kernel)
theorem bw_283 : (Cond.static yX5_storeAt : Cond) ∈ BW := bw_of 942 (by decide +kernel) (by decide +kernel)
theorem bw_284 : (Cond.code yX5_storeAt cX5_storeAt 3 (some .int) : Cond) ∈ BW := bw_of 943 (by decide +kernel) (by decide +kernel)
theorem bw_285 : (Cond.methodLink RL 122 yL_run : Cond) ∈ BW := bw_of 663 (by decide +kernel) (by decide +kernel)
theorem bw_286 : (Cond.static yL_run : Cond) ∈ BW := bw_of 664 (by decide +kernel) (by decide +kernel)
theorem bw_287 : (Cond.codeWith yL_run cL_run 4 (some .int) [(0, 9, 12, 15)] : Cond) ∈ BW := bw_of 665 (by decide +kernel) (by decide +kernel)
theorem bw_288 : (Cond.methodLink RL 37 yX4_run : Cond) ∈ BW := bw_of 666 (by decide +kernel) (by decide +kernel)
theorem bw_289 : (Cond.instanceMethod yX4_run : Cond) ∈ BW := bw_of 667 (by decide +kernel) (by decide +kernel)
theorem bw_290 : (Cond.selects RX4 yX4_run yX4_run : Cond) ∈ BW := bw_of 668 (by decide +kernel) (by decide +kernel)
theorem bw_291 : (Cond.code yX4_run cX4_run 2 (some .int) : Cond) ∈ BW := bw_of 669 (by decide +kernel) (by decide +kernel)
theorem bw_292 : (Cond.instanceMethod yX2_runSlots : Cond) ∈ BW := bw_of 377 (by decide +kernel) (by decide +kernel)
theorem bw_293 : (Cond.selects RX2 yX2_runSlots yX2_runSlots : Cond) ∈ BW := bw_of 16 (by decide +kernel) (by decide +kernel)
theorem bw_294 : (Cond.code yX2_runSlots cX2_runSlots 5 (some .int) : Cond) ∈ BW := bw_of 378 (by decide +kernel) (by decide +kernel)
theorem bw_295 : (Cond.methodLink RX2 102 yJ9_floorMod_7cf53 : Cond) ∈ BW := bw_of 380 (by decide +kernel) (by decide +kernel)
theorem bw_296 : (Cond.methodLink RX2 108 yX2_losePatience : Cond) ∈ BW := bw_of 383 (by decide +kernel) (by decide +kernel)
theorem bw_297 : (Cond.instanceMethod yX2_losePatience : Cond) ∈ BW := bw_of 385 (by decide +kernel) (by decide +kernel)
theorem bw_298 : (Cond.selects RX2 yX2_losePatience yX2_losePatience : Cond) ∈ BW := bw_of 17 (by decide +kernel) (by decide +kernel)
theorem bw_299 : (Cond.code yX2_losePatience cX2_losePatience 2 none : Cond) ∈ BW := bw_of 386 (by decide +kernel) (by decide +kernel)
theorem bw_300 : (Cond.methodLink RX2 118 yX2_dropParent : Cond) ∈ BW := bw_of 387 (by decide +kernel) (by decide +kernel)
theorem bw_301 : (Cond.instanceMethod yX2_dropParent : Cond) ∈ BW := bw_of 389 (by decide +kernel) (by decide +kernel)
theorem bw_302 : (Cond.selects RX2 yX2_dropParent yX2_dropParent : Cond) ∈ BW := bw_of 18 (by decide +kernel) (by decide +kernel)
theorem bw_303 : (Cond.code yX2_dropParent cX2_dropParent 2 none : Cond) ∈ BW := bw_of 390 (by decide +kernel) (by decide +kernel)
theorem bw_304 : (Cond.methodLink RX2 112 yX2_beHeard : Cond) ∈ BW := bw_of 391 (by decide +kernel) (by decide +kernel)
theorem bw_305 : (Cond.instanceMethod yX2_beHeard : Cond) ∈ BW := bw_of 393 (by decide +kernel) (by decide +kernel)
theorem bw_306 : (Cond.selects RX2 yX2_beHeard yX2_beHeard : Cond) ∈ BW := bw_of 19 (by decide +kernel) (by decide +kernel)
theorem bw_307 : (Cond.code yX2_beHeard cX2_beHeard 3 none : Cond) ∈ BW := bw_of 394 (by decide +kernel) (by decide +kernel)
theorem bw_308 : (Cond.methodLink RX2 85 yX2_areConnected : Cond) ∈ BW := bw_of 395 (by decide +kernel) (by decide +kernel)
theorem bw_309 : (Cond.instanceMethod yX2_areConnected : Cond) ∈ BW := bw_of 397 (by decide +kernel) (by decide +kernel)
theorem bw_310 : (Cond.selects RX2 yX2_areConnected yX2_areConnected : Cond) ∈ BW := bw_of 20 (by decide +kernel) (by decide +kernel)
theorem bw_311 : (Cond.code yX2_areConnected cX2_areConnected 3 (some .boolean) : Cond) ∈ BW := bw_of 398 (by decide +kernel) (by decide +kernel)
theorem bw_312 : (Cond.methodLink RX2 78 yX2_isOn : Cond) ∈ BW := bw_of 399 (by decide +kernel) (by decide +kernel)
theorem bw_313 : (Cond.instanceMethod yX2_isOn : Cond) ∈ BW := bw_of 401 (by decide +kernel) (by decide +kernel)
theorem bw_314 : (Cond.selects RX2 yX2_isOn yX2_isOn : Cond) ∈ BW := bw_of 21 (by decide +kernel) (by decide +kernel)
theorem bw_315 : (Cond.code yX2_isOn cX2_isOn 2 (some .boolean) : Cond) ∈ BW := bw_of 402 (by decide +kernel) (by decide +kernel)
theorem bw_316 : (Cond.methodLink RX2 121 yX2_hear : Cond) ∈ BW := bw_of 406 (by decide +kernel) (by decide +kernel)
theorem bw_317 : (Cond.instanceMethod yX2_hear : Cond) ∈ BW := bw_of 408 (by decide +kernel) (by decide +kernel)
theorem bw_318 : (Cond.selects RX2 yX2_hear yX2_hear : Cond) ∈ BW := bw_of 22 (by decide +kernel) (by decide +kernel)
theorem bw_319 : (Cond.code yX2_hear cX2_hear 5 none : Cond) ∈ BW := bw_of 409 (by decide +kernel) (by decide +kernel)
theorem bw_320 : (Cond.methodLink RX2 125 yX2_isBetterParent : Cond) ∈ BW := bw_of 410 (by decide +kernel) (by decide +kernel)
theorem bw_321 : (Cond.instanceMethod yX2_isBetterParent : Cond) ∈ BW := bw_of 412 (by decide +kernel) (by decide +kernel)
theorem bw_322 : (Cond.selects RX2 yX2_isBetterParent yX2_isBetterParent : Cond) ∈ BW := bw_of 23 (by decide +kernel) (by decide +kernel)
theorem bw_323 : (Cond.code yX2_isBetterParent cX2_isBetterParent 3 (some .boolean) : Cond) ∈ BW := bw_of 413 (by decide +kernel) (by decide +kernel)
theorem bw_324 : (Cond.instanceMethod yX1_shiftStamps : Cond) ∈ BW := bw_of 416 (by decide +kernel) (by decide +kernel)
theorem bw_325 : (Cond.selects RX1 yX1_shiftStamps yX1_shiftStamps : Cond) ∈ BW := bw_of 24 (by decide +kernel) (by decide +kernel)
theorem bw_326 : (Cond.code yX1_shiftStamps cX1_shiftStamps 4 none : Cond) ∈ BW := bw_of 417 (by decide +kernel) (by decide +kernel)
theorem bw_327 : (Cond.methodLink RX2 115 yX2_send : Cond) ∈ BW := bw_of 418 (by decide +kernel) (by decide +kernel)
theorem bw_328 : (Cond.instanceMethod yX2_send : Cond) ∈ BW := bw_of 420 (by decide +kernel) (by decide +kernel)
theorem bw_329 : (Cond.selects RX2 yX2_send yX2_send : Cond) ∈ BW := bw_of 25 (by decide +kernel) (by decide +kernel)
theorem bw_330 : (Cond.code yX2_send cX2_send 3 none : Cond) ∈ BW := bw_of 421 (by decide +kernel) (by decide +kernel)
theorem bw_331 : (Cond.methodLink RX2 131 yX2_isAccepted : Cond) ∈ BW := bw_of 422 (by decide +kernel) (by decide +kernel)
theorem bw_332 : (Cond.instanceMethod yX2_isAccepted : Cond) ∈ BW := bw_of 424 (by decide +kernel) (by decide +kernel)
theorem bw_333 : (Cond.selects RX2 yX2_isAccepted yX2_isAccepted : Cond) ∈ BW := bw_of 26 (by decide +kernel) (by decide +kernel)
theorem bw_334 : (Cond.code yX2_isAccepted cX2_isAccepted 4 (some .boolean) : Cond) ∈ BW := bw_of 425 (by decide +kernel) (by decide +kernel)
theorem bw_335 : (Cond.instanceMethod yX1_idAt : Cond) ∈ BW := bw_of 346 (by decide +kernel) (by decide +kernel)
theorem bw_336 : (Cond.selects RX1 yX1_idAt yX1_idAt : Cond) ∈ BW := bw_of 12 (by decide +kernel) (by decide +kernel)
theorem bw_337 : (Cond.code yX1_idAt cX1_idAt 4 (some .int) : Cond) ∈ BW := bw_of 347 (by decide +kernel) (by decide +kernel)
theorem bw_338 : (Cond.instanceMethod yX1_holds : Cond) ∈ BW := bw_of 429 (by decide +kernel) (by decide +kernel)
theorem bw_339 : (Cond.selects RX1 yX1_holds yX1_holds : Cond) ∈ BW := bw_of 27 (by decide +kernel) (by decide +kernel)
theorem bw_340 : (Cond.code yX1_holds cX1_holds 4 (some .boolean) : Cond) ∈ BW := bw_of 430 (by decide +kernel) (by decide +kernel)
theorem bw_341 : (Cond.instanceMethod yX1_stampAt : Cond) ∈ BW := bw_of 350 (by decide +kernel) (by decide +kernel)
theorem bw_342 : (Cond.selects RX1 yX1_stampAt yX1_stampAt : Cond) ∈ BW := bw_of 13 (by decide +kernel) (by decide +kernel)
theorem bw_343 : (Cond.code yX1_stampAt cX1_stampAt 4 (some .int) : Cond) ∈ BW := bw_of 351 (by decide +kernel) (by decide +kernel)
theorem bw_344 : (Cond.instanceMethod yX1_removeFirst : Cond) ∈ BW := bw_of 443 (by decide +kernel) (by decide +kernel)
theorem bw_345 : (Cond.selects RX1 yX1_removeFirst yX1_removeFirst : Cond) ∈ BW := bw_of 30 (by decide +kernel) (by decide +kernel)
theorem bw_346 : (Cond.code yX1_removeFirst cX1_removeFirst 5 none : Cond) ∈ BW := bw_of 444 (by decide +kernel) (by decide +kernel)
theorem bw_347 : (Cond.methodLink RL 124 yX5_run : Cond) ∈ BW := bw_of 944 (by decide +kernel) (by decide +kernel)
theorem bw_348 : (Cond.instanceMethod yX5_run : Cond) ∈ BW := bw_of 945 (by decide +kernel) (by decide +kernel)
theorem bw_349 : (Cond.selects RX5 yX5_run yX5_run : Cond) ∈ BW := bw_of 946 (by decide +kernel) (by decide +kernel)
theorem bw_350 : (Cond.code yX5_run cX5_run 2 (some .int) : Cond) ∈ BW := bw_of 947 (by decide +kernel) (by decide +kernel)
theorem bw_351 : (Cond.methodLink RX5 127 yX5_runs : Cond) ∈ BW := bw_of 948 (by decide +kernel) (by decide +kernel)
theorem bw_352 : (Cond.instanceMethod yX5_runs : Cond) ∈ BW := bw_of 950 (by decide +kernel) (by decide +kernel)
theorem bw_353 : (Cond.selects RX5 yX5_runs yX5_runs : Cond) ∈ BW := bw_of 59 (by decide +kernel) (by decide +kernel)
theorem bw_354 : (Cond.code yX5_runs cX5_runs 5 (some .int) : Cond) ∈ BW := bw_of 951 (by decide +kernel) (by decide +kernel)
theorem bw_355 : (Cond.methodLink RX5 88 yX5_slot : Cond) ∈ BW := bw_of 952 (by decide +kernel) (by decide +kernel)
theorem bw_356 : (Cond.instanceMethod yX5_slot : Cond) ∈ BW := bw_of 954 (by decide +kernel) (by decide +kernel)
theorem bw_357 : (Cond.selects RX5 yX5_slot yX5_slot : Cond) ∈ BW := bw_of 60 (by decide +kernel) (by decide +kernel)
theorem bw_358 : (Cond.code yX5_slot cX5_slot 5 none : Cond) ∈ BW := bw_of 955 (by decide +kernel) (by decide +kernel)
theorem bw_359 : (Cond.methodLink RX5 39 yX5_isOn : Cond) ∈ BW := bw_of 956 (by decide +kernel) (by decide +kernel)
theorem bw_360 : (Cond.instanceMethod yX5_isOn : Cond) ∈ BW := bw_of 958 (by decide +kernel) (by decide +kernel)
theorem bw_361 : (Cond.selects RX5 yX5_isOn yX5_isOn : Cond) ∈ BW := bw_of 61 (by decide +kernel) (by decide +kernel)
theorem bw_362 : (Cond.code yX5_isOn cX5_isOn 3 (some .boolean) : Cond) ∈ BW := bw_of 959 (by decide +kernel) (by decide +kernel)
theorem bw_363 : (Cond.methodLink RX5 54 yX5_drops : Cond) ∈ BW := bw_of 960 (by decide +kernel) (by decide +kernel)
theorem bw_364 : (Cond.instanceMethod yX5_drops : Cond) ∈ BW := bw_of 962 (by decide +kernel) (by decide +kernel)
theorem bw_365 : (Cond.selects RX5 yX5_drops yX5_drops : Cond) ∈ BW := bw_of 62 (by decide +kernel) (by decide +kernel)
theorem bw_366 : (Cond.code yX5_drops cX5_drops 3 none : Cond) ∈ BW := bw_of 963 (by decide +kernel) (by decide +kernel)
theorem bw_367 : (Cond.methodLink RX5 72 yX5_areConnected : Cond) ∈ BW := bw_of 964 (by decide +kernel) (by decide +kernel)
theorem bw_368 : (Cond.instanceMethod yX5_areConnected : Cond) ∈ BW := bw_of 966 (by decide +kernel) (by decide +kernel)
theorem bw_369 : (Cond.selects RX5 yX5_areConnected yX5_areConnected : Cond) ∈ BW := bw_of 63 (by decide +kernel) (by decide +kernel)
theorem bw_370 : (Cond.code yX5_areConnected cX5_areConnected 4 (some .boolean) : Cond) ∈ BW := bw_of 967 (by decide +kernel) (by decide +kernel)
theorem bw_371 : (Cond.methodLink RX5 82 yX5_hears : Cond) ∈ BW := bw_of 968 (by decide +kernel) (by decide +kernel)
theorem bw_372 : (Cond.instanceMethod yX5_hears : Cond) ∈ BW := bw_of 970 (by decide +kernel) (by decide +kernel)
theorem bw_373 : (Cond.selects RX5 yX5_hears yX5_hears : Cond) ∈ BW := bw_of 64 (by decide +kernel) (by decide +kernel)
theorem bw_374 : (Cond.code yX5_hears cX5_hears 7 none : Cond) ∈ BW := bw_of 971 (by decide +kernel) (by decide +kernel)
theorem bw_375 : (Cond.methodLink RX5 51 yX5_follows : Cond) ∈ BW := bw_of 972 (by decide +kernel) (by decide +kernel)
theorem bw_376 : (Cond.instanceMethod yX5_follows : Cond) ∈ BW := bw_of 974 (by decide +kernel) (by decide +kernel)
theorem bw_377 : (Cond.selects RX5 yX5_follows yX5_follows : Cond) ∈ BW := bw_of 65 (by decide +kernel) (by decide +kernel)
theorem bw_378 : (Cond.code yX5_follows cX5_follows 4 none : Cond) ∈ BW := bw_of 975 (by decide +kernel) (by decide +kernel)
theorem bw_379 : (Cond.methodLink RX5 47 yX5_setsClock : Cond) ∈ BW := bw_of 976 (by decide +kernel) (by decide +kernel)
theorem bw_380 : (Cond.instanceMethod yX5_setsClock : Cond) ∈ BW := bw_of 978 (by decide +kernel) (by decide +kernel)
theorem bw_381 : (Cond.selects RX5 yX5_setsClock yX5_setsClock : Cond) ∈ BW := bw_of 66 (by decide +kernel) (by decide +kernel)
theorem bw_382 : (Cond.code yX5_setsClock cX5_setsClock 6 none : Cond) ∈ BW := bw_of 979 (by decide +kernel) (by decide +kernel)
theorem bw_383 : (Cond.methodLink RX5 85 yX5_sends : Cond) ∈ BW := bw_of 980 (by decide +kernel) (by decide +kernel)
theorem bw_384 : (Cond.instanceMethod yX5_sends : Cond) ∈ BW := bw_of 982 (by decide +kernel) (by decide +kernel)
theorem bw_385 : (Cond.selects RX5 yX5_sends yX5_sends : Cond) ∈ BW := bw_of 67 (by decide +kernel) (by decide +kernel)
theorem bw_386 : (Cond.code yX5_sends cX5_sends 5 none : Cond) ∈ BW := bw_of 983 (by decide +kernel) (by decide +kernel)
theorem bw_387 : (Cond.methodLink RX5 75 yX5_hands : Cond) ∈ BW := bw_of 984 (by decide +kernel) (by decide +kernel)
theorem bw_388 : (Cond.instanceMethod yX5_hands : Cond) ∈ BW := bw_of 986 (by decide +kernel) (by decide +kernel)
theorem bw_389 : (Cond.selects RX5 yX5_hands yX5_hands : Cond) ∈ BW := bw_of 68 (by decide +kernel) (by decide +kernel)
theorem bw_390 : (Cond.code yX5_hands cX5_hands 5 (some .boolean) : Cond) ∈ BW := bw_of 987 (by decide +kernel) (by decide +kernel)
theorem bw_391 : (Cond.methodLink RX5 63 yX5_isCollected : Cond) ∈ BW := bw_of 988 (by decide +kernel) (by decide +kernel)
theorem bw_392 : (Cond.instanceMethod yX5_isCollected : Cond) ∈ BW := bw_of 990 (by decide +kernel) (by decide +kernel)
theorem bw_393 : (Cond.selects RX5 yX5_isCollected yX5_isCollected : Cond) ∈ BW := bw_of 69 (by decide +kernel) (by decide +kernel)
theorem bw_394 : (Cond.code yX5_isCollected cX5_isCollected 5 (some .boolean) : Cond) ∈ BW := bw_of 991 (by decide +kernel) (by decide +kernel)
theorem bw_395 : (Cond.methodLink RX5 57 yX5_listAt : Cond) ∈ BW := bw_of 992 (by decide +kernel) (by decide +kernel)
theorem bw_396 : (Cond.static yX5_listAt : Cond) ∈ BW := bw_of 993 (by decide +kernel) (by decide +kernel)
theorem bw_397 : (Cond.code yX5_listAt cX5_listAt 2 (some .int) : Cond) ∈ BW := bw_of 994 (by decide +kernel) (by decide +kernel)
theorem bw_398 : (Cond.methodLink RX5 60 yX5_areSame : Cond) ∈ BW := bw_of 995 (by decide +kernel) (by decide +kernel)
theorem bw_399 : (Cond.instanceMethod yX5_areSame : Cond) ∈ BW := bw_of 997 (by decide +kernel) (by decide +kernel)
theorem bw_400 : (Cond.selects RX5 yX5_areSame yX5_areSame : Cond) ∈ BW := bw_of 70 (by decide +kernel) (by decide +kernel)
theorem bw_401 : (Cond.code yX5_areSame cX5_areSame 3 (some .boolean) : Cond) ∈ BW := bw_of 998 (by decide +kernel) (by decide +kernel)
theorem bw_402 : (Cond.methodLink RX5 66 yX5_writes : Cond) ∈ BW := bw_of 999 (by decide +kernel) (by decide +kernel)
theorem bw_403 : (Cond.instanceMethod yX5_writes : Cond) ∈ BW := bw_of 1001 (by decide +kernel) (by decide +kernel)
theorem bw_404 : (Cond.selects RX5 yX5_writes yX5_writes : Cond) ∈ BW := bw_of 71 (by decide +kernel) (by decide +kernel)
theorem bw_405 : (Cond.code yX5_writes cX5_writes 5 none : Cond) ∈ BW := bw_of 1002 (by decide +kernel) (by decide +kernel)
theorem bw_406 : (Cond.methodLink RX5 69 yX5_isStored : Cond) ∈ BW := bw_of 1003 (by decide +kernel) (by decide +kernel)
theorem bw_407 : (Cond.instanceMethod yX5_isStored : Cond) ∈ BW := bw_of 1005 (by decide +kernel) (by decide +kernel)
theorem bw_408 : (Cond.selects RX5 yX5_isStored yX5_isStored : Cond) ∈ BW := bw_of 72 (by decide +kernel) (by decide +kernel)
theorem bw_409 : (Cond.code yX5_isStored cX5_isStored 6 (some .boolean) : Cond) ∈ BW := bw_of 1006 (by decide +kernel) (by decide +kernel)
theorem bw_410 : (Cond.methodLink RX5 79 yX5_removesFirst : Cond) ∈ BW := bw_of 1007 (by decide +kernel) (by decide +kernel)
theorem bw_411 : (Cond.instanceMethod yX5_removesFirst : Cond) ∈ BW := bw_of 1009 (by decide +kernel) (by decide +kernel)
theorem bw_412 : (Cond.selects RX5 yX5_removesFirst yX5_removesFirst : Cond) ∈ BW := bw_of 73 (by decide +kernel) (by decide +kernel)
theorem bw_413 : (Cond.code yX5_removesFirst cX5_removesFirst 4 none : Cond) ∈ BW := bw_of 1010 (by decide +kernel) (by decide +kernel)
theorem bw_414 : (Cond.methodLink RL 125 yL_appendText : Cond) ∈ BW := bw_of 670 (by decide +kernel) (by decide +kernel)
theorem bw_415 : (Cond.static yL_appendText : Cond) ∈ BW := bw_of 671 (by decide +kernel) (by decide +kernel)
theorem bw_416 : (Cond.codeWith yL_appendText cL_appendText 4 (some .int) [(0, 9, 12, 15), (0, 9, 15, 35)] : Cond) ∈ BW := bw_of 672 (by decide +kernel) (by decide +kernel)
theorem bw_417 : (Cond.methodLink RL 40 yX4_appendText : Cond) ∈ BW := bw_of 673 (by decide +kernel) (by decide +kernel)
theorem bw_418 : (Cond.instanceMethod yX4_appendText : Cond) ∈ BW := bw_of 674 (by decide +kernel) (by decide +kernel)
theorem bw_419 : (Cond.selects RX4 yX4_appendText yX4_appendText : Cond) ∈ BW := bw_of 675 (by decide +kernel) (by decide +kernel)
theorem bw_420 : (Cond.code yX4_appendText cX4_appendText 2 (some .int) : Cond) ∈ BW := bw_of 676 (by decide +kernel) (by decide +kernel)
theorem bw_421 : (Cond.instanceMethod yX3_isFull : Cond) ∈ BW := bw_of 679 (by decide +kernel) (by decide +kernel)
theorem bw_422 : (Cond.selects RX3 yX3_isFull yX3_isFull : Cond) ∈ BW := bw_of 42 (by decide +kernel) (by decide +kernel)
theorem bw_423 : (Cond.code yX3_isFull cX3_isFull 1 (some .boolean) : Cond) ∈ BW := bw_of 680 (by decide +kernel) (by decide +kernel)
theorem bw_424 : (Cond.fieldLink RX3 15 "MeterNetwork$TextBuffer" "length" "I" : Cond) ∈ BW := bw_of 231 (by decide +kernel) (by decide +kernel)
theorem bw_425 : (Cond.instanceMethod yX3_append : Cond) ∈ BW := bw_of 684 (by decide +kernel) (by decide +kernel)
theorem bw_426 : (Cond.selects RX3 yX3_append yX3_append : Cond) ∈ BW := bw_of 43 (by decide +kernel) (by decide +kernel)
theorem bw_427 : (Cond.code yX3_append cX3_append 2 none : Cond) ∈ BW := bw_of 685 (by decide +kernel) (by decide +kernel)
theorem bw_428 : (Cond.methodLink RL 127 yX5_appendText : Cond) ∈ BW := bw_of 1011 (by decide +kernel) (by decide +kernel)
theorem bw_429 : (Cond.instanceMethod yX5_appendText : Cond) ∈ BW := bw_of 1012 (by decide +kernel) (by decide +kernel)
theorem bw_430 : (Cond.selects RX5 yX5_appendText yX5_appendText : Cond) ∈ BW := bw_of 1013 (by decide +kernel) (by decide +kernel)
theorem bw_431 : (Cond.code yX5_appendText cX5_appendText 2 (some .int) : Cond) ∈ BW := bw_of 1014 (by decide +kernel) (by decide +kernel)
theorem bw_432 : (Cond.fieldLink RX5 130 "MeterNetworkModel" "typed" "I" : Cond) ∈ BW := bw_of 844 (by decide +kernel) (by decide +kernel)
theorem bw_433 : (Cond.methodLink RL 128 yX4_clearText : Cond) ∈ BW := bw_of 272 (by decide +kernel) (by decide +kernel)
theorem bw_434 : (Cond.instanceMethod yX4_clearText : Cond) ∈ BW := bw_of 273 (by decide +kernel) (by decide +kernel)
theorem bw_435 : (Cond.selects RX4 yX4_clearText yX4_clearText : Cond) ∈ BW := bw_of 274 (by decide +kernel) (by decide +kernel)
theorem bw_436 : (Cond.code yX4_clearText cX4_clearText 2 (some .int) : Cond) ∈ BW := bw_of 275 (by decide +kernel) (by decide +kernel)
theorem bw_437 : (Cond.methodLink RL 131 yX5_clearText : Cond) ∈ BW := bw_of 1015 (by decide +kernel) (by decide +kernel)
theorem bw_438 : (Cond.instanceMethod yX5_clearText : Cond) ∈ BW := bw_of 1016 (by decide +kernel) (by decide +kernel)
theorem bw_439 : (Cond.selects RX5 yX5_clearText yX5_clearText : Cond) ∈ BW := bw_of 1017 (by decide +kernel) (by decide +kernel)
theorem bw_440 : (Cond.code yX5_clearText cX5_clearText 2 (some .int) : Cond) ∈ BW := bw_of 1018 (by decide +kernel) (by decide +kernel)
theorem bw_441 : (Cond.methodLink RL 132 yX4_errorPosition : Cond) ∈ BW := bw_of 276 (by decide +kernel) (by decide +kernel)
theorem bw_442 : (Cond.instanceMethod yX4_errorPosition : Cond) ∈ BW := bw_of 277 (by decide +kernel) (by decide +kernel)
theorem bw_443 : (Cond.selects RX4 yX4_errorPosition yX4_errorPosition : Cond) ∈ BW := bw_of 278 (by decide +kernel) (by decide +kernel)
theorem bw_444 : (Cond.code yX4_errorPosition cX4_errorPosition 1 (some .int) : Cond) ∈ BW := bw_of 279 (by decide +kernel) (by decide +kernel)
theorem bw_445 : (Cond.instanceMethod yX3_findError : Cond) ∈ BW := bw_of 282 (by decide +kernel) (by decide +kernel)
theorem bw_446 : (Cond.selects RX3 yX3_findError yX3_findError : Cond) ∈ BW := bw_of 0 (by decide +kernel) (by decide +kernel)
theorem bw_447 : (Cond.code yX3_findError cX3_findError 2 (some .int) : Cond) ∈ BW := bw_of 283 (by decide +kernel) (by decide +kernel)
theorem bw_448 : (Cond.fieldLink RX3 19 "MeterNetwork$TextBuffer" "position" "I" : Cond) ∈ BW := bw_of 233 (by decide +kernel) (by decide +kernel)
theorem bw_449 : (Cond.methodLink RX3 22 yX3_readCommand : Cond) ∈ BW := bw_of 284 (by decide +kernel) (by decide +kernel)
theorem bw_450 : (Cond.instanceMethod yX3_readCommand : Cond) ∈ BW := bw_of 286 (by decide +kernel) (by decide +kernel)
theorem bw_451 : (Cond.selects RX3 yX3_readCommand yX3_readCommand : Cond) ∈ BW := bw_of 1 (by decide +kernel) (by decide +kernel)
theorem bw_452 : (Cond.code yX3_readCommand cX3_readCommand 1 (some .boolean) : Cond) ∈ BW := bw_of 287 (by decide +kernel) (by decide +kernel)
theorem bw_453 : (Cond.fieldLink RX3 34 "MeterNetwork$TextBuffer" "kind" "C" : Cond) ∈ BW := bw_of 235 (by decide +kernel) (by decide +kernel)
theorem bw_454 : (Cond.methodLink RX3 30 yX3_signHere : Cond) ∈ BW := bw_of 288 (by decide +kernel) (by decide +kernel)
theorem bw_455 : (Cond.instanceMethod yX3_signHere : Cond) ∈ BW := bw_of 290 (by decide +kernel) (by decide +kernel)
theorem bw_456 : (Cond.selects RX3 yX3_signHere yX3_signHere : Cond) ∈ BW := bw_of 2 (by decide +kernel) (by decide +kernel)
theorem bw_457 : (Cond.code yX3_signHere cX3_signHere 2 (some .char) : Cond) ∈ BW := bw_of 291 (by decide +kernel) (by decide +kernel)
theorem bw_458 : (Cond.methodLink RX3 38 yX3_readFirst : Cond) ∈ BW := bw_of 292 (by decide +kernel) (by decide +kernel)
theorem bw_459 : (Cond.instanceMethod yX3_readFirst : Cond) ∈ BW := bw_of 294 (by decide +kernel) (by decide +kernel)
theorem bw_460 : (Cond.selects RX3 yX3_readFirst yX3_readFirst : Cond) ∈ BW := bw_of 3 (by decide +kernel) (by decide +kernel)
theorem bw_461 : (Cond.code yX3_readFirst cX3_readFirst 3 (some .boolean) : Cond) ∈ BW := bw_of 295 (by decide +kernel) (by decide +kernel)
theorem bw_462 : (Cond.fieldLink RX3 53 "MeterNetwork$TextBuffer" "first" "I" : Cond) ∈ BW := bw_of 237 (by decide +kernel) (by decide +kernel)
theorem bw_463 : (Cond.methodLink RX3 49 yX3_digitHere : Cond) ∈ BW := bw_of 296 (by decide +kernel) (by decide +kernel)
theorem bw_464 : (Cond.instanceMethod yX3_digitHere : Cond) ∈ BW := bw_of 298 (by decide +kernel) (by decide +kernel)
theorem bw_465 : (Cond.selects RX3 yX3_digitHere yX3_digitHere : Cond) ∈ BW := bw_of 4 (by decide +kernel) (by decide +kernel)
theorem bw_466 : (Cond.code yX3_digitHere cX3_digitHere 2 (some .int) : Cond) ∈ BW := bw_of 299 (by decide +kernel) (by decide +kernel)
theorem bw_467 : (Cond.methodLink RX3 42 yX3_readSecond : Cond) ∈ BW := bw_of 300 (by decide +kernel) (by decide +kernel)
theorem bw_468 : (Cond.instanceMethod yX3_readSecond : Cond) ∈ BW := bw_of 302 (by decide +kernel) (by decide +kernel)
theorem bw_469 : (Cond.selects RX3 yX3_readSecond yX3_readSecond : Cond) ∈ BW := bw_of 5 (by decide +kernel) (by decide +kernel)
theorem bw_470 : (Cond.code yX3_readSecond cX3_readSecond 2 (some .boolean) : Cond) ∈ BW := bw_of 303 (by decide +kernel) (by decide +kernel)
theorem bw_471 : (Cond.fieldLink RX3 56 "MeterNetwork$TextBuffer" "second" "I" : Cond) ∈ BW := bw_of 239 (by decide +kernel) (by decide +kernel)
theorem bw_472 : (Cond.methodLink RX3 26 yX3_readSign : Cond) ∈ BW := bw_of 304 (by decide +kernel) (by decide +kernel)
theorem bw_473 : (Cond.instanceMethod yX3_readSign : Cond) ∈ BW := bw_of 306 (by decide +kernel) (by decide +kernel)
theorem bw_474 : (Cond.selects RX3 yX3_readSign yX3_readSign : Cond) ∈ BW := bw_of 6 (by decide +kernel) (by decide +kernel)
theorem bw_475 : (Cond.code yX3_readSign cX3_readSign 2 (some .boolean) : Cond) ∈ BW := bw_of 307 (by decide +kernel) (by decide +kernel)
theorem bw_476 : (Cond.methodLink RX3 45 yX3_readNumber : Cond) ∈ BW := bw_of 308 (by decide +kernel) (by decide +kernel)
theorem bw_477 : (Cond.instanceMethod yX3_readNumber : Cond) ∈ BW := bw_of 310 (by decide +kernel) (by decide +kernel)
theorem bw_478 : (Cond.selects RX3 yX3_readNumber yX3_readNumber : Cond) ∈ BW := bw_of 7 (by decide +kernel) (by decide +kernel)
theorem bw_479 : (Cond.code yX3_readNumber cX3_readNumber 5 (some .boolean) : Cond) ∈ BW := bw_of 311 (by decide +kernel) (by decide +kernel)
theorem bw_480 : (Cond.fieldLink RX3 59 "MeterNetwork$TextBuffer" "number" "I" : Cond) ∈ BW := bw_of 241 (by decide +kernel) (by decide +kernel)
theorem bw_481 : (Cond.methodLink RL 135 yX5_errorPosition : Cond) ∈ BW := bw_of 1019 (by decide +kernel) (by decide +kernel)
theorem bw_482 : (Cond.instanceMethod yX5_errorPosition : Cond) ∈ BW := bw_of 1020 (by decide +kernel) (by decide +kernel)
theorem bw_483 : (Cond.selects RX5 yX5_errorPosition yX5_errorPosition : Cond) ∈ BW := bw_of 1021 (by decide +kernel) (by decide +kernel)
theorem bw_484 : (Cond.code yX5_errorPosition cX5_errorPosition 1 (some .int) : Cond) ∈ BW := bw_of 1022 (by decide +kernel) (by decide +kernel)
theorem bw_485 : (Cond.methodLink RX5 164 yX5_error : Cond) ∈ BW := bw_of 1023 (by decide +kernel) (by decide +kernel)
theorem bw_486 : (Cond.instanceMethod yX5_error : Cond) ∈ BW := bw_of 1025 (by decide +kernel) (by decide +kernel)
theorem bw_487 : (Cond.selects RX5 yX5_error yX5_error : Cond) ∈ BW := bw_of 74 (by decide +kernel) (by decide +kernel)
theorem bw_488 : (Cond.code yX5_error cX5_error 1 (some .int) : Cond) ∈ BW := bw_of 1026 (by decide +kernel) (by decide +kernel)
theorem bw_489 : (Cond.fieldLink RX5 133 "MeterNetworkModel" "spot" "I" : Cond) ∈ BW := bw_of 847 (by decide +kernel) (by decide +kernel)
theorem bw_490 : (Cond.methodLink RX5 160 yX5_command : Cond) ∈ BW := bw_of 1027 (by decide +kernel) (by decide +kernel)
theorem bw_491 : (Cond.instanceMethod yX5_command : Cond) ∈ BW := bw_of 1029 (by decide +kernel) (by decide +kernel)
theorem bw_492 : (Cond.selects RX5 yX5_command yX5_command : Cond) ∈ BW := bw_of 75 (by decide +kernel) (by decide +kernel)
theorem bw_493 : (Cond.code yX5_command cX5_command 2 (some .char) : Cond) ∈ BW := bw_of 1030 (by decide +kernel) (by decide +kernel)
theorem bw_494 : (Cond.fieldLink RX5 144 "MeterNetworkModel" "one" "I" : Cond) ∈ BW := bw_of 848 (by decide +kernel) (by decide +kernel)
theorem bw_495 : (Cond.methodLink RX5 153 yX5_readsLink : Cond) ∈ BW := bw_of 1031 (by decide +kernel) (by decide +kernel)
theorem bw_496 : (Cond.instanceMethod yX5_readsLink : Cond) ∈ BW := bw_of 1033 (by decide +kernel) (by decide +kernel)
theorem bw_497 : (Cond.selects RX5 yX5_readsLink yX5_readsLink : Cond) ∈ BW := bw_of 76 (by decide +kernel) (by decide +kernel)
theorem bw_498 : (Cond.code yX5_readsLink cX5_readsLink 1 (some .boolean) : Cond) ∈ BW := bw_of 1034 (by decide +kernel) (by decide +kernel)
theorem bw_499 : (Cond.fieldLink RX5 147 "MeterNetworkModel" "two" "I" : Cond) ∈ BW := bw_of 849 (by decide +kernel) (by decide +kernel)
theorem bw_500 : (Cond.methodLink RX5 140 yX5_digit : Cond) ∈ BW := bw_of 1035 (by decide +kernel) (by decide +kernel)
theorem bw_501 : (Cond.instanceMethod yX5_digit : Cond) ∈ BW := bw_of 1037 (by decide +kernel) (by decide +kernel)
theorem bw_502 : (Cond.selects RX5 yX5_digit yX5_digit : Cond) ∈ BW := bw_of 77 (by decide +kernel) (by decide +kernel)
theorem bw_503 : (Cond.code yX5_digit cX5_digit 3 (some .int) : Cond) ∈ BW := bw_of 1038 (by decide +kernel) (by decide +kernel)
theorem bw_504 : (Cond.methodLink RX5 136 yX5_isHere : Cond) ∈ BW := bw_of 1039 (by decide +kernel) (by decide +kernel)
theorem bw_505 : (Cond.instanceMethod yX5_isHere : Cond) ∈ BW := bw_of 1041 (by decide +kernel) (by decide +kernel)
theorem bw_506 : (Cond.selects RX5 yX5_isHere yX5_isHere : Cond) ∈ BW := bw_of 78 (by decide +kernel) (by decide +kernel)
theorem bw_507 : (Cond.code yX5_isHere cX5_isHere 3 (some .boolean) : Cond) ∈ BW := bw_of 1042 (by decide +kernel) (by decide +kernel)
theorem bw_508 : (Cond.methodLink RX5 157 yX5_readsTake : Cond) ∈ BW := bw_of 1043 (by decide +kernel) (by decide +kernel)
theorem bw_509 : (Cond.instanceMethod yX5_readsTake : Cond) ∈ BW := bw_of 1045 (by decide +kernel) (by decide +kernel)
theorem bw_510 : (Cond.selects RX5 yX5_readsTake yX5_readsTake : Cond) ∈ BW := bw_of 79 (by decide +kernel) (by decide +kernel)
theorem bw_511 : (Cond.code yX5_readsTake cX5_readsTake 1 (some .boolean) : Cond) ∈ BW := bw_of 1046 (by decide +kernel) (by decide +kernel)
theorem bw_512 : (Cond.methodLink RX5 150 yX5_number : Cond) ∈ BW := bw_of 1047 (by decide +kernel) (by decide +kernel)
theorem bw_513 : (Cond.instanceMethod yX5_number : Cond) ∈ BW := bw_of 1049 (by decide +kernel) (by decide +kernel)
theorem bw_514 : (Cond.selects RX5 yX5_number yX5_number : Cond) ∈ BW := bw_of 80 (by decide +kernel) (by decide +kernel)
theorem bw_515 : (Cond.code yX5_number cX5_number 4 (some .int) : Cond) ∈ BW := bw_of 1050 (by decide +kernel) (by decide +kernel)
theorem bw_516 : (Cond.methodLink RL 136 yL_runText : Cond) ∈ BW := bw_of 686 (by decide +kernel) (by decide +kernel)
theorem bw_517 : (Cond.static yL_runText : Cond) ∈ BW := bw_of 687 (by decide +kernel) (by decide +kernel)
theorem bw_518 : (Cond.codeWith yL_runText cL_runText 3 (some .int) [(0, 8, 11, 35)] : Cond) ∈ BW := bw_of 688 (by decide +kernel) (by decide +kernel)
theorem bw_519 : (Cond.methodLink RL 43 yX4_runText : Cond) ∈ BW := bw_of 689 (by decide +kernel) (by decide +kernel)
theorem bw_520 : (Cond.instanceMethod yX4_runText : Cond) ∈ BW := bw_of 690 (by decide +kernel) (by decide +kernel)
theorem bw_521 : (Cond.selects RX4 yX4_runText yX4_runText : Cond) ∈ BW := bw_of 691 (by decide +kernel) (by decide +kernel)
theorem bw_522 : (Cond.code yX4_runText cX4_runText 2 (some .int) : Cond) ∈ BW := bw_of 692 (by decide +kernel) (by decide +kernel)
theorem bw_523 : (Cond.methodLink RX4 122 yX4_executeCommand : Cond) ∈ BW := bw_of 695 (by decide +kernel) (by decide +kernel)
theorem bw_524 : (Cond.instanceMethod yX4_executeCommand : Cond) ∈ BW := bw_of 697 (by decide +kernel) (by decide +kernel)
theorem bw_525 : (Cond.selects RX4 yX4_executeCommand yX4_executeCommand : Cond) ∈ BW := bw_of 44 (by decide +kernel) (by decide +kernel)
theorem bw_526 : (Cond.code yX4_executeCommand cX4_executeCommand 1 (some .boolean) : Cond) ∈ BW := bw_of 698 (by decide +kernel) (by decide +kernel)
theorem bw_527 : (Cond.methodLink RL 139 yX5_runText : Cond) ∈ BW := bw_of 1051 (by decide +kernel) (by decide +kernel)
theorem bw_528 : (Cond.instanceMethod yX5_runText : Cond) ∈ BW := bw_of 1052 (by decide +kernel) (by decide +kernel)
theorem bw_529 : (Cond.selects RX5 yX5_runText yX5_runText : Cond) ∈ BW := bw_of 1053 (by decide +kernel) (by decide +kernel)
theorem bw_530 : (Cond.code yX5_runText cX5_runText 4 (some .int) : Cond) ∈ BW := bw_of 1054 (by decide +kernel) (by decide +kernel)
theorem bw_531 : (Cond.methodLink RX5 168 yX5_does : Cond) ∈ BW := bw_of 1055 (by decide +kernel) (by decide +kernel)
theorem bw_532 : (Cond.instanceMethod yX5_does : Cond) ∈ BW := bw_of 1057 (by decide +kernel) (by decide +kernel)
theorem bw_533 : (Cond.selects RX5 yX5_does yX5_does : Cond) ∈ BW := bw_of 81 (by decide +kernel) (by decide +kernel)
theorem bw_534 : (Cond.code yX5_does cX5_does 2 (some .int) : Cond) ∈ BW := bw_of 1058 (by decide +kernel) (by decide +kernel)
theorem bw_535 : (Cond.methodLink RL 140 yL_undo : Cond) ∈ BW := bw_of 701 (by decide +kernel) (by decide +kernel)
theorem bw_536 : (Cond.static yL_undo : Cond) ∈ BW := bw_of 702 (by decide +kernel) (by decide +kernel)
theorem bw_537 : (Cond.codeWith yL_undo cL_undo 3 (some .int) [(0, 8, 11, 35)] : Cond) ∈ BW := bw_of 703 (by decide +kernel) (by decide +kernel)
theorem bw_538 : (Cond.methodLink RL 47 yX4_undo : Cond) ∈ BW := bw_of 704 (by decide +kernel) (by decide +kernel)
theorem bw_539 : (Cond.instanceMethod yX4_undo : Cond) ∈ BW := bw_of 705 (by decide +kernel) (by decide +kernel)
theorem bw_540 : (Cond.selects RX4 yX4_undo yX4_undo : Cond) ∈ BW := bw_of 706 (by decide +kernel) (by decide +kernel)
theorem bw_541 : (Cond.code yX4_undo cX4_undo 2 (some .int) : Cond) ∈ BW := bw_of 707 (by decide +kernel) (by decide +kernel)
theorem bw_542 : (Cond.instanceMethod yX0_newest : Cond) ∈ BW := bw_of 710 (by decide +kernel) (by decide +kernel)
theorem bw_543 : (Cond.selects RX0 yX0_newest yX0_newest : Cond) ∈ BW := bw_of 45 (by decide +kernel) (by decide +kernel)
theorem bw_544 : (Cond.code yX0_newest cX0_newest 1 (some (.object "MeterNetwork$State")) : Cond) ∈ BW := bw_of 711 (by decide +kernel) (by decide +kernel)
theorem bw_545 : (Cond.instanceMethod yX0_removeNewest : Cond) ∈ BW := bw_of 715 (by decide +kernel) (by decide +kernel)
theorem bw_546 : (Cond.selects RX0 yX0_removeNewest yX0_removeNewest : Cond) ∈ BW := bw_of 46 (by decide +kernel) (by decide +kernel)
theorem bw_547 : (Cond.code yX0_removeNewest cX0_removeNewest 1 none : Cond) ∈ BW := bw_of 716 (by decide +kernel) (by decide +kernel)
theorem bw_548 : (Cond.methodLink RL 142 yX5_undo : Cond) ∈ BW := bw_of 1059 (by decide +kernel) (by decide +kernel)
theorem bw_549 : (Cond.instanceMethod yX5_undo : Cond) ∈ BW := bw_of 1060 (by decide +kernel) (by decide +kernel)
theorem bw_550 : (Cond.selects RX5 yX5_undo yX5_undo : Cond) ∈ BW := bw_of 1061 (by decide +kernel) (by decide +kernel)
theorem bw_551 : (Cond.code yX5_undo cX5_undo 1 (some .int) : Cond) ∈ BW := bw_of 1062 (by decide +kernel) (by decide +kernel)
theorem bw_552 : (Cond.methodLink RL 143 yL_isConnected : Cond) ∈ BW := bw_of 717 (by decide +kernel) (by decide +kernel)
theorem bw_553 : (Cond.static yL_isConnected : Cond) ∈ BW := bw_of 718 (by decide +kernel) (by decide +kernel)
theorem bw_554 : (Cond.codeWith yL_isConnected cL_isConnected 5 (some .int) [(0, 17, 20, 13)] : Cond) ∈ BW := bw_of 719 (by decide +kernel) (by decide +kernel)
theorem bw_555 : (Cond.methodLink RL 50 yX4_isConnected : Cond) ∈ BW := bw_of 720 (by decide +kernel) (by decide +kernel)
theorem bw_556 : (Cond.instanceMethod yX4_isConnected : Cond) ∈ BW := bw_of 721 (by decide +kernel) (by decide +kernel)
theorem bw_557 : (Cond.selects RX4 yX4_isConnected yX4_isConnected : Cond) ∈ BW := bw_of 722 (by decide +kernel) (by decide +kernel)
theorem bw_558 : (Cond.code yX4_isConnected cX4_isConnected 3 (some .boolean) : Cond) ∈ BW := bw_of 723 (by decide +kernel) (by decide +kernel)
theorem bw_559 : (Cond.methodLink RL 145 yX5_isConnected : Cond) ∈ BW := bw_of 1063 (by decide +kernel) (by decide +kernel)
theorem bw_560 : (Cond.instanceMethod yX5_isConnected : Cond) ∈ BW := bw_of 1064 (by decide +kernel) (by decide +kernel)
theorem bw_561 : (Cond.selects RX5 yX5_isConnected yX5_isConnected : Cond) ∈ BW := bw_of 1065 (by decide +kernel) (by decide +kernel)
theorem bw_562 : (Cond.code yX5_isConnected cX5_isConnected 3 (some .boolean) : Cond) ∈ BW := bw_of 1066 (by decide +kernel) (by decide +kernel)
theorem bw_563 : (Cond.methodLink RL 146 yL_parent : Cond) ∈ BW := bw_of 725 (by decide +kernel) (by decide +kernel)
theorem bw_564 : (Cond.static yL_parent : Cond) ∈ BW := bw_of 726 (by decide +kernel) (by decide +kernel)
theorem bw_565 : (Cond.codeWith yL_parent cL_parent 4 (some .int) [(0, 9, 12, 13)] : Cond) ∈ BW := bw_of 727 (by decide +kernel) (by decide +kernel)
theorem bw_566 : (Cond.methodLink RL 54 yX4_parent : Cond) ∈ BW := bw_of 728 (by decide +kernel) (by decide +kernel)
theorem bw_567 : (Cond.instanceMethod yX4_parent : Cond) ∈ BW := bw_of 729 (by decide +kernel) (by decide +kernel)
theorem bw_568 : (Cond.selects RX4 yX4_parent yX4_parent : Cond) ∈ BW := bw_of 730 (by decide +kernel) (by decide +kernel)
theorem bw_569 : (Cond.code yX4_parent cX4_parent 2 (some .int) : Cond) ∈ BW := bw_of 731 (by decide +kernel) (by decide +kernel)
theorem bw_570 : (Cond.methodLink RL 148 yX5_parent : Cond) ∈ BW := bw_of 1067 (by decide +kernel) (by decide +kernel)
theorem bw_571 : (Cond.instanceMethod yX5_parent : Cond) ∈ BW := bw_of 1068 (by decide +kernel) (by decide +kernel)
theorem bw_572 : (Cond.selects RX5 yX5_parent yX5_parent : Cond) ∈ BW := bw_of 1069 (by decide +kernel) (by decide +kernel)
theorem bw_573 : (Cond.code yX5_parent cX5_parent 2 (some .int) : Cond) ∈ BW := bw_of 1070 (by decide +kernel) (by decide +kernel)
theorem bw_574 : (Cond.methodLink RL 149 yL_depth : Cond) ∈ BW := bw_of 732 (by decide +kernel) (by decide +kernel)
theorem bw_575 : (Cond.static yL_depth : Cond) ∈ BW := bw_of 733 (by decide +kernel) (by decide +kernel)
theorem bw_576 : (Cond.codeWith yL_depth cL_depth 4 (some .int) [(0, 9, 12, 13)] : Cond) ∈ BW := bw_of 734 (by decide +kernel) (by decide +kernel)
theorem bw_577 : (Cond.methodLink RL 57 yX4_depth : Cond) ∈ BW := bw_of 735 (by decide +kernel) (by decide +kernel)
theorem bw_578 : (Cond.instanceMethod yX4_depth : Cond) ∈ BW := bw_of 736 (by decide +kernel) (by decide +kernel)
theorem bw_579 : (Cond.selects RX4 yX4_depth yX4_depth : Cond) ∈ BW := bw_of 737 (by decide +kernel) (by decide +kernel)
theorem bw_580 : (Cond.code yX4_depth cX4_depth 2 (some .int) : Cond) ∈ BW := bw_of 738 (by decide +kernel) (by decide +kernel)
theorem bw_581 : (Cond.methodLink RL 151 yX5_depth : Cond) ∈ BW := bw_of 1071 (by decide +kernel) (by decide +kernel)
theorem bw_582 : (Cond.instanceMethod yX5_depth : Cond) ∈ BW := bw_of 1072 (by decide +kernel) (by decide +kernel)
theorem bw_583 : (Cond.selects RX5 yX5_depth yX5_depth : Cond) ∈ BW := bw_of 1073 (by decide +kernel) (by decide +kernel)
theorem bw_584 : (Cond.code yX5_depth cX5_depth 2 (some .int) : Cond) ∈ BW := bw_of 1074 (by decide +kernel) (by decide +kernel)
theorem bw_585 : (Cond.methodLink RL 152 yL_clock : Cond) ∈ BW := bw_of 739 (by decide +kernel) (by decide +kernel)
theorem bw_586 : (Cond.static yL_clock : Cond) ∈ BW := bw_of 740 (by decide +kernel) (by decide +kernel)
theorem bw_587 : (Cond.codeWith yL_clock cL_clock 4 (some .int) [(0, 9, 12, 13)] : Cond) ∈ BW := bw_of 741 (by decide +kernel) (by decide +kernel)
theorem bw_588 : (Cond.methodLink RL 60 yX4_clock : Cond) ∈ BW := bw_of 742 (by decide +kernel) (by decide +kernel)
theorem bw_589 : (Cond.instanceMethod yX4_clock : Cond) ∈ BW := bw_of 743 (by decide +kernel) (by decide +kernel)
theorem bw_590 : (Cond.selects RX4 yX4_clock yX4_clock : Cond) ∈ BW := bw_of 744 (by decide +kernel) (by decide +kernel)
theorem bw_591 : (Cond.code yX4_clock cX4_clock 2 (some .int) : Cond) ∈ BW := bw_of 745 (by decide +kernel) (by decide +kernel)
theorem bw_592 : (Cond.methodLink RL 154 yX5_clock : Cond) ∈ BW := bw_of 1075 (by decide +kernel) (by decide +kernel)
theorem bw_593 : (Cond.instanceMethod yX5_clock : Cond) ∈ BW := bw_of 1076 (by decide +kernel) (by decide +kernel)
theorem bw_594 : (Cond.selects RX5 yX5_clock yX5_clock : Cond) ∈ BW := bw_of 1077 (by decide +kernel) (by decide +kernel)
theorem bw_595 : (Cond.code yX5_clock cX5_clock 2 (some .int) : Cond) ∈ BW := bw_of 1078 (by decide +kernel) (by decide +kernel)
theorem bw_596 : (Cond.methodLink RL 155 yL_silence : Cond) ∈ BW := bw_of 746 (by decide +kernel) (by decide +kernel)
theorem bw_597 : (Cond.static yL_silence : Cond) ∈ BW := bw_of 747 (by decide +kernel) (by decide +kernel)
theorem bw_598 : (Cond.codeWith yL_silence cL_silence 4 (some .int) [(0, 9, 12, 13)] : Cond) ∈ BW := bw_of 748 (by decide +kernel) (by decide +kernel)
theorem bw_599 : (Cond.methodLink RL 63 yX4_silence : Cond) ∈ BW := bw_of 749 (by decide +kernel) (by decide +kernel)
theorem bw_600 : (Cond.instanceMethod yX4_silence : Cond) ∈ BW := bw_of 750 (by decide +kernel) (by decide +kernel)
theorem bw_601 : (Cond.selects RX4 yX4_silence yX4_silence : Cond) ∈ BW := bw_of 751 (by decide +kernel) (by decide +kernel)
theorem bw_602 : (Cond.code yX4_silence cX4_silence 2 (some .int) : Cond) ∈ BW := bw_of 752 (by decide +kernel) (by decide +kernel)
theorem bw_603 : (Cond.methodLink RL 157 yX5_silence : Cond) ∈ BW := bw_of 1079 (by decide +kernel) (by decide +kernel)
theorem bw_604 : (Cond.instanceMethod yX5_silence : Cond) ∈ BW := bw_of 1080 (by decide +kernel) (by decide +kernel)
theorem bw_605 : (Cond.selects RX5 yX5_silence yX5_silence : Cond) ∈ BW := bw_of 1081 (by decide +kernel) (by decide +kernel)
theorem bw_606 : (Cond.code yX5_silence cX5_silence 2 (some .int) : Cond) ∈ BW := bw_of 1082 (by decide +kernel) (by decide +kernel)
theorem bw_607 : (Cond.methodLink RL 158 yL_faults : Cond) ∈ BW := bw_of 753 (by decide +kernel) (by decide +kernel)
theorem bw_608 : (Cond.static yL_faults : Cond) ∈ BW := bw_of 754 (by decide +kernel) (by decide +kernel)
theorem bw_609 : (Cond.codeWith yL_faults cL_faults 4 (some .int) [(0, 9, 12, 13)] : Cond) ∈ BW := bw_of 755 (by decide +kernel) (by decide +kernel)
theorem bw_610 : (Cond.methodLink RL 66 yX4_faults : Cond) ∈ BW := bw_of 756 (by decide +kernel) (by decide +kernel)
theorem bw_611 : (Cond.instanceMethod yX4_faults : Cond) ∈ BW := bw_of 757 (by decide +kernel) (by decide +kernel)
theorem bw_612 : (Cond.selects RX4 yX4_faults yX4_faults : Cond) ∈ BW := bw_of 758 (by decide +kernel) (by decide +kernel)
theorem bw_613 : (Cond.code yX4_faults cX4_faults 2 (some .int) : Cond) ∈ BW := bw_of 759 (by decide +kernel) (by decide +kernel)
theorem bw_614 : (Cond.methodLink RL 160 yX5_faults : Cond) ∈ BW := bw_of 1083 (by decide +kernel) (by decide +kernel)
theorem bw_615 : (Cond.instanceMethod yX5_faults : Cond) ∈ BW := bw_of 1084 (by decide +kernel) (by decide +kernel)
theorem bw_616 : (Cond.selects RX5 yX5_faults yX5_faults : Cond) ∈ BW := bw_of 1085 (by decide +kernel) (by decide +kernel)
theorem bw_617 : (Cond.code yX5_faults cX5_faults 2 (some .int) : Cond) ∈ BW := bw_of 1086 (by decide +kernel) (by decide +kernel)
theorem bw_618 : (Cond.methodLink RL 161 yL_hops : Cond) ∈ BW := bw_of 760 (by decide +kernel) (by decide +kernel)
theorem bw_619 : (Cond.static yL_hops : Cond) ∈ BW := bw_of 761 (by decide +kernel) (by decide +kernel)
theorem bw_620 : (Cond.codeWith yL_hops cL_hops 4 (some .int) [(0, 9, 12, 13)] : Cond) ∈ BW := bw_of 762 (by decide +kernel) (by decide +kernel)
theorem bw_621 : (Cond.methodLink RL 69 yX4_hops : Cond) ∈ BW := bw_of 763 (by decide +kernel) (by decide +kernel)
theorem bw_622 : (Cond.instanceMethod yX4_hops : Cond) ∈ BW := bw_of 764 (by decide +kernel) (by decide +kernel)
theorem bw_623 : (Cond.selects RX4 yX4_hops yX4_hops : Cond) ∈ BW := bw_of 765 (by decide +kernel) (by decide +kernel)
theorem bw_624 : (Cond.code yX4_hops cX4_hops 2 (some .int) : Cond) ∈ BW := bw_of 766 (by decide +kernel) (by decide +kernel)
theorem bw_625 : (Cond.instanceMethod yX2_hopsToCollector : Cond) ∈ BW := bw_of 769 (by decide +kernel) (by decide +kernel)
theorem bw_626 : (Cond.selects RX2 yX2_hopsToCollector yX2_hopsToCollector : Cond) ∈ BW := bw_of 47 (by decide +kernel) (by decide +kernel)
theorem bw_627 : (Cond.code yX2_hopsToCollector cX2_hopsToCollector 4 (some .int) : Cond) ∈ BW := bw_of 770 (by decide +kernel) (by decide +kernel)
theorem bw_628 : (Cond.methodLink RX2 81 yX2_neighboursOf : Cond) ∈ BW := bw_of 771 (by decide +kernel) (by decide +kernel)
theorem bw_629 : (Cond.instanceMethod yX2_neighboursOf : Cond) ∈ BW := bw_of 773 (by decide +kernel) (by decide +kernel)
theorem bw_630 : (Cond.selects RX2 yX2_neighboursOf yX2_neighboursOf : Cond) ∈ BW := bw_of 48 (by decide +kernel) (by decide +kernel)
theorem bw_631 : (Cond.code yX2_neighboursOf cX2_neighboursOf 5 (some .int) : Cond) ∈ BW := bw_of 774 (by decide +kernel) (by decide +kernel)
theorem bw_632 : (Cond.methodLink RL 163 yX5_hops : Cond) ∈ BW := bw_of 1087 (by decide +kernel) (by decide +kernel)
theorem bw_633 : (Cond.instanceMethod yX5_hops : Cond) ∈ BW := bw_of 1088 (by decide +kernel) (by decide +kernel)
theorem bw_634 : (Cond.selects RX5 yX5_hops yX5_hops : Cond) ∈ BW := bw_of 1089 (by decide +kernel) (by decide +kernel)
theorem bw_635 : (Cond.code yX5_hops cX5_hops 5 (some .int) : Cond) ∈ BW := bw_of 1090 (by decide +kernel) (by decide +kernel)
theorem bw_636 : (Cond.methodLink RL 164 yL_stored : Cond) ∈ BW := bw_of 775 (by decide +kernel) (by decide +kernel)
theorem bw_637 : (Cond.static yL_stored : Cond) ∈ BW := bw_of 776 (by decide +kernel) (by decide +kernel)
theorem bw_638 : (Cond.codeWith yL_stored cL_stored 4 (some .int) [(0, 9, 12, 13)] : Cond) ∈ BW := bw_of 777 (by decide +kernel) (by decide +kernel)
theorem bw_639 : (Cond.methodLink RL 72 yX4_stored : Cond) ∈ BW := bw_of 778 (by decide +kernel) (by decide +kernel)
theorem bw_640 : (Cond.instanceMethod yX4_stored : Cond) ∈ BW := bw_of 779 (by decide +kernel) (by decide +kernel)
theorem bw_641 : (Cond.selects RX4 yX4_stored yX4_stored : Cond) ∈ BW := bw_of 780 (by decide +kernel) (by decide +kernel)
theorem bw_642 : (Cond.code yX4_stored cX4_stored 2 (some .int) : Cond) ∈ BW := bw_of 781 (by decide +kernel) (by decide +kernel)
theorem bw_643 : (Cond.methodLink RL 166 yX5_stored : Cond) ∈ BW := bw_of 1091 (by decide +kernel) (by decide +kernel)
theorem bw_644 : (Cond.instanceMethod yX5_stored : Cond) ∈ BW := bw_of 1092 (by decide +kernel) (by decide +kernel)
theorem bw_645 : (Cond.selects RX5 yX5_stored yX5_stored : Cond) ∈ BW := bw_of 1093 (by decide +kernel) (by decide +kernel)
theorem bw_646 : (Cond.code yX5_stored cX5_stored 2 (some .int) : Cond) ∈ BW := bw_of 1094 (by decide +kernel) (by decide +kernel)
theorem bw_647 : (Cond.methodLink RL 167 yL_storedReading : Cond) ∈ BW := bw_of 782 (by decide +kernel) (by decide +kernel)
theorem bw_648 : (Cond.static yL_storedReading : Cond) ∈ BW := bw_of 783 (by decide +kernel) (by decide +kernel)
theorem bw_649 : (Cond.codeWith yL_storedReading cL_storedReading 6 (some .int) [(0, 12, 15, 13), (0, 12, 19, 15)] : Cond) ∈ BW := bw_of 784 (by decide +kernel) (by decide +kernel)
theorem bw_650 : (Cond.methodLink RL 75 yX4_storedReading : Cond) ∈ BW := bw_of 785 (by decide +kernel) (by decide +kernel)
theorem bw_651 : (Cond.instanceMethod yX4_storedReading : Cond) ∈ BW := bw_of 786 (by decide +kernel) (by decide +kernel)
theorem bw_652 : (Cond.selects RX4 yX4_storedReading yX4_storedReading : Cond) ∈ BW := bw_of 787 (by decide +kernel) (by decide +kernel)
theorem bw_653 : (Cond.code yX4_storedReading cX4_storedReading 4 (some .int) : Cond) ∈ BW := bw_of 788 (by decide +kernel) (by decide +kernel)
theorem bw_654 : (Cond.methodLink RX4 188 yX4_checkIndex : Cond) ∈ BW := bw_of 789 (by decide +kernel) (by decide +kernel)
theorem bw_655 : (Cond.static yX4_checkIndex : Cond) ∈ BW := bw_of 790 (by decide +kernel) (by decide +kernel)
theorem bw_656 : (Cond.code yX4_checkIndex cX4_checkIndex 1 none : Cond) ∈ BW := bw_of 791 (by decide +kernel) (by decide +kernel)
theorem bw_657 : (Cond.instanceMethod yX1_partOf : Cond) ∈ BW := bw_of 342 (by decide +kernel) (by decide +kernel)
theorem bw_658 : (Cond.selects RX1 yX1_partOf yX1_partOf : Cond) ∈ BW := bw_of 11 (by decide +kernel) (by decide +kernel)
theorem bw_659 : (Cond.code yX1_partOf cX1_partOf 5 (some .int) : Cond) ∈ BW := bw_of 343 (by decide +kernel) (by decide +kernel)
theorem bw_660 : (Cond.methodLink RX1 58 yX1_idAt : Cond) ∈ BW := bw_of 344 (by decide +kernel) (by decide +kernel)
theorem bw_661 : (Cond.methodLink RX1 61 yX1_stampAt : Cond) ∈ BW := bw_of 348 (by decide +kernel) (by decide +kernel)
theorem bw_662 : (Cond.methodLink RL 170 yX5_storedReading : Cond) ∈ BW := bw_of 1095 (by decide +kernel) (by decide +kernel)
theorem bw_663 : (Cond.instanceMethod yX5_storedReading : Cond) ∈ BW := bw_of 1096 (by decide +kernel) (by decide +kernel)
theorem bw_664 : (Cond.selects RX5 yX5_storedReading yX5_storedReading : Cond) ∈ BW := bw_of 1097 (by decide +kernel) (by decide +kernel)
theorem bw_665 : (Cond.code yX5_storedReading cX5_storedReading 4 (some .int) : Cond) ∈ BW := bw_of 1098 (by decide +kernel) (by decide +kernel)
theorem bw_666 : (Cond.methodLink RL 171 yX4_collected : Cond) ∈ BW := bw_of 312 (by decide +kernel) (by decide +kernel)
theorem bw_667 : (Cond.instanceMethod yX4_collected : Cond) ∈ BW := bw_of 313 (by decide +kernel) (by decide +kernel)
theorem bw_668 : (Cond.selects RX4 yX4_collected yX4_collected : Cond) ∈ BW := bw_of 314 (by decide +kernel) (by decide +kernel)
theorem bw_669 : (Cond.code yX4_collected cX4_collected 1 (some .int) : Cond) ∈ BW := bw_of 315 (by decide +kernel) (by decide +kernel)
theorem bw_670 : (Cond.methodLink RL 174 yX5_collected : Cond) ∈ BW := bw_of 1099 (by decide +kernel) (by decide +kernel)
theorem bw_671 : (Cond.instanceMethod yX5_collected : Cond) ∈ BW := bw_of 1100 (by decide +kernel) (by decide +kernel)
theorem bw_672 : (Cond.selects RX5 yX5_collected yX5_collected : Cond) ∈ BW := bw_of 1101 (by decide +kernel) (by decide +kernel)
theorem bw_673 : (Cond.code yX5_collected cX5_collected 1 (some .int) : Cond) ∈ BW := bw_of 1102 (by decide +kernel) (by decide +kernel)
theorem bw_674 : (Cond.methodLink RL 175 yL_collectedReading : Cond) ∈ BW := bw_of 794 (by decide +kernel) (by decide +kernel)
theorem bw_675 : (Cond.static yL_collectedReading : Cond) ∈ BW := bw_of 795 (by decide +kernel) (by decide +kernel)
theorem bw_676 : (Cond.codeWith yL_collectedReading cL_collectedReading 5 (some .int) [(0, 10, 13, 13), (0, 10, 17, 15)] : Cond) ∈ BW := bw_of 796 (by decide +kernel) (by decide +kernel)
theorem bw_677 : (Cond.methodLink RL 79 yX4_collectedReading : Cond) ∈ BW := bw_of 797 (by decide +kernel) (by decide +kernel)
theorem bw_678 : (Cond.instanceMethod yX4_collectedReading : Cond) ∈ BW := bw_of 798 (by decide +kernel) (by decide +kernel)
theorem bw_679 : (Cond.selects RX4 yX4_collectedReading yX4_collectedReading : Cond) ∈ BW := bw_of 799 (by decide +kernel) (by decide +kernel)
theorem bw_680 : (Cond.code yX4_collectedReading cX4_collectedReading 3 (some .int) : Cond) ∈ BW := bw_of 800 (by decide +kernel) (by decide +kernel)
theorem bw_681 : (Cond.methodLink RL 177 yX5_collectedReading : Cond) ∈ BW := bw_of 1103 (by decide +kernel) (by decide +kernel)
theorem bw_682 : (Cond.instanceMethod yX5_collectedReading : Cond) ∈ BW := bw_of 1104 (by decide +kernel) (by decide +kernel)
theorem bw_683 : (Cond.selects RX5 yX5_collectedReading yX5_collectedReading : Cond) ∈ BW := bw_of 1105 (by decide +kernel) (by decide +kernel)
theorem bw_684 : (Cond.code yX5_collectedReading cX5_collectedReading 3 (some .int) : Cond) ∈ BW := bw_of 1106 (by decide +kernel) (by decide +kernel)
theorem bw_685 : (Cond.methodLink RL 178 yL_copies : Cond) ∈ BW := bw_of 801 (by decide +kernel) (by decide +kernel)
theorem bw_686 : (Cond.static yL_copies : Cond) ∈ BW := bw_of 802 (by decide +kernel) (by decide +kernel)
theorem bw_687 : (Cond.codeWith yL_copies cL_copies 5 (some .int) [(0, 10, 13, 13)] : Cond) ∈ BW := bw_of 803 (by decide +kernel) (by decide +kernel)
theorem bw_688 : (Cond.methodLink RL 82 yX4_copies : Cond) ∈ BW := bw_of 804 (by decide +kernel) (by decide +kernel)
theorem bw_689 : (Cond.instanceMethod yX4_copies : Cond) ∈ BW := bw_of 805 (by decide +kernel) (by decide +kernel)
theorem bw_690 : (Cond.selects RX4 yX4_copies yX4_copies : Cond) ∈ BW := bw_of 806 (by decide +kernel) (by decide +kernel)
theorem bw_691 : (Cond.code yX4_copies cX4_copies 4 (some .int) : Cond) ∈ BW := bw_of 807 (by decide +kernel) (by decide +kernel)
theorem bw_692 : (Cond.instanceMethod yX1_findId : Cond) ∈ BW := bw_of 810 (by decide +kernel) (by decide +kernel)
theorem bw_693 : (Cond.selects RX1 yX1_findId yX1_findId : Cond) ∈ BW := bw_of 49 (by decide +kernel) (by decide +kernel)
theorem bw_694 : (Cond.code yX1_findId cX1_findId 4 (some .int) : Cond) ∈ BW := bw_of 811 (by decide +kernel) (by decide +kernel)
theorem bw_695 : (Cond.instanceMethod yX1_storesWith : Cond) ∈ BW := bw_of 814 (by decide +kernel) (by decide +kernel)
theorem bw_696 : (Cond.selects RX1 yX1_storesWith yX1_storesWith : Cond) ∈ BW := bw_of 50 (by decide +kernel) (by decide +kernel)
theorem bw_697 : (Cond.code yX1_storesWith cX1_storesWith 4 (some .int) : Cond) ∈ BW := bw_of 815 (by decide +kernel) (by decide +kernel)
theorem bw_698 : (Cond.methodLink RX1 64 yX1_holds : Cond) ∈ BW := bw_of 816 (by decide +kernel) (by decide +kernel)
theorem bw_699 : (Cond.methodLink RL 180 yX5_copies : Cond) ∈ BW := bw_of 1107 (by decide +kernel) (by decide +kernel)
theorem bw_700 : (Cond.instanceMethod yX5_copies : Cond) ∈ BW := bw_of 1108 (by decide +kernel) (by decide +kernel)
theorem bw_701 : (Cond.selects RX5 yX5_copies yX5_copies : Cond) ∈ BW := bw_of 1109 (by decide +kernel) (by decide +kernel)
theorem bw_702 : (Cond.code yX5_copies cX5_copies 7 (some .int) : Cond) ∈ BW := bw_of 1110 (by decide +kernel) (by decide +kernel)
theorem bw_703 : (Cond.methodLink RL 181 yX4_missing : Cond) ∈ BW := bw_of 323 (by decide +kernel) (by decide +kernel)
theorem bw_704 : (Cond.instanceMethod yX4_missing : Cond) ∈ BW := bw_of 324 (by decide +kernel) (by decide +kernel)
theorem bw_705 : (Cond.selects RX4 yX4_missing yX4_missing : Cond) ∈ BW := bw_of 325 (by decide +kernel) (by decide +kernel)
theorem bw_706 : (Cond.code yX4_missing cX4_missing 1 (some .int) : Cond) ∈ BW := bw_of 326 (by decide +kernel) (by decide +kernel)
theorem bw_707 : (Cond.instanceMethod yX1_missingCount : Cond) ∈ BW := bw_of 329 (by decide +kernel) (by decide +kernel)
theorem bw_708 : (Cond.selects RX1 yX1_missingCount yX1_missingCount : Cond) ∈ BW := bw_of 9 (by decide +kernel) (by decide +kernel)
theorem bw_709 : (Cond.code yX1_missingCount cX1_missingCount 1 (some .int) : Cond) ∈ BW := bw_of 330 (by decide +kernel) (by decide +kernel)
theorem bw_710 : (Cond.methodLink RL 184 yX5_missing : Cond) ∈ BW := bw_of 1111 (by decide +kernel) (by decide +kernel)
theorem bw_711 : (Cond.instanceMethod yX5_missing : Cond) ∈ BW := bw_of 1112 (by decide +kernel) (by decide +kernel)
theorem bw_712 : (Cond.selects RX5 yX5_missing yX5_missing : Cond) ∈ BW := bw_of 1113 (by decide +kernel) (by decide +kernel)
theorem bw_713 : (Cond.code yX5_missing cX5_missing 1 (some .int) : Cond) ∈ BW := bw_of 1114 (by decide +kernel) (by decide +kernel)
theorem bw_714 : (Cond.methodLink RL 185 yX4_wrongStamps : Cond) ∈ BW := bw_of 332 (by decide +kernel) (by decide +kernel)
theorem bw_715 : (Cond.instanceMethod yX4_wrongStamps : Cond) ∈ BW := bw_of 333 (by decide +kernel) (by decide +kernel)
theorem bw_716 : (Cond.selects RX4 yX4_wrongStamps yX4_wrongStamps : Cond) ∈ BW := bw_of 334 (by decide +kernel) (by decide +kernel)
theorem bw_717 : (Cond.code yX4_wrongStamps cX4_wrongStamps 1 (some .int) : Cond) ∈ BW := bw_of 335 (by decide +kernel) (by decide +kernel)
theorem bw_718 : (Cond.instanceMethod yX1_wrongStampCount : Cond) ∈ BW := bw_of 338 (by decide +kernel) (by decide +kernel)
theorem bw_719 : (Cond.selects RX1 yX1_wrongStampCount yX1_wrongStampCount : Cond) ∈ BW := bw_of 10 (by decide +kernel) (by decide +kernel)
theorem bw_720 : (Cond.code yX1_wrongStampCount cX1_wrongStampCount 3 (some .int) : Cond) ∈ BW := bw_of 339 (by decide +kernel) (by decide +kernel)
theorem bw_721 : (Cond.methodLink RX1 68 yX1_partOf : Cond) ∈ BW := bw_of 340 (by decide +kernel) (by decide +kernel)
theorem bw_722 : (Cond.methodLink RL 188 yX5_wrongStamps : Cond) ∈ BW := bw_of 1115 (by decide +kernel) (by decide +kernel)
theorem bw_723 : (Cond.instanceMethod yX5_wrongStamps : Cond) ∈ BW := bw_of 1116 (by decide +kernel) (by decide +kernel)
theorem bw_724 : (Cond.selects RX5 yX5_wrongStamps yX5_wrongStamps : Cond) ∈ BW := bw_of 1117 (by decide +kernel) (by decide +kernel)
theorem bw_725 : (Cond.code yX5_wrongStamps cX5_wrongStamps 3 (some .int) : Cond) ∈ BW := bw_of 1118 (by decide +kernel) (by decide +kernel)
theorem bw_726 : (Cond.methodLink RL 189 yX4_slotsToCollect : Cond) ∈ BW := bw_of 352 (by decide +kernel) (by decide +kernel)
theorem bw_727 : (Cond.instanceMethod yX4_slotsToCollect : Cond) ∈ BW := bw_of 353 (by decide +kernel) (by decide +kernel)
theorem bw_728 : (Cond.selects RX4 yX4_slotsToCollect yX4_slotsToCollect : Cond) ∈ BW := bw_of 354 (by decide +kernel) (by decide +kernel)
theorem bw_729 : (Cond.code yX4_slotsToCollect cX4_slotsToCollect 2 (some .int) : Cond) ∈ BW := bw_of 355 (by decide +kernel) (by decide +kernel)
theorem bw_730 : (Cond.methodLink RL 192 yX5_slotsToCollect : Cond) ∈ BW := bw_of 1119 (by decide +kernel) (by decide +kernel)
theorem bw_731 : (Cond.instanceMethod yX5_slotsToCollect : Cond) ∈ BW := bw_of 1120 (by decide +kernel) (by decide +kernel)
theorem bw_732 : (Cond.selects RX5 yX5_slotsToCollect yX5_slotsToCollect : Cond) ∈ BW := bw_of 1121 (by decide +kernel) (by decide +kernel)
theorem bw_733 : (Cond.code yX5_slotsToCollect cX5_slotsToCollect 3 (some .int) : Cond) ∈ BW := bw_of 1122 (by decide +kernel) (by decide +kernel)
theorem bw_734 : (Cond.methodLink RL 193 yL_ifRun : Cond) ∈ BW := bw_of 817 (by decide +kernel) (by decide +kernel)
theorem bw_735 : (Cond.static yL_ifRun : Cond) ∈ BW := bw_of 818 (by decide +kernel) (by decide +kernel)
theorem bw_736 : (Cond.codeWith yL_ifRun cL_ifRun 4 (some .int) [(0, 9, 12, 15)] : Cond) ∈ BW := bw_of 819 (by decide +kernel) (by decide +kernel)
theorem bw_737 : (Cond.methodLink RL 85 yX4_ifRun : Cond) ∈ BW := bw_of 820 (by decide +kernel) (by decide +kernel)
theorem bw_738 : (Cond.instanceMethod yX4_ifRun : Cond) ∈ BW := bw_of 821 (by decide +kernel) (by decide +kernel)
theorem bw_739 : (Cond.selects RX4 yX4_ifRun yX4_ifRun : Cond) ∈ BW := bw_of 822 (by decide +kernel) (by decide +kernel)
theorem bw_740 : (Cond.code yX4_ifRun cX4_ifRun 2 (some .int) : Cond) ∈ BW := bw_of 823 (by decide +kernel) (by decide +kernel)
theorem bw_741 : (Cond.methodLink RL 195 yX5_ifRun : Cond) ∈ BW := bw_of 1123 (by decide +kernel) (by decide +kernel)
theorem bw_742 : (Cond.instanceMethod yX5_ifRun : Cond) ∈ BW := bw_of 1124 (by decide +kernel) (by decide +kernel)
theorem bw_743 : (Cond.selects RX5 yX5_ifRun yX5_ifRun : Cond) ∈ BW := bw_of 1125 (by decide +kernel) (by decide +kernel)
theorem bw_744 : (Cond.code yX5_ifRun cX5_ifRun 2 (some .int) : Cond) ∈ BW := bw_of 1126 (by decide +kernel) (by decide +kernel)
theorem bw_745 : (Cond.methodLink RL 196 yX4_time : Cond) ∈ BW := bw_of 445 (by decide +kernel) (by decide +kernel)
theorem bw_746 : (Cond.instanceMethod yX4_time : Cond) ∈ BW := bw_of 446 (by decide +kernel) (by decide +kernel)
theorem bw_747 : (Cond.selects RX4 yX4_time yX4_time : Cond) ∈ BW := bw_of 447 (by decide +kernel) (by decide +kernel)
theorem bw_748 : (Cond.code yX4_time cX4_time 1 (some .int) : Cond) ∈ BW := bw_of 448 (by decide +kernel) (by decide +kernel)
theorem bw_749 : (Cond.methodLink RL 199 yX5_time : Cond) ∈ BW := bw_of 1127 (by decide +kernel) (by decide +kernel)
theorem bw_750 : (Cond.instanceMethod yX5_time : Cond) ∈ BW := bw_of 1128 (by decide +kernel) (by decide +kernel)
theorem bw_751 : (Cond.selects RX5 yX5_time yX5_time : Cond) ∈ BW := bw_of 1129 (by decide +kernel) (by decide +kernel)
theorem bw_752 : (Cond.code yX5_time cX5_time 1 (some .int) : Cond) ∈ BW := bw_of 1130 (by decide +kernel) (by decide +kernel)
theorem bw_753 : (Cond.methodLink RL 200 yL_count : Cond) ∈ BW := bw_of 824 (by decide +kernel) (by decide +kernel)
theorem bw_754 : (Cond.static yL_count : Cond) ∈ BW := bw_of 825 (by decide +kernel) (by decide +kernel)
theorem bw_755 : (Cond.codeWith yL_count cL_count 4 (some .int) [(0, 9, 12, 15)] : Cond) ∈ BW := bw_of 826 (by decide +kernel) (by decide +kernel)
theorem bw_756 : (Cond.methodLink RL 88 yX4_count : Cond) ∈ BW := bw_of 827 (by decide +kernel) (by decide +kernel)
theorem bw_757 : (Cond.instanceMethod yX4_count : Cond) ∈ BW := bw_of 828 (by decide +kernel) (by decide +kernel)
theorem bw_758 : (Cond.selects RX4 yX4_count yX4_count : Cond) ∈ BW := bw_of 829 (by decide +kernel) (by decide +kernel)
theorem bw_759 : (Cond.code yX4_count cX4_count 2 (some .int) : Cond) ∈ BW := bw_of 830 (by decide +kernel) (by decide +kernel)
theorem bw_760 : (Cond.methodLink RL 202 yX5_count : Cond) ∈ BW := bw_of 1131 (by decide +kernel) (by decide +kernel)
theorem bw_761 : (Cond.instanceMethod yX5_count : Cond) ∈ BW := bw_of 1132 (by decide +kernel) (by decide +kernel)
theorem bw_762 : (Cond.selects RX5 yX5_count yX5_count : Cond) ∈ BW := bw_of 1133 (by decide +kernel) (by decide +kernel)
theorem bw_763 : (Cond.code yX5_count cX5_count 2 (some .int) : Cond) ∈ BW := bw_of 1134 (by decide +kernel) (by decide +kernel)
theorem bw_764 : (Cond.methodLink RL 203 yX4_joined : Cond) ∈ BW := bw_of 449 (by decide +kernel) (by decide +kernel)
theorem bw_765 : (Cond.instanceMethod yX4_joined : Cond) ∈ BW := bw_of 450 (by decide +kernel) (by decide +kernel)
theorem bw_766 : (Cond.selects RX4 yX4_joined yX4_joined : Cond) ∈ BW := bw_of 451 (by decide +kernel) (by decide +kernel)
theorem bw_767 : (Cond.code yX4_joined cX4_joined 1 (some .double) : Cond) ∈ BW := bw_of 452 (by decide +kernel) (by decide +kernel)
theorem bw_768 : (Cond.constantDouble RX4 230 (4621256167635550208) : Cond) ∈ BW := bw_of 457 (by decide +kernel) (by decide +kernel)
theorem bw_769 : (Cond.instanceMethod yX2_joinedCount : Cond) ∈ BW := bw_of 455 (by decide +kernel) (by decide +kernel)
theorem bw_770 : (Cond.selects RX2 yX2_joinedCount yX2_joinedCount : Cond) ∈ BW := bw_of 31 (by decide +kernel) (by decide +kernel)
theorem bw_771 : (Cond.code yX2_joinedCount cX2_joinedCount 3 (some .int) : Cond) ∈ BW := bw_of 456 (by decide +kernel) (by decide +kernel)
theorem bw_772 : (Cond.methodLink RL 207 yX5_joined : Cond) ∈ BW := bw_of 1135 (by decide +kernel) (by decide +kernel)
theorem bw_773 : (Cond.instanceMethod yX5_joined : Cond) ∈ BW := bw_of 1136 (by decide +kernel) (by decide +kernel)
theorem bw_774 : (Cond.selects RX5 yX5_joined yX5_joined : Cond) ∈ BW := bw_of 1137 (by decide +kernel) (by decide +kernel)
theorem bw_775 : (Cond.code yX5_joined cX5_joined 3 (some .double) : Cond) ∈ BW := bw_of 1138 (by decide +kernel) (by decide +kernel)
theorem bw_776 : (Cond.constantDouble RX5 171 (4621256167635550208) : Cond) ∈ BW := bw_of 1139 (by decide +kernel) (by decide +kernel)
theorem bw_777 : (Cond.methodLink RL 208 yX4_savedStates : Cond) ∈ BW := bw_of 458 (by decide +kernel) (by decide +kernel)
theorem bw_778 : (Cond.instanceMethod yX4_savedStates : Cond) ∈ BW := bw_of 459 (by decide +kernel) (by decide +kernel)
theorem bw_779 : (Cond.selects RX4 yX4_savedStates yX4_savedStates : Cond) ∈ BW := bw_of 460 (by decide +kernel) (by decide +kernel)
theorem bw_780 : (Cond.code yX4_savedStates cX4_savedStates 1 (some .int) : Cond) ∈ BW := bw_of 461 (by decide +kernel) (by decide +kernel)
theorem bw_781 : (Cond.methodLink RL 211 yX5_savedStates : Cond) ∈ BW := bw_of 1140 (by decide +kernel) (by decide +kernel)
theorem bw_782 : (Cond.instanceMethod yX5_savedStates : Cond) ∈ BW := bw_of 1141 (by decide +kernel) (by decide +kernel)
theorem bw_783 : (Cond.selects RX5 yX5_savedStates yX5_savedStates : Cond) ∈ BW := bw_of 1142 (by decide +kernel) (by decide +kernel)
theorem bw_784 : (Cond.code yX5_savedStates cX5_savedStates 1 (some .int) : Cond) ∈ BW := bw_of 1143 (by decide +kernel) (by decide +kernel)
theorem bw_785 : (Cond.methodLink RL 212 yX4_textLength : Cond) ∈ BW := bw_of 462 (by decide +kernel) (by decide +kernel)
theorem bw_786 : (Cond.instanceMethod yX4_textLength : Cond) ∈ BW := bw_of 463 (by decide +kernel) (by decide +kernel)
theorem bw_787 : (Cond.selects RX4 yX4_textLength yX4_textLength : Cond) ∈ BW := bw_of 464 (by decide +kernel) (by decide +kernel)
theorem bw_788 : (Cond.code yX4_textLength cX4_textLength 1 (some .int) : Cond) ∈ BW := bw_of 465 (by decide +kernel) (by decide +kernel)
theorem bw_789 : (Cond.methodLink RL 215 yX5_textLength : Cond) ∈ BW := bw_of 1144 (by decide +kernel) (by decide +kernel)
theorem bw_790 : (Cond.instanceMethod yX5_textLength : Cond) ∈ BW := bw_of 1145 (by decide +kernel) (by decide +kernel)
theorem bw_791 : (Cond.selects RX5 yX5_textLength yX5_textLength : Cond) ∈ BW := bw_of 1146 (by decide +kernel) (by decide +kernel)
theorem bw_792 : (Cond.code yX5_textLength cX5_textLength 1 (some .int) : Cond) ∈ BW := bw_of 1147 (by decide +kernel) (by decide +kernel)
theorem bl_X0_0 : u_lay RX0 TX0 0 ∈ BW := bw_of 217 (by decide +kernel) (by decide +kernel)
theorem bl_X0_1 : u_lay RX0 TX0 1 ∈ BW := bw_of 219 (by decide +kernel) (by decide +kernel)
theorem bl_X0_2 : u_lay RX0 TX0 2 ∈ BW := bw_of 221 (by decide +kernel) (by decide +kernel)
theorem bl_X0 : ∀ w ∈ u_ws RX0 TX0 3, w ∈ BW := List.forall_mem_cons.mpr ⟨bl_X0_0, List.forall_mem_cons.mpr ⟨bl_X0_1, List.forall_mem_cons.mpr ⟨bl_X0_2, fun _ h => absurd h List.not_mem_nil⟩⟩⟩
theorem bl_X1_0 : u_lay RX1 TX1 0 ∈ BW := bw_of 127 (by decide +kernel) (by decide +kernel)
theorem bl_X1_1 : u_lay RX1 TX1 1 ∈ BW := bw_of 129 (by decide +kernel) (by decide +kernel)
theorem bl_X1_2 : u_lay RX1 TX1 2 ∈ BW := bw_of 131 (by decide +kernel) (by decide +kernel)
theorem bl_X1_3 : u_lay RX1 TX1 3 ∈ BW := bw_of 133 (by decide +kernel) (by decide +kernel)
theorem bl_X1_4 : u_lay RX1 TX1 4 ∈ BW := bw_of 135 (by decide +kernel) (by decide +kernel)
theorem bl_X1_5 : u_lay RX1 TX1 5 ∈ BW := bw_of 137 (by decide +kernel) (by decide +kernel)
theorem bl_X1_6 : u_lay RX1 TX1 6 ∈ BW := bw_of 139 (by decide +kernel) (by decide +kernel)
theorem bl_X1_7 : u_lay RX1 TX1 7 ∈ BW := bw_of 141 (by decide +kernel) (by decide +kernel)
theorem bl_X1 : ∀ w ∈ u_ws RX1 TX1 8, w ∈ BW := List.forall_mem_cons.mpr ⟨bl_X1_0, List.forall_mem_cons.mpr ⟨bl_X1_1, List.forall_mem_cons.mpr ⟨bl_X1_2, List.forall_mem_cons.mpr ⟨bl_X1_3, List.forall_mem_cons.mpr ⟨bl_X1_4, List.forall_mem_cons.mpr ⟨bl_X1_5, List.forall_mem_cons.mpr ⟨bl_X1_6, List.forall_mem_cons.mpr ⟨bl_X1_7, fun _ h => absurd h List.not_mem_nil⟩⟩⟩⟩⟩⟩⟩⟩
theorem bl_X2_0 : u_lay RX2 TX2 0 ∈ BW := bw_of 174 (by decide +kernel) (by decide +kernel)
theorem bl_X2_1 : u_lay RX2 TX2 1 ∈ BW := bw_of 176 (by decide +kernel) (by decide +kernel)
theorem bl_X2_2 : u_lay RX2 TX2 2 ∈ BW := bw_of 178 (by decide +kernel) (by decide +kernel)
theorem bl_X2_3 : u_lay RX2 TX2 3 ∈ BW := bw_of 180 (by decide +kernel) (by decide +kernel)
theorem bl_X2_4 : u_lay RX2 TX2 4 ∈ BW := bw_of 182 (by decide +kernel) (by decide +kernel)
theorem bl_X2_5 : u_lay RX2 TX2 5 ∈ BW := bw_of 184 (by decide +kernel) (by decide +kernel)
theorem bl_X2_6 : u_lay RX2 TX2 6 ∈ BW := bw_of 186 (by decide +kernel) (by decide +kernel)
theorem bl_X2_7 : u_lay RX2 TX2 7 ∈ BW := bw_of 188 (by decide +kernel) (by decide +kernel)
theorem bl_X2_8 : u_lay RX2 TX2 8 ∈ BW := bw_of 190 (by decide +kernel) (by decide +kernel)
theorem bl_X2_9 : u_lay RX2 TX2 9 ∈ BW := bw_of 192 (by decide +kernel) (by decide +kernel)
theorem bl_X2_10 : u_lay RX2 TX2 10 ∈ BW := bw_of 194 (by decide +kernel) (by decide +kernel)
theorem bl_X2_11 : u_lay RX2 TX2 11 ∈ BW := bw_of 196 (by decide +kernel) (by decide +kernel)
theorem bl_X2_12 : u_lay RX2 TX2 12 ∈ BW := bw_of 198 (by decide +kernel) (by decide +kernel)
theorem bl_X2_13 : u_lay RX2 TX2 13 ∈ BW := bw_of 200 (by decide +kernel) (by decide +kernel)
theorem bl_X2_14 : u_lay RX2 TX2 14 ∈ BW := bw_of 202 (by decide +kernel) (by decide +kernel)
theorem bl_X2 : ∀ w ∈ u_ws RX2 TX2 15, w ∈ BW := List.forall_mem_cons.mpr ⟨bl_X2_0, List.forall_mem_cons.mpr ⟨bl_X2_1, List.forall_mem_cons.mpr ⟨bl_X2_2, List.forall_mem_cons.mpr ⟨bl_X2_3, List.forall_mem_cons.mpr ⟨bl_X2_4, List.forall_mem_cons.mpr ⟨bl_X2_5, List.forall_mem_cons.mpr ⟨bl_X2_6, List.forall_mem_cons.mpr ⟨bl_X2_7, List.forall_mem_cons.mpr ⟨bl_X2_8, List.forall_mem_cons.mpr ⟨bl_X2_9, List.forall_mem_cons.mpr ⟨bl_X2_10, List.forall_mem_cons.mpr ⟨bl_X2_11, List.forall_mem_cons.mpr ⟨bl_X2_12, List.forall_mem_cons.mpr ⟨bl_X2_13, List.forall_mem_cons.mpr ⟨bl_X2_14, fun _ h => absurd h List.not_mem_nil⟩⟩⟩⟩⟩⟩⟩⟩⟩⟩⟩⟩⟩⟩⟩
theorem bl_X3_0 : u_lay RX3 TX3 0 ∈ BW := bw_of 243 (by decide +kernel) (by decide +kernel)
theorem bl_X3_1 : u_lay RX3 TX3 1 ∈ BW := bw_of 245 (by decide +kernel) (by decide +kernel)
theorem bl_X3_2 : u_lay RX3 TX3 2 ∈ BW := bw_of 247 (by decide +kernel) (by decide +kernel)
theorem bl_X3_3 : u_lay RX3 TX3 3 ∈ BW := bw_of 249 (by decide +kernel) (by decide +kernel)
theorem bl_X3_4 : u_lay RX3 TX3 4 ∈ BW := bw_of 251 (by decide +kernel) (by decide +kernel)
theorem bl_X3_5 : u_lay RX3 TX3 5 ∈ BW := bw_of 253 (by decide +kernel) (by decide +kernel)
theorem bl_X3_6 : u_lay RX3 TX3 6 ∈ BW := bw_of 255 (by decide +kernel) (by decide +kernel)
theorem bl_X3 : ∀ w ∈ u_ws RX3 TX3 7, w ∈ BW := List.forall_mem_cons.mpr ⟨bl_X3_0, List.forall_mem_cons.mpr ⟨bl_X3_1, List.forall_mem_cons.mpr ⟨bl_X3_2, List.forall_mem_cons.mpr ⟨bl_X3_3, List.forall_mem_cons.mpr ⟨bl_X3_4, List.forall_mem_cons.mpr ⟨bl_X3_5, List.forall_mem_cons.mpr ⟨bl_X3_6, fun _ h => absurd h List.not_mem_nil⟩⟩⟩⟩⟩⟩⟩
theorem bl_X4_0 : u_lay RX4 TX4 0 ∈ BW := bw_of 263 (by decide +kernel) (by decide +kernel)
theorem bl_X4_1 : u_lay RX4 TX4 1 ∈ BW := bw_of 265 (by decide +kernel) (by decide +kernel)
theorem bl_X4_2 : u_lay RX4 TX4 2 ∈ BW := bw_of 267 (by decide +kernel) (by decide +kernel)
theorem bl_X4_3 : u_lay RX4 TX4 3 ∈ BW := bw_of 269 (by decide +kernel) (by decide +kernel)
theorem bl_X4 : ∀ w ∈ u_ws RX4 TX4 4, w ∈ BW := List.forall_mem_cons.mpr ⟨bl_X4_0, List.forall_mem_cons.mpr ⟨bl_X4_1, List.forall_mem_cons.mpr ⟨bl_X4_2, List.forall_mem_cons.mpr ⟨bl_X4_3, fun _ h => absurd h List.not_mem_nil⟩⟩⟩⟩
theorem bl_X5_0 : u_lay RX5 TX5 0 ∈ BW := bw_of 850 (by decide +kernel) (by decide +kernel)
theorem bl_X5_1 : u_lay RX5 TX5 1 ∈ BW := bw_of 852 (by decide +kernel) (by decide +kernel)
theorem bl_X5_2 : u_lay RX5 TX5 2 ∈ BW := bw_of 854 (by decide +kernel) (by decide +kernel)
theorem bl_X5_3 : u_lay RX5 TX5 3 ∈ BW := bw_of 856 (by decide +kernel) (by decide +kernel)
theorem bl_X5_4 : u_lay RX5 TX5 4 ∈ BW := bw_of 858 (by decide +kernel) (by decide +kernel)
theorem bl_X5_5 : u_lay RX5 TX5 5 ∈ BW := bw_of 860 (by decide +kernel) (by decide +kernel)
theorem bl_X5_6 : u_lay RX5 TX5 6 ∈ BW := bw_of 862 (by decide +kernel) (by decide +kernel)
theorem bl_X5_7 : u_lay RX5 TX5 7 ∈ BW := bw_of 864 (by decide +kernel) (by decide +kernel)
theorem bl_X5_8 : u_lay RX5 TX5 8 ∈ BW := bw_of 866 (by decide +kernel) (by decide +kernel)
theorem bl_X5 : ∀ w ∈ u_ws RX5 TX5 9, w ∈ BW := List.forall_mem_cons.mpr ⟨bl_X5_0, List.forall_mem_cons.mpr ⟨bl_X5_1, List.forall_mem_cons.mpr ⟨bl_X5_2, List.forall_mem_cons.mpr ⟨bl_X5_3, List.forall_mem_cons.mpr ⟨bl_X5_4, List.forall_mem_cons.mpr ⟨bl_X5_5, List.forall_mem_cons.mpr ⟨bl_X5_6, List.forall_mem_cons.mpr ⟨bl_X5_7, List.forall_mem_cons.mpr ⟨bl_X5_8, fun _ h => absurd h List.not_mem_nil⟩⟩⟩⟩⟩⟩⟩⟩⟩
def nwOk (w : Cond) : Prop := (∃ a i b n d h, w = .fieldLinkNest a i b n d h) ∨ ∃ a i x h, w = .methodLinkNest a i x h
theorem nwF {a : String} {i : Nat} {b n d h : String} : nwOk (.fieldLinkNest a i b n d h) := Or.inl ⟨a, i, b, n, d, h, rfl⟩
theorem nwM {a : String} {i : Nat} {x : MethodName} {h : String} : nwOk (.methodLinkNest a i x h) := Or.inr ⟨a, i, x, h, rfl⟩
def NW : List Cond := [.methodLinkNest RX4 9 yX2_init "MeterNetwork", .methodLinkNest RX2 36 yX1_init "MeterNetwork", .fieldLinkNest RX2 89 "MeterNetwork$Readings" "taken" "I" "MeterNetwork", .fieldLinkNest RX4 207 "MeterNetwork$Readings" "taken" "I" "MeterNetwork", .fieldLinkNest RX4 164 "MeterNetwork$State" "parents" "[I" "MeterNetwork", .fieldLinkNest RX4 167 "MeterNetwork$State" "depths" "[I" "MeterNetwork", .fieldLinkNest RX4 173 "MeterNetwork$State" "lastHeard" "[I" "MeterNetwork", .fieldLinkNest RX4 70 "MeterNetwork$State" "offsets" "[I" "MeterNetwork", .fieldLinkNest RX4 74 "MeterNetwork$State" "faultsLeft" "[I" "MeterNetwork", .fieldLinkNest RX4 179 "MeterNetwork$State" "readings" "LMeterNetwork$Readings;" "MeterNetwork", .fieldLinkNest RX4 170 "MeterNetwork$State" "now" "I" "MeterNetwork", .fieldLinkNest RX4 77 "MeterNetwork$State" "patience" "I" "MeterNetwork", .fieldLinkNest RX4 210 "MeterNetwork$State" "sent" "I" "MeterNetwork", .fieldLinkNest RX4 213 "MeterNetwork$State" "duplicates" "I" "MeterNetwork", .fieldLinkNest RX4 216 "MeterNetwork$State" "refused" "I" "MeterNetwork", .fieldLinkNest RX4 219 "MeterNetwork$State" "lostAcknowledgements" "I" "MeterNetwork", .fieldLinkNest RX4 222 "MeterNetwork$State" "droppedParents" "I" "MeterNetwork", .methodLinkNest RX4 21 yX0_init "MeterNetwork", .fieldLinkNest RX4 157 "MeterNetwork$History" "size" "I" "MeterNetwork", .methodLinkNest RX4 28 yX3_init "MeterNetwork", .fieldLinkNest RX4 108 "MeterNetwork$TextBuffer" "length" "I" "MeterNetwork", .fieldLinkNest RX4 116 "MeterNetwork$TextBuffer" "position" "I" "MeterNetwork", .fieldLinkNest RX4 129 "MeterNetwork$TextBuffer" "kind" "C" "MeterNetwork", .fieldLinkNest RX4 133 "MeterNetwork$TextBuffer" "first" "I" "MeterNetwork", .fieldLinkNest RX4 136 "MeterNetwork$TextBuffer" "second" "I" "MeterNetwork", .fieldLinkNest RX4 142 "MeterNetwork$TextBuffer" "number" "I" "MeterNetwork", .methodLinkNest RX4 111 yX3_findError "MeterNetwork", .methodLinkNest RX4 183 yX1_sizeOf "MeterNetwork", .methodLinkNest RX4 201 yX1_missingCount "MeterNetwork", .methodLinkNest RX4 204 yX1_wrongStampCount "MeterNetwork", .methodLinkNest RX4 151 yX2_copyFrom "MeterNetwork", .methodLinkNest RX2 45 yX4_copyRow_ "MeterNetwork", .methodLinkNest RX2 49 yX4_copyRow "MeterNetwork", .methodLinkNest RX2 52 yX1_copyFrom "MeterNetwork", .methodLinkNest RX1 33 yX4_copyRow "MeterNetwork", .methodLinkNest RX4 94 yX2_runSlots "MeterNetwork", .methodLinkNest RX2 99 yX1_sizeOf "MeterNetwork", .methodLinkNest RX2 74 yX4_isNode "MeterNetwork", .methodLinkNest RX2 128 yX1_shiftStamps "MeterNetwork", .methodLinkNest RX2 137 yX1_idAt "MeterNetwork", .methodLinkNest RX2 140 yX1_holds "MeterNetwork", .methodLinkNest RX2 92 yX1_isFull "MeterNetwork", .methodLinkNest RX2 143 yX1_stampAt "MeterNetwork", .methodLinkNest RX2 146 yX1_put "MeterNetwork", .methodLinkNest RX1 72 yX4_isNode "MeterNetwork", .methodLinkNest RX2 134 yX1_removeFirst "MeterNetwork", .methodLinkNest RX4 227 yX2_joinedCount "MeterNetwork", .methodLinkNest RX4 44 yX0_save "MeterNetwork", .methodLinkNest RX0 30 yX2_init "MeterNetwork", .methodLinkNest RX0 31 yX2_copyFrom "MeterNetwork", .methodLinkNest RX4 48 yX2_setLink "MeterNetwork", .methodLinkNest RX4 52 yX2_linkCount "MeterNetwork", .methodLinkNest RX4 56 yX2_setPower "MeterNetwork", .methodLinkNest RX4 60 yX2_onCount "MeterNetwork", .methodLinkNest RX4 81 yX2_canTake "MeterNetwork", .methodLinkNest RX4 90 yX2_takeReading "MeterNetwork", .methodLinkNest RX2 95 yX1_takeAt "MeterNetwork", .methodLinkNest RX4 98 yX3_isFull "MeterNetwork", .methodLinkNest RX4 104 yX3_append "MeterNetwork", .methodLinkNest RX4 119 yX3_readCommand "MeterNetwork", .methodLinkNest RX4 139 yX2_isOn "MeterNetwork", .methodLinkNest RX4 125 yX3_readSign "MeterNetwork", .methodLinkNest RX4 145 yX0_newest "MeterNetwork", .methodLinkNest RX4 154 yX0_removeNewest "MeterNetwork", .methodLinkNest RX4 160 yX2_areConnected "MeterNetwork", .methodLinkNest RX4 176 yX2_hopsToCollector "MeterNetwork", .methodLinkNest RX4 191 yX1_partOf "MeterNetwork", .methodLinkNest RX4 195 yX1_findId "MeterNetwork", .methodLinkNest RX4 198 yX1_storesWith "MeterNetwork"]
theorem NW_ok : ∀ w ∈ NW, nwOk w := List.forall_mem_cons.mpr ⟨nwM, List.forall_mem_cons.mpr ⟨nwM, List.forall_mem_cons.mpr ⟨nwF, List.forall_mem_cons.mpr ⟨nwF, List.forall_mem_cons.mpr ⟨nwF, List.forall_mem_cons.mpr ⟨nwF, List.forall_mem_cons.mpr ⟨nwF, List.forall_mem_cons.mpr ⟨nwF, List.forall_mem_cons.mpr ⟨nwF, List.forall_mem_cons.mpr ⟨nwF, List.forall_mem_cons.mpr ⟨nwF, List.forall_mem_cons.mpr ⟨nwF, List.forall_mem_cons.mpr ⟨nwF, List.forall_mem_cons.mpr ⟨nwF, List.forall_mem_cons.mpr ⟨nwF, List.forall_mem_cons.mpr ⟨nwF, List.forall_mem_cons.mpr ⟨nwF, List.forall_mem_cons.mpr ⟨nwM, List.forall_mem_cons.mpr ⟨nwF, List.forall_mem_cons.mpr ⟨nwM, List.forall_mem_cons.mpr ⟨nwF, List.forall_mem_cons.mpr ⟨nwF, List.forall_mem_cons.mpr ⟨nwF, List.forall_mem_cons.mpr ⟨nwF, List.forall_mem_cons.mpr ⟨nwF, List.forall_mem_cons.mpr ⟨nwF, List.forall_mem_cons.mpr ⟨nwM, List.forall_mem_cons.mpr ⟨nwM, List.forall_mem_cons.mpr ⟨nwM, List.forall_mem_cons.mpr ⟨nwM, List.forall_mem_cons.mpr ⟨nwM, List.forall_mem_cons.mpr ⟨nwM, List.forall_mem_cons.mpr ⟨nwM, List.forall_mem_cons.mpr ⟨nwM, List.forall_mem_cons.mpr ⟨nwM, List.forall_mem_cons.mpr ⟨nwM, List.forall_mem_cons.mpr ⟨nwM, List.forall_mem_cons.mpr ⟨nwM, List.forall_mem_cons.mpr ⟨nwM, List.forall_mem_cons.mpr ⟨nwM, List.forall_mem_cons.mpr ⟨nwM, List.forall_mem_cons.mpr ⟨nwM, List.forall_mem_cons.mpr ⟨nwM, List.forall_mem_cons.mpr ⟨nwM, List.forall_mem_cons.mpr ⟨nwM, List.forall_mem_cons.mpr ⟨nwM, List.forall_mem_cons.mpr ⟨nwM, List.forall_mem_cons.mpr ⟨nwM, List.forall_mem_cons.mpr ⟨nwM, List.forall_mem_cons.mpr ⟨nwM, List.forall_mem_cons.mpr ⟨nwM, List.forall_mem_cons.mpr ⟨nwM, List.forall_mem_cons.mpr ⟨nwM, List.forall_mem_cons.mpr ⟨nwM, List.forall_mem_cons.mpr ⟨nwM, List.forall_mem_cons.mpr ⟨nwM, List.forall_mem_cons.mpr ⟨nwM, List.forall_mem_cons.mpr ⟨nwM, List.forall_mem_cons.mpr ⟨nwM, List.forall_mem_cons.mpr ⟨nwM, List.forall_mem_cons.mpr ⟨nwM, List.forall_mem_cons.mpr ⟨nwM, List.forall_mem_cons.mpr ⟨nwM, List.forall_mem_cons.mpr ⟨nwM, List.forall_mem_cons.mpr ⟨nwM, List.forall_mem_cons.mpr ⟨nwM, List.forall_mem_cons.mpr ⟨nwM, List.forall_mem_cons.mpr ⟨nwM, List.forall_mem_cons.mpr ⟨nwM, fun _ h => absurd h List.not_mem_nil⟩⟩⟩⟩⟩⟩⟩⟩⟩⟩⟩⟩⟩⟩⟩⟩⟩⟩⟩⟩⟩⟩⟩⟩⟩⟩⟩⟩⟩⟩⟩⟩⟩⟩⟩⟩⟩⟩⟩⟩⟩⟩⟩⟩⟩⟩⟩⟩⟩⟩⟩⟩⟩⟩⟩⟩⟩⟩⟩⟩⟩⟩⟩⟩⟩⟩⟩⟩⟩
theorem nt_0 : (.methodLinkNest RX4 9 yX2_init "MeterNetwork" : Cond) ∈ lw_tbl := List.mem_append_right _ (List.mem_of_getElem? (i := 25) (by decide +kernel))
theorem nw_0 : (.methodLinkNest RX4 9 yX2_init "MeterNetwork" : Cond) ∈ NW := List.mem_of_getElem? (i := 0) rfl
theorem nt_1 : (.methodLinkNest RX2 36 yX1_init "MeterNetwork" : Cond) ∈ lw_tbl := List.mem_append_right _ (List.mem_of_getElem? (i := 31) (by decide +kernel))
theorem nw_1 : (.methodLinkNest RX2 36 yX1_init "MeterNetwork" : Cond) ∈ NW := List.mem_of_getElem? (i := 1) rfl
theorem nt_2 : (.fieldLinkNest RX2 89 "MeterNetwork$Readings" "taken" "I" "MeterNetwork" : Cond) ∈ lw_tbl := List.mem_append_right _ (List.mem_of_getElem? (i := 40) (by decide +kernel))
theorem nw_2 : (.fieldLinkNest RX2 89 "MeterNetwork$Readings" "taken" "I" "MeterNetwork" : Cond) ∈ NW := List.mem_of_getElem? (i := 2) rfl
theorem nt_3 : (.fieldLinkNest RX4 207 "MeterNetwork$Readings" "taken" "I" "MeterNetwork" : Cond) ∈ lw_tbl := List.mem_append_right _ (List.mem_of_getElem? (i := 41) (by decide +kernel))
theorem nw_3 : (.fieldLinkNest RX4 207 "MeterNetwork$Readings" "taken" "I" "MeterNetwork" : Cond) ∈ NW := List.mem_of_getElem? (i := 3) rfl
theorem nt_4 : (.fieldLinkNest RX4 164 "MeterNetwork$State" "parents" "[I" "MeterNetwork" : Cond) ∈ lw_tbl := List.mem_append_right _ (List.mem_of_getElem? (i := 67) (by decide +kernel))
theorem nw_4 : (.fieldLinkNest RX4 164 "MeterNetwork$State" "parents" "[I" "MeterNetwork" : Cond) ∈ NW := List.mem_of_getElem? (i := 4) rfl
theorem nt_5 : (.fieldLinkNest RX4 167 "MeterNetwork$State" "depths" "[I" "MeterNetwork" : Cond) ∈ lw_tbl := List.mem_append_right _ (List.mem_of_getElem? (i := 69) (by decide +kernel))
theorem nw_5 : (.fieldLinkNest RX4 167 "MeterNetwork$State" "depths" "[I" "MeterNetwork" : Cond) ∈ NW := List.mem_of_getElem? (i := 5) rfl
theorem nt_6 : (.fieldLinkNest RX4 173 "MeterNetwork$State" "lastHeard" "[I" "MeterNetwork" : Cond) ∈ lw_tbl := List.mem_append_right _ (List.mem_of_getElem? (i := 71) (by decide +kernel))
theorem nw_6 : (.fieldLinkNest RX4 173 "MeterNetwork$State" "lastHeard" "[I" "MeterNetwork" : Cond) ∈ NW := List.mem_of_getElem? (i := 6) rfl
theorem nt_7 : (.fieldLinkNest RX4 70 "MeterNetwork$State" "offsets" "[I" "MeterNetwork" : Cond) ∈ lw_tbl := List.mem_append_right _ (List.mem_of_getElem? (i := 73) (by decide +kernel))
theorem nw_7 : (.fieldLinkNest RX4 70 "MeterNetwork$State" "offsets" "[I" "MeterNetwork" : Cond) ∈ NW := List.mem_of_getElem? (i := 7) rfl
theorem nt_8 : (.fieldLinkNest RX4 74 "MeterNetwork$State" "faultsLeft" "[I" "MeterNetwork" : Cond) ∈ lw_tbl := List.mem_append_right _ (List.mem_of_getElem? (i := 75) (by decide +kernel))
theorem nw_8 : (.fieldLinkNest RX4 74 "MeterNetwork$State" "faultsLeft" "[I" "MeterNetwork" : Cond) ∈ NW := List.mem_of_getElem? (i := 8) rfl
theorem nt_9 : (.fieldLinkNest RX4 179 "MeterNetwork$State" "readings" "LMeterNetwork$Readings;" "MeterNetwork" : Cond) ∈ lw_tbl := List.mem_append_right _ (List.mem_of_getElem? (i := 77) (by decide +kernel))
theorem nw_9 : (.fieldLinkNest RX4 179 "MeterNetwork$State" "readings" "LMeterNetwork$Readings;" "MeterNetwork" : Cond) ∈ NW := List.mem_of_getElem? (i := 9) rfl
theorem nt_10 : (.fieldLinkNest RX4 170 "MeterNetwork$State" "now" "I" "MeterNetwork" : Cond) ∈ lw_tbl := List.mem_append_right _ (List.mem_of_getElem? (i := 79) (by decide +kernel))
theorem nw_10 : (.fieldLinkNest RX4 170 "MeterNetwork$State" "now" "I" "MeterNetwork" : Cond) ∈ NW := List.mem_of_getElem? (i := 10) rfl
theorem nt_11 : (.fieldLinkNest RX4 77 "MeterNetwork$State" "patience" "I" "MeterNetwork" : Cond) ∈ lw_tbl := List.mem_append_right _ (List.mem_of_getElem? (i := 81) (by decide +kernel))
theorem nw_11 : (.fieldLinkNest RX4 77 "MeterNetwork$State" "patience" "I" "MeterNetwork" : Cond) ∈ NW := List.mem_of_getElem? (i := 11) rfl
theorem nt_12 : (.fieldLinkNest RX4 210 "MeterNetwork$State" "sent" "I" "MeterNetwork" : Cond) ∈ lw_tbl := List.mem_append_right _ (List.mem_of_getElem? (i := 83) (by decide +kernel))
theorem nw_12 : (.fieldLinkNest RX4 210 "MeterNetwork$State" "sent" "I" "MeterNetwork" : Cond) ∈ NW := List.mem_of_getElem? (i := 12) rfl
theorem nt_13 : (.fieldLinkNest RX4 213 "MeterNetwork$State" "duplicates" "I" "MeterNetwork" : Cond) ∈ lw_tbl := List.mem_append_right _ (List.mem_of_getElem? (i := 85) (by decide +kernel))
theorem nw_13 : (.fieldLinkNest RX4 213 "MeterNetwork$State" "duplicates" "I" "MeterNetwork" : Cond) ∈ NW := List.mem_of_getElem? (i := 13) rfl
theorem nt_14 : (.fieldLinkNest RX4 216 "MeterNetwork$State" "refused" "I" "MeterNetwork" : Cond) ∈ lw_tbl := List.mem_append_right _ (List.mem_of_getElem? (i := 87) (by decide +kernel))
theorem nw_14 : (.fieldLinkNest RX4 216 "MeterNetwork$State" "refused" "I" "MeterNetwork" : Cond) ∈ NW := List.mem_of_getElem? (i := 14) rfl
theorem nt_15 : (.fieldLinkNest RX4 219 "MeterNetwork$State" "lostAcknowledgements" "I" "MeterNetwork" : Cond) ∈ lw_tbl := List.mem_append_right _ (List.mem_of_getElem? (i := 89) (by decide +kernel))
theorem nw_15 : (.fieldLinkNest RX4 219 "MeterNetwork$State" "lostAcknowledgements" "I" "MeterNetwork" : Cond) ∈ NW := List.mem_of_getElem? (i := 15) rfl
theorem nt_16 : (.fieldLinkNest RX4 222 "MeterNetwork$State" "droppedParents" "I" "MeterNetwork" : Cond) ∈ lw_tbl := List.mem_append_right _ (List.mem_of_getElem? (i := 91) (by decide +kernel))
theorem nw_16 : (.fieldLinkNest RX4 222 "MeterNetwork$State" "droppedParents" "I" "MeterNetwork" : Cond) ∈ NW := List.mem_of_getElem? (i := 16) rfl
theorem nt_17 : (.methodLinkNest RX4 21 yX0_init "MeterNetwork" : Cond) ∈ lw_tbl := List.mem_append_right _ (List.mem_of_getElem? (i := 125) (by decide +kernel))
theorem nw_17 : (.methodLinkNest RX4 21 yX0_init "MeterNetwork" : Cond) ∈ NW := List.mem_of_getElem? (i := 17) rfl
theorem nt_18 : (.fieldLinkNest RX4 157 "MeterNetwork$History" "size" "I" "MeterNetwork" : Cond) ∈ lw_tbl := List.mem_append_right _ (List.mem_of_getElem? (i := 134) (by decide +kernel))
theorem nw_18 : (.fieldLinkNest RX4 157 "MeterNetwork$History" "size" "I" "MeterNetwork" : Cond) ∈ NW := List.mem_of_getElem? (i := 18) rfl
theorem nt_19 : (.methodLinkNest RX4 28 yX3_init "MeterNetwork" : Cond) ∈ lw_tbl := List.mem_append_right _ (List.mem_of_getElem? (i := 144) (by decide +kernel))
theorem nw_19 : (.methodLinkNest RX4 28 yX3_init "MeterNetwork" : Cond) ∈ NW := List.mem_of_getElem? (i := 19) rfl
theorem nt_20 : (.fieldLinkNest RX4 108 "MeterNetwork$TextBuffer" "length" "I" "MeterNetwork" : Cond) ∈ lw_tbl := List.mem_append_right _ (List.mem_of_getElem? (i := 150) (by decide +kernel))
theorem nw_20 : (.fieldLinkNest RX4 108 "MeterNetwork$TextBuffer" "length" "I" "MeterNetwork" : Cond) ∈ NW := List.mem_of_getElem? (i := 20) rfl
theorem nt_21 : (.fieldLinkNest RX4 116 "MeterNetwork$TextBuffer" "position" "I" "MeterNetwork" : Cond) ∈ lw_tbl := List.mem_append_right _ (List.mem_of_getElem? (i := 152) (by decide +kernel))
theorem nw_21 : (.fieldLinkNest RX4 116 "MeterNetwork$TextBuffer" "position" "I" "MeterNetwork" : Cond) ∈ NW := List.mem_of_getElem? (i := 21) rfl
theorem nt_22 : (.fieldLinkNest RX4 129 "MeterNetwork$TextBuffer" "kind" "C" "MeterNetwork" : Cond) ∈ lw_tbl := List.mem_append_right _ (List.mem_of_getElem? (i := 154) (by decide +kernel))
theorem nw_22 : (.fieldLinkNest RX4 129 "MeterNetwork$TextBuffer" "kind" "C" "MeterNetwork" : Cond) ∈ NW := List.mem_of_getElem? (i := 22) rfl
theorem nt_23 : (.fieldLinkNest RX4 133 "MeterNetwork$TextBuffer" "first" "I" "MeterNetwork" : Cond) ∈ lw_tbl := List.mem_append_right _ (List.mem_of_getElem? (i := 156) (by decide +kernel))
theorem nw_23 : (.fieldLinkNest RX4 133 "MeterNetwork$TextBuffer" "first" "I" "MeterNetwork" : Cond) ∈ NW := List.mem_of_getElem? (i := 23) rfl
theorem nt_24 : (.fieldLinkNest RX4 136 "MeterNetwork$TextBuffer" "second" "I" "MeterNetwork" : Cond) ∈ lw_tbl := List.mem_append_right _ (List.mem_of_getElem? (i := 158) (by decide +kernel))
theorem nw_24 : (.fieldLinkNest RX4 136 "MeterNetwork$TextBuffer" "second" "I" "MeterNetwork" : Cond) ∈ NW := List.mem_of_getElem? (i := 24) rfl
theorem nt_25 : (.fieldLinkNest RX4 142 "MeterNetwork$TextBuffer" "number" "I" "MeterNetwork" : Cond) ∈ lw_tbl := List.mem_append_right _ (List.mem_of_getElem? (i := 160) (by decide +kernel))
theorem nw_25 : (.fieldLinkNest RX4 142 "MeterNetwork$TextBuffer" "number" "I" "MeterNetwork" : Cond) ∈ NW := List.mem_of_getElem? (i := 25) rfl
theorem nt_26 : (.methodLinkNest RX4 111 yX3_findError "MeterNetwork" : Cond) ∈ lw_tbl := List.mem_append_right _ (List.mem_of_getElem? (i := 198) (by decide +kernel))
theorem nw_26 : (.methodLinkNest RX4 111 yX3_findError "MeterNetwork" : Cond) ∈ NW := List.mem_of_getElem? (i := 26) rfl
theorem nt_27 : (.methodLinkNest RX4 183 yX1_sizeOf "MeterNetwork" : Cond) ∈ lw_tbl := List.mem_append_right _ (List.mem_of_getElem? (i := 234) (by decide +kernel))
theorem nw_27 : (.methodLinkNest RX4 183 yX1_sizeOf "MeterNetwork" : Cond) ∈ NW := List.mem_of_getElem? (i := 27) rfl
theorem nt_28 : (.methodLinkNest RX4 201 yX1_missingCount "MeterNetwork" : Cond) ∈ lw_tbl := List.mem_append_right _ (List.mem_of_getElem? (i := 245) (by decide +kernel))
theorem nw_28 : (.methodLinkNest RX4 201 yX1_missingCount "MeterNetwork" : Cond) ∈ NW := List.mem_of_getElem? (i := 28) rfl
theorem nt_29 : (.methodLinkNest RX4 204 yX1_wrongStampCount "MeterNetwork" : Cond) ∈ lw_tbl := List.mem_append_right _ (List.mem_of_getElem? (i := 254) (by decide +kernel))
theorem nw_29 : (.methodLinkNest RX4 204 yX1_wrongStampCount "MeterNetwork" : Cond) ∈ NW := List.mem_of_getElem? (i := 29) rfl
theorem nt_30 : (.methodLinkNest RX4 151 yX2_copyFrom "MeterNetwork" : Cond) ∈ lw_tbl := List.mem_append_right _ (List.mem_of_getElem? (i := 274) (by decide +kernel))
theorem nw_30 : (.methodLinkNest RX4 151 yX2_copyFrom "MeterNetwork" : Cond) ∈ NW := List.mem_of_getElem? (i := 30) rfl
theorem nt_31 : (.methodLinkNest RX2 45 yX4_copyRow_ "MeterNetwork" : Cond) ∈ lw_tbl := List.mem_append_right _ (List.mem_of_getElem? (i := 278) (by decide +kernel))
theorem nw_31 : (.methodLinkNest RX2 45 yX4_copyRow_ "MeterNetwork" : Cond) ∈ NW := List.mem_of_getElem? (i := 31) rfl
theorem nt_32 : (.methodLinkNest RX2 49 yX4_copyRow "MeterNetwork" : Cond) ∈ lw_tbl := List.mem_append_right _ (List.mem_of_getElem? (i := 285) (by decide +kernel))
theorem nw_32 : (.methodLinkNest RX2 49 yX4_copyRow "MeterNetwork" : Cond) ∈ NW := List.mem_of_getElem? (i := 32) rfl
theorem nt_33 : (.methodLinkNest RX2 52 yX1_copyFrom "MeterNetwork" : Cond) ∈ lw_tbl := List.mem_append_right _ (List.mem_of_getElem? (i := 288) (by decide +kernel))
theorem nw_33 : (.methodLinkNest RX2 52 yX1_copyFrom "MeterNetwork" : Cond) ∈ NW := List.mem_of_getElem? (i := 33) rfl
theorem nt_34 : (.methodLinkNest RX1 33 yX4_copyRow "MeterNetwork" : Cond) ∈ lw_tbl := List.mem_append_right _ (List.mem_of_getElem? (i := 292) (by decide +kernel))
theorem nw_34 : (.methodLinkNest RX1 33 yX4_copyRow "MeterNetwork" : Cond) ∈ NW := List.mem_of_getElem? (i := 34) rfl
theorem nt_35 : (.methodLinkNest RX4 94 yX2_runSlots "MeterNetwork" : Cond) ∈ lw_tbl := List.mem_append_right _ (List.mem_of_getElem? (i := 293) (by decide +kernel))
theorem nw_35 : (.methodLinkNest RX4 94 yX2_runSlots "MeterNetwork" : Cond) ∈ NW := List.mem_of_getElem? (i := 35) rfl
theorem nt_36 : (.methodLinkNest RX2 99 yX1_sizeOf "MeterNetwork" : Cond) ∈ lw_tbl := List.mem_append_right _ (List.mem_of_getElem? (i := 297) (by decide +kernel))
theorem nw_36 : (.methodLinkNest RX2 99 yX1_sizeOf "MeterNetwork" : Cond) ∈ NW := List.mem_of_getElem? (i := 36) rfl
theorem nt_37 : (.methodLinkNest RX2 74 yX4_isNode "MeterNetwork" : Cond) ∈ lw_tbl := List.mem_append_right _ (List.mem_of_getElem? (i := 321) (by decide +kernel))
theorem nw_37 : (.methodLinkNest RX2 74 yX4_isNode "MeterNetwork" : Cond) ∈ NW := List.mem_of_getElem? (i := 37) rfl
theorem nt_38 : (.methodLinkNest RX2 128 yX1_shiftStamps "MeterNetwork" : Cond) ∈ lw_tbl := List.mem_append_right _ (List.mem_of_getElem? (i := 332) (by decide +kernel))
theorem nw_38 : (.methodLinkNest RX2 128 yX1_shiftStamps "MeterNetwork" : Cond) ∈ NW := List.mem_of_getElem? (i := 38) rfl
theorem nt_39 : (.methodLinkNest RX2 137 yX1_idAt "MeterNetwork" : Cond) ∈ lw_tbl := List.mem_append_right _ (List.mem_of_getElem? (i := 344) (by decide +kernel))
theorem nw_39 : (.methodLinkNest RX2 137 yX1_idAt "MeterNetwork" : Cond) ∈ NW := List.mem_of_getElem? (i := 39) rfl
theorem nt_40 : (.methodLinkNest RX2 140 yX1_holds "MeterNetwork" : Cond) ∈ lw_tbl := List.mem_append_right _ (List.mem_of_getElem? (i := 345) (by decide +kernel))
theorem nw_40 : (.methodLinkNest RX2 140 yX1_holds "MeterNetwork" : Cond) ∈ NW := List.mem_of_getElem? (i := 40) rfl
theorem nt_41 : (.methodLinkNest RX2 92 yX1_isFull "MeterNetwork" : Cond) ∈ lw_tbl := List.mem_append_right _ (List.mem_of_getElem? (i := 349) (by decide +kernel))
theorem nw_41 : (.methodLinkNest RX2 92 yX1_isFull "MeterNetwork" : Cond) ∈ NW := List.mem_of_getElem? (i := 41) rfl
theorem nt_42 : (.methodLinkNest RX2 143 yX1_stampAt "MeterNetwork" : Cond) ∈ lw_tbl := List.mem_append_right _ (List.mem_of_getElem? (i := 353) (by decide +kernel))
theorem nw_42 : (.methodLinkNest RX2 143 yX1_stampAt "MeterNetwork" : Cond) ∈ NW := List.mem_of_getElem? (i := 42) rfl
theorem nt_43 : (.methodLinkNest RX2 146 yX1_put "MeterNetwork" : Cond) ∈ lw_tbl := List.mem_append_right _ (List.mem_of_getElem? (i := 354) (by decide +kernel))
theorem nw_43 : (.methodLinkNest RX2 146 yX1_put "MeterNetwork" : Cond) ∈ NW := List.mem_of_getElem? (i := 43) rfl
theorem nt_44 : (.methodLinkNest RX1 72 yX4_isNode "MeterNetwork" : Cond) ∈ lw_tbl := List.mem_append_right _ (List.mem_of_getElem? (i := 358) (by decide +kernel))
theorem nw_44 : (.methodLinkNest RX1 72 yX4_isNode "MeterNetwork" : Cond) ∈ NW := List.mem_of_getElem? (i := 44) rfl
theorem nt_45 : (.methodLinkNest RX2 134 yX1_removeFirst "MeterNetwork" : Cond) ∈ lw_tbl := List.mem_append_right _ (List.mem_of_getElem? (i := 359) (by decide +kernel))
theorem nw_45 : (.methodLinkNest RX2 134 yX1_removeFirst "MeterNetwork" : Cond) ∈ NW := List.mem_of_getElem? (i := 45) rfl
theorem nt_46 : (.methodLinkNest RX4 227 yX2_joinedCount "MeterNetwork" : Cond) ∈ lw_tbl := List.mem_append_right _ (List.mem_of_getElem? (i := 371) (by decide +kernel))
theorem nw_46 : (.methodLinkNest RX4 227 yX2_joinedCount "MeterNetwork" : Cond) ∈ NW := List.mem_of_getElem? (i := 46) rfl
theorem nt_47 : (.methodLinkNest RX4 44 yX0_save "MeterNetwork" : Cond) ∈ lw_tbl := List.mem_append_right _ (List.mem_of_getElem? (i := 481) (by decide +kernel))
theorem nw_47 : (.methodLinkNest RX4 44 yX0_save "MeterNetwork" : Cond) ∈ NW := List.mem_of_getElem? (i := 47) rfl
theorem nt_48 : (.methodLinkNest RX0 30 yX2_init "MeterNetwork" : Cond) ∈ lw_tbl := List.mem_append_right _ (List.mem_of_getElem? (i := 486) (by decide +kernel))
theorem nw_48 : (.methodLinkNest RX0 30 yX2_init "MeterNetwork" : Cond) ∈ NW := List.mem_of_getElem? (i := 48) rfl
theorem nt_49 : (.methodLinkNest RX0 31 yX2_copyFrom "MeterNetwork" : Cond) ∈ lw_tbl := List.mem_append_right _ (List.mem_of_getElem? (i := 487) (by decide +kernel))
theorem nw_49 : (.methodLinkNest RX0 31 yX2_copyFrom "MeterNetwork" : Cond) ∈ NW := List.mem_of_getElem? (i := 49) rfl
theorem nt_50 : (.methodLinkNest RX4 48 yX2_setLink "MeterNetwork" : Cond) ∈ lw_tbl := List.mem_append_right _ (List.mem_of_getElem? (i := 488) (by decide +kernel))
theorem nw_50 : (.methodLinkNest RX4 48 yX2_setLink "MeterNetwork" : Cond) ∈ NW := List.mem_of_getElem? (i := 50) rfl
theorem nt_51 : (.methodLinkNest RX4 52 yX2_linkCount "MeterNetwork" : Cond) ∈ lw_tbl := List.mem_append_right _ (List.mem_of_getElem? (i := 492) (by decide +kernel))
theorem nw_51 : (.methodLinkNest RX4 52 yX2_linkCount "MeterNetwork" : Cond) ∈ NW := List.mem_of_getElem? (i := 51) rfl
theorem nt_52 : (.methodLinkNest RX4 56 yX2_setPower "MeterNetwork" : Cond) ∈ lw_tbl := List.mem_append_right _ (List.mem_of_getElem? (i := 503) (by decide +kernel))
theorem nw_52 : (.methodLinkNest RX4 56 yX2_setPower "MeterNetwork" : Cond) ∈ NW := List.mem_of_getElem? (i := 52) rfl
theorem nt_53 : (.methodLinkNest RX4 60 yX2_onCount "MeterNetwork" : Cond) ∈ lw_tbl := List.mem_append_right _ (List.mem_of_getElem? (i := 507) (by decide +kernel))
theorem nw_53 : (.methodLinkNest RX4 60 yX2_onCount "MeterNetwork" : Cond) ∈ NW := List.mem_of_getElem? (i := 53) rfl
theorem nt_54 : (.methodLinkNest RX4 81 yX2_canTake "MeterNetwork" : Cond) ∈ lw_tbl := List.mem_append_right _ (List.mem_of_getElem? (i := 548) (by decide +kernel))
theorem nw_54 : (.methodLinkNest RX4 81 yX2_canTake "MeterNetwork" : Cond) ∈ NW := List.mem_of_getElem? (i := 54) rfl
theorem nt_55 : (.methodLinkNest RX4 90 yX2_takeReading "MeterNetwork" : Cond) ∈ lw_tbl := List.mem_append_right _ (List.mem_of_getElem? (i := 568) (by decide +kernel))
theorem nw_55 : (.methodLinkNest RX4 90 yX2_takeReading "MeterNetwork" : Cond) ∈ NW := List.mem_of_getElem? (i := 55) rfl
theorem nt_56 : (.methodLinkNest RX2 95 yX1_takeAt "MeterNetwork" : Cond) ∈ lw_tbl := List.mem_append_right _ (List.mem_of_getElem? (i := 572) (by decide +kernel))
theorem nw_56 : (.methodLinkNest RX2 95 yX1_takeAt "MeterNetwork" : Cond) ∈ NW := List.mem_of_getElem? (i := 56) rfl
theorem nt_57 : (.methodLinkNest RX4 98 yX3_isFull "MeterNetwork" : Cond) ∈ lw_tbl := List.mem_append_right _ (List.mem_of_getElem? (i := 595) (by decide +kernel))
theorem nw_57 : (.methodLinkNest RX4 98 yX3_isFull "MeterNetwork" : Cond) ∈ NW := List.mem_of_getElem? (i := 57) rfl
theorem nt_58 : (.methodLinkNest RX4 104 yX3_append "MeterNetwork" : Cond) ∈ lw_tbl := List.mem_append_right _ (List.mem_of_getElem? (i := 600) (by decide +kernel))
theorem nw_58 : (.methodLinkNest RX4 104 yX3_append "MeterNetwork" : Cond) ∈ NW := List.mem_of_getElem? (i := 58) rfl
theorem nt_59 : (.methodLinkNest RX4 119 yX3_readCommand "MeterNetwork" : Cond) ∈ lw_tbl := List.mem_append_right _ (List.mem_of_getElem? (i := 612) (by decide +kernel))
theorem nw_59 : (.methodLinkNest RX4 119 yX3_readCommand "MeterNetwork" : Cond) ∈ NW := List.mem_of_getElem? (i := 59) rfl
theorem nt_60 : (.methodLinkNest RX4 139 yX2_isOn "MeterNetwork" : Cond) ∈ lw_tbl := List.mem_append_right _ (List.mem_of_getElem? (i := 617) (by decide +kernel))
theorem nw_60 : (.methodLinkNest RX4 139 yX2_isOn "MeterNetwork" : Cond) ∈ NW := List.mem_of_getElem? (i := 60) rfl
theorem nt_61 : (.methodLinkNest RX4 125 yX3_readSign "MeterNetwork" : Cond) ∈ lw_tbl := List.mem_append_right _ (List.mem_of_getElem? (i := 618) (by decide +kernel))
theorem nw_61 : (.methodLinkNest RX4 125 yX3_readSign "MeterNetwork" : Cond) ∈ NW := List.mem_of_getElem? (i := 61) rfl
theorem nt_62 : (.methodLinkNest RX4 145 yX0_newest "MeterNetwork" : Cond) ∈ lw_tbl := List.mem_append_right _ (List.mem_of_getElem? (i := 626) (by decide +kernel))
theorem nw_62 : (.methodLinkNest RX4 145 yX0_newest "MeterNetwork" : Cond) ∈ NW := List.mem_of_getElem? (i := 62) rfl
theorem nt_63 : (.methodLinkNest RX4 154 yX0_removeNewest "MeterNetwork" : Cond) ∈ lw_tbl := List.mem_append_right _ (List.mem_of_getElem? (i := 631) (by decide +kernel))
theorem nw_63 : (.methodLinkNest RX4 154 yX0_removeNewest "MeterNetwork" : Cond) ∈ NW := List.mem_of_getElem? (i := 63) rfl
theorem nt_64 : (.methodLinkNest RX4 160 yX2_areConnected "MeterNetwork" : Cond) ∈ lw_tbl := List.mem_append_right _ (List.mem_of_getElem? (i := 642) (by decide +kernel))
theorem nw_64 : (.methodLinkNest RX4 160 yX2_areConnected "MeterNetwork" : Cond) ∈ NW := List.mem_of_getElem? (i := 64) rfl
theorem nt_65 : (.methodLinkNest RX4 176 yX2_hopsToCollector "MeterNetwork" : Cond) ∈ lw_tbl := List.mem_append_right _ (List.mem_of_getElem? (i := 685) (by decide +kernel))
theorem nw_65 : (.methodLinkNest RX4 176 yX2_hopsToCollector "MeterNetwork" : Cond) ∈ NW := List.mem_of_getElem? (i := 65) rfl
theorem nt_66 : (.methodLinkNest RX4 191 yX1_partOf "MeterNetwork" : Cond) ∈ lw_tbl := List.mem_append_right _ (List.mem_of_getElem? (i := 711) (by decide +kernel))
theorem nw_66 : (.methodLinkNest RX4 191 yX1_partOf "MeterNetwork" : Cond) ∈ NW := List.mem_of_getElem? (i := 66) rfl
theorem nt_67 : (.methodLinkNest RX4 195 yX1_findId "MeterNetwork" : Cond) ∈ lw_tbl := List.mem_append_right _ (List.mem_of_getElem? (i := 726) (by decide +kernel))
theorem nw_67 : (.methodLinkNest RX4 195 yX1_findId "MeterNetwork" : Cond) ∈ NW := List.mem_of_getElem? (i := 67) rfl
theorem nt_68 : (.methodLinkNest RX4 198 yX1_storesWith "MeterNetwork" : Cond) ∈ lw_tbl := List.mem_append_right _ (List.mem_of_getElem? (i := 730) (by decide +kernel))
theorem nw_68 : (.methodLinkNest RX4 198 yX1_storesWith "MeterNetwork" : Cond) ∈ NW := List.mem_of_getElem? (i := 68) rfl
theorem NW_tbl : ∀ w ∈ NW, w ∈ lw_tbl := List.forall_mem_cons.mpr ⟨nt_0, List.forall_mem_cons.mpr ⟨nt_1, List.forall_mem_cons.mpr ⟨nt_2, List.forall_mem_cons.mpr ⟨nt_3, List.forall_mem_cons.mpr ⟨nt_4, List.forall_mem_cons.mpr ⟨nt_5, List.forall_mem_cons.mpr ⟨nt_6, List.forall_mem_cons.mpr ⟨nt_7, List.forall_mem_cons.mpr ⟨nt_8, List.forall_mem_cons.mpr ⟨nt_9, List.forall_mem_cons.mpr ⟨nt_10, List.forall_mem_cons.mpr ⟨nt_11, List.forall_mem_cons.mpr ⟨nt_12, List.forall_mem_cons.mpr ⟨nt_13, List.forall_mem_cons.mpr ⟨nt_14, List.forall_mem_cons.mpr ⟨nt_15, List.forall_mem_cons.mpr ⟨nt_16, List.forall_mem_cons.mpr ⟨nt_17, List.forall_mem_cons.mpr ⟨nt_18, List.forall_mem_cons.mpr ⟨nt_19, List.forall_mem_cons.mpr ⟨nt_20, List.forall_mem_cons.mpr ⟨nt_21, List.forall_mem_cons.mpr ⟨nt_22, List.forall_mem_cons.mpr ⟨nt_23, List.forall_mem_cons.mpr ⟨nt_24, List.forall_mem_cons.mpr ⟨nt_25, List.forall_mem_cons.mpr ⟨nt_26, List.forall_mem_cons.mpr ⟨nt_27, List.forall_mem_cons.mpr ⟨nt_28, List.forall_mem_cons.mpr ⟨nt_29, List.forall_mem_cons.mpr ⟨nt_30, List.forall_mem_cons.mpr ⟨nt_31, List.forall_mem_cons.mpr ⟨nt_32, List.forall_mem_cons.mpr ⟨nt_33, List.forall_mem_cons.mpr ⟨nt_34, List.forall_mem_cons.mpr ⟨nt_35, List.forall_mem_cons.mpr ⟨nt_36, List.forall_mem_cons.mpr ⟨nt_37, List.forall_mem_cons.mpr ⟨nt_38, List.forall_mem_cons.mpr ⟨nt_39, List.forall_mem_cons.mpr ⟨nt_40, List.forall_mem_cons.mpr ⟨nt_41, List.forall_mem_cons.mpr ⟨nt_42, List.forall_mem_cons.mpr ⟨nt_43, List.forall_mem_cons.mpr ⟨nt_44, List.forall_mem_cons.mpr ⟨nt_45, List.forall_mem_cons.mpr ⟨nt_46, List.forall_mem_cons.mpr ⟨nt_47, List.forall_mem_cons.mpr ⟨nt_48, List.forall_mem_cons.mpr ⟨nt_49, List.forall_mem_cons.mpr ⟨nt_50, List.forall_mem_cons.mpr ⟨nt_51, List.forall_mem_cons.mpr ⟨nt_52, List.forall_mem_cons.mpr ⟨nt_53, List.forall_mem_cons.mpr ⟨nt_54, List.forall_mem_cons.mpr ⟨nt_55, List.forall_mem_cons.mpr ⟨nt_56, List.forall_mem_cons.mpr ⟨nt_57, List.forall_mem_cons.mpr ⟨nt_58, List.forall_mem_cons.mpr ⟨nt_59, List.forall_mem_cons.mpr ⟨nt_60, List.forall_mem_cons.mpr ⟨nt_61, List.forall_mem_cons.mpr ⟨nt_62, List.forall_mem_cons.mpr ⟨nt_63, List.forall_mem_cons.mpr ⟨nt_64, List.forall_mem_cons.mpr ⟨nt_65, List.forall_mem_cons.mpr ⟨nt_66, List.forall_mem_cons.mpr ⟨nt_67, List.forall_mem_cons.mpr ⟨nt_68, fun _ h => absurd h List.not_mem_nil⟩⟩⟩⟩⟩⟩⟩⟩⟩⟩⟩⟩⟩⟩⟩⟩⟩⟩⟩⟩⟩⟩⟩⟩⟩⟩⟩⟩⟩⟩⟩⟩⟩⟩⟩⟩⟩⟩⟩⟩⟩⟩⟩⟩⟩⟩⟩⟩⟩⟩⟩⟩⟩⟩⟩⟩⟩⟩⟩⟩⟩⟩⟩⟩⟩⟩⟩⟩⟩
end
section
/-! THE FRAME OF ALL CONTRACTS: one list of words (BW), the nest words (NW), the judgement zG (a walk over a world and a list of locals), contracts zT -/
theorem BW_self : GoodIn BW BW := fun w h => ⟨h, good_of_word (BW_good w h)⟩
theorem BW_cons {c : Cond} (h : c ∈ BW) : GoodIn BW (c :: BW) := by
  intro w hw
  rcases List.mem_cons.mp hw with rfl | h2
  · exact ⟨h, good_of_word (BW_good _ h)⟩
  · exact BW_self w h2
def wN (U : State) : Prop := ∀ w ∈ NW, va_Nw w U
theorem wN.warm {s U : State} (hW : s.WarmedH U.vm) (h : wN s) : wN U := by
  intro w hw
  rcases NW_ok w hw with ⟨a, i, b, n, d, hh, rfl⟩ | ⟨a, i, x, hh, rfl⟩
  · exact va_Nw.warmF hW (h _ hw)
  · exact va_Nw.warmM hW (h _ hw)
theorem nwTab {w : Cond} (h : nwOk w) : w.onTables = true := by
  rcases h with ⟨a, i, b, n, d, hh, rfl⟩ | ⟨a, i, x, hh, rfl⟩ <;> rfl
theorem wN.call {U : State} {g : JFrame} {mk : MethodId} {a : Array Value} (h : wN U) : wN (U.calling g mk a) := fun w hw => va_Nw.same (u := U) (U := U.calling g mk a) (nwTab (NW_ok w hw)) rfl (h w hw)
/-- the array classes: int, boolean, char, State, long -/
abbrev zty (ct : Nat → ClassId) : List (ClassId × FieldType) := [(ct 0, .int), (ct 1, .boolean), (ct 2, .char), (ct 3, .object "MeterNetwork$State"), (ct 4, .long)]
/-- a world in a state -/
def wB (D : va_G) (ct : Nat → ClassId) (w : va_W) (U : State) : Prop := va_P D vwCl w U.heap ∧ va_K D vwCl (zty ct) U ∧ va_D (fun _ => True) w ∧ wN U
theorem wB.call {D : va_G} {ct : Nat → ClassId} {w : va_W} {U : State} {g : JFrame} {mk : MethodId} {a : Array Value} (h : wB D ct w U) : wB D ct w (U.calling g mk a) := ⟨h.1, va_K.moved (u := U) (U := U.calling g mk a) (Vm.Alike.refl U.vm) h.2.1, h.2.2.1, h.2.2.2.call⟩
/-- a method's end: its answer, its cells as they are then, the new ones -/
def zQ (D : va_G) (ct : Nat → ClassId) (w : va_W) (sz : Nat) (po : Option Value → va_W → va_W → Prop) : Array Value → State → Outcome → State → Prop := fun _ st oc t =>
  ∃ (v : Option Value) (wa wb : va_W), oc = .returned v ∧ po v wa wb ∧ wa.map Prod.fst = w.map Prod.fst ∧ va_P D vwCl (wa ++ wb) t.heap ∧ va_D (va_A w sz) (wa ++ wb) ∧ va_F (va_A w sz) st t
/-- a contract -/
def zT (l : Launch) (D : va_G) (ct : Nat → ClassId) (y : MethodName) (cc : ByteArray) (n : Nat) (ret : Option FieldType) (fr lo mc ms : Nat) (av : List Value) (w : va_W) (po : Option Value → va_W → va_W → Prop) : Prop :=
  ∀ sz : Nat, Met l y (.code y cc n ret :: BW) { frames := fr, cells := mc, slots := ms, locals := lo } (va_Pc av (fun U => U.heap.size = sz ∧ wB D ct w U)) (zQ D ct w sz po) mc ms (va_A w sz)
/-- it answers v and leaves w' -/
def zd (v : Option Value) (w' : va_W) : Option Value → va_W → va_W → Prop := fun v1 wa wb => v1 = v ∧ wa = w' ∧ wb = []
/-- the locals as a list of the method's length -/
def lvs : Nat → List (Option Value) → List (Nat × Value)
  | _, [] => []
  | i, none :: t => lvs (i + 1) t
  | i, some v :: t => (i, v) :: lvs (i + 1) t
theorem lvs_in : ∀ (ls : List (Option Value)) (i k : Nat) (v : Value), ls[k]? = some (some v) → (i + k, v) ∈ lvs i ls
  | [], i, k, v, h => by simp at h
  | a :: t, i, 0, v, h => by
    have ha : a = some v := by simpa using h
    subst ha
    exact List.mem_cons_self
  | a :: t, i, k + 1, v, h => by
    have h1 := lvs_in t (i + 1) k v (by simpa using h)
    have e : i + (k + 1) = i + 1 + k := by omega
    rw [e]
    cases a with
    | none => exact h1
    | some u => exact List.mem_cons_of_mem _ h1
theorem lvs_of : ∀ (ls : List (Option Value)) (i : Nat) (q : Nat × Value), q ∈ lvs i ls → ∃ k, q.1 = i + k ∧ ls[k]? = some (some q.2)
  | [], i, q, h => by simp [lvs] at h
  | none :: t, i, q, h => by
    obtain ⟨k, h1, h2⟩ := lvs_of t (i + 1) q h
    exact ⟨k + 1, by omega, by simpa using h2⟩
  | some v :: t, i, q, h => by
    rcases List.mem_cons.mp h with rfl | h
    · exact ⟨0, rfl, rfl⟩
    · obtain ⟨k, h1, h2⟩ := lvs_of t (i + 1) q h
      exact ⟨k + 1, by omega, by simpa using h2⟩
theorem lG_at {L : Array Slot} {nL : Nat} {ls : List (Option Value)} (h : lv_has L nL (lvs 0 ls)) (k : Nat) {v : Value} (hk : ls[k]? = some (some v)) : L[k]? = some (.val v) := by
  have h1 := lvs_in ls 0 k v hk
  rw [Nat.zero_add] at h1
  exact h.2.2 _ h1
def okst (ls : List (Option Value)) : Nat → Bool
  | 0 => true
  | j + 1 => match ls[j]? with
    | some (some u) => u.category != 2
    | _ => true
theorem lG_mono {L : Array Slot} {nL : Nat} {l l' : List (Nat × Value)} (h : lv_has L nL l) (hh : ∀ q ∈ l', q ∈ l) : lv_has L nL l' := ⟨h.1, h.2.1, fun q hq => h.2.2 q (hh q hq)⟩
theorem lG_set {L : Array Slot} {nL i : Nat} {ls : List (Option Value)} {v : Value} (hz : okst ls i = true) (h : lv_has L nL ((i, v) :: (lvs 0 ls).filter (fun q => !(q.1 == i) && !(q.1 + 1 == i && q.2.category == 2)))) : lv_has L nL (lvs 0 (ls.set i (some v))) := by
  refine lG_mono h (fun q hq => ?_)
  obtain ⟨k, h1, h2⟩ := lvs_of _ 0 q hq
  rw [Nat.zero_add] at h1
  by_cases hk : k = i
  · subst hk
    have hlt : k < (ls.set k (some v)).length := (List.getElem?_eq_some_iff.mp h2).1
    rw [List.length_set] at hlt
    rw [List.getElem?_set_self hlt] at h2
    have hv : v = q.2 := by simpa using h2
    have : q = (k, v) := by rw [hv, ← h1]
    rw [this]
    exact List.mem_cons_self
  · rw [List.getElem?_set_ne (Ne.symm hk)] at h2
    refine List.mem_cons_of_mem _ (List.mem_filter.mpr ⟨?_, ?_⟩)
    · have h3 := lvs_in ls 0 k q.2 h2
      rw [Nat.zero_add, ← h1] at h3
      exact h3
    · have h4 : ¬ (q.1 + 1 = i ∧ q.2.category = 2) := by
        rintro ⟨h5, h6⟩
        rw [h1] at h5
        subst h5
        simp only [okst, h2] at hz
        rw [h6] at hz
        exact absurd hz (by decide)
      rw [h1] at h4 ⊢
      simp only [Bool.and_eq_true, Bool.not_eq_true', beq_eq_false_iff_ne, ne_eq, Bool.and_eq_false_iff]
      refine ⟨hk, ?_⟩
      by_cases h7 : k + 1 = i
      · exact Or.inr (fun h8 => h4 ⟨h7, h8⟩)
      · exact Or.inl h7
/-- places of a world written anew -/
def wput : va_W → List Nat → va_W → va_W
  | w, p :: ps, e :: es => wput (w.set p e) ps es
  | w, _, _ => w
theorem wput_at : ∀ (ps : List Nat) (w es : va_W) (k : Nat) (q : Nat × va_E), es.length = ps.length → (wput w ps es)[k]? = some q → (∃ j : Nat, ps[j]? = some k ∧ es[j]? = some q) ∨ (k ∉ ps ∧ w[k]? = some q)
  | [], w, es, k, q, hl, h => by
    have : wput w [] es = w := by cases es <;> rfl
    rw [this] at h
    exact Or.inr ⟨by simp, h⟩
  | p :: ps, w, [], k, q, hl, h => by simp at hl
  | p :: ps, w, e :: es, k, q, hl, h => by
    have h0 : (wput (w.set p e) ps es)[k]? = some q := h
    rcases wput_at ps (w.set p e) es k q (by simpa using hl) h0 with ⟨j, h1, h2⟩ | ⟨h1, h2⟩
    · exact Or.inl ⟨j + 1, by simpa using h1, by simpa using h2⟩
    · by_cases hk : k = p
      · subst hk
        have hlt : k < (w.set k e).length := (List.getElem?_eq_some_iff.mp h2).1
        rw [List.length_set] at hlt
        rw [List.getElem?_set_self hlt] at h2
        exact Or.inl ⟨0, rfl, by simpa using h2⟩
      · rw [List.getElem?_set_ne (Ne.symm hk)] at h2
        exact Or.inr ⟨by simp [hk, h1], h2⟩
theorem va_D_fst {A : Nat → Prop} {w w2 : va_W} (h : w2.map Prod.fst = w.map Prod.fst) (hD : va_D A w) : va_D A w2 := by
  have key : ∀ (k : Nat) (q : Nat × va_E), w2[k]? = some q → ∃ q0, w[k]? = some q0 ∧ q0.1 = q.1 := by
    intro k q hk
    have h1 : (w2.map Prod.fst)[k]? = some q.1 := by rw [List.getElem?_map, hk]; rfl
    rw [h, List.getElem?_map] at h1
    cases hw : w[k]? with
    | none => rw [hw] at h1; cases h1
    | some q0 => rw [hw] at h1; exact ⟨q0, rfl, Option.some.inj h1⟩
  refine ⟨fun i j p q hi hj e => ?_, fun k q hk => ?_⟩
  · obtain ⟨p0, a1, a2⟩ := key i p hi
    obtain ⟨q0, b1, b2⟩ := key j q hj
    exact hD.1 i j p0 q0 a1 b1 (by rw [a2, b2, e])
  · obtain ⟨q0, b1, b2⟩ := key k q hk
    rw [← b2]
    exact hD.2 k q0 b1
theorem wput_len : ∀ (ps : List Nat) (w es : va_W), (wput w ps es).length = w.length
  | [], w, es => by cases es <;> rfl
  | p :: ps, w, [] => rfl
  | p :: ps, w, e :: es => by
    show (wput (w.set p e) ps es).length = w.length
    rw [wput_len ps (w.set p e) es, List.length_set]
theorem wc_at {w wc : va_W} {ps : List Nat} (hp : ps.map (fun i => w[i]?) = wc.map some) {j k : Nat} (h : ps[j]? = some k) : w[k]? = wc[j]? := by
  have h1 : (ps.map (fun i => w[i]?))[j]? = some (w[k]?) := by rw [List.getElem?_map, h]; rfl
  rw [hp, List.getElem?_map] at h1
  cases hw : wc[j]? with
  | none => rw [hw] at h1; cases h1
  | some q => rw [hw] at h1; exact (Option.some.inj h1).symm
theorem wput_fst {ps : List Nat} {w wc es : va_W} (hp : ps.map (fun i => w[i]?) = wc.map some) (he : es.map Prod.fst = wc.map Prod.fst) : (wput w ps es).map Prod.fst = w.map Prod.fst := by
  have hl1 : ps.length = wc.length := by simpa using congrArg List.length hp
  have hl2 : es.length = wc.length := by simpa using congrArg List.length he
  apply List.ext_getElem?
  intro k
  rw [List.getElem?_map, List.getElem?_map]
  cases hk : (wput w ps es)[k]? with
  | none =>
    have h1 := List.getElem?_eq_none_iff.mp hk
    rw [wput_len] at h1
    rw [List.getElem?_eq_none_iff.mpr h1]
  | some q =>
    rcases wput_at ps w es k q (by omega) hk with ⟨j, h1, h2⟩ | ⟨h1, h2⟩
    · have h3 := wc_at hp h1
      have h4 : (es.map Prod.fst)[j]? = some q.1 := by rw [List.getElem?_map, h2]; rfl
      rw [he, List.getElem?_map] at h4
      rw [h3]
      exact h4.symm
    · rw [h2]
theorem va_D_app {A : Nat → Prop} {w1 w2 : va_W} (h1 : va_D A w1) (h2 : va_D A w2) (h : ∀ (i j : Nat) (x y : Nat × va_E), w1[i]? = some x → w2[j]? = some y → x.1 ≠ y.1) : va_D A (w1 ++ w2) := va_D.app h1 h2 (fun i j x y hx hy => h i j x y hx hy)
/-- behind a call: the callee's cells at their places, its new ones at the end -/
theorem zjoin {A0 : Nat → Prop} {D : va_G} {w wc wa wb : va_W} {H H1 : Heap} (hP : va_P D vwCl w H) (hD : va_D A0 w) {ps : List Nat} (hp : ps.map (fun i => w[i]?) = wc.map some) (he : wa.map Prod.fst = wc.map Prod.fst)
    (hk : ∀ q : Nat, q < H.size → ¬ va_A wc H.size q → H1[q]? = H[q]?) (hF : ∀ q, va_A wc H.size q → A0 q) (hP1 : va_P D vwCl (wa ++ wb) H1) (hD1 : va_D (va_A wc H.size) (wa ++ wb)) :
    va_P D vwCl (wput w ps wa ++ wb) H1 ∧ va_D A0 (wput w ps wa ++ wb) := by
  have hl1 : ps.length = wc.length := by simpa using congrArg List.length hp
  have hl2 : wa.length = wc.length := by simpa using congrArg List.length he
  have hDa : va_D A0 (wput w ps wa) := va_D_fst (wput_fst hp he) hD
  have hb : ∀ (k : Nat) (q : Nat × va_E), wb[k]? = some q → (wa ++ wb)[wa.length + k]? = some q := fun k q hq => by
    rw [List.getElem?_append_right (by omega)]
    rw [Nat.add_sub_cancel_left]
    exact hq
  have hnew : ∀ (k : Nat) (q : Nat × va_E), wb[k]? = some q → H.size ≤ q.1 := fun k q hq => by
    rcases hD1.2 _ q (hb k q hq) with ⟨j, e, hj⟩ | h
    · exfalso
      have hjl : j < wc.length := (List.getElem?_eq_some_iff.mp hj).1
      have h4 : (wc.map Prod.fst)[j]? = some q.1 := by rw [List.getElem?_map, hj]; rfl
      rw [← he, List.getElem?_map] at h4
      cases ha : wa[j]? with
      | none => rw [ha] at h4; cases h4
      | some a =>
        rw [ha] at h4
        have h5 : (wa ++ wb)[j]? = some a := by rw [List.getElem?_append_left (by omega)]; exact ha
        have h6 := hD1.1 j (wa.length + k) a q h5 (hb k q hq) (Option.some.inj h4)
        omega
    · exact h
  have hold : ∀ (k : Nat) (q : Nat × va_E), (wput w ps wa)[k]? = some q → va_at D vwCl q H1 := fun k q hq => by
    rcases wput_at ps w wa k q (by omega) hq with ⟨j, h1, h2⟩ | ⟨h1, h2⟩
    · have hjl : j < wa.length := (List.getElem?_eq_some_iff.mp h2).1
      exact hP1 j q (by rw [List.getElem?_append_left hjl]; exact h2)
    · have hlt := (hP k q h2).lt
      refine (hP k q h2).kept (hk q.1 hlt (fun z => ?_))
      rcases z with ⟨j, e, hj⟩ | z
      · have hjl : j < ps.length := by rw [hl1]; exact (List.getElem?_eq_some_iff.mp hj).1
        have h3 := wc_at hp (List.getElem?_eq_getElem hjl)
        rw [hj] at h3
        have h4 := hD.1 k (ps[j]) q (q.1, e) h2 h3 rfl
        exact h1 (by rw [h4]; exact List.getElem_mem hjl)
      · omega
  have hlt : ∀ (k : Nat) (q : Nat × va_E), (wput w ps wa)[k]? = some q → q.1 < H.size := fun k q hq => by
    have h4 : ((wput w ps wa).map Prod.fst)[k]? = some q.1 := by rw [List.getElem?_map, hq]; rfl
    rw [wput_fst hp he, List.getElem?_map] at h4
    cases hw : w[k]? with
    | none => rw [hw] at h4; cases h4
    | some q0 =>
      rw [hw] at h4
      have h5 : q0.1 = q.1 := Option.some.inj h4
      rw [← h5]
      exact (hP k q0 hw).lt
  have hDb : va_D A0 wb := ⟨fun i j p q hi hj e => by
      have h1 := hD1.1 _ _ p q (hb i p hi) (hb j q hj) e
      omega, fun k q hq => hF _ (hD1.2 _ q (hb k q hq))⟩
  refine ⟨va_P.app hold (fun k q hq => hP1 _ q (hb k q hq)), va_D_app hDa hDb (fun i j x y hx hy e => ?_)⟩
  have h1 := hlt i x hx
  have h2 := hnew j y hy
  omega
theorem wput_same : ∀ (ps : List Nat) (w wc : va_W), ps.map (fun i => w[i]?) = wc.map some → wput w ps wc = w
  | [], w, wc, h => by cases wc <;> rfl
  | p :: ps, w, [], h => rfl
  | p :: ps, w, c :: wc, h => by
    simp only [List.map_cons, List.cons.injEq] at h
    have e : w.set p c = w := by
      apply List.ext_getElem?
      intro k
      by_cases hk : k = p
      · subst hk
        rw [List.getElem?_set_self (List.getElem?_eq_some_iff.mp h.1).1]
        exact h.1.symm
      · rw [List.getElem?_set_ne (Ne.symm hk)]
    show wput (w.set p c) ps wc = w
    rw [e]
    exact wput_same ps w wc h.2
/-- what a walk stands on -/
def zC (p : Program) (s : State) (m : MethodId) (meth : Method) (c : Code) (args : Array Value) (own : String) (nL : Nat) (cc : ByteArray) (D : va_G) (ct : Nat → ClassId) (A : Nat → Prop) : Prop :=
  p.tables.exec = Jvm.exec ∧ c.code = cc ∧ c.maxLocals = nL ∧ s.vm.findClass own = some m.cls ∧ (∀ w ∈ BW, w.before args s = true) ∧ va_K D vwCl (zty ct) s ∧ wN s ∧ (∀ q : Nat, s.heap.size ≤ q → A q) ∧ meth.locks = false
/-- a walk: from the pc, the locals, the stack and the world -/
def zG (p : Program) (l : Launch) (e : Env) (R : Room) (s : State) (m : MethodId) (args : Array Value) (below : List Frame) (meth : Method) (c : Code) (D : va_G) (A : Nat → Prop) (nL : Nat) (Q : State → Prop) (cells slots pc : Nat) (ls : List (Option Value)) (st : List Value) (w : va_W) : Prop :=
  ∀ (H : Heap) (locs : List Loc) (L : Array Slot), va_P D vwCl w H → va_D A w → va_S A s.heap H locs → lv_has L nL (lvs 0 ls) → W p l e R s m args below meth c H locs cells slots Q (F0 m pc L st)
section ZG
variable {p : Program} {l : Launch} {e : Env} {R : Room} {s : State} {m : MethodId} {args : Array Value} {below : List Frame} {meth : Method} {c : Code} {D : va_G} {A : Nat → Prop} {nL : Nat} {Q : State → Prop} {cells slots pc : Nat} {ls : List (Option Value)} {st : List Value} {w : va_W} {own : String} {cc : ByteArray} {ct : Nat → ClassId}
theorem z_exec (h : zC p s m meth c args own nL cc D ct A) : p.tables.exec = Jvm.exec := h.1
theorem z_code (h : zC p s m meth c args own nL cc D ct A) : c.code = cc := h.2.1
theorem z_own (h : zC p s m meth c args own nL cc D ct A) : s.vm.findClass own = some m.cls := h.2.2.2.1
theorem z_hts (h : zC p s m meth c args own nL cc D ct A) : ∀ w ∈ BW, w.before args s = true := h.2.2.2.2.1
theorem z_K (h : zC p s m meth c args own nL cc D ct A) : va_K D vwCl (zty ct) s := h.2.2.2.2.2.1
theorem z_N (h : zC p s m meth c args own nL cc D ct A) : wN s := h.2.2.2.2.2.2.1
theorem z_A (h : zC p s m meth c args own nL cc D ct A) : ∀ q : Nat, s.heap.size ≤ q → A q := h.2.2.2.2.2.2.2.1
theorem z_locks (h : zC p s m meth c args own nL cc D ct A) : meth.locks = false := h.2.2.2.2.2.2.2.2
theorem zG_w {w2 : va_W} (hw : w = w2) (k : zG p l e R s m args below meth c D A nL Q cells slots pc ls st w2) : zG p l e R s m args below meth c D A nL Q cells slots pc ls st w := hw ▸ k
theorem zG_s {st2 : List Value} (hw : st = st2) (k : zG p l e R s m args below meth c D A nL Q cells slots pc ls st2 w) : zG p l e R s m args below meth c D A nL Q cells slots pc ls st w := hw ▸ k
/-- fewer locals are spoken of, cells are called by other names -/
theorem zG_to {ls2 : List (Option Value)} {st2 : List Value} {w2 : va_W} {pc2 cells2 slots2 : Nat} (k : zG p l e R s m args below meth c D A nL Q cells2 slots2 pc2 ls2 st2 w2) (hp : pc = pc2) (hc : cells = cells2) (hs : slots = slots2) (hl : ∀ q ∈ lvs 0 ls2, q ∈ lvs 0 ls) (hst : st = st2) (hw : w = w2) : zG p l e R s m args below meth c D A nL Q cells slots pc ls st w := by
  subst hp; subst hc; subst hs; subst hst; subst hw
  exact fun H locs L hP hD hS hL => k H locs L hP hD hS (lG_mono hL hl)
theorem z_iload_n (h : zC p s m meth c args own nL cc D ct A) {j : Fin 4} {x : Int32} (d : decode cc pc = .ok (.iload_n j, 1)) (hl : ls[(j : Nat)]? = some (some (.int x))) (k : zG p l e R s m args below meth c D A nL Q cells slots (pc + 1) ls (.int x :: st) w) : zG p l e R s m args below meth c D A nL Q cells slots pc ls st w := fun H locs L hP hD hS hL => lv_iload_n (z_exec h) (z_code h) d rfl (lG_at hL _ hl) (k H locs L hP hD hS hL)
theorem z_iload (h : zC p s m meth c args own nL cc D ct A) {j : Nat} {x : Int32} (d : decode cc pc = .ok (.iload j, 2)) (hl : ls[j]? = some (some (.int x))) (k : zG p l e R s m args below meth c D A nL Q cells slots (pc + 2) ls (.int x :: st) w) : zG p l e R s m args below meth c D A nL Q cells slots pc ls st w := fun H locs L hP hD hS hL => lv_iload (z_exec h) (z_code h) d (lG_at hL _ hl) (k H locs L hP hD hS hL)
theorem z_aload_n (h : zC p s m meth c args own nL cc D ct A) {j : Fin 4} {x : Nat} (d : decode cc pc = .ok (.aload_n j, 1)) (hl : ls[(j : Nat)]? = some (some (.ref x))) (k : zG p l e R s m args below meth c D A nL Q cells slots (pc + 1) ls (.ref x :: st) w) : zG p l e R s m args below meth c D A nL Q cells slots pc ls st w := fun H locs L hP hD hS hL => lv_aload_n (z_exec h) (z_code h) d rfl (lG_at hL _ hl) (k H locs L hP hD hS hL)
theorem z_aload (h : zC p s m meth c args own nL cc D ct A) {j : Nat} {x : Nat} (d : decode cc pc = .ok (.aload j, 2)) (hl : ls[j]? = some (some (.ref x))) (k : zG p l e R s m args below meth c D A nL Q cells slots (pc + 2) ls (.ref x :: st) w) : zG p l e R s m args below meth c D A nL Q cells slots pc ls st w := fun H locs L hP hD hS hL => lv_aload (z_exec h) (z_code h) d (lG_at hL _ hl) (k H locs L hP hD hS hL)
theorem z_dload (h : zC p s m meth c args own nL cc D ct A) {j : Nat} {x : UInt64} (d : decode cc pc = .ok (.dload j, 2)) (hl : ls[j]? = some (some (.double x))) (k : zG p l e R s m args below meth c D A nL Q cells slots (pc + 2) ls (.double x :: st) w) : zG p l e R s m args below meth c D A nL Q cells slots pc ls st w := fun H locs L hP hD hS hL => lv_dload (z_exec h) (z_code h) d (lG_at hL _ hl) (k H locs L hP hD hS hL)
theorem z_iconst (h : zC p s m meth c args own nL cc D ct A) {n : Int} {v : Int32} (d : decode cc pc = .ok (.iconst n, 1)) (hv : Int32.ofInt n = v) (k : zG p l e R s m args below meth c D A nL Q cells slots (pc + 1) ls (.int v :: st) w) : zG p l e R s m args below meth c D A nL Q cells slots pc ls st w := fun H locs L hP hD hS hL => lv_iconst (z_exec h) (z_code h) d hv (k H locs L hP hD hS hL)
theorem z_bipush (h : zC p s m meth c args own nL cc D ct A) {n : Int} {v : Int32} (d : decode cc pc = .ok (.bipush n, 2)) (hv : (Int8.ofInt n).toInt32 = v) (k : zG p l e R s m args below meth c D A nL Q cells slots (pc + 2) ls (.int v :: st) w) : zG p l e R s m args below meth c D A nL Q cells slots pc ls st w := fun H locs L hP hD hS hL => lv_bipush (z_exec h) (z_code h) d hv (k H locs L hP hD hS hL)
theorem z_sipush (h : zC p s m meth c args own nL cc D ct A) {n : Int} {v : Int32} (d : decode cc pc = .ok (.sipush n, 3)) (hv : (Int16.ofInt n).toInt32 = v) (k : zG p l e R s m args below meth c D A nL Q cells slots (pc + 3) ls (.int v :: st) w) : zG p l e R s m args below meth c D A nL Q cells slots pc ls st w := fun H locs L hP hD hS hL => lv_sipush (z_exec h) (z_code h) d hv (k H locs L hP hD hS hL)
theorem z_iadd (h : zC p s m meth c args own nL cc D ct A) {x y : Int32} (d : decode cc pc = .ok (.iadd, 1))  (k : zG p l e R s m args below meth c D A nL Q cells slots (pc + 1) ls (.int (x + y) :: st) w) : zG p l e R s m args below meth c D A nL Q cells slots pc ls (.int y :: .int x :: st) w := fun H locs L hP hD hS hL => lv_iadd (z_exec h) (z_code h) d  (k H locs L hP hD hS hL)
theorem z_isub (h : zC p s m meth c args own nL cc D ct A) {x y : Int32} (d : decode cc pc = .ok (.isub, 1))  (k : zG p l e R s m args below meth c D A nL Q cells slots (pc + 1) ls (.int (x - y) :: st) w) : zG p l e R s m args below meth c D A nL Q cells slots pc ls (.int y :: .int x :: st) w := fun H locs L hP hD hS hL => lv_isub (z_exec h) (z_code h) d  (k H locs L hP hD hS hL)
theorem z_imul (h : zC p s m meth c args own nL cc D ct A) {x y : Int32} (d : decode cc pc = .ok (.imul, 1))  (k : zG p l e R s m args below meth c D A nL Q cells slots (pc + 1) ls (.int (x * y) :: st) w) : zG p l e R s m args below meth c D A nL Q cells slots pc ls (.int y :: .int x :: st) w := fun H locs L hP hD hS hL => lv_imul (z_exec h) (z_code h) d  (k H locs L hP hD hS hL)
theorem z_iand (h : zC p s m meth c args own nL cc D ct A) {x y : Int32} (d : decode cc pc = .ok (.iand, 1))  (k : zG p l e R s m args below meth c D A nL Q cells slots (pc + 1) ls (.int (x &&& y) :: st) w) : zG p l e R s m args below meth c D A nL Q cells slots pc ls (.int y :: .int x :: st) w := fun H locs L hP hD hS hL => lv_iand (z_exec h) (z_code h) d  (k H locs L hP hD hS hL)
theorem z_ior (h : zC p s m meth c args own nL cc D ct A) {x y : Int32} (d : decode cc pc = .ok (.ior, 1))  (k : zG p l e R s m args below meth c D A nL Q cells slots (pc + 1) ls (.int (x ||| y) :: st) w) : zG p l e R s m args below meth c D A nL Q cells slots pc ls (.int y :: .int x :: st) w := fun H locs L hP hD hS hL => lv_ior (z_exec h) (z_code h) d  (k H locs L hP hD hS hL)
theorem z_ixor (h : zC p s m meth c args own nL cc D ct A) {x y : Int32} (d : decode cc pc = .ok (.ixor, 1))  (k : zG p l e R s m args below meth c D A nL Q cells slots (pc + 1) ls (.int (x ^^^ y) :: st) w) : zG p l e R s m args below meth c D A nL Q cells slots pc ls (.int y :: .int x :: st) w := fun H locs L hP hD hS hL => lv_ixor (z_exec h) (z_code h) d  (k H locs L hP hD hS hL)
theorem z_ishl (h : zC p s m meth c args own nL cc D ct A) {x y : Int32} (d : decode cc pc = .ok (.ishl, 1))  (k : zG p l e R s m args below meth c D A nL Q cells slots (pc + 1) ls (.int (x <<< (y &&& 31)) :: st) w) : zG p l e R s m args below meth c D A nL Q cells slots pc ls (.int y :: .int x :: st) w := fun H locs L hP hD hS hL => lv_ishl (z_exec h) (z_code h) d  (k H locs L hP hD hS hL)
theorem z_ishr (h : zC p s m meth c args own nL cc D ct A) {x y : Int32} (d : decode cc pc = .ok (.ishr, 1))  (k : zG p l e R s m args below meth c D A nL Q cells slots (pc + 1) ls (.int (x >>> (y &&& 31)) :: st) w) : zG p l e R s m args below meth c D A nL Q cells slots pc ls (.int y :: .int x :: st) w := fun H locs L hP hD hS hL => lv_ishr (z_exec h) (z_code h) d  (k H locs L hP hD hS hL)
theorem z_irem (h : zC p s m meth c args own nL cc D ct A) {x y : Int32} (d : decode cc pc = .ok (.irem, 1)) (hne : ¬ y = 0) (k : zG p l e R s m args below meth c D A nL Q cells slots (pc + 1) ls (.int (x - x / y * y) :: st) w) : zG p l e R s m args below meth c D A nL Q cells slots pc ls (.int y :: .int x :: st) w := fun H locs L hP hD hS hL => lv_irem (z_exec h) (z_code h) d hne (k H locs L hP hD hS hL)
theorem z_idiv (h : zC p s m meth c args own nL cc D ct A) {x y : Int32} (d : decode cc pc = .ok (.idiv, 1)) (hne : ¬ y = 0) (k : zG p l e R s m args below meth c D A nL Q cells slots (pc + 1) ls (.int (x / y) :: st) w) : zG p l e R s m args below meth c D A nL Q cells slots pc ls (.int y :: .int x :: st) w := fun H locs L hP hD hS hL => lv_idiv (z_exec h) (z_code h) d hne (k H locs L hP hD hS hL)
theorem z_i2l (h : zC p s m meth c args own nL cc D ct A) {x : Int32} (d : decode cc pc = .ok (.i2l, 1))  (k : zG p l e R s m args below meth c D A nL Q cells slots (pc + 1) ls (.long x.toInt64 :: st) w) : zG p l e R s m args below meth c D A nL Q cells slots pc ls (.int x :: st) w := fun H locs L hP hD hS hL => lv_i2l (z_exec h) (z_code h) d rfl (k H locs L hP hD hS hL)
theorem z_i2d (h : zC p s m meth c args own nL cc D ct A) {x : Int32} (d : decode cc pc = .ok (.i2d, 1))  (k : zG p l e R s m args below meth c D A nL Q cells slots (pc + 1) ls (.double (FP.i2d x) :: st) w) : zG p l e R s m args below meth c D A nL Q cells slots pc ls (.int x :: st) w := fun H locs L hP hD hS hL => lv_i2d (z_exec h) (z_code h) d  (k H locs L hP hD hS hL)
theorem z_i2c (h : zC p s m meth c args own nL cc D ct A) {x : Int32} (d : decode cc pc = .ok (.i2c, 1))  (k : zG p l e R s m args below meth c D A nL Q cells slots (pc + 1) ls (.int ((x.toUInt32 % 65536).toInt32) :: st) w) : zG p l e R s m args below meth c D A nL Q cells slots pc ls (.int x :: st) w := fun H locs L hP hD hS hL => lv_i2c (z_exec h) (z_code h) d rfl (k H locs L hP hD hS hL)
theorem z_ddiv (h : zC p s m meth c args own nL cc D ct A) {x y : UInt64} (d : decode cc pc = .ok (.ddiv, 1)) (hne : vf_n64 (FP.ddiv x y)) (k : zG p l e R s m args below meth c D A nL Q cells slots (pc + 1) ls (.double (FP.ddiv x y) :: st) w) : zG p l e R s m args below meth c D A nL Q cells slots pc ls (.double y :: .double x :: st) w := fun H locs L hP hD hS hL => lv_ddiv (z_exec h) (z_code h) d hne (k H locs L hP hD hS hL)
theorem z_dup (h : zC p s m meth c args own nL cc D ct A) {va : Value} (d : decode cc pc = .ok (.dup, 1)) (hva : va.category = 1) (k : zG p l e R s m args below meth c D A nL Q cells slots (pc + 1) ls (va :: va :: st) w) : zG p l e R s m args below meth c D A nL Q cells slots pc ls (va :: st) w := fun H locs L hP hD hS hL => lv_dup (z_exec h) (z_code h) d hva (k H locs L hP hD hS hL)
theorem z_pop (h : zC p s m meth c args own nL cc D ct A) {va : Value} (d : decode cc pc = .ok (.pop, 1)) (hva : va.category = 1) (k : zG p l e R s m args below meth c D A nL Q cells slots (pc + 1) ls st w) : zG p l e R s m args below meth c D A nL Q cells slots pc ls (va :: st) w := fun H locs L hP hD hS hL => lv_pop (z_exec h) (z_code h) d hva (k H locs L hP hD hS hL)
theorem z_dup2 (h : zC p s m meth c args own nL cc D ct A) {va vb : Value} (d : decode cc pc = .ok (.dup2, 1)) (hva : va.category = 1) (hvb : vb.category = 1) (k : zG p l e R s m args below meth c D A nL Q cells slots (pc + 1) ls (va :: vb :: va :: vb :: st) w) : zG p l e R s m args below meth c D A nL Q cells slots pc ls (va :: vb :: st) w := fun H locs L hP hD hS hL => lv_dup2_11 (z_exec h) (z_code h) d hva hvb (k H locs L hP hD hS hL)
theorem z_istore_n (h : zC p s m meth c args own nL cc D ct A) {j : Fin 4} {x : Int32} (d : decode cc pc = .ok (.istore_n j, 1)) (hn : (j : Nat) < nL) (hz : okst ls (j : Nat) = true) (k : zG p l e R s m args below meth c D A nL Q cells slots (pc + 1) (ls.set (j : Nat) (some (.int x))) st w) : zG p l e R s m args below meth c D A nL Q cells slots pc ls (.int x :: st) w := fun H locs L hP hD hS hL => lv_istore_n (z_exec h) (z_code h) d rfl hL hn rfl (fun L1 hL1 => k H locs L1 hP hD hS (lG_set hz hL1))
theorem z_istore (h : zC p s m meth c args own nL cc D ct A) {j : Nat} {x : Int32} (d : decode cc pc = .ok (.istore j, 2)) (hn : j < nL) (hz : okst ls j = true) (k : zG p l e R s m args below meth c D A nL Q cells slots (pc + 2) (ls.set j (some (.int x))) st w) : zG p l e R s m args below meth c D A nL Q cells slots pc ls (.int x :: st) w := fun H locs L hP hD hS hL => lv_istore (z_exec h) (z_code h) d hL hn rfl (fun L1 hL1 => k H locs L1 hP hD hS (lG_set hz hL1))
theorem z_astore_n (h : zC p s m meth c args own nL cc D ct A) {j : Fin 4} {x : Nat} (d : decode cc pc = .ok (.astore_n j, 1)) (hn : (j : Nat) < nL) (hz : okst ls (j : Nat) = true) (k : zG p l e R s m args below meth c D A nL Q cells slots (pc + 1) (ls.set (j : Nat) (some (.ref x))) st w) : zG p l e R s m args below meth c D A nL Q cells slots pc ls (.ref x :: st) w := fun H locs L hP hD hS hL => lv_astore_n (z_exec h) (z_code h) d rfl hL hn rfl (fun L1 hL1 => k H locs L1 hP hD hS (lG_set hz hL1))
theorem z_astore (h : zC p s m meth c args own nL cc D ct A) {j : Nat} {x : Nat} (d : decode cc pc = .ok (.astore j, 2)) (hn : j < nL) (hz : okst ls j = true) (k : zG p l e R s m args below meth c D A nL Q cells slots (pc + 2) (ls.set j (some (.ref x))) st w) : zG p l e R s m args below meth c D A nL Q cells slots pc ls (.ref x :: st) w := fun H locs L hP hD hS hL => lv_astore (z_exec h) (z_code h) d hL hn rfl (fun L1 hL1 => k H locs L1 hP hD hS (lG_set hz hL1))
theorem z_iinc (h : zC p s m meth c args own nL cc D ct A) {j : Nat} {n : Int} {x cn : Int32} (d : decode cc pc = .ok (.iinc j n, 3)) (hc : Int32.ofInt n = cn) (hn : j < nL) (hz : okst ls j = true) (hl : ls[j]? = some (some (.int x))) (k : zG p l e R s m args below meth c D A nL Q cells slots (pc + 3) (ls.set j (some (.int (x + cn)))) st w) : zG p l e R s m args below meth c D A nL Q cells slots pc ls st w := fun H locs L hP hD hS hL => by
  have hm := lvs_in ls 0 j (.int x) hl
  rw [Nat.zero_add] at hm
  obtain ⟨kk, hkk⟩ := List.getElem?_of_mem hm
  exact lv_iinc (v := x + cn) (z_exec h) (z_code h) d hL hkk (by rw [hc]) hn rfl (fun L1 hL1 => k H locs L1 hP hD hS (lG_set hz hL1))
theorem z_if_eq (h : zC p s m meth c args own nL cc D ct A) {x : Int32} {off : Int} (tgt : Nat) (d : decode cc pc = .ok (.ifCond .eq off, 3)) (ht : (pc : Int) + off = (tgt : Int)) (kt : x = 0 → zG p l e R s m args below meth c D A nL Q cells slots tgt ls st w) (kf : ¬ x = 0 → zG p l e R s m args below meth c D A nL Q cells slots (pc + 3) ls st w) : zG p l e R s m args below meth c D A nL Q cells slots pc ls (.int x :: st) w := fun H locs L hP hD hS hL => lv_if_eq (z_exec h) (z_code h) d ht (fun q => kt q H locs L hP hD hS hL) (fun q => kf q H locs L hP hD hS hL)
theorem z_if_ne (h : zC p s m meth c args own nL cc D ct A) {x : Int32} {off : Int} (tgt : Nat) (d : decode cc pc = .ok (.ifCond .ne off, 3)) (ht : (pc : Int) + off = (tgt : Int)) (kt : ¬ x = 0 → zG p l e R s m args below meth c D A nL Q cells slots tgt ls st w) (kf : x = 0 → zG p l e R s m args below meth c D A nL Q cells slots (pc + 3) ls st w) : zG p l e R s m args below meth c D A nL Q cells slots pc ls (.int x :: st) w := fun H locs L hP hD hS hL => lv_if_ne (z_exec h) (z_code h) d ht (fun q => kt q H locs L hP hD hS hL) (fun q => kf q H locs L hP hD hS hL)
theorem z_if_lt (h : zC p s m meth c args own nL cc D ct A) {x : Int32} {off : Int} (tgt : Nat) (d : decode cc pc = .ok (.ifCond .lt off, 3)) (ht : (pc : Int) + off = (tgt : Int)) (kt : x < 0 → zG p l e R s m args below meth c D A nL Q cells slots tgt ls st w) (kf : ¬ x < 0 → zG p l e R s m args below meth c D A nL Q cells slots (pc + 3) ls st w) : zG p l e R s m args below meth c D A nL Q cells slots pc ls (.int x :: st) w := fun H locs L hP hD hS hL => lv_if_lt (z_exec h) (z_code h) d ht (fun q => kt q H locs L hP hD hS hL) (fun q => kf q H locs L hP hD hS hL)
theorem z_if_ge (h : zC p s m meth c args own nL cc D ct A) {x : Int32} {off : Int} (tgt : Nat) (d : decode cc pc = .ok (.ifCond .ge off, 3)) (ht : (pc : Int) + off = (tgt : Int)) (kt : 0 ≤ x → zG p l e R s m args below meth c D A nL Q cells slots tgt ls st w) (kf : ¬ 0 ≤ x → zG p l e R s m args below meth c D A nL Q cells slots (pc + 3) ls st w) : zG p l e R s m args below meth c D A nL Q cells slots pc ls (.int x :: st) w := fun H locs L hP hD hS hL => lv_if_ge (z_exec h) (z_code h) d ht (fun q => kt q H locs L hP hD hS hL) (fun q => kf q H locs L hP hD hS hL)
theorem z_if_gt (h : zC p s m meth c args own nL cc D ct A) {x : Int32} {off : Int} (tgt : Nat) (d : decode cc pc = .ok (.ifCond .gt off, 3)) (ht : (pc : Int) + off = (tgt : Int)) (kt : 0 < x → zG p l e R s m args below meth c D A nL Q cells slots tgt ls st w) (kf : ¬ 0 < x → zG p l e R s m args below meth c D A nL Q cells slots (pc + 3) ls st w) : zG p l e R s m args below meth c D A nL Q cells slots pc ls (.int x :: st) w := fun H locs L hP hD hS hL => lv_if_gt (z_exec h) (z_code h) d ht (fun q => kt q H locs L hP hD hS hL) (fun q => kf q H locs L hP hD hS hL)
theorem z_if_le (h : zC p s m meth c args own nL cc D ct A) {x : Int32} {off : Int} (tgt : Nat) (d : decode cc pc = .ok (.ifCond .le off, 3)) (ht : (pc : Int) + off = (tgt : Int)) (kt : x ≤ 0 → zG p l e R s m args below meth c D A nL Q cells slots tgt ls st w) (kf : ¬ x ≤ 0 → zG p l e R s m args below meth c D A nL Q cells slots (pc + 3) ls st w) : zG p l e R s m args below meth c D A nL Q cells slots pc ls (.int x :: st) w := fun H locs L hP hD hS hL => lv_if_le (z_exec h) (z_code h) d ht (fun q => kt q H locs L hP hD hS hL) (fun q => kf q H locs L hP hD hS hL)
theorem z_icmp_eq (h : zC p s m meth c args own nL cc D ct A) {x y : Int32} {off : Int} (tgt : Nat) (d : decode cc pc = .ok (.if_icmp .eq off, 3)) (ht : (pc : Int) + off = (tgt : Int)) (kt : x = y → zG p l e R s m args below meth c D A nL Q cells slots tgt ls st w) (kf : ¬ x = y → zG p l e R s m args below meth c D A nL Q cells slots (pc + 3) ls st w) : zG p l e R s m args below meth c D A nL Q cells slots pc ls (.int y :: .int x :: st) w := fun H locs L hP hD hS hL => lv_icmp_eq (z_exec h) (z_code h) d ht (fun q => kt q H locs L hP hD hS hL) (fun q => kf q H locs L hP hD hS hL)
theorem z_icmp_ne (h : zC p s m meth c args own nL cc D ct A) {x y : Int32} {off : Int} (tgt : Nat) (d : decode cc pc = .ok (.if_icmp .ne off, 3)) (ht : (pc : Int) + off = (tgt : Int)) (kt : ¬ x = y → zG p l e R s m args below meth c D A nL Q cells slots tgt ls st w) (kf : x = y → zG p l e R s m args below meth c D A nL Q cells slots (pc + 3) ls st w) : zG p l e R s m args below meth c D A nL Q cells slots pc ls (.int y :: .int x :: st) w := fun H locs L hP hD hS hL => lv_icmp_ne (z_exec h) (z_code h) d ht (fun q => kt q H locs L hP hD hS hL) (fun q => kf q H locs L hP hD hS hL)
theorem z_icmp_lt (h : zC p s m meth c args own nL cc D ct A) {x y : Int32} {off : Int} (tgt : Nat) (d : decode cc pc = .ok (.if_icmp .lt off, 3)) (ht : (pc : Int) + off = (tgt : Int)) (kt : x < y → zG p l e R s m args below meth c D A nL Q cells slots tgt ls st w) (kf : ¬ x < y → zG p l e R s m args below meth c D A nL Q cells slots (pc + 3) ls st w) : zG p l e R s m args below meth c D A nL Q cells slots pc ls (.int y :: .int x :: st) w := fun H locs L hP hD hS hL => lv_icmp_lt (z_exec h) (z_code h) d ht (fun q => kt q H locs L hP hD hS hL) (fun q => kf q H locs L hP hD hS hL)
theorem z_icmp_ge (h : zC p s m meth c args own nL cc D ct A) {x y : Int32} {off : Int} (tgt : Nat) (d : decode cc pc = .ok (.if_icmp .ge off, 3)) (ht : (pc : Int) + off = (tgt : Int)) (kt : y ≤ x → zG p l e R s m args below meth c D A nL Q cells slots tgt ls st w) (kf : ¬ y ≤ x → zG p l e R s m args below meth c D A nL Q cells slots (pc + 3) ls st w) : zG p l e R s m args below meth c D A nL Q cells slots pc ls (.int y :: .int x :: st) w := fun H locs L hP hD hS hL => lv_icmp_ge (z_exec h) (z_code h) d ht (fun q => kt q H locs L hP hD hS hL) (fun q => kf q H locs L hP hD hS hL)
theorem z_icmp_gt (h : zC p s m meth c args own nL cc D ct A) {x y : Int32} {off : Int} (tgt : Nat) (d : decode cc pc = .ok (.if_icmp .gt off, 3)) (ht : (pc : Int) + off = (tgt : Int)) (kt : y < x → zG p l e R s m args below meth c D A nL Q cells slots tgt ls st w) (kf : ¬ y < x → zG p l e R s m args below meth c D A nL Q cells slots (pc + 3) ls st w) : zG p l e R s m args below meth c D A nL Q cells slots pc ls (.int y :: .int x :: st) w := fun H locs L hP hD hS hL => lv_icmp_gt (z_exec h) (z_code h) d ht (fun q => kt q H locs L hP hD hS hL) (fun q => kf q H locs L hP hD hS hL)
theorem z_icmp_le (h : zC p s m meth c args own nL cc D ct A) {x y : Int32} {off : Int} (tgt : Nat) (d : decode cc pc = .ok (.if_icmp .le off, 3)) (ht : (pc : Int) + off = (tgt : Int)) (kt : x ≤ y → zG p l e R s m args below meth c D A nL Q cells slots tgt ls st w) (kf : ¬ x ≤ y → zG p l e R s m args below meth c D A nL Q cells slots (pc + 3) ls st w) : zG p l e R s m args below meth c D A nL Q cells slots pc ls (.int y :: .int x :: st) w := fun H locs L hP hD hS hL => lv_icmp_le (z_exec h) (z_code h) d ht (fun q => kt q H locs L hP hD hS hL) (fun q => kf q H locs L hP hD hS hL)
theorem z_goto (h : zC p s m meth c args own nL cc D ct A) {off : Int} (tgt : Nat) (d : decode cc pc = .ok (.goto off, 3)) (ht : (pc : Int) + off = (tgt : Int)) (k : zG p l e R s m args below meth c D A nL Q cells slots tgt ls st w) : zG p l e R s m args below meth c D A nL Q cells slots pc ls st w := fun H locs L hP hD hS hL => lv_goto (z_exec h) (z_code h) d ht (k H locs L hP hD hS hL)
theorem z_get {ref C : String} {T : u_T} {N ci ix : Nat} {fs : List Value} {a : Nat} {v : Value} (q0 k0 : Nat) (h : zC p s m meth c args own nL cc D ct A) (hin : ∀ x ∈ u_ws C T N, x ∈ BW) (hc : vwCl[ci]? = some (C, T, N)) (hk : k0 < N) (hre : (T k0).1 = ref) (hlk : Cond.fieldLink own ix ref (T k0).2.1 (T k0).2.2.1 ∈ BW) (he : w[q0]? = some (a, .inr (ci, fs))) (hv : fs[k0]? = some v) (d : decode cc pc = .ok (.getfield ix, 3)) (k : zG p l e R s m args below meth c D A nL Q cells slots (pc + 3) ls (v :: st) w) : zG p l e R s m args below meth c D A nL Q cells slots pc ls (.ref a :: st) w := fun H locs L hP hD hS hL => va_get (D := D) (z_exec h) (z_code h) (z_hts h) hin (z_own h) (z_K h) hP q0 he hc k0 hk (z_hts h _ hlk) (fun x hx => by rw [← hre]; exact hx) hv d (k H locs L hP hD hS hL)
theorem z_getN {ref C : String} {T : u_T} {N ci ix : Nat} {fs : List Value} {a : Nat} {v : Value} (q0 k0 : Nat) (h : zC p s m meth c args own nL cc D ct A) (hin : ∀ x ∈ u_ws C T N, x ∈ BW) (hc : vwCl[ci]? = some (C, T, N)) (hk : k0 < N) (hre : (T k0).1 = ref) {host : String} (hlk : Cond.fieldLinkNest own ix ref (T k0).2.1 (T k0).2.2.1 host ∈ NW) (he : w[q0]? = some (a, .inr (ci, fs))) (hv : fs[k0]? = some v) (d : decode cc pc = .ok (.getfield ix, 3)) (k : zG p l e R s m args below meth c D A nL Q cells slots (pc + 3) ls (v :: st) w) : zG p l e R s m args below meth c D A nL Q cells slots pc ls (.ref a :: st) w := fun H locs L hP hD hS hL => va_getN (D := D) (z_exec h) (z_code h) (z_hts h) hin (z_own h) (z_K h) hP q0 he hc k0 hk (va_Nw.use rfl (z_N h _ hlk)) (fun x hx => by rw [← hre]; exact hx) hv d (k H locs L hP hD hS hL)
theorem z_put {ref C : String} {T : u_T} {N ci ix : Nat} {fs : List Value} {a : Nat} {v : Value} {ty0 : Nat → FieldType} (q0 k0 : Nat) (h : zC p s m meth c args own nL cc D ct A) (hin : ∀ x ∈ u_ws C T N, x ∈ BW) (hty : ∀ k, k < N → parseFieldDescriptor (T k).2.2.1 = some (ty0 k)) (hnm : ∀ a, a < N → ∀ b, b < N → a ≠ b → (T a).2.1 ≠ (T b).2.1) (hc : vwCl[ci]? = some (C, T, N)) (hk : k0 < N) (hre : (T k0).1 = ref) (hlk : Cond.fieldLink own ix ref (T k0).2.1 (T k0).2.2.1 ∈ BW) (he : w[q0]? = some (a, .inr (ci, fs))) (hfin : (T k0).2.2.2 = false) (hn : narrow (ty0 k0) v = v) (hfit : fits (ty0 k0) v = true) (hl : k0 < fs.length) (d : decode cc pc = .ok (.putfield ix, 3)) {w2 : va_W} (hw : w.set q0 (a, .inr (ci, fs.set k0 v)) = w2) (k : zG p l e R s m args below meth c D A nL Q cells slots (pc + 3) ls st w2) : zG p l e R s m args below meth c D A nL Q cells slots pc ls (v :: .ref a :: st) w := fun H locs L hP hD hS hL => va_put (D := D) (z_exec h) (z_code h) (z_hts h) hin ty0 hty hnm (z_own h) (z_K h) hP hD hS q0 he hc k0 hk (z_hts h _ hlk) (fun x hx => by rw [← hre]; exact hx) hfin (hty k0 hk) hn hfit hl d (fun H1 locs1 hP1 hD1 hS1 => k H1 locs1 L (hw ▸ hP1) (hw ▸ hD1) hS1 hL)
theorem z_putN {ref C : String} {T : u_T} {N ci ix : Nat} {fs : List Value} {a : Nat} {v : Value} {ty0 : Nat → FieldType} (q0 k0 : Nat) (h : zC p s m meth c args own nL cc D ct A) (hin : ∀ x ∈ u_ws C T N, x ∈ BW) (hty : ∀ k, k < N → parseFieldDescriptor (T k).2.2.1 = some (ty0 k)) (hnm : ∀ a, a < N → ∀ b, b < N → a ≠ b → (T a).2.1 ≠ (T b).2.1) (hc : vwCl[ci]? = some (C, T, N)) (hk : k0 < N) (hre : (T k0).1 = ref) {host : String} (hlk : Cond.fieldLinkNest own ix ref (T k0).2.1 (T k0).2.2.1 host ∈ NW) (he : w[q0]? = some (a, .inr (ci, fs))) (hfin : (T k0).2.2.2 = false) (hn : narrow (ty0 k0) v = v) (hfit : fits (ty0 k0) v = true) (hl : k0 < fs.length) (d : decode cc pc = .ok (.putfield ix, 3)) {w2 : va_W} (hw : w.set q0 (a, .inr (ci, fs.set k0 v)) = w2) (k : zG p l e R s m args below meth c D A nL Q cells slots (pc + 3) ls st w2) : zG p l e R s m args below meth c D A nL Q cells slots pc ls (v :: .ref a :: st) w := fun H locs L hP hD hS hL => va_putN (D := D) (z_exec h) (z_code h) (z_hts h) hin ty0 hty hnm (z_own h) (z_K h) hP hD hS q0 he hc k0 hk (va_Nw.use rfl (z_N h _ hlk)) (fun x hx => by rw [← hre]; exact hx) hfin (hty k0 hk) hn hfit hl d (fun H1 locs1 hP1 hD1 hS1 => k H1 locs1 L (hw ▸ hP1) (hw ▸ hD1) hS1 hL)
theorem z_iald {a n : Nat} {cA : ClassId} {f : Nat → Int32} {i : Int32} (q0 t0 : Nat) (h : zC p s m meth c args own nL cc D ct A) (ht : (zty ct)[t0]? = some (cA, .int)) (ha : w[q0]? = some (a, .inl (cA, n, .inl f))) (hin : vp_in i n) (d : decode cc pc = .ok (.iaload, 1)) (k : zG p l e R s m args below meth c D A nL Q cells slots (pc + 1) ls (.int (f i.toNatClampNeg) :: st) w) : zG p l e R s m args below meth c D A nL Q cells slots pc ls (.int i :: .ref a :: st) w := fun H locs L hP hD hS hL => va_iald (D := D) (z_exec h) (z_code h) (z_K h) hP q0 t0 ha ht hin d (k H locs L hP hD hS hL)
theorem z_zald {a n : Nat} {cA : ClassId} {f : Nat → Int32} {i : Int32} (q0 t0 : Nat) (h : zC p s m meth c args own nL cc D ct A) (ht : (zty ct)[t0]? = some (cA, .boolean)) (ha : w[q0]? = some (a, .inl (cA, n, .inl f))) (hin : vp_in i n) (d : decode cc pc = .ok (.baload, 1)) (k : zG p l e R s m args below meth c D A nL Q cells slots (pc + 1) ls (.int (f i.toNatClampNeg) :: st) w) : zG p l e R s m args below meth c D A nL Q cells slots pc ls (.int i :: .ref a :: st) w := fun H locs L hP hD hS hL => va_zald (D := D) (z_exec h) (z_code h) (z_K h) hP q0 t0 ha ht hin d (k H locs L hP hD hS hL)
theorem z_cald {a n : Nat} {cA : ClassId} {f : Nat → Int32} {i : Int32} (q0 t0 : Nat) (h : zC p s m meth c args own nL cc D ct A) (ht : (zty ct)[t0]? = some (cA, .char)) (ha : w[q0]? = some (a, .inl (cA, n, .inl f))) (hin : vp_in i n) (d : decode cc pc = .ok (.caload, 1)) (k : zG p l e R s m args below meth c D A nL Q cells slots (pc + 1) ls (.int (f i.toNatClampNeg) :: st) w) : zG p l e R s m args below meth c D A nL Q cells slots pc ls (.int i :: .ref a :: st) w := fun H locs L hP hD hS hL => va_cald (D := D) (z_exec h) (z_code h) (z_K h) hP q0 t0 ha ht hin d (k H locs L hP hD hS hL)
theorem z_iast {a n : Nat} {cA : ClassId} {f : Nat → Int32} {i x : Int32} (q0 t0 : Nat) (h : zC p s m meth c args own nL cc D ct A) (ht : (zty ct)[t0]? = some (cA, .int)) (ha : w[q0]? = some (a, .inl (cA, n, .inl f))) (hin : vp_in i n) (d : decode cc pc = .ok (.iastore, 1)) {w2 : va_W} (hw : w.set q0 (a, .inl (cA, n, .inl (upd f i.toNatClampNeg x))) = w2) (k : zG p l e R s m args below meth c D A nL Q cells slots (pc + 1) ls st w2) : zG p l e R s m args below meth c D A nL Q cells slots pc ls (.int x :: .int i :: .ref a :: st) w := fun H locs L hP hD hS hL => va_iast (D := D) (z_exec h) (z_code h) (z_K h) hP hD hS q0 t0 ha ht hin d (fun H1 locs1 hP1 hD1 hS1 => k H1 locs1 L (hw ▸ hP1) (hw ▸ hD1) hS1 hL)
theorem z_zast {a n : Nat} {cA : ClassId} {f : Nat → Int32} {i x : Int32} (q0 t0 : Nat) (h : zC p s m meth c args own nL cc D ct A) (ht : (zty ct)[t0]? = some (cA, .boolean)) (ha : w[q0]? = some (a, .inl (cA, n, .inl f))) (hin : vp_in i n) (d : decode cc pc = .ok (.bastore, 1)) {w2 : va_W} (hw : w.set q0 (a, .inl (cA, n, .inl (upd f i.toNatClampNeg (vp_nar .boolean x)))) = w2) (k : zG p l e R s m args below meth c D A nL Q cells slots (pc + 1) ls st w2) : zG p l e R s m args below meth c D A nL Q cells slots pc ls (.int x :: .int i :: .ref a :: st) w := fun H locs L hP hD hS hL => va_zast (D := D) (z_exec h) (z_code h) (z_K h) hP hD hS q0 t0 ha ht hin d (fun H1 locs1 hP1 hD1 hS1 => k H1 locs1 L (hw ▸ hP1) (hw ▸ hD1) hS1 hL)
theorem z_cast {a n : Nat} {cA : ClassId} {f : Nat → Int32} {i x : Int32} (q0 t0 : Nat) (h : zC p s m meth c args own nL cc D ct A) (ht : (zty ct)[t0]? = some (cA, .char)) (ha : w[q0]? = some (a, .inl (cA, n, .inl f))) (hin : vp_in i n) (d : decode cc pc = .ok (.castore, 1)) {w2 : va_W} (hw : w.set q0 (a, .inl (cA, n, .inl (upd f i.toNatClampNeg (vp_nar .char x)))) = w2) (k : zG p l e R s m args below meth c D A nL Q cells slots (pc + 1) ls st w2) : zG p l e R s m args below meth c D A nL Q cells slots pc ls (.int x :: .int i :: .ref a :: st) w := fun H locs L hP hD hS hL => va_cast (D := D) (z_exec h) (z_code h) (z_K h) hP hD hS q0 t0 ha ht hin d (fun H1 locs1 hP1 hD1 hS1 => k H1 locs1 L (hw ▸ hP1) (hw ▸ hD1) hS1 hL)
theorem z_alen {a : Nat} {cA : ClassId} {x : vp_A} {ty : FieldType} (q0 t0 : Nat) (h : zC p s m meth c args own nL cc D ct A) (ht : (zty ct)[t0]? = some (cA, ty)) (ha : w[q0]? = some (a, .inl (cA, x))) (d : decode cc pc = .ok (.arraylength, 1)) (k : zG p l e R s m args below meth c D A nL Q cells slots (pc + 1) ls (.int (Int32.ofNat x.1) :: st) w) : zG p l e R s m args below meth c D A nL Q cells slots pc ls (.ref a :: st) w := fun H locs L hP hD hS hL => va_alen (D := D) (z_exec h) (z_code h) (z_K h) hP q0 t0 ha ht rfl d (k H locs L hP hD hS hL)
theorem z_lookup (h : zC p s m meth c args own nL cc D ct A) {dflt : Int} {ps : Array (Int × Int)} {len : Nat} {x : Int32} {off : Int} (tgt : Nat) (d : decode cc pc = .ok (.lookupswitch dflt ps, len)) (hp : (ps.toList.zip (ps.toList.drop 1)).all (fun (a, next) => a.1 < next.1) = true) (ho : Op.lookupswitch.offset ps.toList dflt x.toInt = off) (ht : (pc : Int) + off = (tgt : Int)) (k : zG p l e R s m args below meth c D A nL Q cells slots tgt ls st w) : zG p l e R s m args below meth c D A nL Q cells slots pc ls (.int x :: st) w := fun H locs L hP hD hS hL => lv_lookup (z_exec h) (z_code h) d hp ho ht (k H locs L hP hD hS hL)
theorem z_tableIn (h : zC p s m meth c args own nL cc D ct A) {dflt lo hi : Int} {offs : Array Int} {len : Nat} {x : Int32} {off : Int} (tgt : Nat) (d : decode cc pc = .ok (.tableswitch dflt lo hi offs, len)) (h1 : ¬ x.toInt < lo) (h2 : ¬ hi < x.toInt) (ho : offs[(x.toInt - lo).toNat]? = some off) (ht : (pc : Int) + off = (tgt : Int)) (k : zG p l e R s m args below meth c D A nL Q cells slots tgt ls st w) : zG p l e R s m args below meth c D A nL Q cells slots pc ls (.int x :: st) w := fun H locs L hP hD hS hL => lv_tableIn (z_exec h) (z_code h) d h1 h2 ho ht (k H locs L hP hD hS hL)
theorem z_tableOut (h : zC p s m meth c args own nL cc D ct A) {dflt lo hi : Int} {offs : Array Int} {len : Nat} {x : Int32} (tgt : Nat) (d : decode cc pc = .ok (.tableswitch dflt lo hi offs, len)) (h1 : x.toInt < lo ∨ hi < x.toInt) (ht : (pc : Int) + dflt = (tgt : Int)) (k : zG p l e R s m args below meth c D A nL Q cells slots tgt ls st w) : zG p l e R s m args below meth c D A nL Q cells slots pc ls (.int x :: st) w := fun H locs L hP hD hS hL => lv_tableOut (z_exec h) (z_code h) d h1 ht (k H locs L hP hD hS hL)
end ZG
section ZR
variable {p : Program} {l : Launch} {e : Env} {R : Room} {s : State} {m : MethodId} {args : Array Value} {below : List Frame} {meth : Method} {c : Code} {D : va_G} {nL : Nat} {cells slots pc mc ms : Nat} {ls : List (Option Value)} {st : List Value} {w w0 wa wb : va_W} {own : String} {cc : ByteArray} {ct : Nat → ClassId} {po : Option Value → va_W → va_W → Prop}
theorem z_end {v : Option Value} {H : Heap} {locs : List Loc} {t : State} (hpo : po v wa wb) (hw : w = wa ++ wb) (hadr : wa.map Prod.fst = w0.map Prod.fst) (hP : va_P D vwCl w H) (hD : va_D (va_A w0 s.heap.size) w) (hS : va_S (va_A w0 s.heap.size) s.heap H locs) (ht : t.heap = H) : zQ D ct w0 s.heap.size po args s (.returned v) t := by
  subst hw
  exact ⟨v, wa, wb, rfl, hpo, hadr, by rw [ht]; exact hP, hD, hS.F ht⟩
theorem z_iret {v : Int32} (h : zC p s m meth c args own nL cc D ct (va_A w0 s.heap.size)) (hr : meth.sig.returnType = some .int) (d : decode cc pc = .ok (.ireturn, 1)) (hc : cells ≤ mc) (hs : slots ≤ ms) (hpo : po (some (.int v)) wa wb) (hw : w = wa ++ wb) (hadr : wa.map Prod.fst = w0.map Prod.fst) : zG p l e R s m args below meth c D (va_A w0 s.heap.size) nL (MQ below (zQ D ct w0 s.heap.size po) args s mc ms (va_A w0 s.heap.size)) cells slots pc ls [.int v] w := fun H locs L hP hD hS hL =>
  W.widen hc hs (W.iret (z_exec h) (z_code h) hr (fun t ht hW => z_end hpo hw hadr hP hD hS ht) hS.2.2 d (z_locks h))
theorem z_zret {v : Int32} {ty : FieldType} (h : zC p s m meth c args own nL cc D ct (va_A w0 s.heap.size)) (hr : meth.sig.returnType = some ty) (hn : narrow ty (.int v) = .int v) (d : decode cc pc = .ok (.ireturn, 1)) (hc : cells ≤ mc) (hs : slots ≤ ms) (hpo : po (some (.int v)) wa wb) (hw : w = wa ++ wb) (hadr : wa.map Prod.fst = w0.map Prod.fst) : zG p l e R s m args below meth c D (va_A w0 s.heap.size) nL (MQ below (zQ D ct w0 s.heap.size po) args s mc ms (va_A w0 s.heap.size)) cells slots pc ls [.int v] w := fun H locs L hP hD hS hL =>
  W.widen hc hs (W.zret (z_exec h) (z_code h) hr hn (fun t ht hW => z_end hpo hw hadr hP hD hS ht) hS.2.2 d (z_locks h))
theorem z_vret (h : zC p s m meth c args own nL cc D ct (va_A w0 s.heap.size)) (hr : meth.sig.returnType = none) (d : decode cc pc = .ok (.return_, 1)) (hc : cells ≤ mc) (hs : slots ≤ ms) (hpo : po none wa wb) (hw : w = wa ++ wb) (hadr : wa.map Prod.fst = w0.map Prod.fst) : zG p l e R s m args below meth c D (va_A w0 s.heap.size) nL (MQ below (zQ D ct w0 s.heap.size po) args s mc ms (va_A w0 s.heap.size)) cells slots pc ls [] w := fun H locs L hP hD hS hL =>
  W.widen hc hs (W.vret (z_exec h) (z_code h) hr (fun t ht hW => z_end hpo hw hadr hP hD hS ht) hS.2.2 d (z_locks h))
theorem z_dret {v : UInt64} (h : zC p s m meth c args own nL cc D ct (va_A w0 s.heap.size)) (hr : meth.sig.returnType = some .double) (d : decode cc pc = .ok (.dreturn, 1)) (hc : cells ≤ mc) (hs : slots ≤ ms) (hpo : po (some (.double v)) wa wb) (hw : w = wa ++ wb) (hadr : wa.map Prod.fst = w0.map Prod.fst) : zG p l e R s m args below meth c D (va_A w0 s.heap.size) nL (MQ below (zQ D ct w0 s.heap.size po) args s mc ms (va_A w0 s.heap.size)) cells slots pc ls [.double v] w := fun H locs L hP hD hS hL =>
  W.widen hc hs (W.dret (z_exec h) (z_code h) hr (fun t ht hW => z_end hpo hw hadr hP hD hS ht) hS.2.2 d (z_locks h))
theorem zofW {y : MethodName} {ws ws' : List Cond} {rm : Room} {Pc : Array Value → State → Prop} {Qc : Array Value → State → Outcome → State → Prop} {mc ms : Nat} {free : Addr → Prop} {cc : ByteArray} {maxL : Nat} {ret : Option FieldType}
    (hy : plainFor y = true) (hw : ws = Cond.code y cc maxL ret :: ws')
    (body : ∀ p e s m args below meth c s₁, BodyLoose p l y (headSpec ws rm) cc maxL ret e s m args below meth c s₁ → c.maxLocals = maxL → Pc args s →
      W p l e (headSpec ws rm).room s m args below meth c s.heap [] 0 0 (MQ below Qc args s mc ms free) (entryFrame m args maxL)) : Met l y ws rm Pc Qc mc ms free := by
  refine MetFree.of_bodySF (code := cc) (maxLocals := maxL) (ret := ret) hy ?_ ?_
  · intro args s m h hn
    obtain ⟨meth, c, h1, h2, h3, h4, h5, h6, -, -⟩ := Cond.code_spec hn (atoms_spec (ws := ws) h _ (by rw [hw]; exact List.mem_cons_self))
    exact ⟨meth, c, h1, h2, h3, h4, h5, h6⟩
  · intro p e s m args below meth c s₁ B hml hP _
    have hh0 : s₁.heap = s.heap := by rw [B.state]; rfl
    obtain ⟨t, a1, o, b1, b2, b3⟩ := body p e s m args below meth c s₁ B hml hP s₁ hh0 (Stand.of_body B)
    exact ⟨t, o, a1, b1, b2, ⟨b3.1, b3.2⟩⟩
/-- a contract out of its walk -/
theorem zT_of {y : MethodName} {n fr lo : Nat} {ret : Option FieldType} {av : List Value} (ls0 : List (Option Value)) (hy : plainFor y = true) (hls : lvs 0 ls0 = lv_args 0 av) (hn : (lg_sl av).length ≤ n)
    (body : ∀ p e s m args below meth c, zC p s m meth c args y.cls n cc D ct (va_A w0 s.heap.size) → meth.sig.returnType = ret → meth.name = y.name →
      zG p l e { frames := fr, cells := mc, slots := ms, locals := lo } s m args below meth c D (va_A w0 s.heap.size) n (MQ below (zQ D ct w0 s.heap.size po) args s mc ms (va_A w0 s.heap.size)) 0 0 0 ls0 [] w0) : zT l D ct y cc n ret fr lo mc ms av w0 po := by
  intro sz
  refine zofW (cc := cc) (maxL := n) (ret := ret) hy rfl ?_
  intro p e s m args below meth c s₁ B hml hv
  obtain ⟨rfl, rfl, hP, hK, hD0, hN⟩ := hv
  have hts := atoms_spec (ws := .code y cc n ret :: BW) B.pre
  have hl := lv_entry av (n := n) hn
  rw [lg_entry_eq]
  rw [← hls] at hl
  exact body p e s m _ below meth c ⟨B.exec, B.bytes, hml, findClass_of_methodNamed B.named, fun w hw => hts w (List.mem_cons_of_mem _ hw), hK, hN, fun q h => Or.inr h, B.notSynchronized⟩ B.returns (name_of_methodNamed B.named B.method).1 s.heap [] _ hP hD0.self va_S.rf hl
end ZR
section ZK
variable {p : Program} {l : Launch} {e : Env} {R : Room} {s : State} {m : MethodId} {args : Array Value} {below : List Frame} {meth : Method} {c : Code} {D : va_G} {A : Nat → Prop} {nL : Nat} {Q : State → Prop} {cells slots pc mc ms fr lo mL : Nat} {ls : List (Option Value)} {rest : List Value} {w wc : va_W} {own : String} {cc cb : ByteArray} {ct : Nat → ClassId} {po : Option Value → va_W → va_W → Prop} {y : MethodName} {ret : Option FieldType} {As : List Value} {b ix : Nat} {host : String}
/-- behind any call -/
theorem zcall {st0 : List Value} {free : Addr → Prop} {a : Array Value} (h : zC p s m meth c args own nL cc D ct A) {ps : List Nat} (hnd : va_nd ps = true) (hps : ps.map (fun i => w[i]?) = wc.map some)
    (hr : ∀ (H : Heap) (locs : List Loc) (L : Array Slot), L.size = nL → va_P D vwCl w H → va_D A w → va_P D vwCl wc H → va_D (fun _ => True) wc → va_Run p l e R s m args below meth c H locs cells slots mc ms (F0 m pc L st0) rest (zQ D ct wc H.size po a) (va_A wc H.size))
    (kk : ∀ (v : Option Value) (wa wb : va_W), po v wa wb → wa.map Prod.fst = wc.map Prod.fst → zG p l e R s m args below meth c D A nL Q (cells + mc) (slots + ms) (pc + 3) ls (v.toList ++ rest) (wput w ps wa ++ wb)) : zG p l e R s m args below meth c D A nL Q cells slots pc ls st0 w := by
  intro H locs L hP hD hS hL T hT X
  have hPc : va_P D vwCl wc H := fun k q hq => by
    have hk : k < ps.length := by
      have h1 : ps.length = wc.length := by simpa using congrArg List.length hps
      rw [h1]; exact (List.getElem?_eq_some_iff.mp hq).1
    have h2 := wc_at hps (List.getElem?_eq_getElem hk)
    rw [hq] at h2
    exact hP _ q h2
  have hFc : ∀ q, va_A wc H.size q → A q := va_free hD hS (z_A h) ps hps
  have hDc : va_D (fun _ => True) wc := (hD.sub ps hnd hps).weaken (fun _ _ _ _ => trivial)
  obtain ⟨v, st₀, t, T', L2, h0, X', hL2, e1, e2, ⟨v2, wa, wb, hv, hpo, hadr, hP1, hD1, hz, hk⟩, hst⟩ := hr H locs L hL.1 hP hD hPc hDc T hT X
  cases hv
  rw [h0] at hz hk
  rw [← e1] at hP1 hz hk
  obtain ⟨hP2, hD2⟩ := zjoin hP hD hps hadr hk hFc hP1 hD1
  have hS2 : va_S A s.heap T'.heap (locs ++ L2) := ⟨Nat.le_trans hS.1 hz, fun q h1 h2 => by rw [hk q (Nat.lt_of_lt_of_le h1 hS.1) (fun z => h2 (hFc q z))]; exact hS.2.1 q h1 h2, fun q hq => by
    rcases List.mem_append.mp hq with h3 | h3
    · exact hS.2.2 q h3
    · exact hFc _ (hL2 q h3)⟩
  obtain ⟨t2, a1, b1⟩ := kk v wa wb hpo hadr T'.heap (locs ++ L2) L hP2 hD2 hS2 hL T' rfl X'
  exact ⟨t2, hst t2 a1, b1⟩
theorem zpre {H : Heap} {U : State} (h : zC p s m meth c args own nL cc D ct A) (hPc : va_P D vwCl wc H) (hDc : va_D (fun _ => True) wc) (hU : U.heap = H) (hW : s.WarmedH U.vm) : U.heap.size = H.size ∧ wB D ct wc U :=
  ⟨by rw [hU], by rw [hU]; exact hPc, va_K.moved hW.alike (z_K h), hDc, (z_N h).warm hW⟩
theorem zblind {sz : Nat} {av : List Value} : FrameBlind (va_Pc av (fun U => U.heap.size = sz ∧ wB D ct wc U)) := fun a U g mk q => by
  obtain ⟨q0, q1, q2⟩ := q
  exact ⟨q0, q1, q2.call⟩
/-- a private or public method of an object, from its own class -/
theorem z_callV (ps : List Nat) (q0 ci : Nat) {fs : List Value} {T : u_T} {N : Nat} (h : zC p s m meth c args own nL cc D ct A) (hM : zT l D ct y cb mL ret fr lo mc ms (.ref b :: As) wc po)
    (hl : Cond.methodLink own ix y ∈ BW) (hi : Cond.instanceMethod y ∈ BW) (hse : Cond.selects y.cls y y ∈ BW) (hini : Cond.initialized y.cls ∈ BW) (hco : Cond.code y cb mL ret ∈ BW)
    (nA : Nat) (hd : y.cls ≠ "java/lang/invoke/MethodHandle" ∧ y.cls ≠ "java/lang/invoke/VarHandle" ∧ (parseMethodDescriptor y.desc).map (fun d => d.parameters.length) = some nA) (hlen : As.length = nA)
    (hnd : va_nd ps = true) (hps : ps.map (fun i => w[i]?) = wc.map some) (hc : vwCl[ci]? = some (y.cls, T, N)) (he : wc[q0]? = some (b, .inr (ci, fs)))
    (hR : fr + 1 ≤ R.frames ∧ 8 + (mL + 11) + lo ≤ R.locals) (hrs : (rest.map fun v => v.category).sum ≤ 8) (hf : cells + mc ≤ R.cells ∧ slots + ms ≤ R.slots) {st0 : List Value} (hst : st0 = As.reverse ++ .ref b :: rest) (d : decode cc pc = .ok (.invokevirtual ix, 3))
    (kk : ∀ (v : Option Value) (wa wb : va_W), po v wa wb → wa.map Prod.fst = wc.map Prod.fst → zG p l e R s m args below meth c D A nL Q (cells + mc) (slots + ms) (pc + 3) ls (v.toList ++ rest) (wput w ps wa ++ wb)) : zG p l e R s m args below meth c D A nL Q cells slots pc ls st0 w := by
  refine zcall (free := fun _ => True) (a := (Value.ref b :: As).toArray) h hnd hps (fun H locs L hLs hP hD hPc hDc => ?_) kk
  have hts := z_hts h
  have cb0 : CallB R s args own ix y cb mL ret (.code y cb mL ret :: BW) { frames := fr, cells := mc, slots := ms, locals := lo } mc ms nA := callB_of nA hts (BW_cons hco) rfl rfl rfl (hts _ hini) (hts _ hl) hd hR
  exact va_runV (Ts := BW) (C := y.cls) ⟨z_exec h, z_code h, h.2.2.1, z_own h, hts⟩ (hM H.size) ⟨cb0, hts _ hi, hts _ hse⟩ ⟨zblind, va_recv (z_K h) hPc hc he, fun U hU hW => ⟨rfl, zpre h hPc hDc hU hW⟩⟩ rfl hlen hLs hst (lv_room hrs) d hf
/-- a method of a nest mate -/
theorem z_callVN (ps : List Nat) (q0 ci : Nat) {fs : List Value} {T : u_T} {N : Nat} (h : zC p s m meth c args own nL cc D ct A) (hM : zT l D ct y cb mL ret fr lo mc ms (.ref b :: As) wc po)
    (hl : Cond.methodLinkNest own ix y host ∈ NW) (hi : Cond.instanceMethod y ∈ BW) (hse : Cond.selects y.cls y y ∈ BW) (hini : Cond.initialized y.cls ∈ BW) (hco : Cond.code y cb mL ret ∈ BW)
    (nA : Nat) (hd : y.cls ≠ "java/lang/invoke/MethodHandle" ∧ y.cls ≠ "java/lang/invoke/VarHandle" ∧ (parseMethodDescriptor y.desc).map (fun d => d.parameters.length) = some nA) (hlen : As.length = nA)
    (hnd : va_nd ps = true) (hps : ps.map (fun i => w[i]?) = wc.map some) (hc : vwCl[ci]? = some (y.cls, T, N)) (he : wc[q0]? = some (b, .inr (ci, fs)))
    (hR : fr + 1 ≤ R.frames ∧ 8 + (mL + 11) + lo ≤ R.locals) (hrs : (rest.map fun v => v.category).sum ≤ 8) (hf : cells + mc ≤ R.cells ∧ slots + ms ≤ R.slots) {st0 : List Value} (hst : st0 = As.reverse ++ .ref b :: rest) (d : decode cc pc = .ok (.invokevirtual ix, 3))
    (kk : ∀ (v : Option Value) (wa wb : va_W), po v wa wb → wa.map Prod.fst = wc.map Prod.fst → zG p l e R s m args below meth c D A nL Q (cells + mc) (slots + ms) (pc + 3) ls (v.toList ++ rest) (wput w ps wa ++ wb)) : zG p l e R s m args below meth c D A nL Q cells slots pc ls st0 w := by
  refine zcall (free := fun _ => True) (a := (Value.ref b :: As).toArray) h hnd hps (fun H locs L hLs hP hD hPc hDc => ?_) kk
  have hts := z_hts h
  have cb0 : va_CN R s args own ix y host cb mL ret (.code y cb mL ret :: BW) { frames := fr, cells := mc, slots := ms, locals := lo } mc ms nA := va_cnB nA hts (BW_cons hco) rfl rfl rfl (z_N h _ hl) (hts _ hini) hd hR
  exact va_runVN (Ts := BW) (C := y.cls) ⟨z_exec h, z_code h, h.2.2.1, z_own h, hts⟩ (hM H.size) ⟨cb0, hts _ hi, hts _ hse⟩ ⟨zblind, va_recv (z_K h) hPc hc he, fun U hU hW => ⟨rfl, zpre h hPc hDc hU hW⟩⟩ rfl hlen hLs hst (lv_room hrs) d hf
/-- a static method -/
theorem z_callS (ps : List Nat) (h : zC p s m meth c args own nL cc D ct A) (hM : zT l D ct y cb mL ret fr lo mc ms As wc po)
    (hl : Cond.methodLink own ix y ∈ BW) (hi : Cond.static y ∈ BW) (hini : Cond.initialized y.cls ∈ BW) (hco : Cond.code y cb mL ret ∈ BW)
    (nA : Nat) (hd : y.cls ≠ "java/lang/invoke/MethodHandle" ∧ y.cls ≠ "java/lang/invoke/VarHandle" ∧ (parseMethodDescriptor y.desc).map (fun d => d.parameters.length) = some nA) (hlen : As.length = nA)
    (hnd : va_nd ps = true) (hps : ps.map (fun i => w[i]?) = wc.map some)
    (hR : fr + 1 ≤ R.frames ∧ 8 + (mL + 11) + lo ≤ R.locals) (hrs : (rest.map fun v => v.category).sum ≤ 8) (hf : cells + mc ≤ R.cells ∧ slots + ms ≤ R.slots) {st0 : List Value} (hst : st0 = As.reverse ++ rest) (d : decode cc pc = .ok (.invokestatic ix, 3))
    (kk : ∀ (v : Option Value) (wa wb : va_W), po v wa wb → wa.map Prod.fst = wc.map Prod.fst → zG p l e R s m args below meth c D A nL Q (cells + mc) (slots + ms) (pc + 3) ls (v.toList ++ rest) (wput w ps wa ++ wb)) : zG p l e R s m args below meth c D A nL Q cells slots pc ls st0 w := by
  refine zcall (free := fun _ => True) (a := As.toArray) h hnd hps (fun H locs L hLs hP hD hPc hDc => ?_) kk
  have hts := z_hts h
  have cb0 : CallB R s args own ix y cb mL ret (.code y cb mL ret :: BW) { frames := fr, cells := mc, slots := ms, locals := lo } mc ms nA := callB_of nA hts (BW_cons hco) rfl rfl rfl (hts _ hini) (hts _ hl) hd hR
  exact va_runS (Ts := BW) ⟨z_exec h, z_code h, h.2.2.1, z_own h, hts⟩ (hM H.size) ⟨cb0, hts _ hi⟩ ⟨zblind, fun U hU hW => ⟨rfl, zpre h hPc hDc hU hW⟩⟩ rfl hlen hLs hst (lv_room hrs) d hf
theorem z_callSN (ps : List Nat) (h : zC p s m meth c args own nL cc D ct A) (hM : zT l D ct y cb mL ret fr lo mc ms As wc po)
    (hl : Cond.methodLinkNest own ix y host ∈ NW) (hi : Cond.static y ∈ BW) (hini : Cond.initialized y.cls ∈ BW) (hco : Cond.code y cb mL ret ∈ BW)
    (nA : Nat) (hd : y.cls ≠ "java/lang/invoke/MethodHandle" ∧ y.cls ≠ "java/lang/invoke/VarHandle" ∧ (parseMethodDescriptor y.desc).map (fun d => d.parameters.length) = some nA) (hlen : As.length = nA)
    (hnd : va_nd ps = true) (hps : ps.map (fun i => w[i]?) = wc.map some)
    (hR : fr + 1 ≤ R.frames ∧ 8 + (mL + 11) + lo ≤ R.locals) (hrs : (rest.map fun v => v.category).sum ≤ 8) (hf : cells + mc ≤ R.cells ∧ slots + ms ≤ R.slots) {st0 : List Value} (hst : st0 = As.reverse ++ rest) (d : decode cc pc = .ok (.invokestatic ix, 3))
    (kk : ∀ (v : Option Value) (wa wb : va_W), po v wa wb → wa.map Prod.fst = wc.map Prod.fst → zG p l e R s m args below meth c D A nL Q (cells + mc) (slots + ms) (pc + 3) ls (v.toList ++ rest) (wput w ps wa ++ wb)) : zG p l e R s m args below meth c D A nL Q cells slots pc ls st0 w := by
  refine zcall (free := fun _ => True) (a := As.toArray) h hnd hps (fun H locs L hLs hP hD hPc hDc => ?_) kk
  have hts := z_hts h
  have cb0 : va_CN R s args own ix y host cb mL ret (.code y cb mL ret :: BW) { frames := fr, cells := mc, slots := ms, locals := lo } mc ms nA := va_cnB nA hts (BW_cons hco) rfl rfl rfl (z_N h _ hl) (hts _ hini) hd hR
  exact va_runSN (Ts := BW) ⟨z_exec h, z_code h, h.2.2.1, z_own h, hts⟩ (hM H.size) ⟨cb0, hts _ hi, trivial⟩ ⟨zblind, fun U hU hW => ⟨rfl, zpre h hPc hDc hU hW⟩⟩ rfl hlen hLs hst (lv_room hrs) d hf
end ZK

section ZX
variable {p : Program} {l : Launch} {e : Env} {R : Room} {s : State} {m : MethodId} {args : Array Value} {below : List Frame} {meth : Method} {c : Code} {D : va_G} {A : Nat → Prop} {nL : Nat} {Q : State → Prop} {cells slots pc mc ms : Nat} {ls : List (Option Value)} {st : List Value} {w w0 w' : va_W} {own : String} {cc : ByteArray} {ct : Nat → ClassId}
theorem z_min {x y : Int32} {ix : Nat} (h : zC p s m meth c args own nL cc D ct A) (hl : Cond.methodLink own ix Lib.Math.min.name ∈ BW) (d : decode cc pc = .ok (.invokestatic ix, 3)) (hf : 1 ≤ R.frames) (hlo : (st.map fun v => v.category).sum + 13 ≤ R.locals) (hc : cells ≤ R.cells) (hs : slots ≤ R.slots)
    (k : zG p l e R s m args below meth c D A nL Q cells slots (pc + 3) ls (.int (if y < x then y else x) :: st) w) : zG p l e R s m args below meth c D A nL Q cells slots pc ls (.int y :: .int x :: st) w := fun H locs L hP hD hS hL =>
  va_mmin (z_exec h) (z_code h) (h.2.2.1.trans hL.1.symm) (z_own h) (z_hts h _ hl) (z_hts h _ bw_114) (z_hts h _ bw_115) (z_hts h _ bw_116) hf hlo hc hs d (k H locs L hP hD hS hL)
theorem z_objInit {a ix : Nat} (h : zC p s m meth c args own nL cc D ct A) (hl : Cond.methodLink own ix objectInit ∈ BW) (d : decode cc pc = .ok (.invokespecial ix, 3)) (hf : 1 ≤ R.frames) (hlo : (st.map fun v => v.category).sum + 12 ≤ R.locals)
    (k : zG p l e R s m args below meth c D A nL Q cells slots (pc + 3) ls st w) : zG p l e R s m args below meth c D A nL Q cells slots pc ls (.ref a :: st) w := fun H locs L hP hD hS hL =>
  W.objInit (z_exec h) (z_code h) (z_own h) (z_hts h _ hl) (z_hts h _ bw_11) (z_hts h _ bw_12) rfl (hL.1.trans h.2.2.1.symm) rfl d hf (by simpa [F0, JFrame.monitorRoom] using hlo) (W.eq (g2 := F0 m (pc + 3) L st) rfl (k H locs L hP hD hS hL))
theorem z_iretd {v r : Int32} (h : zC p s m meth c args own nL cc D ct (va_A w0 s.heap.size)) (hr : meth.sig.returnType = some .int) (d : decode cc pc = .ok (.ireturn, 1)) (hc : cells ≤ mc) (hs : slots ≤ ms) (hv : v = r) (hw : w = w') (hadr : w'.map Prod.fst = w0.map Prod.fst) : zG p l e R s m args below meth c D (va_A w0 s.heap.size) nL (MQ below (zQ D ct w0 s.heap.size (zd (some (.int r)) w')) args s mc ms (va_A w0 s.heap.size)) cells slots pc ls [.int v] w := by
  subst hv; subst hw
  exact z_iret h hr d hc hs ⟨rfl, rfl, rfl⟩ (List.append_nil _).symm hadr
theorem z_zretd {v r : Int32} {ty : FieldType} (h : zC p s m meth c args own nL cc D ct (va_A w0 s.heap.size)) (hr : meth.sig.returnType = some ty) (hn : narrow ty (.int v) = .int v) (d : decode cc pc = .ok (.ireturn, 1)) (hc : cells ≤ mc) (hs : slots ≤ ms) (hv : v = r) (hw : w = w') (hadr : w'.map Prod.fst = w0.map Prod.fst) : zG p l e R s m args below meth c D (va_A w0 s.heap.size) nL (MQ below (zQ D ct w0 s.heap.size (zd (some (.int r)) w')) args s mc ms (va_A w0 s.heap.size)) cells slots pc ls [.int v] w := by
  subst hv; subst hw
  exact z_zret h hr hn d hc hs ⟨rfl, rfl, rfl⟩ (List.append_nil _).symm hadr
theorem z_vretd (h : zC p s m meth c args own nL cc D ct (va_A w0 s.heap.size)) (hr : meth.sig.returnType = none) (d : decode cc pc = .ok (.return_, 1)) (hc : cells ≤ mc) (hs : slots ≤ ms) (hw : w = w') (hadr : w'.map Prod.fst = w0.map Prod.fst) : zG p l e R s m args below meth c D (va_A w0 s.heap.size) nL (MQ below (zQ D ct w0 s.heap.size (zd none w')) args s mc ms (va_A w0 s.heap.size)) cells slots pc ls [] w := by
  subst hw
  exact z_vret h hr d hc hs ⟨rfl, rfl, rfl⟩ (List.append_nil _).symm hadr
end ZX
/-- a table of rows: one place of one row written anew -/
def u2 (σ : Nat → Nat → Int32) (r k : Nat) (x : Int32) : Nat → Nat → Int32 := fun r1 => if r1 = r then upd (σ r) k x else σ r1
/-- a bool as the machine has it -/
def bI (b : Bool) : Int32 := if b = true then 1 else 0
theorem bI_nar (b : Bool) : narrow .boolean (.int (bI b)) = .int (bI b) := by cases b <;> rfl
theorem bI_0 (b : Bool) : bI b = 0 ↔ b = false := by cases b <;> decide
theorem bI_1 (b : Bool) : ¬ bI b = 0 ↔ b = true := by cases b <;> decide
/-- the loop that runs k times from i on -/
def kfor {α : Type} (f : Nat → α → α) : Nat → Nat → α → α
  | 0, _, a => a
  | k + 1, i, a => kfor f k (i + 1) (f i a)
/-- behind a call that answers v and leaves w': the world then -/
theorem zkd {G : Option Value → va_W → Prop} {v : Option Value} {w w' wc w2 : va_W} {ps : List Nat} (hw : wput w ps w' = w2) (k : G v w2) : ∀ (v1 : Option Value) (wa wb : va_W), zd v w' v1 wa wb → wa.map Prod.fst = wc.map Prod.fst → G v1 (wput w ps wa ++ wb) := by
  rintro v1 wa wb ⟨rfl, rfl, rfl⟩ -
  rw [List.append_nil, hw]
  exact k
/-- behind a call that answers v and changes nothing -/
theorem zkq {G : Option Value → va_W → Prop} {v : Option Value} {w wc : va_W} {ps : List Nat} (hps : ps.map (fun i => w[i]?) = wc.map some) (k : G v w) : ∀ (v1 : Option Value) (wa wb : va_W), zd v wc v1 wa wb → wa.map Prod.fst = wc.map Prod.fst → G v1 (wput w ps wa ++ wb) := by
  rintro v1 wa wb ⟨rfl, rfl, rfl⟩ -
  rw [List.append_nil, wput_same ps w wa hps]
  exact k
theorem i_lev {x y : Int32} : (x ≤ y) = ¬ y < x := by
  rw [Int32.lt_iff_toInt_lt, Int32.le_iff_toInt_le]
  exact propext ⟨fun h => by omega, fun h => by omega⟩
theorem u2_ne {σ : Nat → Nat → Int32} {r k r1 : Nat} {x : Int32} (h : r1 ≠ r) : u2 σ r k x r1 = σ r1 := by unfold u2; rw [if_neg h]
theorem u2_eq {σ : Nat → Nat → Int32} {r k : Nat} {x : Int32} : u2 σ r k x r = upd (σ r) k x := by unfold u2; rw [if_pos rfl]
def lsub (a b : List (Option Value)) : Prop := ∀ (k : Nat) (v : Value), a[k]? = some (some v) → b[k]? = some (some v)
theorem ls_0 {b : List (Option Value)} : lsub [] b := fun k v h => by simp at h
theorem ls_s {a b : List (Option Value)} {x : Option Value} (h : lsub a b) : lsub (x :: a) (x :: b) := fun k v hk => by
  cases k with
  | zero => exact hk
  | succ k => exact h k v hk
theorem ls_n {a b : List (Option Value)} {x : Option Value} (h : lsub a b) : lsub (none :: a) (x :: b) := fun k v hk => by
  cases k with
  | zero => simp at hk
  | succ k => exact h k v hk
theorem z_wk {p : Program} {l : Launch} {e : Env} {R : Room} {s : State} {m : MethodId} {args : Array Value} {below : List Frame} {meth : Method} {c : Code} {D : va_G} {A : Nat → Prop} {nL : Nat} {Q : State → Prop} {cells slots pc : Nat} {ls ls2 : List (Option Value)} {st : List Value} {w : va_W} (hl : lsub ls2 ls) (k : zG p l e R s m args below meth c D A nL Q cells slots pc ls2 st w) : zG p l e R s m args below meth c D A nL Q cells slots pc ls st w := fun H locs L hP hD hS hL => k H locs L hP hD hS (lG_mono hL (fun q hq => by
  obtain ⟨j, h1, h2⟩ := lvs_of _ 0 q hq
  have h3 := lvs_in ls 0 j q.2 (hl j q.2 h2)
  rw [← h1] at h3
  exact h3))
end
section
/-! WHAT THE METHODS OF Readings ANSWER AND DO, as functions of a table of rows: row 0 the numbers (taken), 1 meters, 2 numbers, 3 values, 4 times, 5 sizes, 6 ids, 7 stamps -/
def kany (p : Nat → Bool) : Nat → Nat → Bool
  | 0, _ => false
  | k + 1, i => p i || kany p k (i + 1)
def kfst (p : Nat → Bool) : Nat → Nat → Int32
  | 0, _ => -1
  | k + 1, i => if p i = true then nI i else kfst p k (i + 1)
abbrev cR (q : Nat → Nat) (ρ : Nat → Nat → Int32) (ct : Nat → ClassId) : va_W := [(q 0, .inr (1, [.ref (q 1), .ref (q 2), .ref (q 3), .ref (q 4), .int (ρ 0 0), .ref (q 5), .ref (q 6), .ref (q 7)])), (q 1, .inl (ct 0, 60, .inl (ρ 1))), (q 2, .inl (ct 0, 60, .inl (ρ 2))), (q 3, .inl (ct 0, 60, .inl (ρ 3))), (q 4, .inl (ct 0, 60, .inl (ρ 4))), (q 5, .inl (ct 0, 10, .inl (ρ 5))), (q 6, .inl (ct 0, 600, .inl (ρ 6))), (q 7, .inl (ct 0, 600, .inl (ρ 7)))]
def mNode (n : Int32) : Bool := decide (0 ≤ n) && decide (n < 10)
def mrSize (ρ : Nat → Nat → Int32) (n : Int32) : Int32 := if 0 ≤ n ∧ n < 10 then (if 60 < ρ 5 n.toNatClampNeg then 60 else ρ 5 n.toNatClampNeg) else 0
def mrFull (ρ : Nat → Nat → Int32) (n : Int32) : Bool := decide ((if n = 0 then 60 else 6) ≤ mrSize ρ n)
def mrAt (n i : Int32) : Nat := (n * 60 + i).toNatClampNeg
def mrId (ρ : Nat → Nat → Int32) (n i : Int32) : Int32 := if 0 ≤ i ∧ i < mrSize ρ n then ρ 6 (mrAt n i) else -1
def mrSt (ρ : Nat → Nat → Int32) (n i : Int32) : Int32 := if 0 ≤ i ∧ i < mrSize ρ n then ρ 7 (mrAt n i) else -1
def mrPart (ρ : Nat → Nat → Int32) (n i p : Int32) : Int32 := if mrId ρ n i < 0 ∨ 60 ≤ mrId ρ n i then -1 else if p = 0 then ρ 1 (mrId ρ n i).toNatClampNeg else if p = 1 then ρ 2 (mrId ρ n i).toNatClampNeg else if p = 2 then ρ 3 (mrId ρ n i).toNatClampNeg else if p = 3 then ρ 4 (mrId ρ n i).toNatClampNeg else mrSt ρ n i
def mrMissing (ρ : Nat → Nat → Int32) : Int32 := ρ 0 0 - mrSize ρ 0
def mrHolds (ρ : Nat → Nat → Int32) (n id : Int32) : Bool := kany (fun i => decide (ρ 6 (mrAt n (nI i)) = id)) (mrSize ρ n).toNatClampNeg 0
def mrLim (ρ : Nat → Nat → Int32) : Nat := (if 60 < ρ 0 0 then 60 else ρ 0 0).toNatClampNeg
def mrTakenAt (ρ : Nat → Nat → Int32) (m : Int32) : Int32 := kfor (fun i (a : Int32) => a + (if ρ 1 (nI i).toNatClampNeg = m then 1 else 0)) (mrLim ρ) 0 0
def mrFind (ρ : Nat → Nat → Int32) (m k : Int32) : Int32 := kfst (fun i => decide (ρ 1 (nI i).toNatClampNeg = m) && decide (ρ 2 (nI i).toNatClampNeg = k)) (mrLim ρ) 0
def mrStores (ρ : Nat → Nat → Int32) (id : Int32) : Int32 := kfor (fun i (a : Int32) => a + (if ¬ nI i = 0 ∧ mrHolds ρ (nI i) id = true then 1 else 0)) 10 0 0
def mrWrong (ρ : Nat → Nat → Int32) : Int32 := kfor (fun i (a : Int32) => a + (if mrPart ρ 0 (nI i) 4 = mrPart ρ 0 (nI i) 3 then 0 else 1)) (mrSize ρ 0).toNatClampNeg 0 0
def mrPut (ρ : Nat → Nat → Int32) (n id st : Int32) : Nat → Nat → Int32 := if mNode n = true ∧ mrSize ρ n < 60 then u2 (u2 (u2 ρ 6 (mrAt n (mrSize ρ n)) id) 7 (mrAt n (mrSize ρ n)) st) 5 n.toNatClampNeg (mrSize ρ n + 1) else ρ
def mrMove (n : Int32) (i : Nat) (ρ : Nat → Nat → Int32) : Nat → Nat → Int32 := u2 (u2 ρ 6 (n * 60 + nI i - 1).toNatClampNeg (ρ 6 (mrAt n (nI i)))) 7 (n * 60 + nI i - 1).toNatClampNeg (ρ 7 (mrAt n (nI i)))
def mrRemove (ρ : Nat → Nat → Int32) (n : Int32) : Nat → Nat → Int32 := if mrSize ρ n = 0 then ρ else u2 (kfor (mrMove n) ((mrSize ρ n).toNatClampNeg - 1) 1 ρ) 5 n.toNatClampNeg (mrSize ρ n - 1)
def mrShift1 (n a : Int32) (i : Nat) (ρ : Nat → Nat → Int32) : Nat → Nat → Int32 := u2 ρ 7 (mrAt n (nI i)) (ρ 7 (mrAt n (nI i)) + a)
def mrShift (ρ : Nat → Nat → Int32) (n a : Int32) : Nat → Nat → Int32 := kfor (mrShift1 n a) (mrSize ρ n).toNatClampNeg 0 ρ
def mrTakeR (ρ : Nat → Nat → Int32) (m : Int32) : Int32 := if ρ 0 0 < 0 ∨ 60 ≤ ρ 0 0 then -1 else mrTakenAt ρ m
def mrTake (ρ : Nat → Nat → Int32) (m v t st : Int32) : Nat → Nat → Int32 := if ρ 0 0 < 0 ∨ 60 ≤ ρ 0 0 then ρ else mrPut (u2 (u2 (u2 (u2 (u2 ρ 1 (ρ 0 0).toNatClampNeg m) 2 (ρ 0 0).toNatClampNeg (mrTakenAt ρ m)) 3 (ρ 0 0).toNatClampNeg v) 4 (ρ 0 0).toNatClampNeg t) 0 0 (ρ 0 0 + 1)) m (ρ 0 0) st
/-! bounds -/
theorem i_nlt {x y : Int32} : ¬ x < y ↔ y ≤ x := by rw [Int32.lt_iff_toInt_lt, Int32.le_iff_toInt_le]; omega
theorem i_nle {x y : Int32} : ¬ x ≤ y ↔ y < x := by rw [Int32.lt_iff_toInt_lt, Int32.le_iff_toInt_le]; omega
theorem i_eq {x y : Int32} : x = y ↔ x.toInt = y.toInt := ⟨fun h => by rw [h], fun h => Int32.toInt_inj.mp h⟩
theorem vin {x M : Int32} (N : Nat) (hM : M.toInt = (N : Int)) (h0 : ¬ x < 0) (h1 : ¬ M ≤ x) : vp_in x N := by
  rw [vp_in_iff]
  rw [Int32.lt_iff_toInt_lt] at h0
  rw [Int32.le_iff_toInt_le] at h1
  have h2 : (0 : Int32).toInt = 0 := rfl
  omega
theorem vnat {x M : Int32} (N : Nat) (hN : N < 2 ^ 31) (hM : M.toInt = (N : Int)) (h0 : 0 ≤ x) (h1 : x < M) : ∃ j : Nat, j < N ∧ x = nI j := by
  have h : vp_in x N := vin N hM (i_nlt.mpr h0) (i_nle.mpr h1)
  exact vp_in_of h hN
theorem mrSize_le (ρ : Nat → Nat → Int32) (n : Int32) : mrSize ρ n ≤ 60 := by
  unfold mrSize
  split
  · split
    · exact Int32.le_refl _
    · rename_i h
      exact i_nlt.mp h
  · decide
theorem mrSize_node {ρ : Nat → Nat → Int32} {n i : Int32} (h0 : ¬ i < 0) (h : i < mrSize ρ n) : 0 ≤ n ∧ n < 10 := by
  unfold mrSize at h
  split at h
  · assumption
  · exact absurd h h0
theorem vrow0 {n i : Int32} (hn : 0 ≤ n ∧ n < 10) (h0 : ¬ i < 0) (h1 : i < 60) : ∃ k j : Nat, k < 10 ∧ j < 60 ∧ n = nI k ∧ i = nI j ∧ n * 60 + i = nI (k * 60 + j) := by
  obtain ⟨k, hk, rfl⟩ := vnat 10 (by decide) rfl hn.1 hn.2
  obtain ⟨j, hj, rfl⟩ := vnat 60 (by decide) rfl (i_nlt.mp h0) h1
  refine ⟨k, j, hk, hj, rfl, rfl, ?_⟩
  rw [show (60 : Int32) = nI 60 from rfl, pk_mul, nI_add]
theorem vrow {n i : Int32} (hn : 0 ≤ n ∧ n < 10) (h0 : ¬ i < 0) (h1 : i < 60) : vp_in (n * 60 + i) 600 := by
  obtain ⟨k, j, hk, hj, -, -, e⟩ := vrow0 hn h0 h1
  rw [e]
  exact vp_in_nI (by omega) (by decide)
theorem vrowS {ρ : Nat → Nat → Int32} {n i : Int32} (h0 : ¬ i < 0) (h : ¬ mrSize ρ n ≤ i) : vp_in (n * 60 + i) 600 :=
  vrow (mrSize_node h0 (i_nle.mp h)) h0 (Int32.lt_of_lt_of_le (i_nle.mp h) (mrSize_le ρ n))
theorem lim_ge {x : Int32} {i : Nat} (h : x.toNatClampNeg ≤ i) (hi : i < 2 ^ 31) : x ≤ nI i := by
  rw [Int32.le_iff_toInt_le, nI_toInt hi]
  have : x.toNatClampNeg = x.toInt.toNat := rfl
  omega
theorem lim_lt {x : Int32} {i : Nat} (h : i < x.toNatClampNeg) : ¬ x ≤ nI i := by
  have h1 : x.toNatClampNeg = x.toInt.toNat := rfl
  have h2 := Int32.toInt_lt x
  have hi : i < 2 ^ 31 := by omega
  rw [Int32.le_iff_toInt_le, nI_toInt hi]
  omega
theorem lim_31 (x : Int32) : x.toNatClampNeg < 2 ^ 31 := by
  have h1 : x.toNatClampNeg = x.toInt.toNat := rfl
  have h2 := Int32.toInt_lt x
  omega
theorem node_of {n : Int32} (h : mNode n = true) : 0 ≤ n ∧ n < 10 := by simpa [mNode] using h
theorem node_of2 {n : Int32} (h : 0 ≤ n ∧ n < 10) : mNode n = true := by simpa [mNode] using h
theorem vnode {n : Int32} (h : mNode n = true) : vp_in n 10 := vin 10 rfl (i_nlt.mpr (node_of h).1) (i_nle.mpr (node_of h).2)
theorem vrowN {ρ : Nat → Nat → Int32} {n : Int32} {i : Nat} (h : i < (mrSize ρ n).toNatClampNeg) : vp_in (n * 60 + nI i) 600 := by
  have h1 := lim_lt h
  have h2 := lim_31 (mrSize ρ n)
  exact vrowS (nI_pos (by omega)) h1
theorem vrowN1 {ρ : Nat → Nat → Int32} {n : Int32} {i : Nat} (h : i < (mrSize ρ n).toNatClampNeg) (h1 : 1 ≤ i) : vp_in (n * 60 + nI i - 1) 600 := by
  have h2 := lim_31 (mrSize ρ n)
  have h3 := lim_lt h
  have h0 : ¬ nI i < 0 := nI_pos (by omega)
  have hn := mrSize_node h0 (i_nle.mp h3)
  obtain ⟨k, j, hk, hj, e1, e2, e⟩ := vrow0 hn h0 (Int32.lt_of_lt_of_le (i_nle.mp h3) (mrSize_le ρ n))
  have e3 : i = j := (nI_eq (by omega) (by omega)).mp e2
  subst e3
  rw [e, show (1 : Int32) = nI 1 from rfl, pk_sub (by omega)]
  exact vp_in_nI (by omega) (by decide)
theorem mrLim_le (ρ : Nat → Nat → Int32) : mrLim ρ ≤ 60 := by
  unfold mrLim
  split
  · decide
  · rename_i h
    have h1 := i_nlt.mp h
    rw [Int32.le_iff_toInt_le] at h1
    have h2 : (60 : Int32).toInt = 60 := rfl
    have h3 : (ρ 0 0).toNatClampNeg = (ρ 0 0).toInt.toNat := rfl
    omega
theorem mrLim_ge {ρ : Nat → Nat → Int32} {i : Nat} (h : mrLim ρ ≤ i) (hi : i < 60) : ρ 0 0 ≤ nI i := by
  unfold mrLim at h
  split at h
  · exact absurd h (by rw [show ((60 : Int32).toNatClampNeg) = 60 from rfl]; omega)
  · exact lim_ge h (by omega)
theorem mrLim_lt {ρ : Nat → Nat → Int32} {i : Nat} (h : i < mrLim ρ) : ¬ ρ 0 0 ≤ nI i := by
  have h0 := mrLim_le ρ
  unfold mrLim at h
  split at h
  · rename_i h1
    rw [i_nle]
    have h3 : i < 60 := by rw [show ((60 : Int32).toNatClampNeg) = 60 from rfl] at h; omega
    rw [Int32.lt_iff_toInt_lt, nI_toInt (by omega)]
    rw [Int32.lt_iff_toInt_lt] at h1
    have h2 : (60 : Int32).toInt = 60 := rfl
    omega
  · exact lim_lt h
theorem nI_lt60 {i : Nat} (h : i < 60) : ¬ (60 : Int32) ≤ nI i := by
  rw [show (60 : Int32) = nI 60 from rfl]
  exact nI_ge h (by decide)
theorem nI_ge60 {i : Nat} (h : 60 ≤ i) (hi : i < 2 ^ 31) : (60 : Int32) ≤ nI i := by
  rw [show (60 : Int32) = nI 60 from rfl]
  exact nI_le h hi
theorem nI_ltK {i : Nat} (K : Nat) (hK : K < 2 ^ 31) (h : i < K) : ¬ nI K ≤ nI i := nI_ge h hK
theorem v60 {i : Nat} (h : i < 60) : vp_in (nI i) 60 := vp_in_nI h (by decide)
theorem vin60 {x : Int32} (h0 : ¬ x < 0) (h1 : x < 60) : vp_in x 60 := vin 60 rfl h0 (i_nle.mpr h1)
theorem kge {M : Int32} {i : Nat} (K : Nat) (hM : M = nI K) (h : K ≤ i) (hi : i < 2 ^ 31) : M ≤ nI i := by
  subst hM
  exact nI_le h hi
theorem klt {M : Int32} {i : Nat} (K : Nat) (hM : M = nI K) (h : i < K) (hK : K < 2 ^ 31) : ¬ M ≤ nI i := by
  subst hM
  exact nI_ge h hK
theorem klt2 {M : Int32} {i : Nat} (K : Nat) (hM : M = nI K) (hK : K < 2 ^ 31) (hi : i < 2 ^ 31) (h : ¬ M ≤ nI i) : i < K := by
  subst hM
  exact Nat.lt_of_not_le (fun h1 => h (nI_le h1 hi))
theorem mrSize_u2 {ρ : Nat → Nat → Int32} {n x : Int32} {r k : Nat} (h : r ≠ 5) : mrSize (u2 ρ r k x) n = mrSize ρ n := by
  have e : u2 ρ r k x 5 = ρ 5 := by unfold u2; rw [if_neg (fun h1 => h h1.symm)]
  unfold mrSize
  rw [e]
theorem mrAt_eq (n i : Int32) : (n * 60 + i).toNatClampNeg = mrAt n i := rfl
def mFloor (x y : Int32) : Int32 := if x ^^^ y < 0 ∧ ¬ x - x / y * y = 0 then x - x / y * y + y else x - x / y * y
theorem mrSize_n0 {ρ : Nat → Nat → Int32} {n : Int32} (h : ¬ mrSize ρ n = 0) : 0 ≤ n ∧ n < 10 := by
  unfold mrSize at h
  split at h
  · assumption
  · exact absurd rfl h
theorem cR_a1 {q : Nat → Nat} {ρ : Nat → Nat → Int32} {ct : Nat → ClassId} {k : Nat} {x : Int32} : (cR q ρ ct).set 1 (q 1, .inl (ct 0, 60, .inl (upd (ρ 1) k x))) = cR q (u2 ρ 1 k x) ct := rfl
theorem cR_a2 {q : Nat → Nat} {ρ : Nat → Nat → Int32} {ct : Nat → ClassId} {k : Nat} {x : Int32} : (cR q ρ ct).set 2 (q 2, .inl (ct 0, 60, .inl (upd (ρ 2) k x))) = cR q (u2 ρ 2 k x) ct := rfl
theorem cR_a3 {q : Nat → Nat} {ρ : Nat → Nat → Int32} {ct : Nat → ClassId} {k : Nat} {x : Int32} : (cR q ρ ct).set 3 (q 3, .inl (ct 0, 60, .inl (upd (ρ 3) k x))) = cR q (u2 ρ 3 k x) ct := rfl
theorem cR_a4 {q : Nat → Nat} {ρ : Nat → Nat → Int32} {ct : Nat → ClassId} {k : Nat} {x : Int32} : (cR q ρ ct).set 4 (q 4, .inl (ct 0, 60, .inl (upd (ρ 4) k x))) = cR q (u2 ρ 4 k x) ct := rfl
theorem cR_a5 {q : Nat → Nat} {ρ : Nat → Nat → Int32} {ct : Nat → ClassId} {k : Nat} {x : Int32} : (cR q ρ ct).set 5 (q 5, .inl (ct 0, 10, .inl (upd (ρ 5) k x))) = cR q (u2 ρ 5 k x) ct := rfl
theorem cR_a6 {q : Nat → Nat} {ρ : Nat → Nat → Int32} {ct : Nat → ClassId} {k : Nat} {x : Int32} : (cR q ρ ct).set 6 (q 6, .inl (ct 0, 600, .inl (upd (ρ 6) k x))) = cR q (u2 ρ 6 k x) ct := rfl
theorem cR_a7 {q : Nat → Nat} {ρ : Nat → Nat → Int32} {ct : Nat → ClassId} {k : Nat} {x : Int32} : (cR q ρ ct).set 7 (q 7, .inl (ct 0, 600, .inl (upd (ρ 7) k x))) = cR q (u2 ρ 7 k x) ct := rfl
theorem cR_f0 {q : Nat → Nat} {ρ : Nat → Nat → Int32} {ct : Nat → ClassId} {x : Int32} : (cR q ρ ct).set 0 (q 0, .inr (1, [Value.ref (q 1), .ref (q 2), .ref (q 3), .ref (q 4), .int (ρ 0 0), .ref (q 5), .ref (q 6), .ref (q 7)].set 4 (.int x))) = cR q (u2 ρ 0 0 x) ct := rfl
end
section
set_option maxRecDepth 100000 in
set_option maxHeartbeats 4000000 in
theorem c_X4_isNode (l : Launch) (D : va_G) (ct : Nat → ClassId) (n : Int32) : zT l D ct yX4_isNode cX4_isNode 1 (some .boolean) 0 0 0 0 [.int n] (([] : va_W)) (zd (some (.int (bI (mNode n)))) (([] : va_W))) := by
  refine zT_of ([some (.int n)]) (by decide +kernel) rfl (Nat.le_of_ble_eq_true rfl) ?_
  intro p e s m args below meth c hC hr hnm
  refine z_iload_n hC dX4_isNode_0 rfl ?_
  refine z_if_lt hC 14 dX4_isNode_1 (by decide) (fun c1 => ?_) (fun c1 => ?_)
  · refine z_iconst (v := 0) hC dX4_isNode_14 (by decide) ?_
    exact z_zretd hC hr (rfl) dX4_isNode_15 (Nat.zero_le _) (Nat.zero_le _) (by clear hC hr hnm; first | rfl | (simp [mNode, bI, c1, i_nle.mpr c1, *]; done) | (simp_all [mNode, bI, c1, i_nle.mpr c1]; done)) (by first | rfl | (simp [mNode, bI, c1, i_nle.mpr c1, *]; done)) rfl
  · refine z_iload_n hC dX4_isNode_4 rfl ?_
    refine z_bipush (v := 10) hC dX4_isNode_5 (by decide) ?_
    refine z_icmp_ge hC 14 dX4_isNode_7 (by decide) (fun c7 => ?_) (fun c7 => ?_)
    · refine z_iconst (v := 0) hC dX4_isNode_14 (by decide) ?_
      exact z_zretd hC hr (rfl) dX4_isNode_15 (Nat.zero_le _) (Nat.zero_le _) (by clear hC hr hnm; first | rfl | (simp [mNode, bI, c1, c7, i_nlt.mp c1, i_nlt.mpr c7, *]; done) | (simp_all [mNode, bI, c1, c7, i_nlt.mp c1, i_nlt.mpr c7]; done)) (by first | rfl | (simp [mNode, bI, c1, c7, i_nlt.mp c1, i_nlt.mpr c7, *]; done)) rfl
    · refine z_iconst (v := 1) hC dX4_isNode_10 (by decide) ?_
      refine z_goto hC 15 dX4_isNode_11 (by decide) ?_
      exact z_zretd hC hr (rfl) dX4_isNode_15 (Nat.zero_le _) (Nat.zero_le _) (by clear hC hr hnm; first | rfl | (simp [mNode, bI, c1, c7, i_nlt.mp c1, i_nle.mp c7, *]; done) | (simp_all [mNode, bI, c1, c7, i_nlt.mp c1, i_nle.mp c7]; done)) (by first | rfl | (simp [mNode, bI, c1, c7, i_nlt.mp c1, i_nle.mp c7, *]; done)) rfl

set_option maxRecDepth 100000 in
set_option maxHeartbeats 4000000 in
theorem c_J9_floorMod_7cf53 (l : Launch) (D : va_G) (ct : Nat → ClassId) (x y : Int32) (hy : ¬ y = 0) : zT l D ct yJ9_floorMod_7cf53 cJ9_floorMod_7cf53 3 (some .int) 0 0 0 0 [.int x, .int y] (([] : va_W)) (zd (some (.int (mFloor x y))) (([] : va_W))) := by
  refine zT_of ([some (.int x), some (.int y), none]) (by decide +kernel) rfl (Nat.le_of_ble_eq_true rfl) ?_
  intro p e s m args below meth c hC hr hnm
  refine z_iload_n hC dJ9_floorMod_7cf53_0 rfl ?_
  refine z_iload_n hC dJ9_floorMod_7cf53_1 rfl ?_
  refine z_irem hC dJ9_floorMod_7cf53_2 hy ?_
  refine z_istore_n hC dJ9_floorMod_7cf53_3 (by decide) rfl ?_
  refine z_iload_n hC dJ9_floorMod_7cf53_4 rfl ?_
  refine z_iload_n hC dJ9_floorMod_7cf53_5 rfl ?_
  refine z_ixor hC dJ9_floorMod_7cf53_6 ?_
  refine z_if_ge hC 18 dJ9_floorMod_7cf53_7 (by decide) (fun c7 => ?_) (fun c7 => ?_)
  · refine z_iload_n hC dJ9_floorMod_7cf53_18 rfl ?_
    exact z_iretd hC hr dJ9_floorMod_7cf53_19 (Nat.zero_le _) (Nat.zero_le _) (by clear hC hr hnm; first | rfl | (simp [mFloor, c7, i_nlt.mpr c7, *]; done) | (simp_all [mFloor, c7, i_nlt.mpr c7]; done)) (by first | rfl | (simp [mFloor, c7, i_nlt.mpr c7, *]; done)) rfl
  · refine z_iload_n hC dJ9_floorMod_7cf53_10 rfl ?_
    refine z_if_eq hC 18 dJ9_floorMod_7cf53_11 (by decide) (fun c11 => ?_) (fun c11 => ?_)
    · refine z_iload_n hC dJ9_floorMod_7cf53_18 rfl ?_
      exact z_iretd hC hr dJ9_floorMod_7cf53_19 (Nat.zero_le _) (Nat.zero_le _) (by clear hC hr hnm; first | rfl | (simp [mFloor, c7, c11, i_nle.mp c7, *]; done) | (simp_all [mFloor, c7, c11, i_nle.mp c7]; done)) (by first | rfl | (simp [mFloor, c7, c11, i_nle.mp c7, *]; done)) rfl
    · refine z_iload_n hC dJ9_floorMod_7cf53_14 rfl ?_
      refine z_iload_n hC dJ9_floorMod_7cf53_15 rfl ?_
      refine z_iadd hC dJ9_floorMod_7cf53_16 ?_
      exact z_iretd hC hr dJ9_floorMod_7cf53_17 (Nat.zero_le _) (Nat.zero_le _) (by clear hC hr hnm; first | rfl | (simp [mFloor, c7, c11, i_nle.mp c7, *]; done) | (simp_all [mFloor, c7, c11, i_nle.mp c7]; done)) (by first | rfl | (simp [mFloor, c7, c11, i_nle.mp c7, *]; done)) rfl

set_option maxRecDepth 100000 in
set_option maxHeartbeats 4000000 in
theorem c_X1_sizeOf (l : Launch) (D : va_G) (ct : Nat → ClassId) (q : Nat → Nat) (ρ : Nat → Nat → Int32) (n : Int32) : zT l D ct yX1_sizeOf cX1_sizeOf 3 (some .int) 1 25 0 0 [.ref (q 0), .int n] (cR q ρ ct) (zd (some (.int (mrSize ρ n))) (cR q ρ ct)) := by
  refine zT_of ([some (.ref (q 0)), some (.int n), none]) (by decide +kernel) rfl (Nat.le_of_ble_eq_true rfl) ?_
  intro p e s m args below meth c hC hr hnm
  refine z_iload_n hC dX1_sizeOf_0 rfl ?_
  refine z_if_lt hC 14 dX1_sizeOf_1 (by decide) (fun c1 => ?_) (fun c1 => ?_)
  · refine z_iconst (v := 0) hC dX1_sizeOf_14 (by decide) ?_
    refine z_istore_n hC dX1_sizeOf_15 (by decide) rfl ?_
    refine z_iload_n hC dX1_sizeOf_16 rfl ?_
    refine z_if_eq hC 34 dX1_sizeOf_17 (by decide) (fun cn1 => ?_) (fun cn1 => absurd ((by decide : (0 : Int32) = 0)) cn1)
    refine z_iconst (v := 0) hC dX1_sizeOf_34 (by decide) ?_
    exact z_iretd hC hr dX1_sizeOf_35 (Nat.zero_le _) (Nat.zero_le _) (by clear hC hr hnm; first | rfl | (simp [mrSize, c1, i_nle.mpr c1, *]; done) | (simp_all [mrSize, c1, i_nle.mpr c1]; done)) (by first | rfl | (simp [mrSize, c1, i_nle.mpr c1, *]; done)) rfl
  · refine z_iload_n hC dX1_sizeOf_4 rfl ?_
    refine z_bipush (v := 10) hC dX1_sizeOf_5 (by decide) ?_
    refine z_icmp_ge hC 14 dX1_sizeOf_7 (by decide) (fun c7 => ?_) (fun c7 => ?_)
    · refine z_iconst (v := 0) hC dX1_sizeOf_14 (by decide) ?_
      refine z_istore_n hC dX1_sizeOf_15 (by decide) rfl ?_
      refine z_iload_n hC dX1_sizeOf_16 rfl ?_
      refine z_if_eq hC 34 dX1_sizeOf_17 (by decide) (fun cn2 => ?_) (fun cn2 => absurd ((by decide : (0 : Int32) = 0)) cn2)
      refine z_iconst (v := 0) hC dX1_sizeOf_34 (by decide) ?_
      exact z_iretd hC hr dX1_sizeOf_35 (Nat.zero_le _) (Nat.zero_le _) (by clear hC hr hnm; first | rfl | (simp [mrSize, c1, c7, i_nlt.mp c1, i_nlt.mpr c7, *]; done) | (simp_all [mrSize, c1, c7, i_nlt.mp c1, i_nlt.mpr c7]; done)) (by first | rfl | (simp [mrSize, c1, c7, i_nlt.mp c1, i_nlt.mpr c7, *]; done)) rfl
    · refine z_iconst (v := 1) hC dX1_sizeOf_10 (by decide) ?_
      refine z_goto hC 15 dX1_sizeOf_11 (by decide) ?_
      refine z_istore_n hC dX1_sizeOf_15 (by decide) rfl ?_
      refine z_iload_n hC dX1_sizeOf_16 rfl ?_
      refine z_if_eq hC 34 dX1_sizeOf_17 (by decide) (fun cn3 => absurd cn3 (by decide)) (fun cn3 => ?_)
      refine z_aload_n hC dX1_sizeOf_20 rfl ?_
      refine z_get 0 5 hC bl_X1 (ci := 1) rfl (by decide) rfl bw_50 rfl rfl dX1_sizeOf_21 ?_
      refine z_iload_n hC dX1_sizeOf_24 rfl ?_
      refine z_iald 5 0 hC rfl rfl (vin 10 rfl c1 c7) dX1_sizeOf_25 ?_
      refine z_bipush (v := 60) hC dX1_sizeOf_26 (by decide) ?_
      refine z_min hC bw_255 dX1_sizeOf_28 (Nat.le_of_ble_eq_true rfl) (Nat.le_of_ble_eq_true rfl) (Nat.zero_le _) (Nat.zero_le _) ?_
      refine z_goto hC 35 dX1_sizeOf_31 (by decide) ?_
      exact z_iretd hC hr dX1_sizeOf_35 (Nat.zero_le _) (Nat.zero_le _) (by clear hC hr hnm; first | rfl | (simp [mrSize, c1, c7, i_nlt.mp c1, i_nle.mp c7, *]; done) | (simp_all [mrSize, c1, c7, i_nlt.mp c1, i_nle.mp c7]; done)) (by first | rfl | (simp [mrSize, c1, c7, i_nlt.mp c1, i_nle.mp c7, *]; done)) rfl

set_option maxRecDepth 100000 in
set_option maxHeartbeats 4000000 in
theorem c_X1_isFull (l : Launch) (D : va_G) (ct : Nat → ClassId) (q : Nat → Nat) (ρ : Nat → Nat → Int32) (n : Int32) : zT l D ct yX1_isFull cX1_isFull 2 (some .boolean) 2 60 0 0 [.ref (q 0), .int n] (cR q ρ ct) (zd (some (.int (bI (mrFull ρ n)))) (cR q ρ ct)) := by
  refine zT_of ([some (.ref (q 0)), some (.int n)]) (by decide +kernel) rfl (Nat.le_of_ble_eq_true rfl) ?_
  intro p e s m args below meth c hC hr hnm
  refine z_aload_n hC dX1_isFull_0 rfl ?_
  refine z_iload_n hC dX1_isFull_1 rfl ?_
  refine z_callV [0, 1, 2, 3, 4, 5, 6, 7] 0 1 hC (c_X1_sizeOf l D ct q ρ n) bw_251 bw_252 bw_253 bw_40 bw_254 1 (by decide +kernel) rfl rfl rfl rfl rfl ⟨Nat.le_of_ble_eq_true rfl, Nat.le_of_ble_eq_true rfl⟩ (Nat.le_of_ble_eq_true rfl) ⟨Nat.le_of_ble_eq_true rfl, Nat.le_of_ble_eq_true rfl⟩ rfl dX1_isFull_2 ?_
  refine zkq (G := fun v1 w1 => zG p l e _ s m args below meth c D _ _ _ _ _ _ _ (v1.toList ++ _) w1) rfl ?_
  refine z_iload_n hC dX1_isFull_5 rfl ?_
  refine z_if_ne hC 14 dX1_isFull_6 (by decide) (fun c6 => ?_) (fun c6 => ?_)
  · refine z_bipush (v := 6) hC dX1_isFull_14 (by decide) ?_
    refine z_icmp_lt hC 23 dX1_isFull_16 (by decide) (fun c16 => ?_) (fun c16 => ?_)
    · refine z_iconst (v := 0) hC dX1_isFull_23 (by decide) ?_
      exact z_zretd hC hr (rfl) dX1_isFull_24 (Nat.zero_le _) (Nat.zero_le _) (by clear hC hr hnm; first | rfl | (simp [mrFull, bI, c6, c16, i_nle.mpr c16, *]; done) | (simp_all [mrFull, bI, c6, c16, i_nle.mpr c16]; done)) (by first | rfl | (simp [mrFull, bI, c6, c16, i_nle.mpr c16, *]; done)) rfl
    · refine z_iconst (v := 1) hC dX1_isFull_19 (by decide) ?_
      refine z_goto hC 24 dX1_isFull_20 (by decide) ?_
      exact z_zretd hC hr (rfl) dX1_isFull_24 (Nat.zero_le _) (Nat.zero_le _) (by clear hC hr hnm; first | rfl | (simp [mrFull, bI, c6, c16, i_nlt.mp c16, *]; done) | (simp_all [mrFull, bI, c6, c16, i_nlt.mp c16]; done)) (by first | rfl | (simp [mrFull, bI, c6, c16, i_nlt.mp c16, *]; done)) rfl
  · refine z_bipush (v := 60) hC dX1_isFull_9 (by decide) ?_
    refine z_goto hC 16 dX1_isFull_11 (by decide) ?_
    refine z_icmp_lt hC 23 dX1_isFull_16 (by decide) (fun c16 => ?_) (fun c16 => ?_)
    · refine z_iconst (v := 0) hC dX1_isFull_23 (by decide) ?_
      exact z_zretd hC hr (rfl) dX1_isFull_24 (Nat.zero_le _) (Nat.zero_le _) (by clear hC hr hnm; first | rfl | (simp [mrFull, bI, c6, c16, i_nle.mpr c16, *]; done) | (simp_all [mrFull, bI, c6, c16, i_nle.mpr c16]; done)) (by first | rfl | (simp [mrFull, bI, c6, c16, i_nle.mpr c16, *]; done)) rfl
    · refine z_iconst (v := 1) hC dX1_isFull_19 (by decide) ?_
      refine z_goto hC 24 dX1_isFull_20 (by decide) ?_
      exact z_zretd hC hr (rfl) dX1_isFull_24 (Nat.zero_le _) (Nat.zero_le _) (by clear hC hr hnm; first | rfl | (simp [mrFull, bI, c6, c16, i_nlt.mp c16, *]; done) | (simp_all [mrFull, bI, c6, c16, i_nlt.mp c16]; done)) (by first | rfl | (simp [mrFull, bI, c6, c16, i_nlt.mp c16, *]; done)) rfl

set_option maxRecDepth 100000 in
set_option maxHeartbeats 4000000 in
theorem c_X1_idAt (l : Launch) (D : va_G) (ct : Nat → ClassId) (q : Nat → Nat) (ρ : Nat → Nat → Int32) (n i : Int32) : zT l D ct yX1_idAt cX1_idAt 4 (some .int) 2 60 0 0 [.ref (q 0), .int n, .int i] (cR q ρ ct) (zd (some (.int (mrId ρ n i))) (cR q ρ ct)) := by
  refine zT_of ([some (.ref (q 0)), some (.int n), some (.int i), none]) (by decide +kernel) rfl (Nat.le_of_ble_eq_true rfl) ?_
  intro p e s m args below meth c hC hr hnm
  refine z_iload_n hC dX1_idAt_0 rfl ?_
  refine z_if_lt hC 17 dX1_idAt_1 (by decide) (fun c1 => ?_) (fun c1 => ?_)
  · refine z_iconst (v := 0) hC dX1_idAt_17 (by decide) ?_
    refine z_istore_n hC dX1_idAt_18 (by decide) rfl ?_
    refine z_iload_n hC dX1_idAt_19 rfl ?_
    refine z_if_eq hC 37 dX1_idAt_20 (by decide) (fun cn1 => ?_) (fun cn1 => absurd ((by decide : (0 : Int32) = 0)) cn1)
    refine z_iconst (v := (-1)) hC dX1_idAt_37 (by decide) ?_
    exact z_iretd hC hr dX1_idAt_38 (Nat.zero_le _) (Nat.zero_le _) (by clear hC hr hnm; first | rfl | (simp [mrId, mrAt, c1, i_nle.mpr c1, *]; done) | (simp_all [mrId, mrAt, c1, i_nle.mpr c1]; done)) (by first | rfl | (simp [mrId, mrAt, c1, i_nle.mpr c1, *]; done)) rfl
  · refine z_iload_n hC dX1_idAt_4 rfl ?_
    refine z_aload_n hC dX1_idAt_5 rfl ?_
    refine z_iload_n hC dX1_idAt_6 rfl ?_
    refine z_callV [0, 1, 2, 3, 4, 5, 6, 7] 0 1 hC (c_X1_sizeOf l D ct q ρ n) bw_251 bw_252 bw_253 bw_40 bw_254 1 (by decide +kernel) rfl rfl rfl rfl rfl ⟨Nat.le_of_ble_eq_true rfl, Nat.le_of_ble_eq_true rfl⟩ (Nat.le_of_ble_eq_true rfl) ⟨Nat.le_of_ble_eq_true rfl, Nat.le_of_ble_eq_true rfl⟩ rfl dX1_idAt_7 ?_
    refine zkq (G := fun v1 w1 => zG p l e _ s m args below meth c D _ _ _ _ _ _ _ (v1.toList ++ _) w1) rfl ?_
    refine z_icmp_ge hC 17 dX1_idAt_10 (by decide) (fun c10 => ?_) (fun c10 => ?_)
    · refine z_iconst (v := 0) hC dX1_idAt_17 (by decide) ?_
      refine z_istore_n hC dX1_idAt_18 (by decide) rfl ?_
      refine z_iload_n hC dX1_idAt_19 rfl ?_
      refine z_if_eq hC 37 dX1_idAt_20 (by decide) (fun cn2 => ?_) (fun cn2 => absurd ((by decide : (0 : Int32) = 0)) cn2)
      refine z_iconst (v := (-1)) hC dX1_idAt_37 (by decide) ?_
      exact z_iretd hC hr dX1_idAt_38 (Nat.zero_le _) (Nat.zero_le _) (by clear hC hr hnm; first | rfl | (simp [mrId, mrAt, c1, c10, i_nlt.mp c1, i_nlt.mpr c10, *]; done) | (simp_all [mrId, mrAt, c1, c10, i_nlt.mp c1, i_nlt.mpr c10]; done)) (by first | rfl | (simp [mrId, mrAt, c1, c10, i_nlt.mp c1, i_nlt.mpr c10, *]; done)) rfl
    · refine z_iconst (v := 1) hC dX1_idAt_13 (by decide) ?_
      refine z_goto hC 18 dX1_idAt_14 (by decide) ?_
      refine z_istore_n hC dX1_idAt_18 (by decide) rfl ?_
      refine z_iload_n hC dX1_idAt_19 rfl ?_
      refine z_if_eq hC 37 dX1_idAt_20 (by decide) (fun cn3 => absurd cn3 (by decide)) (fun cn3 => ?_)
      refine z_aload_n hC dX1_idAt_23 rfl ?_
      refine z_get 0 6 hC bl_X1 (ci := 1) rfl (by decide) rfl bw_51 rfl rfl dX1_idAt_24 ?_
      refine z_iload_n hC dX1_idAt_27 rfl ?_
      refine z_bipush (v := 60) hC dX1_idAt_28 (by decide) ?_
      refine z_imul hC dX1_idAt_30 ?_
      refine z_iload_n hC dX1_idAt_31 rfl ?_
      refine z_iadd hC dX1_idAt_32 ?_
      refine z_iald 6 0 hC rfl rfl (vrowS c1 c10) dX1_idAt_33 ?_
      refine z_goto hC 38 dX1_idAt_34 (by decide) ?_
      exact z_iretd hC hr dX1_idAt_38 (Nat.zero_le _) (Nat.zero_le _) (by clear hC hr hnm; first | rfl | (simp [mrId, mrAt, c1, c10, i_nlt.mp c1, i_nle.mp c10, *]; done) | (simp_all [mrId, mrAt, c1, c10, i_nlt.mp c1, i_nle.mp c10]; done)) (by first | rfl | (simp [mrId, mrAt, c1, c10, i_nlt.mp c1, i_nle.mp c10, *]; done)) rfl

set_option maxRecDepth 100000 in
set_option maxHeartbeats 4000000 in
theorem c_X1_stampAt (l : Launch) (D : va_G) (ct : Nat → ClassId) (q : Nat → Nat) (ρ : Nat → Nat → Int32) (n i : Int32) : zT l D ct yX1_stampAt cX1_stampAt 4 (some .int) 2 60 0 0 [.ref (q 0), .int n, .int i] (cR q ρ ct) (zd (some (.int (mrSt ρ n i))) (cR q ρ ct)) := by
  refine zT_of ([some (.ref (q 0)), some (.int n), some (.int i), none]) (by decide +kernel) rfl (Nat.le_of_ble_eq_true rfl) ?_
  intro p e s m args below meth c hC hr hnm
  refine z_iload_n hC dX1_stampAt_0 rfl ?_
  refine z_if_lt hC 17 dX1_stampAt_1 (by decide) (fun c1 => ?_) (fun c1 => ?_)
  · refine z_iconst (v := 0) hC dX1_stampAt_17 (by decide) ?_
    refine z_istore_n hC dX1_stampAt_18 (by decide) rfl ?_
    refine z_iload_n hC dX1_stampAt_19 rfl ?_
    refine z_if_eq hC 37 dX1_stampAt_20 (by decide) (fun cn1 => ?_) (fun cn1 => absurd ((by decide : (0 : Int32) = 0)) cn1)
    refine z_iconst (v := (-1)) hC dX1_stampAt_37 (by decide) ?_
    exact z_iretd hC hr dX1_stampAt_38 (Nat.zero_le _) (Nat.zero_le _) (by clear hC hr hnm; first | rfl | (simp [mrSt, mrAt, c1, i_nle.mpr c1, *]; done) | (simp_all [mrSt, mrAt, c1, i_nle.mpr c1]; done)) (by first | rfl | (simp [mrSt, mrAt, c1, i_nle.mpr c1, *]; done)) rfl
  · refine z_iload_n hC dX1_stampAt_4 rfl ?_
    refine z_aload_n hC dX1_stampAt_5 rfl ?_
    refine z_iload_n hC dX1_stampAt_6 rfl ?_
    refine z_callV [0, 1, 2, 3, 4, 5, 6, 7] 0 1 hC (c_X1_sizeOf l D ct q ρ n) bw_251 bw_252 bw_253 bw_40 bw_254 1 (by decide +kernel) rfl rfl rfl rfl rfl ⟨Nat.le_of_ble_eq_true rfl, Nat.le_of_ble_eq_true rfl⟩ (Nat.le_of_ble_eq_true rfl) ⟨Nat.le_of_ble_eq_true rfl, Nat.le_of_ble_eq_true rfl⟩ rfl dX1_stampAt_7 ?_
    refine zkq (G := fun v1 w1 => zG p l e _ s m args below meth c D _ _ _ _ _ _ _ (v1.toList ++ _) w1) rfl ?_
    refine z_icmp_ge hC 17 dX1_stampAt_10 (by decide) (fun c10 => ?_) (fun c10 => ?_)
    · refine z_iconst (v := 0) hC dX1_stampAt_17 (by decide) ?_
      refine z_istore_n hC dX1_stampAt_18 (by decide) rfl ?_
      refine z_iload_n hC dX1_stampAt_19 rfl ?_
      refine z_if_eq hC 37 dX1_stampAt_20 (by decide) (fun cn2 => ?_) (fun cn2 => absurd ((by decide : (0 : Int32) = 0)) cn2)
      refine z_iconst (v := (-1)) hC dX1_stampAt_37 (by decide) ?_
      exact z_iretd hC hr dX1_stampAt_38 (Nat.zero_le _) (Nat.zero_le _) (by clear hC hr hnm; first | rfl | (simp [mrSt, mrAt, c1, c10, i_nlt.mp c1, i_nlt.mpr c10, *]; done) | (simp_all [mrSt, mrAt, c1, c10, i_nlt.mp c1, i_nlt.mpr c10]; done)) (by first | rfl | (simp [mrSt, mrAt, c1, c10, i_nlt.mp c1, i_nlt.mpr c10, *]; done)) rfl
    · refine z_iconst (v := 1) hC dX1_stampAt_13 (by decide) ?_
      refine z_goto hC 18 dX1_stampAt_14 (by decide) ?_
      refine z_istore_n hC dX1_stampAt_18 (by decide) rfl ?_
      refine z_iload_n hC dX1_stampAt_19 rfl ?_
      refine z_if_eq hC 37 dX1_stampAt_20 (by decide) (fun cn3 => absurd cn3 (by decide)) (fun cn3 => ?_)
      refine z_aload_n hC dX1_stampAt_23 rfl ?_
      refine z_get 0 7 hC bl_X1 (ci := 1) rfl (by decide) rfl bw_52 rfl rfl dX1_stampAt_24 ?_
      refine z_iload_n hC dX1_stampAt_27 rfl ?_
      refine z_bipush (v := 60) hC dX1_stampAt_28 (by decide) ?_
      refine z_imul hC dX1_stampAt_30 ?_
      refine z_iload_n hC dX1_stampAt_31 rfl ?_
      refine z_iadd hC dX1_stampAt_32 ?_
      refine z_iald 7 0 hC rfl rfl (vrowS c1 c10) dX1_stampAt_33 ?_
      refine z_goto hC 38 dX1_stampAt_34 (by decide) ?_
      exact z_iretd hC hr dX1_stampAt_38 (Nat.zero_le _) (Nat.zero_le _) (by clear hC hr hnm; first | rfl | (simp [mrSt, mrAt, c1, c10, i_nlt.mp c1, i_nle.mp c10, *]; done) | (simp_all [mrSt, mrAt, c1, c10, i_nlt.mp c1, i_nle.mp c10]; done)) (by first | rfl | (simp [mrSt, mrAt, c1, c10, i_nlt.mp c1, i_nle.mp c10, *]; done)) rfl

set_option maxRecDepth 100000 in
set_option maxHeartbeats 4000000 in
theorem c_X1_holds (l : Launch) (D : va_G) (ct : Nat → ClassId) (q : Nat → Nat) (ρ : Nat → Nat → Int32) (n id : Int32) : zT l D ct yX1_holds cX1_holds 4 (some .boolean) 2 60 0 0 [.ref (q 0), .int n, .int id] (cR q ρ ct) (zd (some (.int (bI (mrHolds ρ n id)))) (cR q ρ ct)) := by
  refine zT_of ([some (.ref (q 0)), some (.int n), some (.int id), none]) (by decide +kernel) rfl (Nat.le_of_ble_eq_true rfl) ?_
  intro p e s m args below meth c hC hr hnm
  refine z_iconst (v := 0) hC dX1_holds_0 (by decide) ?_
  refine z_istore_n hC dX1_holds_1 (by decide) rfl ?_
  have loop2 : ∀ (kf i : Nat) (hki : kf + i = (mrSize ρ n).toNatClampNeg) (hF : kany (fun i => decide (ρ 6 (mrAt n (nI i)) = id)) kf i = mrHolds ρ n id), zG p l e { frames := 2, cells := 0, slots := 0, locals := 60 } s m args below meth c D (va_A (cR q ρ ct) s.heap.size) 4 (MQ below (zQ D ct (cR q ρ ct) s.heap.size (zd (some (.int (bI (mrHolds ρ n id)))) (cR q ρ ct))) args s 0 0 (va_A (cR q ρ ct) s.heap.size)) 0 0 2 [some (.ref (q 0)), some (.int n), some (.int id), some (.int (nI i))] [] (cR q ρ ct) := by
    intro kf
    induction kf with
    | zero =>
      intro i hki hF
      refine z_iload_n hC dX1_holds_2 rfl ?_
      refine z_aload_n hC dX1_holds_3 rfl ?_
      refine z_iload_n hC dX1_holds_4 rfl ?_
      refine z_callV [0, 1, 2, 3, 4, 5, 6, 7] 0 1 hC (c_X1_sizeOf l D ct q ρ n) bw_251 bw_252 bw_253 bw_40 bw_254 1 (by decide +kernel) rfl rfl rfl rfl rfl ⟨Nat.le_of_ble_eq_true rfl, Nat.le_of_ble_eq_true rfl⟩ (Nat.le_of_ble_eq_true rfl) ⟨Nat.le_of_ble_eq_true rfl, Nat.le_of_ble_eq_true rfl⟩ rfl dX1_holds_5 ?_
      refine zkq (G := fun v1 w1 => zG p l e _ s m args below meth c D _ _ _ _ _ _ _ (v1.toList ++ _) w1) rfl ?_
      refine z_icmp_ge hC 34 dX1_holds_8 (by decide) (fun c8 => ?_) (fun c8 => absurd (lim_ge (by omega) (by have := lim_31 (mrSize ρ n); omega)) c8)
      refine z_iconst (v := 0) hC dX1_holds_34 (by decide) ?_
      exact z_zretd hC hr (rfl) dX1_holds_35 (Nat.zero_le _) (Nat.zero_le _) (by rw [← hF]; rfl) (by first | rfl | (simp [mrHolds, bI, c8, i_nlt.mpr c8, *]; done)) rfl
    | succ kf ih =>
      intro i hki hF
      refine z_iload_n hC dX1_holds_2 rfl ?_
      refine z_aload_n hC dX1_holds_3 rfl ?_
      refine z_iload_n hC dX1_holds_4 rfl ?_
      refine z_callV [0, 1, 2, 3, 4, 5, 6, 7] 0 1 hC (c_X1_sizeOf l D ct q ρ n) bw_251 bw_252 bw_253 bw_40 bw_254 1 (by decide +kernel) rfl rfl rfl rfl rfl ⟨Nat.le_of_ble_eq_true rfl, Nat.le_of_ble_eq_true rfl⟩ (Nat.le_of_ble_eq_true rfl) ⟨Nat.le_of_ble_eq_true rfl, Nat.le_of_ble_eq_true rfl⟩ rfl dX1_holds_5 ?_
      refine zkq (G := fun v1 w1 => zG p l e _ s m args below meth c D _ _ _ _ _ _ _ (v1.toList ++ _) w1) rfl ?_
      refine z_icmp_ge hC 34 dX1_holds_8 (by decide) (fun c8 => absurd c8 (lim_lt (by omega))) (fun c8 => ?_)
      refine z_aload_n hC dX1_holds_11 rfl ?_
      refine z_get 0 6 hC bl_X1 (ci := 1) rfl (by decide) rfl bw_51 rfl rfl dX1_holds_12 ?_
      refine z_iload_n hC dX1_holds_15 rfl ?_
      refine z_bipush (v := 60) hC dX1_holds_16 (by decide) ?_
      refine z_imul hC dX1_holds_18 ?_
      refine z_iload_n hC dX1_holds_19 rfl ?_
      refine z_iadd hC dX1_holds_20 ?_
      refine z_iald 6 0 hC rfl rfl (vrowS (nI_pos (by have := lim_31 (mrSize ρ n); omega)) c8) dX1_holds_21 ?_
      refine z_iload_n hC dX1_holds_22 rfl ?_
      refine z_icmp_ne hC 28 dX1_holds_23 (by decide) (fun c23 => ?_) (fun c23 => ?_)
      · refine z_iinc (cn := 1) hC dX1_holds_28 (by decide) (by decide) rfl rfl ?_
        refine z_goto hC 2 dX1_holds_31 (by decide) ?_
        rw [nI_1]
        exact ih (i + 1) (by omega) (by rw [← hF]; simp [kany, mrAt, c23])
      · refine z_iconst (v := 1) hC dX1_holds_26 (by decide) ?_
        exact z_zretd hC hr (rfl) dX1_holds_27 (Nat.zero_le _) (Nat.zero_le _) (by rw [← hF]; simp [kany, bI, mrAt, c23]) (by first | rfl | (simp [mrHolds, bI, c8, c23, i_nle.mp c8, *]; done)) rfl
  exact loop2 _ 0 (Nat.add_zero _) rfl

set_option maxRecDepth 100000 in
set_option maxHeartbeats 4000000 in
theorem c_X1_partOf (l : Launch) (D : va_G) (ct : Nat → ClassId) (q : Nat → Nat) (ρ : Nat → Nat → Int32) (n i p0 : Int32) : zT l D ct yX1_partOf cX1_partOf 5 (some .int) 3 83 0 0 [.ref (q 0), .int n, .int i, .int p0] (cR q ρ ct) (zd (some (.int (mrPart ρ n i p0))) (cR q ρ ct)) := by
  refine zT_of ([some (.ref (q 0)), some (.int n), some (.int i), some (.int p0), none]) (by decide +kernel) rfl (Nat.le_of_ble_eq_true rfl) ?_
  intro p e s m args below meth c hC hr hnm
  refine z_aload_n hC dX1_partOf_0 rfl ?_
  refine z_iload_n hC dX1_partOf_1 rfl ?_
  refine z_iload_n hC dX1_partOf_2 rfl ?_
  refine z_callV [0, 1, 2, 3, 4, 5, 6, 7] 0 1 hC (c_X1_idAt l D ct q ρ n i) bw_660 bw_335 bw_336 bw_40 bw_337 2 (by decide +kernel) rfl rfl rfl rfl rfl ⟨Nat.le_of_ble_eq_true rfl, Nat.le_of_ble_eq_true rfl⟩ (Nat.le_of_ble_eq_true rfl) ⟨Nat.le_of_ble_eq_true rfl, Nat.le_of_ble_eq_true rfl⟩ rfl dX1_partOf_3 ?_
  refine zkq (G := fun v1 w1 => zG p l e _ s m args below meth c D _ _ _ _ _ _ _ (v1.toList ++ _) w1) rfl ?_
  refine z_istore hC dX1_partOf_6 (by decide) rfl ?_
  refine z_iload hC dX1_partOf_8 rfl ?_
  refine z_if_lt hC 20 dX1_partOf_10 (by decide) (fun c10 => ?_) (fun c10 => ?_)
  · refine z_iconst (v := (-1)) hC dX1_partOf_20 (by decide) ?_
    exact z_iretd hC hr dX1_partOf_21 (Nat.zero_le _) (Nat.zero_le _) (by clear hC hr hnm; first | rfl | (simp [mrPart, c10, i_nle.mpr c10, *]; done) | (simp_all [mrPart, c10, i_nle.mpr c10]; done)) (by first | rfl | (simp [mrPart, c10, i_nle.mpr c10, *]; done)) rfl
  · refine z_iload hC dX1_partOf_13 rfl ?_
    refine z_bipush (v := 60) hC dX1_partOf_15 (by decide) ?_
    refine z_icmp_lt hC 22 dX1_partOf_17 (by decide) (fun c17 => ?_) (fun c17 => ?_)
    · refine z_iload_n hC dX1_partOf_22 rfl ?_
      by_cases s23_0 : p0 = 0
      · refine z_tableIn (off := 29) hC 52 dX1_partOf_23 (by rw [s23_0]; decide) (by rw [s23_0]; decide) (by rw [s23_0]; rfl) (by decide) ?_
        refine z_aload_n hC dX1_partOf_52 rfl ?_
        refine z_get 0 0 hC bl_X1 (ci := 1) rfl (by decide) rfl bw_46 rfl rfl dX1_partOf_53 ?_
        refine z_iload hC dX1_partOf_56 rfl ?_
        refine z_iald 1 0 hC rfl rfl (vin60 c10 c17) dX1_partOf_58 ?_
        exact z_iretd hC hr dX1_partOf_59 (Nat.zero_le _) (Nat.zero_le _) (by clear hC hr hnm; first | rfl | (simp [mrPart, c10, c17, s23_0, i_nlt.mp c10, i_nle.mpr c17, *]; done) | (simp_all [mrPart, c10, c17, s23_0, i_nlt.mp c10, i_nle.mpr c17]; done)) (by first | rfl | (simp [mrPart, c10, c17, s23_0, i_nlt.mp c10, i_nle.mpr c17, *]; done)) rfl
      by_cases s23_1 : p0 = 1
      · refine z_tableIn (off := 37) hC 60 dX1_partOf_23 (by rw [s23_1]; decide) (by rw [s23_1]; decide) (by rw [s23_1]; rfl) (by decide) ?_
        refine z_aload_n hC dX1_partOf_60 rfl ?_
        refine z_get 0 1 hC bl_X1 (ci := 1) rfl (by decide) rfl bw_47 rfl rfl dX1_partOf_61 ?_
        refine z_iload hC dX1_partOf_64 rfl ?_
        refine z_iald 2 0 hC rfl rfl (vin60 c10 c17) dX1_partOf_66 ?_
        exact z_iretd hC hr dX1_partOf_67 (Nat.zero_le _) (Nat.zero_le _) (by clear hC hr hnm; first | rfl | (simp [mrPart, c10, c17, s23_0, s23_1, i_nlt.mp c10, i_nle.mpr c17, *]; done) | (simp_all [mrPart, c10, c17, s23_0, s23_1, i_nlt.mp c10, i_nle.mpr c17]; done)) (by first | rfl | (simp [mrPart, c10, c17, s23_0, s23_1, i_nlt.mp c10, i_nle.mpr c17, *]; done)) rfl
      by_cases s23_2 : p0 = 2
      · refine z_tableIn (off := 45) hC 68 dX1_partOf_23 (by rw [s23_2]; decide) (by rw [s23_2]; decide) (by rw [s23_2]; rfl) (by decide) ?_
        refine z_aload_n hC dX1_partOf_68 rfl ?_
        refine z_get 0 2 hC bl_X1 (ci := 1) rfl (by decide) rfl bw_48 rfl rfl dX1_partOf_69 ?_
        refine z_iload hC dX1_partOf_72 rfl ?_
        refine z_iald 3 0 hC rfl rfl (vin60 c10 c17) dX1_partOf_74 ?_
        exact z_iretd hC hr dX1_partOf_75 (Nat.zero_le _) (Nat.zero_le _) (by clear hC hr hnm; first | rfl | (simp [mrPart, c10, c17, s23_0, s23_1, s23_2, i_nlt.mp c10, i_nle.mpr c17, *]; done) | (simp_all [mrPart, c10, c17, s23_0, s23_1, s23_2, i_nlt.mp c10, i_nle.mpr c17]; done)) (by first | rfl | (simp [mrPart, c10, c17, s23_0, s23_1, s23_2, i_nlt.mp c10, i_nle.mpr c17, *]; done)) rfl
      by_cases s23_3 : p0 = 3
      · refine z_tableIn (off := 53) hC 76 dX1_partOf_23 (by rw [s23_3]; decide) (by rw [s23_3]; decide) (by rw [s23_3]; rfl) (by decide) ?_
        refine z_aload_n hC dX1_partOf_76 rfl ?_
        refine z_get 0 3 hC bl_X1 (ci := 1) rfl (by decide) rfl bw_49 rfl rfl dX1_partOf_77 ?_
        refine z_iload hC dX1_partOf_80 rfl ?_
        refine z_iald 4 0 hC rfl rfl (vin60 c10 c17) dX1_partOf_82 ?_
        exact z_iretd hC hr dX1_partOf_83 (Nat.zero_le _) (Nat.zero_le _) (by clear hC hr hnm; first | rfl | (simp [mrPart, c10, c17, s23_0, s23_1, s23_2, s23_3, i_nlt.mp c10, i_nle.mpr c17, *]; done) | (simp_all [mrPart, c10, c17, s23_0, s23_1, s23_2, s23_3, i_nlt.mp c10, i_nle.mpr c17]; done)) (by first | rfl | (simp [mrPart, c10, c17, s23_0, s23_1, s23_2, s23_3, i_nlt.mp c10, i_nle.mpr c17, *]; done)) rfl
      have t23_0 : (0 : Int32).toInt = 0 := rfl
      have n23_0 := mt i_eq.mpr s23_0
      have t23_1 : (1 : Int32).toInt = 1 := rfl
      have n23_1 := mt i_eq.mpr s23_1
      have t23_2 : (2 : Int32).toInt = 2 := rfl
      have n23_2 := mt i_eq.mpr s23_2
      have t23_3 : (3 : Int32).toInt = 3 := rfl
      have n23_3 := mt i_eq.mpr s23_3
      refine z_tableOut hC 84 dX1_partOf_23 (by omega) (by decide) ?_
      refine z_aload_n hC dX1_partOf_84 rfl ?_
      refine z_iload_n hC dX1_partOf_85 rfl ?_
      refine z_iload_n hC dX1_partOf_86 rfl ?_
      refine z_callV [0, 1, 2, 3, 4, 5, 6, 7] 0 1 hC (c_X1_stampAt l D ct q ρ n i) bw_661 bw_341 bw_342 bw_40 bw_343 2 (by decide +kernel) rfl rfl rfl rfl rfl ⟨Nat.le_of_ble_eq_true rfl, Nat.le_of_ble_eq_true rfl⟩ (Nat.le_of_ble_eq_true rfl) ⟨Nat.le_of_ble_eq_true rfl, Nat.le_of_ble_eq_true rfl⟩ rfl dX1_partOf_87 ?_
      refine zkq (G := fun v1 w1 => zG p l e _ s m args below meth c D _ _ _ _ _ _ _ (v1.toList ++ _) w1) rfl ?_
      exact z_iretd hC hr dX1_partOf_90 (Nat.zero_le _) (Nat.zero_le _) (by clear hC hr hnm; first | rfl | (simp [mrPart, c10, c17, s23_0, s23_1, s23_2, s23_3, i_nlt.mp c10, i_nle.mpr c17, *]; done) | (simp_all [mrPart, c10, c17, s23_0, s23_1, s23_2, s23_3, i_nlt.mp c10, i_nle.mpr c17]; done)) (by first | rfl | (simp [mrPart, c10, c17, s23_0, s23_1, s23_2, s23_3, i_nlt.mp c10, i_nle.mpr c17, *]; done)) rfl
    · refine z_iconst (v := (-1)) hC dX1_partOf_20 (by decide) ?_
      exact z_iretd hC hr dX1_partOf_21 (Nat.zero_le _) (Nat.zero_le _) (by clear hC hr hnm; first | rfl | (simp [mrPart, c10, c17, i_nlt.mp c10, i_nlt.mp c17, *]; done) | (simp_all [mrPart, c10, c17, i_nlt.mp c10, i_nlt.mp c17]; done)) (by first | rfl | (simp [mrPart, c10, c17, i_nlt.mp c10, i_nlt.mp c17, *]; done)) rfl

set_option maxRecDepth 100000 in
set_option maxHeartbeats 4000000 in
theorem c_X1_missingCount (l : Launch) (D : va_G) (ct : Nat → ClassId) (q : Nat → Nat) (ρ : Nat → Nat → Int32) : zT l D ct yX1_missingCount cX1_missingCount 1 (some .int) 2 47 0 0 [.ref (q 0)] (cR q ρ ct) (zd (some (.int (mrMissing ρ))) (cR q ρ ct)) := by
  refine zT_of ([some (.ref (q 0))]) (by decide +kernel) rfl (Nat.le_of_ble_eq_true rfl) ?_
  intro p e s m args below meth c hC hr hnm
  refine z_aload_n hC dX1_missingCount_0 rfl ?_
  refine z_get 0 4 hC bl_X1 (ci := 1) rfl (by decide) rfl bw_126 rfl rfl dX1_missingCount_1 ?_
  refine z_aload_n hC dX1_missingCount_4 rfl ?_
  refine z_iconst (v := 0) hC dX1_missingCount_5 (by decide) ?_
  refine z_callV [0, 1, 2, 3, 4, 5, 6, 7] 0 1 hC (c_X1_sizeOf l D ct q ρ 0) bw_251 bw_252 bw_253 bw_40 bw_254 1 (by decide +kernel) rfl rfl rfl rfl rfl ⟨Nat.le_of_ble_eq_true rfl, Nat.le_of_ble_eq_true rfl⟩ (Nat.le_of_ble_eq_true rfl) ⟨Nat.le_of_ble_eq_true rfl, Nat.le_of_ble_eq_true rfl⟩ rfl dX1_missingCount_6 ?_
  refine zkq (G := fun v1 w1 => zG p l e _ s m args below meth c D _ _ _ _ _ _ _ (v1.toList ++ _) w1) rfl ?_
  refine z_isub hC dX1_missingCount_9 ?_
  exact z_iretd hC hr dX1_missingCount_10 (Nat.zero_le _) (Nat.zero_le _) (by clear hC hr hnm; first | rfl | (simp [mrMissing, *]; done) | (simp_all [mrMissing]; done)) (by first | rfl | (simp [mrMissing, *]; done)) rfl

set_option maxRecDepth 100000 in
set_option maxHeartbeats 4000000 in
theorem c_X1_takenAt (l : Launch) (D : va_G) (ct : Nat → ClassId) (q : Nat → Nat) (ρ : Nat → Nat → Int32) (n : Int32) : zT l D ct yX1_takenAt cX1_takenAt 4 (some .int) 0 0 0 0 [.ref (q 0), .int n] (cR q ρ ct) (zd (some (.int (mrTakenAt ρ n))) (cR q ρ ct)) := by
  refine zT_of ([some (.ref (q 0)), some (.int n), none, none]) (by decide +kernel) rfl (Nat.le_of_ble_eq_true rfl) ?_
  intro p e s m args below meth c hC hr hnm
  refine z_iconst (v := 0) hC dX1_takenAt_0 (by decide) ?_
  refine z_istore_n hC dX1_takenAt_1 (by decide) rfl ?_
  refine z_iconst (v := 0) hC dX1_takenAt_2 (by decide) ?_
  refine z_istore_n hC dX1_takenAt_3 (by decide) rfl ?_
  have loop4 : ∀ (kf i : Nat) (a : Int32) (hki : kf + i = mrLim ρ) (hF : kfor (fun i (a : Int32) => a + (if ρ 1 (nI i).toNatClampNeg = n then 1 else 0)) kf i a = mrTakenAt ρ n), zG p l e { frames := 0, cells := 0, slots := 0, locals := 0 } s m args below meth c D (va_A (cR q ρ ct) s.heap.size) 4 (MQ below (zQ D ct (cR q ρ ct) s.heap.size (zd (some (.int (mrTakenAt ρ n))) (cR q ρ ct))) args s 0 0 (va_A (cR q ρ ct) s.heap.size)) 0 0 4 [some (.ref (q 0)), some (.int n), some (.int a), some (.int (nI i))] [] (cR q ρ ct) := by
    intro kf
    induction kf with
    | zero =>
      intro i a hki hF
      refine z_iload_n hC dX1_takenAt_4 rfl ?_
      refine z_bipush (v := 60) hC dX1_takenAt_5 (by decide) ?_
      refine z_icmp_ge hC 42 dX1_takenAt_7 (by decide) (fun c7 => ?_) (fun c7 => ?_)
      · refine z_iload_n hC dX1_takenAt_42 rfl ?_
        exact z_iretd hC hr dX1_takenAt_43 (Nat.zero_le _) (Nat.zero_le _) (hF) (by first | rfl | (simp [mrTakenAt, c7, i_nlt.mpr c7, *]; done)) rfl
      · refine z_iload_n hC dX1_takenAt_10 rfl ?_
        refine z_aload_n hC dX1_takenAt_11 rfl ?_
        refine z_get 0 4 hC bl_X1 (ci := 1) rfl (by decide) rfl bw_126 rfl rfl dX1_takenAt_12 ?_
        refine z_icmp_ge hC 42 dX1_takenAt_15 (by decide) (fun c15 => ?_) (fun c15 => absurd (mrLim_ge (by omega) (klt2 60 rfl (by decide) (by have := mrLim_le ρ; omega) c7)) c15)
        refine z_iload_n hC dX1_takenAt_42 rfl ?_
        exact z_iretd hC hr dX1_takenAt_43 (Nat.zero_le _) (Nat.zero_le _) (hF) (by first | rfl | (simp [mrTakenAt, c7, c15, i_nle.mp c7, i_nlt.mpr c15, *]; done)) rfl
    | succ kf ih =>
      intro i a hki hF
      refine z_iload_n hC dX1_takenAt_4 rfl ?_
      refine z_bipush (v := 60) hC dX1_takenAt_5 (by decide) ?_
      refine z_icmp_ge hC 42 dX1_takenAt_7 (by decide) (fun c7 => absurd c7 (klt 60 rfl (by have := mrLim_le ρ; omega) (by decide))) (fun c7 => ?_)
      refine z_iload_n hC dX1_takenAt_10 rfl ?_
      refine z_aload_n hC dX1_takenAt_11 rfl ?_
      refine z_get 0 4 hC bl_X1 (ci := 1) rfl (by decide) rfl bw_126 rfl rfl dX1_takenAt_12 ?_
      refine z_icmp_ge hC 42 dX1_takenAt_15 (by decide) (fun c15 => absurd c15 (mrLim_lt (by omega))) (fun c15 => ?_)
      refine z_iload_n hC dX1_takenAt_18 rfl ?_
      refine z_aload_n hC dX1_takenAt_19 rfl ?_
      refine z_get 0 0 hC bl_X1 (ci := 1) rfl (by decide) rfl bw_46 rfl rfl dX1_takenAt_20 ?_
      refine z_iload_n hC dX1_takenAt_23 rfl ?_
      refine z_iald 1 0 hC rfl rfl (v60 (by have := mrLim_le ρ; omega)) dX1_takenAt_24 ?_
      refine z_iload_n hC dX1_takenAt_25 rfl ?_
      refine z_icmp_ne hC 33 dX1_takenAt_26 (by decide) (fun c26 => ?_) (fun c26 => ?_)
      · refine z_iconst (v := 0) hC dX1_takenAt_33 (by decide) ?_
        refine z_iadd hC dX1_takenAt_34 ?_
        refine z_istore_n hC dX1_takenAt_35 (by decide) rfl ?_
        refine z_iinc (cn := 1) hC dX1_takenAt_36 (by decide) (by decide) rfl rfl ?_
        refine z_goto hC 4 dX1_takenAt_39 (by decide) ?_
        rw [nI_1]
        exact ih (i + 1) (a + 0) (by omega) (by rw [← hF]; simp [kfor, c26])
      · refine z_iconst (v := 1) hC dX1_takenAt_29 (by decide) ?_
        refine z_goto hC 34 dX1_takenAt_30 (by decide) ?_
        refine z_iadd hC dX1_takenAt_34 ?_
        refine z_istore_n hC dX1_takenAt_35 (by decide) rfl ?_
        refine z_iinc (cn := 1) hC dX1_takenAt_36 (by decide) (by decide) rfl rfl ?_
        refine z_goto hC 4 dX1_takenAt_39 (by decide) ?_
        rw [nI_1]
        exact ih (i + 1) (a + 1) (by omega) (by rw [← hF]; simp [kfor, c26])
  exact loop4 _ 0 0 (Nat.add_zero _) rfl

set_option maxRecDepth 100000 in
set_option maxHeartbeats 4000000 in
theorem c_X1_findId (l : Launch) (D : va_G) (ct : Nat → ClassId) (q : Nat → Nat) (ρ : Nat → Nat → Int32) (n k : Int32) : zT l D ct yX1_findId cX1_findId 4 (some .int) 0 0 0 0 [.ref (q 0), .int n, .int k] (cR q ρ ct) (zd (some (.int (mrFind ρ n k))) (cR q ρ ct)) := by
  refine zT_of ([some (.ref (q 0)), some (.int n), some (.int k), none]) (by decide +kernel) rfl (Nat.le_of_ble_eq_true rfl) ?_
  intro p e s m args below meth c hC hr hnm
  refine z_iconst (v := 0) hC dX1_findId_0 (by decide) ?_
  refine z_istore_n hC dX1_findId_1 (by decide) rfl ?_
  have loop2 : ∀ (kf i : Nat) (hki : kf + i = mrLim ρ) (hF : kfst (fun i => decide (ρ 1 (nI i).toNatClampNeg = n) && decide (ρ 2 (nI i).toNatClampNeg = k)) kf i = mrFind ρ n k), zG p l e { frames := 0, cells := 0, slots := 0, locals := 0 } s m args below meth c D (va_A (cR q ρ ct) s.heap.size) 4 (MQ below (zQ D ct (cR q ρ ct) s.heap.size (zd (some (.int (mrFind ρ n k))) (cR q ρ ct))) args s 0 0 (va_A (cR q ρ ct) s.heap.size)) 0 0 2 [some (.ref (q 0)), some (.int n), some (.int k), some (.int (nI i))] [] (cR q ρ ct) := by
    intro kf
    induction kf with
    | zero =>
      intro i hki hF
      refine z_iload_n hC dX1_findId_2 rfl ?_
      refine z_bipush (v := 60) hC dX1_findId_3 (by decide) ?_
      refine z_icmp_ge hC 44 dX1_findId_5 (by decide) (fun c5 => ?_) (fun c5 => ?_)
      · refine z_iconst (v := (-1)) hC dX1_findId_44 (by decide) ?_
        exact z_iretd hC hr dX1_findId_45 (Nat.zero_le _) (Nat.zero_le _) (hF) (by first | rfl | (simp [mrFind, c5, i_nlt.mpr c5, *]; done)) rfl
      · refine z_iload_n hC dX1_findId_8 rfl ?_
        refine z_aload_n hC dX1_findId_9 rfl ?_
        refine z_get 0 4 hC bl_X1 (ci := 1) rfl (by decide) rfl bw_126 rfl rfl dX1_findId_10 ?_
        refine z_icmp_ge hC 44 dX1_findId_13 (by decide) (fun c13 => ?_) (fun c13 => absurd (mrLim_ge (by omega) (klt2 60 rfl (by decide) (by have := mrLim_le ρ; omega) c5)) c13)
        refine z_iconst (v := (-1)) hC dX1_findId_44 (by decide) ?_
        exact z_iretd hC hr dX1_findId_45 (Nat.zero_le _) (Nat.zero_le _) (hF) (by first | rfl | (simp [mrFind, c5, c13, i_nle.mp c5, i_nlt.mpr c13, *]; done)) rfl
    | succ kf ih =>
      intro i hki hF
      refine z_iload_n hC dX1_findId_2 rfl ?_
      refine z_bipush (v := 60) hC dX1_findId_3 (by decide) ?_
      refine z_icmp_ge hC 44 dX1_findId_5 (by decide) (fun c5 => absurd c5 (klt 60 rfl (by have := mrLim_le ρ; omega) (by decide))) (fun c5 => ?_)
      refine z_iload_n hC dX1_findId_8 rfl ?_
      refine z_aload_n hC dX1_findId_9 rfl ?_
      refine z_get 0 4 hC bl_X1 (ci := 1) rfl (by decide) rfl bw_126 rfl rfl dX1_findId_10 ?_
      refine z_icmp_ge hC 44 dX1_findId_13 (by decide) (fun c13 => absurd c13 (mrLim_lt (by omega))) (fun c13 => ?_)
      refine z_aload_n hC dX1_findId_16 rfl ?_
      refine z_get 0 0 hC bl_X1 (ci := 1) rfl (by decide) rfl bw_46 rfl rfl dX1_findId_17 ?_
      refine z_iload_n hC dX1_findId_20 rfl ?_
      refine z_iald 1 0 hC rfl rfl (v60 (by have := mrLim_le ρ; omega)) dX1_findId_21 ?_
      refine z_iload_n hC dX1_findId_22 rfl ?_
      refine z_icmp_ne hC 38 dX1_findId_23 (by decide) (fun c23 => ?_) (fun c23 => ?_)
      · refine z_iinc (cn := 1) hC dX1_findId_38 (by decide) (by decide) rfl rfl ?_
        refine z_goto hC 2 dX1_findId_41 (by decide) ?_
        rw [nI_1]
        exact ih (i + 1) (by omega) (by rw [← hF]; simp [kfst, c5, c13, c23, i_nle.mp c5, i_nle.mp c13])
      · refine z_aload_n hC dX1_findId_26 rfl ?_
        refine z_get 0 1 hC bl_X1 (ci := 1) rfl (by decide) rfl bw_47 rfl rfl dX1_findId_27 ?_
        refine z_iload_n hC dX1_findId_30 rfl ?_
        refine z_iald 2 0 hC rfl rfl (v60 (by have := mrLim_le ρ; omega)) dX1_findId_31 ?_
        refine z_iload_n hC dX1_findId_32 rfl ?_
        refine z_icmp_ne hC 38 dX1_findId_33 (by decide) (fun c33 => ?_) (fun c33 => ?_)
        · refine z_iinc (cn := 1) hC dX1_findId_38 (by decide) (by decide) rfl rfl ?_
          refine z_goto hC 2 dX1_findId_41 (by decide) ?_
          rw [nI_1]
          exact ih (i + 1) (by omega) (by rw [← hF]; simp [kfst, c5, c13, c23, c33, i_nle.mp c5, i_nle.mp c13])
        · refine z_iload_n hC dX1_findId_36 rfl ?_
          exact z_iretd hC hr dX1_findId_37 (Nat.zero_le _) (Nat.zero_le _) (by rw [← hF]; simp [kfst, c23, c33]) (by first | rfl | (simp [mrFind, c5, c13, c23, c33, i_nle.mp c5, i_nle.mp c13, *]; done)) rfl
  exact loop2 _ 0 (Nat.add_zero _) rfl

set_option maxRecDepth 100000 in
set_option maxHeartbeats 4000000 in
theorem c_X1_storesWith (l : Launch) (D : va_G) (ct : Nat → ClassId) (q : Nat → Nat) (ρ : Nat → Nat → Int32) (id : Int32) : zT l D ct yX1_storesWith cX1_storesWith 4 (some .int) 3 83 0 0 [.ref (q 0), .int id] (cR q ρ ct) (zd (some (.int (mrStores ρ id))) (cR q ρ ct)) := by
  refine zT_of ([some (.ref (q 0)), some (.int id), none, none]) (by decide +kernel) rfl (Nat.le_of_ble_eq_true rfl) ?_
  intro p e s m args below meth c hC hr hnm
  refine z_iconst (v := 0) hC dX1_storesWith_0 (by decide) ?_
  refine z_istore_n hC dX1_storesWith_1 (by decide) rfl ?_
  refine z_iconst (v := 0) hC dX1_storesWith_2 (by decide) ?_
  refine z_istore_n hC dX1_storesWith_3 (by decide) rfl ?_
  have loop4 : ∀ (kf i : Nat) (a : Int32) (hki : kf + i = 10) (hF : kfor (fun i (a : Int32) => a + (if ¬ nI i = 0 ∧ mrHolds ρ (nI i) id = true then 1 else 0)) kf i a = mrStores ρ id), zG p l e { frames := 3, cells := 0, slots := 0, locals := 83 } s m args below meth c D (va_A (cR q ρ ct) s.heap.size) 4 (MQ below (zQ D ct (cR q ρ ct) s.heap.size (zd (some (.int (mrStores ρ id))) (cR q ρ ct))) args s 0 0 (va_A (cR q ρ ct) s.heap.size)) 0 0 4 [some (.ref (q 0)), some (.int id), some (.int a), some (.int (nI i))] [] (cR q ρ ct) := by
    intro kf
    induction kf with
    | zero =>
      intro i a hki hF
      refine z_iload_n hC dX1_storesWith_4 rfl ?_
      refine z_bipush (v := 10) hC dX1_storesWith_5 (by decide) ?_
      refine z_icmp_ge hC 37 dX1_storesWith_7 (by decide) (fun c7 => ?_) (fun c7 => absurd (kge 10 rfl (by omega) (by omega)) c7)
      refine z_iload_n hC dX1_storesWith_37 rfl ?_
      exact z_iretd hC hr dX1_storesWith_38 (Nat.zero_le _) (Nat.zero_le _) (hF) (by first | rfl | (simp [mrStores, c7, i_nlt.mpr c7, *]; done)) rfl
    | succ kf ih =>
      intro i a hki hF
      refine z_iload_n hC dX1_storesWith_4 rfl ?_
      refine z_bipush (v := 10) hC dX1_storesWith_5 (by decide) ?_
      refine z_icmp_ge hC 37 dX1_storesWith_7 (by decide) (fun c7 => absurd c7 (klt 10 rfl (by omega) (by decide))) (fun c7 => ?_)
      refine z_iload_n hC dX1_storesWith_10 rfl ?_
      refine z_iload_n hC dX1_storesWith_11 rfl ?_
      refine z_if_eq hC 28 dX1_storesWith_12 (by decide) (fun c12 => ?_) (fun c12 => ?_)
      · refine z_iconst (v := 0) hC dX1_storesWith_28 (by decide) ?_
        refine z_iadd hC dX1_storesWith_29 ?_
        refine z_istore_n hC dX1_storesWith_30 (by decide) rfl ?_
        refine z_iinc (cn := 1) hC dX1_storesWith_31 (by decide) (by decide) rfl rfl ?_
        refine z_goto hC 4 dX1_storesWith_34 (by decide) ?_
        rw [nI_1]
        exact ih (i + 1) (a + 0) (by omega) (by rw [← hF]; simp [kfor, c7, c12, i_nle.mp c7])
      · refine z_aload_n hC dX1_storesWith_15 rfl ?_
        refine z_iload_n hC dX1_storesWith_16 rfl ?_
        refine z_iload_n hC dX1_storesWith_17 rfl ?_
        refine z_callV [0, 1, 2, 3, 4, 5, 6, 7] 0 1 hC (c_X1_holds l D ct q ρ (nI i) id) bw_698 bw_338 bw_339 bw_40 bw_340 2 (by decide +kernel) rfl rfl rfl rfl rfl ⟨Nat.le_of_ble_eq_true rfl, Nat.le_of_ble_eq_true rfl⟩ (Nat.le_of_ble_eq_true rfl) ⟨Nat.le_of_ble_eq_true rfl, Nat.le_of_ble_eq_true rfl⟩ rfl dX1_storesWith_18 ?_
        refine zkq (G := fun v1 w1 => zG p l e _ s m args below meth c D _ _ _ _ _ _ _ (v1.toList ++ _) w1) rfl ?_
        refine z_if_eq hC 28 dX1_storesWith_21 (by decide) (fun c21 => ?_) (fun c21 => ?_)
        · rw [bI_0] at c21
          refine z_iconst (v := 0) hC dX1_storesWith_28 (by decide) ?_
          refine z_iadd hC dX1_storesWith_29 ?_
          refine z_istore_n hC dX1_storesWith_30 (by decide) rfl ?_
          refine z_iinc (cn := 1) hC dX1_storesWith_31 (by decide) (by decide) rfl rfl ?_
          refine z_goto hC 4 dX1_storesWith_34 (by decide) ?_
          rw [nI_1]
          exact ih (i + 1) (a + 0) (by omega) (by rw [← hF]; simp [kfor, c7, c12, c21, i_nle.mp c7])
        · rw [bI_1] at c21
          refine z_iconst (v := 1) hC dX1_storesWith_24 (by decide) ?_
          refine z_goto hC 29 dX1_storesWith_25 (by decide) ?_
          refine z_iadd hC dX1_storesWith_29 ?_
          refine z_istore_n hC dX1_storesWith_30 (by decide) rfl ?_
          refine z_iinc (cn := 1) hC dX1_storesWith_31 (by decide) (by decide) rfl rfl ?_
          refine z_goto hC 4 dX1_storesWith_34 (by decide) ?_
          rw [nI_1]
          exact ih (i + 1) (a + 1) (by omega) (by rw [← hF]; simp [kfor, c7, c12, c21, i_nle.mp c7])
  exact loop4 _ 0 0 (Nat.add_zero _) rfl

set_option maxRecDepth 100000 in
set_option maxHeartbeats 4000000 in
theorem c_X1_wrongStampCount (l : Launch) (D : va_G) (ct : Nat → ClassId) (q : Nat → Nat) (ρ : Nat → Nat → Int32) : zT l D ct yX1_wrongStampCount cX1_wrongStampCount 3 (some .int) 4 107 0 0 [.ref (q 0)] (cR q ρ ct) (zd (some (.int (mrWrong ρ))) (cR q ρ ct)) := by
  refine zT_of ([some (.ref (q 0)), none, none]) (by decide +kernel) rfl (Nat.le_of_ble_eq_true rfl) ?_
  intro p e s m args below meth c hC hr hnm
  refine z_iconst (v := 0) hC dX1_wrongStampCount_0 (by decide) ?_
  refine z_istore_n hC dX1_wrongStampCount_1 (by decide) rfl ?_
  refine z_iconst (v := 0) hC dX1_wrongStampCount_2 (by decide) ?_
  refine z_istore_n hC dX1_wrongStampCount_3 (by decide) rfl ?_
  have loop4 : ∀ (kf i : Nat) (a : Int32) (hki : kf + i = (mrSize ρ 0).toNatClampNeg) (hF : kfor (fun i (a : Int32) => a + (if mrPart ρ 0 (nI i) 4 = mrPart ρ 0 (nI i) 3 then 0 else 1)) kf i a = mrWrong ρ), zG p l e { frames := 4, cells := 0, slots := 0, locals := 107 } s m args below meth c D (va_A (cR q ρ ct) s.heap.size) 3 (MQ below (zQ D ct (cR q ρ ct) s.heap.size (zd (some (.int (mrWrong ρ))) (cR q ρ ct))) args s 0 0 (va_A (cR q ρ ct) s.heap.size)) 0 0 4 [some (.ref (q 0)), some (.int a), some (.int (nI i))] [] (cR q ρ ct) := by
    intro kf
    induction kf with
    | zero =>
      intro i a hki hF
      refine z_iload_n hC dX1_wrongStampCount_4 rfl ?_
      refine z_aload_n hC dX1_wrongStampCount_5 rfl ?_
      refine z_iconst (v := 0) hC dX1_wrongStampCount_6 (by decide) ?_
      refine z_callV [0, 1, 2, 3, 4, 5, 6, 7] 0 1 hC (c_X1_sizeOf l D ct q ρ 0) bw_251 bw_252 bw_253 bw_40 bw_254 1 (by decide +kernel) rfl rfl rfl rfl rfl ⟨Nat.le_of_ble_eq_true rfl, Nat.le_of_ble_eq_true rfl⟩ (Nat.le_of_ble_eq_true rfl) ⟨Nat.le_of_ble_eq_true rfl, Nat.le_of_ble_eq_true rfl⟩ rfl dX1_wrongStampCount_7 ?_
      refine zkq (G := fun v1 w1 => zG p l e _ s m args below meth c D _ _ _ _ _ _ _ (v1.toList ++ _) w1) rfl ?_
      refine z_icmp_ge hC 44 dX1_wrongStampCount_10 (by decide) (fun c10 => ?_) (fun c10 => absurd (lim_ge (by omega) (by have := lim_31 (mrSize ρ 0); omega)) c10)
      refine z_iload_n hC dX1_wrongStampCount_44 rfl ?_
      exact z_iretd hC hr dX1_wrongStampCount_45 (Nat.zero_le _) (Nat.zero_le _) (hF) (by first | rfl | (simp [mrWrong, c10, i_nlt.mpr c10, *]; done)) rfl
    | succ kf ih =>
      intro i a hki hF
      refine z_iload_n hC dX1_wrongStampCount_4 rfl ?_
      refine z_aload_n hC dX1_wrongStampCount_5 rfl ?_
      refine z_iconst (v := 0) hC dX1_wrongStampCount_6 (by decide) ?_
      refine z_callV [0, 1, 2, 3, 4, 5, 6, 7] 0 1 hC (c_X1_sizeOf l D ct q ρ 0) bw_251 bw_252 bw_253 bw_40 bw_254 1 (by decide +kernel) rfl rfl rfl rfl rfl ⟨Nat.le_of_ble_eq_true rfl, Nat.le_of_ble_eq_true rfl⟩ (Nat.le_of_ble_eq_true rfl) ⟨Nat.le_of_ble_eq_true rfl, Nat.le_of_ble_eq_true rfl⟩ rfl dX1_wrongStampCount_7 ?_
      refine zkq (G := fun v1 w1 => zG p l e _ s m args below meth c D _ _ _ _ _ _ _ (v1.toList ++ _) w1) rfl ?_
      refine z_icmp_ge hC 44 dX1_wrongStampCount_10 (by decide) (fun c10 => absurd c10 (lim_lt (by omega))) (fun c10 => ?_)
      refine z_iload_n hC dX1_wrongStampCount_13 rfl ?_
      refine z_aload_n hC dX1_wrongStampCount_14 rfl ?_
      refine z_iconst (v := 0) hC dX1_wrongStampCount_15 (by decide) ?_
      refine z_iload_n hC dX1_wrongStampCount_16 rfl ?_
      refine z_iconst (v := 4) hC dX1_wrongStampCount_17 (by decide) ?_
      refine z_callV [0, 1, 2, 3, 4, 5, 6, 7] 0 1 hC (c_X1_partOf l D ct q ρ 0 (nI i) 4) bw_721 bw_657 bw_658 bw_40 bw_659 3 (by decide +kernel) rfl rfl rfl rfl rfl ⟨Nat.le_of_ble_eq_true rfl, Nat.le_of_ble_eq_true rfl⟩ (Nat.le_of_ble_eq_true rfl) ⟨Nat.le_of_ble_eq_true rfl, Nat.le_of_ble_eq_true rfl⟩ rfl dX1_wrongStampCount_18 ?_
      refine zkq (G := fun v1 w1 => zG p l e _ s m args below meth c D _ _ _ _ _ _ _ (v1.toList ++ _) w1) rfl ?_
      refine z_aload_n hC dX1_wrongStampCount_21 rfl ?_
      refine z_iconst (v := 0) hC dX1_wrongStampCount_22 (by decide) ?_
      refine z_iload_n hC dX1_wrongStampCount_23 rfl ?_
      refine z_iconst (v := 3) hC dX1_wrongStampCount_24 (by decide) ?_
      refine z_callV [0, 1, 2, 3, 4, 5, 6, 7] 0 1 hC (c_X1_partOf l D ct q ρ 0 (nI i) 3) bw_721 bw_657 bw_658 bw_40 bw_659 3 (by decide +kernel) rfl rfl rfl rfl rfl ⟨Nat.le_of_ble_eq_true rfl, Nat.le_of_ble_eq_true rfl⟩ (Nat.le_of_ble_eq_true rfl) ⟨Nat.le_of_ble_eq_true rfl, Nat.le_of_ble_eq_true rfl⟩ rfl dX1_wrongStampCount_25 ?_
      refine zkq (G := fun v1 w1 => zG p l e _ s m args below meth c D _ _ _ _ _ _ _ (v1.toList ++ _) w1) rfl ?_
      refine z_icmp_ne hC 35 dX1_wrongStampCount_28 (by decide) (fun c28 => ?_) (fun c28 => ?_)
      · refine z_iconst (v := 1) hC dX1_wrongStampCount_35 (by decide) ?_
        refine z_iadd hC dX1_wrongStampCount_36 ?_
        refine z_istore_n hC dX1_wrongStampCount_37 (by decide) rfl ?_
        refine z_iinc (cn := 1) hC dX1_wrongStampCount_38 (by decide) (by decide) rfl rfl ?_
        refine z_goto hC 4 dX1_wrongStampCount_41 (by decide) ?_
        rw [nI_1]
        exact ih (i + 1) (a + 1) (by omega) (by rw [← hF]; simp [kfor, c10, c28, i_nle.mp c10])
      · refine z_iconst (v := 0) hC dX1_wrongStampCount_31 (by decide) ?_
        refine z_goto hC 36 dX1_wrongStampCount_32 (by decide) ?_
        refine z_iadd hC dX1_wrongStampCount_36 ?_
        refine z_istore_n hC dX1_wrongStampCount_37 (by decide) rfl ?_
        refine z_iinc (cn := 1) hC dX1_wrongStampCount_38 (by decide) (by decide) rfl rfl ?_
        refine z_goto hC 4 dX1_wrongStampCount_41 (by decide) ?_
        rw [nI_1]
        exact ih (i + 1) (a + 0) (by omega) (by rw [← hF]; simp [kfor, c10, c28, i_nle.mp c10])
  exact loop4 _ 0 0 (Nat.add_zero _) rfl

set_option maxRecDepth 100000 in
set_option maxHeartbeats 4000000 in
theorem c_X1_put (l : Launch) (D : va_G) (ct : Nat → ClassId) (q : Nat → Nat) (ρ : Nat → Nat → Int32) (n id sp : Int32) (h0 : ¬ mrSize ρ n < 0) : zT l D ct yX1_put cX1_put 5 none 2 47 0 0 [.ref (q 0), .int n, .int id, .int sp] (cR q ρ ct) (zd none (cR q (mrPut ρ n id sp) ct)) := by
  refine zT_of ([some (.ref (q 0)), some (.int n), some (.int id), some (.int sp), none]) (by decide +kernel) rfl (Nat.le_of_ble_eq_true rfl) ?_
  intro p e s m args below meth c hC hr hnm
  refine z_aload_n hC dX1_put_0 rfl ?_
  refine z_iload_n hC dX1_put_1 rfl ?_
  refine z_callV [0, 1, 2, 3, 4, 5, 6, 7] 0 1 hC (c_X1_sizeOf l D ct q ρ n) bw_251 bw_252 bw_253 bw_40 bw_254 1 (by decide +kernel) rfl rfl rfl rfl rfl ⟨Nat.le_of_ble_eq_true rfl, Nat.le_of_ble_eq_true rfl⟩ (Nat.le_of_ble_eq_true rfl) ⟨Nat.le_of_ble_eq_true rfl, Nat.le_of_ble_eq_true rfl⟩ rfl dX1_put_2 ?_
  refine zkq (G := fun v1 w1 => zG p l e _ s m args below meth c D _ _ _ _ _ _ _ (v1.toList ++ _) w1) rfl ?_
  refine z_istore hC dX1_put_5 (by decide) rfl ?_
  refine z_iload_n hC dX1_put_7 rfl ?_
  refine z_callSN [] hC (c_X4_isNode l D ct n) nw_44 bw_91 bw_2 bw_92 1 (by decide +kernel) rfl rfl rfl ⟨Nat.le_of_ble_eq_true rfl, Nat.le_of_ble_eq_true rfl⟩ (Nat.le_of_ble_eq_true rfl) ⟨Nat.le_of_ble_eq_true rfl, Nat.le_of_ble_eq_true rfl⟩ rfl dX1_put_8 ?_
  refine zkq (G := fun v1 w1 => zG p l e _ s m args below meth c D _ _ _ _ _ _ _ (v1.toList ++ _) w1) rfl ?_
  refine z_if_eq hC 57 dX1_put_11 (by decide) (fun c11 => ?_) (fun c11 => ?_)
  · rw [bI_0] at c11
    exact z_vretd hC hr dX1_put_57 (Nat.zero_le _) (Nat.zero_le _) (by first | rfl | (simp [mrPut, mrAt, c11, *]; done)) rfl
  · rw [bI_1] at c11
    refine z_iload hC dX1_put_14 rfl ?_
    refine z_bipush (v := 60) hC dX1_put_16 (by decide) ?_
    refine z_icmp_ge hC 57 dX1_put_18 (by decide) (fun c18 => ?_) (fun c18 => ?_)
    · exact z_vretd hC hr dX1_put_57 (Nat.zero_le _) (Nat.zero_le _) (by first | rfl | (simp [mrPut, mrAt, c11, c18, i_nlt.mpr c18, *]; done)) rfl
    · refine z_aload_n hC dX1_put_21 rfl ?_
      refine z_get 0 6 hC bl_X1 (ci := 1) rfl (by decide) rfl bw_51 rfl rfl dX1_put_22 ?_
      refine z_iload_n hC dX1_put_25 rfl ?_
      refine z_bipush (v := 60) hC dX1_put_26 (by decide) ?_
      refine z_imul hC dX1_put_28 ?_
      refine z_iload hC dX1_put_29 rfl ?_
      refine z_iadd hC dX1_put_31 ?_
      refine z_iload_n hC dX1_put_32 rfl ?_
      refine z_iast 6 0 hC rfl rfl (vrow (node_of c11) h0 (i_nle.mp c18)) dX1_put_33 (w2 := cR q (u2 ρ 6 ((((n * 60) + (mrSize ρ n))).toNatClampNeg) id) ct) cR_a6 ?_
      obtain ⟨ρ1, eρ1⟩ : ∃ z, z = u2 ρ 6 ((((n * 60) + (mrSize ρ n))).toNatClampNeg) id := ⟨_, rfl⟩
      rw [← eρ1]
      refine z_aload_n hC dX1_put_34 rfl ?_
      refine z_get 0 7 hC bl_X1 (ci := 1) rfl (by decide) rfl bw_52 rfl rfl dX1_put_35 ?_
      refine z_iload_n hC dX1_put_38 rfl ?_
      refine z_bipush (v := 60) hC dX1_put_39 (by decide) ?_
      refine z_imul hC dX1_put_41 ?_
      refine z_iload hC dX1_put_42 rfl ?_
      refine z_iadd hC dX1_put_44 ?_
      refine z_iload_n hC dX1_put_45 rfl ?_
      refine z_iast 7 0 hC rfl rfl (vrow (node_of c11) h0 (i_nle.mp c18)) dX1_put_46 (w2 := cR q (u2 ρ1 7 ((((n * 60) + (mrSize ρ n))).toNatClampNeg) sp) ct) cR_a7 ?_
      obtain ⟨ρ2, eρ2⟩ : ∃ z, z = u2 ρ1 7 ((((n * 60) + (mrSize ρ n))).toNatClampNeg) sp := ⟨_, rfl⟩
      rw [← eρ2]
      refine z_aload_n hC dX1_put_47 rfl ?_
      refine z_get 0 5 hC bl_X1 (ci := 1) rfl (by decide) rfl bw_50 rfl rfl dX1_put_48 ?_
      refine z_iload_n hC dX1_put_51 rfl ?_
      refine z_iload hC dX1_put_52 rfl ?_
      refine z_iconst (v := 1) hC dX1_put_54 (by decide) ?_
      refine z_iadd hC dX1_put_55 ?_
      refine z_iast 5 0 hC rfl rfl (vnode c11) dX1_put_56 (w2 := cR q (u2 ρ2 5 ((n).toNatClampNeg) ((mrSize ρ n) + 1)) ct) cR_a5 ?_
      obtain ⟨ρ3, eρ3⟩ : ∃ z, z = u2 ρ2 5 ((n).toNatClampNeg) ((mrSize ρ n) + 1) := ⟨_, rfl⟩
      rw [← eρ3]
      exact z_vretd hC hr dX1_put_57 (Nat.zero_le _) (Nat.zero_le _) (by subst eρ3; subst eρ2; subst eρ1; refine congrArg (fun z => cR q z ct) ?_; first | (simp only [mrPut, mrAt, c11, c18, i_nle.mp c18, and_self, if_true, if_false]; done) | (simp [mrPut, mrAt, c11, c18, i_nle.mp c18]; done) | (simp [mrPut, mrAt, c11, c18, i_nle.mp c18, *]; done)) rfl

set_option maxRecDepth 100000 in
set_option maxHeartbeats 4000000 in
theorem c_X1_removeFirst (l : Launch) (D : va_G) (ct : Nat → ClassId) (q : Nat → Nat) (ρ : Nat → Nat → Int32) (n : Int32) : zT l D ct yX1_removeFirst cX1_removeFirst 5 none 2 47 0 0 [.ref (q 0), .int n] (cR q ρ ct) (zd none (cR q (mrRemove ρ n) ct)) := by
  refine zT_of ([some (.ref (q 0)), some (.int n), none, none, none]) (by decide +kernel) rfl (Nat.le_of_ble_eq_true rfl) ?_
  intro p e s m args below meth c hC hr hnm
  refine z_aload_n hC dX1_removeFirst_0 rfl ?_
  refine z_iload_n hC dX1_removeFirst_1 rfl ?_
  refine z_callV [0, 1, 2, 3, 4, 5, 6, 7] 0 1 hC (c_X1_sizeOf l D ct q ρ n) bw_251 bw_252 bw_253 bw_40 bw_254 1 (by decide +kernel) rfl rfl rfl rfl rfl ⟨Nat.le_of_ble_eq_true rfl, Nat.le_of_ble_eq_true rfl⟩ (Nat.le_of_ble_eq_true rfl) ⟨Nat.le_of_ble_eq_true rfl, Nat.le_of_ble_eq_true rfl⟩ rfl dX1_removeFirst_2 ?_
  refine zkq (G := fun v1 w1 => zG p l e _ s m args below meth c D _ _ _ _ _ _ _ (v1.toList ++ _) w1) rfl ?_
  refine z_istore_n hC dX1_removeFirst_5 (by decide) rfl ?_
  refine z_iload_n hC dX1_removeFirst_6 rfl ?_
  refine z_if_ne hC 11 dX1_removeFirst_7 (by decide) (fun c7 => ?_) (fun c7 => ?_)
  · refine z_iconst (v := 1) hC dX1_removeFirst_11 (by decide) ?_
    refine z_istore_n hC dX1_removeFirst_12 (by decide) rfl ?_
    have loop13 : ∀ (kf i : Nat) (ρx : Nat → Nat → Int32) (hki : kf = (mrSize ρ n).toNatClampNeg - i) (hi : 1 ≤ i) (h31 : i < 2 ^ 31) (hF : kfor (mrMove n) kf i ρx = kfor (mrMove n) ((mrSize ρ n).toNatClampNeg - 1) 1 ρ), zG p l e { frames := 2, cells := 0, slots := 0, locals := 47 } s m args below meth c D (va_A (cR q ρ ct) s.heap.size) 5 (MQ below (zQ D ct (cR q ρ ct) s.heap.size (zd none (cR q (mrRemove ρ n) ct))) args s 0 0 (va_A (cR q ρ ct) s.heap.size)) 0 0 13 [some (.ref (q 0)), some (.int n), some (.int (mrSize ρ n)), some (.int (nI i)), none] [] (cR q ρx ct) := by
      intro kf
      induction kf with
      | zero =>
        intro i ρx hki hi h31 hF
        refine z_iload_n hC dX1_removeFirst_13 rfl ?_
        refine z_iload_n hC dX1_removeFirst_14 rfl ?_
        refine z_icmp_ge hC 64 dX1_removeFirst_15 (by decide) (fun c15 => ?_) (fun c15 => absurd (lim_ge (by omega) h31) c15)
        refine z_aload_n hC dX1_removeFirst_64 rfl ?_
        refine z_get 0 5 hC bl_X1 (ci := 1) rfl (by decide) rfl bw_50 rfl rfl dX1_removeFirst_65 ?_
        refine z_iload_n hC dX1_removeFirst_68 rfl ?_
        refine z_iload_n hC dX1_removeFirst_69 rfl ?_
        refine z_iconst (v := 1) hC dX1_removeFirst_70 (by decide) ?_
        refine z_isub hC dX1_removeFirst_71 ?_
        refine z_iast 5 0 hC rfl rfl (vnode (node_of2 (mrSize_n0 c7))) dX1_removeFirst_72 (w2 := cR q (u2 ρx 5 ((n).toNatClampNeg) ((mrSize ρ n) - 1)) ct) cR_a5 ?_
        obtain ⟨ρ1, eρ1⟩ : ∃ z, z = u2 ρx 5 ((n).toNatClampNeg) ((mrSize ρ n) - 1) := ⟨_, rfl⟩
        rw [← eρ1]
        exact z_vretd hC hr dX1_removeFirst_73 (Nat.zero_le _) (Nat.zero_le _) (by subst eρ1; rw [mrRemove, if_neg c7, ← hF]; rfl) rfl
      | succ kf ih =>
        intro i ρx hki hi h31 hF
        refine z_iload_n hC dX1_removeFirst_13 rfl ?_
        refine z_iload_n hC dX1_removeFirst_14 rfl ?_
        refine z_icmp_ge hC 64 dX1_removeFirst_15 (by decide) (fun c15 => absurd c15 (lim_lt (by omega))) (fun c15 => ?_)
        refine z_iload_n hC dX1_removeFirst_18 rfl ?_
        refine z_bipush (v := 60) hC dX1_removeFirst_19 (by decide) ?_
        refine z_imul hC dX1_removeFirst_21 ?_
        refine z_iload_n hC dX1_removeFirst_22 rfl ?_
        refine z_iadd hC dX1_removeFirst_23 ?_
        refine z_istore hC dX1_removeFirst_24 (by decide) rfl ?_
        refine z_aload_n hC dX1_removeFirst_26 rfl ?_
        refine z_get 0 6 hC bl_X1 (ci := 1) rfl (by decide) rfl bw_51 rfl rfl dX1_removeFirst_27 ?_
        refine z_iload hC dX1_removeFirst_30 rfl ?_
        refine z_iconst (v := 1) hC dX1_removeFirst_32 (by decide) ?_
        refine z_isub hC dX1_removeFirst_33 ?_
        refine z_aload_n hC dX1_removeFirst_34 rfl ?_
        refine z_get 0 6 hC bl_X1 (ci := 1) rfl (by decide) rfl bw_51 rfl rfl dX1_removeFirst_35 ?_
        refine z_iload hC dX1_removeFirst_38 rfl ?_
        refine z_iald 6 0 hC rfl rfl (vrowN (ρ := ρ) (by omega)) dX1_removeFirst_40 ?_
        refine z_iast 6 0 hC rfl rfl (vrowN1 (ρ := ρ) (by omega) hi) dX1_removeFirst_41 (w2 := cR q (u2 ρx 6 (((((n * 60) + (nI i)) - 1)).toNatClampNeg) (ρx 6 (((n * 60) + (nI i))).toNatClampNeg)) ct) cR_a6 ?_
        obtain ⟨ρ2, eρ2⟩ : ∃ z, z = u2 ρx 6 (((((n * 60) + (nI i)) - 1)).toNatClampNeg) (ρx 6 (((n * 60) + (nI i))).toNatClampNeg) := ⟨_, rfl⟩
        rw [← eρ2]
        refine z_aload_n hC dX1_removeFirst_42 rfl ?_
        refine z_get 0 7 hC bl_X1 (ci := 1) rfl (by decide) rfl bw_52 rfl rfl dX1_removeFirst_43 ?_
        refine z_iload hC dX1_removeFirst_46 rfl ?_
        refine z_iconst (v := 1) hC dX1_removeFirst_48 (by decide) ?_
        refine z_isub hC dX1_removeFirst_49 ?_
        refine z_aload_n hC dX1_removeFirst_50 rfl ?_
        refine z_get 0 7 hC bl_X1 (ci := 1) rfl (by decide) rfl bw_52 rfl rfl dX1_removeFirst_51 ?_
        refine z_iload hC dX1_removeFirst_54 rfl ?_
        refine z_iald 7 0 hC rfl rfl (vrowN (ρ := ρ) (by omega)) dX1_removeFirst_56 ?_
        refine z_iast 7 0 hC rfl rfl (vrowN1 (ρ := ρ) (by omega) hi) dX1_removeFirst_57 (w2 := cR q (u2 ρ2 7 (((((n * 60) + (nI i)) - 1)).toNatClampNeg) (ρ2 7 (((n * 60) + (nI i))).toNatClampNeg)) ct) cR_a7 ?_
        obtain ⟨ρ3, eρ3⟩ : ∃ z, z = u2 ρ2 7 (((((n * 60) + (nI i)) - 1)).toNatClampNeg) (ρ2 7 (((n * 60) + (nI i))).toNatClampNeg) := ⟨_, rfl⟩
        rw [← eρ3]
        refine z_iinc (cn := 1) hC dX1_removeFirst_58 (by decide) (by decide) rfl rfl ?_
        refine z_goto hC 13 dX1_removeFirst_61 (by decide) ?_
        rw [nI_1]
        exact z_wk (ls_s (ls_s (ls_s (ls_s (ls_n ls_0))))) (ih (i + 1) ρ3 (by omega) (by omega) (by have := lim_31 (mrSize ρ n); omega) (by rw [← hF, eρ3, eρ2]; rfl))
    exact loop13 _ 1 ρ rfl (Nat.le_refl _) (by decide) rfl
  · exact z_vretd hC hr dX1_removeFirst_10 (Nat.zero_le _) (Nat.zero_le _) (by simp [mrRemove, c7]) rfl

set_option maxRecDepth 100000 in
set_option maxHeartbeats 4000000 in
theorem c_X1_shiftStamps (l : Launch) (D : va_G) (ct : Nat → ClassId) (q : Nat → Nat) (ρ : Nat → Nat → Int32) (n a : Int32) : zT l D ct yX1_shiftStamps cX1_shiftStamps 4 none 2 47 0 0 [.ref (q 0), .int n, .int a] (cR q ρ ct) (zd none (cR q (mrShift ρ n a) ct)) := by
  refine zT_of ([some (.ref (q 0)), some (.int n), some (.int a), none]) (by decide +kernel) rfl (Nat.le_of_ble_eq_true rfl) ?_
  intro p e s m args below meth c hC hr hnm
  refine z_iconst (v := 0) hC dX1_shiftStamps_0 (by decide) ?_
  refine z_istore_n hC dX1_shiftStamps_1 (by decide) rfl ?_
  have loop2 : ∀ (kf i : Nat) (ρx : Nat → Nat → Int32) (hki : kf + i = (mrSize ρ n).toNatClampNeg) (hsz : mrSize ρx n = mrSize ρ n) (hF : kfor (mrShift1 n a) kf i ρx = mrShift ρ n a), zG p l e { frames := 2, cells := 0, slots := 0, locals := 47 } s m args below meth c D (va_A (cR q ρ ct) s.heap.size) 4 (MQ below (zQ D ct (cR q ρ ct) s.heap.size (zd none (cR q (mrShift ρ n a) ct))) args s 0 0 (va_A (cR q ρ ct) s.heap.size)) 0 0 2 [some (.ref (q 0)), some (.int n), some (.int a), some (.int (nI i))] [] (cR q ρx ct) := by
    intro kf
    induction kf with
    | zero =>
      intro i ρx hki hsz hF
      refine z_iload_n hC dX1_shiftStamps_2 rfl ?_
      refine z_aload_n hC dX1_shiftStamps_3 rfl ?_
      refine z_iload_n hC dX1_shiftStamps_4 rfl ?_
      refine z_callV [0, 1, 2, 3, 4, 5, 6, 7] 0 1 hC (c_X1_sizeOf l D ct q ρx n) bw_251 bw_252 bw_253 bw_40 bw_254 1 (by decide +kernel) rfl rfl rfl rfl rfl ⟨Nat.le_of_ble_eq_true rfl, Nat.le_of_ble_eq_true rfl⟩ (Nat.le_of_ble_eq_true rfl) ⟨Nat.le_of_ble_eq_true rfl, Nat.le_of_ble_eq_true rfl⟩ rfl dX1_shiftStamps_5 ?_
      refine zkq (G := fun v1 w1 => zG p l e _ s m args below meth c D _ _ _ _ _ _ _ (v1.toList ++ _) w1) rfl ?_
      refine z_icmp_ge hC 32 dX1_shiftStamps_8 (by decide) (fun c8 => ?_) (fun c8 => absurd (by rw [hsz]; exact lim_ge (by omega) (by have := lim_31 (mrSize ρ n); omega)) c8)
      exact z_vretd hC hr dX1_shiftStamps_32 (Nat.zero_le _) (Nat.zero_le _) (by rw [← hF]; rfl) rfl
    | succ kf ih =>
      intro i ρx hki hsz hF
      refine z_iload_n hC dX1_shiftStamps_2 rfl ?_
      refine z_aload_n hC dX1_shiftStamps_3 rfl ?_
      refine z_iload_n hC dX1_shiftStamps_4 rfl ?_
      refine z_callV [0, 1, 2, 3, 4, 5, 6, 7] 0 1 hC (c_X1_sizeOf l D ct q ρx n) bw_251 bw_252 bw_253 bw_40 bw_254 1 (by decide +kernel) rfl rfl rfl rfl rfl ⟨Nat.le_of_ble_eq_true rfl, Nat.le_of_ble_eq_true rfl⟩ (Nat.le_of_ble_eq_true rfl) ⟨Nat.le_of_ble_eq_true rfl, Nat.le_of_ble_eq_true rfl⟩ rfl dX1_shiftStamps_5 ?_
      refine zkq (G := fun v1 w1 => zG p l e _ s m args below meth c D _ _ _ _ _ _ _ (v1.toList ++ _) w1) rfl ?_
      refine z_icmp_ge hC 32 dX1_shiftStamps_8 (by decide) (fun c8 => absurd c8 (by rw [hsz]; exact lim_lt (by omega))) (fun c8 => ?_)
      refine z_aload_n hC dX1_shiftStamps_11 rfl ?_
      refine z_get 0 7 hC bl_X1 (ci := 1) rfl (by decide) rfl bw_52 rfl rfl dX1_shiftStamps_12 ?_
      refine z_iload_n hC dX1_shiftStamps_15 rfl ?_
      refine z_bipush (v := 60) hC dX1_shiftStamps_16 (by decide) ?_
      refine z_imul hC dX1_shiftStamps_18 ?_
      refine z_iload_n hC dX1_shiftStamps_19 rfl ?_
      refine z_iadd hC dX1_shiftStamps_20 ?_
      refine z_dup2 hC dX1_shiftStamps_21 rfl rfl ?_
      refine z_iald 7 0 hC rfl rfl (vrowN (ρ := ρ) (by omega)) dX1_shiftStamps_22 ?_
      refine z_iload_n hC dX1_shiftStamps_23 rfl ?_
      refine z_iadd hC dX1_shiftStamps_24 ?_
      refine z_iast 7 0 hC rfl rfl (vrowN (ρ := ρ) (by omega)) dX1_shiftStamps_25 (w2 := cR q (u2 ρx 7 ((((n * 60) + (nI i))).toNatClampNeg) ((ρx 7 (((n * 60) + (nI i))).toNatClampNeg) + a)) ct) cR_a7 ?_
      obtain ⟨ρ1, eρ1⟩ : ∃ z, z = u2 ρx 7 ((((n * 60) + (nI i))).toNatClampNeg) ((ρx 7 (((n * 60) + (nI i))).toNatClampNeg) + a) := ⟨_, rfl⟩
      rw [← eρ1]
      refine z_iinc (cn := 1) hC dX1_shiftStamps_26 (by decide) (by decide) rfl rfl ?_
      refine z_goto hC 2 dX1_shiftStamps_29 (by decide) ?_
      rw [nI_1]
      exact ih (i + 1) ρ1 (by omega) (by rw [eρ1, mrSize_u2 (by decide), hsz]) (by rw [← hF, eρ1]; rfl)
  exact loop2 _ 0 ρ (Nat.add_zero _) rfl rfl

set_option maxRecDepth 100000 in
set_option maxHeartbeats 4000000 in
theorem c_X1_takeAt (l : Launch) (D : va_G) (ct : Nat → ClassId) (q : Nat → Nat) (ρ : Nat → Nat → Int32) (n v tm sp : Int32) (h0 : ¬ mrSize ρ n < 0) : zT l D ct yX1_takeAt cX1_takeAt 7 (some .int) 3 71 0 0 [.ref (q 0), .int n, .int v, .int tm, .int sp] (cR q ρ ct) (zd (some (.int (mrTakeR ρ n))) (cR q (mrTake ρ n v tm sp) ct)) := by
  refine zT_of ([some (.ref (q 0)), some (.int n), some (.int v), some (.int tm), some (.int sp), none, none]) (by decide +kernel) rfl (Nat.le_of_ble_eq_true rfl) ?_
  intro p e s m args below meth c hC hr hnm
  refine z_aload_n hC dX1_takeAt_0 rfl ?_
  refine z_get 0 4 hC bl_X1 (ci := 1) rfl (by decide) rfl bw_126 rfl rfl dX1_takeAt_1 ?_
  refine z_istore hC dX1_takeAt_4 (by decide) rfl ?_
  refine z_iload hC dX1_takeAt_6 rfl ?_
  refine z_if_lt hC 18 dX1_takeAt_8 (by decide) (fun c8 => ?_) (fun c8 => ?_)
  · refine z_iconst (v := (-1)) hC dX1_takeAt_18 (by decide) ?_
    exact z_iretd hC hr dX1_takeAt_19 (Nat.zero_le _) (Nat.zero_le _) (by clear hC hr hnm; first | rfl | (simp [mrTake, mrTakeR, u2_ne, c8, i_nle.mpr c8, *]; done) | (simp_all [mrTake, mrTakeR, u2_ne, c8, i_nle.mpr c8]; done)) (by first | rfl | (simp [mrTake, mrTakeR, u2_ne, c8, i_nle.mpr c8, *]; done)) rfl
  · refine z_iload hC dX1_takeAt_11 rfl ?_
    refine z_bipush (v := 60) hC dX1_takeAt_13 (by decide) ?_
    refine z_icmp_lt hC 20 dX1_takeAt_15 (by decide) (fun c15 => ?_) (fun c15 => ?_)
    · refine z_aload_n hC dX1_takeAt_20 rfl ?_
      refine z_iload_n hC dX1_takeAt_21 rfl ?_
      refine z_callV [0, 1, 2, 3, 4, 5, 6, 7] 0 1 hC (c_X1_takenAt l D ct q ρ n) bw_262 bw_263 bw_264 bw_40 bw_265 1 (by decide +kernel) rfl rfl rfl rfl rfl ⟨Nat.le_of_ble_eq_true rfl, Nat.le_of_ble_eq_true rfl⟩ (Nat.le_of_ble_eq_true rfl) ⟨Nat.le_of_ble_eq_true rfl, Nat.le_of_ble_eq_true rfl⟩ rfl dX1_takeAt_22 ?_
      refine zkq (G := fun v1 w1 => zG p l e _ s m args below meth c D _ _ _ _ _ _ _ (v1.toList ++ _) w1) rfl ?_
      refine z_istore hC dX1_takeAt_25 (by decide) rfl ?_
      refine z_aload_n hC dX1_takeAt_27 rfl ?_
      refine z_get 0 0 hC bl_X1 (ci := 1) rfl (by decide) rfl bw_46 rfl rfl dX1_takeAt_28 ?_
      refine z_iload hC dX1_takeAt_31 rfl ?_
      refine z_iload_n hC dX1_takeAt_33 rfl ?_
      refine z_iast 1 0 hC rfl rfl (vin60 c8 c15) dX1_takeAt_34 (w2 := cR q (u2 ρ 1 (((ρ 0 0)).toNatClampNeg) n) ct) cR_a1 ?_
      obtain ⟨ρ1, eρ1⟩ : ∃ z, z = u2 ρ 1 (((ρ 0 0)).toNatClampNeg) n := ⟨_, rfl⟩
      rw [← eρ1]
      refine z_aload_n hC dX1_takeAt_35 rfl ?_
      refine z_get 0 1 hC bl_X1 (ci := 1) rfl (by decide) rfl bw_47 rfl rfl dX1_takeAt_36 ?_
      refine z_iload hC dX1_takeAt_39 rfl ?_
      refine z_iload hC dX1_takeAt_41 rfl ?_
      refine z_iast 2 0 hC rfl rfl (vin60 c8 c15) dX1_takeAt_43 (w2 := cR q (u2 ρ1 2 (((ρ 0 0)).toNatClampNeg) (mrTakenAt ρ n)) ct) cR_a2 ?_
      obtain ⟨ρ2, eρ2⟩ : ∃ z, z = u2 ρ1 2 (((ρ 0 0)).toNatClampNeg) (mrTakenAt ρ n) := ⟨_, rfl⟩
      rw [← eρ2]
      refine z_aload_n hC dX1_takeAt_44 rfl ?_
      refine z_get 0 2 hC bl_X1 (ci := 1) rfl (by decide) rfl bw_48 rfl rfl dX1_takeAt_45 ?_
      refine z_iload hC dX1_takeAt_48 rfl ?_
      refine z_iload_n hC dX1_takeAt_50 rfl ?_
      refine z_iast 3 0 hC rfl rfl (vin60 c8 c15) dX1_takeAt_51 (w2 := cR q (u2 ρ2 3 (((ρ 0 0)).toNatClampNeg) v) ct) cR_a3 ?_
      obtain ⟨ρ3, eρ3⟩ : ∃ z, z = u2 ρ2 3 (((ρ 0 0)).toNatClampNeg) v := ⟨_, rfl⟩
      rw [← eρ3]
      refine z_aload_n hC dX1_takeAt_52 rfl ?_
      refine z_get 0 3 hC bl_X1 (ci := 1) rfl (by decide) rfl bw_49 rfl rfl dX1_takeAt_53 ?_
      refine z_iload hC dX1_takeAt_56 rfl ?_
      refine z_iload_n hC dX1_takeAt_58 rfl ?_
      refine z_iast 4 0 hC rfl rfl (vin60 c8 c15) dX1_takeAt_59 (w2 := cR q (u2 ρ3 4 (((ρ 0 0)).toNatClampNeg) tm) ct) cR_a4 ?_
      obtain ⟨ρ4, eρ4⟩ : ∃ z, z = u2 ρ3 4 (((ρ 0 0)).toNatClampNeg) tm := ⟨_, rfl⟩
      rw [← eρ4]
      refine z_aload_n hC dX1_takeAt_60 rfl ?_
      refine z_dup hC dX1_takeAt_61 rfl ?_
      refine z_get 0 4 hC bl_X1 (ci := 1) rfl (by decide) rfl bw_126 rfl rfl dX1_takeAt_62 ?_
      refine z_iconst (v := 1) hC dX1_takeAt_65 (by decide) ?_
      refine z_iadd hC dX1_takeAt_66 ?_
      refine z_put (ci := 1) 0 4 hC bl_X1 tyX1_ok nmX1 rfl (by decide) rfl bw_126 rfl rfl rfl rfl (Nat.lt_of_lt_of_le (by decide) (Nat.le_refl 8)) dX1_takeAt_67 (w2 := cR q (u2 ρ4 0 0 ((ρ4 0 0) + 1)) ct) cR_f0 ?_
      obtain ⟨ρ5, eρ5⟩ : ∃ z, z = u2 ρ4 0 0 ((ρ4 0 0) + 1) := ⟨_, rfl⟩
      rw [← eρ5]
      refine z_aload_n hC dX1_takeAt_70 rfl ?_
      refine z_iload_n hC dX1_takeAt_71 rfl ?_
      refine z_iload hC dX1_takeAt_72 rfl ?_
      refine z_iload hC dX1_takeAt_74 rfl ?_
      refine z_callV [0, 1, 2, 3, 4, 5, 6, 7] 0 1 hC (c_X1_put l D ct q ρ5 n (ρ 0 0) sp (by simpa [eρ1, eρ2, eρ3, eρ4, eρ5, mrSize_u2] using h0)) bw_266 bw_267 bw_268 bw_40 bw_269 3 (by decide +kernel) rfl rfl rfl rfl rfl ⟨Nat.le_of_ble_eq_true rfl, Nat.le_of_ble_eq_true rfl⟩ (Nat.le_of_ble_eq_true rfl) ⟨Nat.le_of_ble_eq_true rfl, Nat.le_of_ble_eq_true rfl⟩ rfl dX1_takeAt_76 ?_
      refine zkd (G := fun v1 w1 => zG p l e _ s m args below meth c D _ _ _ _ _ _ _ (v1.toList ++ _) w1) (w2 := cR q (mrPut ρ5 n (ρ 0 0) sp) ct) rfl ?_
      obtain ⟨ρ6, eρ6⟩ : ∃ z, z = (mrPut ρ5 n (ρ 0 0) sp) := ⟨_, rfl⟩
      rw [← eρ6]
      refine z_iload hC dX1_takeAt_79 rfl ?_
      exact z_iretd hC hr dX1_takeAt_81 (Nat.zero_le _) (Nat.zero_le _) (by clear hC hr hnm; first | rfl | (simp [mrTake, mrTakeR, u2_ne, c8, c15, i_nlt.mp c8, i_nle.mpr c15, *]; done) | (simp_all [mrTake, mrTakeR, u2_ne, c8, c15, i_nlt.mp c8, i_nle.mpr c15]; done)) (by subst eρ6; subst eρ5; subst eρ4; subst eρ3; subst eρ2; subst eρ1; refine congrArg (fun z => cR q z ct) ?_; first | (simp only [mrTake, mrTakeR, u2_ne, c8, c15, i_nlt.mp c8, i_nle.mpr c15, and_self, if_true, if_false]; done) | (simp [mrTake, mrTakeR, u2_ne, c8, c15, i_nlt.mp c8, i_nle.mpr c15]; done) | (simp [mrTake, mrTakeR, u2_ne, c8, c15, i_nlt.mp c8, i_nle.mpr c15, *]; done)) rfl
    · refine z_iconst (v := (-1)) hC dX1_takeAt_18 (by decide) ?_
      exact z_iretd hC hr dX1_takeAt_19 (Nat.zero_le _) (Nat.zero_le _) (by clear hC hr hnm; first | rfl | (simp [mrTake, mrTakeR, u2_ne, c8, c15, i_nlt.mp c8, i_nlt.mp c15, *]; done) | (simp_all [mrTake, mrTakeR, u2_ne, c8, c15, i_nlt.mp c8, i_nlt.mp c15]; done)) (by first | rfl | (simp [mrTake, mrTakeR, u2_ne, c8, c15, i_nlt.mp c8, i_nlt.mp c15, *]; done)) rfl
end
