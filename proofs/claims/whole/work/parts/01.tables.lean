-- ===== PART A: goes FIRST, ahead of the names: the tables' words, and 'selects' of the private methods out of them =====
/-- a private method of a class that the tables say can be made, by its rows of tables_1 -/
def lw_okq (q : MethodName × Nat) : Prop := (q.1.cls ≠ "java/lang/invoke/MethodHandle" ∧ q.1.cls ≠ "java/lang/invoke/VarHandle") ∧ Cond.instantiable q.1.cls q.2 ∈ tables_1 ∧ Cond.privateMethod q.1 ∈ tables_1 ∧ Cond.instanceMethod q.1 ∈ tables_1
theorem lw_p0 : lw_okq (⟨"AbsenceTree$Tree", "clear", "(I)V"⟩, 3) := ⟨⟨by decide +kernel, by decide +kernel⟩, List.mem_of_getElem? (i := 121) (by decide +kernel), List.mem_of_getElem? (i := 156) (by decide +kernel), List.mem_of_getElem? (i := 157) (by decide +kernel)⟩
theorem lw_p1 : lw_okq (⟨"AbsenceTree$KeySet", "clear", "(I)V"⟩, 2) := ⟨⟨by decide +kernel, by decide +kernel⟩, List.mem_of_getElem? (i := 127) (by decide +kernel), List.mem_of_getElem? (i := 160) (by decide +kernel), List.mem_of_getElem? (i := 161) (by decide +kernel)⟩
theorem lw_p2 : lw_okq (⟨"AbsenceTree$KeySet", "keys", "()I"⟩, 2) := ⟨⟨by decide +kernel, by decide +kernel⟩, List.mem_of_getElem? (i := 127) (by decide +kernel), List.mem_of_getElem? (i := 168) (by decide +kernel), List.mem_of_getElem? (i := 169) (by decide +kernel)⟩
theorem lw_p3 : lw_okq (⟨"AbsenceTree$Tree", "join", "(I)V"⟩, 3) := ⟨⟨by decide +kernel, by decide +kernel⟩, List.mem_of_getElem? (i := 121) (by decide +kernel), List.mem_of_getElem? (i := 172) (by decide +kernel), List.mem_of_getElem? (i := 173) (by decide +kernel)⟩
theorem lw_p4 : lw_okq (⟨"AbsenceTree$Tree", "markAt", "(I)I"⟩, 3) := ⟨⟨by decide +kernel, by decide +kernel⟩, List.mem_of_getElem? (i := 121) (by decide +kernel), List.mem_of_getElem? (i := 176) (by decide +kernel), List.mem_of_getElem? (i := 177) (by decide +kernel)⟩
theorem lw_p5 : lw_okq (⟨"AbsenceTree$History", "begin", "(LAbsenceTree$Tree;)V"⟩, 4) := ⟨⟨by decide +kernel, by decide +kernel⟩, List.mem_of_getElem? (i := 96) (by decide +kernel), List.mem_of_getElem? (i := 184) (by decide +kernel), List.mem_of_getElem? (i := 185) (by decide +kernel)⟩
theorem lw_p6 : lw_okq (⟨"AbsenceTree$History", "hold", "(I)LAbsenceTree$Tree;"⟩, 4) := ⟨⟨by decide +kernel, by decide +kernel⟩, List.mem_of_getElem? (i := 96) (by decide +kernel), List.mem_of_getElem? (i := 188) (by decide +kernel), List.mem_of_getElem? (i := 189) (by decide +kernel)⟩
theorem lw_p7 : lw_okq (⟨"AbsenceTree$Tree", "take", "(LAbsenceTree$Tree;)V"⟩, 3) := ⟨⟨by decide +kernel, by decide +kernel⟩, List.mem_of_getElem? (i := 121) (by decide +kernel), List.mem_of_getElem? (i := 196) (by decide +kernel), List.mem_of_getElem? (i := 197) (by decide +kernel)⟩
theorem lw_p8 : lw_okq (⟨"AbsenceTree$KeySet", "take", "(LAbsenceTree$KeySet;)V"⟩, 2) := ⟨⟨by decide +kernel, by decide +kernel⟩, List.mem_of_getElem? (i := 127) (by decide +kernel), List.mem_of_getElem? (i := 200) (by decide +kernel), List.mem_of_getElem? (i := 201) (by decide +kernel)⟩
theorem lw_p9 : lw_okq (⟨"AbsenceTree$Text", "append", "(C)V"⟩, 4) := ⟨⟨by decide +kernel, by decide +kernel⟩, List.mem_of_getElem? (i := 25) (by decide +kernel), List.mem_of_getElem? (i := 237) (by decide +kernel), List.mem_of_getElem? (i := 238) (by decide +kernel)⟩
theorem lw_p10 : lw_okq (⟨"AbsenceTree", "readMap", "()I"⟩, 8) := ⟨⟨by decide +kernel, by decide +kernel⟩, List.mem_of_getElem? (i := 17) (by decide +kernel), List.mem_of_getElem? (i := 249) (by decide +kernel), List.mem_of_getElem? (i := 250) (by decide +kernel)⟩
theorem lw_p11 : lw_okq (⟨"AbsenceTree$Text", "rewind", "()V"⟩, 4) := ⟨⟨by decide +kernel, by decide +kernel⟩, List.mem_of_getElem? (i := 25) (by decide +kernel), List.mem_of_getElem? (i := 253) (by decide +kernel), List.mem_of_getElem? (i := 254) (by decide +kernel)⟩
theorem lw_p12 : lw_okq (⟨"AbsenceTree$Text", "digit", "()I"⟩, 4) := ⟨⟨by decide +kernel, by decide +kernel⟩, List.mem_of_getElem? (i := 25) (by decide +kernel), List.mem_of_getElem? (i := 257) (by decide +kernel), List.mem_of_getElem? (i := 258) (by decide +kernel)⟩
theorem lw_p13 : lw_okq (⟨"AbsenceTree$Text", "peek", "()I"⟩, 4) := ⟨⟨by decide +kernel, by decide +kernel⟩, List.mem_of_getElem? (i := 25) (by decide +kernel), List.mem_of_getElem? (i := 261) (by decide +kernel), List.mem_of_getElem? (i := 262) (by decide +kernel)⟩
theorem lw_p14 : lw_okq (⟨"AbsenceTree$Text", "fail", "(I)V"⟩, 4) := ⟨⟨by decide +kernel, by decide +kernel⟩, List.mem_of_getElem? (i := 25) (by decide +kernel), List.mem_of_getElem? (i := 265) (by decide +kernel), List.mem_of_getElem? (i := 266) (by decide +kernel)⟩
theorem lw_p15 : lw_okq (⟨"AbsenceTree$Text", "more", "()Z"⟩, 4) := ⟨⟨by decide +kernel, by decide +kernel⟩, List.mem_of_getElem? (i := 25) (by decide +kernel), List.mem_of_getElem? (i := 270) (by decide +kernel), List.mem_of_getElem? (i := 271) (by decide +kernel)⟩
def lw_privs_1 : List (MethodName × Nat) := [(⟨"AbsenceTree$Tree", "clear", "(I)V"⟩, 3), (⟨"AbsenceTree$KeySet", "clear", "(I)V"⟩, 2), (⟨"AbsenceTree$KeySet", "keys", "()I"⟩, 2), (⟨"AbsenceTree$Tree", "join", "(I)V"⟩, 3), (⟨"AbsenceTree$Tree", "markAt", "(I)I"⟩, 3), (⟨"AbsenceTree$History", "begin", "(LAbsenceTree$Tree;)V"⟩, 4), (⟨"AbsenceTree$History", "hold", "(I)LAbsenceTree$Tree;"⟩, 4), (⟨"AbsenceTree$Tree", "take", "(LAbsenceTree$Tree;)V"⟩, 3), (⟨"AbsenceTree$KeySet", "take", "(LAbsenceTree$KeySet;)V"⟩, 2), (⟨"AbsenceTree$Text", "append", "(C)V"⟩, 4), (⟨"AbsenceTree", "readMap", "()I"⟩, 8), (⟨"AbsenceTree$Text", "rewind", "()V"⟩, 4), (⟨"AbsenceTree$Text", "digit", "()I"⟩, 4), (⟨"AbsenceTree$Text", "peek", "()I"⟩, 4), (⟨"AbsenceTree$Text", "fail", "(I)V"⟩, 4), (⟨"AbsenceTree$Text", "more", "()Z"⟩, 4)]
theorem lw_r1 : ∀ q ∈ lw_privs_1, lw_okq q := List.forall_mem_cons.mpr ⟨lw_p0, List.forall_mem_cons.mpr ⟨lw_p1, List.forall_mem_cons.mpr ⟨lw_p2, List.forall_mem_cons.mpr ⟨lw_p3, List.forall_mem_cons.mpr ⟨lw_p4, List.forall_mem_cons.mpr ⟨lw_p5, List.forall_mem_cons.mpr ⟨lw_p6, List.forall_mem_cons.mpr ⟨lw_p7, List.forall_mem_cons.mpr ⟨lw_p8, List.forall_mem_cons.mpr ⟨lw_p9, List.forall_mem_cons.mpr ⟨lw_p10, List.forall_mem_cons.mpr ⟨lw_p11, List.forall_mem_cons.mpr ⟨lw_p12, List.forall_mem_cons.mpr ⟨lw_p13, List.forall_mem_cons.mpr ⟨lw_p14, List.forall_mem_cons.mpr ⟨lw_p15, fun _ h => absurd h List.not_mem_nil⟩⟩⟩⟩⟩⟩⟩⟩⟩⟩⟩⟩⟩⟩⟩⟩
theorem lw_p16 : lw_okq (⟨"AbsenceTree$KeySet", "size", "()I"⟩, 2) := ⟨⟨by decide +kernel, by decide +kernel⟩, List.mem_of_getElem? (i := 127) (by decide +kernel), List.mem_of_getElem? (i := 274) (by decide +kernel), List.mem_of_getElem? (i := 275) (by decide +kernel)⟩
theorem lw_p17 : lw_okq (⟨"AbsenceTree$Text", "must", "(C)V"⟩, 4) := ⟨⟨by decide +kernel, by decide +kernel⟩, List.mem_of_getElem? (i := 25) (by decide +kernel), List.mem_of_getElem? (i := 278) (by decide +kernel), List.mem_of_getElem? (i := 279) (by decide +kernel)⟩
theorem lw_p18 : lw_okq (⟨"AbsenceTree$Text", "pass", "(C)Z"⟩, 4) := ⟨⟨by decide +kernel, by decide +kernel⟩, List.mem_of_getElem? (i := 25) (by decide +kernel), List.mem_of_getElem? (i := 282) (by decide +kernel), List.mem_of_getElem? (i := 283) (by decide +kernel)⟩
theorem lw_p19 : lw_okq (⟨"AbsenceTree", "readPair", "(Z)V"⟩, 8) := ⟨⟨by decide +kernel, by decide +kernel⟩, List.mem_of_getElem? (i := 17) (by decide +kernel), List.mem_of_getElem? (i := 287) (by decide +kernel), List.mem_of_getElem? (i := 288) (by decide +kernel)⟩
theorem lw_p20 : lw_okq (⟨"AbsenceTree", "readNewKey", "()I"⟩, 8) := ⟨⟨by decide +kernel, by decide +kernel⟩, List.mem_of_getElem? (i := 17) (by decide +kernel), List.mem_of_getElem? (i := 291) (by decide +kernel), List.mem_of_getElem? (i := 292) (by decide +kernel)⟩
theorem lw_p21 : lw_okq (⟨"AbsenceTree$Text", "digits", "(I)J"⟩, 4) := ⟨⟨by decide +kernel, by decide +kernel⟩, List.mem_of_getElem? (i := 25) (by decide +kernel), List.mem_of_getElem? (i := 295) (by decide +kernel), List.mem_of_getElem? (i := 296) (by decide +kernel)⟩
theorem lw_p22 : lw_okq (⟨"AbsenceTree$KeySet", "has", "(I)Z"⟩, 2) := ⟨⟨by decide +kernel, by decide +kernel⟩, List.mem_of_getElem? (i := 127) (by decide +kernel), List.mem_of_getElem? (i := 302) (by decide +kernel), List.mem_of_getElem? (i := 303) (by decide +kernel)⟩
theorem lw_p23 : lw_okq (⟨"AbsenceTree$KeySet", "under", "(I)I"⟩, 2) := ⟨⟨by decide +kernel, by decide +kernel⟩, List.mem_of_getElem? (i := 127) (by decide +kernel), List.mem_of_getElem? (i := 307) (by decide +kernel), List.mem_of_getElem? (i := 308) (by decide +kernel)⟩
theorem lw_p24 : lw_okq (⟨"AbsenceTree$KeySet", "change", "(II)V"⟩, 2) := ⟨⟨by decide +kernel, by decide +kernel⟩, List.mem_of_getElem? (i := 127) (by decide +kernel), List.mem_of_getElem? (i := 311) (by decide +kernel), List.mem_of_getElem? (i := 312) (by decide +kernel)⟩
theorem lw_p25 : lw_okq (⟨"AbsenceTree$Tree", "place", "(II)V"⟩, 3) := ⟨⟨by decide +kernel, by decide +kernel⟩, List.mem_of_getElem? (i := 121) (by decide +kernel), List.mem_of_getElem? (i := 315) (by decide +kernel), List.mem_of_getElem? (i := 316) (by decide +kernel)⟩
theorem lw_p26 : lw_okq (⟨"AbsenceTree$Tree", "valueOf", "(I)I"⟩, 3) := ⟨⟨by decide +kernel, by decide +kernel⟩, List.mem_of_getElem? (i := 121) (by decide +kernel), List.mem_of_getElem? (i := 319) (by decide +kernel), List.mem_of_getElem? (i := 320) (by decide +kernel)⟩
theorem lw_p27 : lw_okq (⟨"AbsenceTree", "readBatch", "()I"⟩, 8) := ⟨⟨by decide +kernel, by decide +kernel⟩, List.mem_of_getElem? (i := 17) (by decide +kernel), List.mem_of_getElem? (i := 332) (by decide +kernel), List.mem_of_getElem? (i := 333) (by decide +kernel)⟩
theorem lw_p28 : lw_okq (⟨"AbsenceTree$History", "newest", "()LAbsenceTree$Tree;"⟩, 4) := ⟨⟨by decide +kernel, by decide +kernel⟩, List.mem_of_getElem? (i := 96) (by decide +kernel), List.mem_of_getElem? (i := 336) (by decide +kernel), List.mem_of_getElem? (i := 337) (by decide +kernel)⟩
theorem lw_p29 : lw_okq (⟨"AbsenceTree", "settle", "(II)I"⟩, 8) := ⟨⟨by decide +kernel, by decide +kernel⟩, List.mem_of_getElem? (i := 17) (by decide +kernel), List.mem_of_getElem? (i := 341) (by decide +kernel), List.mem_of_getElem? (i := 342) (by decide +kernel)⟩
theorem lw_p30 : lw_okq (⟨"AbsenceTree$Tree", "isAlike", "(LAbsenceTree$Tree;I)Z"⟩, 3) := ⟨⟨by decide +kernel, by decide +kernel⟩, List.mem_of_getElem? (i := 121) (by decide +kernel), List.mem_of_getElem? (i := 346) (by decide +kernel), List.mem_of_getElem? (i := 347) (by decide +kernel)⟩
theorem lw_p31 : lw_okq (⟨"AbsenceTree$History", "advance", "()V"⟩, 4) := ⟨⟨by decide +kernel, by decide +kernel⟩, List.mem_of_getElem? (i := 96) (by decide +kernel), List.mem_of_getElem? (i := 353) (by decide +kernel), List.mem_of_getElem? (i := 354) (by decide +kernel)⟩
def lw_privs_2 : List (MethodName × Nat) := [(⟨"AbsenceTree$KeySet", "size", "()I"⟩, 2), (⟨"AbsenceTree$Text", "must", "(C)V"⟩, 4), (⟨"AbsenceTree$Text", "pass", "(C)Z"⟩, 4), (⟨"AbsenceTree", "readPair", "(Z)V"⟩, 8), (⟨"AbsenceTree", "readNewKey", "()I"⟩, 8), (⟨"AbsenceTree$Text", "digits", "(I)J"⟩, 4), (⟨"AbsenceTree$KeySet", "has", "(I)Z"⟩, 2), (⟨"AbsenceTree$KeySet", "under", "(I)I"⟩, 2), (⟨"AbsenceTree$KeySet", "change", "(II)V"⟩, 2), (⟨"AbsenceTree$Tree", "place", "(II)V"⟩, 3), (⟨"AbsenceTree$Tree", "valueOf", "(I)I"⟩, 3), (⟨"AbsenceTree", "readBatch", "()I"⟩, 8), (⟨"AbsenceTree$History", "newest", "()LAbsenceTree$Tree;"⟩, 4), (⟨"AbsenceTree", "settle", "(II)I"⟩, 8), (⟨"AbsenceTree$Tree", "isAlike", "(LAbsenceTree$Tree;I)Z"⟩, 3), (⟨"AbsenceTree$History", "advance", "()V"⟩, 4)]
theorem lw_r2 : ∀ q ∈ lw_privs_2, lw_okq q := List.forall_mem_cons.mpr ⟨lw_p16, List.forall_mem_cons.mpr ⟨lw_p17, List.forall_mem_cons.mpr ⟨lw_p18, List.forall_mem_cons.mpr ⟨lw_p19, List.forall_mem_cons.mpr ⟨lw_p20, List.forall_mem_cons.mpr ⟨lw_p21, List.forall_mem_cons.mpr ⟨lw_p22, List.forall_mem_cons.mpr ⟨lw_p23, List.forall_mem_cons.mpr ⟨lw_p24, List.forall_mem_cons.mpr ⟨lw_p25, List.forall_mem_cons.mpr ⟨lw_p26, List.forall_mem_cons.mpr ⟨lw_p27, List.forall_mem_cons.mpr ⟨lw_p28, List.forall_mem_cons.mpr ⟨lw_p29, List.forall_mem_cons.mpr ⟨lw_p30, List.forall_mem_cons.mpr ⟨lw_p31, fun _ h => absurd h List.not_mem_nil⟩⟩⟩⟩⟩⟩⟩⟩⟩⟩⟩⟩⟩⟩⟩⟩
theorem lw_p32 : lw_okq (⟨"AbsenceTree$Row", "empty", "()V"⟩, 2) := ⟨⟨by decide +kernel, by decide +kernel⟩, List.mem_of_getElem? (i := 48) (by decide +kernel), List.mem_of_getElem? (i := 360) (by decide +kernel), List.mem_of_getElem? (i := 361) (by decide +kernel)⟩
theorem lw_p33 : lw_okq (⟨"AbsenceTree$KeySet", "work", "()I"⟩, 2) := ⟨⟨by decide +kernel, by decide +kernel⟩, List.mem_of_getElem? (i := 127) (by decide +kernel), List.mem_of_getElem? (i := 364) (by decide +kernel), List.mem_of_getElem? (i := 365) (by decide +kernel)⟩
theorem lw_p34 : lw_okq (⟨"AbsenceTree$KeySet", "nodesIn", "(II)I"⟩, 2) := ⟨⟨by decide +kernel, by decide +kernel⟩, List.mem_of_getElem? (i := 127) (by decide +kernel), List.mem_of_getElem? (i := 368) (by decide +kernel), List.mem_of_getElem? (i := 369) (by decide +kernel)⟩
theorem lw_p35 : lw_okq (⟨"AbsenceTree$Row", "add", "(J)V"⟩, 2) := ⟨⟨by decide +kernel, by decide +kernel⟩, List.mem_of_getElem? (i := 48) (by decide +kernel), List.mem_of_getElem? (i := 374) (by decide +kernel), List.mem_of_getElem? (i := 375) (by decide +kernel)⟩
theorem lw_p36 : lw_okq (⟨"AbsenceTree$History", "hasKey", "(I)Z"⟩, 4) := ⟨⟨by decide +kernel, by decide +kernel⟩, List.mem_of_getElem? (i := 96) (by decide +kernel), List.mem_of_getElem? (i := 382) (by decide +kernel), List.mem_of_getElem? (i := 383) (by decide +kernel)⟩
theorem lw_p37 : lw_okq (⟨"AbsenceTree$History", "keys", "()I"⟩, 4) := ⟨⟨by decide +kernel, by decide +kernel⟩, List.mem_of_getElem? (i := 96) (by decide +kernel), List.mem_of_getElem? (i := 386) (by decide +kernel), List.mem_of_getElem? (i := 387) (by decide +kernel)⟩
theorem lw_p38 : lw_okq (⟨"AbsenceTree$History", "find", "(I)LAbsenceTree$Tree;"⟩, 4) := ⟨⟨by decide +kernel, by decide +kernel⟩, List.mem_of_getElem? (i := 96) (by decide +kernel), List.mem_of_getElem? (i := 402) (by decide +kernel), List.mem_of_getElem? (i := 403) (by decide +kernel)⟩
theorem lw_p39 : lw_okq (⟨"AbsenceTree$Tree", "bareAt", "(I)Z"⟩, 3) := ⟨⟨by decide +kernel, by decide +kernel⟩, List.mem_of_getElem? (i := 121) (by decide +kernel), List.mem_of_getElem? (i := 406) (by decide +kernel), List.mem_of_getElem? (i := 407) (by decide +kernel)⟩
theorem lw_p40 : lw_okq (⟨"AbsenceTree$Tree", "total", "()I"⟩, 3) := ⟨⟨by decide +kernel, by decide +kernel⟩, List.mem_of_getElem? (i := 121) (by decide +kernel), List.mem_of_getElem? (i := 419) (by decide +kernel), List.mem_of_getElem? (i := 420) (by decide +kernel)⟩
theorem lw_p41 : lw_okq (⟨"AbsenceTree$History", "hasStretch", "(II)Z"⟩, 4) := ⟨⟨by decide +kernel, by decide +kernel⟩, List.mem_of_getElem? (i := 96) (by decide +kernel), List.mem_of_getElem? (i := 450) (by decide +kernel), List.mem_of_getElem? (i := 451) (by decide +kernel)⟩
theorem lw_p42 : lw_okq (⟨"AbsenceTree$Proof", "begin", "(III)V"⟩, 6) := ⟨⟨by decide +kernel, by decide +kernel⟩, List.mem_of_getElem? (i := 64) (by decide +kernel), List.mem_of_getElem? (i := 463) (by decide +kernel), List.mem_of_getElem? (i := 464) (by decide +kernel)⟩
theorem lw_p43 : lw_okq (⟨"AbsenceTree$Proof", "add", "(I)V"⟩, 6) := ⟨⟨by decide +kernel, by decide +kernel⟩, List.mem_of_getElem? (i := 64) (by decide +kernel), List.mem_of_getElem? (i := 467) (by decide +kernel), List.mem_of_getElem? (i := 468) (by decide +kernel)⟩
theorem lw_p44 : lw_okq (⟨"AbsenceTree", "tellHeld", "()V"⟩, 8) := ⟨⟨by decide +kernel, by decide +kernel⟩, List.mem_of_getElem? (i := 17) (by decide +kernel), List.mem_of_getElem? (i := 471) (by decide +kernel), List.mem_of_getElem? (i := 472) (by decide +kernel)⟩
theorem lw_p45 : lw_okq (⟨"AbsenceTree$Proof", "change", "(II)Z"⟩, 6) := ⟨⟨by decide +kernel, by decide +kernel⟩, List.mem_of_getElem? (i := 64) (by decide +kernel), List.mem_of_getElem? (i := 479) (by decide +kernel), List.mem_of_getElem? (i := 480) (by decide +kernel)⟩
theorem lw_p46 : lw_okq (⟨"AbsenceTree", "readProof", "()I"⟩, 8) := ⟨⟨by decide +kernel, by decide +kernel⟩, List.mem_of_getElem? (i := 17) (by decide +kernel), List.mem_of_getElem? (i := 487) (by decide +kernel), List.mem_of_getElem? (i := 488) (by decide +kernel)⟩
theorem lw_p47 : lw_okq (⟨"AbsenceTree", "readByte", "()I"⟩, 8) := ⟨⟨by decide +kernel, by decide +kernel⟩, List.mem_of_getElem? (i := 17) (by decide +kernel), List.mem_of_getElem? (i := 491) (by decide +kernel), List.mem_of_getElem? (i := 492) (by decide +kernel)⟩
def lw_privs_3 : List (MethodName × Nat) := [(⟨"AbsenceTree$Row", "empty", "()V"⟩, 2), (⟨"AbsenceTree$KeySet", "work", "()I"⟩, 2), (⟨"AbsenceTree$KeySet", "nodesIn", "(II)I"⟩, 2), (⟨"AbsenceTree$Row", "add", "(J)V"⟩, 2), (⟨"AbsenceTree$History", "hasKey", "(I)Z"⟩, 4), (⟨"AbsenceTree$History", "keys", "()I"⟩, 4), (⟨"AbsenceTree$History", "find", "(I)LAbsenceTree$Tree;"⟩, 4), (⟨"AbsenceTree$Tree", "bareAt", "(I)Z"⟩, 3), (⟨"AbsenceTree$Tree", "total", "()I"⟩, 3), (⟨"AbsenceTree$History", "hasStretch", "(II)Z"⟩, 4), (⟨"AbsenceTree$Proof", "begin", "(III)V"⟩, 6), (⟨"AbsenceTree$Proof", "add", "(I)V"⟩, 6), (⟨"AbsenceTree", "tellHeld", "()V"⟩, 8), (⟨"AbsenceTree$Proof", "change", "(II)Z"⟩, 6), (⟨"AbsenceTree", "readProof", "()I"⟩, 8), (⟨"AbsenceTree", "readByte", "()I"⟩, 8)]
theorem lw_r3 : ∀ q ∈ lw_privs_3, lw_okq q := List.forall_mem_cons.mpr ⟨lw_p32, List.forall_mem_cons.mpr ⟨lw_p33, List.forall_mem_cons.mpr ⟨lw_p34, List.forall_mem_cons.mpr ⟨lw_p35, List.forall_mem_cons.mpr ⟨lw_p36, List.forall_mem_cons.mpr ⟨lw_p37, List.forall_mem_cons.mpr ⟨lw_p38, List.forall_mem_cons.mpr ⟨lw_p39, List.forall_mem_cons.mpr ⟨lw_p40, List.forall_mem_cons.mpr ⟨lw_p41, List.forall_mem_cons.mpr ⟨lw_p42, List.forall_mem_cons.mpr ⟨lw_p43, List.forall_mem_cons.mpr ⟨lw_p44, List.forall_mem_cons.mpr ⟨lw_p45, List.forall_mem_cons.mpr ⟨lw_p46, List.forall_mem_cons.mpr ⟨lw_p47, fun _ h => absurd h List.not_mem_nil⟩⟩⟩⟩⟩⟩⟩⟩⟩⟩⟩⟩⟩⟩⟩⟩
theorem lw_p48 : lw_okq (⟨"AbsenceTree", "readMark", "()I"⟩, 8) := ⟨⟨by decide +kernel, by decide +kernel⟩, List.mem_of_getElem? (i := 17) (by decide +kernel), List.mem_of_getElem? (i := 495) (by decide +kernel), List.mem_of_getElem? (i := 496) (by decide +kernel)⟩
theorem lw_p49 : lw_okq (⟨"AbsenceTree$Proof", "take", "(LAbsenceTree$Proof;)V"⟩, 6) := ⟨⟨by decide +kernel, by decide +kernel⟩, List.mem_of_getElem? (i := 64) (by decide +kernel), List.mem_of_getElem? (i := 500) (by decide +kernel), List.mem_of_getElem? (i := 501) (by decide +kernel)⟩
theorem lw_p50 : lw_okq (⟨"AbsenceTree$Proof", "climb", "(I)I"⟩, 6) := ⟨⟨by decide +kernel, by decide +kernel⟩, List.mem_of_getElem? (i := 64) (by decide +kernel), List.mem_of_getElem? (i := 514) (by decide +kernel), List.mem_of_getElem? (i := 515) (by decide +kernel)⟩
theorem lw_p51 : lw_okq (⟨"AbsenceTree$Proof", "markOf", "(I)I"⟩, 6) := ⟨⟨by decide +kernel, by decide +kernel⟩, List.mem_of_getElem? (i := 64) (by decide +kernel), List.mem_of_getElem? (i := 519) (by decide +kernel), List.mem_of_getElem? (i := 520) (by decide +kernel)⟩
theorem lw_p52 : lw_okq (⟨"AbsenceTree$Tree", "besideFrom", "(I)I"⟩, 3) := ⟨⟨by decide +kernel, by decide +kernel⟩, List.mem_of_getElem? (i := 121) (by decide +kernel), List.mem_of_getElem? (i := 532) (by decide +kernel), List.mem_of_getElem? (i := 533) (by decide +kernel)⟩
theorem lw_p53 : lw_okq (⟨"AbsenceTree", "readKeys", "()I"⟩, 8) := ⟨⟨by decide +kernel, by decide +kernel⟩, List.mem_of_getElem? (i := 17) (by decide +kernel), List.mem_of_getElem? (i := 541) (by decide +kernel), List.mem_of_getElem? (i := 542) (by decide +kernel)⟩
theorem lw_p54 : lw_okq (⟨"AbsenceTree", "needed", "(LAbsenceTree$Tree;)I"⟩, 8) := ⟨⟨by decide +kernel, by decide +kernel⟩, List.mem_of_getElem? (i := 17) (by decide +kernel), List.mem_of_getElem? (i := 545) (by decide +kernel), List.mem_of_getElem? (i := 546) (by decide +kernel)⟩
theorem lw_p55 : lw_okq (⟨"AbsenceTree", "isNeeded", "(LAbsenceTree$Tree;I)Z"⟩, 8) := ⟨⟨by decide +kernel, by decide +kernel⟩, List.mem_of_getElem? (i := 17) (by decide +kernel), List.mem_of_getElem? (i := 549) (by decide +kernel), List.mem_of_getElem? (i := 550) (by decide +kernel)⟩
theorem lw_p56 : lw_okq (⟨"AbsenceTree", "chooseUnlike", "(LAbsenceTree$Tree;LAbsenceTree$Tree;)V"⟩, 8) := ⟨⟨by decide +kernel, by decide +kernel⟩, List.mem_of_getElem? (i := 17) (by decide +kernel), List.mem_of_getElem? (i := 578) (by decide +kernel), List.mem_of_getElem? (i := 579) (by decide +kernel)⟩
theorem lw_p57 : lw_okq (⟨"AbsenceTree", "newNodes", "(I)I"⟩, 8) := ⟨⟨by decide +kernel, by decide +kernel⟩, List.mem_of_getElem? (i := 17) (by decide +kernel), List.mem_of_getElem? (i := 594) (by decide +kernel), List.mem_of_getElem? (i := 595) (by decide +kernel)⟩
theorem lw_p58 : lw_okq (⟨"AbsenceTree", "wasBefore", "(ILAbsenceTree$Tree;I)Z"⟩, 8) := ⟨⟨by decide +kernel, by decide +kernel⟩, List.mem_of_getElem? (i := 17) (by decide +kernel), List.mem_of_getElem? (i := 598) (by decide +kernel), List.mem_of_getElem? (i := 599) (by decide +kernel)⟩
theorem lw_p59 : lw_okq (⟨"AbsenceTree", "changesOf", "(I)I"⟩, 8) := ⟨⟨by decide +kernel, by decide +kernel⟩, List.mem_of_getElem? (i := 17) (by decide +kernel), List.mem_of_getElem? (i := 610) (by decide +kernel), List.mem_of_getElem? (i := 611) (by decide +kernel)⟩
theorem lw_p60 : lw_okq (⟨"AbsenceTree$History", "kept", "()I"⟩, 4) := ⟨⟨by decide +kernel, by decide +kernel⟩, List.mem_of_getElem? (i := 96) (by decide +kernel), List.mem_of_getElem? (i := 629) (by decide +kernel), List.mem_of_getElem? (i := 630) (by decide +kernel)⟩
theorem lw_p61 : lw_okq (⟨"AbsenceTree", "draftExchange", "(LAbsenceTree$Tree;II)V"⟩, 8) := ⟨⟨by decide +kernel, by decide +kernel⟩, List.mem_of_getElem? (i := 17) (by decide +kernel), List.mem_of_getElem? (i := 645) (by decide +kernel), List.mem_of_getElem? (i := 646) (by decide +kernel)⟩
theorem lw_p62 : lw_okq (⟨"AbsenceTree", "checkDay", "()I"⟩, 8) := ⟨⟨by decide +kernel, by decide +kernel⟩, List.mem_of_getElem? (i := 17) (by decide +kernel), List.mem_of_getElem? (i := 673) (by decide +kernel), List.mem_of_getElem? (i := 674) (by decide +kernel)⟩
theorem lw_p63 : lw_okq (⟨"AbsenceTree$Text", "fixed", "(I)I"⟩, 4) := ⟨⟨by decide +kernel, by decide +kernel⟩, List.mem_of_getElem? (i := 25) (by decide +kernel), List.mem_of_getElem? (i := 678) (by decide +kernel), List.mem_of_getElem? (i := 679) (by decide +kernel)⟩
def lw_privs_4 : List (MethodName × Nat) := [(⟨"AbsenceTree", "readMark", "()I"⟩, 8), (⟨"AbsenceTree$Proof", "take", "(LAbsenceTree$Proof;)V"⟩, 6), (⟨"AbsenceTree$Proof", "climb", "(I)I"⟩, 6), (⟨"AbsenceTree$Proof", "markOf", "(I)I"⟩, 6), (⟨"AbsenceTree$Tree", "besideFrom", "(I)I"⟩, 3), (⟨"AbsenceTree", "readKeys", "()I"⟩, 8), (⟨"AbsenceTree", "needed", "(LAbsenceTree$Tree;)I"⟩, 8), (⟨"AbsenceTree", "isNeeded", "(LAbsenceTree$Tree;I)Z"⟩, 8), (⟨"AbsenceTree", "chooseUnlike", "(LAbsenceTree$Tree;LAbsenceTree$Tree;)V"⟩, 8), (⟨"AbsenceTree", "newNodes", "(I)I"⟩, 8), (⟨"AbsenceTree", "wasBefore", "(ILAbsenceTree$Tree;I)Z"⟩, 8), (⟨"AbsenceTree", "changesOf", "(I)I"⟩, 8), (⟨"AbsenceTree$History", "kept", "()I"⟩, 4), (⟨"AbsenceTree", "draftExchange", "(LAbsenceTree$Tree;II)V"⟩, 8), (⟨"AbsenceTree", "checkDay", "()I"⟩, 8), (⟨"AbsenceTree$Text", "fixed", "(I)I"⟩, 4)]
theorem lw_r4 : ∀ q ∈ lw_privs_4, lw_okq q := List.forall_mem_cons.mpr ⟨lw_p48, List.forall_mem_cons.mpr ⟨lw_p49, List.forall_mem_cons.mpr ⟨lw_p50, List.forall_mem_cons.mpr ⟨lw_p51, List.forall_mem_cons.mpr ⟨lw_p52, List.forall_mem_cons.mpr ⟨lw_p53, List.forall_mem_cons.mpr ⟨lw_p54, List.forall_mem_cons.mpr ⟨lw_p55, List.forall_mem_cons.mpr ⟨lw_p56, List.forall_mem_cons.mpr ⟨lw_p57, List.forall_mem_cons.mpr ⟨lw_p58, List.forall_mem_cons.mpr ⟨lw_p59, List.forall_mem_cons.mpr ⟨lw_p60, List.forall_mem_cons.mpr ⟨lw_p61, List.forall_mem_cons.mpr ⟨lw_p62, List.forall_mem_cons.mpr ⟨lw_p63, fun _ h => absurd h List.not_mem_nil⟩⟩⟩⟩⟩⟩⟩⟩⟩⟩⟩⟩⟩⟩⟩⟩
theorem lw_p64 : lw_okq (⟨"AbsenceTree", "doAct", "()I"⟩, 8) := ⟨⟨by decide +kernel, by decide +kernel⟩, List.mem_of_getElem? (i := 17) (by decide +kernel), List.mem_of_getElem? (i := 682) (by decide +kernel), List.mem_of_getElem? (i := 683) (by decide +kernel)⟩
theorem lw_p65 : lw_okq (⟨"AbsenceTree$History", "take", "(LAbsenceTree$History;)V"⟩, 4) := ⟨⟨by decide +kernel, by decide +kernel⟩, List.mem_of_getElem? (i := 96) (by decide +kernel), List.mem_of_getElem? (i := 710) (by decide +kernel), List.mem_of_getElem? (i := 711) (by decide +kernel)⟩
theorem lw_p66 : lw_okq (⟨"java/lang/Throwable", "fillInStackTrace", "(I)Ljava/lang/Throwable;"⟩, 6) := ⟨⟨by decide +kernel, by decide +kernel⟩, List.mem_of_getElem? (i := 766) (by decide +kernel), List.mem_of_getElem? (i := 764) (by decide +kernel), List.mem_of_getElem? (i := 765) (by decide +kernel)⟩
theorem lw_p67 : lw_okq (⟨"AbsenceTreeModel", "begin", "()V"⟩, 24) := ⟨⟨by decide +kernel, by decide +kernel⟩, List.mem_of_getElem? (i := 798) (by decide +kernel), List.mem_of_getElem? (i := 898) (by decide +kernel), List.mem_of_getElem? (i := 899) (by decide +kernel)⟩
theorem lw_p68 : lw_okq (⟨"AbsenceTreeModel", "oneOf", "(CI)I"⟩, 24) := ⟨⟨by decide +kernel, by decide +kernel⟩, List.mem_of_getElem? (i := 798) (by decide +kernel), List.mem_of_getElem? (i := 902) (by decide +kernel), List.mem_of_getElem? (i := 903) (by decide +kernel)⟩
theorem lw_p69 : lw_okq (⟨"AbsenceTreeModel", "fine", "()Z"⟩, 24) := ⟨⟨by decide +kernel, by decide +kernel⟩, List.mem_of_getElem? (i := 798) (by decide +kernel), List.mem_of_getElem? (i := 906) (by decide +kernel), List.mem_of_getElem? (i := 907) (by decide +kernel)⟩
theorem lw_p70 : lw_okq (⟨"AbsenceTreeModel", "here", "()I"⟩, 24) := ⟨⟨by decide +kernel, by decide +kernel⟩, List.mem_of_getElem? (i := 798) (by decide +kernel), List.mem_of_getElem? (i := 910) (by decide +kernel), List.mem_of_getElem? (i := 911) (by decide +kernel)⟩
theorem lw_p71 : lw_okq (⟨"AbsenceTreeModel", "fault", "(I)V"⟩, 24) := ⟨⟨by decide +kernel, by decide +kernel⟩, List.mem_of_getElem? (i := 798) (by decide +kernel), List.mem_of_getElem? (i := 914) (by decide +kernel), List.mem_of_getElem? (i := 915) (by decide +kernel)⟩
theorem lw_p72 : lw_okq (⟨"AbsenceTreeModel", "readPair", "(IZ)V"⟩, 24) := ⟨⟨by decide +kernel, by decide +kernel⟩, List.mem_of_getElem? (i := 798) (by decide +kernel), List.mem_of_getElem? (i := 918) (by decide +kernel), List.mem_of_getElem? (i := 919) (by decide +kernel)⟩
theorem lw_p73 : lw_okq (⟨"AbsenceTreeModel", "readKey", "(I)I"⟩, 24) := ⟨⟨by decide +kernel, by decide +kernel⟩, List.mem_of_getElem? (i := 798) (by decide +kernel), List.mem_of_getElem? (i := 922) (by decide +kernel), List.mem_of_getElem? (i := 923) (by decide +kernel)⟩
theorem lw_p74 : lw_okq (⟨"AbsenceTreeModel", "number", "()I"⟩, 24) := ⟨⟨by decide +kernel, by decide +kernel⟩, List.mem_of_getElem? (i := 798) (by decide +kernel), List.mem_of_getElem? (i := 926) (by decide +kernel), List.mem_of_getElem? (i := 927) (by decide +kernel)⟩
theorem lw_p75 : lw_okq (⟨"AbsenceTreeModel", "isRead", "(I)Z"⟩, 24) := ⟨⟨by decide +kernel, by decide +kernel⟩, List.mem_of_getElem? (i := 798) (by decide +kernel), List.mem_of_getElem? (i := 930) (by decide +kernel), List.mem_of_getElem? (i := 931) (by decide +kernel)⟩
theorem lw_p76 : lw_okq (⟨"AbsenceTreeModel", "wasRight", "()Z"⟩, 24) := ⟨⟨by decide +kernel, by decide +kernel⟩, List.mem_of_getElem? (i := 798) (by decide +kernel), List.mem_of_getElem? (i := 934) (by decide +kernel), List.mem_of_getElem? (i := 935) (by decide +kernel)⟩
theorem lw_p77 : lw_okq (⟨"AbsenceTreeModel", "byteNumber", "()I"⟩, 24) := ⟨⟨by decide +kernel, by decide +kernel⟩, List.mem_of_getElem? (i := 798) (by decide +kernel), List.mem_of_getElem? (i := 942) (by decide +kernel), List.mem_of_getElem? (i := 943) (by decide +kernel)⟩
theorem lw_p78 : lw_okq (⟨"AbsenceTreeModel", "mark", "()I"⟩, 24) := ⟨⟨by decide +kernel, by decide +kernel⟩, List.mem_of_getElem? (i := 798) (by decide +kernel), List.mem_of_getElem? (i := 946) (by decide +kernel), List.mem_of_getElem? (i := 947) (by decide +kernel)⟩
theorem lw_p79 : lw_okq (⟨"AbsenceTreeModel", "passes", "(C)Z"⟩, 24) := ⟨⟨by decide +kernel, by decide +kernel⟩, List.mem_of_getElem? (i := 798) (by decide +kernel), List.mem_of_getElem? (i := 950) (by decide +kernel), List.mem_of_getElem? (i := 951) (by decide +kernel)⟩
def lw_privs_5 : List (MethodName × Nat) := [(⟨"AbsenceTree", "doAct", "()I"⟩, 8), (⟨"AbsenceTree$History", "take", "(LAbsenceTree$History;)V"⟩, 4), (⟨"java/lang/Throwable", "fillInStackTrace", "(I)Ljava/lang/Throwable;"⟩, 6), (⟨"AbsenceTreeModel", "begin", "()V"⟩, 24), (⟨"AbsenceTreeModel", "oneOf", "(CI)I"⟩, 24), (⟨"AbsenceTreeModel", "fine", "()Z"⟩, 24), (⟨"AbsenceTreeModel", "here", "()I"⟩, 24), (⟨"AbsenceTreeModel", "fault", "(I)V"⟩, 24), (⟨"AbsenceTreeModel", "readPair", "(IZ)V"⟩, 24), (⟨"AbsenceTreeModel", "readKey", "(I)I"⟩, 24), (⟨"AbsenceTreeModel", "number", "()I"⟩, 24), (⟨"AbsenceTreeModel", "isRead", "(I)Z"⟩, 24), (⟨"AbsenceTreeModel", "wasRight", "()Z"⟩, 24), (⟨"AbsenceTreeModel", "byteNumber", "()I"⟩, 24), (⟨"AbsenceTreeModel", "mark", "()I"⟩, 24), (⟨"AbsenceTreeModel", "passes", "(C)Z"⟩, 24)]
theorem lw_r5 : ∀ q ∈ lw_privs_5, lw_okq q := List.forall_mem_cons.mpr ⟨lw_p64, List.forall_mem_cons.mpr ⟨lw_p65, List.forall_mem_cons.mpr ⟨lw_p66, List.forall_mem_cons.mpr ⟨lw_p67, List.forall_mem_cons.mpr ⟨lw_p68, List.forall_mem_cons.mpr ⟨lw_p69, List.forall_mem_cons.mpr ⟨lw_p70, List.forall_mem_cons.mpr ⟨lw_p71, List.forall_mem_cons.mpr ⟨lw_p72, List.forall_mem_cons.mpr ⟨lw_p73, List.forall_mem_cons.mpr ⟨lw_p74, List.forall_mem_cons.mpr ⟨lw_p75, List.forall_mem_cons.mpr ⟨lw_p76, List.forall_mem_cons.mpr ⟨lw_p77, List.forall_mem_cons.mpr ⟨lw_p78, List.forall_mem_cons.mpr ⟨lw_p79, fun _ h => absurd h List.not_mem_nil⟩⟩⟩⟩⟩⟩⟩⟩⟩⟩⟩⟩⟩⟩⟩⟩
theorem lw_p80 : lw_okq (⟨"AbsenceTreeModel", "keys", "()I"⟩, 24) := ⟨⟨by decide +kernel, by decide +kernel⟩, List.mem_of_getElem? (i := 798) (by decide +kernel), List.mem_of_getElem? (i := 961) (by decide +kernel), List.mem_of_getElem? (i := 962) (by decide +kernel)⟩
theorem lw_p81 : lw_okq (⟨"AbsenceTreeModel", "latest", "()I"⟩, 24) := ⟨⟨by decide +kernel, by decide +kernel⟩, List.mem_of_getElem? (i := 798) (by decide +kernel), List.mem_of_getElem? (i := 965) (by decide +kernel), List.mem_of_getElem? (i := 966) (by decide +kernel)⟩
theorem lw_p82 : lw_okq (⟨"AbsenceTreeModel", "layNext", "(I)V"⟩, 24) := ⟨⟨by decide +kernel, by decide +kernel⟩, List.mem_of_getElem? (i := 798) (by decide +kernel), List.mem_of_getElem? (i := 969) (by decide +kernel), List.mem_of_getElem? (i := 970) (by decide +kernel)⟩
theorem lw_p83 : lw_okq (⟨"AbsenceTreeModel", "value", "(II)I"⟩, 24) := ⟨⟨by decide +kernel, by decide +kernel⟩, List.mem_of_getElem? (i := 798) (by decide +kernel), List.mem_of_getElem? (i := 973) (by decide +kernel), List.mem_of_getElem? (i := 974) (by decide +kernel)⟩
theorem lw_p84 : lw_okq (⟨"AbsenceTreeModel", "at", "(II)I"⟩, 24) := ⟨⟨by decide +kernel, by decide +kernel⟩, List.mem_of_getElem? (i := 798) (by decide +kernel), List.mem_of_getElem? (i := 977) (by decide +kernel), List.mem_of_getElem? (i := 978) (by decide +kernel)⟩
theorem lw_p85 : lw_okq (⟨"AbsenceTreeModel", "clearOver", "()V"⟩, 24) := ⟨⟨by decide +kernel, by decide +kernel⟩, List.mem_of_getElem? (i := 798) (by decide +kernel), List.mem_of_getElem? (i := 981) (by decide +kernel), List.mem_of_getElem? (i := 982) (by decide +kernel)⟩
theorem lw_p86 : lw_okq (⟨"AbsenceTreeModel", "markOver", "(I)V"⟩, 24) := ⟨⟨by decide +kernel, by decide +kernel⟩, List.mem_of_getElem? (i := 798) (by decide +kernel), List.mem_of_getElem? (i := 985) (by decide +kernel), List.mem_of_getElem? (i := 986) (by decide +kernel)⟩
theorem lw_p87 : lw_okq (⟨"AbsenceTreeModel", "nextMany", "()I"⟩, 24) := ⟨⟨by decide +kernel, by decide +kernel⟩, List.mem_of_getElem? (i := 798) (by decide +kernel), List.mem_of_getElem? (i := 989) (by decide +kernel), List.mem_of_getElem? (i := 990) (by decide +kernel)⟩
theorem lw_p88 : lw_okq (⟨"AbsenceTreeModel", "isNow", "()Z"⟩, 24) := ⟨⟨by decide +kernel, by decide +kernel⟩, List.mem_of_getElem? (i := 798) (by decide +kernel), List.mem_of_getElem? (i := 993) (by decide +kernel), List.mem_of_getElem? (i := 994) (by decide +kernel)⟩
theorem lw_p89 : lw_okq (⟨"AbsenceTreeModel", "work", "()I"⟩, 24) := ⟨⟨by decide +kernel, by decide +kernel⟩, List.mem_of_getElem? (i := 798) (by decide +kernel), List.mem_of_getElem? (i := 997) (by decide +kernel), List.mem_of_getElem? (i := 998) (by decide +kernel)⟩
theorem lw_p90 : lw_okq (⟨"AbsenceTreeModel", "tell", "(J)V"⟩, 24) := ⟨⟨by decide +kernel, by decide +kernel⟩, List.mem_of_getElem? (i := 798) (by decide +kernel), List.mem_of_getElem? (i := 1001) (by decide +kernel), List.mem_of_getElem? (i := 1002) (by decide +kernel)⟩
theorem lw_p91 : lw_okq (⟨"AbsenceTreeModel", "depth", "()I"⟩, 24) := ⟨⟨by decide +kernel, by decide +kernel⟩, List.mem_of_getElem? (i := 798) (by decide +kernel), List.mem_of_getElem? (i := 1005) (by decide +kernel), List.mem_of_getElem? (i := 1006) (by decide +kernel)⟩
theorem lw_p92 : lw_okq (⟨"AbsenceTreeModel", "makes", "()I"⟩, 24) := ⟨⟨by decide +kernel, by decide +kernel⟩, List.mem_of_getElem? (i := 798) (by decide +kernel), List.mem_of_getElem? (i := 1009) (by decide +kernel), List.mem_of_getElem? (i := 1010) (by decide +kernel)⟩
theorem lw_p93 : lw_okq (⟨"AbsenceTreeModel", "isKey", "(I)Z"⟩, 24) := ⟨⟨by decide +kernel, by decide +kernel⟩, List.mem_of_getElem? (i := 798) (by decide +kernel), List.mem_of_getElem? (i := 1017) (by decide +kernel), List.mem_of_getElem? (i := 1018) (by decide +kernel)⟩
theorem lw_p94 : lw_okq (⟨"AbsenceTreeModel", "isVersion", "(I)Z"⟩, 24) := ⟨⟨by decide +kernel, by decide +kernel⟩, List.mem_of_getElem? (i := 798) (by decide +kernel), List.mem_of_getElem? (i := 1030) (by decide +kernel), List.mem_of_getElem? (i := 1031) (by decide +kernel)⟩
theorem lw_p95 : lw_okq (⟨"AbsenceTreeModel", "lost", "()I"⟩, 24) := ⟨⟨by decide +kernel, by decide +kernel⟩, List.mem_of_getElem? (i := 798) (by decide +kernel), List.mem_of_getElem? (i := 1034) (by decide +kernel), List.mem_of_getElem? (i := 1035) (by decide +kernel)⟩
def lw_privs_6 : List (MethodName × Nat) := [(⟨"AbsenceTreeModel", "keys", "()I"⟩, 24), (⟨"AbsenceTreeModel", "latest", "()I"⟩, 24), (⟨"AbsenceTreeModel", "layNext", "(I)V"⟩, 24), (⟨"AbsenceTreeModel", "value", "(II)I"⟩, 24), (⟨"AbsenceTreeModel", "at", "(II)I"⟩, 24), (⟨"AbsenceTreeModel", "clearOver", "()V"⟩, 24), (⟨"AbsenceTreeModel", "markOver", "(I)V"⟩, 24), (⟨"AbsenceTreeModel", "nextMany", "()I"⟩, 24), (⟨"AbsenceTreeModel", "isNow", "()Z"⟩, 24), (⟨"AbsenceTreeModel", "work", "()I"⟩, 24), (⟨"AbsenceTreeModel", "tell", "(J)V"⟩, 24), (⟨"AbsenceTreeModel", "depth", "()I"⟩, 24), (⟨"AbsenceTreeModel", "makes", "()I"⟩, 24), (⟨"AbsenceTreeModel", "isKey", "(I)Z"⟩, 24), (⟨"AbsenceTreeModel", "isVersion", "(I)Z"⟩, 24), (⟨"AbsenceTreeModel", "lost", "()I"⟩, 24)]
theorem lw_r6 : ∀ q ∈ lw_privs_6, lw_okq q := List.forall_mem_cons.mpr ⟨lw_p80, List.forall_mem_cons.mpr ⟨lw_p81, List.forall_mem_cons.mpr ⟨lw_p82, List.forall_mem_cons.mpr ⟨lw_p83, List.forall_mem_cons.mpr ⟨lw_p84, List.forall_mem_cons.mpr ⟨lw_p85, List.forall_mem_cons.mpr ⟨lw_p86, List.forall_mem_cons.mpr ⟨lw_p87, List.forall_mem_cons.mpr ⟨lw_p88, List.forall_mem_cons.mpr ⟨lw_p89, List.forall_mem_cons.mpr ⟨lw_p90, List.forall_mem_cons.mpr ⟨lw_p91, List.forall_mem_cons.mpr ⟨lw_p92, List.forall_mem_cons.mpr ⟨lw_p93, List.forall_mem_cons.mpr ⟨lw_p94, List.forall_mem_cons.mpr ⟨lw_p95, fun _ h => absurd h List.not_mem_nil⟩⟩⟩⟩⟩⟩⟩⟩⟩⟩⟩⟩⟩⟩⟩⟩
theorem lw_p96 : lw_okq (⟨"AbsenceTreeModel", "lay", "(I)V"⟩, 24) := ⟨⟨by decide +kernel, by decide +kernel⟩, List.mem_of_getElem? (i := 798) (by decide +kernel), List.mem_of_getElem? (i := 1042) (by decide +kernel), List.mem_of_getElem? (i := 1043) (by decide +kernel)⟩
theorem lw_p97 : lw_okq (⟨"AbsenceTreeModel", "valued", "(I)I"⟩, 24) := ⟨⟨by decide +kernel, by decide +kernel⟩, List.mem_of_getElem? (i := 798) (by decide +kernel), List.mem_of_getElem? (i := 1053) (by decide +kernel), List.mem_of_getElem? (i := 1054) (by decide +kernel)⟩
theorem lw_p98 : lw_okq (⟨"AbsenceTreeModel", "place", "(II)I"⟩, 24) := ⟨⟨by decide +kernel, by decide +kernel⟩, List.mem_of_getElem? (i := 798) (by decide +kernel), List.mem_of_getElem? (i := 1061) (by decide +kernel), List.mem_of_getElem? (i := 1062) (by decide +kernel)⟩
theorem lw_p99 : lw_okq (⟨"AbsenceTreeModel", "filledAll", "(I)I"⟩, 24) := ⟨⟨by decide +kernel, by decide +kernel⟩, List.mem_of_getElem? (i := 798) (by decide +kernel), List.mem_of_getElem? (i := 1081) (by decide +kernel), List.mem_of_getElem? (i := 1082) (by decide +kernel)⟩
theorem lw_p100 : lw_okq (⟨"AbsenceTreeModel", "filled", "(I)I"⟩, 24) := ⟨⟨by decide +kernel, by decide +kernel⟩, List.mem_of_getElem? (i := 798) (by decide +kernel), List.mem_of_getElem? (i := 1085) (by decide +kernel), List.mem_of_getElem? (i := 1086) (by decide +kernel)⟩
theorem lw_p101 : lw_okq (⟨"AbsenceTreeModel", "isSpan", "(II)Z"⟩, 24) := ⟨⟨by decide +kernel, by decide +kernel⟩, List.mem_of_getElem? (i := 798) (by decide +kernel), List.mem_of_getElem? (i := 1101) (by decide +kernel), List.mem_of_getElem? (i := 1102) (by decide +kernel)⟩
theorem lw_p102 : lw_okq (⟨"AbsenceTreeModel", "tellHand", "(I)V"⟩, 24) := ⟨⟨by decide +kernel, by decide +kernel⟩, List.mem_of_getElem? (i := 798) (by decide +kernel), List.mem_of_getElem? (i := 1116) (by decide +kernel), List.mem_of_getElem? (i := 1117) (by decide +kernel)⟩
theorem lw_p103 : lw_okq (⟨"AbsenceTreeModel", "comesTo", "()I"⟩, 24) := ⟨⟨by decide +kernel, by decide +kernel⟩, List.mem_of_getElem? (i := 798) (by decide +kernel), List.mem_of_getElem? (i := 1132) (by decide +kernel), List.mem_of_getElem? (i := 1133) (by decide +kernel)⟩
theorem lw_p104 : lw_okq (⟨"AbsenceTreeModel", "isAccepted", "(I)Z"⟩, 24) := ⟨⟨by decide +kernel, by decide +kernel⟩, List.mem_of_getElem? (i := 798) (by decide +kernel), List.mem_of_getElem? (i := 1139) (by decide +kernel), List.mem_of_getElem? (i := 1140) (by decide +kernel)⟩
theorem lw_p105 : lw_okq (⟨"AbsenceTreeModel", "proofMany", "(I)I"⟩, 24) := ⟨⟨by decide +kernel, by decide +kernel⟩, List.mem_of_getElem? (i := 798) (by decide +kernel), List.mem_of_getElem? (i := 1155) (by decide +kernel), List.mem_of_getElem? (i := 1156) (by decide +kernel)⟩
theorem lw_p106 : lw_okq (⟨"AbsenceTreeModel", "layNeed", "()I"⟩, 24) := ⟨⟨by decide +kernel, by decide +kernel⟩, List.mem_of_getElem? (i := 798) (by decide +kernel), List.mem_of_getElem? (i := 1159) (by decide +kernel), List.mem_of_getElem? (i := 1160) (by decide +kernel)⟩
theorem lw_p107 : lw_okq (⟨"AbsenceTreeModel", "layAlike", "(II)V"⟩, 24) := ⟨⟨by decide +kernel, by decide +kernel⟩, List.mem_of_getElem? (i := 798) (by decide +kernel), List.mem_of_getElem? (i := 1171) (by decide +kernel), List.mem_of_getElem? (i := 1172) (by decide +kernel)⟩
theorem lw_p108 : lw_okq (⟨"AbsenceTreeModel", "changesOf", "(I)I"⟩, 24) := ⟨⟨by decide +kernel, by decide +kernel⟩, List.mem_of_getElem? (i := 798) (by decide +kernel), List.mem_of_getElem? (i := 1218) (by decide +kernel), List.mem_of_getElem? (i := 1219) (by decide +kernel)⟩
theorem lw_p109 : lw_okq (⟨"AbsenceTreeModel", "areVersions", "(III)Z"⟩, 24) := ⟨⟨by decide +kernel, by decide +kernel⟩, List.mem_of_getElem? (i := 798) (by decide +kernel), List.mem_of_getElem? (i := 1230) (by decide +kernel), List.mem_of_getElem? (i := 1231) (by decide +kernel)⟩
theorem lw_p110 : lw_okq (⟨"AbsenceTreeModel", "isAgainst", "(IIII)Z"⟩, 24) := ⟨⟨by decide +kernel, by decide +kernel⟩, List.mem_of_getElem? (i := 798) (by decide +kernel), List.mem_of_getElem? (i := 1234) (by decide +kernel), List.mem_of_getElem? (i := 1235) (by decide +kernel)⟩
theorem lw_p111 : lw_okq (⟨"AbsenceTreeModel", "goPut", "(II)I"⟩, 24) := ⟨⟨by decide +kernel, by decide +kernel⟩, List.mem_of_getElem? (i := 798) (by decide +kernel), List.mem_of_getElem? (i := 1246) (by decide +kernel), List.mem_of_getElem? (i := 1247) (by decide +kernel)⟩
def lw_privs_7 : List (MethodName × Nat) := [(⟨"AbsenceTreeModel", "lay", "(I)V"⟩, 24), (⟨"AbsenceTreeModel", "valued", "(I)I"⟩, 24), (⟨"AbsenceTreeModel", "place", "(II)I"⟩, 24), (⟨"AbsenceTreeModel", "filledAll", "(I)I"⟩, 24), (⟨"AbsenceTreeModel", "filled", "(I)I"⟩, 24), (⟨"AbsenceTreeModel", "isSpan", "(II)Z"⟩, 24), (⟨"AbsenceTreeModel", "tellHand", "(I)V"⟩, 24), (⟨"AbsenceTreeModel", "comesTo", "()I"⟩, 24), (⟨"AbsenceTreeModel", "isAccepted", "(I)Z"⟩, 24), (⟨"AbsenceTreeModel", "proofMany", "(I)I"⟩, 24), (⟨"AbsenceTreeModel", "layNeed", "()I"⟩, 24), (⟨"AbsenceTreeModel", "layAlike", "(II)V"⟩, 24), (⟨"AbsenceTreeModel", "changesOf", "(I)I"⟩, 24), (⟨"AbsenceTreeModel", "areVersions", "(III)Z"⟩, 24), (⟨"AbsenceTreeModel", "isAgainst", "(IIII)Z"⟩, 24), (⟨"AbsenceTreeModel", "goPut", "(II)I"⟩, 24)]
theorem lw_r7 : ∀ q ∈ lw_privs_7, lw_okq q := List.forall_mem_cons.mpr ⟨lw_p96, List.forall_mem_cons.mpr ⟨lw_p97, List.forall_mem_cons.mpr ⟨lw_p98, List.forall_mem_cons.mpr ⟨lw_p99, List.forall_mem_cons.mpr ⟨lw_p100, List.forall_mem_cons.mpr ⟨lw_p101, List.forall_mem_cons.mpr ⟨lw_p102, List.forall_mem_cons.mpr ⟨lw_p103, List.forall_mem_cons.mpr ⟨lw_p104, List.forall_mem_cons.mpr ⟨lw_p105, List.forall_mem_cons.mpr ⟨lw_p106, List.forall_mem_cons.mpr ⟨lw_p107, List.forall_mem_cons.mpr ⟨lw_p108, List.forall_mem_cons.mpr ⟨lw_p109, List.forall_mem_cons.mpr ⟨lw_p110, List.forall_mem_cons.mpr ⟨lw_p111, fun _ h => absurd h List.not_mem_nil⟩⟩⟩⟩⟩⟩⟩⟩⟩⟩⟩⟩⟩⟩⟩⟩
theorem lw_p112 : lw_okq (⟨"AbsenceTreeModel", "goMove", "(II)I"⟩, 24) := ⟨⟨by decide +kernel, by decide +kernel⟩, List.mem_of_getElem? (i := 798) (by decide +kernel), List.mem_of_getElem? (i := 1254) (by decide +kernel), List.mem_of_getElem? (i := 1255) (by decide +kernel)⟩
theorem lw_p113 : lw_okq (⟨"AbsenceTreeModel", "goSwap", "(II)I"⟩, 24) := ⟨⟨by decide +kernel, by decide +kernel⟩, List.mem_of_getElem? (i := 798) (by decide +kernel), List.mem_of_getElem? (i := 1262) (by decide +kernel), List.mem_of_getElem? (i := 1263) (by decide +kernel)⟩
theorem lw_p114 : lw_okq (⟨"AbsenceTreeModel", "goBack", "(I)I"⟩, 24) := ⟨⟨by decide +kernel, by decide +kernel⟩, List.mem_of_getElem? (i := 798) (by decide +kernel), List.mem_of_getElem? (i := 1270) (by decide +kernel), List.mem_of_getElem? (i := 1271) (by decide +kernel)⟩
theorem lw_p115 : lw_okq (⟨"AbsenceTreeModel", "goClear", "(II)I"⟩, 24) := ⟨⟨by decide +kernel, by decide +kernel⟩, List.mem_of_getElem? (i := 798) (by decide +kernel), List.mem_of_getElem? (i := 1278) (by decide +kernel), List.mem_of_getElem? (i := 1279) (by decide +kernel)⟩
theorem lw_p116 : lw_okq (⟨"AbsenceTreeModel", "readAct", "(I)V"⟩, 24) := ⟨⟨by decide +kernel, by decide +kernel⟩, List.mem_of_getElem? (i := 798) (by decide +kernel), List.mem_of_getElem? (i := 1290) (by decide +kernel), List.mem_of_getElem? (i := 1291) (by decide +kernel)⟩
theorem lw_p117 : lw_okq (⟨"AbsenceTreeModel", "digits", "(I)I"⟩, 24) := ⟨⟨by decide +kernel, by decide +kernel⟩, List.mem_of_getElem? (i := 798) (by decide +kernel), List.mem_of_getElem? (i := 1294) (by decide +kernel), List.mem_of_getElem? (i := 1295) (by decide +kernel)⟩
theorem lw_p118 : lw_okq (⟨"AbsenceTreeModel", "act", "(I)I"⟩, 24) := ⟨⟨by decide +kernel, by decide +kernel⟩, List.mem_of_getElem? (i := 798) (by decide +kernel), List.mem_of_getElem? (i := 1298) (by decide +kernel), List.mem_of_getElem? (i := 1299) (by decide +kernel)⟩
theorem lw_p119 : lw_okq (⟨"AbsenceTreeModel", "draw", "(I)I"⟩, 24) := ⟨⟨by decide +kernel, by decide +kernel⟩, List.mem_of_getElem? (i := 798) (by decide +kernel), List.mem_of_getElem? (i := 1310) (by decide +kernel), List.mem_of_getElem? (i := 1311) (by decide +kernel)⟩
theorem lw_p120 : lw_okq (⟨"AbsenceTreeModel", "valueAll", "()I"⟩, 24) := ⟨⟨by decide +kernel, by decide +kernel⟩, List.mem_of_getElem? (i := 798) (by decide +kernel), List.mem_of_getElem? (i := 1327) (by decide +kernel), List.mem_of_getElem? (i := 1328) (by decide +kernel)⟩
def lw_privs_8 : List (MethodName × Nat) := [(⟨"AbsenceTreeModel", "goMove", "(II)I"⟩, 24), (⟨"AbsenceTreeModel", "goSwap", "(II)I"⟩, 24), (⟨"AbsenceTreeModel", "goBack", "(I)I"⟩, 24), (⟨"AbsenceTreeModel", "goClear", "(II)I"⟩, 24), (⟨"AbsenceTreeModel", "readAct", "(I)V"⟩, 24), (⟨"AbsenceTreeModel", "digits", "(I)I"⟩, 24), (⟨"AbsenceTreeModel", "act", "(I)I"⟩, 24), (⟨"AbsenceTreeModel", "draw", "(I)I"⟩, 24), (⟨"AbsenceTreeModel", "valueAll", "()I"⟩, 24)]
theorem lw_r8 : ∀ q ∈ lw_privs_8, lw_okq q := List.forall_mem_cons.mpr ⟨lw_p112, List.forall_mem_cons.mpr ⟨lw_p113, List.forall_mem_cons.mpr ⟨lw_p114, List.forall_mem_cons.mpr ⟨lw_p115, List.forall_mem_cons.mpr ⟨lw_p116, List.forall_mem_cons.mpr ⟨lw_p117, List.forall_mem_cons.mpr ⟨lw_p118, List.forall_mem_cons.mpr ⟨lw_p119, List.forall_mem_cons.mpr ⟨lw_p120, fun _ h => absurd h List.not_mem_nil⟩⟩⟩⟩⟩⟩⟩⟩⟩
def lw_privs : List (MethodName × Nat) := lw_privs_1 ++ (lw_privs_2 ++ (lw_privs_3 ++ (lw_privs_4 ++ (lw_privs_5 ++ (lw_privs_6 ++ (lw_privs_7 ++ (lw_privs_8)))))))
def lw_tbl : List Cond := k2_sels lw_privs ++ tables_1
theorem lw_privs_ok : ∀ q ∈ lw_privs, lw_okq q := by
  show ∀ q ∈ lw_privs_1 ++ (lw_privs_2 ++ (lw_privs_3 ++ (lw_privs_4 ++ (lw_privs_5 ++ (lw_privs_6 ++ (lw_privs_7 ++ (lw_privs_8))))))), lw_okq q
  exact List.forall_mem_append.mpr ⟨lw_r1, List.forall_mem_append.mpr ⟨lw_r2, List.forall_mem_append.mpr ⟨lw_r3, List.forall_mem_append.mpr ⟨lw_r4, List.forall_mem_append.mpr ⟨lw_r5, List.forall_mem_append.mpr ⟨lw_r6, List.forall_mem_append.mpr ⟨lw_r7, lw_r8⟩⟩⟩⟩⟩⟩⟩

def RX0 : String := "AbsenceTree$History"
def TX0 : u_T := fun k => match k with
  | 0 => ("AbsenceTree$History", "ring", "[LAbsenceTree$Tree;", true)
  | 1 => ("AbsenceTree$History", "depth", "I", false)
  | 2 => ("AbsenceTree$History", "first", "I", false)
  | _ => ("AbsenceTree$History", "latest", "I", false)
def tyX0 : Nat → FieldType := fun k => match k with
  | 0 => .array (.object "AbsenceTree$Tree")
  | 1 => .int
  | 2 => .int
  | _ => .int
abbrev wsX00 : List Cond := u_ws RX0 TX0 4
theorem nmX0 : ∀ a, a < 4 → ∀ b, b < 4 → a ≠ b → (TX0 a).2.1 ≠ (TX0 b).2.1 := by decide +kernel
theorem tyX0_ok : ∀ k, k < 4 → parseFieldDescriptor (TX0 k).2.2.1 = some (tyX0 k) := by decide +kernel

def RX1 : String := "AbsenceTree$KeySet"
def TX1 : u_T := fun k => match k with
  | 0 => ("AbsenceTree$KeySet", "cells", "[I", true)
  | _ => ("AbsenceTree$KeySet", "depth", "I", false)
def tyX1 : Nat → FieldType := fun k => match k with
  | 0 => .array .int
  | _ => .int
abbrev wsX10 : List Cond := u_ws RX1 TX1 2
theorem nmX1 : ∀ a, a < 2 → ∀ b, b < 2 → a ≠ b → (TX1 a).2.1 ≠ (TX1 b).2.1 := by decide +kernel
theorem tyX1_ok : ∀ k, k < 2 → parseFieldDescriptor (TX1 k).2.2.1 = some (tyX1 k) := by decide +kernel

def RX2 : String := "AbsenceTree$Proof"
def TX2 : u_T := fun k => match k with
  | 0 => ("AbsenceTree$Proof", "marks", "[I", true)
  | 1 => ("AbsenceTree$Proof", "there", "Z", false)
  | 2 => ("AbsenceTree$Proof", "key", "I", false)
  | 3 => ("AbsenceTree$Proof", "value", "I", false)
  | 4 => ("AbsenceTree$Proof", "bits", "I", false)
  | _ => ("AbsenceTree$Proof", "size", "I", false)
def tyX2 : Nat → FieldType := fun k => match k with
  | 0 => .array .int
  | 1 => .boolean
  | 2 => .int
  | 3 => .int
  | 4 => .int
  | _ => .int
abbrev wsX20 : List Cond := u_ws RX2 TX2 6
theorem nmX2 : ∀ a, a < 6 → ∀ b, b < 6 → a ≠ b → (TX2 a).2.1 ≠ (TX2 b).2.1 := by decide +kernel
theorem tyX2_ok : ∀ k, k < 6 → parseFieldDescriptor (TX2 k).2.2.1 = some (tyX2 k) := by decide +kernel

def RX3 : String := "AbsenceTree$Row"
def TX3 : u_T := fun k => match k with
  | 0 => ("AbsenceTree$Row", "cells", "[J", true)
  | _ => ("AbsenceTree$Row", "size", "I", false)
def tyX3 : Nat → FieldType := fun k => match k with
  | 0 => .array .long
  | _ => .int
abbrev wsX30 : List Cond := u_ws RX3 TX3 2
theorem nmX3 : ∀ a, a < 2 → ∀ b, b < 2 → a ≠ b → (TX3 a).2.1 ≠ (TX3 b).2.1 := by decide +kernel
theorem tyX3_ok : ∀ k, k < 2 → parseFieldDescriptor (TX3 k).2.2.1 = some (tyX3 k) := by decide +kernel

def RX4 : String := "AbsenceTree$Text"
def TX4 : u_T := fun k => match k with
  | 0 => ("AbsenceTree$Text", "signs", "[C", true)
  | 1 => ("AbsenceTree$Text", "size", "I", false)
  | 2 => ("AbsenceTree$Text", "at", "I", false)
  | _ => ("AbsenceTree$Text", "fault", "I", false)
def tyX4 : Nat → FieldType := fun k => match k with
  | 0 => .array .char
  | 1 => .int
  | 2 => .int
  | _ => .int
abbrev wsX40 : List Cond := u_ws RX4 TX4 4
theorem nmX4 : ∀ a, a < 4 → ∀ b, b < 4 → a ≠ b → (TX4 a).2.1 ≠ (TX4 b).2.1 := by decide +kernel
theorem tyX4_ok : ∀ k, k < 4 → parseFieldDescriptor (TX4 k).2.2.1 = some (tyX4 k) := by decide +kernel

def RX5 : String := "AbsenceTree$Tree"
def TX5 : u_T := fun k => match k with
  | 0 => ("AbsenceTree$Tree", "values", "[I", true)
  | 1 => ("AbsenceTree$Tree", "marks", "[I", true)
  | _ => ("AbsenceTree$Tree", "full", "LAbsenceTree$KeySet;", true)
def tyX5 : Nat → FieldType := fun k => match k with
  | 0 => .array .int
  | 1 => .array .int
  | _ => .object "AbsenceTree$KeySet"
abbrev wsX50 : List Cond := u_ws RX5 TX5 3
theorem nmX5 : ∀ a, a < 3 → ∀ b, b < 3 → a ≠ b → (TX5 a).2.1 ≠ (TX5 b).2.1 := by decide +kernel
theorem tyX5_ok : ∀ k, k < 3 → parseFieldDescriptor (TX5 k).2.2.1 = some (tyX5 k) := by decide +kernel

def RX6 : String := "AbsenceTree"
def TX6 : u_T := fun k => match k with
  | 0 => ("AbsenceTree", "text", "LAbsenceTree$Text;", true)
  | 1 => ("AbsenceTree", "numbers", "LAbsenceTree$Row;", true)
  | 2 => ("AbsenceTree", "held", "LAbsenceTree$Proof;", true)
  | 3 => ("AbsenceTree", "heard", "LAbsenceTree$Proof;", true)
  | 4 => ("AbsenceTree", "past", "LAbsenceTree$History;", true)
  | 5 => ("AbsenceTree", "slots", "[LAbsenceTree$History;", true)
  | 6 => ("AbsenceTree", "draft", "LAbsenceTree$Tree;", true)
  | _ => ("AbsenceTree", "chosen", "LAbsenceTree$KeySet;", true)
def tyX6 : Nat → FieldType := fun k => match k with
  | 0 => .object "AbsenceTree$Text"
  | 1 => .object "AbsenceTree$Row"
  | 2 => .object "AbsenceTree$Proof"
  | 3 => .object "AbsenceTree$Proof"
  | 4 => .object "AbsenceTree$History"
  | 5 => .array (.object "AbsenceTree$History")
  | 6 => .object "AbsenceTree$Tree"
  | _ => .object "AbsenceTree$KeySet"
abbrev wsX60 : List Cond := u_ws RX6 TX6 8
theorem nmX6 : ∀ a, a < 8 → ∀ b, b < 8 → a ≠ b → (TX6 a).2.1 ≠ (TX6 b).2.1 := by decide +kernel
theorem tyX6_ok : ∀ k, k < 8 → parseFieldDescriptor (TX6 k).2.2.1 = some (tyX6 k) := by decide +kernel

def RX7 : String := "AbsenceTreeModel"
def TX7 : u_T := fun k => match k with
  | 0 => ("AbsenceTreeModel", "now", "[I", true)
  | 1 => ("AbsenceTreeModel", "hand", "[I", true)
  | 2 => ("AbsenceTreeModel", "text", "[B", true)
  | 3 => ("AbsenceTreeModel", "typed", "I", false)
  | 4 => ("AbsenceTreeModel", "row", "[J", true)
  | 5 => ("AbsenceTreeModel", "rowMany", "I", false)
  | 6 => ("AbsenceTreeModel", "thrown", "I", false)
  | 7 => ("AbsenceTreeModel", "marks", "[I", true)
  | 8 => ("AbsenceTreeModel", "bare", "[Z", true)
  | 9 => ("AbsenceTreeModel", "length", "I", false)
  | 10 => ("AbsenceTreeModel", "spot", "I", false)
  | 11 => ("AbsenceTreeModel", "wrong", "I", false)
  | 12 => ("AbsenceTreeModel", "read", "[I", true)
  | 13 => ("AbsenceTreeModel", "readMany", "I", false)
  | 14 => ("AbsenceTreeModel", "next", "[I", true)
  | 15 => ("AbsenceTreeModel", "over", "[Z", true)
  | 16 => ("AbsenceTreeModel", "need", "[Z", true)
  | 17 => ("AbsenceTreeModel", "alike", "[Z", true)
  | 18 => ("AbsenceTreeModel", "seen", "[Z", true)
  | 19 => ("AbsenceTreeModel", "path", "[I", true)
  | 20 => ("AbsenceTreeModel", "drawn", "I", false)
  | 21 => ("AbsenceTreeModel", "aside", "[I", true)
  | 22 => ("AbsenceTreeModel", "kept", "[I", true)
  | _ => ("AbsenceTreeModel", "isKept", "[Z", true)
def tyX7 : Nat → FieldType := fun k => match k with
  | 0 => .array .int
  | 1 => .array .int
  | 2 => .array .byte
  | 3 => .int
  | 4 => .array .long
  | 5 => .int
  | 6 => .int
  | 7 => .array .int
  | 8 => .array .boolean
  | 9 => .int
  | 10 => .int
  | 11 => .int
  | 12 => .array .int
  | 13 => .int
  | 14 => .array .int
  | 15 => .array .boolean
  | 16 => .array .boolean
  | 17 => .array .boolean
  | 18 => .array .boolean
  | 19 => .array .int
  | 20 => .int
  | 21 => .array .int
  | 22 => .array .int
  | _ => .array .boolean
abbrev wsX70 : List Cond := u_ws RX7 TX7 24
theorem nmX7 : ∀ a, a < 24 → ∀ b, b < 24 → a ≠ b → (TX7 a).2.1 ≠ (TX7 b).2.1 := by decide +kernel
theorem tyX7_ok : ∀ k, k < 24 → parseFieldDescriptor (TX7 k).2.2.1 = some (tyX7 k) := by decide +kernel

abbrev vwCl : List vw_C := [(RX0, TX0, 4), (RX1, TX1, 2), (RX2, TX2, 6), (RX3, TX3, 2), (RX4, TX4, 4), (RX5, TX5, 3), (RX6, TX6, 8), (RX7, TX7, 24)]

/-- names of the classes by number -/
def zC : Nat → String := fun k => match k with
  | 0 => RX0
  | 1 => RX1
  | 2 => RX2
  | 3 => RX3
  | 4 => RX4
  | 5 => RX5
  | 6 => RX6
  | 7 => RX7
  | 8 => "java/lang/Math"
  | 9 => "java/util/Arrays"
  | _ => "AbsenceTreeLaw"

def zT : Nat → u_T := fun k => match k with
  | 0 => TX0
  | 1 => TX1
  | 2 => TX2
  | 3 => TX3
  | 4 => TX4
  | 5 => TX5
  | 6 => TX6
  | _ => TX7

def zY : Nat → Nat → FieldType := fun k => match k with
  | 0 => tyX0
  | 1 => tyX1
  | 2 => tyX2
  | 3 => tyX3
  | 4 => tyX4
  | 5 => tyX5
  | 6 => tyX6
  | _ => tyX7

def zN : Nat → Nat := fun k => match k with
  | 0 => 4
  | 1 => 2
  | 2 => 6
  | 3 => 2
  | 4 => 4
  | 5 => 3
  | 6 => 8
  | 7 => 24
  | _ => 0

/-- methods: class, name, code, locals, answer, parameters, kind (0 static, 1 of an object, 2 init), how deep it calls, words of its callees -/
abbrev zM1 : Type := Nat × (String × String) × ByteArray × Nat × Option FieldType × Nat × Nat × Nat × Nat

def zMt0 : List zM1 := [(6, ("<init>", "()V"), prog_1_method_1_code, 1, none, 0, 2, 5, 123),
  (4, ("<init>", "()V"), prog_6_method_1_code, 1, none, 0, 2, 1, 20),
  (3, ("<init>", "()V"), prog_5_method_1_code, 1, none, 0, 2, 1, 20),
  (2, ("<init>", "()V"), prog_4_method_1_code, 1, none, 0, 2, 1, 20),
  (0, ("<init>", "()V"), prog_2_method_1_code, 1, none, 0, 2, 1, 20),
  (5, ("<init>", "()V"), prog_7_method_1_code, 1, none, 0, 2, 2, 40),
  (1, ("<init>", "()V"), prog_3_method_1_code, 1, none, 0, 2, 1, 20),
  (5, ("clear", "(I)V"), prog_7_method_2_code, 3, none, 1, 1, 2, 44),
  (1, ("clear", "(I)V"), prog_3_method_2_code, 2, none, 1, 1, 1, 23),
  (9, ("fill", "([II)V"), prog_16_method_103_code, 4, none, 2, 0, 0, 0),
  (1, ("keys", "()I"), prog_3_method_4_code, 1, (some .int), 0, 1, 0, 0),
  (5, ("join", "(I)V"), prog_7_method_9_code, 2, none, 1, 1, 1, 22),
  (5, ("markAt", "(I)I"), prog_7_method_5_code, 2, (some .int), 1, 1, 0, 0),
  (6, ("mix", "(II)I"), prog_1_method_79_code, 3, (some .int), 2, 0, 0, 0),
  (0, ("begin", "(LAbsenceTree$Tree;)V"), prog_2_method_9_code, 2, none, 1, 1, 4, 102),
  (0, ("hold", "(I)LAbsenceTree$Tree;"), prog_2_method_8_code, 3, (some (.object "AbsenceTree$Tree")), 1, 1, 3, 60),
  (8, ("floorMod", "(II)I"), prog_12_method_50_code, 3, (some .int), 2, 0, 0, 0),
  (5, ("take", "(LAbsenceTree$Tree;)V"), prog_7_method_3_code, 2, none, 1, 1, 2, 81),
  (1, ("take", "(LAbsenceTree$KeySet;)V"), prog_3_method_3_code, 2, none, 1, 1, 1, 60),
  (6, ("sign", "(I)I"), prog_1_method_2_code, 3, (some .int), 1, 1, 1, 21),
  (4, ("append", "(C)V"), prog_6_method_2_code, 2, none, 1, 1, 0, 0),
  (6, ("end", "(I)Z"), prog_1_method_3_code, 2, (some .boolean), 1, 1, 0, 0),
  (6, ("map", "()I"), prog_1_method_4_code, 2, (some .int), 0, 1, 6, 132),
  (6, ("readMap", "()I"), prog_1_method_54_code, 3, (some .int), 0, 1, 5, 110),
  (4, ("rewind", "()V"), prog_6_method_3_code, 1, none, 0, 1, 0, 0),
  (4, ("digit", "()I"), prog_6_method_7_code, 2, (some .int), 0, 1, 1, 20),
  (4, ("peek", "()I"), prog_6_method_6_code, 1, (some .int), 0, 1, 0, 0),
  (4, ("fail", "(I)V"), prog_6_method_4_code, 2, none, 1, 1, 0, 0),
  (4, ("more", "()Z"), prog_6_method_5_code, 1, (some .boolean), 0, 1, 0, 0),
  (1, ("size", "()I"), prog_3_method_5_code, 1, (some .int), 0, 1, 0, 0),
  (4, ("must", "(C)V"), prog_6_method_9_code, 2, none, 1, 1, 2, 41),
  (4, ("pass", "(C)Z"), prog_6_method_8_code, 2, (some .boolean), 1, 1, 1, 20)]

def zMt1 : List zM1 := [(6, ("readPair", "(Z)V"), prog_1_method_57_code, 4, none, 1, 1, 4, 87),
  (6, ("readNewKey", "()I"), prog_1_method_58_code, 2, (some .int), 0, 1, 3, 66),
  (4, ("digits", "(I)J"), prog_6_method_10_code, 6, (some .long), 1, 1, 2, 41),
  (1, ("has", "(I)Z"), prog_3_method_7_code, 2, (some .boolean), 1, 1, 1, 21),
  (1, ("under", "(I)I"), prog_3_method_6_code, 2, (some .int), 1, 1, 0, 0),
  (1, ("change", "(II)V"), prog_3_method_8_code, 4, none, 2, 1, 1, 20),
  (5, ("place", "(II)V"), prog_7_method_8_code, 7, none, 2, 1, 2, 43),
  (5, ("valueOf", "(I)I"), prog_7_method_4_code, 2, (some .int), 1, 1, 1, 20),
  (6, ("leafMark", "(II)I"), prog_1_method_80_code, 2, (some .int), 2, 0, 1, 22),
  (6, ("batch", "()I"), prog_1_method_5_code, 3, (some .int), 0, 1, 6, 131),
  (6, ("readBatch", "()I"), prog_1_method_55_code, 2, (some .int), 0, 1, 5, 110),
  (0, ("newest", "()LAbsenceTree$Tree;"), prog_2_method_7_code, 1, (some (.object "AbsenceTree$Tree")), 0, 1, 4, 82),
  (6, ("settle", "(II)I"), prog_1_method_64_code, 3, (some .int), 2, 1, 4, 102),
  (5, ("isAlike", "(LAbsenceTree$Tree;I)Z"), prog_7_method_11_code, 6, (some .boolean), 2, 1, 2, 41),
  (6, ("levelOf", "(II)I"), prog_1_method_78_code, 4, (some .int), 2, 0, 0, 0),
  (0, ("advance", "()V"), prog_2_method_10_code, 1, none, 0, 1, 1, 21),
  (8, ("max", "(II)I"), prog_12_method_65_code, 2, (some .int), 2, 0, 0, 0),
  (3, ("empty", "()V"), prog_5_method_2_code, 1, none, 0, 1, 0, 0),
  (1, ("work", "()I"), prog_3_method_10_code, 1, (some .int), 0, 1, 2, 45),
  (1, ("nodesIn", "(II)I"), prog_3_method_9_code, 5, (some .int), 2, 1, 1, 21),
  (3, ("add", "(J)V"), prog_5_method_3_code, 3, none, 1, 1, 0, 0),
  (6, ("sheet", "(IIIII)I"), prog_1_method_6_code, 7, (some .int), 5, 1, 5, 124),
  (0, ("hasKey", "(I)Z"), prog_2_method_4_code, 2, (some .boolean), 1, 1, 1, 20),
  (0, ("keys", "()I"), prog_2_method_2_code, 1, (some .int), 0, 1, 0, 0),
  (6, ("sheetValue", "(II)I"), prog_1_method_75_code, 3, (some .int), 2, 0, 1, 21),
  (8, ("min", "(II)I"), prog_12_method_69_code, 2, (some .int), 2, 0, 0, 0),
  (6, ("level", "(II)I"), prog_1_method_7_code, 6, (some .int), 2, 1, 5, 103),
  (0, ("find", "(I)LAbsenceTree$Tree;"), prog_2_method_6_code, 2, (some (.object "AbsenceTree$Tree")), 1, 1, 4, 82),
  (5, ("bareAt", "(I)Z"), prog_7_method_6_code, 2, (some .boolean), 1, 1, 1, 21),
  (6, ("holes", "(I)I"), prog_1_method_8_code, 9, (some .int), 1, 1, 5, 103),
  (6, ("middle", "(I)I"), prog_1_method_9_code, 7, (some .int), 1, 1, 5, 103),
  (5, ("total", "()I"), prog_7_method_7_code, 3, (some .int), 0, 1, 2, 41)]

def zMt2 : List zM1 := [(6, ("root", "(I)I"), prog_1_method_11_code, 3, (some .int), 1, 1, 5, 103),
  (6, ("node", "(III)I"), prog_1_method_12_code, 6, (some .int), 3, 1, 5, 103),
  (6, ("nodes", "(I)I"), prog_1_method_13_code, 5, (some .int), 1, 1, 5, 103),
  (6, ("key", "(II)I"), prog_1_method_14_code, 7, (some .int), 2, 1, 5, 103),
  (6, ("near", "(II)I"), prog_1_method_15_code, 8, (some .int), 2, 1, 5, 103),
  (6, ("sum", "(III)I"), prog_1_method_16_code, 10, (some .int), 3, 1, 5, 103),
  (0, ("hasStretch", "(II)Z"), prog_2_method_5_code, 3, (some .boolean), 2, 1, 2, 41),
  (6, ("with", "(II)I"), prog_1_method_17_code, 5, (some .int), 2, 1, 5, 103),
  (6, ("proof", "(II)I"), prog_1_method_18_code, 7, (some .int), 2, 1, 5, 103),
  (2, ("begin", "(III)V"), prog_4_method_2_code, 4, none, 3, 1, 0, 0),
  (2, ("add", "(I)V"), prog_4_method_4_code, 2, none, 1, 1, 0, 0),
  (6, ("tellHeld", "()V"), prog_1_method_66_code, 2, none, 0, 1, 1, 22),
  (6, ("alters", "(II)Z"), prog_1_method_19_code, 3, (some .boolean), 2, 1, 1, 22),
  (2, ("change", "(II)Z"), prog_4_method_6_code, 3, (some .boolean), 2, 1, 0, 0),
  (6, ("told", "()I"), prog_1_method_20_code, 2, (some .int), 0, 1, 5, 114),
  (6, ("readProof", "()I"), prog_1_method_59_code, 4, (some .int), 0, 1, 4, 91),
  (6, ("readByte", "()I"), prog_1_method_60_code, 2, (some .int), 0, 1, 3, 66),
  (6, ("readMark", "()I"), prog_1_method_61_code, 6, (some .int), 0, 1, 3, 66),
  (2, ("take", "(LAbsenceTree$Proof;)V"), prog_4_method_3_code, 2, none, 1, 1, 1, 60),
  (6, ("hand", "()I"), prog_1_method_21_code, 1, (some .int), 0, 1, 2, 43),
  (6, ("accepts", "(I)I"), prog_1_method_22_code, 5, (some .int), 1, 1, 5, 103),
  (2, ("climb", "(I)I"), prog_4_method_7_code, 7, (some .int), 1, 1, 2, 43),
  (2, ("markOf", "(I)I"), prog_4_method_5_code, 2, (some .int), 1, 1, 0, 0),
  (6, ("accepted", "()I"), prog_1_method_23_code, 4, (some .int), 0, 1, 4, 82),
  (6, ("bare", "(II)I"), prog_1_method_24_code, 7, (some .int), 2, 1, 5, 103),
  (5, ("besideFrom", "(I)I"), prog_7_method_10_code, 4, (some .int), 1, 1, 2, 42),
  (6, ("together", "(I)I"), prog_1_method_25_code, 6, (some .int), 1, 1, 5, 108),
  (6, ("readKeys", "()I"), prog_1_method_56_code, 2, (some .int), 0, 1, 4, 87),
  (6, ("needed", "(LAbsenceTree$Tree;)I"), prog_1_method_69_code, 4, (some .int), 1, 1, 3, 64),
  (6, ("isNeeded", "(LAbsenceTree$Tree;I)Z"), prog_1_method_68_code, 3, (some .boolean), 2, 1, 2, 42),
  (6, ("others", "(II)I"), prog_1_method_26_code, 7, (some .int), 2, 1, 5, 103),
  (6, ("path", "(II)I"), prog_1_method_27_code, 7, (some .int), 2, 1, 5, 103)]

def zMt3 : List zM1 := [(6, ("stretch", "(III)I"), prog_1_method_28_code, 7, (some .int), 3, 1, 5, 103),
  (6, ("widestLevel", "(II)I"), prog_1_method_74_code, 5, (some .int), 2, 0, 0, 0),
  (6, ("forks", "(III)I"), prog_1_method_29_code, 7, (some .int), 3, 1, 5, 103),
  (6, ("shared", "(II)I"), prog_1_method_30_code, 8, (some .int), 2, 1, 5, 103),
  (6, ("chooseUnlike", "(LAbsenceTree$Tree;LAbsenceTree$Tree;)V"), prog_1_method_67_code, 4, none, 2, 1, 2, 44),
  (6, ("differ", "(II)I"), prog_1_method_31_code, 6, (some .int), 2, 1, 5, 103),
  (6, ("looks", "(II)I"), prog_1_method_32_code, 5, (some .int), 2, 1, 5, 103),
  (6, ("all", "()I"), prog_1_method_33_code, 5, (some .int), 0, 1, 6, 130),
  (6, ("newNodes", "(I)I"), prog_1_method_70_code, 5, (some .int), 1, 1, 5, 106),
  (6, ("wasBefore", "(ILAbsenceTree$Tree;I)Z"), prog_1_method_71_code, 5, (some .boolean), 3, 1, 4, 82),
  (6, ("history", "(I)I"), prog_1_method_34_code, 6, (some .int), 1, 1, 4, 82),
  (6, ("hot", "()I"), prog_1_method_35_code, 5, (some .int), 0, 1, 5, 107),
  (6, ("changesOf", "(I)I"), prog_1_method_72_code, 6, (some .int), 1, 1, 4, 82),
  (6, ("would", "(III)I"), prog_1_method_36_code, 7, (some .int), 3, 1, 5, 103),
  (6, ("against", "(III)I"), prog_1_method_37_code, 8, (some .int), 3, 1, 5, 103),
  (6, ("isDisputed", "(III)Z"), prog_1_method_73_code, 3, (some .boolean), 3, 0, 0, 0),
  (6, ("versions", "()I"), prog_1_method_38_code, 1, (some .int), 0, 1, 1, 22),
  (0, ("kept", "()I"), prog_2_method_3_code, 1, (some .int), 0, 1, 0, 0),
  (6, ("since", "(I)I"), prog_1_method_39_code, 5, (some .int), 1, 1, 5, 102),
  (6, ("puts", "(II)I"), prog_1_method_40_code, 3, (some .int), 2, 1, 5, 124),
  (6, ("moves", "(II)I"), prog_1_method_41_code, 4, (some .int), 2, 1, 5, 125),
  (6, ("draftExchange", "(LAbsenceTree$Tree;II)V"), prog_1_method_65_code, 4, none, 3, 1, 3, 102),
  (6, ("flips", "(I)I"), prog_1_method_42_code, 4, (some .int), 1, 1, 5, 124),
  (6, ("swaps", "(II)I"), prog_1_method_43_code, 3, (some .int), 2, 1, 5, 125),
  (6, ("back", "(I)I"), prog_1_method_44_code, 3, (some .int), 1, 1, 5, 124),
  (6, ("joins", "(III)I"), prog_1_method_45_code, 12, (some .int), 3, 1, 5, 124),
  (6, ("clears", "(II)I"), prog_1_method_46_code, 4, (some .int), 2, 1, 5, 124),
  (6, ("day", "()I"), prog_1_method_47_code, 5, (some .int), 0, 1, 7, 171),
  (6, ("checkDay", "()I"), prog_1_method_62_code, 3, (some .int), 0, 1, 3, 65),
  (4, ("fixed", "(I)I"), prog_6_method_11_code, 5, (some .int), 1, 1, 2, 41),
  (6, ("doAct", "()I"), prog_1_method_63_code, 4, (some .int), 0, 1, 6, 148),
  (6, ("undo", "()I"), prog_1_method_48_code, 1, (some .int), 0, 1, 1, 20)]

def zMt4 : List zM1 := [(6, ("years", "(II)I"), prog_1_method_49_code, 7, (some .int), 2, 1, 5, 102),
  (6, ("nextDraw", "(I)I"), prog_1_method_76_code, 1, (some .int), 1, 0, 0, 0),
  (6, ("part", "(II)I"), prog_1_method_77_code, 2, (some .int), 2, 0, 0, 0),
  (6, ("keep", "(I)Z"), prog_1_method_50_code, 2, (some .boolean), 1, 1, 5, 124),
  (0, ("take", "(LAbsenceTree$History;)V"), prog_2_method_11_code, 3, none, 1, 1, 4, 102),
  (6, ("again", "(I)Z"), prog_1_method_51_code, 2, (some .boolean), 1, 1, 5, 124),
  (6, ("count", "(I)I"), prog_1_method_52_code, 2, (some .int), 1, 1, 5, 102),
  (6, ("get", "(II)I"), prog_1_method_10_code, 4, (some .int), 2, 1, 5, 103),
  (6, ("row", "(I)J"), prog_1_method_53_code, 2, (some .long), 1, 1, 1, 20),
  (7, ("<init>", "()V"), prog_9_method_1_code, 1, none, 0, 2, 1, 20),
  (7, ("thrown", "()I"), prog_9_method_2_code, 1, (some .int), 0, 1, 0, 0),
  (7, ("sign", "(I)I"), prog_9_method_19_code, 3, (some .int), 1, 1, 0, 0),
  (7, ("end", "(I)Z"), prog_9_method_20_code, 2, (some .boolean), 1, 1, 1, 22),
  (7, ("in", "(III)Z"), prog_9_method_3_code, 3, (some .boolean), 3, 0, 0, 0),
  (7, ("map", "()I"), prog_9_method_33_code, 3, (some .int), 0, 1, 6, 132),
  (7, ("begin", "()V"), prog_9_method_21_code, 1, none, 0, 1, 0, 0),
  (7, ("oneOf", "(CI)I"), prog_9_method_25_code, 3, (some .int), 2, 1, 2, 41),
  (7, ("fine", "()Z"), prog_9_method_23_code, 1, (some .boolean), 0, 1, 0, 0),
  (7, ("here", "()I"), prog_9_method_22_code, 1, (some .int), 0, 1, 0, 0),
  (7, ("fault", "(I)V"), prog_9_method_24_code, 2, none, 1, 1, 1, 20),
  (7, ("readPair", "(IZ)V"), prog_9_method_32_code, 6, none, 2, 1, 5, 107),
  (7, ("readKey", "(I)I"), prog_9_method_31_code, 3, (some .int), 1, 1, 4, 85),
  (7, ("number", "()I"), prog_9_method_27_code, 3, (some .int), 0, 1, 3, 63),
  (7, ("isRead", "(I)Z"), prog_9_method_30_code, 3, (some .boolean), 1, 1, 0, 0),
  (7, ("wasRight", "()Z"), prog_9_method_29_code, 1, (some .boolean), 0, 1, 2, 41),
  (7, ("told", "()I"), prog_9_method_36_code, 5, (some .int), 0, 1, 5, 106),
  (7, ("byteNumber", "()I"), prog_9_method_34_code, 2, (some .int), 0, 1, 4, 85),
  (7, ("mark", "()I"), prog_9_method_35_code, 5, (some .int), 0, 1, 3, 63),
  (7, ("passes", "(C)Z"), prog_9_method_28_code, 2, (some .boolean), 1, 1, 1, 20),
  (7, ("batch", "()I"), prog_9_method_44_code, 3, (some .int), 0, 1, 6, 132),
  (7, ("keys", "()I"), prog_9_method_7_code, 1, (some .int), 0, 1, 0, 0),
  (7, ("latest", "()I"), prog_9_method_9_code, 1, (some .int), 0, 1, 0, 0)]

def zMt5 : List zM1 := [(7, ("layNext", "(I)V"), prog_9_method_37_code, 3, none, 1, 1, 2, 44),
  (7, ("value", "(II)I"), prog_9_method_12_code, 3, (some .int), 2, 1, 1, 22),
  (7, ("at", "(II)I"), prog_9_method_11_code, 3, (some .int), 2, 1, 0, 0),
  (7, ("clearOver", "()V"), prog_9_method_41_code, 2, none, 0, 1, 0, 0),
  (7, ("markOver", "(I)V"), prog_9_method_42_code, 3, none, 1, 1, 1, 20),
  (7, ("nextMany", "()I"), prog_9_method_38_code, 3, (some .int), 0, 1, 0, 0),
  (7, ("isNow", "()Z"), prog_9_method_39_code, 2, (some .boolean), 0, 1, 2, 44),
  (7, ("work", "()I"), prog_9_method_43_code, 3, (some .int), 0, 1, 1, 20),
  (7, ("tell", "(J)V"), prog_9_method_5_code, 3, none, 1, 1, 0, 0),
  (7, ("depth", "()I"), prog_9_method_6_code, 1, (some .int), 0, 1, 0, 0),
  (7, ("makes", "()I"), prog_9_method_40_code, 2, (some .int), 0, 1, 1, 22),
  (7, ("sheet", "(IIIII)I"), prog_9_method_46_code, 7, (some .int), 5, 1, 3, 66),
  (7, ("isKey", "(I)Z"), prog_9_method_8_code, 2, (some .boolean), 1, 1, 1, 22),
  (7, ("entryOf", "(IIII)I"), prog_9_method_45_code, 5, (some .int), 4, 0, 0, 0),
  (7, ("get", "(II)I"), prog_9_method_47_code, 3, (some .int), 2, 1, 2, 44),
  (7, ("isVersion", "(I)Z"), prog_9_method_10_code, 2, (some .boolean), 1, 1, 1, 22),
  (7, ("lost", "()I"), prog_9_method_4_code, 1, (some .int), 0, 1, 0, 0),
  (7, ("root", "(I)I"), prog_9_method_48_code, 2, (some .int), 1, 1, 3, 67),
  (7, ("lay", "(I)V"), prog_9_method_17_code, 3, none, 1, 1, 2, 44),
  (7, ("leaf", "(II)I"), prog_9_method_16_code, 2, (some .int), 2, 0, 1, 22),
  (7, ("hash", "(II)I"), prog_9_method_13_code, 3, (some .int), 2, 0, 0, 0),
  (7, ("valued", "(I)I"), prog_9_method_14_code, 4, (some .int), 1, 1, 2, 44),
  (7, ("node", "(III)I"), prog_9_method_49_code, 4, (some .int), 3, 1, 3, 66),
  (7, ("place", "(II)I"), prog_9_method_15_code, 3, (some .int), 2, 1, 1, 20),
  (7, ("level", "(II)I"), prog_9_method_52_code, 4, (some .int), 2, 1, 3, 66),
  (7, ("holes", "(I)I"), prog_9_method_53_code, 8, (some .int), 1, 1, 3, 67),
  (7, ("middle", "(I)I"), prog_9_method_54_code, 5, (some .int), 1, 1, 2, 44),
  (7, ("nodes", "(I)I"), prog_9_method_55_code, 4, (some .int), 1, 1, 4, 89),
  (7, ("filledAll", "(I)I"), prog_9_method_51_code, 4, (some .int), 1, 1, 3, 66),
  (7, ("filled", "(I)I"), prog_9_method_50_code, 4, (some .int), 1, 1, 2, 42),
  (7, ("key", "(II)I"), prog_9_method_56_code, 5, (some .int), 2, 1, 3, 67),
  (7, ("near", "(II)I"), prog_9_method_57_code, 7, (some .int), 2, 1, 2, 44)]

def zMt6 : List zM1 := [(7, ("sum", "(III)I"), prog_9_method_59_code, 8, (some .int), 3, 1, 3, 65),
  (7, ("isSpan", "(II)Z"), prog_9_method_58_code, 3, (some .boolean), 2, 1, 2, 43),
  (7, ("with", "(II)I"), prog_9_method_60_code, 4, (some .int), 2, 1, 2, 44),
  (7, ("proof", "(II)I"), prog_9_method_62_code, 5, (some .int), 2, 1, 3, 66),
  (7, ("sibling", "(I)I"), prog_9_method_61_code, 1, (some .int), 1, 0, 0, 0),
  (7, ("tellHand", "(I)V"), prog_9_method_63_code, 3, none, 1, 1, 1, 22),
  (7, ("alters", "(II)Z"), prog_9_method_64_code, 3, (some .boolean), 2, 1, 1, 22),
  (7, ("hand", "()I"), prog_9_method_65_code, 1, (some .int), 0, 1, 2, 44),
  (7, ("accepts", "(I)I"), prog_9_method_68_code, 2, (some .int), 1, 1, 4, 89),
  (7, ("comesTo", "()I"), prog_9_method_66_code, 5, (some .int), 0, 1, 2, 44),
  (7, ("bareMark", "(I)I"), prog_9_method_18_code, 3, (some .int), 1, 0, 1, 22),
  (7, ("isAccepted", "(I)Z"), prog_9_method_67_code, 2, (some .boolean), 1, 1, 3, 68),
  (7, ("accepted", "()I"), prog_9_method_69_code, 2, (some .int), 0, 1, 4, 89),
  (7, ("bare", "(II)I"), prog_9_method_70_code, 7, (some .int), 2, 1, 3, 66),
  (7, ("together", "(I)I"), prog_9_method_73_code, 5, (some .int), 1, 1, 5, 107),
  (7, ("proofMany", "(I)I"), prog_9_method_72_code, 4, (some .int), 1, 1, 1, 20),
  (7, ("layNeed", "()I"), prog_9_method_71_code, 3, (some .int), 0, 1, 1, 20),
  (7, ("others", "(II)I"), prog_9_method_74_code, 6, (some .int), 2, 1, 3, 66),
  (7, ("shared", "(II)I"), prog_9_method_76_code, 7, (some .int), 2, 1, 4, 89),
  (7, ("layAlike", "(II)V"), prog_9_method_75_code, 4, none, 2, 1, 2, 44),
  (7, ("differ", "(II)I"), prog_9_method_77_code, 4, (some .int), 2, 1, 2, 44),
  (7, ("looks", "(II)I"), prog_9_method_78_code, 5, (some .int), 2, 1, 3, 67),
  (7, ("all", "()I"), prog_9_method_79_code, 6, (some .int), 0, 1, 4, 89),
  (7, ("versions", "()I"), prog_9_method_80_code, 1, (some .int), 0, 1, 1, 22),
  (7, ("since", "(I)I"), prog_9_method_81_code, 3, (some .int), 1, 1, 2, 44),
  (7, ("path", "(II)I"), prog_9_method_82_code, 5, (some .int), 2, 1, 3, 66),
  (7, ("stretch", "(III)I"), prog_9_method_84_code, 7, (some .int), 3, 1, 3, 66),
  (7, ("isWithin", "(IIII)Z"), prog_9_method_83_code, 4, (some .boolean), 4, 0, 0, 0),
  (7, ("forks", "(III)I"), prog_9_method_85_code, 8, (some .int), 3, 1, 2, 44),
  (7, ("history", "(I)I"), prog_9_method_86_code, 4, (some .int), 1, 1, 2, 44),
  (7, ("hot", "()I"), prog_9_method_88_code, 3, (some .int), 0, 1, 3, 67),
  (7, ("changesOf", "(I)I"), prog_9_method_87_code, 4, (some .int), 1, 1, 2, 44)]

def zMt7 : List zM1 := [(7, ("would", "(III)I"), prog_9_method_89_code, 8, (some .int), 3, 1, 3, 67),
  (7, ("against", "(III)I"), prog_9_method_92_code, 5, (some .int), 3, 1, 3, 68),
  (7, ("areVersions", "(III)Z"), prog_9_method_90_code, 4, (some .boolean), 3, 1, 2, 43),
  (7, ("isAgainst", "(IIII)Z"), prog_9_method_91_code, 5, (some .boolean), 4, 1, 2, 44),
  (7, ("joins", "(III)I"), prog_9_method_93_code, 6, (some .int), 3, 1, 3, 68),
  (7, ("puts", "(II)I"), prog_9_method_95_code, 3, (some .int), 2, 1, 4, 88),
  (7, ("goPut", "(II)I"), prog_9_method_94_code, 3, (some .int), 2, 1, 3, 66),
  (7, ("moves", "(II)I"), prog_9_method_97_code, 3, (some .int), 2, 1, 4, 88),
  (7, ("goMove", "(II)I"), prog_9_method_96_code, 3, (some .int), 2, 1, 3, 66),
  (7, ("swaps", "(II)I"), prog_9_method_99_code, 3, (some .int), 2, 1, 4, 89),
  (7, ("goSwap", "(II)I"), prog_9_method_98_code, 4, (some .int), 2, 1, 3, 66),
  (7, ("back", "(I)I"), prog_9_method_101_code, 2, (some .int), 1, 1, 4, 87),
  (7, ("goBack", "(I)I"), prog_9_method_100_code, 2, (some .int), 1, 1, 3, 66),
  (7, ("clears", "(II)I"), prog_9_method_103_code, 3, (some .int), 2, 1, 4, 89),
  (7, ("goClear", "(II)I"), prog_9_method_102_code, 4, (some .int), 2, 1, 3, 66),
  (7, ("flips", "(I)I"), prog_9_method_104_code, 3, (some .int), 1, 1, 3, 66),
  (7, ("day", "()I"), prog_9_method_107_code, 3, (some .int), 0, 1, 5, 112),
  (7, ("readAct", "(I)V"), prog_9_method_105_code, 3, none, 1, 1, 4, 86),
  (7, ("digits", "(I)I"), prog_9_method_26_code, 4, (some .int), 1, 1, 3, 63),
  (7, ("act", "(I)I"), prog_9_method_106_code, 4, (some .int), 1, 1, 4, 89),
  (7, ("undo", "()I"), prog_9_method_108_code, 2, (some .int), 0, 1, 1, 22),
  (7, ("years", "(II)I"), prog_9_method_110_code, 7, (some .int), 2, 1, 4, 89),
  (7, ("draw", "(I)I"), prog_9_method_109_code, 2, (some .int), 1, 1, 0, 0),
  (7, ("keep", "(I)Z"), prog_9_method_111_code, 3, (some .boolean), 1, 1, 1, 22),
  (7, ("again", "(I)Z"), prog_9_method_112_code, 3, (some .boolean), 1, 1, 1, 22),
  (7, ("count", "(I)I"), prog_9_method_114_code, 2, (some .int), 1, 1, 3, 67),
  (7, ("valueAll", "()I"), prog_9_method_113_code, 3, (some .int), 0, 1, 2, 44),
  (7, ("row", "(I)J"), prog_9_method_115_code, 2, (some .long), 1, 1, 1, 22)]

def zM0 : zM1 := (99, ("", ""), ⟨#[]⟩, 0, none, 0, 9, 0, 0)

def zM (i : Nat) : zM1 := match i / 32 with
  | 0 => zMt0.getD (i % 32) zM0
  | 1 => zMt1.getD (i % 32) zM0
  | 2 => zMt2.getD (i % 32) zM0
  | 3 => zMt3.getD (i % 32) zM0
  | 4 => zMt4.getD (i % 32) zM0
  | 5 => zMt5.getD (i % 32) zM0
  | 6 => zMt6.getD (i % 32) zM0
  | 7 => zMt7.getD (i % 32) zM0
  | _ => zM0

def mO (i : Nat) : Nat := (zM i).1
def mY (i : Nat) : MethodName := ⟨zC (mO i), (zM i).2.1.1, (zM i).2.1.2⟩
def mB (i : Nat) : ByteArray := (zM i).2.2.1
def mL (i : Nat) : Nat := (zM i).2.2.2.1
def mR (i : Nat) : Option FieldType := (zM i).2.2.2.2.1
def mP (i : Nat) : Nat := (zM i).2.2.2.2.2.1
def mK (i : Nat) : Nat := (zM i).2.2.2.2.2.2.1
def mH (i : Nat) : Nat := (zM i).2.2.2.2.2.2.2.1
def mW (i : Nat) : Nat := (zM i).2.2.2.2.2.2.2.2

def zFt : List ((Nat × Nat) × (Nat × Nat)) := [((4, 9), (4, 0)),
  ((4, 15), (4, 1)),
  ((6, 66), (4, 1)),
  ((4, 19), (4, 2)),
  ((6, 285), (4, 2)),
  ((4, 22), (4, 3)),
  ((6, 282), (4, 3)),
  ((3, 9), (3, 0)),
  ((6, 272), (3, 0)),
  ((3, 15), (3, 1)),
  ((6, 135), (3, 1)),
  ((2, 9), (2, 0)),
  ((6, 340), (2, 0)),
  ((2, 15), (2, 1)),
  ((6, 78), (2, 1)),
  ((2, 19), (2, 2)),
  ((6, 176), (2, 2)),
  ((2, 23), (2, 3)),
  ((6, 179), (2, 3)),
  ((2, 26), (2, 4)),
  ((6, 164), (2, 4)),
  ((2, 29), (2, 5)),
  ((6, 172), (2, 5)),
  ((0, 11), (0, 0)),
  ((0, 17), (0, 1)),
  ((6, 104), (0, 1)),
  ((0, 24), (0, 2)),
  ((6, 191), (0, 2)),
  ((0, 21), (0, 3)),
  ((6, 194), (0, 3)),
  ((1, 9), (1, 0)),
  ((1, 15), (1, 1)),
  ((0, 50), (1, 1)),
  ((5, 77), (1, 1)),
  ((5, 9), (5, 0)),
  ((5, 15), (5, 1)),
  ((5, 21), (5, 2)),
  ((6, 82), (5, 2)),
  ((0, 46), (5, 2)),
  ((6, 12), (6, 0)),
  ((6, 19), (6, 1)),
  ((6, 26), (6, 2)),
  ((6, 30), (6, 3)),
  ((6, 36), (6, 4)),
  ((6, 40), (6, 5)),
  ((6, 47), (6, 6)),
  ((6, 54), (6, 7)),
  ((7, 9), (7, 0)),
  ((7, 13), (7, 1)),
  ((7, 16), (7, 2)),
  ((7, 96), (7, 3)),
  ((7, 20), (7, 4)),
  ((7, 65), (7, 5)),
  ((7, 61), (7, 6)),
  ((7, 24), (7, 7)),
  ((7, 27), (7, 8)),
  ((7, 99), (7, 9)),
  ((7, 102), (7, 10)),
  ((7, 105), (7, 11)),
  ((7, 31), (7, 12)),
  ((7, 123), (7, 13)),
  ((7, 34), (7, 14)),
  ((7, 37), (7, 15)),
  ((7, 40), (7, 16)),
  ((7, 43), (7, 17)),
  ((7, 46), (7, 18)),
  ((7, 49), (7, 19)),
  ((7, 292), (7, 20)),
  ((7, 52), (7, 21)),
  ((7, 55), (7, 22)),
  ((7, 58), (7, 23))]

def zCt : List ((Nat × Nat) × (Nat × Nat)) := [((10, 19), (0, 0)),
  ((6, 11), (1, 1)),
  ((6, 18), (2, 1)),
  ((6, 25), (3, 1)),
  ((6, 35), (4, 1)),
  ((6, 46), (5, 1)),
  ((5, 20), (6, 1)),
  ((6, 53), (6, 1)),
  ((6, 58), (7, 1)),
  ((5, 25), (8, 1)),
  ((1, 19), (9, 0)),
  ((5, 29), (9, 0)),
  ((5, 35), (10, 1)),
  ((5, 39), (11, 0)),
  ((5, 67), (12, 0)),
  ((5, 70), (13, 1)),
  ((6, 62), (14, 1)),
  ((0, 35), (15, 0)),
  ((0, 39), (16, 0)),
  ((0, 45), (5, 1)),
  ((0, 53), (17, 1)),
  ((5, 42), (18, 1)),
  ((10, 23), (19, 0)),
  ((6, 70), (20, 1)),
  ((10, 28), (21, 0)),
  ((10, 33), (22, 0)),
  ((6, 74), (23, 0)),
  ((6, 253), (24, 1)),
  ((6, 276), (25, 1)),
  ((4, 25), (26, 0)),
  ((6, 279), (27, 1)),
  ((6, 225), (8, 1)),
  ((6, 256), (28, 1)),
  ((6, 85), (29, 1)),
  ((6, 288), (30, 1)),
  ((4, 29), (31, 0)),
  ((4, 33), (27, 0)),
  ((6, 291), (32, 0)),
  ((6, 295), (33, 0)),
  ((6, 298), (34, 1)),
  ((4, 37), (25, 0)),
  ((6, 302), (10, 1)),
  ((6, 206), (35, 1)),
  ((1, 31), (10, 0)),
  ((1, 35), (36, 0)),
  ((6, 216), (37, 1)),
  ((6, 124), (38, 1)),
  ((5, 56), (39, 0)),
  ((5, 59), (37, 1)),
  ((5, 63), (40, 1)),
  ((6, 353), (13, 0)),
  ((10, 38), (41, 0)),
  ((6, 87), (42, 0)),
  ((6, 114), (43, 1)),
  ((6, 118), (17, 1)),
  ((6, 90), (44, 0)),
  ((6, 197), (15, 1)),
  ((6, 334), (45, 1)),
  ((5, 81), (46, 1)),
  ((6, 337), (47, 1)),
  ((0, 57), (48, 0)),
  ((6, 94), (49, 1)),
  ((6, 97), (50, 1)),
  ((1, 45), (51, 0)),
  ((1, 39), (48, 0)),
  ((1, 48), (29, 0)),
  ((6, 100), (52, 1)),
  ((10, 42), (53, 0)),
  ((6, 107), (54, 1)),
  ((0, 27), (55, 0)),
  ((6, 111), (55, 1)),
  ((6, 121), (56, 0)),
  ((6, 348), (57, 0)),
  ((6, 156), (48, 0)),
  ((10, 47), (58, 0)),
  ((6, 128), (59, 1)),
  ((6, 132), (60, 1)),
  ((5, 52), (36, 1)),
  ((10, 51), (61, 0)),
  ((10, 55), (62, 0)),
  ((6, 136), (63, 1)),
  ((6, 139), (39, 1)),
  ((10, 68), (64, 0)),
  ((6, 146), (12, 1)),
  ((10, 72), (65, 0)),
  ((10, 77), (66, 0)),
  ((6, 149), (51, 1)),
  ((10, 81), (67, 0)),
  ((10, 85), (68, 0)),
  ((10, 89), (69, 0)),
  ((6, 152), (70, 1)),
  ((0, 31), (54, 0)),
  ((10, 93), (71, 0)),
  ((10, 97), (72, 0)),
  ((6, 161), (73, 1)),
  ((6, 167), (74, 1)),
  ((6, 169), (75, 0)),
  ((10, 101), (76, 0)),
  ((6, 173), (77, 1)),
  ((10, 106), (78, 0)),
  ((6, 182), (79, 0)),
  ((6, 303), (80, 0)),
  ((6, 306), (81, 0)),
  ((6, 309), (31, 1)),
  ((6, 185), (82, 1)),
  ((2, 32), (73, 0)),
  ((10, 110), (83, 0)),
  ((10, 114), (84, 0)),
  ((6, 188), (85, 1)),
  ((2, 42), (40, 1)),
  ((2, 46), (86, 0)),
  ((2, 50), (13, 1)),
  ((10, 118), (87, 0)),
  ((10, 122), (88, 0)),
  ((6, 200), (89, 1)),
  ((5, 73), (60, 0)),
  ((10, 126), (90, 0)),
  ((6, 203), (91, 0)),
  ((6, 209), (92, 0)),
  ((6, 218), (93, 0)),
  ((6, 226), (36, 1)),
  ((10, 130), (94, 0)),
  ((6, 213), (18, 1)),
  ((10, 134), (95, 0)),
  ((10, 138), (96, 0)),
  ((6, 222), (97, 0)),
  ((10, 142), (98, 0)),
  ((10, 146), (99, 0)),
  ((6, 229), (100, 0)),
  ((10, 150), (101, 0)),
  ((10, 154), (102, 0)),
  ((10, 158), (103, 0)),
  ((6, 233), (104, 0)),
  ((6, 344), (105, 0)),
  ((10, 162), (106, 0)),
  ((10, 166), (107, 0)),
  ((6, 236), (108, 0)),
  ((10, 170), (109, 0)),
  ((10, 174), (110, 0)),
  ((6, 239), (111, 0)),
  ((10, 178), (112, 0)),
  ((6, 243), (113, 1)),
  ((10, 182), (114, 0)),
  ((10, 186), (115, 0)),
  ((10, 190), (116, 0)),
  ((6, 246), (117, 0)),
  ((10, 194), (118, 0)),
  ((10, 198), (119, 0)),
  ((10, 202), (120, 0)),
  ((10, 206), (121, 0)),
  ((10, 210), (122, 0)),
  ((10, 214), (123, 0)),
  ((6, 250), (124, 0)),
  ((6, 313), (26, 1)),
  ((6, 316), (125, 1)),
  ((6, 260), (126, 0)),
  ((6, 319), (120, 0)),
  ((6, 322), (115, 0)),
  ((6, 325), (116, 0)),
  ((6, 328), (119, 0)),
  ((6, 331), (122, 0)),
  ((10, 218), (127, 0)),
  ((10, 222), (128, 0)),
  ((6, 263), (129, 0)),
  ((6, 266), (130, 0)),
  ((10, 226), (131, 0)),
  ((6, 269), (132, 1)),
  ((10, 230), (133, 0)),
  ((10, 234), (134, 0)),
  ((10, 7), (135, 0)),
  ((10, 15), (136, 0)),
  ((10, 22), (137, 0)),
  ((10, 65), (138, 0)),
  ((10, 27), (139, 0)),
  ((10, 32), (140, 0)),
  ((7, 72), (141, 0)),
  ((10, 37), (142, 0)),
  ((7, 137), (143, 0)),
  ((7, 119), (144, 0)),
  ((7, 108), (145, 0)),
  ((7, 112), (146, 0)),
  ((7, 115), (147, 0)),
  ((7, 140), (148, 0)),
  ((7, 133), (149, 0)),
  ((7, 126), (150, 0)),
  ((7, 129), (151, 0)),
  ((7, 144), (152, 0)),
  ((10, 109), (153, 0)),
  ((7, 159), (154, 0)),
  ((7, 162), (155, 0)),
  ((7, 147), (156, 0)),
  ((10, 41), (157, 0)),
  ((7, 68), (158, 0)),
  ((7, 76), (159, 0)),
  ((7, 165), (160, 0)),
  ((7, 84), (161, 0)),
  ((7, 79), (162, 0)),
  ((7, 168), (163, 0)),
  ((7, 171), (164, 0)),
  ((7, 174), (165, 0)),
  ((7, 177), (166, 0)),
  ((7, 180), (167, 0)),
  ((7, 183), (168, 0)),
  ((7, 87), (169, 0)),
  ((7, 187), (170, 0)),
  ((10, 46), (171, 0)),
  ((7, 190), (172, 0)),
  ((7, 193), (173, 0)),
  ((7, 197), (57, 0)),
  ((7, 202), (48, 0)),
  ((10, 64), (174, 0)),
  ((7, 205), (175, 0)),
  ((7, 208), (176, 0)),
  ((10, 71), (177, 0)),
  ((7, 211), (178, 0)),
  ((7, 93), (179, 0)),
  ((7, 90), (180, 0)),
  ((7, 214), (181, 0)),
  ((10, 76), (182, 0)),
  ((7, 217), (183, 0)),
  ((10, 50), (184, 0)),
  ((10, 54), (185, 0)),
  ((10, 58), (186, 0)),
  ((10, 80), (187, 0)),
  ((7, 223), (188, 0)),
  ((7, 220), (189, 0)),
  ((10, 84), (190, 0)),
  ((10, 88), (191, 0)),
  ((10, 92), (192, 0)),
  ((7, 226), (193, 0)),
  ((10, 96), (194, 0)),
  ((10, 100), (195, 0)),
  ((7, 230), (196, 0)),
  ((7, 233), (197, 0)),
  ((10, 105), (198, 0)),
  ((10, 113), (199, 0)),
  ((10, 117), (200, 0)),
  ((7, 239), (201, 0)),
  ((7, 236), (202, 0)),
  ((7, 242), (203, 0)),
  ((10, 121), (204, 0)),
  ((10, 125), (205, 0)),
  ((10, 129), (206, 0)),
  ((7, 245), (207, 0)),
  ((7, 248), (208, 0)),
  ((10, 133), (209, 0)),
  ((10, 149), (210, 0)),
  ((7, 251), (211, 0)),
  ((10, 153), (212, 0)),
  ((10, 157), (213, 0)),
  ((10, 161), (214, 0)),
  ((10, 181), (215, 0)),
  ((10, 185), (216, 0)),
  ((10, 137), (217, 0)),
  ((10, 141), (218, 0)),
  ((7, 255), (219, 0)),
  ((10, 145), (220, 0)),
  ((10, 165), (221, 0)),
  ((10, 169), (222, 0)),
  ((7, 259), (223, 0)),
  ((10, 173), (224, 0)),
  ((10, 177), (225, 0)),
  ((7, 262), (226, 0)),
  ((7, 265), (227, 0)),
  ((10, 209), (228, 0)),
  ((10, 189), (229, 0)),
  ((7, 268), (230, 0)),
  ((10, 193), (231, 0)),
  ((7, 271), (232, 0)),
  ((10, 201), (233, 0)),
  ((7, 274), (234, 0)),
  ((10, 205), (235, 0)),
  ((7, 277), (236, 0)),
  ((10, 213), (237, 0)),
  ((7, 280), (238, 0)),
  ((10, 197), (239, 0)),
  ((10, 217), (240, 0)),
  ((7, 286), (241, 0)),
  ((7, 283), (242, 0)),
  ((7, 289), (243, 0)),
  ((10, 221), (244, 0)),
  ((10, 225), (245, 0)),
  ((7, 296), (246, 0)),
  ((10, 229), (247, 0)),
  ((10, 233), (248, 0)),
  ((10, 237), (249, 0)),
  ((7, 299), (250, 0)),
  ((10, 241), (251, 0))]

def zNt : List ((Nat × Nat) × Nat) := [((10, 8), 6),
  ((6, 9), 4),
  ((6, 16), 3),
  ((6, 23), 2),
  ((6, 33), 0),
  ((0, 9), 5),
  ((6, 44), 5),
  ((5, 18), 1),
  ((6, 51), 1),
  ((10, 20), 7)]

def zIt : List ((Nat × Nat) × Int32) := [((6, 352), -1640531535),
  ((6, 351), 1103515245),
  ((7, 83), -1640531535),
  ((7, 295), 1103515245)]

def zLt : List ((Nat × Nat) × Int64) := [((4, 40), 10),
  ((7, 151), 10),
  ((7, 155), -2147483648),
  ((7, 157), 2147483647)]

def zF (o j : Nat) : Option (Nat × Nat) := zFt.lookup (o, j)
def zCa (o j : Nat) : Option (Nat × Nat) := zCt.lookup (o, j)
def zNe (o j : Nat) : Option Nat := zNt.lookup (o, j)
def zLI (o j : Nat) : Option Int32 := zIt.lookup (o, j)
def zLL (o j : Nat) : Option Int64 := zLt.lookup (o, j)
theorem lookup_in {α β : Type} [BEq α] [LawfulBEq α] {k : α} {v : β} : ∀ {l : List (α × β)}, l.lookup k = some v → (k, v) ∈ l
  | [], h => by simp at h
  | (a, b) :: l, h => by
    rw [List.lookup_cons] at h
    split at h
    next he => have := eq_of_beq he; subst this; cases h; exact List.mem_cons_self
    next => exact List.mem_cons_of_mem _ (lookup_in h)
def zFw (e : (Nat × Nat) × (Nat × Nat)) : Jvm.Cond := if e.1.1 = e.2.1 then .fieldLink (zC e.1.1) e.1.2 (zC e.2.1) (zT e.2.1 e.2.2).2.1 (zT e.2.1 e.2.2).2.2.1 else .fieldLinkNest (zC e.1.1) e.1.2 (zC e.2.1) (zT e.2.1 e.2.2).2.1 (zT e.2.1 e.2.2).2.2.1 "AbsenceTree"
def zCw (e : (Nat × Nat) × (Nat × Nat)) : Jvm.Cond := if e.2.2 = 0 then .methodLink (zC e.1.1) e.1.2 (mY e.2.1) else .methodLinkNest (zC e.1.1) e.1.2 (mY e.2.1) "AbsenceTree"
def zKw (i : Nat) : Jvm.Cond := if mK i = 0 then .static (mY i) else .instanceMethod (mY i)
def zSw (i : Nat) : Jvm.Cond := if mK i = 1 then .selects (zC (mO i)) (mY i) (mY i) else .initialized (zC (mO i))
def zVw (i : Nat) : Jvm.Cond := .code (mY i) (mB i) (mL i) (mR i)

set_option maxRecDepth 100000 in
theorem zFt_ok : ∀ e ∈ zFt, e.2.2 < zN e.2.1 ∧ e.2.1 < 8 ∧ (zT e.2.1 e.2.2).1 = zC e.2.1 := by decide +kernel
set_option maxRecDepth 100000 in
theorem zCt_ok : ∀ e ∈ zCt, e.2.1 < 252 := by decide +kernel
set_option maxRecDepth 100000 in
theorem zNt_ok : ∀ e ∈ zNt, e.2 < 8 := by decide +kernel

set_option maxRecDepth 100000 in
theorem zM_od0 : ∀ i, i < 32 → ((mY (0 + i)).cls ≠ "java/lang/invoke/MethodHandle" ∧ (mY (0 + i)).cls ≠ "java/lang/invoke/VarHandle" ∧ (parseMethodDescriptor (mY (0 + i)).desc).map (fun d => d.parameters.length) = some (mP (0 + i)) ∧ (mK (0 + i) = 2 → (mY (0 + i)).name = "<init>" ∧ mR (0 + i) = none)) := by decide +kernel
set_option maxRecDepth 100000 in
theorem zM_pf0 : ∀ i, i < 32 → plainFor (mY (0 + i)) = true := by decide +kernel

set_option maxRecDepth 100000 in
theorem zM_od1 : ∀ i, i < 32 → ((mY (32 + i)).cls ≠ "java/lang/invoke/MethodHandle" ∧ (mY (32 + i)).cls ≠ "java/lang/invoke/VarHandle" ∧ (parseMethodDescriptor (mY (32 + i)).desc).map (fun d => d.parameters.length) = some (mP (32 + i)) ∧ (mK (32 + i) = 2 → (mY (32 + i)).name = "<init>" ∧ mR (32 + i) = none)) := by decide +kernel
set_option maxRecDepth 100000 in
theorem zM_pf1 : ∀ i, i < 32 → plainFor (mY (32 + i)) = true := by decide +kernel

set_option maxRecDepth 100000 in
theorem zM_od2 : ∀ i, i < 32 → ((mY (64 + i)).cls ≠ "java/lang/invoke/MethodHandle" ∧ (mY (64 + i)).cls ≠ "java/lang/invoke/VarHandle" ∧ (parseMethodDescriptor (mY (64 + i)).desc).map (fun d => d.parameters.length) = some (mP (64 + i)) ∧ (mK (64 + i) = 2 → (mY (64 + i)).name = "<init>" ∧ mR (64 + i) = none)) := by decide +kernel
set_option maxRecDepth 100000 in
theorem zM_pf2 : ∀ i, i < 32 → plainFor (mY (64 + i)) = true := by decide +kernel

set_option maxRecDepth 100000 in
theorem zM_od3 : ∀ i, i < 32 → ((mY (96 + i)).cls ≠ "java/lang/invoke/MethodHandle" ∧ (mY (96 + i)).cls ≠ "java/lang/invoke/VarHandle" ∧ (parseMethodDescriptor (mY (96 + i)).desc).map (fun d => d.parameters.length) = some (mP (96 + i)) ∧ (mK (96 + i) = 2 → (mY (96 + i)).name = "<init>" ∧ mR (96 + i) = none)) := by decide +kernel
set_option maxRecDepth 100000 in
theorem zM_pf3 : ∀ i, i < 32 → plainFor (mY (96 + i)) = true := by decide +kernel

set_option maxRecDepth 100000 in
theorem zM_od4 : ∀ i, i < 32 → ((mY (128 + i)).cls ≠ "java/lang/invoke/MethodHandle" ∧ (mY (128 + i)).cls ≠ "java/lang/invoke/VarHandle" ∧ (parseMethodDescriptor (mY (128 + i)).desc).map (fun d => d.parameters.length) = some (mP (128 + i)) ∧ (mK (128 + i) = 2 → (mY (128 + i)).name = "<init>" ∧ mR (128 + i) = none)) := by decide +kernel
set_option maxRecDepth 100000 in
theorem zM_pf4 : ∀ i, i < 32 → plainFor (mY (128 + i)) = true := by decide +kernel

set_option maxRecDepth 100000 in
theorem zM_od5 : ∀ i, i < 32 → ((mY (160 + i)).cls ≠ "java/lang/invoke/MethodHandle" ∧ (mY (160 + i)).cls ≠ "java/lang/invoke/VarHandle" ∧ (parseMethodDescriptor (mY (160 + i)).desc).map (fun d => d.parameters.length) = some (mP (160 + i)) ∧ (mK (160 + i) = 2 → (mY (160 + i)).name = "<init>" ∧ mR (160 + i) = none)) := by decide +kernel
set_option maxRecDepth 100000 in
theorem zM_pf5 : ∀ i, i < 32 → plainFor (mY (160 + i)) = true := by decide +kernel

set_option maxRecDepth 100000 in
theorem zM_od6 : ∀ i, i < 32 → ((mY (192 + i)).cls ≠ "java/lang/invoke/MethodHandle" ∧ (mY (192 + i)).cls ≠ "java/lang/invoke/VarHandle" ∧ (parseMethodDescriptor (mY (192 + i)).desc).map (fun d => d.parameters.length) = some (mP (192 + i)) ∧ (mK (192 + i) = 2 → (mY (192 + i)).name = "<init>" ∧ mR (192 + i) = none)) := by decide +kernel
set_option maxRecDepth 100000 in
theorem zM_pf6 : ∀ i, i < 32 → plainFor (mY (192 + i)) = true := by decide +kernel

set_option maxRecDepth 100000 in
theorem zM_od7 : ∀ i, i < 28 → ((mY (224 + i)).cls ≠ "java/lang/invoke/MethodHandle" ∧ (mY (224 + i)).cls ≠ "java/lang/invoke/VarHandle" ∧ (parseMethodDescriptor (mY (224 + i)).desc).map (fun d => d.parameters.length) = some (mP (224 + i)) ∧ (mK (224 + i) = 2 → (mY (224 + i)).name = "<init>" ∧ mR (224 + i) = none)) := by decide +kernel
set_option maxRecDepth 100000 in
theorem zM_pf7 : ∀ i, i < 28 → plainFor (mY (224 + i)) = true := by decide +kernel
