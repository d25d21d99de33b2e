section
-- ===== PART A: goes FIRST, ahead of the names: the tables' words, and 'selects' of the private methods out of them =====
/-- a private method of a class that the tables say can be made, by its rows of tables_1 -/
def lw_okq (q : MethodName × Nat) : Prop := (q.1.cls ≠ "java/lang/invoke/MethodHandle" ∧ q.1.cls ≠ "java/lang/invoke/VarHandle") ∧ Cond.instantiable q.1.cls q.2 ∈ tables_1 ∧ Cond.privateMethod q.1 ∈ tables_1 ∧ Cond.instanceMethod q.1 ∈ tables_1
theorem lw_p0 : lw_okq (⟨"LoadCouncil$Text", "add", "(I)Z"⟩, 2) := ⟨⟨by decide +kernel, by decide +kernel⟩, List.mem_of_getElem? (i := 23) (by decide +kernel), List.mem_of_getElem? (i := 193) (by decide +kernel), List.mem_of_getElem? (i := 194) (by decide +kernel)⟩
theorem lw_p1 : lw_okq (⟨"LoadCouncil$Text", "readInto", "(LLoadCouncil$Council;)I"⟩, 2) := ⟨⟨by decide +kernel, by decide +kernel⟩, List.mem_of_getElem? (i := 23) (by decide +kernel), List.mem_of_getElem? (i := 197) (by decide +kernel), List.mem_of_getElem? (i := 198) (by decide +kernel)⟩
theorem lw_p2 : lw_okq (⟨"LoadCouncil$Council", "beginWith", "(I)V"⟩, 7) := ⟨⟨by decide +kernel, by decide +kernel⟩, List.mem_of_getElem? (i := 38) (by decide +kernel), List.mem_of_getElem? (i := 201) (by decide +kernel), List.mem_of_getElem? (i := 202) (by decide +kernel)⟩
theorem lw_p3 : lw_okq (⟨"LoadCouncil$Text", "readItem", "(LLoadCouncil$Council;II)Z"⟩, 2) := ⟨⟨by decide +kernel, by decide +kernel⟩, List.mem_of_getElem? (i := 23) (by decide +kernel), List.mem_of_getElem? (i := 205) (by decide +kernel), List.mem_of_getElem? (i := 206) (by decide +kernel)⟩
theorem lw_p4 : lw_okq (⟨"LoadCouncil$Text", "readCandidates", "(LLoadCouncil$Council;II)Z"⟩, 2) := ⟨⟨by decide +kernel, by decide +kernel⟩, List.mem_of_getElem? (i := 23) (by decide +kernel), List.mem_of_getElem? (i := 209) (by decide +kernel), List.mem_of_getElem? (i := 210) (by decide +kernel)⟩
theorem lw_p5 : lw_okq (⟨"LoadCouncil$Text", "number", "(II)I"⟩, 2) := ⟨⟨by decide +kernel, by decide +kernel⟩, List.mem_of_getElem? (i := 23) (by decide +kernel), List.mem_of_getElem? (i := 213) (by decide +kernel), List.mem_of_getElem? (i := 214) (by decide +kernel)⟩
theorem lw_p6 : lw_okq (⟨"LoadCouncil$Text", "readBallot", "(LLoadCouncil$Council;II)Z"⟩, 2) := ⟨⟨by decide +kernel, by decide +kernel⟩, List.mem_of_getElem? (i := 23) (by decide +kernel), List.mem_of_getElem? (i := 217) (by decide +kernel), List.mem_of_getElem? (i := 218) (by decide +kernel)⟩
theorem lw_p7 : lw_okq (⟨"LoadCouncil$Text", "risingSet", "(III)I"⟩, 2) := ⟨⟨by decide +kernel, by decide +kernel⟩, List.mem_of_getElem? (i := 23) (by decide +kernel), List.mem_of_getElem? (i := 221) (by decide +kernel), List.mem_of_getElem? (i := 222) (by decide +kernel)⟩
theorem lw_p8 : lw_okq (⟨"LoadCouncil$Council", "allVoters", "()I"⟩, 7) := ⟨⟨by decide +kernel, by decide +kernel⟩, List.mem_of_getElem? (i := 38) (by decide +kernel), List.mem_of_getElem? (i := 228) (by decide +kernel), List.mem_of_getElem? (i := 229) (by decide +kernel)⟩
theorem lw_p9 : lw_okq (⟨"LoadCouncil$Council", "votersWhoAgree", "(I)I"⟩, 7) := ⟨⟨by decide +kernel, by decide +kernel⟩, List.mem_of_getElem? (i := 38) (by decide +kernel), List.mem_of_getElem? (i := 232) (by decide +kernel), List.mem_of_getElem? (i := 233) (by decide +kernel)⟩
theorem lw_p10 : lw_okq (⟨"LoadCouncil$Council", "agreesTo", "(II)Z"⟩, 7) := ⟨⟨by decide +kernel, by decide +kernel⟩, List.mem_of_getElem? (i := 38) (by decide +kernel), List.mem_of_getElem? (i := 236) (by decide +kernel), List.mem_of_getElem? (i := 237) (by decide +kernel)⟩
theorem lw_p11 : lw_okq (⟨"LoadCouncil$Council", "addBallot", "(II)V"⟩, 7) := ⟨⟨by decide +kernel, by decide +kernel⟩, List.mem_of_getElem? (i := 38) (by decide +kernel), List.mem_of_getElem? (i := 240) (by decide +kernel), List.mem_of_getElem? (i := 241) (by decide +kernel)⟩
theorem lw_p12 : lw_okq (⟨"LoadCouncil$Text", "readSeats", "(LLoadCouncil$Council;II)Z"⟩, 2) := ⟨⟨by decide +kernel, by decide +kernel⟩, List.mem_of_getElem? (i := 23) (by decide +kernel), List.mem_of_getElem? (i := 244) (by decide +kernel), List.mem_of_getElem? (i := 245) (by decide +kernel)⟩
theorem lw_p13 : lw_okq (⟨"LoadCouncil$Text", "readRank", "(LLoadCouncil$Council;II)Z"⟩, 2) := ⟨⟨by decide +kernel, by decide +kernel⟩, List.mem_of_getElem? (i := 23) (by decide +kernel), List.mem_of_getElem? (i := 248) (by decide +kernel), List.mem_of_getElem? (i := 249) (by decide +kernel)⟩
theorem lw_p14 : lw_okq (⟨"LoadCouncil$Text", "clear", "()V"⟩, 2) := ⟨⟨by decide +kernel, by decide +kernel⟩, List.mem_of_getElem? (i := 23) (by decide +kernel), List.mem_of_getElem? (i := 255) (by decide +kernel), List.mem_of_getElem? (i := 256) (by decide +kernel)⟩
theorem lw_p15 : lw_okq (⟨"LoadCouncil$Council", "copyFrom", "(LLoadCouncil$Council;)V"⟩, 7) := ⟨⟨by decide +kernel, by decide +kernel⟩, List.mem_of_getElem? (i := 38) (by decide +kernel), List.mem_of_getElem? (i := 292) (by decide +kernel), List.mem_of_getElem? (i := 293) (by decide +kernel)⟩
def lw_privs_1 : List (MethodName × Nat) := [(⟨"LoadCouncil$Text", "add", "(I)Z"⟩, 2), (⟨"LoadCouncil$Text", "readInto", "(LLoadCouncil$Council;)I"⟩, 2), (⟨"LoadCouncil$Council", "beginWith", "(I)V"⟩, 7), (⟨"LoadCouncil$Text", "readItem", "(LLoadCouncil$Council;II)Z"⟩, 2), (⟨"LoadCouncil$Text", "readCandidates", "(LLoadCouncil$Council;II)Z"⟩, 2), (⟨"LoadCouncil$Text", "number", "(II)I"⟩, 2), (⟨"LoadCouncil$Text", "readBallot", "(LLoadCouncil$Council;II)Z"⟩, 2), (⟨"LoadCouncil$Text", "risingSet", "(III)I"⟩, 2), (⟨"LoadCouncil$Council", "allVoters", "()I"⟩, 7), (⟨"LoadCouncil$Council", "votersWhoAgree", "(I)I"⟩, 7), (⟨"LoadCouncil$Council", "agreesTo", "(II)Z"⟩, 7), (⟨"LoadCouncil$Council", "addBallot", "(II)V"⟩, 7), (⟨"LoadCouncil$Text", "readSeats", "(LLoadCouncil$Council;II)Z"⟩, 2), (⟨"LoadCouncil$Text", "readRank", "(LLoadCouncil$Council;II)Z"⟩, 2), (⟨"LoadCouncil$Text", "clear", "()V"⟩, 2), (⟨"LoadCouncil$Council", "copyFrom", "(LLoadCouncil$Council;)V"⟩, 7)]
theorem lw_r1 : ∀ q ∈ lw_privs_1, lw_okq q := List.forall_mem_cons.mpr ⟨lw_p0, List.forall_mem_cons.mpr ⟨lw_p1, List.forall_mem_cons.mpr ⟨lw_p2, List.forall_mem_cons.mpr ⟨lw_p3, List.forall_mem_cons.mpr ⟨lw_p4, List.forall_mem_cons.mpr ⟨lw_p5, List.forall_mem_cons.mpr ⟨lw_p6, List.forall_mem_cons.mpr ⟨lw_p7, List.forall_mem_cons.mpr ⟨lw_p8, List.forall_mem_cons.mpr ⟨lw_p9, List.forall_mem_cons.mpr ⟨lw_p10, List.forall_mem_cons.mpr ⟨lw_p11, List.forall_mem_cons.mpr ⟨lw_p12, List.forall_mem_cons.mpr ⟨lw_p13, List.forall_mem_cons.mpr ⟨lw_p14, List.forall_mem_cons.mpr ⟨lw_p15, fun _ h => absurd h List.not_mem_nil⟩⟩⟩⟩⟩⟩⟩⟩⟩⟩⟩⟩⟩⟩⟩⟩
theorem lw_p16 : lw_okq (⟨"LoadCouncil$Past", "forget", "()V"⟩, 3) := ⟨⟨by decide +kernel, by decide +kernel⟩, List.mem_of_getElem? (i := 83) (by decide +kernel), List.mem_of_getElem? (i := 299) (by decide +kernel), List.mem_of_getElem? (i := 300) (by decide +kernel)⟩
theorem lw_p17 : lw_okq (⟨"LoadCouncil", "isSet", "(I)Z"⟩, 5) := ⟨⟨by decide +kernel, by decide +kernel⟩, List.mem_of_getElem? (i := 15) (by decide +kernel), List.mem_of_getElem? (i := 308) (by decide +kernel), List.mem_of_getElem? (i := 309) (by decide +kernel)⟩
theorem lw_p18 : lw_okq (⟨"LoadCouncil$Past", "keep", "(LLoadCouncil$Council;)V"⟩, 3) := ⟨⟨by decide +kernel, by decide +kernel⟩, List.mem_of_getElem? (i := 83) (by decide +kernel), List.mem_of_getElem? (i := 313) (by decide +kernel), List.mem_of_getElem? (i := 314) (by decide +kernel)⟩
theorem lw_p19 : lw_okq (⟨"LoadCouncil", "isBallot", "(I)Z"⟩, 5) := ⟨⟨by decide +kernel, by decide +kernel⟩, List.mem_of_getElem? (i := 15) (by decide +kernel), List.mem_of_getElem? (i := 326) (by decide +kernel), List.mem_of_getElem? (i := 327) (by decide +kernel)⟩
theorem lw_p20 : lw_okq (⟨"LoadCouncil", "isCandidate", "(I)Z"⟩, 5) := ⟨⟨by decide +kernel, by decide +kernel⟩, List.mem_of_getElem? (i := 15) (by decide +kernel), List.mem_of_getElem? (i := 342) (by decide +kernel), List.mem_of_getElem? (i := 343) (by decide +kernel)⟩
theorem lw_p21 : lw_okq (⟨"LoadCouncil$Council", "isWithdrawn", "(I)Z"⟩, 7) := ⟨⟨by decide +kernel, by decide +kernel⟩, List.mem_of_getElem? (i := 38) (by decide +kernel), List.mem_of_getElem? (i := 346) (by decide +kernel), List.mem_of_getElem? (i := 347) (by decide +kernel)⟩
theorem lw_p22 : lw_okq (⟨"LoadCouncil$Council", "placeOf", "(I)I"⟩, 7) := ⟨⟨by decide +kernel, by decide +kernel⟩, List.mem_of_getElem? (i := 38) (by decide +kernel), List.mem_of_getElem? (i := 361) (by decide +kernel), List.mem_of_getElem? (i := 362) (by decide +kernel)⟩
theorem lw_p23 : lw_okq (⟨"LoadCouncil$Council", "bringToFront", "(I)V"⟩, 7) := ⟨⟨by decide +kernel, by decide +kernel⟩, List.mem_of_getElem? (i := 38) (by decide +kernel), List.mem_of_getElem? (i := 365) (by decide +kernel), List.mem_of_getElem? (i := 366) (by decide +kernel)⟩
theorem lw_p24 : lw_okq (⟨"LoadCouncil$Past", "bringBack", "(LLoadCouncil$Council;)V"⟩, 3) := ⟨⟨by decide +kernel, by decide +kernel⟩, List.mem_of_getElem? (i := 83) (by decide +kernel), List.mem_of_getElem? (i := 373) (by decide +kernel), List.mem_of_getElem? (i := 374) (by decide +kernel)⟩
theorem lw_p25 : lw_okq (⟨"LoadCouncil$Council", "supportOf", "(I)I"⟩, 7) := ⟨⟨by decide +kernel, by decide +kernel⟩, List.mem_of_getElem? (i := 38) (by decide +kernel), List.mem_of_getElem? (i := 381) (by decide +kernel), List.mem_of_getElem? (i := 382) (by decide +kernel)⟩
theorem lw_p26 : lw_okq (⟨"LoadCouncil", "lawsThatElect", "(I)I"⟩, 5) := ⟨⟨by decide +kernel, by decide +kernel⟩, List.mem_of_getElem? (i := 15) (by decide +kernel), List.mem_of_getElem? (i := 385) (by decide +kernel), List.mem_of_getElem? (i := 386) (by decide +kernel)⟩
theorem lw_p27 : lw_okq (⟨"LoadCouncil$Election", "hold", "(LLoadCouncil$Council;I)I"⟩, 9) := ⟨⟨by decide +kernel, by decide +kernel⟩, List.mem_of_getElem? (i := 103) (by decide +kernel), List.mem_of_getElem? (i := 389) (by decide +kernel), List.mem_of_getElem? (i := 390) (by decide +kernel)⟩
theorem lw_p28 : lw_okq (⟨"LoadCouncil$Election", "begin", "(LLoadCouncil$Council;)V"⟩, 9) := ⟨⟨by decide +kernel, by decide +kernel⟩, List.mem_of_getElem? (i := 103) (by decide +kernel), List.mem_of_getElem? (i := 393) (by decide +kernel), List.mem_of_getElem? (i := 394) (by decide +kernel)⟩
theorem lw_p29 : lw_okq (⟨"LoadCouncil$Election", "nextMember", "(LLoadCouncil$Council;I)I"⟩, 9) := ⟨⟨by decide +kernel, by decide +kernel⟩, List.mem_of_getElem? (i := 103) (by decide +kernel), List.mem_of_getElem? (i := 398) (by decide +kernel), List.mem_of_getElem? (i := 399) (by decide +kernel)⟩
theorem lw_p30 : lw_okq (⟨"LoadCouncil$Election", "worthOf", "(LLoadCouncil$Council;II)J"⟩, 9) := ⟨⟨by decide +kernel, by decide +kernel⟩, List.mem_of_getElem? (i := 103) (by decide +kernel), List.mem_of_getElem? (i := 403) (by decide +kernel), List.mem_of_getElem? (i := 404) (by decide +kernel)⟩
theorem lw_p31 : lw_okq (⟨"LoadCouncil$Election", "weightOf", "(LLoadCouncil$Council;I)J"⟩, 9) := ⟨⟨by decide +kernel, by decide +kernel⟩, List.mem_of_getElem? (i := 103) (by decide +kernel), List.mem_of_getElem? (i := 407) (by decide +kernel), List.mem_of_getElem? (i := 408) (by decide +kernel)⟩
def lw_privs_2 : List (MethodName × Nat) := [(⟨"LoadCouncil$Past", "forget", "()V"⟩, 3), (⟨"LoadCouncil", "isSet", "(I)Z"⟩, 5), (⟨"LoadCouncil$Past", "keep", "(LLoadCouncil$Council;)V"⟩, 3), (⟨"LoadCouncil", "isBallot", "(I)Z"⟩, 5), (⟨"LoadCouncil", "isCandidate", "(I)Z"⟩, 5), (⟨"LoadCouncil$Council", "isWithdrawn", "(I)Z"⟩, 7), (⟨"LoadCouncil$Council", "placeOf", "(I)I"⟩, 7), (⟨"LoadCouncil$Council", "bringToFront", "(I)V"⟩, 7), (⟨"LoadCouncil$Past", "bringBack", "(LLoadCouncil$Council;)V"⟩, 3), (⟨"LoadCouncil$Council", "supportOf", "(I)I"⟩, 7), (⟨"LoadCouncil", "lawsThatElect", "(I)I"⟩, 5), (⟨"LoadCouncil$Election", "hold", "(LLoadCouncil$Council;I)I"⟩, 9), (⟨"LoadCouncil$Election", "begin", "(LLoadCouncil$Council;)V"⟩, 9), (⟨"LoadCouncil$Election", "nextMember", "(LLoadCouncil$Council;I)I"⟩, 9), (⟨"LoadCouncil$Election", "worthOf", "(LLoadCouncil$Council;II)J"⟩, 9), (⟨"LoadCouncil$Election", "weightOf", "(LLoadCouncil$Council;I)J"⟩, 9)]
theorem lw_r2 : ∀ q ∈ lw_privs_2, lw_okq q := List.forall_mem_cons.mpr ⟨lw_p16, List.forall_mem_cons.mpr ⟨lw_p17, List.forall_mem_cons.mpr ⟨lw_p18, List.forall_mem_cons.mpr ⟨lw_p19, List.forall_mem_cons.mpr ⟨lw_p20, List.forall_mem_cons.mpr ⟨lw_p21, List.forall_mem_cons.mpr ⟨lw_p22, List.forall_mem_cons.mpr ⟨lw_p23, List.forall_mem_cons.mpr ⟨lw_p24, List.forall_mem_cons.mpr ⟨lw_p25, List.forall_mem_cons.mpr ⟨lw_p26, List.forall_mem_cons.mpr ⟨lw_p27, List.forall_mem_cons.mpr ⟨lw_p28, List.forall_mem_cons.mpr ⟨lw_p29, List.forall_mem_cons.mpr ⟨lw_p30, List.forall_mem_cons.mpr ⟨lw_p31, fun _ h => absurd h List.not_mem_nil⟩⟩⟩⟩⟩⟩⟩⟩⟩⟩⟩⟩⟩⟩⟩⟩
theorem lw_p32 : lw_okq (⟨"LoadCouncil$Election", "isAhead", "(III)Z"⟩, 9) := ⟨⟨by decide +kernel, by decide +kernel⟩, List.mem_of_getElem? (i := 103) (by decide +kernel), List.mem_of_getElem? (i := 412) (by decide +kernel), List.mem_of_getElem? (i := 413) (by decide +kernel)⟩
theorem lw_p33 : lw_okq (⟨"LoadCouncil$Election", "elect", "(LLoadCouncil$Council;II)V"⟩, 9) := ⟨⟨by decide +kernel, by decide +kernel⟩, List.mem_of_getElem? (i := 103) (by decide +kernel), List.mem_of_getElem? (i := 416) (by decide +kernel), List.mem_of_getElem? (i := 417) (by decide +kernel)⟩
theorem lw_p34 : lw_okq (⟨"LoadCouncil$Election", "spreadLoad", "(LLoadCouncil$Council;I)V"⟩, 9) := ⟨⟨by decide +kernel, by decide +kernel⟩, List.mem_of_getElem? (i := 103) (by decide +kernel), List.mem_of_getElem? (i := 421) (by decide +kernel), List.mem_of_getElem? (i := 422) (by decide +kernel)⟩
theorem lw_p35 : lw_okq (⟨"LoadCouncil$Council", "isOwed", "(I)Z"⟩, 7) := ⟨⟨by decide +kernel, by decide +kernel⟩, List.mem_of_getElem? (i := 38) (by decide +kernel), List.mem_of_getElem? (i := 472) (by decide +kernel), List.mem_of_getElem? (i := 473) (by decide +kernel)⟩
theorem lw_p36 : lw_okq (⟨"LoadCouncil$Council", "approvedByThoseWhoAgree", "(I)I"⟩, 7) := ⟨⟨by decide +kernel, by decide +kernel⟩, List.mem_of_getElem? (i := 38) (by decide +kernel), List.mem_of_getElem? (i := 478) (by decide +kernel), List.mem_of_getElem? (i := 479) (by decide +kernel)⟩
theorem lw_p37 : lw_okq (⟨"LoadCouncil$Council", "isShort", "(II)Z"⟩, 7) := ⟨⟨by decide +kernel, by decide +kernel⟩, List.mem_of_getElem? (i := 38) (by decide +kernel), List.mem_of_getElem? (i := 486) (by decide +kernel), List.mem_of_getElem? (i := 487) (by decide +kernel)⟩
theorem lw_p38 : lw_okq (⟨"LoadCouncil$Council", "turnRankRound", "()V"⟩, 7) := ⟨⟨by decide +kernel, by decide +kernel⟩, List.mem_of_getElem? (i := 38) (by decide +kernel), List.mem_of_getElem? (i := 508) (by decide +kernel), List.mem_of_getElem? (i := 509) (by decide +kernel)⟩
theorem lw_p39 : lw_okq (⟨"LoadCouncilModel", "adds", "(II)V"⟩, 19) := ⟨⟨by decide +kernel, by decide +kernel⟩, List.mem_of_getElem? (i := 520) (by decide +kernel), List.mem_of_getElem? (i := 526) (by decide +kernel), List.mem_of_getElem? (i := 527) (by decide +kernel)⟩
theorem lw_p40 : lw_okq (⟨"LoadCouncilModel", "faultOf", "()I"⟩, 19) := ⟨⟨by decide +kernel, by decide +kernel⟩, List.mem_of_getElem? (i := 520) (by decide +kernel), List.mem_of_getElem? (i := 603) (by decide +kernel), List.mem_of_getElem? (i := 604) (by decide +kernel)⟩
theorem lw_p41 : lw_okq (⟨"LoadCouncilModel", "takesItem", "()Z"⟩, 19) := ⟨⟨by decide +kernel, by decide +kernel⟩, List.mem_of_getElem? (i := 520) (by decide +kernel), List.mem_of_getElem? (i := 607) (by decide +kernel), List.mem_of_getElem? (i := 608) (by decide +kernel)⟩
theorem lw_p42 : lw_okq (⟨"LoadCouncilModel", "letterAt", "(I)I"⟩, 19) := ⟨⟨by decide +kernel, by decide +kernel⟩, List.mem_of_getElem? (i := 520) (by decide +kernel), List.mem_of_getElem? (i := 611) (by decide +kernel), List.mem_of_getElem? (i := 612) (by decide +kernel)⟩
theorem lw_p43 : lw_okq (⟨"LoadCouncilModel", "takesCandidates", "()Z"⟩, 19) := ⟨⟨by decide +kernel, by decide +kernel⟩, List.mem_of_getElem? (i := 520) (by decide +kernel), List.mem_of_getElem? (i := 615) (by decide +kernel), List.mem_of_getElem? (i := 616) (by decide +kernel)⟩
theorem lw_p44 : lw_okq (⟨"LoadCouncilModel", "takesNumber", "(II)Z"⟩, 19) := ⟨⟨by decide +kernel, by decide +kernel⟩, List.mem_of_getElem? (i := 520) (by decide +kernel), List.mem_of_getElem? (i := 619) (by decide +kernel), List.mem_of_getElem? (i := 620) (by decide +kernel)⟩
theorem lw_p45 : lw_okq (⟨"LoadCouncilModel", "takes", "(I)Z"⟩, 19) := ⟨⟨by decide +kernel, by decide +kernel⟩, List.mem_of_getElem? (i := 520) (by decide +kernel), List.mem_of_getElem? (i := 623) (by decide +kernel), List.mem_of_getElem? (i := 624) (by decide +kernel)⟩
theorem lw_p46 : lw_okq (⟨"LoadCouncilModel", "takesBallot", "()Z"⟩, 19) := ⟨⟨by decide +kernel, by decide +kernel⟩, List.mem_of_getElem? (i := 520) (by decide +kernel), List.mem_of_getElem? (i := 627) (by decide +kernel), List.mem_of_getElem? (i := 628) (by decide +kernel)⟩
theorem lw_p47 : lw_okq (⟨"LoadCouncilModel", "takesSet", "()Z"⟩, 19) := ⟨⟨by decide +kernel, by decide +kernel⟩, List.mem_of_getElem? (i := 520) (by decide +kernel), List.mem_of_getElem? (i := 631) (by decide +kernel), List.mem_of_getElem? (i := 632) (by decide +kernel)⟩
def lw_privs_3 : List (MethodName × Nat) := [(⟨"LoadCouncil$Election", "isAhead", "(III)Z"⟩, 9), (⟨"LoadCouncil$Election", "elect", "(LLoadCouncil$Council;II)V"⟩, 9), (⟨"LoadCouncil$Election", "spreadLoad", "(LLoadCouncil$Council;I)V"⟩, 9), (⟨"LoadCouncil$Council", "isOwed", "(I)Z"⟩, 7), (⟨"LoadCouncil$Council", "approvedByThoseWhoAgree", "(I)I"⟩, 7), (⟨"LoadCouncil$Council", "isShort", "(II)Z"⟩, 7), (⟨"LoadCouncil$Council", "turnRankRound", "()V"⟩, 7), (⟨"LoadCouncilModel", "adds", "(II)V"⟩, 19), (⟨"LoadCouncilModel", "faultOf", "()I"⟩, 19), (⟨"LoadCouncilModel", "takesItem", "()Z"⟩, 19), (⟨"LoadCouncilModel", "letterAt", "(I)I"⟩, 19), (⟨"LoadCouncilModel", "takesCandidates", "()Z"⟩, 19), (⟨"LoadCouncilModel", "takesNumber", "(II)Z"⟩, 19), (⟨"LoadCouncilModel", "takes", "(I)Z"⟩, 19), (⟨"LoadCouncilModel", "takesBallot", "()Z"⟩, 19), (⟨"LoadCouncilModel", "takesSet", "()Z"⟩, 19)]
theorem lw_r3 : ∀ q ∈ lw_privs_3, lw_okq q := List.forall_mem_cons.mpr ⟨lw_p32, List.forall_mem_cons.mpr ⟨lw_p33, List.forall_mem_cons.mpr ⟨lw_p34, List.forall_mem_cons.mpr ⟨lw_p35, List.forall_mem_cons.mpr ⟨lw_p36, List.forall_mem_cons.mpr ⟨lw_p37, List.forall_mem_cons.mpr ⟨lw_p38, List.forall_mem_cons.mpr ⟨lw_p39, List.forall_mem_cons.mpr ⟨lw_p40, List.forall_mem_cons.mpr ⟨lw_p41, List.forall_mem_cons.mpr ⟨lw_p42, List.forall_mem_cons.mpr ⟨lw_p43, List.forall_mem_cons.mpr ⟨lw_p44, List.forall_mem_cons.mpr ⟨lw_p45, List.forall_mem_cons.mpr ⟨lw_p46, List.forall_mem_cons.mpr ⟨lw_p47, fun _ h => absurd h List.not_mem_nil⟩⟩⟩⟩⟩⟩⟩⟩⟩⟩⟩⟩⟩⟩⟩⟩
theorem lw_p48 : lw_okq (⟨"LoadCouncilModel", "isName", "()Z"⟩, 19) := ⟨⟨by decide +kernel, by decide +kernel⟩, List.mem_of_getElem? (i := 520) (by decide +kernel), List.mem_of_getElem? (i := 635) (by decide +kernel), List.mem_of_getElem? (i := 636) (by decide +kernel)⟩
theorem lw_p49 : lw_okq (⟨"LoadCouncilModel", "readVoters", "()I"⟩, 19) := ⟨⟨by decide +kernel, by decide +kernel⟩, List.mem_of_getElem? (i := 520) (by decide +kernel), List.mem_of_getElem? (i := 639) (by decide +kernel), List.mem_of_getElem? (i := 640) (by decide +kernel)⟩
theorem lw_p50 : lw_okq (⟨"LoadCouncilModel", "takesSeats", "()Z"⟩, 19) := ⟨⟨by decide +kernel, by decide +kernel⟩, List.mem_of_getElem? (i := 520) (by decide +kernel), List.mem_of_getElem? (i := 643) (by decide +kernel), List.mem_of_getElem? (i := 644) (by decide +kernel)⟩
theorem lw_p51 : lw_okq (⟨"LoadCouncilModel", "takesRank", "()Z"⟩, 19) := ⟨⟨by decide +kernel, by decide +kernel⟩, List.mem_of_getElem? (i := 520) (by decide +kernel), List.mem_of_getElem? (i := 647) (by decide +kernel), List.mem_of_getElem? (i := 648) (by decide +kernel)⟩
theorem lw_p52 : lw_okq (⟨"LoadCouncilModel", "isSet", "(I)Z"⟩, 19) := ⟨⟨by decide +kernel, by decide +kernel⟩, List.mem_of_getElem? (i := 520) (by decide +kernel), List.mem_of_getElem? (i := 662) (by decide +kernel), List.mem_of_getElem? (i := 663) (by decide +kernel)⟩
theorem lw_p53 : lw_okq (⟨"LoadCouncilModel", "allVoters", "()I"⟩, 19) := ⟨⟨by decide +kernel, by decide +kernel⟩, List.mem_of_getElem? (i := 520) (by decide +kernel), List.mem_of_getElem? (i := 666) (by decide +kernel), List.mem_of_getElem? (i := 667) (by decide +kernel)⟩
theorem lw_p54 : lw_okq (⟨"LoadCouncilModel", "remembers", "()V"⟩, 19) := ⟨⟨by decide +kernel, by decide +kernel⟩, List.mem_of_getElem? (i := 520) (by decide +kernel), List.mem_of_getElem? (i := 670) (by decide +kernel), List.mem_of_getElem? (i := 671) (by decide +kernel)⟩
theorem lw_p55 : lw_okq (⟨"LoadCouncilModel", "isBallot", "(I)Z"⟩, 19) := ⟨⟨by decide +kernel, by decide +kernel⟩, List.mem_of_getElem? (i := 520) (by decide +kernel), List.mem_of_getElem? (i := 678) (by decide +kernel), List.mem_of_getElem? (i := 679) (by decide +kernel)⟩
theorem lw_p56 : lw_okq (⟨"LoadCouncilModel", "exchanges", "(II)I"⟩, 19) := ⟨⟨by decide +kernel, by decide +kernel⟩, List.mem_of_getElem? (i := 520) (by decide +kernel), List.mem_of_getElem? (i := 682) (by decide +kernel), List.mem_of_getElem? (i := 683) (by decide +kernel)⟩
theorem lw_p57 : lw_okq (⟨"LoadCouncilModel", "isCandidate", "(I)Z"⟩, 19) := ⟨⟨by decide +kernel, by decide +kernel⟩, List.mem_of_getElem? (i := 520) (by decide +kernel), List.mem_of_getElem? (i := 698) (by decide +kernel), List.mem_of_getElem? (i := 699) (by decide +kernel)⟩
theorem lw_p58 : lw_okq (⟨"LoadCouncilModel", "placeOf", "(I)I"⟩, 19) := ⟨⟨by decide +kernel, by decide +kernel⟩, List.mem_of_getElem? (i := 520) (by decide +kernel), List.mem_of_getElem? (i := 709) (by decide +kernel), List.mem_of_getElem? (i := 710) (by decide +kernel)⟩
theorem lw_p59 : lw_okq (⟨"LoadCouncilModel", "aboutCandidate", "(II)I"⟩, 19) := ⟨⟨by decide +kernel, by decide +kernel⟩, List.mem_of_getElem? (i := 520) (by decide +kernel), List.mem_of_getElem? (i := 721) (by decide +kernel), List.mem_of_getElem? (i := 722) (by decide +kernel)⟩
theorem lw_p60 : lw_okq (⟨"LoadCouncilModel", "lays", "()V"⟩, 19) := ⟨⟨by decide +kernel, by decide +kernel⟩, List.mem_of_getElem? (i := 520) (by decide +kernel), List.mem_of_getElem? (i := 725) (by decide +kernel), List.mem_of_getElem? (i := 726) (by decide +kernel)⟩
theorem lw_p61 : lw_okq (⟨"LoadCouncilModel", "supportOf", "(I)I"⟩, 19) := ⟨⟨by decide +kernel, by decide +kernel⟩, List.mem_of_getElem? (i := 520) (by decide +kernel), List.mem_of_getElem? (i := 729) (by decide +kernel), List.mem_of_getElem? (i := 730) (by decide +kernel)⟩
theorem lw_p62 : lw_okq (⟨"LoadCouncilModel", "lawsOf", "(I)I"⟩, 19) := ⟨⟨by decide +kernel, by decide +kernel⟩, List.mem_of_getElem? (i := 520) (by decide +kernel), List.mem_of_getElem? (i := 733) (by decide +kernel), List.mem_of_getElem? (i := 734) (by decide +kernel)⟩
theorem lw_p63 : lw_okq (⟨"LoadCouncilModel", "membersBy", "(I)I"⟩, 19) := ⟨⟨by decide +kernel, by decide +kernel⟩, List.mem_of_getElem? (i := 520) (by decide +kernel), List.mem_of_getElem? (i := 737) (by decide +kernel), List.mem_of_getElem? (i := 738) (by decide +kernel)⟩
def lw_privs_4 : List (MethodName × Nat) := [(⟨"LoadCouncilModel", "isName", "()Z"⟩, 19), (⟨"LoadCouncilModel", "readVoters", "()I"⟩, 19), (⟨"LoadCouncilModel", "takesSeats", "()Z"⟩, 19), (⟨"LoadCouncilModel", "takesRank", "()Z"⟩, 19), (⟨"LoadCouncilModel", "isSet", "(I)Z"⟩, 19), (⟨"LoadCouncilModel", "allVoters", "()I"⟩, 19), (⟨"LoadCouncilModel", "remembers", "()V"⟩, 19), (⟨"LoadCouncilModel", "isBallot", "(I)Z"⟩, 19), (⟨"LoadCouncilModel", "exchanges", "(II)I"⟩, 19), (⟨"LoadCouncilModel", "isCandidate", "(I)Z"⟩, 19), (⟨"LoadCouncilModel", "placeOf", "(I)I"⟩, 19), (⟨"LoadCouncilModel", "aboutCandidate", "(II)I"⟩, 19), (⟨"LoadCouncilModel", "lays", "()V"⟩, 19), (⟨"LoadCouncilModel", "supportOf", "(I)I"⟩, 19), (⟨"LoadCouncilModel", "lawsOf", "(I)I"⟩, 19), (⟨"LoadCouncilModel", "membersBy", "(I)I"⟩, 19)]
theorem lw_r4 : ∀ q ∈ lw_privs_4, lw_okq q := List.forall_mem_cons.mpr ⟨lw_p48, List.forall_mem_cons.mpr ⟨lw_p49, List.forall_mem_cons.mpr ⟨lw_p50, List.forall_mem_cons.mpr ⟨lw_p51, List.forall_mem_cons.mpr ⟨lw_p52, List.forall_mem_cons.mpr ⟨lw_p53, List.forall_mem_cons.mpr ⟨lw_p54, List.forall_mem_cons.mpr ⟨lw_p55, List.forall_mem_cons.mpr ⟨lw_p56, List.forall_mem_cons.mpr ⟨lw_p57, List.forall_mem_cons.mpr ⟨lw_p58, List.forall_mem_cons.mpr ⟨lw_p59, List.forall_mem_cons.mpr ⟨lw_p60, List.forall_mem_cons.mpr ⟨lw_p61, List.forall_mem_cons.mpr ⟨lw_p62, List.forall_mem_cons.mpr ⟨lw_p63, fun _ h => absurd h List.not_mem_nil⟩⟩⟩⟩⟩⟩⟩⟩⟩⟩⟩⟩⟩⟩⟩⟩
theorem lw_p64 : lw_okq (⟨"LoadCouncilModel", "elects", "(I)V"⟩, 19) := ⟨⟨by decide +kernel, by decide +kernel⟩, List.mem_of_getElem? (i := 520) (by decide +kernel), List.mem_of_getElem? (i := 741) (by decide +kernel), List.mem_of_getElem? (i := 742) (by decide +kernel)⟩
theorem lw_p65 : lw_okq (⟨"LoadCouncilModel", "nextOf", "(IZ)I"⟩, 19) := ⟨⟨by decide +kernel, by decide +kernel⟩, List.mem_of_getElem? (i := 520) (by decide +kernel), List.mem_of_getElem? (i := 745) (by decide +kernel), List.mem_of_getElem? (i := 746) (by decide +kernel)⟩
theorem lw_p66 : lw_okq (⟨"LoadCouncilModel", "isAhead", "(III)Z"⟩, 19) := ⟨⟨by decide +kernel, by decide +kernel⟩, List.mem_of_getElem? (i := 520) (by decide +kernel), List.mem_of_getElem? (i := 749) (by decide +kernel), List.mem_of_getElem? (i := 750) (by decide +kernel)⟩
theorem lw_p67 : lw_okq (⟨"LoadCouncilModel", "weightOf", "(I)I"⟩, 19) := ⟨⟨by decide +kernel, by decide +kernel⟩, List.mem_of_getElem? (i := 520) (by decide +kernel), List.mem_of_getElem? (i := 753) (by decide +kernel), List.mem_of_getElem? (i := 754) (by decide +kernel)⟩
theorem lw_p68 : lw_okq (⟨"LoadCouncilModel", "loadOf", "(I)J"⟩, 19) := ⟨⟨by decide +kernel, by decide +kernel⟩, List.mem_of_getElem? (i := 520) (by decide +kernel), List.mem_of_getElem? (i := 757) (by decide +kernel), List.mem_of_getElem? (i := 758) (by decide +kernel)⟩
theorem lw_p69 : lw_okq (⟨"LoadCouncilModel", "comesBy", "(II)V"⟩, 19) := ⟨⟨by decide +kernel, by decide +kernel⟩, List.mem_of_getElem? (i := 520) (by decide +kernel), List.mem_of_getElem? (i := 761) (by decide +kernel), List.mem_of_getElem? (i := 762) (by decide +kernel)⟩
theorem lw_p70 : lw_okq (⟨"LoadCouncilModel", "agreed", "(I)I"⟩, 19) := ⟨⟨by decide +kernel, by decide +kernel⟩, List.mem_of_getElem? (i := 520) (by decide +kernel), List.mem_of_getElem? (i := 805) (by decide +kernel), List.mem_of_getElem? (i := 806) (by decide +kernel)⟩
theorem lw_p71 : lw_okq (⟨"LoadCouncilModel", "isOwed", "(I)Z"⟩, 19) := ⟨⟨by decide +kernel, by decide +kernel⟩, List.mem_of_getElem? (i := 520) (by decide +kernel), List.mem_of_getElem? (i := 809) (by decide +kernel), List.mem_of_getElem? (i := 810) (by decide +kernel)⟩
theorem lw_p72 : lw_okq (⟨"LoadCouncilModel", "unionOf", "(I)I"⟩, 19) := ⟨⟨by decide +kernel, by decide +kernel⟩, List.mem_of_getElem? (i := 520) (by decide +kernel), List.mem_of_getElem? (i := 813) (by decide +kernel), List.mem_of_getElem? (i := 814) (by decide +kernel)⟩
def lw_privs_5 : List (MethodName × Nat) := [(⟨"LoadCouncilModel", "elects", "(I)V"⟩, 19), (⟨"LoadCouncilModel", "nextOf", "(IZ)I"⟩, 19), (⟨"LoadCouncilModel", "isAhead", "(III)Z"⟩, 19), (⟨"LoadCouncilModel", "weightOf", "(I)I"⟩, 19), (⟨"LoadCouncilModel", "loadOf", "(I)J"⟩, 19), (⟨"LoadCouncilModel", "comesBy", "(II)V"⟩, 19), (⟨"LoadCouncilModel", "agreed", "(I)I"⟩, 19), (⟨"LoadCouncilModel", "isOwed", "(I)Z"⟩, 19), (⟨"LoadCouncilModel", "unionOf", "(I)I"⟩, 19)]
theorem lw_r5 : ∀ q ∈ lw_privs_5, lw_okq q := List.forall_mem_cons.mpr ⟨lw_p64, List.forall_mem_cons.mpr ⟨lw_p65, List.forall_mem_cons.mpr ⟨lw_p66, List.forall_mem_cons.mpr ⟨lw_p67, List.forall_mem_cons.mpr ⟨lw_p68, List.forall_mem_cons.mpr ⟨lw_p69, List.forall_mem_cons.mpr ⟨lw_p70, List.forall_mem_cons.mpr ⟨lw_p71, List.forall_mem_cons.mpr ⟨lw_p72, fun _ h => absurd h List.not_mem_nil⟩⟩⟩⟩⟩⟩⟩⟩⟩
def lw_privs : List (MethodName × Nat) := lw_privs_1 ++ (lw_privs_2 ++ (lw_privs_3 ++ (lw_privs_4 ++ (lw_privs_5))))
def lw_tbl : List Cond := k2_sels lw_privs ++ tables_1
theorem lw_privs_ok : ∀ q ∈ lw_privs, lw_okq q := by
  show ∀ q ∈ lw_privs_1 ++ (lw_privs_2 ++ (lw_privs_3 ++ (lw_privs_4 ++ (lw_privs_5)))), lw_okq q
  exact List.forall_mem_append.mpr ⟨lw_r1, List.forall_mem_append.mpr ⟨lw_r2, List.forall_mem_append.mpr ⟨lw_r3, List.forall_mem_append.mpr ⟨lw_r4, lw_r5⟩⟩⟩⟩
end
section
/-! ===== BEGIN words of one list among another's, by their places ===== -/
theorem goodIn_r {big : List Cond} (ws : List Cond) (ps : List Nat) (hp : ws = ps.filterMap (fun i => big[i]?)) (h : ws.all goodWord = true) : GoodIn big ws := by
  intro w hw
  have h1 := List.all_eq_true.mp h w hw
  rw [hp] at hw
  obtain ⟨i, -, hi⟩ := List.mem_filterMap.mp hw
  have hm : w ∈ big := by first | exact List.mem_of_getElem? hi | exact List.getElem?_mem hi
  exact ⟨hm, good_of_word h1⟩
theorem goodIn_app {big a b : List Cond} (ha : GoodIn big a) (hb : GoodIn big b) : GoodIn big (a ++ b) := fun w h => (List.mem_append.mp h).elim (ha w) (hb w)
theorem goodIn_ca {big a b : List Cond} {c : Cond} (ha : GoodIn big (c :: a)) (hb : GoodIn big b) : GoodIn big (c :: (a ++ b)) := fun w h => (List.mem_cons.mp h).elim (fun e => ha w (List.mem_cons.mpr (Or.inl e))) (fun h => (List.mem_append.mp h).elim (fun h => ha w (List.mem_cons.mpr (Or.inr h))) (hb w))
theorem goodIn_sub {big ws : List Cond} (hm : ∀ w ∈ ws, w ∈ big) (h : ws.all goodWord = true) : GoodIn big ws := fun w hw => ⟨hm w hw, good_of_word (List.all_eq_true.mp h w hw)⟩
/-! ===== END ===== -/

/-! ===== BEGIN printed: names, fields, word lists, decode rows ===== -/
def RX0 : String := "LoadCouncil$Council"
def TX0 : u_T := fun k => match k with
  | 0 => ("LoadCouncil$Council", "candidates", "I", false)
  | 1 => ("LoadCouncil$Council", "ballots", "I", false)
  | 2 => ("LoadCouncil$Council", "seats", "I", false)
  | 3 => ("LoadCouncil$Council", "withdrawn", "I", false)
  | 4 => ("LoadCouncil$Council", "voters", "[I", true)
  | 5 => ("LoadCouncil$Council", "sets", "[I", true)
  | _ => ("LoadCouncil$Council", "rank", "[I", true)
def tyX0 : Nat → FieldType := fun k => match k with
  | 0 => .int
  | 1 => .int
  | 2 => .int
  | 3 => .int
  | 4 => .array .int
  | 5 => .array .int
  | _ => .array .int
abbrev wsX00 : List Cond := u_ws RX0 TX0 7
theorem nmX0 : ∀ a, a < 7 → ∀ b, b < 7 → a ≠ b → (TX0 a).2.1 ≠ (TX0 b).2.1 := by decide +kernel
theorem tyX0_ok : ∀ k, k < 7 → parseFieldDescriptor (TX0 k).2.2.1 = some (tyX0 k) := by decide +kernel
abbrev cX0_init : ByteArray := prog_2_method_1_code
def yX0_init : MethodName := ⟨RX0, "<init>", "()V"⟩
abbrev cX0_beginWith : ByteArray := prog_2_method_2_code
def yX0_beginWith : MethodName := ⟨RX0, "beginWith", "(I)V"⟩
abbrev cX0_copyFrom : ByteArray := prog_2_method_3_code
def yX0_copyFrom : MethodName := ⟨RX0, "copyFrom", "(LLoadCouncil$Council;)V"⟩
abbrev cX0_addBallot : ByteArray := prog_2_method_4_code
def yX0_addBallot : MethodName := ⟨RX0, "addBallot", "(II)V"⟩
abbrev cX0_allVoters : ByteArray := prog_2_method_5_code
def yX0_allVoters : MethodName := ⟨RX0, "allVoters", "()I"⟩
abbrev cX0_supportOf : ByteArray := prog_2_method_6_code
def yX0_supportOf : MethodName := ⟨RX0, "supportOf", "(I)I"⟩
abbrev cX0_agreesTo : ByteArray := prog_2_method_7_code
def yX0_agreesTo : MethodName := ⟨RX0, "agreesTo", "(II)Z"⟩
abbrev cX0_votersWhoAgree : ByteArray := prog_2_method_8_code
def yX0_votersWhoAgree : MethodName := ⟨RX0, "votersWhoAgree", "(I)I"⟩
abbrev cX0_approvedByThoseWhoAgree : ByteArray := prog_2_method_9_code
def yX0_approvedByThoseWhoAgree : MethodName := ⟨RX0, "approvedByThoseWhoAgree", "(I)I"⟩
abbrev cX0_isOwed : ByteArray := prog_2_method_10_code
def yX0_isOwed : MethodName := ⟨RX0, "isOwed", "(I)Z"⟩
abbrev cX0_isShort : ByteArray := prog_2_method_11_code
def yX0_isShort : MethodName := ⟨RX0, "isShort", "(II)Z"⟩
abbrev cX0_isWithdrawn : ByteArray := prog_2_method_12_code
def yX0_isWithdrawn : MethodName := ⟨RX0, "isWithdrawn", "(I)Z"⟩
abbrev cX0_placeOf : ByteArray := prog_2_method_13_code
def yX0_placeOf : MethodName := ⟨RX0, "placeOf", "(I)I"⟩
abbrev cX0_bringToFront : ByteArray := prog_2_method_14_code
def yX0_bringToFront : MethodName := ⟨RX0, "bringToFront", "(I)V"⟩
abbrev cX0_turnRankRound : ByteArray := prog_2_method_15_code
def yX0_turnRankRound : MethodName := ⟨RX0, "turnRankRound", "()V"⟩
def RX1 : String := "LoadCouncil$Election"
def TX1 : u_T := fun k => match k with
  | 0 => ("LoadCouncil$Election", "order", "[I", true)
  | 1 => ("LoadCouncil$Election", "above", "[J", true)
  | 2 => ("LoadCouncil$Election", "below", "[J", true)
  | 3 => ("LoadCouncil$Election", "elected", "I", false)
  | 4 => ("LoadCouncil$Election", "set", "I", false)
  | 5 => ("LoadCouncil$Election", "support", "[I", true)
  | 6 => ("LoadCouncil$Election", "worth", "[J", true)
  | 7 => ("LoadCouncil$Election", "loads", "[J", true)
  | _ => ("LoadCouncil$Election", "unit", "J", false)
def tyX1 : Nat → FieldType := fun k => match k with
  | 0 => .array .int
  | 1 => .array .long
  | 2 => .array .long
  | 3 => .int
  | 4 => .int
  | 5 => .array .int
  | 6 => .array .long
  | 7 => .array .long
  | _ => .long
abbrev wsX10 : List Cond := u_ws RX1 TX1 9
theorem nmX1 : ∀ a, a < 9 → ∀ b, b < 9 → a ≠ b → (TX1 a).2.1 ≠ (TX1 b).2.1 := by decide +kernel
theorem tyX1_ok : ∀ k, k < 9 → parseFieldDescriptor (TX1 k).2.2.1 = some (tyX1 k) := by decide +kernel
abbrev cX1_init : ByteArray := prog_3_method_1_code
def yX1_init : MethodName := ⟨RX1, "<init>", "()V"⟩
abbrev cX1_hold : ByteArray := prog_3_method_2_code
def yX1_hold : MethodName := ⟨RX1, "hold", "(LLoadCouncil$Council;I)I"⟩
abbrev cX1_begin : ByteArray := prog_3_method_3_code
def yX1_begin : MethodName := ⟨RX1, "begin", "(LLoadCouncil$Council;)V"⟩
abbrev cX1_nextMember : ByteArray := prog_3_method_4_code
def yX1_nextMember : MethodName := ⟨RX1, "nextMember", "(LLoadCouncil$Council;I)I"⟩
abbrev cX1_worthOf : ByteArray := prog_3_method_5_code
def yX1_worthOf : MethodName := ⟨RX1, "worthOf", "(LLoadCouncil$Council;II)J"⟩
abbrev cX1_weightOf : ByteArray := prog_3_method_6_code
def yX1_weightOf : MethodName := ⟨RX1, "weightOf", "(LLoadCouncil$Council;I)J"⟩
abbrev cX1_isAhead : ByteArray := prog_3_method_7_code
def yX1_isAhead : MethodName := ⟨RX1, "isAhead", "(III)Z"⟩
abbrev cX1_elect : ByteArray := prog_3_method_8_code
def yX1_elect : MethodName := ⟨RX1, "elect", "(LLoadCouncil$Council;II)V"⟩
abbrev cX1_spreadLoad : ByteArray := prog_3_method_9_code
def yX1_spreadLoad : MethodName := ⟨RX1, "spreadLoad", "(LLoadCouncil$Council;I)V"⟩
def RX2 : String := "LoadCouncil$Past"
def TX2 : u_T := fun k => match k with
  | 0 => ("LoadCouncil$Past", "ring", "[LLoadCouncil$Council;", true)
  | 1 => ("LoadCouncil$Past", "top", "I", false)
  | _ => ("LoadCouncil$Past", "size", "I", false)
def tyX2 : Nat → FieldType := fun k => match k with
  | 0 => .array (.object "LoadCouncil$Council")
  | 1 => .int
  | _ => .int
abbrev wsX20 : List Cond := u_ws RX2 TX2 3
theorem nmX2 : ∀ a, a < 3 → ∀ b, b < 3 → a ≠ b → (TX2 a).2.1 ≠ (TX2 b).2.1 := by decide +kernel
theorem tyX2_ok : ∀ k, k < 3 → parseFieldDescriptor (TX2 k).2.2.1 = some (tyX2 k) := by decide +kernel
abbrev cX2_init : ByteArray := prog_4_method_1_code
def yX2_init : MethodName := ⟨RX2, "<init>", "()V"⟩
abbrev cX2_forget : ByteArray := prog_4_method_2_code
def yX2_forget : MethodName := ⟨RX2, "forget", "()V"⟩
abbrev cX2_keep : ByteArray := prog_4_method_3_code
def yX2_keep : MethodName := ⟨RX2, "keep", "(LLoadCouncil$Council;)V"⟩
abbrev cX2_bringBack : ByteArray := prog_4_method_4_code
def yX2_bringBack : MethodName := ⟨RX2, "bringBack", "(LLoadCouncil$Council;)V"⟩
def RX3 : String := "LoadCouncil$Text"
def TX3 : u_T := fun k => match k with
  | 0 => ("LoadCouncil$Text", "letters", "[I", true)
  | _ => ("LoadCouncil$Text", "length", "I", false)
def tyX3 : Nat → FieldType := fun k => match k with
  | 0 => .array .int
  | _ => .int
abbrev wsX30 : List Cond := u_ws RX3 TX3 2
theorem nmX3 : ∀ a, a < 2 → ∀ b, b < 2 → a ≠ b → (TX3 a).2.1 ≠ (TX3 b).2.1 := by decide +kernel
theorem tyX3_ok : ∀ k, k < 2 → parseFieldDescriptor (TX3 k).2.2.1 = some (tyX3 k) := by decide +kernel
abbrev cX3_init : ByteArray := prog_5_method_1_code
def yX3_init : MethodName := ⟨RX3, "<init>", "()V"⟩
abbrev cX3_add : ByteArray := prog_5_method_2_code
def yX3_add : MethodName := ⟨RX3, "add", "(I)Z"⟩
abbrev cX3_clear : ByteArray := prog_5_method_3_code
def yX3_clear : MethodName := ⟨RX3, "clear", "()V"⟩
abbrev cX3_readInto : ByteArray := prog_5_method_4_code
def yX3_readInto : MethodName := ⟨RX3, "readInto", "(LLoadCouncil$Council;)I"⟩
abbrev cX3_readItem : ByteArray := prog_5_method_5_code
def yX3_readItem : MethodName := ⟨RX3, "readItem", "(LLoadCouncil$Council;II)Z"⟩
abbrev cX3_readCandidates : ByteArray := prog_5_method_6_code
def yX3_readCandidates : MethodName := ⟨RX3, "readCandidates", "(LLoadCouncil$Council;II)Z"⟩
abbrev cX3_readBallot : ByteArray := prog_5_method_7_code
def yX3_readBallot : MethodName := ⟨RX3, "readBallot", "(LLoadCouncil$Council;II)Z"⟩
abbrev cX3_readSeats : ByteArray := prog_5_method_8_code
def yX3_readSeats : MethodName := ⟨RX3, "readSeats", "(LLoadCouncil$Council;II)Z"⟩
abbrev cX3_readRank : ByteArray := prog_5_method_9_code
def yX3_readRank : MethodName := ⟨RX3, "readRank", "(LLoadCouncil$Council;II)Z"⟩
abbrev cX3_number : ByteArray := prog_5_method_10_code
def yX3_number : MethodName := ⟨RX3, "number", "(II)I"⟩
abbrev cX3_risingSet : ByteArray := prog_5_method_11_code
def yX3_risingSet : MethodName := ⟨RX3, "risingSet", "(III)I"⟩
def RX4 : String := "LoadCouncil"
def TX4 : u_T := fun k => match k with
  | 0 => ("LoadCouncil", "text", "LLoadCouncil$Text;", true)
  | 1 => ("LoadCouncil", "now", "LLoadCouncil$Council;", true)
  | 2 => ("LoadCouncil", "trial", "LLoadCouncil$Council;", true)
  | 3 => ("LoadCouncil", "past", "LLoadCouncil$Past;", true)
  | _ => ("LoadCouncil", "election", "LLoadCouncil$Election;", true)
def tyX4 : Nat → FieldType := fun k => match k with
  | 0 => .object "LoadCouncil$Text"
  | 1 => .object "LoadCouncil$Council"
  | 2 => .object "LoadCouncil$Council"
  | 3 => .object "LoadCouncil$Past"
  | _ => .object "LoadCouncil$Election"
abbrev wsX40 : List Cond := u_ws RX4 TX4 5
theorem nmX4 : ∀ a, a < 5 → ∀ b, b < 5 → a ≠ b → (TX4 a).2.1 ≠ (TX4 b).2.1 := by decide +kernel
theorem tyX4_ok : ∀ k, k < 5 → parseFieldDescriptor (TX4 k).2.2.1 = some (tyX4 k) := by decide +kernel
abbrev cX4_init : ByteArray := prog_1_method_1_code
def yX4_init : MethodName := ⟨RX4, "<init>", "()V"⟩
abbrev cX4_write : ByteArray := prog_1_method_2_code
def yX4_write : MethodName := ⟨RX4, "write", "(I)I"⟩
abbrev cX4_wipe : ByteArray := prog_1_method_3_code
def yX4_wipe : MethodName := ⟨RX4, "wipe", "()I"⟩
abbrev cX4_fault : ByteArray := prog_1_method_4_code
def yX4_fault : MethodName := ⟨RX4, "fault", "()I"⟩
abbrev cX4_lay : ByteArray := prog_1_method_5_code
def yX4_lay : MethodName := ⟨RX4, "lay", "()I"⟩
abbrev cX4_ballot : ByteArray := prog_1_method_6_code
def yX4_ballot : MethodName := ⟨RX4, "ballot", "(II)I"⟩
abbrev cX4_voters : ByteArray := prog_1_method_7_code
def yX4_voters : MethodName := ⟨RX4, "voters", "(II)I"⟩
abbrev cX4_approve : ByteArray := prog_1_method_8_code
def yX4_approve : MethodName := ⟨RX4, "approve", "(II)I"⟩
abbrev cX4_seats : ByteArray := prog_1_method_9_code
def yX4_seats : MethodName := ⟨RX4, "seats", "(I)I"⟩
abbrev cX4_withdraw : ByteArray := prog_1_method_10_code
def yX4_withdraw : MethodName := ⟨RX4, "withdraw", "(II)I"⟩
abbrev cX4_prefer : ByteArray := prog_1_method_11_code
def yX4_prefer : MethodName := ⟨RX4, "prefer", "(I)I"⟩
abbrev cX4_undo : ByteArray := prog_1_method_12_code
def yX4_undo : MethodName := ⟨RX4, "undo", "()I"⟩
abbrev cX4_candidate : ByteArray := prog_1_method_13_code
def yX4_candidate : MethodName := ⟨RX4, "candidate", "(II)I"⟩
abbrev cX4_vote : ByteArray := prog_1_method_14_code
def yX4_vote : MethodName := ⟨RX4, "vote", "(II)I"⟩
abbrev cX4_member : ByteArray := prog_1_method_15_code
def yX4_member : MethodName := ⟨RX4, "member", "(II)I"⟩
abbrev cX4_members : ByteArray := prog_1_method_16_code
def yX4_members : MethodName := ⟨RX4, "members", "(I)I"⟩
abbrev cX4_came : ByteArray := prog_1_method_17_code
def yX4_came : MethodName := ⟨RX4, "came", "(III)J"⟩
abbrev cX4_load : ByteArray := prog_1_method_18_code
def yX4_load : MethodName := ⟨RX4, "load", "(II)J"⟩
abbrev cX4_greatest : ByteArray := prog_1_method_19_code
def yX4_greatest : MethodName := ⟨RX4, "greatest", "(I)J"⟩
abbrev cX4_agrees : ByteArray := prog_1_method_20_code
def yX4_agrees : MethodName := ⟨RX4, "agrees", "(II)I"⟩
abbrev cX4_shorts : ByteArray := prog_1_method_21_code
def yX4_shorts : MethodName := ⟨RX4, "shorts", "(II)I"⟩
abbrev cX4_joins : ByteArray := prog_1_method_22_code
def yX4_joins : MethodName := ⟨RX4, "joins", "(II)I"⟩
abbrev cX4_matters : ByteArray := prog_1_method_23_code
def yX4_matters : MethodName := ⟨RX4, "matters", "(I)I"⟩
abbrev cX4_rather : ByteArray := prog_1_method_24_code
def yX4_rather : MethodName := ⟨RX4, "rather", "(III)I"⟩
abbrev cX4_decided : ByteArray := prog_1_method_25_code
def yX4_decided : MethodName := ⟨RX4, "decided", "(I)I"⟩
abbrev cX4_both : ByteArray := prog_1_method_26_code
def yX4_both : MethodName := ⟨RX4, "both", "(II)I"⟩
abbrev cX4_count : ByteArray := prog_1_method_27_code
def yX4_count : MethodName := ⟨RX4, "count", "(I)I"⟩
abbrev cX4_lawsThatElect : ByteArray := prog_1_method_28_code
def yX4_lawsThatElect : MethodName := ⟨RX4, "lawsThatElect", "(I)I"⟩
abbrev cX4_isCandidate : ByteArray := prog_1_method_29_code
def yX4_isCandidate : MethodName := ⟨RX4, "isCandidate", "(I)Z"⟩
abbrev cX4_isBallot : ByteArray := prog_1_method_30_code
def yX4_isBallot : MethodName := ⟨RX4, "isBallot", "(I)Z"⟩
abbrev cX4_isSet : ByteArray := prog_1_method_31_code
def yX4_isSet : MethodName := ⟨RX4, "isSet", "(I)Z"⟩
abbrev cX4_isVoters : ByteArray := prog_1_method_32_code
def yX4_isVoters : MethodName := ⟨RX4, "isVoters", "(I)Z"⟩
abbrev cX4_isLaw : ByteArray := prog_1_method_33_code
def yX4_isLaw : MethodName := ⟨RX4, "isLaw", "(I)Z"⟩
abbrev cX4_isPart : ByteArray := prog_1_method_34_code
def yX4_isPart : MethodName := ⟨RX4, "isPart", "(I)Z"⟩
abbrev cX4_hasBit : ByteArray := prog_1_method_35_code
def yX4_hasBit : MethodName := ⟨RX4, "hasBit", "(II)Z"⟩
abbrev cX4_partOf : ByteArray := prog_1_method_36_code
def yX4_partOf : MethodName := ⟨RX4, "partOf", "(JJI)J"⟩
abbrev cX4_greatestDivisor : ByteArray := prog_1_method_37_code
def yX4_greatestDivisor : MethodName := ⟨RX4, "greatestDivisor", "(JJ)J"⟩
def RX5 : String := "LoadCouncilModel"
def TX5 : u_T := fun k => match k with
  | 0 => ("LoadCouncilModel", "now", "[I", true)
  | 1 => ("LoadCouncilModel", "read", "[I", true)
  | 2 => ("LoadCouncilModel", "past", "[I", true)
  | 3 => ("LoadCouncilModel", "changes", "I", false)
  | 4 => ("LoadCouncilModel", "text", "[I", true)
  | 5 => ("LoadCouncilModel", "letters", "I", false)
  | 6 => ("LoadCouncilModel", "heads", "[I", true)
  | 7 => ("LoadCouncilModel", "sets", "[I", true)
  | 8 => ("LoadCouncilModel", "ballots", "I", false)
  | 9 => ("LoadCouncilModel", "ranks", "[I", true)
  | 10 => ("LoadCouncilModel", "loads", "[J", true)
  | 11 => ("LoadCouncilModel", "below", "J", false)
  | 12 => ("LoadCouncilModel", "order", "[I", true)
  | 13 => ("LoadCouncilModel", "elected", "I", false)
  | 14 => ("LoadCouncilModel", "members", "I", false)
  | 15 => ("LoadCouncilModel", "above", "[J", true)
  | 16 => ("LoadCouncilModel", "under", "[J", true)
  | 17 => ("LoadCouncilModel", "spot", "I", false)
  | _ => ("LoadCouncilModel", "value", "I", false)
def tyX5 : Nat → FieldType := fun k => match k with
  | 0 => .array .int
  | 1 => .array .int
  | 2 => .array .int
  | 3 => .int
  | 4 => .array .int
  | 5 => .int
  | 6 => .array .int
  | 7 => .array .int
  | 8 => .int
  | 9 => .array .int
  | 10 => .array .long
  | 11 => .long
  | 12 => .array .int
  | 13 => .int
  | 14 => .int
  | 15 => .array .long
  | 16 => .array .long
  | 17 => .int
  | _ => .int
abbrev wsX50 : List Cond := u_ws RX5 TX5 19
theorem nmX5 : ∀ a, a < 19 → ∀ b, b < 19 → a ≠ b → (TX5 a).2.1 ≠ (TX5 b).2.1 := by decide +kernel
theorem tyX5_ok : ∀ k, k < 19 → parseFieldDescriptor (TX5 k).2.2.1 = some (tyX5 k) := by decide +kernel
abbrev cX5_init : ByteArray := prog_7_method_1_code
def yX5_init : MethodName := ⟨RX5, "<init>", "()V"⟩
abbrev cX5_in : ByteArray := prog_7_method_3_code
def yX5_in : MethodName := ⟨RX5, "in", "(III)Z"⟩
abbrev cX5_has : ByteArray := prog_7_method_4_code
def yX5_has : MethodName := ⟨RX5, "has", "(II)Z"⟩
abbrev cX5_ones : ByteArray := prog_7_method_5_code
def yX5_ones : MethodName := ⟨RX5, "ones", "(I)I"⟩
abbrev cX5_adds : ByteArray := prog_7_method_6_code
def yX5_adds : MethodName := ⟨RX5, "adds", "(II)V"⟩
abbrev cX5_isCandidate : ByteArray := prog_7_method_7_code
def yX5_isCandidate : MethodName := ⟨RX5, "isCandidate", "(I)Z"⟩
abbrev cX5_isBallot : ByteArray := prog_7_method_8_code
def yX5_isBallot : MethodName := ⟨RX5, "isBallot", "(I)Z"⟩
abbrev cX5_isSet : ByteArray := prog_7_method_9_code
def yX5_isSet : MethodName := ⟨RX5, "isSet", "(I)Z"⟩
abbrev cX5_isLaw : ByteArray := prog_7_method_10_code
def yX5_isLaw : MethodName := ⟨RX5, "isLaw", "(I)Z"⟩
abbrev cX5_allVoters : ByteArray := prog_7_method_11_code
def yX5_allVoters : MethodName := ⟨RX5, "allVoters", "()I"⟩
abbrev cX5_write : ByteArray := prog_7_method_12_code
def yX5_write : MethodName := ⟨RX5, "write", "(I)I"⟩
abbrev cX5_wipe : ByteArray := prog_7_method_13_code
def yX5_wipe : MethodName := ⟨RX5, "wipe", "()I"⟩
abbrev cX5_letterAt : ByteArray := prog_7_method_14_code
def yX5_letterAt : MethodName := ⟨RX5, "letterAt", "(I)I"⟩
abbrev cX5_takesNumber : ByteArray := prog_7_method_15_code
def yX5_takesNumber : MethodName := ⟨RX5, "takesNumber", "(II)Z"⟩
abbrev cX5_takes : ByteArray := prog_7_method_16_code
def yX5_takes : MethodName := ⟨RX5, "takes", "(I)Z"⟩
abbrev cX5_isName : ByteArray := prog_7_method_17_code
def yX5_isName : MethodName := ⟨RX5, "isName", "()Z"⟩
abbrev cX5_takesSet : ByteArray := prog_7_method_18_code
def yX5_takesSet : MethodName := ⟨RX5, "takesSet", "()Z"⟩
abbrev cX5_readVoters : ByteArray := prog_7_method_19_code
def yX5_readVoters : MethodName := ⟨RX5, "readVoters", "()I"⟩
abbrev cX5_takesBallot : ByteArray := prog_7_method_20_code
def yX5_takesBallot : MethodName := ⟨RX5, "takesBallot", "()Z"⟩
abbrev cX5_takesRank : ByteArray := prog_7_method_21_code
def yX5_takesRank : MethodName := ⟨RX5, "takesRank", "()Z"⟩
abbrev cX5_takesCandidates : ByteArray := prog_7_method_22_code
def yX5_takesCandidates : MethodName := ⟨RX5, "takesCandidates", "()Z"⟩
abbrev cX5_takesSeats : ByteArray := prog_7_method_23_code
def yX5_takesSeats : MethodName := ⟨RX5, "takesSeats", "()Z"⟩
abbrev cX5_takesItem : ByteArray := prog_7_method_24_code
def yX5_takesItem : MethodName := ⟨RX5, "takesItem", "()Z"⟩
abbrev cX5_faultOf : ByteArray := prog_7_method_25_code
def yX5_faultOf : MethodName := ⟨RX5, "faultOf", "()I"⟩
abbrev cX5_fault : ByteArray := prog_7_method_26_code
def yX5_fault : MethodName := ⟨RX5, "fault", "()I"⟩
abbrev cX5_lay : ByteArray := prog_7_method_27_code
def yX5_lay : MethodName := ⟨RX5, "lay", "()I"⟩
abbrev cX5_remembers : ByteArray := prog_7_method_28_code
def yX5_remembers : MethodName := ⟨RX5, "remembers", "()V"⟩
abbrev cX5_exchanges : ByteArray := prog_7_method_29_code
def yX5_exchanges : MethodName := ⟨RX5, "exchanges", "(II)I"⟩
abbrev cX5_ballot : ByteArray := prog_7_method_30_code
def yX5_ballot : MethodName := ⟨RX5, "ballot", "(II)I"⟩
abbrev cX5_voters : ByteArray := prog_7_method_31_code
def yX5_voters : MethodName := ⟨RX5, "voters", "(II)I"⟩
abbrev cX5_approve : ByteArray := prog_7_method_32_code
def yX5_approve : MethodName := ⟨RX5, "approve", "(II)I"⟩
abbrev cX5_seats : ByteArray := prog_7_method_33_code
def yX5_seats : MethodName := ⟨RX5, "seats", "(I)I"⟩
abbrev cX5_withdraw : ByteArray := prog_7_method_34_code
def yX5_withdraw : MethodName := ⟨RX5, "withdraw", "(II)I"⟩
abbrev cX5_placeOf : ByteArray := prog_7_method_35_code
def yX5_placeOf : MethodName := ⟨RX5, "placeOf", "(I)I"⟩
abbrev cX5_prefer : ByteArray := prog_7_method_36_code
def yX5_prefer : MethodName := ⟨RX5, "prefer", "(I)I"⟩
abbrev cX5_undo : ByteArray := prog_7_method_37_code
def yX5_undo : MethodName := ⟨RX5, "undo", "()I"⟩
abbrev cX5_lays : ByteArray := prog_7_method_38_code
def yX5_lays : MethodName := ⟨RX5, "lays", "()V"⟩
abbrev cX5_supportOf : ByteArray := prog_7_method_39_code
def yX5_supportOf : MethodName := ⟨RX5, "supportOf", "(I)I"⟩
abbrev cX5_loadOf : ByteArray := prog_7_method_40_code
def yX5_loadOf : MethodName := ⟨RX5, "loadOf", "(I)J"⟩
abbrev cX5_weightOf : ByteArray := prog_7_method_41_code
def yX5_weightOf : MethodName := ⟨RX5, "weightOf", "(I)I"⟩
abbrev cX5_isAhead : ByteArray := prog_7_method_42_code
def yX5_isAhead : MethodName := ⟨RX5, "isAhead", "(III)Z"⟩
abbrev cX5_nextOf : ByteArray := prog_7_method_43_code
def yX5_nextOf : MethodName := ⟨RX5, "nextOf", "(IZ)I"⟩
abbrev cX5_comesBy : ByteArray := prog_7_method_44_code
def yX5_comesBy : MethodName := ⟨RX5, "comesBy", "(II)V"⟩
abbrev cX5_elects : ByteArray := prog_7_method_45_code
def yX5_elects : MethodName := ⟨RX5, "elects", "(I)V"⟩
abbrev cX5_membersBy : ByteArray := prog_7_method_46_code
def yX5_membersBy : MethodName := ⟨RX5, "membersBy", "(I)I"⟩
abbrev cX5_lawsOf : ByteArray := prog_7_method_47_code
def yX5_lawsOf : MethodName := ⟨RX5, "lawsOf", "(I)I"⟩
abbrev cX5_aboutCandidate : ByteArray := prog_7_method_48_code
def yX5_aboutCandidate : MethodName := ⟨RX5, "aboutCandidate", "(II)I"⟩
abbrev cX5_candidate : ByteArray := prog_7_method_49_code
def yX5_candidate : MethodName := ⟨RX5, "candidate", "(II)I"⟩
abbrev cX5_vote : ByteArray := prog_7_method_50_code
def yX5_vote : MethodName := ⟨RX5, "vote", "(II)I"⟩
abbrev cX5_member : ByteArray := prog_7_method_51_code
def yX5_member : MethodName := ⟨RX5, "member", "(II)I"⟩
abbrev cX5_members : ByteArray := prog_7_method_52_code
def yX5_members : MethodName := ⟨RX5, "members", "(I)I"⟩
abbrev cX5_partOf : ByteArray := prog_7_method_53_code
def yX5_partOf : MethodName := ⟨RX5, "partOf", "(JJI)J"⟩
abbrev cX5_isPart : ByteArray := prog_7_method_54_code
def yX5_isPart : MethodName := ⟨RX5, "isPart", "(I)Z"⟩
abbrev cX5_came : ByteArray := prog_7_method_55_code
def yX5_came : MethodName := ⟨RX5, "came", "(III)J"⟩
abbrev cX5_load : ByteArray := prog_7_method_56_code
def yX5_load : MethodName := ⟨RX5, "load", "(II)J"⟩
abbrev cX5_greatest : ByteArray := prog_7_method_57_code
def yX5_greatest : MethodName := ⟨RX5, "greatest", "(I)J"⟩
abbrev cX5_agreed : ByteArray := prog_7_method_58_code
def yX5_agreed : MethodName := ⟨RX5, "agreed", "(I)I"⟩
abbrev cX5_isOwed : ByteArray := prog_7_method_59_code
def yX5_isOwed : MethodName := ⟨RX5, "isOwed", "(I)Z"⟩
abbrev cX5_unionOf : ByteArray := prog_7_method_60_code
def yX5_unionOf : MethodName := ⟨RX5, "unionOf", "(I)I"⟩
abbrev cX5_agrees : ByteArray := prog_7_method_61_code
def yX5_agrees : MethodName := ⟨RX5, "agrees", "(II)I"⟩
abbrev cX5_shorts : ByteArray := prog_7_method_62_code
def yX5_shorts : MethodName := ⟨RX5, "shorts", "(II)I"⟩
abbrev cX5_joins : ByteArray := prog_7_method_63_code
def yX5_joins : MethodName := ⟨RX5, "joins", "(II)I"⟩
abbrev cX5_matters : ByteArray := prog_7_method_64_code
def yX5_matters : MethodName := ⟨RX5, "matters", "(I)I"⟩
abbrev cX5_rather : ByteArray := prog_7_method_65_code
def yX5_rather : MethodName := ⟨RX5, "rather", "(III)I"⟩
abbrev cX5_decided : ByteArray := prog_7_method_66_code
def yX5_decided : MethodName := ⟨RX5, "decided", "(I)I"⟩
abbrev cX5_both : ByteArray := prog_7_method_67_code
def yX5_both : MethodName := ⟨RX5, "both", "(II)I"⟩
abbrev cX5_count : ByteArray := prog_7_method_68_code
def yX5_count : MethodName := ⟨RX5, "count", "(I)I"⟩
def RJ6 : String := "java/lang/Integer"
def TJ6 : u_T := fun k => match k with
  | _ => ("", "", "", false)
def tyJ6 : Nat → FieldType := fun k => match k with
  | _ => .int
abbrev wsJ60 : List Cond := u_ws RJ6 TJ6 0
theorem nmJ6 : ∀ a, a < 0 → ∀ b, b < 0 → a ≠ b → (TJ6 a).2.1 ≠ (TJ6 b).2.1 := by decide +kernel
theorem tyJ6_ok : ∀ k, k < 0 → parseFieldDescriptor (TJ6 k).2.2.1 = some (tyJ6 k) := by decide +kernel
abbrev cJ6_bitCount_0f7a4 : ByteArray := prog_8_method_49_code
def yJ6_bitCount_0f7a4 : MethodName := ⟨RJ6, "bitCount", "(I)I"⟩
def RJ9 : String := "java/lang/Math"
def TJ9 : u_T := fun k => match k with
  | _ => ("", "", "", false)
def tyJ9 : Nat → FieldType := fun k => match k with
  | _ => .int
abbrev wsJ90 : List Cond := u_ws RJ9 TJ9 0
theorem nmJ9 : ∀ a, a < 0 → ∀ b, b < 0 → a ≠ b → (TJ9 a).2.1 ≠ (TJ9 b).2.1 := by decide +kernel
theorem tyJ9_ok : ∀ k, k < 0 → parseFieldDescriptor (TJ9 k).2.2.1 = some (tyJ9 k) := by decide +kernel
abbrev cJ9_max_f86c9 : ByteArray := prog_9_method_66_code
def yJ9_max_f86c9 : MethodName := ⟨RJ9, "max", "(JJ)J"⟩
abbrev cJ9_min_7cf53 : ByteArray := prog_9_method_69_code
def yJ9_min_7cf53 : MethodName := ⟨RJ9, "min", "(II)I"⟩
def RJ0 : String := "java/lang/String"
def TJ0 : u_T := fun k => match k with
  | _ => ("", "", "", false)
def tyJ0 : Nat → FieldType := fun k => match k with
  | _ => .int
abbrev wsJ00 : List Cond := u_ws RJ0 TJ0 0
theorem nmJ0 : ∀ a, a < 0 → ∀ b, b < 0 → a ≠ b → (TJ0 a).2.1 ≠ (TJ0 b).2.1 := by decide +kernel
theorem tyJ0_ok : ∀ k, k < 0 → parseFieldDescriptor (TJ0 k).2.2.1 = some (tyJ0 k) := by decide +kernel
abbrev cJ0_length_8abf5 : ByteArray := prog_10_method_54_code
def yJ0_length_8abf5 : MethodName := ⟨RJ0, "length", "()I"⟩
abbrev cJ0_charAt_5068e : ByteArray := prog_10_method_56_code
def yJ0_charAt_5068e : MethodName := ⟨RJ0, "charAt", "(I)C"⟩
abbrev cJ0_coder_7d493 : ByteArray := prog_10_method_152_code
def yJ0_coder_7d493 : MethodName := ⟨RJ0, "coder", "()B"⟩
abbrev cJ0_isLatin1_aae02 : ByteArray := prog_10_method_154_code
def yJ0_isLatin1_aae02 : MethodName := ⟨RJ0, "isLatin1", "()Z"⟩
abbrev cJ0_checkIndex_df160 : ByteArray := prog_10_method_155_code
def yJ0_checkIndex_df160 : MethodName := ⟨RJ0, "checkIndex", "(II)V"⟩
def RJ1 : String := "java/lang/StringLatin1"
def TJ1 : u_T := fun k => match k with
  | _ => ("", "", "", false)
def tyJ1 : Nat → FieldType := fun k => match k with
  | _ => .int
abbrev wsJ10 : List Cond := u_ws RJ1 TJ1 0
theorem nmJ1 : ∀ a, a < 0 → ∀ b, b < 0 → a ≠ b → (TJ1 a).2.1 ≠ (TJ1 b).2.1 := by decide +kernel
theorem tyJ1_ok : ∀ k, k < 0 → parseFieldDescriptor (TJ1 k).2.2.1 = some (tyJ1 k) := by decide +kernel
abbrev cJ1_charAt_3b067 : ByteArray := prog_11_method_2_code
def yJ1_charAt_3b067 : MethodName := ⟨RJ1, "charAt", "([BI)C"⟩
def RJ2 : String := "java/lang/StringUTF16"
def TJ2 : u_T := fun k => match k with
  | _ => ("", "", "", false)
def tyJ2 : Nat → FieldType := fun k => match k with
  | _ => .int
abbrev wsJ20 : List Cond := u_ws RJ2 TJ2 0
theorem nmJ2 : ∀ a, a < 0 → ∀ b, b < 0 → a ≠ b → (TJ2 a).2.1 ≠ (TJ2 b).2.1 := by decide +kernel
theorem tyJ2_ok : ∀ k, k < 0 → parseFieldDescriptor (TJ2 k).2.2.1 = some (tyJ2 k) := by decide +kernel
abbrev cJ2_getChar_3b067 : ByteArray := prog_12_method_5_code
def yJ2_getChar_3b067 : MethodName := ⟨RJ2, "getChar", "([BI)C"⟩
abbrev cJ2_length_9d52b : ByteArray := prog_12_method_6_code
def yJ2_length_9d52b : MethodName := ⟨RJ2, "length", "([B)I"⟩
abbrev cJ2_charAt_3b067 : ByteArray := prog_12_method_83_code
def yJ2_charAt_3b067 : MethodName := ⟨RJ2, "charAt", "([BI)C"⟩
abbrev cJ2_checkIndex_2214a : ByteArray := prog_12_method_91_code
def yJ2_checkIndex_2214a : MethodName := ⟨RJ2, "checkIndex", "(I[B)V"⟩
def RJ10 : String := "java/lang/System"
def TJ10 : u_T := fun k => match k with
  | _ => ("", "", "", false)
def tyJ10 : Nat → FieldType := fun k => match k with
  | _ => .int
abbrev wsJ100 : List Cond := u_ws RJ10 TJ10 0
theorem nmJ10 : ∀ a, a < 0 → ∀ b, b < 0 → a ≠ b → (TJ10 a).2.1 ≠ (TJ10 b).2.1 := by decide +kernel
theorem tyJ10_ok : ∀ k, k < 0 → parseFieldDescriptor (TJ10 k).2.2.1 = some (tyJ10 k) := by decide +kernel
def RJ3 : String := "jdk/internal/util/Preconditions"
def TJ3 : u_T := fun k => match k with
  | _ => ("", "", "", false)
def tyJ3 : Nat → FieldType := fun k => match k with
  | _ => .int
abbrev wsJ30 : List Cond := u_ws RJ3 TJ3 0
theorem nmJ3 : ∀ a, a < 0 → ∀ b, b < 0 → a ≠ b → (TJ3 a).2.1 ≠ (TJ3 b).2.1 := by decide +kernel
theorem tyJ3_ok : ∀ k, k < 0 → parseFieldDescriptor (TJ3 k).2.2.1 = some (tyJ3 k) := by decide +kernel
abbrev cJ3_checkIndex_8e157 : ByteArray := prog_14_method_11_code
def yJ3_checkIndex_8e157 : MethodName := ⟨RJ3, "checkIndex", "(IILjava/util/function/BiFunction;)I"⟩
def RL : String := "LoadCouncilLaw"
abbrev cL_law : ByteArray := code
def yL_law : MethodName := ⟨RL, "law", "([I)Z"⟩
def wsX0_init : List Cond := .code yX0_init cX0_init 1 none :: ([.methodLink RX0 3 objectInit, .instanceMethod objectInit, .code objectInit ⟨#[0xb1]⟩ 1 none, .arrayClass .int, .fieldLink RX0 9 "LoadCouncil$Council" "voters" "[I", .fieldLink RX0 15 "LoadCouncil$Council" "sets" "[I", .fieldLink RX0 18 "LoadCouncil$Council" "rank" "[I"] ++ wsX00)
def wsX0_beginWith : List Cond := .code yX0_beginWith cX0_beginWith 3 none :: ([.fieldLink RX0 21 "LoadCouncil$Council" "candidates" "I", .fieldLink RX0 25 "LoadCouncil$Council" "ballots" "I", .fieldLink RX0 28 "LoadCouncil$Council" "seats" "I", .fieldLink RX0 31 "LoadCouncil$Council" "withdrawn" "I", .fieldLink RX0 18 "LoadCouncil$Council" "rank" "[I"] ++ wsX00)
def wsX0_copyFrom : List Cond := .code yX0_copyFrom cX0_copyFrom 2 none :: ([.fieldLink RX0 21 "LoadCouncil$Council" "candidates" "I", .fieldLink RX0 25 "LoadCouncil$Council" "ballots" "I", .fieldLink RX0 28 "LoadCouncil$Council" "seats" "I", .fieldLink RX0 31 "LoadCouncil$Council" "withdrawn" "I", .fieldLink RX0 9 "LoadCouncil$Council" "voters" "[I", .methodLink RX0 34 arraycopyName, .native arraycopyName, .static arraycopyName, .initialized "java/lang/System", .fieldLink RX0 15 "LoadCouncil$Council" "sets" "[I", .fieldLink RX0 18 "LoadCouncil$Council" "rank" "[I"] ++ wsX00)
def wsX0_addBallot : List Cond := .code yX0_addBallot cX0_addBallot 3 none :: ([.fieldLink RX0 25 "LoadCouncil$Council" "ballots" "I", .fieldLink RX0 9 "LoadCouncil$Council" "voters" "[I", .fieldLink RX0 15 "LoadCouncil$Council" "sets" "[I"] ++ wsX00)
def wsX0_agreesTo : List Cond := .code yX0_agreesTo cX0_agreesTo 3 (some .boolean) :: ([.fieldLink RX0 15 "LoadCouncil$Council" "sets" "[I"] ++ wsX00)
def wsX0_votersWhoAgree : List Cond := .code yX0_votersWhoAgree cX0_votersWhoAgree 4 (some .int) :: ([.fieldLink RX0 25 "LoadCouncil$Council" "ballots" "I", .fieldLink RX0 9 "LoadCouncil$Council" "voters" "[I", .methodLink RX0 44 yX0_agreesTo, .instanceMethod yX0_agreesTo, .selects RX0 yX0_agreesTo yX0_agreesTo, .initialized RX0, .code yX0_agreesTo cX0_agreesTo 3 (some .boolean), .fieldLink RX0 15 "LoadCouncil$Council" "sets" "[I"] ++ wsX00)
def wsX0_allVoters : List Cond := .code yX0_allVoters cX0_allVoters 1 (some .int) :: ([.methodLink RX0 40 yX0_votersWhoAgree, .instanceMethod yX0_votersWhoAgree, .selects RX0 yX0_votersWhoAgree yX0_votersWhoAgree, .initialized RX0, .code yX0_votersWhoAgree cX0_votersWhoAgree 4 (some .int), .fieldLink RX0 25 "LoadCouncil$Council" "ballots" "I", .fieldLink RX0 9 "LoadCouncil$Council" "voters" "[I", .methodLink RX0 44 yX0_agreesTo, .instanceMethod yX0_agreesTo, .selects RX0 yX0_agreesTo yX0_agreesTo, .code yX0_agreesTo cX0_agreesTo 3 (some .boolean), .fieldLink RX0 15 "LoadCouncil$Council" "sets" "[I"] ++ wsX00)
def wsX0_supportOf : List Cond := .code yX0_supportOf cX0_supportOf 2 (some .int) :: ([.methodLink RX0 40 yX0_votersWhoAgree, .instanceMethod yX0_votersWhoAgree, .selects RX0 yX0_votersWhoAgree yX0_votersWhoAgree, .initialized RX0, .code yX0_votersWhoAgree cX0_votersWhoAgree 4 (some .int), .fieldLink RX0 25 "LoadCouncil$Council" "ballots" "I", .fieldLink RX0 9 "LoadCouncil$Council" "voters" "[I", .methodLink RX0 44 yX0_agreesTo, .instanceMethod yX0_agreesTo, .selects RX0 yX0_agreesTo yX0_agreesTo, .code yX0_agreesTo cX0_agreesTo 3 (some .boolean), .fieldLink RX0 15 "LoadCouncil$Council" "sets" "[I"] ++ wsX00)
def wsX0_approvedByThoseWhoAgree : List Cond := .code yX0_approvedByThoseWhoAgree cX0_approvedByThoseWhoAgree 4 (some .int) :: ([.fieldLink RX0 25 "LoadCouncil$Council" "ballots" "I", .fieldLink RX0 15 "LoadCouncil$Council" "sets" "[I", .methodLink RX0 44 yX0_agreesTo, .instanceMethod yX0_agreesTo, .selects RX0 yX0_agreesTo yX0_agreesTo, .initialized RX0, .code yX0_agreesTo cX0_agreesTo 3 (some .boolean)] ++ wsX00)
def wsJ6_bitCount_0f7a4 : List Cond := .code yJ6_bitCount_0f7a4 cJ6_bitCount_0f7a4 1 (some .int) :: ([.constant RJ6 265 (1431655765), .constant RJ6 266 (858993459), .constant RJ6 267 (252645135)])
def wsX0_isOwed : List Cond := .code yX0_isOwed cX0_isOwed 3 (some .boolean) :: ([.fieldLink RX0 28 "LoadCouncil$Council" "seats" "I", .methodLink RX0 40 yX0_votersWhoAgree, .instanceMethod yX0_votersWhoAgree, .selects RX0 yX0_votersWhoAgree yX0_votersWhoAgree, .initialized RX0, .code yX0_votersWhoAgree cX0_votersWhoAgree 4 (some .int), .fieldLink RX0 25 "LoadCouncil$Council" "ballots" "I", .fieldLink RX0 9 "LoadCouncil$Council" "voters" "[I", .methodLink RX0 44 yX0_agreesTo, .instanceMethod yX0_agreesTo, .selects RX0 yX0_agreesTo yX0_agreesTo, .code yX0_agreesTo cX0_agreesTo 3 (some .boolean), .fieldLink RX0 15 "LoadCouncil$Council" "sets" "[I", .methodLink RX0 48 yJ6_bitCount_0f7a4, .static yJ6_bitCount_0f7a4, .initialized RJ6, .code yJ6_bitCount_0f7a4 cJ6_bitCount_0f7a4 1 (some .int), .constant RJ6 265 (1431655765), .constant RJ6 266 (858993459), .constant RJ6 267 (252645135), .methodLink RX0 53 yX0_allVoters, .instanceMethod yX0_allVoters, .selects RX0 yX0_allVoters yX0_allVoters, .code yX0_allVoters cX0_allVoters 1 (some .int)] ++ wsX00)
def wsX0_isShort_r1 : List Cond := [Cond.methodLink RX0 57 yX0_isOwed, Cond.instanceMethod yX0_isOwed, Cond.selects RX0 yX0_isOwed yX0_isOwed, Cond.initialized RX0, Cond.code yX0_isOwed cX0_isOwed 3 (some .boolean), Cond.fieldLink RX0 28 "LoadCouncil$Council" "seats" "I", Cond.methodLink RX0 40 yX0_votersWhoAgree, Cond.instanceMethod yX0_votersWhoAgree, Cond.selects RX0 yX0_votersWhoAgree yX0_votersWhoAgree, Cond.code yX0_votersWhoAgree cX0_votersWhoAgree 4 (some .int), Cond.fieldLink RX0 25 "LoadCouncil$Council" "ballots" "I", Cond.fieldLink RX0 9 "LoadCouncil$Council" "voters" "[I", Cond.methodLink RX0 44 yX0_agreesTo, Cond.instanceMethod yX0_agreesTo, Cond.selects RX0 yX0_agreesTo yX0_agreesTo, Cond.code yX0_agreesTo cX0_agreesTo 3 (some .boolean), Cond.fieldLink RX0 15 "LoadCouncil$Council" "sets" "[I", Cond.methodLink RX0 48 yJ6_bitCount_0f7a4, Cond.static yJ6_bitCount_0f7a4, Cond.initialized RJ6, Cond.code yJ6_bitCount_0f7a4 cJ6_bitCount_0f7a4 1 (some .int), Cond.constant RJ6 265 (1431655765), Cond.constant RJ6 266 (858993459), Cond.constant RJ6 267 (252645135)]
def wsX0_isShort_r2 : List Cond := [Cond.methodLink RX0 53 yX0_allVoters, Cond.instanceMethod yX0_allVoters, Cond.selects RX0 yX0_allVoters yX0_allVoters, Cond.code yX0_allVoters cX0_allVoters 1 (some .int), Cond.methodLink RX0 61 yX0_approvedByThoseWhoAgree, Cond.instanceMethod yX0_approvedByThoseWhoAgree, Cond.selects RX0 yX0_approvedByThoseWhoAgree yX0_approvedByThoseWhoAgree, Cond.code yX0_approvedByThoseWhoAgree cX0_approvedByThoseWhoAgree 4 (some .int)]
def wsX0_isShort : List Cond := .code yX0_isShort cX0_isShort 3 (some .boolean) :: ((wsX0_isShort_r1 ++ wsX0_isShort_r2) ++ wsX00)
def wsX4_hasBit : List Cond := .code yX4_hasBit cX4_hasBit 2 (some .boolean) :: ([])
def wsX0_isWithdrawn : List Cond := .code yX0_isWithdrawn cX0_isWithdrawn 2 (some .boolean) :: ([.fieldLink RX0 31 "LoadCouncil$Council" "withdrawn" "I", .static yX4_hasBit, .initialized RX4, .code yX4_hasBit cX4_hasBit 2 (some .boolean)] ++ wsX00)
def wsX0_placeOf : List Cond := .code yX0_placeOf cX0_placeOf 4 (some .int) :: ([.fieldLink RX0 21 "LoadCouncil$Council" "candidates" "I", .fieldLink RX0 18 "LoadCouncil$Council" "rank" "[I"] ++ wsX00)
def wsX0_bringToFront : List Cond := .code yX0_bringToFront cX0_bringToFront 4 none :: ([.fieldLink RX0 18 "LoadCouncil$Council" "rank" "[I"] ++ wsX00)
def wsX0_turnRankRound : List Cond := .code yX0_turnRankRound cX0_turnRankRound 3 none :: ([.fieldLink RX0 21 "LoadCouncil$Council" "candidates" "I", .fieldLink RX0 18 "LoadCouncil$Council" "rank" "[I"] ++ wsX00)
def wsX1_init : List Cond := .code yX1_init cX1_init 1 none :: ([.methodLink RX1 3 objectInit, .instanceMethod objectInit, .code objectInit ⟨#[0xb1]⟩ 1 none, .arrayClass .int, .fieldLink RX1 9 "LoadCouncil$Election" "order" "[I", .arrayClass .long, .fieldLink RX1 15 "LoadCouncil$Election" "above" "[J", .fieldLink RX1 19 "LoadCouncil$Election" "below" "[J", .fieldLink RX1 22 "LoadCouncil$Election" "support" "[I", .fieldLink RX1 25 "LoadCouncil$Election" "worth" "[J", .fieldLink RX1 28 "LoadCouncil$Election" "loads" "[J"] ++ wsX10)
def wsX1_begin : List Cond := .code yX1_begin cX1_begin 3 none :: ([.fieldLink RX1 52 "LoadCouncil$Election" "elected" "I", .fieldLink RX1 45 "LoadCouncil$Election" "set" "I", .fieldLink RX1 55 "LoadCouncil$Election" "unit" "J", .fieldLink RX1 28 "LoadCouncil$Election" "loads" "[J", .fieldLink RX1 22 "LoadCouncil$Election" "support" "[I", .instanceMethod yX0_supportOf, .initialized RX0, .selects RX0 yX0_supportOf yX0_supportOf, .code yX0_supportOf cX0_supportOf 2 (some .int), .methodLink RX0 40 yX0_votersWhoAgree, .instanceMethod yX0_votersWhoAgree, .selects RX0 yX0_votersWhoAgree yX0_votersWhoAgree, .code yX0_votersWhoAgree cX0_votersWhoAgree 4 (some .int), .fieldLink RX0 25 "LoadCouncil$Council" "ballots" "I", .fieldLink RX0 9 "LoadCouncil$Council" "voters" "[I", .methodLink RX0 44 yX0_agreesTo, .instanceMethod yX0_agreesTo, .selects RX0 yX0_agreesTo yX0_agreesTo, .code yX0_agreesTo cX0_agreesTo 3 (some .boolean), .fieldLink RX0 15 "LoadCouncil$Council" "sets" "[I"] ++ wsX10 ++ wsX00)
def wsX1_weightOf : List Cond := .code yX1_weightOf cX1_weightOf 3 (some .long) :: ([.fieldLink RX1 45 "LoadCouncil$Election" "set" "I", .methodLink RX1 97 yJ6_bitCount_0f7a4, .static yJ6_bitCount_0f7a4, .initialized RJ6, .code yJ6_bitCount_0f7a4 cJ6_bitCount_0f7a4 1 (some .int), .constant RJ6 265 (1431655765), .constant RJ6 266 (858993459), .constant RJ6 267 (252645135)] ++ wsX00 ++ wsX10)
def wsX1_worthOf : List Cond := .code yX1_worthOf cX1_worthOf 7 (some .long) :: ([.fieldLink RX1 22 "LoadCouncil$Election" "support" "[I", .fieldLink RX1 55 "LoadCouncil$Election" "unit" "J", .fieldLink RX1 28 "LoadCouncil$Election" "loads" "[J", .static yX4_hasBit, .initialized RX4, .code yX4_hasBit cX4_hasBit 2 (some .boolean), .methodLink RX1 93 yX1_weightOf, .instanceMethod yX1_weightOf, .selects RX1 yX1_weightOf yX1_weightOf, .initialized RX1, .code yX1_weightOf cX1_weightOf 3 (some .long), .fieldLink RX1 45 "LoadCouncil$Election" "set" "I", .methodLink RX1 97 yJ6_bitCount_0f7a4, .static yJ6_bitCount_0f7a4, .initialized RJ6, .code yJ6_bitCount_0f7a4 cJ6_bitCount_0f7a4 1 (some .int), .constant RJ6 265 (1431655765), .constant RJ6 266 (858993459), .constant RJ6 267 (252645135)] ++ wsX10 ++ wsX00)
def wsX1_isAhead : List Cond := .code yX1_isAhead cX1_isAhead 4 (some .boolean) :: ([.fieldLink RX1 22 "LoadCouncil$Election" "support" "[I", .fieldLink RX1 25 "LoadCouncil$Election" "worth" "[J"] ++ wsX10)
def wsX1_nextMember_r1 : List Cond := [Cond.fieldLink RX1 45 "LoadCouncil$Election" "set" "I", Cond.fieldLink RX1 25 "LoadCouncil$Election" "worth" "[J", Cond.static yX4_hasBit, Cond.initialized RX4, Cond.code yX4_hasBit cX4_hasBit 2 (some .boolean), Cond.methodLink RX1 76 yX1_worthOf, Cond.instanceMethod yX1_worthOf, Cond.selects RX1 yX1_worthOf yX1_worthOf, Cond.initialized RX1, Cond.code yX1_worthOf cX1_worthOf 7 (some .long), Cond.fieldLink RX1 22 "LoadCouncil$Election" "support" "[I", Cond.fieldLink RX1 55 "LoadCouncil$Election" "unit" "J", Cond.fieldLink RX1 28 "LoadCouncil$Election" "loads" "[J", Cond.methodLink RX1 93 yX1_weightOf, Cond.instanceMethod yX1_weightOf, Cond.selects RX1 yX1_weightOf yX1_weightOf, Cond.code yX1_weightOf cX1_weightOf 3 (some .long), Cond.methodLink RX1 97 yJ6_bitCount_0f7a4, Cond.static yJ6_bitCount_0f7a4, Cond.initialized RJ6, Cond.code yJ6_bitCount_0f7a4 cJ6_bitCount_0f7a4 1 (some .int), Cond.constant RJ6 265 (1431655765), Cond.constant RJ6 266 (858993459), Cond.constant RJ6 267 (252645135)]
def wsX1_nextMember_r2 : List Cond := [Cond.methodLink RX1 80 yX1_isAhead, Cond.instanceMethod yX1_isAhead, Cond.selects RX1 yX1_isAhead yX1_isAhead, Cond.code yX1_isAhead cX1_isAhead 4 (some .boolean)]
def wsX1_nextMember : List Cond := .code yX1_nextMember cX1_nextMember 6 (some .int) :: ((wsX1_nextMember_r1 ++ wsX1_nextMember_r2) ++ wsX00 ++ wsX10)
def wsX1_spreadLoad : List Cond := .code yX1_spreadLoad cX1_spreadLoad 4 none :: ([.fieldLink RX1 28 "LoadCouncil$Election" "loads" "[J", .fieldLink RX1 25 "LoadCouncil$Election" "worth" "[J", .fieldLink RX1 22 "LoadCouncil$Election" "support" "[I", .fieldLink RX1 55 "LoadCouncil$Election" "unit" "J", .static yX4_hasBit, .initialized RX4, .code yX4_hasBit cX4_hasBit 2 (some .boolean)] ++ wsX00 ++ wsX10)
def wsX1_elect : List Cond := .code yX1_elect cX1_elect 4 none :: ([.fieldLink RX1 52 "LoadCouncil$Election" "elected" "I", .fieldLink RX1 9 "LoadCouncil$Election" "order" "[I", .fieldLink RX1 15 "LoadCouncil$Election" "above" "[J", .fieldLink RX1 25 "LoadCouncil$Election" "worth" "[J", .fieldLink RX1 22 "LoadCouncil$Election" "support" "[I", .fieldLink RX1 19 "LoadCouncil$Election" "below" "[J", .constantLong RX1 102 (840), .fieldLink RX1 55 "LoadCouncil$Election" "unit" "J", .fieldLink RX1 45 "LoadCouncil$Election" "set" "I", .methodLink RX1 104 yX1_spreadLoad, .instanceMethod yX1_spreadLoad, .selects RX1 yX1_spreadLoad yX1_spreadLoad, .initialized RX1, .code yX1_spreadLoad cX1_spreadLoad 4 none, .fieldLink RX1 28 "LoadCouncil$Election" "loads" "[J", .static yX4_hasBit, .initialized RX4, .code yX4_hasBit cX4_hasBit 2 (some .boolean)] ++ wsX10 ++ wsX00)
def wsX1_hold_r1 : List Cond := [Cond.fieldLink RX1 45 "LoadCouncil$Election" "set" "I", Cond.methodLink RX1 31 yX1_begin, Cond.instanceMethod yX1_begin, Cond.selects RX1 yX1_begin yX1_begin, Cond.initialized RX1, Cond.code yX1_begin cX1_begin 3 none, Cond.fieldLink RX1 52 "LoadCouncil$Election" "elected" "I", Cond.fieldLink RX1 55 "LoadCouncil$Election" "unit" "J", Cond.fieldLink RX1 28 "LoadCouncil$Election" "loads" "[J", Cond.fieldLink RX1 22 "LoadCouncil$Election" "support" "[I", Cond.instanceMethod yX0_supportOf, Cond.initialized RX0, Cond.selects RX0 yX0_supportOf yX0_supportOf, Cond.code yX0_supportOf cX0_supportOf 2 (some .int), Cond.methodLink RX0 40 yX0_votersWhoAgree, Cond.instanceMethod yX0_votersWhoAgree, Cond.selects RX0 yX0_votersWhoAgree yX0_votersWhoAgree, Cond.code yX0_votersWhoAgree cX0_votersWhoAgree 4 (some .int), Cond.fieldLink RX0 25 "LoadCouncil$Council" "ballots" "I", Cond.fieldLink RX0 9 "LoadCouncil$Council" "voters" "[I", Cond.methodLink RX0 44 yX0_agreesTo, Cond.instanceMethod yX0_agreesTo, Cond.selects RX0 yX0_agreesTo yX0_agreesTo, Cond.code yX0_agreesTo cX0_agreesTo 3 (some .boolean)]
def wsX1_hold_r2 : List Cond := [Cond.fieldLink RX0 15 "LoadCouncil$Council" "sets" "[I", Cond.methodLink RX1 41 yX1_nextMember, Cond.instanceMethod yX1_nextMember, Cond.selects RX1 yX1_nextMember yX1_nextMember, Cond.code yX1_nextMember cX1_nextMember 6 (some .int), Cond.fieldLink RX1 25 "LoadCouncil$Election" "worth" "[J", Cond.static yX4_hasBit, Cond.initialized RX4, Cond.code yX4_hasBit cX4_hasBit 2 (some .boolean), Cond.methodLink RX1 76 yX1_worthOf, Cond.instanceMethod yX1_worthOf, Cond.selects RX1 yX1_worthOf yX1_worthOf, Cond.code yX1_worthOf cX1_worthOf 7 (some .long), Cond.methodLink RX1 93 yX1_weightOf, Cond.instanceMethod yX1_weightOf, Cond.selects RX1 yX1_weightOf yX1_weightOf, Cond.code yX1_weightOf cX1_weightOf 3 (some .long), Cond.methodLink RX1 97 yJ6_bitCount_0f7a4, Cond.static yJ6_bitCount_0f7a4, Cond.initialized RJ6, Cond.code yJ6_bitCount_0f7a4 cJ6_bitCount_0f7a4 1 (some .int), Cond.constant RJ6 265 (1431655765), Cond.constant RJ6 266 (858993459), Cond.constant RJ6 267 (252645135)]
def wsX1_hold_r3 : List Cond := [Cond.methodLink RX1 80 yX1_isAhead, Cond.instanceMethod yX1_isAhead, Cond.selects RX1 yX1_isAhead yX1_isAhead, Cond.code yX1_isAhead cX1_isAhead 4 (some .boolean), Cond.methodLink RX1 48 yX1_elect, Cond.instanceMethod yX1_elect, Cond.selects RX1 yX1_elect yX1_elect, Cond.code yX1_elect cX1_elect 4 none, Cond.fieldLink RX1 9 "LoadCouncil$Election" "order" "[I", Cond.fieldLink RX1 15 "LoadCouncil$Election" "above" "[J", Cond.fieldLink RX1 19 "LoadCouncil$Election" "below" "[J", Cond.constantLong RX1 102 (840), Cond.methodLink RX1 104 yX1_spreadLoad, Cond.instanceMethod yX1_spreadLoad, Cond.selects RX1 yX1_spreadLoad yX1_spreadLoad, Cond.code yX1_spreadLoad cX1_spreadLoad 4 none]
def wsX1_hold : List Cond := .code yX1_hold cX1_hold 5 (some .int) :: ((wsX1_hold_r1 ++ (wsX1_hold_r2 ++ wsX1_hold_r3)) ++ wsX00 ++ wsX10)
def wsX2_init : List Cond := .code yX2_init cX2_init 2 none :: ([.methodLink RX2 3 objectInit, .instanceMethod objectInit, .code objectInit ⟨#[0xb1]⟩ 1 none, .classLink RX2 9 RX0, .fieldLink RX2 11 "LoadCouncil$Past" "ring" "[LLoadCouncil$Council;", .instantiable RX0 7, .initialized RX0, .instanceMethod yX0_init, .code yX0_init cX0_init 1 none, .methodLink RX0 3 objectInit, .arrayClass .int, .fieldLink RX0 9 "LoadCouncil$Council" "voters" "[I", .fieldLink RX0 15 "LoadCouncil$Council" "sets" "[I", .fieldLink RX0 18 "LoadCouncil$Council" "rank" "[I"] ++ wsX20 ++ wsX00)
def wsX2_forget : List Cond := .code yX2_forget cX2_forget 1 none :: ([.fieldLink RX2 18 "LoadCouncil$Past" "size" "I"] ++ wsX20)
def wsX2_keep : List Cond := .code yX2_keep cX2_keep 2 none :: ([.fieldLink RX2 11 "LoadCouncil$Past" "ring" "[LLoadCouncil$Council;", .fieldLink RX2 22 "LoadCouncil$Past" "top" "I", .fieldLink RX2 18 "LoadCouncil$Past" "size" "I", .methodLink RX2 29 Lib.Math.min.name, .static Lib.Math.min.name, .initialized "java/lang/Math", .code Lib.Math.min.name Lib.Math.min.code 2 (some .int), .instanceMethod yX0_copyFrom, .initialized RX0, .selects RX0 yX0_copyFrom yX0_copyFrom, .code yX0_copyFrom cX0_copyFrom 2 none, .fieldLink RX0 21 "LoadCouncil$Council" "candidates" "I", .fieldLink RX0 25 "LoadCouncil$Council" "ballots" "I", .fieldLink RX0 28 "LoadCouncil$Council" "seats" "I", .fieldLink RX0 31 "LoadCouncil$Council" "withdrawn" "I", .fieldLink RX0 9 "LoadCouncil$Council" "voters" "[I", .methodLink RX0 34 arraycopyName, .native arraycopyName, .static arraycopyName, .initialized "java/lang/System", .fieldLink RX0 15 "LoadCouncil$Council" "sets" "[I", .fieldLink RX0 18 "LoadCouncil$Council" "rank" "[I"] ++ wsX20 ++ wsX00)
def wsX2_bringBack : List Cond := .code yX2_bringBack cX2_bringBack 2 none :: ([.fieldLink RX2 22 "LoadCouncil$Past" "top" "I", .fieldLink RX2 18 "LoadCouncil$Past" "size" "I", .fieldLink RX2 11 "LoadCouncil$Past" "ring" "[LLoadCouncil$Council;", .instanceMethod yX0_copyFrom, .initialized RX0, .selects RX0 yX0_copyFrom yX0_copyFrom, .code yX0_copyFrom cX0_copyFrom 2 none, .fieldLink RX0 21 "LoadCouncil$Council" "candidates" "I", .fieldLink RX0 25 "LoadCouncil$Council" "ballots" "I", .fieldLink RX0 28 "LoadCouncil$Council" "seats" "I", .fieldLink RX0 31 "LoadCouncil$Council" "withdrawn" "I", .fieldLink RX0 9 "LoadCouncil$Council" "voters" "[I", .methodLink RX0 34 arraycopyName, .native arraycopyName, .static arraycopyName, .initialized "java/lang/System", .fieldLink RX0 15 "LoadCouncil$Council" "sets" "[I", .fieldLink RX0 18 "LoadCouncil$Council" "rank" "[I"] ++ wsX20 ++ wsX00)
def wsX3_init : List Cond := .code yX3_init cX3_init 1 none :: ([.methodLink RX3 3 objectInit, .instanceMethod objectInit, .code objectInit ⟨#[0xb1]⟩ 1 none, .arrayClass .int, .fieldLink RX3 9 "LoadCouncil$Text" "letters" "[I"] ++ wsX30)
def wsX3_add : List Cond := .code yX3_add cX3_add 2 (some .boolean) :: ([.fieldLink RX3 15 "LoadCouncil$Text" "length" "I", .fieldLink RX3 9 "LoadCouncil$Text" "letters" "[I"] ++ wsX30)
def wsX3_clear : List Cond := .code yX3_clear cX3_clear 1 none :: ([.fieldLink RX3 15 "LoadCouncil$Text" "length" "I"] ++ wsX30)
def wsX3_number : List Cond := .code yX3_number cX3_number 6 (some .int) :: ([.fieldLink RX3 9 "LoadCouncil$Text" "letters" "[I"] ++ wsX30)
def wsX3_readCandidates : List Cond := .code yX3_readCandidates cX3_readCandidates 5 (some .boolean) :: ([.methodLink RX3 44 yX3_number, .instanceMethod yX3_number, .selects RX3 yX3_number yX3_number, .initialized RX3, .code yX3_number cX3_number 6 (some .int), .fieldLink RX3 9 "LoadCouncil$Text" "letters" "[I", .instanceMethod yX0_beginWith, .initialized RX0, .selects RX0 yX0_beginWith yX0_beginWith, .code yX0_beginWith cX0_beginWith 3 none, .fieldLink RX0 21 "LoadCouncil$Council" "candidates" "I", .fieldLink RX0 25 "LoadCouncil$Council" "ballots" "I", .fieldLink RX0 28 "LoadCouncil$Council" "seats" "I", .fieldLink RX0 31 "LoadCouncil$Council" "withdrawn" "I", .fieldLink RX0 18 "LoadCouncil$Council" "rank" "[I"] ++ wsX00 ++ wsX30)
def wsX3_risingSet : List Cond := .code yX3_risingSet cX3_risingSet 8 (some .int) :: ([.fieldLink RX3 9 "LoadCouncil$Text" "letters" "[I"] ++ wsX30)
def wsX4_isVoters : List Cond := .code yX4_isVoters cX4_isVoters 1 (some .boolean) :: ([])
def wsX3_readBallot_r1 : List Cond := [Cond.fieldLink RX3 9 "LoadCouncil$Text" "letters" "[I", Cond.methodLink RX3 44 yX3_number, Cond.instanceMethod yX3_number, Cond.selects RX3 yX3_number yX3_number, Cond.initialized RX3, Cond.code yX3_number cX3_number 6 (some .int), Cond.methodLink RX3 48 yX3_risingSet, Cond.instanceMethod yX3_risingSet, Cond.selects RX3 yX3_risingSet yX3_risingSet, Cond.code yX3_risingSet cX3_risingSet 8 (some .int), Cond.static yX4_isVoters, Cond.initialized RX4, Cond.code yX4_isVoters cX4_isVoters 1 (some .boolean), Cond.instanceMethod yX0_allVoters, Cond.initialized RX0, Cond.selects RX0 yX0_allVoters yX0_allVoters, Cond.code yX0_allVoters cX0_allVoters 1 (some .int), Cond.methodLink RX0 40 yX0_votersWhoAgree, Cond.instanceMethod yX0_votersWhoAgree, Cond.selects RX0 yX0_votersWhoAgree yX0_votersWhoAgree, Cond.code yX0_votersWhoAgree cX0_votersWhoAgree 4 (some .int), Cond.fieldLink RX0 25 "LoadCouncil$Council" "ballots" "I", Cond.fieldLink RX0 9 "LoadCouncil$Council" "voters" "[I", Cond.methodLink RX0 44 yX0_agreesTo]
def wsX3_readBallot_r2 : List Cond := [Cond.instanceMethod yX0_agreesTo, Cond.selects RX0 yX0_agreesTo yX0_agreesTo, Cond.code yX0_agreesTo cX0_agreesTo 3 (some .boolean), Cond.fieldLink RX0 15 "LoadCouncil$Council" "sets" "[I", Cond.instanceMethod yX0_addBallot, Cond.selects RX0 yX0_addBallot yX0_addBallot, Cond.code yX0_addBallot cX0_addBallot 3 none]
def wsX3_readBallot : List Cond := .code yX3_readBallot cX3_readBallot 7 (some .boolean) :: ((wsX3_readBallot_r1 ++ wsX3_readBallot_r2) ++ wsX30 ++ wsX00)
def wsX3_readSeats : List Cond := .code yX3_readSeats cX3_readSeats 5 (some .boolean) :: ([.methodLink RX3 44 yX3_number, .instanceMethod yX3_number, .selects RX3 yX3_number yX3_number, .initialized RX3, .code yX3_number cX3_number 6 (some .int), .fieldLink RX3 9 "LoadCouncil$Text" "letters" "[I"] ++ wsX00 ++ wsX30)
def wsX3_readRank : List Cond := .code yX3_readRank cX3_readRank 7 (some .boolean) :: ([.fieldLink RX3 9 "LoadCouncil$Text" "letters" "[I", .static yX4_hasBit, .initialized RX4, .code yX4_hasBit cX4_hasBit 2 (some .boolean)] ++ wsX00 ++ wsX30)
def wsX3_readItem_r1 : List Cond := [Cond.fieldLink RX3 9 "LoadCouncil$Text" "letters" "[I", Cond.methodLink RX3 29 yX3_readCandidates, Cond.instanceMethod yX3_readCandidates, Cond.selects RX3 yX3_readCandidates yX3_readCandidates, Cond.initialized RX3, Cond.code yX3_readCandidates cX3_readCandidates 5 (some .boolean), Cond.methodLink RX3 44 yX3_number, Cond.instanceMethod yX3_number, Cond.selects RX3 yX3_number yX3_number, Cond.code yX3_number cX3_number 6 (some .int), Cond.instanceMethod yX0_beginWith, Cond.initialized RX0, Cond.selects RX0 yX0_beginWith yX0_beginWith, Cond.code yX0_beginWith cX0_beginWith 3 none, Cond.fieldLink RX0 21 "LoadCouncil$Council" "candidates" "I", Cond.fieldLink RX0 25 "LoadCouncil$Council" "ballots" "I", Cond.fieldLink RX0 28 "LoadCouncil$Council" "seats" "I", Cond.fieldLink RX0 31 "LoadCouncil$Council" "withdrawn" "I", Cond.fieldLink RX0 18 "LoadCouncil$Council" "rank" "[I", Cond.methodLink RX3 35 yX3_readBallot, Cond.instanceMethod yX3_readBallot, Cond.selects RX3 yX3_readBallot yX3_readBallot, Cond.code yX3_readBallot cX3_readBallot 7 (some .boolean), Cond.methodLink RX3 48 yX3_risingSet]
def wsX3_readItem_r2 : List Cond := [Cond.instanceMethod yX3_risingSet, Cond.selects RX3 yX3_risingSet yX3_risingSet, Cond.code yX3_risingSet cX3_risingSet 8 (some .int), Cond.static yX4_isVoters, Cond.initialized RX4, Cond.code yX4_isVoters cX4_isVoters 1 (some .boolean), Cond.instanceMethod yX0_allVoters, Cond.selects RX0 yX0_allVoters yX0_allVoters, Cond.code yX0_allVoters cX0_allVoters 1 (some .int), Cond.methodLink RX0 40 yX0_votersWhoAgree, Cond.instanceMethod yX0_votersWhoAgree, Cond.selects RX0 yX0_votersWhoAgree yX0_votersWhoAgree, Cond.code yX0_votersWhoAgree cX0_votersWhoAgree 4 (some .int), Cond.fieldLink RX0 9 "LoadCouncil$Council" "voters" "[I", Cond.methodLink RX0 44 yX0_agreesTo, Cond.instanceMethod yX0_agreesTo, Cond.selects RX0 yX0_agreesTo yX0_agreesTo, Cond.code yX0_agreesTo cX0_agreesTo 3 (some .boolean), Cond.fieldLink RX0 15 "LoadCouncil$Council" "sets" "[I", Cond.instanceMethod yX0_addBallot, Cond.selects RX0 yX0_addBallot yX0_addBallot, Cond.code yX0_addBallot cX0_addBallot 3 none, Cond.methodLink RX3 38 yX3_readSeats, Cond.instanceMethod yX3_readSeats]
def wsX3_readItem_r3 : List Cond := [Cond.selects RX3 yX3_readSeats yX3_readSeats, Cond.code yX3_readSeats cX3_readSeats 5 (some .boolean), Cond.methodLink RX3 41 yX3_readRank, Cond.instanceMethod yX3_readRank, Cond.selects RX3 yX3_readRank yX3_readRank, Cond.code yX3_readRank cX3_readRank 7 (some .boolean), Cond.static yX4_hasBit, Cond.code yX4_hasBit cX4_hasBit 2 (some .boolean)]
def wsX3_readItem : List Cond := .code yX3_readItem cX3_readItem 5 (some .boolean) :: ((wsX3_readItem_r1 ++ (wsX3_readItem_r2 ++ wsX3_readItem_r3)) ++ wsX30 ++ wsX00)
def wsX3_readInto_r1 : List Cond := [Cond.fieldLink RX3 15 "LoadCouncil$Text" "length" "I", Cond.fieldLink RX3 9 "LoadCouncil$Text" "letters" "[I", Cond.instanceMethod yX0_beginWith, Cond.initialized RX0, Cond.selects RX0 yX0_beginWith yX0_beginWith, Cond.code yX0_beginWith cX0_beginWith 3 none, Cond.fieldLink RX0 21 "LoadCouncil$Council" "candidates" "I", Cond.fieldLink RX0 25 "LoadCouncil$Council" "ballots" "I", Cond.fieldLink RX0 28 "LoadCouncil$Council" "seats" "I", Cond.fieldLink RX0 31 "LoadCouncil$Council" "withdrawn" "I", Cond.fieldLink RX0 18 "LoadCouncil$Council" "rank" "[I", Cond.methodLink RX3 25 yX3_readItem, Cond.instanceMethod yX3_readItem, Cond.selects RX3 yX3_readItem yX3_readItem, Cond.initialized RX3, Cond.code yX3_readItem cX3_readItem 5 (some .boolean), Cond.methodLink RX3 29 yX3_readCandidates, Cond.instanceMethod yX3_readCandidates, Cond.selects RX3 yX3_readCandidates yX3_readCandidates, Cond.code yX3_readCandidates cX3_readCandidates 5 (some .boolean), Cond.methodLink RX3 44 yX3_number, Cond.instanceMethod yX3_number, Cond.selects RX3 yX3_number yX3_number, Cond.code yX3_number cX3_number 6 (some .int)]
def wsX3_readInto_r2 : List Cond := [Cond.methodLink RX3 35 yX3_readBallot, Cond.instanceMethod yX3_readBallot, Cond.selects RX3 yX3_readBallot yX3_readBallot, Cond.code yX3_readBallot cX3_readBallot 7 (some .boolean), Cond.methodLink RX3 48 yX3_risingSet, Cond.instanceMethod yX3_risingSet, Cond.selects RX3 yX3_risingSet yX3_risingSet, Cond.code yX3_risingSet cX3_risingSet 8 (some .int), Cond.static yX4_isVoters, Cond.initialized RX4, Cond.code yX4_isVoters cX4_isVoters 1 (some .boolean), Cond.instanceMethod yX0_allVoters, Cond.selects RX0 yX0_allVoters yX0_allVoters, Cond.code yX0_allVoters cX0_allVoters 1 (some .int), Cond.methodLink RX0 40 yX0_votersWhoAgree, Cond.instanceMethod yX0_votersWhoAgree, Cond.selects RX0 yX0_votersWhoAgree yX0_votersWhoAgree, Cond.code yX0_votersWhoAgree cX0_votersWhoAgree 4 (some .int), Cond.fieldLink RX0 9 "LoadCouncil$Council" "voters" "[I", Cond.methodLink RX0 44 yX0_agreesTo, Cond.instanceMethod yX0_agreesTo, Cond.selects RX0 yX0_agreesTo yX0_agreesTo, Cond.code yX0_agreesTo cX0_agreesTo 3 (some .boolean), Cond.fieldLink RX0 15 "LoadCouncil$Council" "sets" "[I"]
def wsX3_readInto_r3 : List Cond := [Cond.instanceMethod yX0_addBallot, Cond.selects RX0 yX0_addBallot yX0_addBallot, Cond.code yX0_addBallot cX0_addBallot 3 none, Cond.methodLink RX3 38 yX3_readSeats, Cond.instanceMethod yX3_readSeats, Cond.selects RX3 yX3_readSeats yX3_readSeats, Cond.code yX3_readSeats cX3_readSeats 5 (some .boolean), Cond.methodLink RX3 41 yX3_readRank, Cond.instanceMethod yX3_readRank, Cond.selects RX3 yX3_readRank yX3_readRank, Cond.code yX3_readRank cX3_readRank 7 (some .boolean), Cond.static yX4_hasBit, Cond.code yX4_hasBit cX4_hasBit 2 (some .boolean)]
def wsX3_readInto : List Cond := .code yX3_readInto cX3_readInto 4 (some .int) :: ((wsX3_readInto_r1 ++ (wsX3_readInto_r2 ++ wsX3_readInto_r3)) ++ wsX30 ++ wsX00)
def wsJ0_coder_7d493 : List Cond := .code yJ0_coder_7d493 cJ0_coder_7d493 1 (some .byte) :: ([.fieldLink RJ0 38 "java/lang/String" "COMPACT_STRINGS" "Z", .fieldLink RJ0 15 "java/lang/String" "coder" "B"])
def wsJ0_length_8abf5 : List Cond := .code yJ0_length_8abf5 cJ0_length_8abf5 1 (some .int) :: ([.fieldLink RJ0 9 "java/lang/String" "value" "[B", .methodLink RJ0 335 yJ0_coder_7d493, .instanceMethod yJ0_coder_7d493, .selects RJ0 yJ0_coder_7d493 yJ0_coder_7d493, .initialized RJ0, .code yJ0_coder_7d493 cJ0_coder_7d493 1 (some .byte), .fieldLink RJ0 38 "java/lang/String" "COMPACT_STRINGS" "Z", .fieldLink RJ0 15 "java/lang/String" "coder" "B"])
def wsJ0_isLatin1_aae02 : List Cond := .code yJ0_isLatin1_aae02 cJ0_isLatin1_aae02 1 (some .boolean) :: ([.fieldLink RJ0 38 "java/lang/String" "COMPACT_STRINGS" "Z", .fieldLink RJ0 15 "java/lang/String" "coder" "B"])
def wsJ3_checkIndex_8e157 : List Cond := .code yJ3_checkIndex_8e157 cJ3_checkIndex_8e157 3 (some .int) :: ([])
def wsJ0_checkIndex_df160 : List Cond := .code yJ0_checkIndex_df160 cJ0_checkIndex_df160 2 none :: ([.fieldLink RJ0 1053 "jdk/internal/util/Preconditions" "SIOOBE_FORMATTER" "Ljava/util/function/BiFunction;", .methodLink RJ0 1059 yJ3_checkIndex_8e157, .static yJ3_checkIndex_8e157, .initialized RJ3, .code yJ3_checkIndex_8e157 cJ3_checkIndex_8e157 3 (some .int)])
def wsJ1_charAt_3b067 : List Cond := .code yJ1_charAt_3b067 cJ1_charAt_3b067 2 (some .char) :: ([.methodLink RJ1 9 yJ0_checkIndex_df160, .static yJ0_checkIndex_df160, .initialized RJ0, .code yJ0_checkIndex_df160 cJ0_checkIndex_df160 2 none, .fieldLink RJ0 1053 "jdk/internal/util/Preconditions" "SIOOBE_FORMATTER" "Ljava/util/function/BiFunction;", .methodLink RJ0 1059 yJ3_checkIndex_8e157, .static yJ3_checkIndex_8e157, .initialized RJ3, .code yJ3_checkIndex_8e157 cJ3_checkIndex_8e157 3 (some .int)])
def wsJ2_length_9d52b : List Cond := .code yJ2_length_9d52b cJ2_length_9d52b 1 (some .int) :: ([])
def wsJ2_checkIndex_2214a : List Cond := .code yJ2_checkIndex_2214a cJ2_checkIndex_2214a 2 none :: ([.methodLink RJ2 48 yJ2_length_9d52b, .static yJ2_length_9d52b, .initialized RJ2, .code yJ2_length_9d52b cJ2_length_9d52b 1 (some .int), .methodLink RJ2 414 yJ0_checkIndex_df160, .static yJ0_checkIndex_df160, .initialized RJ0, .code yJ0_checkIndex_df160 cJ0_checkIndex_df160 2 none, .fieldLink RJ0 1053 "jdk/internal/util/Preconditions" "SIOOBE_FORMATTER" "Ljava/util/function/BiFunction;", .methodLink RJ0 1059 yJ3_checkIndex_8e157, .static yJ3_checkIndex_8e157, .initialized RJ3, .code yJ3_checkIndex_8e157 cJ3_checkIndex_8e157 3 (some .int)])
def wsJ2_getChar_3b067 : List Cond := .code yJ2_getChar_3b067 cJ2_getChar_3b067 2 (some .char) :: ([.fieldLink RJ2 44 "java/lang/StringUTF16" "$assertionsDisabled" "Z", .fieldLink RJ2 59 "java/lang/StringUTF16" "HI_BYTE_SHIFT" "I", .fieldLink RJ2 63 "java/lang/StringUTF16" "LO_BYTE_SHIFT" "I", .methodLink RJ2 48 yJ2_length_9d52b, .static yJ2_length_9d52b, .initialized RJ2, .code yJ2_length_9d52b cJ2_length_9d52b 1 (some .int)])
def wsJ2_charAt_3b067 : List Cond := .code yJ2_charAt_3b067 cJ2_charAt_3b067 2 (some .char) :: ([.methodLink RJ2 67 yJ2_checkIndex_2214a, .static yJ2_checkIndex_2214a, .initialized RJ2, .code yJ2_checkIndex_2214a cJ2_checkIndex_2214a 2 none, .methodLink RJ2 48 yJ2_length_9d52b, .static yJ2_length_9d52b, .code yJ2_length_9d52b cJ2_length_9d52b 1 (some .int), .methodLink RJ2 414 yJ0_checkIndex_df160, .static yJ0_checkIndex_df160, .initialized RJ0, .code yJ0_checkIndex_df160 cJ0_checkIndex_df160 2 none, .fieldLink RJ0 1053 "jdk/internal/util/Preconditions" "SIOOBE_FORMATTER" "Ljava/util/function/BiFunction;", .methodLink RJ0 1059 yJ3_checkIndex_8e157, .static yJ3_checkIndex_8e157, .initialized RJ3, .code yJ3_checkIndex_8e157 cJ3_checkIndex_8e157 3 (some .int), .methodLink RJ2 71 yJ2_getChar_3b067, .static yJ2_getChar_3b067, .code yJ2_getChar_3b067 cJ2_getChar_3b067 2 (some .char), .fieldLink RJ2 44 "java/lang/StringUTF16" "$assertionsDisabled" "Z", .fieldLink RJ2 59 "java/lang/StringUTF16" "HI_BYTE_SHIFT" "I", .fieldLink RJ2 63 "java/lang/StringUTF16" "LO_BYTE_SHIFT" "I"])
def wsJ0_charAt_5068e_r1 : List Cond := [Cond.fieldLink RJ0 9 "java/lang/String" "value" "[B", Cond.methodLink RJ0 492 yJ0_isLatin1_aae02, Cond.instanceMethod yJ0_isLatin1_aae02, Cond.selects RJ0 yJ0_isLatin1_aae02 yJ0_isLatin1_aae02, Cond.initialized RJ0, Cond.code yJ0_isLatin1_aae02 cJ0_isLatin1_aae02 1 (some .boolean), Cond.fieldLink RJ0 38 "java/lang/String" "COMPACT_STRINGS" "Z", Cond.fieldLink RJ0 15 "java/lang/String" "coder" "B", Cond.methodLink RJ0 495 yJ1_charAt_3b067, Cond.static yJ1_charAt_3b067, Cond.initialized RJ1, Cond.code yJ1_charAt_3b067 cJ1_charAt_3b067 2 (some .char), Cond.methodLink RJ1 9 yJ0_checkIndex_df160, Cond.static yJ0_checkIndex_df160, Cond.code yJ0_checkIndex_df160 cJ0_checkIndex_df160 2 none, Cond.fieldLink RJ0 1053 "jdk/internal/util/Preconditions" "SIOOBE_FORMATTER" "Ljava/util/function/BiFunction;", Cond.methodLink RJ0 1059 yJ3_checkIndex_8e157, Cond.static yJ3_checkIndex_8e157, Cond.initialized RJ3, Cond.code yJ3_checkIndex_8e157 cJ3_checkIndex_8e157 3 (some .int), Cond.methodLink RJ0 498 yJ2_charAt_3b067, Cond.static yJ2_charAt_3b067, Cond.initialized RJ2, Cond.code yJ2_charAt_3b067 cJ2_charAt_3b067 2 (some .char)]
def wsJ0_charAt_5068e_r2 : List Cond := [Cond.methodLink RJ2 67 yJ2_checkIndex_2214a, Cond.static yJ2_checkIndex_2214a, Cond.code yJ2_checkIndex_2214a cJ2_checkIndex_2214a 2 none, Cond.methodLink RJ2 48 yJ2_length_9d52b, Cond.static yJ2_length_9d52b, Cond.code yJ2_length_9d52b cJ2_length_9d52b 1 (some .int), Cond.methodLink RJ2 414 yJ0_checkIndex_df160, Cond.methodLink RJ2 71 yJ2_getChar_3b067, Cond.static yJ2_getChar_3b067, Cond.code yJ2_getChar_3b067 cJ2_getChar_3b067 2 (some .char), Cond.fieldLink RJ2 44 "java/lang/StringUTF16" "$assertionsDisabled" "Z", Cond.fieldLink RJ2 59 "java/lang/StringUTF16" "HI_BYTE_SHIFT" "I", Cond.fieldLink RJ2 63 "java/lang/StringUTF16" "LO_BYTE_SHIFT" "I"]
def wsJ0_charAt_5068e : List Cond := .code yJ0_charAt_5068e cJ0_charAt_5068e 2 (some .char) :: ((wsJ0_charAt_5068e_r1 ++ wsJ0_charAt_5068e_r2))
def wsX4_init_r1 : List Cond := [Cond.methodLink RX4 3 objectInit, Cond.instanceMethod objectInit, Cond.code objectInit ⟨#[0xb1]⟩ 1 none, Cond.classLink RX4 9 RX3, Cond.instantiable RX3 2, Cond.initialized RX3, Cond.fieldLink RX4 12 "LoadCouncil" "text" "LLoadCouncil$Text;", Cond.classLink RX4 16 RX0, Cond.instantiable RX0 7, Cond.initialized RX0, Cond.fieldLink RX4 19 "LoadCouncil" "now" "LLoadCouncil$Council;", Cond.fieldLink RX4 23 "LoadCouncil" "trial" "LLoadCouncil$Council;", Cond.classLink RX4 26 RX2, Cond.instantiable RX2 3, Cond.initialized RX2, Cond.fieldLink RX4 29 "LoadCouncil" "past" "LLoadCouncil$Past;", Cond.classLink RX4 33 RX1, Cond.instantiable RX1 9, Cond.initialized RX1, Cond.fieldLink RX4 36 "LoadCouncil" "election" "LLoadCouncil$Election;", Cond.instanceMethod yX3_init, Cond.code yX3_init cX3_init 1 none, Cond.methodLink RX3 3 objectInit, Cond.arrayClass .int]
def wsX4_init_r2 : List Cond := [Cond.fieldLink RX3 9 "LoadCouncil$Text" "letters" "[I", Cond.instanceMethod yX0_init, Cond.code yX0_init cX0_init 1 none, Cond.methodLink RX0 3 objectInit, Cond.fieldLink RX0 9 "LoadCouncil$Council" "voters" "[I", Cond.fieldLink RX0 15 "LoadCouncil$Council" "sets" "[I", Cond.fieldLink RX0 18 "LoadCouncil$Council" "rank" "[I", Cond.instanceMethod yX2_init, Cond.code yX2_init cX2_init 2 none, Cond.methodLink RX2 3 objectInit, Cond.classLink RX2 9 RX0, Cond.fieldLink RX2 11 "LoadCouncil$Past" "ring" "[LLoadCouncil$Council;", Cond.instanceMethod yX1_init, Cond.code yX1_init cX1_init 1 none, Cond.methodLink RX1 3 objectInit, Cond.fieldLink RX1 9 "LoadCouncil$Election" "order" "[I", Cond.arrayClass .long, Cond.fieldLink RX1 15 "LoadCouncil$Election" "above" "[J", Cond.fieldLink RX1 19 "LoadCouncil$Election" "below" "[J", Cond.fieldLink RX1 22 "LoadCouncil$Election" "support" "[I", Cond.fieldLink RX1 25 "LoadCouncil$Election" "worth" "[J", Cond.fieldLink RX1 28 "LoadCouncil$Election" "loads" "[J", Cond.methodLink RX4 42 yJ0_length_8abf5, Cond.instanceMethod yJ0_length_8abf5]
def wsX4_init_r3 : List Cond := [Cond.selects RJ0 yJ0_length_8abf5 yJ0_length_8abf5, Cond.initialized RJ0, Cond.code yJ0_length_8abf5 cJ0_length_8abf5 1 (some .int), Cond.fieldLink RJ0 9 "java/lang/String" "value" "[B", Cond.methodLink RJ0 335 yJ0_coder_7d493, Cond.instanceMethod yJ0_coder_7d493, Cond.selects RJ0 yJ0_coder_7d493 yJ0_coder_7d493, Cond.code yJ0_coder_7d493 cJ0_coder_7d493 1 (some .byte), Cond.fieldLink RJ0 38 "java/lang/String" "COMPACT_STRINGS" "Z", Cond.fieldLink RJ0 15 "java/lang/String" "coder" "B", Cond.methodLink RX4 48 yJ0_charAt_5068e, Cond.instanceMethod yJ0_charAt_5068e, Cond.selects RJ0 yJ0_charAt_5068e yJ0_charAt_5068e, Cond.code yJ0_charAt_5068e cJ0_charAt_5068e 2 (some .char), Cond.methodLink RJ0 492 yJ0_isLatin1_aae02, Cond.instanceMethod yJ0_isLatin1_aae02, Cond.selects RJ0 yJ0_isLatin1_aae02 yJ0_isLatin1_aae02, Cond.code yJ0_isLatin1_aae02 cJ0_isLatin1_aae02 1 (some .boolean), Cond.methodLink RJ0 495 yJ1_charAt_3b067, Cond.static yJ1_charAt_3b067, Cond.initialized RJ1, Cond.code yJ1_charAt_3b067 cJ1_charAt_3b067 2 (some .char), Cond.methodLink RJ1 9 yJ0_checkIndex_df160, Cond.static yJ0_checkIndex_df160]
def wsX4_init_r4 : List Cond := [Cond.code yJ0_checkIndex_df160 cJ0_checkIndex_df160 2 none, Cond.fieldLink RJ0 1053 "jdk/internal/util/Preconditions" "SIOOBE_FORMATTER" "Ljava/util/function/BiFunction;", Cond.methodLink RJ0 1059 yJ3_checkIndex_8e157, Cond.static yJ3_checkIndex_8e157, Cond.initialized RJ3, Cond.code yJ3_checkIndex_8e157 cJ3_checkIndex_8e157 3 (some .int), Cond.methodLink RJ0 498 yJ2_charAt_3b067, Cond.static yJ2_charAt_3b067, Cond.initialized RJ2, Cond.code yJ2_charAt_3b067 cJ2_charAt_3b067 2 (some .char), Cond.methodLink RJ2 67 yJ2_checkIndex_2214a, Cond.static yJ2_checkIndex_2214a, Cond.code yJ2_checkIndex_2214a cJ2_checkIndex_2214a 2 none, Cond.methodLink RJ2 48 yJ2_length_9d52b, Cond.static yJ2_length_9d52b, Cond.code yJ2_length_9d52b cJ2_length_9d52b 1 (some .int), Cond.methodLink RJ2 414 yJ0_checkIndex_df160, Cond.methodLink RJ2 71 yJ2_getChar_3b067, Cond.static yJ2_getChar_3b067, Cond.code yJ2_getChar_3b067 cJ2_getChar_3b067 2 (some .char), Cond.fieldLink RJ2 44 "java/lang/StringUTF16" "$assertionsDisabled" "Z", Cond.fieldLink RJ2 59 "java/lang/StringUTF16" "HI_BYTE_SHIFT" "I", Cond.fieldLink RJ2 63 "java/lang/StringUTF16" "LO_BYTE_SHIFT" "I", Cond.instanceMethod yX3_add]
def wsX4_init_r5 : List Cond := [Cond.selects RX3 yX3_add yX3_add, Cond.code yX3_add cX3_add 2 (some .boolean), Cond.fieldLink RX3 15 "LoadCouncil$Text" "length" "I", Cond.instanceMethod yX3_readInto, Cond.selects RX3 yX3_readInto yX3_readInto, Cond.code yX3_readInto cX3_readInto 4 (some .int), Cond.instanceMethod yX0_beginWith, Cond.selects RX0 yX0_beginWith yX0_beginWith, Cond.code yX0_beginWith cX0_beginWith 3 none, Cond.fieldLink RX0 21 "LoadCouncil$Council" "candidates" "I", Cond.fieldLink RX0 25 "LoadCouncil$Council" "ballots" "I", Cond.fieldLink RX0 28 "LoadCouncil$Council" "seats" "I", Cond.fieldLink RX0 31 "LoadCouncil$Council" "withdrawn" "I", Cond.methodLink RX3 25 yX3_readItem, Cond.instanceMethod yX3_readItem, Cond.selects RX3 yX3_readItem yX3_readItem, Cond.code yX3_readItem cX3_readItem 5 (some .boolean), Cond.methodLink RX3 29 yX3_readCandidates, Cond.instanceMethod yX3_readCandidates, Cond.selects RX3 yX3_readCandidates yX3_readCandidates, Cond.code yX3_readCandidates cX3_readCandidates 5 (some .boolean), Cond.methodLink RX3 44 yX3_number, Cond.instanceMethod yX3_number, Cond.selects RX3 yX3_number yX3_number]
def wsX4_init_r6 : List Cond := [Cond.code yX3_number cX3_number 6 (some .int), Cond.methodLink RX3 35 yX3_readBallot, Cond.instanceMethod yX3_readBallot, Cond.selects RX3 yX3_readBallot yX3_readBallot, Cond.code yX3_readBallot cX3_readBallot 7 (some .boolean), Cond.methodLink RX3 48 yX3_risingSet, Cond.instanceMethod yX3_risingSet, Cond.selects RX3 yX3_risingSet yX3_risingSet, Cond.code yX3_risingSet cX3_risingSet 8 (some .int), Cond.static yX4_isVoters, Cond.initialized RX4, Cond.code yX4_isVoters cX4_isVoters 1 (some .boolean), Cond.instanceMethod yX0_allVoters, Cond.selects RX0 yX0_allVoters yX0_allVoters, Cond.code yX0_allVoters cX0_allVoters 1 (some .int), Cond.methodLink RX0 40 yX0_votersWhoAgree, Cond.instanceMethod yX0_votersWhoAgree, Cond.selects RX0 yX0_votersWhoAgree yX0_votersWhoAgree, Cond.code yX0_votersWhoAgree cX0_votersWhoAgree 4 (some .int), Cond.methodLink RX0 44 yX0_agreesTo, Cond.instanceMethod yX0_agreesTo, Cond.selects RX0 yX0_agreesTo yX0_agreesTo, Cond.code yX0_agreesTo cX0_agreesTo 3 (some .boolean), Cond.instanceMethod yX0_addBallot]
def wsX4_init_r7 : List Cond := [Cond.selects RX0 yX0_addBallot yX0_addBallot, Cond.code yX0_addBallot cX0_addBallot 3 none, Cond.methodLink RX3 38 yX3_readSeats, Cond.instanceMethod yX3_readSeats, Cond.selects RX3 yX3_readSeats yX3_readSeats, Cond.code yX3_readSeats cX3_readSeats 5 (some .boolean), Cond.methodLink RX3 41 yX3_readRank, Cond.instanceMethod yX3_readRank, Cond.selects RX3 yX3_readRank yX3_readRank, Cond.code yX3_readRank cX3_readRank 7 (some .boolean), Cond.static yX4_hasBit, Cond.code yX4_hasBit cX4_hasBit 2 (some .boolean), Cond.instanceMethod yX3_clear, Cond.selects RX3 yX3_clear yX3_clear, Cond.code yX3_clear cX3_clear 1 none]
def wsX4_init : List Cond := .code yX4_init cX4_init 2 none :: ((wsX4_init_r1 ++ (wsX4_init_r2 ++ (wsX4_init_r3 ++ (wsX4_init_r4 ++ (wsX4_init_r5 ++ (wsX4_init_r6 ++ wsX4_init_r7)))))) ++ wsX30 ++ wsX40 ++ wsX00 ++ wsX20 ++ wsX10)
def wsX4_write : List Cond := .code yX4_write cX4_write 2 (some .int) :: ([.fieldLink RX4 12 "LoadCouncil" "text" "LLoadCouncil$Text;", .instanceMethod yX3_add, .initialized RX3, .selects RX3 yX3_add yX3_add, .code yX3_add cX3_add 2 (some .boolean), .fieldLink RX3 15 "LoadCouncil$Text" "length" "I", .fieldLink RX3 9 "LoadCouncil$Text" "letters" "[I"] ++ wsX40 ++ wsX30)
def wsX4_wipe : List Cond := .code yX4_wipe cX4_wipe 2 (some .int) :: ([.fieldLink RX4 12 "LoadCouncil" "text" "LLoadCouncil$Text;", .instanceMethod yX3_clear, .initialized RX3, .selects RX3 yX3_clear yX3_clear, .code yX3_clear cX3_clear 1 none, .fieldLink RX3 15 "LoadCouncil$Text" "length" "I"] ++ wsX40 ++ wsX30)
def wsX4_fault_r1 : List Cond := [Cond.fieldLink RX4 12 "LoadCouncil" "text" "LLoadCouncil$Text;", Cond.fieldLink RX4 23 "LoadCouncil" "trial" "LLoadCouncil$Council;", Cond.instanceMethod yX3_readInto, Cond.initialized RX3, Cond.selects RX3 yX3_readInto yX3_readInto, Cond.code yX3_readInto cX3_readInto 4 (some .int), Cond.fieldLink RX3 15 "LoadCouncil$Text" "length" "I", Cond.fieldLink RX3 9 "LoadCouncil$Text" "letters" "[I", Cond.instanceMethod yX0_beginWith, Cond.initialized RX0, Cond.selects RX0 yX0_beginWith yX0_beginWith, Cond.code yX0_beginWith cX0_beginWith 3 none, Cond.fieldLink RX0 21 "LoadCouncil$Council" "candidates" "I", Cond.fieldLink RX0 25 "LoadCouncil$Council" "ballots" "I", Cond.fieldLink RX0 28 "LoadCouncil$Council" "seats" "I", Cond.fieldLink RX0 31 "LoadCouncil$Council" "withdrawn" "I", Cond.fieldLink RX0 18 "LoadCouncil$Council" "rank" "[I", Cond.methodLink RX3 25 yX3_readItem, Cond.instanceMethod yX3_readItem, Cond.selects RX3 yX3_readItem yX3_readItem, Cond.code yX3_readItem cX3_readItem 5 (some .boolean), Cond.methodLink RX3 29 yX3_readCandidates, Cond.instanceMethod yX3_readCandidates, Cond.selects RX3 yX3_readCandidates yX3_readCandidates]
def wsX4_fault_r2 : List Cond := [Cond.code yX3_readCandidates cX3_readCandidates 5 (some .boolean), Cond.methodLink RX3 44 yX3_number, Cond.instanceMethod yX3_number, Cond.selects RX3 yX3_number yX3_number, Cond.code yX3_number cX3_number 6 (some .int), Cond.methodLink RX3 35 yX3_readBallot, Cond.instanceMethod yX3_readBallot, Cond.selects RX3 yX3_readBallot yX3_readBallot, Cond.code yX3_readBallot cX3_readBallot 7 (some .boolean), Cond.methodLink RX3 48 yX3_risingSet, Cond.instanceMethod yX3_risingSet, Cond.selects RX3 yX3_risingSet yX3_risingSet, Cond.code yX3_risingSet cX3_risingSet 8 (some .int), Cond.static yX4_isVoters, Cond.initialized RX4, Cond.code yX4_isVoters cX4_isVoters 1 (some .boolean), Cond.instanceMethod yX0_allVoters, Cond.selects RX0 yX0_allVoters yX0_allVoters, Cond.code yX0_allVoters cX0_allVoters 1 (some .int), Cond.methodLink RX0 40 yX0_votersWhoAgree, Cond.instanceMethod yX0_votersWhoAgree, Cond.selects RX0 yX0_votersWhoAgree yX0_votersWhoAgree, Cond.code yX0_votersWhoAgree cX0_votersWhoAgree 4 (some .int), Cond.fieldLink RX0 9 "LoadCouncil$Council" "voters" "[I"]
def wsX4_fault_r3 : List Cond := [Cond.methodLink RX0 44 yX0_agreesTo, Cond.instanceMethod yX0_agreesTo, Cond.selects RX0 yX0_agreesTo yX0_agreesTo, Cond.code yX0_agreesTo cX0_agreesTo 3 (some .boolean), Cond.fieldLink RX0 15 "LoadCouncil$Council" "sets" "[I", Cond.instanceMethod yX0_addBallot, Cond.selects RX0 yX0_addBallot yX0_addBallot, Cond.code yX0_addBallot cX0_addBallot 3 none, Cond.methodLink RX3 38 yX3_readSeats, Cond.instanceMethod yX3_readSeats, Cond.selects RX3 yX3_readSeats yX3_readSeats, Cond.code yX3_readSeats cX3_readSeats 5 (some .boolean), Cond.methodLink RX3 41 yX3_readRank, Cond.instanceMethod yX3_readRank, Cond.selects RX3 yX3_readRank yX3_readRank, Cond.code yX3_readRank cX3_readRank 7 (some .boolean), Cond.static yX4_hasBit, Cond.code yX4_hasBit cX4_hasBit 2 (some .boolean)]
def wsX4_fault : List Cond := .code yX4_fault cX4_fault 1 (some .int) :: ((wsX4_fault_r1 ++ (wsX4_fault_r2 ++ wsX4_fault_r3)) ++ wsX40 ++ wsX30 ++ wsX00)
def wsX4_lay_r1 : List Cond := [Cond.fieldLink RX4 12 "LoadCouncil" "text" "LLoadCouncil$Text;", Cond.fieldLink RX4 23 "LoadCouncil" "trial" "LLoadCouncil$Council;", Cond.fieldLink RX4 19 "LoadCouncil" "now" "LLoadCouncil$Council;", Cond.fieldLink RX4 29 "LoadCouncil" "past" "LLoadCouncil$Past;", Cond.instanceMethod yX3_readInto, Cond.initialized RX3, Cond.selects RX3 yX3_readInto yX3_readInto, Cond.code yX3_readInto cX3_readInto 4 (some .int), Cond.fieldLink RX3 15 "LoadCouncil$Text" "length" "I", Cond.fieldLink RX3 9 "LoadCouncil$Text" "letters" "[I", Cond.instanceMethod yX0_beginWith, Cond.initialized RX0, Cond.selects RX0 yX0_beginWith yX0_beginWith, Cond.code yX0_beginWith cX0_beginWith 3 none, Cond.fieldLink RX0 21 "LoadCouncil$Council" "candidates" "I", Cond.fieldLink RX0 25 "LoadCouncil$Council" "ballots" "I", Cond.fieldLink RX0 28 "LoadCouncil$Council" "seats" "I", Cond.fieldLink RX0 31 "LoadCouncil$Council" "withdrawn" "I", Cond.fieldLink RX0 18 "LoadCouncil$Council" "rank" "[I", Cond.methodLink RX3 25 yX3_readItem, Cond.instanceMethod yX3_readItem, Cond.selects RX3 yX3_readItem yX3_readItem, Cond.code yX3_readItem cX3_readItem 5 (some .boolean), Cond.methodLink RX3 29 yX3_readCandidates]
def wsX4_lay_r2 : List Cond := [Cond.instanceMethod yX3_readCandidates, Cond.selects RX3 yX3_readCandidates yX3_readCandidates, Cond.code yX3_readCandidates cX3_readCandidates 5 (some .boolean), Cond.methodLink RX3 44 yX3_number, Cond.instanceMethod yX3_number, Cond.selects RX3 yX3_number yX3_number, Cond.code yX3_number cX3_number 6 (some .int), Cond.methodLink RX3 35 yX3_readBallot, Cond.instanceMethod yX3_readBallot, Cond.selects RX3 yX3_readBallot yX3_readBallot, Cond.code yX3_readBallot cX3_readBallot 7 (some .boolean), Cond.methodLink RX3 48 yX3_risingSet, Cond.instanceMethod yX3_risingSet, Cond.selects RX3 yX3_risingSet yX3_risingSet, Cond.code yX3_risingSet cX3_risingSet 8 (some .int), Cond.static yX4_isVoters, Cond.initialized RX4, Cond.code yX4_isVoters cX4_isVoters 1 (some .boolean), Cond.instanceMethod yX0_allVoters, Cond.selects RX0 yX0_allVoters yX0_allVoters, Cond.code yX0_allVoters cX0_allVoters 1 (some .int), Cond.methodLink RX0 40 yX0_votersWhoAgree, Cond.instanceMethod yX0_votersWhoAgree, Cond.selects RX0 yX0_votersWhoAgree yX0_votersWhoAgree]
def wsX4_lay_r3 : List Cond := [Cond.code yX0_votersWhoAgree cX0_votersWhoAgree 4 (some .int), Cond.fieldLink RX0 9 "LoadCouncil$Council" "voters" "[I", Cond.methodLink RX0 44 yX0_agreesTo, Cond.instanceMethod yX0_agreesTo, Cond.selects RX0 yX0_agreesTo yX0_agreesTo, Cond.code yX0_agreesTo cX0_agreesTo 3 (some .boolean), Cond.fieldLink RX0 15 "LoadCouncil$Council" "sets" "[I", Cond.instanceMethod yX0_addBallot, Cond.selects RX0 yX0_addBallot yX0_addBallot, Cond.code yX0_addBallot cX0_addBallot 3 none, Cond.methodLink RX3 38 yX3_readSeats, Cond.instanceMethod yX3_readSeats, Cond.selects RX3 yX3_readSeats yX3_readSeats, Cond.code yX3_readSeats cX3_readSeats 5 (some .boolean), Cond.methodLink RX3 41 yX3_readRank, Cond.instanceMethod yX3_readRank, Cond.selects RX3 yX3_readRank yX3_readRank, Cond.code yX3_readRank cX3_readRank 7 (some .boolean), Cond.static yX4_hasBit, Cond.code yX4_hasBit cX4_hasBit 2 (some .boolean), Cond.instanceMethod yX0_copyFrom, Cond.selects RX0 yX0_copyFrom yX0_copyFrom, Cond.code yX0_copyFrom cX0_copyFrom 2 none, Cond.methodLink RX0 34 arraycopyName]
def wsX4_lay_r4 : List Cond := [Cond.native arraycopyName, Cond.static arraycopyName, Cond.initialized "java/lang/System", Cond.instanceMethod yX2_forget, Cond.initialized RX2, Cond.selects RX2 yX2_forget yX2_forget, Cond.code yX2_forget cX2_forget 1 none, Cond.fieldLink RX2 18 "LoadCouncil$Past" "size" "I"]
def wsX4_lay : List Cond := .code yX4_lay cX4_lay 1 (some .int) :: ((wsX4_lay_r1 ++ (wsX4_lay_r2 ++ (wsX4_lay_r3 ++ wsX4_lay_r4))) ++ wsX40 ++ wsX00 ++ wsX30 ++ wsX20)
def wsX4_isSet : List Cond := .code yX4_isSet cX4_isSet 2 (some .boolean) :: ([.fieldLink RX4 19 "LoadCouncil" "now" "LLoadCouncil$Council;"] ++ wsX40 ++ wsX00)
def wsX4_ballot_r1 : List Cond := [Cond.fieldLink RX4 19 "LoadCouncil" "now" "LLoadCouncil$Council;", Cond.fieldLink RX4 29 "LoadCouncil" "past" "LLoadCouncil$Past;", Cond.methodLink RX4 76 yX4_isVoters, Cond.static yX4_isVoters, Cond.initialized RX4, Cond.code yX4_isVoters cX4_isVoters 1 (some .boolean), Cond.methodLink RX4 79 yX4_isSet, Cond.instanceMethod yX4_isSet, Cond.selects RX4 yX4_isSet yX4_isSet, Cond.code yX4_isSet cX4_isSet 2 (some .boolean), Cond.instanceMethod yX0_allVoters, Cond.initialized RX0, Cond.selects RX0 yX0_allVoters yX0_allVoters, Cond.code yX0_allVoters cX0_allVoters 1 (some .int), Cond.methodLink RX0 40 yX0_votersWhoAgree, Cond.instanceMethod yX0_votersWhoAgree, Cond.selects RX0 yX0_votersWhoAgree yX0_votersWhoAgree, Cond.code yX0_votersWhoAgree cX0_votersWhoAgree 4 (some .int), Cond.fieldLink RX0 25 "LoadCouncil$Council" "ballots" "I", Cond.fieldLink RX0 9 "LoadCouncil$Council" "voters" "[I", Cond.methodLink RX0 44 yX0_agreesTo, Cond.instanceMethod yX0_agreesTo, Cond.selects RX0 yX0_agreesTo yX0_agreesTo, Cond.code yX0_agreesTo cX0_agreesTo 3 (some .boolean)]
def wsX4_ballot_r2 : List Cond := [Cond.fieldLink RX0 15 "LoadCouncil$Council" "sets" "[I", Cond.instanceMethod yX2_keep, Cond.initialized RX2, Cond.selects RX2 yX2_keep yX2_keep, Cond.code yX2_keep cX2_keep 2 none, Cond.fieldLink RX2 11 "LoadCouncil$Past" "ring" "[LLoadCouncil$Council;", Cond.fieldLink RX2 22 "LoadCouncil$Past" "top" "I", Cond.fieldLink RX2 18 "LoadCouncil$Past" "size" "I", Cond.methodLink RX2 29 Lib.Math.min.name, Cond.static Lib.Math.min.name, Cond.initialized "java/lang/Math", Cond.code Lib.Math.min.name Lib.Math.min.code 2 (some .int), Cond.instanceMethod yX0_copyFrom, Cond.selects RX0 yX0_copyFrom yX0_copyFrom, Cond.code yX0_copyFrom cX0_copyFrom 2 none, Cond.fieldLink RX0 21 "LoadCouncil$Council" "candidates" "I", Cond.fieldLink RX0 28 "LoadCouncil$Council" "seats" "I", Cond.fieldLink RX0 31 "LoadCouncil$Council" "withdrawn" "I", Cond.methodLink RX0 34 arraycopyName, Cond.native arraycopyName, Cond.static arraycopyName, Cond.initialized "java/lang/System", Cond.fieldLink RX0 18 "LoadCouncil$Council" "rank" "[I", Cond.instanceMethod yX0_addBallot]
def wsX4_ballot_r3 : List Cond := [Cond.selects RX0 yX0_addBallot yX0_addBallot, Cond.code yX0_addBallot cX0_addBallot 3 none]
def wsX4_ballot : List Cond := .code yX4_ballot cX4_ballot 3 (some .int) :: ((wsX4_ballot_r1 ++ (wsX4_ballot_r2 ++ wsX4_ballot_r3)) ++ wsX40 ++ wsX00 ++ wsX20)
def wsX4_isBallot : List Cond := .code yX4_isBallot cX4_isBallot 2 (some .boolean) :: ([.fieldLink RX4 19 "LoadCouncil" "now" "LLoadCouncil$Council;"] ++ wsX40 ++ wsX00)
def wsX4_voters_r1 : List Cond := [Cond.fieldLink RX4 19 "LoadCouncil" "now" "LLoadCouncil$Council;", Cond.fieldLink RX4 29 "LoadCouncil" "past" "LLoadCouncil$Past;", Cond.methodLink RX4 95 yX4_isBallot, Cond.instanceMethod yX4_isBallot, Cond.selects RX4 yX4_isBallot yX4_isBallot, Cond.initialized RX4, Cond.code yX4_isBallot cX4_isBallot 2 (some .boolean), Cond.methodLink RX4 76 yX4_isVoters, Cond.static yX4_isVoters, Cond.code yX4_isVoters cX4_isVoters 1 (some .boolean), Cond.instanceMethod yX0_allVoters, Cond.initialized RX0, Cond.selects RX0 yX0_allVoters yX0_allVoters, Cond.code yX0_allVoters cX0_allVoters 1 (some .int), Cond.methodLink RX0 40 yX0_votersWhoAgree, Cond.instanceMethod yX0_votersWhoAgree, Cond.selects RX0 yX0_votersWhoAgree yX0_votersWhoAgree, Cond.code yX0_votersWhoAgree cX0_votersWhoAgree 4 (some .int), Cond.fieldLink RX0 25 "LoadCouncil$Council" "ballots" "I", Cond.fieldLink RX0 9 "LoadCouncil$Council" "voters" "[I", Cond.methodLink RX0 44 yX0_agreesTo, Cond.instanceMethod yX0_agreesTo, Cond.selects RX0 yX0_agreesTo yX0_agreesTo, Cond.code yX0_agreesTo cX0_agreesTo 3 (some .boolean)]
def wsX4_voters_r2 : List Cond := [Cond.fieldLink RX0 15 "LoadCouncil$Council" "sets" "[I", Cond.instanceMethod yX2_keep, Cond.initialized RX2, Cond.selects RX2 yX2_keep yX2_keep, Cond.code yX2_keep cX2_keep 2 none, Cond.fieldLink RX2 11 "LoadCouncil$Past" "ring" "[LLoadCouncil$Council;", Cond.fieldLink RX2 22 "LoadCouncil$Past" "top" "I", Cond.fieldLink RX2 18 "LoadCouncil$Past" "size" "I", Cond.methodLink RX2 29 Lib.Math.min.name, Cond.static Lib.Math.min.name, Cond.initialized "java/lang/Math", Cond.code Lib.Math.min.name Lib.Math.min.code 2 (some .int), Cond.instanceMethod yX0_copyFrom, Cond.selects RX0 yX0_copyFrom yX0_copyFrom, Cond.code yX0_copyFrom cX0_copyFrom 2 none, Cond.fieldLink RX0 21 "LoadCouncil$Council" "candidates" "I", Cond.fieldLink RX0 28 "LoadCouncil$Council" "seats" "I", Cond.fieldLink RX0 31 "LoadCouncil$Council" "withdrawn" "I", Cond.methodLink RX0 34 arraycopyName, Cond.native arraycopyName, Cond.static arraycopyName, Cond.initialized "java/lang/System", Cond.fieldLink RX0 18 "LoadCouncil$Council" "rank" "[I"]
def wsX4_voters : List Cond := .code yX4_voters cX4_voters 4 (some .int) :: ((wsX4_voters_r1 ++ wsX4_voters_r2) ++ wsX40 ++ wsX00 ++ wsX20)
def wsX4_approve_r1 : List Cond := [Cond.fieldLink RX4 19 "LoadCouncil" "now" "LLoadCouncil$Council;", Cond.fieldLink RX4 29 "LoadCouncil" "past" "LLoadCouncil$Past;", Cond.methodLink RX4 95 yX4_isBallot, Cond.instanceMethod yX4_isBallot, Cond.selects RX4 yX4_isBallot yX4_isBallot, Cond.initialized RX4, Cond.code yX4_isBallot cX4_isBallot 2 (some .boolean), Cond.methodLink RX4 79 yX4_isSet, Cond.instanceMethod yX4_isSet, Cond.selects RX4 yX4_isSet yX4_isSet, Cond.code yX4_isSet cX4_isSet 2 (some .boolean), Cond.instanceMethod yX2_keep, Cond.initialized RX2, Cond.selects RX2 yX2_keep yX2_keep, Cond.code yX2_keep cX2_keep 2 none, Cond.fieldLink RX2 11 "LoadCouncil$Past" "ring" "[LLoadCouncil$Council;", Cond.fieldLink RX2 22 "LoadCouncil$Past" "top" "I", Cond.fieldLink RX2 18 "LoadCouncil$Past" "size" "I", Cond.methodLink RX2 29 Lib.Math.min.name, Cond.static Lib.Math.min.name, Cond.initialized "java/lang/Math", Cond.code Lib.Math.min.name Lib.Math.min.code 2 (some .int), Cond.instanceMethod yX0_copyFrom, Cond.initialized RX0]
def wsX4_approve_r2 : List Cond := [Cond.selects RX0 yX0_copyFrom yX0_copyFrom, Cond.code yX0_copyFrom cX0_copyFrom 2 none, Cond.fieldLink RX0 21 "LoadCouncil$Council" "candidates" "I", Cond.fieldLink RX0 25 "LoadCouncil$Council" "ballots" "I", Cond.fieldLink RX0 28 "LoadCouncil$Council" "seats" "I", Cond.fieldLink RX0 31 "LoadCouncil$Council" "withdrawn" "I", Cond.fieldLink RX0 9 "LoadCouncil$Council" "voters" "[I", Cond.methodLink RX0 34 arraycopyName, Cond.native arraycopyName, Cond.static arraycopyName, Cond.initialized "java/lang/System", Cond.fieldLink RX0 15 "LoadCouncil$Council" "sets" "[I", Cond.fieldLink RX0 18 "LoadCouncil$Council" "rank" "[I"]
def wsX4_approve : List Cond := .code yX4_approve cX4_approve 4 (some .int) :: ((wsX4_approve_r1 ++ wsX4_approve_r2) ++ wsX40 ++ wsX00 ++ wsX20)
def wsX4_seats_r1 : List Cond := [Cond.fieldLink RX4 19 "LoadCouncil" "now" "LLoadCouncil$Council;", Cond.fieldLink RX4 29 "LoadCouncil" "past" "LLoadCouncil$Past;", Cond.instanceMethod yX2_keep, Cond.initialized RX2, Cond.selects RX2 yX2_keep yX2_keep, Cond.code yX2_keep cX2_keep 2 none, Cond.fieldLink RX2 11 "LoadCouncil$Past" "ring" "[LLoadCouncil$Council;", Cond.fieldLink RX2 22 "LoadCouncil$Past" "top" "I", Cond.fieldLink RX2 18 "LoadCouncil$Past" "size" "I", Cond.methodLink RX2 29 Lib.Math.min.name, Cond.static Lib.Math.min.name, Cond.initialized "java/lang/Math", Cond.code Lib.Math.min.name Lib.Math.min.code 2 (some .int), Cond.instanceMethod yX0_copyFrom, Cond.initialized RX0, Cond.selects RX0 yX0_copyFrom yX0_copyFrom, Cond.code yX0_copyFrom cX0_copyFrom 2 none, Cond.fieldLink RX0 21 "LoadCouncil$Council" "candidates" "I", Cond.fieldLink RX0 25 "LoadCouncil$Council" "ballots" "I", Cond.fieldLink RX0 28 "LoadCouncil$Council" "seats" "I", Cond.fieldLink RX0 31 "LoadCouncil$Council" "withdrawn" "I", Cond.fieldLink RX0 9 "LoadCouncil$Council" "voters" "[I", Cond.methodLink RX0 34 arraycopyName, Cond.native arraycopyName]
def wsX4_seats_r2 : List Cond := [Cond.static arraycopyName, Cond.initialized "java/lang/System", Cond.fieldLink RX0 15 "LoadCouncil$Council" "sets" "[I", Cond.fieldLink RX0 18 "LoadCouncil$Council" "rank" "[I"]
def wsX4_seats : List Cond := .code yX4_seats cX4_seats 3 (some .int) :: ((wsX4_seats_r1 ++ wsX4_seats_r2) ++ wsX40 ++ wsX00 ++ wsX20)
def wsX4_isCandidate : List Cond := .code yX4_isCandidate cX4_isCandidate 2 (some .boolean) :: ([.fieldLink RX4 19 "LoadCouncil" "now" "LLoadCouncil$Council;"] ++ wsX40 ++ wsX00)
def wsX4_withdraw_r1 : List Cond := [Cond.fieldLink RX4 19 "LoadCouncil" "now" "LLoadCouncil$Council;", Cond.fieldLink RX4 29 "LoadCouncil" "past" "LLoadCouncil$Past;", Cond.methodLink RX4 108 yX4_isCandidate, Cond.instanceMethod yX4_isCandidate, Cond.selects RX4 yX4_isCandidate yX4_isCandidate, Cond.initialized RX4, Cond.code yX4_isCandidate cX4_isCandidate 2 (some .boolean), Cond.instanceMethod yX0_isWithdrawn, Cond.initialized RX0, Cond.selects RX0 yX0_isWithdrawn yX0_isWithdrawn, Cond.code yX0_isWithdrawn cX0_isWithdrawn 2 (some .boolean), Cond.fieldLink RX0 31 "LoadCouncil$Council" "withdrawn" "I", Cond.static yX4_hasBit, Cond.code yX4_hasBit cX4_hasBit 2 (some .boolean), Cond.instanceMethod yX2_keep, Cond.initialized RX2, Cond.selects RX2 yX2_keep yX2_keep, Cond.code yX2_keep cX2_keep 2 none, Cond.fieldLink RX2 11 "LoadCouncil$Past" "ring" "[LLoadCouncil$Council;", Cond.fieldLink RX2 22 "LoadCouncil$Past" "top" "I", Cond.fieldLink RX2 18 "LoadCouncil$Past" "size" "I", Cond.methodLink RX2 29 Lib.Math.min.name, Cond.static Lib.Math.min.name, Cond.initialized "java/lang/Math"]
def wsX4_withdraw_r2 : List Cond := [Cond.code Lib.Math.min.name Lib.Math.min.code 2 (some .int), Cond.instanceMethod yX0_copyFrom, Cond.selects RX0 yX0_copyFrom yX0_copyFrom, Cond.code yX0_copyFrom cX0_copyFrom 2 none, Cond.fieldLink RX0 21 "LoadCouncil$Council" "candidates" "I", Cond.fieldLink RX0 25 "LoadCouncil$Council" "ballots" "I", Cond.fieldLink RX0 28 "LoadCouncil$Council" "seats" "I", Cond.fieldLink RX0 9 "LoadCouncil$Council" "voters" "[I", Cond.methodLink RX0 34 arraycopyName, Cond.native arraycopyName, Cond.static arraycopyName, Cond.initialized "java/lang/System", Cond.fieldLink RX0 15 "LoadCouncil$Council" "sets" "[I", Cond.fieldLink RX0 18 "LoadCouncil$Council" "rank" "[I", Cond.methodLink RX4 117 yJ6_bitCount_0f7a4, Cond.static yJ6_bitCount_0f7a4, Cond.initialized RJ6, Cond.code yJ6_bitCount_0f7a4 cJ6_bitCount_0f7a4 1 (some .int), Cond.constant RJ6 265 (1431655765), Cond.constant RJ6 266 (858993459), Cond.constant RJ6 267 (252645135)]
def wsX4_withdraw : List Cond := .code yX4_withdraw cX4_withdraw 3 (some .int) :: ((wsX4_withdraw_r1 ++ wsX4_withdraw_r2) ++ wsX40 ++ wsX00 ++ wsX20)
def wsX4_prefer_r1 : List Cond := [Cond.fieldLink RX4 19 "LoadCouncil" "now" "LLoadCouncil$Council;", Cond.fieldLink RX4 29 "LoadCouncil" "past" "LLoadCouncil$Past;", Cond.methodLink RX4 108 yX4_isCandidate, Cond.instanceMethod yX4_isCandidate, Cond.selects RX4 yX4_isCandidate yX4_isCandidate, Cond.initialized RX4, Cond.code yX4_isCandidate cX4_isCandidate 2 (some .boolean), Cond.instanceMethod yX0_placeOf, Cond.initialized RX0, Cond.selects RX0 yX0_placeOf yX0_placeOf, Cond.code yX0_placeOf cX0_placeOf 4 (some .int), Cond.fieldLink RX0 21 "LoadCouncil$Council" "candidates" "I", Cond.fieldLink RX0 18 "LoadCouncil$Council" "rank" "[I", Cond.instanceMethod yX2_keep, Cond.initialized RX2, Cond.selects RX2 yX2_keep yX2_keep, Cond.code yX2_keep cX2_keep 2 none, Cond.fieldLink RX2 11 "LoadCouncil$Past" "ring" "[LLoadCouncil$Council;", Cond.fieldLink RX2 22 "LoadCouncil$Past" "top" "I", Cond.fieldLink RX2 18 "LoadCouncil$Past" "size" "I", Cond.methodLink RX2 29 Lib.Math.min.name, Cond.static Lib.Math.min.name, Cond.initialized "java/lang/Math", Cond.code Lib.Math.min.name Lib.Math.min.code 2 (some .int)]
def wsX4_prefer_r2 : List Cond := [Cond.instanceMethod yX0_copyFrom, Cond.selects RX0 yX0_copyFrom yX0_copyFrom, Cond.code yX0_copyFrom cX0_copyFrom 2 none, Cond.fieldLink RX0 25 "LoadCouncil$Council" "ballots" "I", Cond.fieldLink RX0 28 "LoadCouncil$Council" "seats" "I", Cond.fieldLink RX0 31 "LoadCouncil$Council" "withdrawn" "I", Cond.fieldLink RX0 9 "LoadCouncil$Council" "voters" "[I", Cond.methodLink RX0 34 arraycopyName, Cond.native arraycopyName, Cond.static arraycopyName, Cond.initialized "java/lang/System", Cond.fieldLink RX0 15 "LoadCouncil$Council" "sets" "[I", Cond.instanceMethod yX0_bringToFront, Cond.selects RX0 yX0_bringToFront yX0_bringToFront, Cond.code yX0_bringToFront cX0_bringToFront 4 none]
def wsX4_prefer : List Cond := .code yX4_prefer cX4_prefer 3 (some .int) :: ((wsX4_prefer_r1 ++ wsX4_prefer_r2) ++ wsX40 ++ wsX00 ++ wsX20)
def wsX4_undo : List Cond := .code yX4_undo cX4_undo 1 (some .int) :: ([.fieldLink RX4 29 "LoadCouncil" "past" "LLoadCouncil$Past;", .fieldLink RX4 19 "LoadCouncil" "now" "LLoadCouncil$Council;", .instanceMethod yX2_bringBack, .initialized RX2, .selects RX2 yX2_bringBack yX2_bringBack, .code yX2_bringBack cX2_bringBack 2 none, .fieldLink RX2 22 "LoadCouncil$Past" "top" "I", .fieldLink RX2 18 "LoadCouncil$Past" "size" "I", .fieldLink RX2 11 "LoadCouncil$Past" "ring" "[LLoadCouncil$Council;", .instanceMethod yX0_copyFrom, .initialized RX0, .selects RX0 yX0_copyFrom yX0_copyFrom, .code yX0_copyFrom cX0_copyFrom 2 none, .fieldLink RX0 21 "LoadCouncil$Council" "candidates" "I", .fieldLink RX0 25 "LoadCouncil$Council" "ballots" "I", .fieldLink RX0 28 "LoadCouncil$Council" "seats" "I", .fieldLink RX0 31 "LoadCouncil$Council" "withdrawn" "I", .fieldLink RX0 9 "LoadCouncil$Council" "voters" "[I", .methodLink RX0 34 arraycopyName, .native arraycopyName, .static arraycopyName, .initialized "java/lang/System", .fieldLink RX0 15 "LoadCouncil$Council" "sets" "[I", .fieldLink RX0 18 "LoadCouncil$Council" "rank" "[I"] ++ wsX40 ++ wsX20 ++ wsX00)
def wsX4_lawsThatElect_r1 : List Cond := [Cond.fieldLink RX4 36 "LoadCouncil" "election" "LLoadCouncil$Election;", Cond.fieldLink RX4 19 "LoadCouncil" "now" "LLoadCouncil$Council;", Cond.instanceMethod yX1_hold, Cond.initialized RX1, Cond.selects RX1 yX1_hold yX1_hold, Cond.code yX1_hold cX1_hold 5 (some .int), Cond.fieldLink RX1 45 "LoadCouncil$Election" "set" "I", Cond.methodLink RX1 31 yX1_begin, Cond.instanceMethod yX1_begin, Cond.selects RX1 yX1_begin yX1_begin, Cond.code yX1_begin cX1_begin 3 none, Cond.fieldLink RX1 52 "LoadCouncil$Election" "elected" "I", Cond.fieldLink RX1 55 "LoadCouncil$Election" "unit" "J", Cond.fieldLink RX1 28 "LoadCouncil$Election" "loads" "[J", Cond.fieldLink RX1 22 "LoadCouncil$Election" "support" "[I", Cond.instanceMethod yX0_supportOf, Cond.initialized RX0, Cond.selects RX0 yX0_supportOf yX0_supportOf, Cond.code yX0_supportOf cX0_supportOf 2 (some .int), Cond.methodLink RX0 40 yX0_votersWhoAgree, Cond.instanceMethod yX0_votersWhoAgree, Cond.selects RX0 yX0_votersWhoAgree yX0_votersWhoAgree, Cond.code yX0_votersWhoAgree cX0_votersWhoAgree 4 (some .int), Cond.fieldLink RX0 25 "LoadCouncil$Council" "ballots" "I"]
def wsX4_lawsThatElect_r2 : List Cond := [Cond.fieldLink RX0 9 "LoadCouncil$Council" "voters" "[I", Cond.methodLink RX0 44 yX0_agreesTo, Cond.instanceMethod yX0_agreesTo, Cond.selects RX0 yX0_agreesTo yX0_agreesTo, Cond.code yX0_agreesTo cX0_agreesTo 3 (some .boolean), Cond.fieldLink RX0 15 "LoadCouncil$Council" "sets" "[I", Cond.methodLink RX1 41 yX1_nextMember, Cond.instanceMethod yX1_nextMember, Cond.selects RX1 yX1_nextMember yX1_nextMember, Cond.code yX1_nextMember cX1_nextMember 6 (some .int), Cond.fieldLink RX1 25 "LoadCouncil$Election" "worth" "[J", Cond.static yX4_hasBit, Cond.initialized RX4, Cond.code yX4_hasBit cX4_hasBit 2 (some .boolean), Cond.methodLink RX1 76 yX1_worthOf, Cond.instanceMethod yX1_worthOf, Cond.selects RX1 yX1_worthOf yX1_worthOf, Cond.code yX1_worthOf cX1_worthOf 7 (some .long), Cond.methodLink RX1 93 yX1_weightOf, Cond.instanceMethod yX1_weightOf, Cond.selects RX1 yX1_weightOf yX1_weightOf, Cond.code yX1_weightOf cX1_weightOf 3 (some .long), Cond.methodLink RX1 97 yJ6_bitCount_0f7a4, Cond.static yJ6_bitCount_0f7a4]
def wsX4_lawsThatElect_r3 : List Cond := [Cond.initialized RJ6, Cond.code yJ6_bitCount_0f7a4 cJ6_bitCount_0f7a4 1 (some .int), Cond.constant RJ6 265 (1431655765), Cond.constant RJ6 266 (858993459), Cond.constant RJ6 267 (252645135), Cond.methodLink RX1 80 yX1_isAhead, Cond.instanceMethod yX1_isAhead, Cond.selects RX1 yX1_isAhead yX1_isAhead, Cond.code yX1_isAhead cX1_isAhead 4 (some .boolean), Cond.methodLink RX1 48 yX1_elect, Cond.instanceMethod yX1_elect, Cond.selects RX1 yX1_elect yX1_elect, Cond.code yX1_elect cX1_elect 4 none, Cond.fieldLink RX1 9 "LoadCouncil$Election" "order" "[I", Cond.fieldLink RX1 15 "LoadCouncil$Election" "above" "[J", Cond.fieldLink RX1 19 "LoadCouncil$Election" "below" "[J", Cond.constantLong RX1 102 (840), Cond.methodLink RX1 104 yX1_spreadLoad, Cond.instanceMethod yX1_spreadLoad, Cond.selects RX1 yX1_spreadLoad yX1_spreadLoad, Cond.code yX1_spreadLoad cX1_spreadLoad 4 none, Cond.methodLink RX4 199 yX4_hasBit]
def wsX4_lawsThatElect : List Cond := .code yX4_lawsThatElect cX4_lawsThatElect 4 (some .int) :: ((wsX4_lawsThatElect_r1 ++ (wsX4_lawsThatElect_r2 ++ wsX4_lawsThatElect_r3)) ++ wsX40 ++ wsX00 ++ wsX10)
def wsX4_candidate_r1 : List Cond := [Cond.fieldLink RX4 19 "LoadCouncil" "now" "LLoadCouncil$Council;", Cond.methodLink RX4 108 yX4_isCandidate, Cond.instanceMethod yX4_isCandidate, Cond.selects RX4 yX4_isCandidate yX4_isCandidate, Cond.initialized RX4, Cond.code yX4_isCandidate cX4_isCandidate 2 (some .boolean), Cond.instanceMethod yX0_supportOf, Cond.initialized RX0, Cond.selects RX0 yX0_supportOf yX0_supportOf, Cond.code yX0_supportOf cX0_supportOf 2 (some .int), Cond.methodLink RX0 40 yX0_votersWhoAgree, Cond.instanceMethod yX0_votersWhoAgree, Cond.selects RX0 yX0_votersWhoAgree yX0_votersWhoAgree, Cond.code yX0_votersWhoAgree cX0_votersWhoAgree 4 (some .int), Cond.fieldLink RX0 25 "LoadCouncil$Council" "ballots" "I", Cond.fieldLink RX0 9 "LoadCouncil$Council" "voters" "[I", Cond.methodLink RX0 44 yX0_agreesTo, Cond.instanceMethod yX0_agreesTo, Cond.selects RX0 yX0_agreesTo yX0_agreesTo, Cond.code yX0_agreesTo cX0_agreesTo 3 (some .boolean), Cond.fieldLink RX0 15 "LoadCouncil$Council" "sets" "[I", Cond.instanceMethod yX0_placeOf, Cond.selects RX0 yX0_placeOf yX0_placeOf, Cond.code yX0_placeOf cX0_placeOf 4 (some .int)]
def wsX4_candidate_r2 : List Cond := [Cond.fieldLink RX0 21 "LoadCouncil$Council" "candidates" "I", Cond.fieldLink RX0 18 "LoadCouncil$Council" "rank" "[I", Cond.instanceMethod yX0_isWithdrawn, Cond.selects RX0 yX0_isWithdrawn yX0_isWithdrawn, Cond.code yX0_isWithdrawn cX0_isWithdrawn 2 (some .boolean), Cond.fieldLink RX0 31 "LoadCouncil$Council" "withdrawn" "I", Cond.static yX4_hasBit, Cond.code yX4_hasBit cX4_hasBit 2 (some .boolean), Cond.methodLink RX4 139 yX4_lawsThatElect, Cond.instanceMethod yX4_lawsThatElect, Cond.selects RX4 yX4_lawsThatElect yX4_lawsThatElect, Cond.code yX4_lawsThatElect cX4_lawsThatElect 4 (some .int), Cond.fieldLink RX4 36 "LoadCouncil" "election" "LLoadCouncil$Election;", Cond.instanceMethod yX1_hold, Cond.initialized RX1, Cond.selects RX1 yX1_hold yX1_hold, Cond.code yX1_hold cX1_hold 5 (some .int), Cond.fieldLink RX1 45 "LoadCouncil$Election" "set" "I", Cond.methodLink RX1 31 yX1_begin, Cond.instanceMethod yX1_begin, Cond.selects RX1 yX1_begin yX1_begin, Cond.code yX1_begin cX1_begin 3 none, Cond.fieldLink RX1 52 "LoadCouncil$Election" "elected" "I", Cond.fieldLink RX1 55 "LoadCouncil$Election" "unit" "J"]
def wsX4_candidate_r3 : List Cond := [Cond.fieldLink RX1 28 "LoadCouncil$Election" "loads" "[J", Cond.fieldLink RX1 22 "LoadCouncil$Election" "support" "[I", Cond.methodLink RX1 41 yX1_nextMember, Cond.instanceMethod yX1_nextMember, Cond.selects RX1 yX1_nextMember yX1_nextMember, Cond.code yX1_nextMember cX1_nextMember 6 (some .int), Cond.fieldLink RX1 25 "LoadCouncil$Election" "worth" "[J", Cond.methodLink RX1 76 yX1_worthOf, Cond.instanceMethod yX1_worthOf, Cond.selects RX1 yX1_worthOf yX1_worthOf, Cond.code yX1_worthOf cX1_worthOf 7 (some .long), Cond.methodLink RX1 93 yX1_weightOf, Cond.instanceMethod yX1_weightOf, Cond.selects RX1 yX1_weightOf yX1_weightOf, Cond.code yX1_weightOf cX1_weightOf 3 (some .long), Cond.methodLink RX1 97 yJ6_bitCount_0f7a4, Cond.static yJ6_bitCount_0f7a4, Cond.initialized RJ6, Cond.code yJ6_bitCount_0f7a4 cJ6_bitCount_0f7a4 1 (some .int), Cond.constant RJ6 265 (1431655765), Cond.constant RJ6 266 (858993459), Cond.constant RJ6 267 (252645135), Cond.methodLink RX1 80 yX1_isAhead, Cond.instanceMethod yX1_isAhead]
def wsX4_candidate_r4 : List Cond := [Cond.selects RX1 yX1_isAhead yX1_isAhead, Cond.code yX1_isAhead cX1_isAhead 4 (some .boolean), Cond.methodLink RX1 48 yX1_elect, Cond.instanceMethod yX1_elect, Cond.selects RX1 yX1_elect yX1_elect, Cond.code yX1_elect cX1_elect 4 none, Cond.fieldLink RX1 9 "LoadCouncil$Election" "order" "[I", Cond.fieldLink RX1 15 "LoadCouncil$Election" "above" "[J", Cond.fieldLink RX1 19 "LoadCouncil$Election" "below" "[J", Cond.constantLong RX1 102 (840), Cond.methodLink RX1 104 yX1_spreadLoad, Cond.instanceMethod yX1_spreadLoad, Cond.selects RX1 yX1_spreadLoad yX1_spreadLoad, Cond.code yX1_spreadLoad cX1_spreadLoad 4 none, Cond.methodLink RX4 199 yX4_hasBit]
def wsX4_candidate : List Cond := .code yX4_candidate cX4_candidate 3 (some .int) :: ((wsX4_candidate_r1 ++ (wsX4_candidate_r2 ++ (wsX4_candidate_r3 ++ wsX4_candidate_r4))) ++ wsX40 ++ wsX00 ++ wsX10)
def wsX4_vote_r1 : List Cond := [Cond.fieldLink RX4 19 "LoadCouncil" "now" "LLoadCouncil$Council;", Cond.fieldLink RX4 36 "LoadCouncil" "election" "LLoadCouncil$Election;", Cond.methodLink RX4 95 yX4_isBallot, Cond.instanceMethod yX4_isBallot, Cond.selects RX4 yX4_isBallot yX4_isBallot, Cond.initialized RX4, Cond.code yX4_isBallot cX4_isBallot 2 (some .boolean), Cond.instanceMethod yX1_hold, Cond.initialized RX1, Cond.selects RX1 yX1_hold yX1_hold, Cond.code yX1_hold cX1_hold 5 (some .int), Cond.fieldLink RX1 45 "LoadCouncil$Election" "set" "I", Cond.methodLink RX1 31 yX1_begin, Cond.instanceMethod yX1_begin, Cond.selects RX1 yX1_begin yX1_begin, Cond.code yX1_begin cX1_begin 3 none, Cond.fieldLink RX1 52 "LoadCouncil$Election" "elected" "I", Cond.fieldLink RX1 55 "LoadCouncil$Election" "unit" "J", Cond.fieldLink RX1 28 "LoadCouncil$Election" "loads" "[J", Cond.fieldLink RX1 22 "LoadCouncil$Election" "support" "[I", Cond.instanceMethod yX0_supportOf, Cond.initialized RX0, Cond.selects RX0 yX0_supportOf yX0_supportOf, Cond.code yX0_supportOf cX0_supportOf 2 (some .int)]
def wsX4_vote_r2 : List Cond := [Cond.methodLink RX0 40 yX0_votersWhoAgree, Cond.instanceMethod yX0_votersWhoAgree, Cond.selects RX0 yX0_votersWhoAgree yX0_votersWhoAgree, Cond.code yX0_votersWhoAgree cX0_votersWhoAgree 4 (some .int), Cond.fieldLink RX0 25 "LoadCouncil$Council" "ballots" "I", Cond.fieldLink RX0 9 "LoadCouncil$Council" "voters" "[I", Cond.methodLink RX0 44 yX0_agreesTo, Cond.instanceMethod yX0_agreesTo, Cond.selects RX0 yX0_agreesTo yX0_agreesTo, Cond.code yX0_agreesTo cX0_agreesTo 3 (some .boolean), Cond.fieldLink RX0 15 "LoadCouncil$Council" "sets" "[I", Cond.methodLink RX1 41 yX1_nextMember, Cond.instanceMethod yX1_nextMember, Cond.selects RX1 yX1_nextMember yX1_nextMember, Cond.code yX1_nextMember cX1_nextMember 6 (some .int), Cond.fieldLink RX1 25 "LoadCouncil$Election" "worth" "[J", Cond.static yX4_hasBit, Cond.code yX4_hasBit cX4_hasBit 2 (some .boolean), Cond.methodLink RX1 76 yX1_worthOf, Cond.instanceMethod yX1_worthOf, Cond.selects RX1 yX1_worthOf yX1_worthOf, Cond.code yX1_worthOf cX1_worthOf 7 (some .long), Cond.methodLink RX1 93 yX1_weightOf, Cond.instanceMethod yX1_weightOf]
def wsX4_vote_r3 : List Cond := [Cond.selects RX1 yX1_weightOf yX1_weightOf, Cond.code yX1_weightOf cX1_weightOf 3 (some .long), Cond.methodLink RX1 97 yJ6_bitCount_0f7a4, Cond.static yJ6_bitCount_0f7a4, Cond.initialized RJ6, Cond.code yJ6_bitCount_0f7a4 cJ6_bitCount_0f7a4 1 (some .int), Cond.constant RJ6 265 (1431655765), Cond.constant RJ6 266 (858993459), Cond.constant RJ6 267 (252645135), Cond.methodLink RX1 80 yX1_isAhead, Cond.instanceMethod yX1_isAhead, Cond.selects RX1 yX1_isAhead yX1_isAhead, Cond.code yX1_isAhead cX1_isAhead 4 (some .boolean), Cond.methodLink RX1 48 yX1_elect, Cond.instanceMethod yX1_elect, Cond.selects RX1 yX1_elect yX1_elect, Cond.code yX1_elect cX1_elect 4 none, Cond.fieldLink RX1 9 "LoadCouncil$Election" "order" "[I", Cond.fieldLink RX1 15 "LoadCouncil$Election" "above" "[J", Cond.fieldLink RX1 19 "LoadCouncil$Election" "below" "[J", Cond.constantLong RX1 102 (840), Cond.methodLink RX1 104 yX1_spreadLoad, Cond.instanceMethod yX1_spreadLoad, Cond.selects RX1 yX1_spreadLoad yX1_spreadLoad]
def wsX4_vote_r4 : List Cond := [Cond.code yX1_spreadLoad cX1_spreadLoad 4 none, Cond.methodLink RX4 117 yJ6_bitCount_0f7a4]
def wsX4_vote : List Cond := .code yX4_vote cX4_vote 3 (some .int) :: ((wsX4_vote_r1 ++ (wsX4_vote_r2 ++ (wsX4_vote_r3 ++ wsX4_vote_r4))) ++ wsX40 ++ wsX00 ++ wsX10)
def wsX4_isLaw : List Cond := .code yX4_isLaw cX4_isLaw 1 (some .boolean) :: ([])
def wsX4_member_r1 : List Cond := [Cond.fieldLink RX4 36 "LoadCouncil" "election" "LLoadCouncil$Election;", Cond.fieldLink RX4 19 "LoadCouncil" "now" "LLoadCouncil$Council;", Cond.methodLink RX4 146 yX4_isLaw, Cond.static yX4_isLaw, Cond.initialized RX4, Cond.code yX4_isLaw cX4_isLaw 1 (some .boolean), Cond.instanceMethod yX1_hold, Cond.initialized RX1, Cond.selects RX1 yX1_hold yX1_hold, Cond.code yX1_hold cX1_hold 5 (some .int), Cond.fieldLink RX1 45 "LoadCouncil$Election" "set" "I", Cond.methodLink RX1 31 yX1_begin, Cond.instanceMethod yX1_begin, Cond.selects RX1 yX1_begin yX1_begin, Cond.code yX1_begin cX1_begin 3 none, Cond.fieldLink RX1 52 "LoadCouncil$Election" "elected" "I", Cond.fieldLink RX1 55 "LoadCouncil$Election" "unit" "J", Cond.fieldLink RX1 28 "LoadCouncil$Election" "loads" "[J", Cond.fieldLink RX1 22 "LoadCouncil$Election" "support" "[I", Cond.instanceMethod yX0_supportOf, Cond.initialized RX0, Cond.selects RX0 yX0_supportOf yX0_supportOf, Cond.code yX0_supportOf cX0_supportOf 2 (some .int), Cond.methodLink RX0 40 yX0_votersWhoAgree]
def wsX4_member_r2 : List Cond := [Cond.instanceMethod yX0_votersWhoAgree, Cond.selects RX0 yX0_votersWhoAgree yX0_votersWhoAgree, Cond.code yX0_votersWhoAgree cX0_votersWhoAgree 4 (some .int), Cond.fieldLink RX0 25 "LoadCouncil$Council" "ballots" "I", Cond.fieldLink RX0 9 "LoadCouncil$Council" "voters" "[I", Cond.methodLink RX0 44 yX0_agreesTo, Cond.instanceMethod yX0_agreesTo, Cond.selects RX0 yX0_agreesTo yX0_agreesTo, Cond.code yX0_agreesTo cX0_agreesTo 3 (some .boolean), Cond.fieldLink RX0 15 "LoadCouncil$Council" "sets" "[I", Cond.methodLink RX1 41 yX1_nextMember, Cond.instanceMethod yX1_nextMember, Cond.selects RX1 yX1_nextMember yX1_nextMember, Cond.code yX1_nextMember cX1_nextMember 6 (some .int), Cond.fieldLink RX1 25 "LoadCouncil$Election" "worth" "[J", Cond.static yX4_hasBit, Cond.code yX4_hasBit cX4_hasBit 2 (some .boolean), Cond.methodLink RX1 76 yX1_worthOf, Cond.instanceMethod yX1_worthOf, Cond.selects RX1 yX1_worthOf yX1_worthOf, Cond.code yX1_worthOf cX1_worthOf 7 (some .long), Cond.methodLink RX1 93 yX1_weightOf, Cond.instanceMethod yX1_weightOf, Cond.selects RX1 yX1_weightOf yX1_weightOf]
def wsX4_member_r3 : List Cond := [Cond.code yX1_weightOf cX1_weightOf 3 (some .long), Cond.methodLink RX1 97 yJ6_bitCount_0f7a4, Cond.static yJ6_bitCount_0f7a4, Cond.initialized RJ6, Cond.code yJ6_bitCount_0f7a4 cJ6_bitCount_0f7a4 1 (some .int), Cond.constant RJ6 265 (1431655765), Cond.constant RJ6 266 (858993459), Cond.constant RJ6 267 (252645135), Cond.methodLink RX1 80 yX1_isAhead, Cond.instanceMethod yX1_isAhead, Cond.selects RX1 yX1_isAhead yX1_isAhead, Cond.code yX1_isAhead cX1_isAhead 4 (some .boolean), Cond.methodLink RX1 48 yX1_elect, Cond.instanceMethod yX1_elect, Cond.selects RX1 yX1_elect yX1_elect, Cond.code yX1_elect cX1_elect 4 none, Cond.fieldLink RX1 9 "LoadCouncil$Election" "order" "[I", Cond.fieldLink RX1 15 "LoadCouncil$Election" "above" "[J", Cond.fieldLink RX1 19 "LoadCouncil$Election" "below" "[J", Cond.constantLong RX1 102 (840), Cond.methodLink RX1 104 yX1_spreadLoad, Cond.instanceMethod yX1_spreadLoad, Cond.selects RX1 yX1_spreadLoad yX1_spreadLoad, Cond.code yX1_spreadLoad cX1_spreadLoad 4 none]
def wsX4_member : List Cond := .code yX4_member cX4_member 3 (some .int) :: ((wsX4_member_r1 ++ (wsX4_member_r2 ++ wsX4_member_r3)) ++ wsX40 ++ wsX10 ++ wsX00)
def wsX4_members_r1 : List Cond := [Cond.fieldLink RX4 36 "LoadCouncil" "election" "LLoadCouncil$Election;", Cond.fieldLink RX4 19 "LoadCouncil" "now" "LLoadCouncil$Council;", Cond.methodLink RX4 146 yX4_isLaw, Cond.static yX4_isLaw, Cond.initialized RX4, Cond.code yX4_isLaw cX4_isLaw 1 (some .boolean), Cond.instanceMethod yX1_hold, Cond.initialized RX1, Cond.selects RX1 yX1_hold yX1_hold, Cond.code yX1_hold cX1_hold 5 (some .int), Cond.fieldLink RX1 45 "LoadCouncil$Election" "set" "I", Cond.methodLink RX1 31 yX1_begin, Cond.instanceMethod yX1_begin, Cond.selects RX1 yX1_begin yX1_begin, Cond.code yX1_begin cX1_begin 3 none, Cond.fieldLink RX1 52 "LoadCouncil$Election" "elected" "I", Cond.fieldLink RX1 55 "LoadCouncil$Election" "unit" "J", Cond.fieldLink RX1 28 "LoadCouncil$Election" "loads" "[J", Cond.fieldLink RX1 22 "LoadCouncil$Election" "support" "[I", Cond.instanceMethod yX0_supportOf, Cond.initialized RX0, Cond.selects RX0 yX0_supportOf yX0_supportOf, Cond.code yX0_supportOf cX0_supportOf 2 (some .int), Cond.methodLink RX0 40 yX0_votersWhoAgree]
def wsX4_members_r2 : List Cond := [Cond.instanceMethod yX0_votersWhoAgree, Cond.selects RX0 yX0_votersWhoAgree yX0_votersWhoAgree, Cond.code yX0_votersWhoAgree cX0_votersWhoAgree 4 (some .int), Cond.fieldLink RX0 25 "LoadCouncil$Council" "ballots" "I", Cond.fieldLink RX0 9 "LoadCouncil$Council" "voters" "[I", Cond.methodLink RX0 44 yX0_agreesTo, Cond.instanceMethod yX0_agreesTo, Cond.selects RX0 yX0_agreesTo yX0_agreesTo, Cond.code yX0_agreesTo cX0_agreesTo 3 (some .boolean), Cond.fieldLink RX0 15 "LoadCouncil$Council" "sets" "[I", Cond.methodLink RX1 41 yX1_nextMember, Cond.instanceMethod yX1_nextMember, Cond.selects RX1 yX1_nextMember yX1_nextMember, Cond.code yX1_nextMember cX1_nextMember 6 (some .int), Cond.fieldLink RX1 25 "LoadCouncil$Election" "worth" "[J", Cond.static yX4_hasBit, Cond.code yX4_hasBit cX4_hasBit 2 (some .boolean), Cond.methodLink RX1 76 yX1_worthOf, Cond.instanceMethod yX1_worthOf, Cond.selects RX1 yX1_worthOf yX1_worthOf, Cond.code yX1_worthOf cX1_worthOf 7 (some .long), Cond.methodLink RX1 93 yX1_weightOf, Cond.instanceMethod yX1_weightOf, Cond.selects RX1 yX1_weightOf yX1_weightOf]
def wsX4_members_r3 : List Cond := [Cond.code yX1_weightOf cX1_weightOf 3 (some .long), Cond.methodLink RX1 97 yJ6_bitCount_0f7a4, Cond.static yJ6_bitCount_0f7a4, Cond.initialized RJ6, Cond.code yJ6_bitCount_0f7a4 cJ6_bitCount_0f7a4 1 (some .int), Cond.constant RJ6 265 (1431655765), Cond.constant RJ6 266 (858993459), Cond.constant RJ6 267 (252645135), Cond.methodLink RX1 80 yX1_isAhead, Cond.instanceMethod yX1_isAhead, Cond.selects RX1 yX1_isAhead yX1_isAhead, Cond.code yX1_isAhead cX1_isAhead 4 (some .boolean), Cond.methodLink RX1 48 yX1_elect, Cond.instanceMethod yX1_elect, Cond.selects RX1 yX1_elect yX1_elect, Cond.code yX1_elect cX1_elect 4 none, Cond.fieldLink RX1 9 "LoadCouncil$Election" "order" "[I", Cond.fieldLink RX1 15 "LoadCouncil$Election" "above" "[J", Cond.fieldLink RX1 19 "LoadCouncil$Election" "below" "[J", Cond.constantLong RX1 102 (840), Cond.methodLink RX1 104 yX1_spreadLoad, Cond.instanceMethod yX1_spreadLoad, Cond.selects RX1 yX1_spreadLoad yX1_spreadLoad, Cond.code yX1_spreadLoad cX1_spreadLoad 4 none]
def wsX4_members : List Cond := .code yX4_members cX4_members 2 (some .int) :: ((wsX4_members_r1 ++ (wsX4_members_r2 ++ wsX4_members_r3)) ++ wsX40 ++ wsX00 ++ wsX10)
def wsX4_isPart : List Cond := .code yX4_isPart cX4_isPart 1 (some .boolean) :: ([])
def wsX4_greatestDivisor : List Cond := .code yX4_greatestDivisor cX4_greatestDivisor 11 (some .long) :: ([])
def wsX4_partOf : List Cond := .code yX4_partOf cX4_partOf 7 (some .long) :: ([.methodLink RX4 180 Lib.MathLoose.max_long.x, .static Lib.MathLoose.max_long.x, .initialized "java/lang/Math", .code Lib.MathLoose.max_long.x Lib.MathLoose.max_long.code 4 (some .long), .methodLink RX4 205 yX4_greatestDivisor, .static yX4_greatestDivisor, .initialized RX4, .code yX4_greatestDivisor cX4_greatestDivisor 11 (some .long)])
def wsX4_came_r1 : List Cond := [Cond.constantLong RX4 158 (-1), Cond.fieldLink RX4 36 "LoadCouncil" "election" "LLoadCouncil$Election;", Cond.fieldLink RX4 19 "LoadCouncil" "now" "LLoadCouncil$Council;", Cond.constantLong RX4 164 (-4), Cond.methodLink RX4 146 yX4_isLaw, Cond.static yX4_isLaw, Cond.initialized RX4, Cond.code yX4_isLaw cX4_isLaw 1 (some .boolean), Cond.methodLink RX4 155 yX4_isPart, Cond.static yX4_isPart, Cond.code yX4_isPart cX4_isPart 1 (some .boolean), Cond.instanceMethod yX1_hold, Cond.initialized RX1, Cond.selects RX1 yX1_hold yX1_hold, Cond.code yX1_hold cX1_hold 5 (some .int), Cond.fieldLink RX1 45 "LoadCouncil$Election" "set" "I", Cond.methodLink RX1 31 yX1_begin, Cond.instanceMethod yX1_begin, Cond.selects RX1 yX1_begin yX1_begin, Cond.code yX1_begin cX1_begin 3 none, Cond.fieldLink RX1 52 "LoadCouncil$Election" "elected" "I", Cond.fieldLink RX1 55 "LoadCouncil$Election" "unit" "J", Cond.fieldLink RX1 28 "LoadCouncil$Election" "loads" "[J", Cond.fieldLink RX1 22 "LoadCouncil$Election" "support" "[I"]
def wsX4_came_r2 : List Cond := [Cond.instanceMethod yX0_supportOf, Cond.initialized RX0, Cond.selects RX0 yX0_supportOf yX0_supportOf, Cond.code yX0_supportOf cX0_supportOf 2 (some .int), Cond.methodLink RX0 40 yX0_votersWhoAgree, Cond.instanceMethod yX0_votersWhoAgree, Cond.selects RX0 yX0_votersWhoAgree yX0_votersWhoAgree, Cond.code yX0_votersWhoAgree cX0_votersWhoAgree 4 (some .int), Cond.fieldLink RX0 25 "LoadCouncil$Council" "ballots" "I", Cond.fieldLink RX0 9 "LoadCouncil$Council" "voters" "[I", Cond.methodLink RX0 44 yX0_agreesTo, Cond.instanceMethod yX0_agreesTo, Cond.selects RX0 yX0_agreesTo yX0_agreesTo, Cond.code yX0_agreesTo cX0_agreesTo 3 (some .boolean), Cond.fieldLink RX0 15 "LoadCouncil$Council" "sets" "[I", Cond.methodLink RX1 41 yX1_nextMember, Cond.instanceMethod yX1_nextMember, Cond.selects RX1 yX1_nextMember yX1_nextMember, Cond.code yX1_nextMember cX1_nextMember 6 (some .int), Cond.fieldLink RX1 25 "LoadCouncil$Election" "worth" "[J", Cond.static yX4_hasBit, Cond.code yX4_hasBit cX4_hasBit 2 (some .boolean), Cond.methodLink RX1 76 yX1_worthOf, Cond.instanceMethod yX1_worthOf]
def wsX4_came_r3 : List Cond := [Cond.selects RX1 yX1_worthOf yX1_worthOf, Cond.code yX1_worthOf cX1_worthOf 7 (some .long), Cond.methodLink RX1 93 yX1_weightOf, Cond.instanceMethod yX1_weightOf, Cond.selects RX1 yX1_weightOf yX1_weightOf, Cond.code yX1_weightOf cX1_weightOf 3 (some .long), Cond.methodLink RX1 97 yJ6_bitCount_0f7a4, Cond.static yJ6_bitCount_0f7a4, Cond.initialized RJ6, Cond.code yJ6_bitCount_0f7a4 cJ6_bitCount_0f7a4 1 (some .int), Cond.constant RJ6 265 (1431655765), Cond.constant RJ6 266 (858993459), Cond.constant RJ6 267 (252645135), Cond.methodLink RX1 80 yX1_isAhead, Cond.instanceMethod yX1_isAhead, Cond.selects RX1 yX1_isAhead yX1_isAhead, Cond.code yX1_isAhead cX1_isAhead 4 (some .boolean), Cond.methodLink RX1 48 yX1_elect, Cond.instanceMethod yX1_elect, Cond.selects RX1 yX1_elect yX1_elect, Cond.code yX1_elect cX1_elect 4 none, Cond.fieldLink RX1 9 "LoadCouncil$Election" "order" "[I", Cond.fieldLink RX1 15 "LoadCouncil$Election" "above" "[J", Cond.fieldLink RX1 19 "LoadCouncil$Election" "below" "[J"]
def wsX4_came_r4 : List Cond := [Cond.constantLong RX1 102 (840), Cond.methodLink RX1 104 yX1_spreadLoad, Cond.instanceMethod yX1_spreadLoad, Cond.selects RX1 yX1_spreadLoad yX1_spreadLoad, Cond.code yX1_spreadLoad cX1_spreadLoad 4 none, Cond.methodLink RX4 169 yX4_partOf, Cond.static yX4_partOf, Cond.code yX4_partOf cX4_partOf 7 (some .long), Cond.methodLink RX4 180 Lib.MathLoose.max_long.x, Cond.static Lib.MathLoose.max_long.x, Cond.initialized "java/lang/Math", Cond.code Lib.MathLoose.max_long.x Lib.MathLoose.max_long.code 4 (some .long), Cond.methodLink RX4 205 yX4_greatestDivisor, Cond.static yX4_greatestDivisor, Cond.code yX4_greatestDivisor cX4_greatestDivisor 11 (some .long)]
def wsX4_came : List Cond := .code yX4_came cX4_came 4 (some .long) :: ((wsX4_came_r1 ++ (wsX4_came_r2 ++ (wsX4_came_r3 ++ wsX4_came_r4))) ++ wsX40 ++ wsX10 ++ wsX00)
def wsX4_load_r1 : List Cond := [Cond.constantLong RX4 158 (-1), Cond.fieldLink RX4 36 "LoadCouncil" "election" "LLoadCouncil$Election;", Cond.fieldLink RX4 19 "LoadCouncil" "now" "LLoadCouncil$Council;", Cond.methodLink RX4 95 yX4_isBallot, Cond.instanceMethod yX4_isBallot, Cond.selects RX4 yX4_isBallot yX4_isBallot, Cond.initialized RX4, Cond.code yX4_isBallot cX4_isBallot 2 (some .boolean), Cond.methodLink RX4 155 yX4_isPart, Cond.static yX4_isPart, Cond.code yX4_isPart cX4_isPart 1 (some .boolean), Cond.instanceMethod yX1_hold, Cond.initialized RX1, Cond.selects RX1 yX1_hold yX1_hold, Cond.code yX1_hold cX1_hold 5 (some .int), Cond.fieldLink RX1 45 "LoadCouncil$Election" "set" "I", Cond.methodLink RX1 31 yX1_begin, Cond.instanceMethod yX1_begin, Cond.selects RX1 yX1_begin yX1_begin, Cond.code yX1_begin cX1_begin 3 none, Cond.fieldLink RX1 52 "LoadCouncil$Election" "elected" "I", Cond.fieldLink RX1 55 "LoadCouncil$Election" "unit" "J", Cond.fieldLink RX1 28 "LoadCouncil$Election" "loads" "[J", Cond.fieldLink RX1 22 "LoadCouncil$Election" "support" "[I"]
def wsX4_load_r2 : List Cond := [Cond.instanceMethod yX0_supportOf, Cond.initialized RX0, Cond.selects RX0 yX0_supportOf yX0_supportOf, Cond.code yX0_supportOf cX0_supportOf 2 (some .int), Cond.methodLink RX0 40 yX0_votersWhoAgree, Cond.instanceMethod yX0_votersWhoAgree, Cond.selects RX0 yX0_votersWhoAgree yX0_votersWhoAgree, Cond.code yX0_votersWhoAgree cX0_votersWhoAgree 4 (some .int), Cond.fieldLink RX0 25 "LoadCouncil$Council" "ballots" "I", Cond.fieldLink RX0 9 "LoadCouncil$Council" "voters" "[I", Cond.methodLink RX0 44 yX0_agreesTo, Cond.instanceMethod yX0_agreesTo, Cond.selects RX0 yX0_agreesTo yX0_agreesTo, Cond.code yX0_agreesTo cX0_agreesTo 3 (some .boolean), Cond.fieldLink RX0 15 "LoadCouncil$Council" "sets" "[I", Cond.methodLink RX1 41 yX1_nextMember, Cond.instanceMethod yX1_nextMember, Cond.selects RX1 yX1_nextMember yX1_nextMember, Cond.code yX1_nextMember cX1_nextMember 6 (some .int), Cond.fieldLink RX1 25 "LoadCouncil$Election" "worth" "[J", Cond.static yX4_hasBit, Cond.code yX4_hasBit cX4_hasBit 2 (some .boolean), Cond.methodLink RX1 76 yX1_worthOf, Cond.instanceMethod yX1_worthOf]
def wsX4_load_r3 : List Cond := [Cond.selects RX1 yX1_worthOf yX1_worthOf, Cond.code yX1_worthOf cX1_worthOf 7 (some .long), Cond.methodLink RX1 93 yX1_weightOf, Cond.instanceMethod yX1_weightOf, Cond.selects RX1 yX1_weightOf yX1_weightOf, Cond.code yX1_weightOf cX1_weightOf 3 (some .long), Cond.methodLink RX1 97 yJ6_bitCount_0f7a4, Cond.static yJ6_bitCount_0f7a4, Cond.initialized RJ6, Cond.code yJ6_bitCount_0f7a4 cJ6_bitCount_0f7a4 1 (some .int), Cond.constant RJ6 265 (1431655765), Cond.constant RJ6 266 (858993459), Cond.constant RJ6 267 (252645135), Cond.methodLink RX1 80 yX1_isAhead, Cond.instanceMethod yX1_isAhead, Cond.selects RX1 yX1_isAhead yX1_isAhead, Cond.code yX1_isAhead cX1_isAhead 4 (some .boolean), Cond.methodLink RX1 48 yX1_elect, Cond.instanceMethod yX1_elect, Cond.selects RX1 yX1_elect yX1_elect, Cond.code yX1_elect cX1_elect 4 none, Cond.fieldLink RX1 9 "LoadCouncil$Election" "order" "[I", Cond.fieldLink RX1 15 "LoadCouncil$Election" "above" "[J", Cond.fieldLink RX1 19 "LoadCouncil$Election" "below" "[J"]
def wsX4_load_r4 : List Cond := [Cond.constantLong RX1 102 (840), Cond.methodLink RX1 104 yX1_spreadLoad, Cond.instanceMethod yX1_spreadLoad, Cond.selects RX1 yX1_spreadLoad yX1_spreadLoad, Cond.code yX1_spreadLoad cX1_spreadLoad 4 none, Cond.methodLink RX4 169 yX4_partOf, Cond.static yX4_partOf, Cond.code yX4_partOf cX4_partOf 7 (some .long), Cond.methodLink RX4 180 Lib.MathLoose.max_long.x, Cond.static Lib.MathLoose.max_long.x, Cond.initialized "java/lang/Math", Cond.code Lib.MathLoose.max_long.x Lib.MathLoose.max_long.code 4 (some .long), Cond.methodLink RX4 205 yX4_greatestDivisor, Cond.static yX4_greatestDivisor, Cond.code yX4_greatestDivisor cX4_greatestDivisor 11 (some .long)]
def wsX4_load : List Cond := .code yX4_load cX4_load 3 (some .long) :: ((wsX4_load_r1 ++ (wsX4_load_r2 ++ (wsX4_load_r3 ++ wsX4_load_r4))) ++ wsX40 ++ wsX10 ++ wsX00)
def wsX4_greatest_r1 : List Cond := [Cond.constantLong RX4 158 (-1), Cond.fieldLink RX4 36 "LoadCouncil" "election" "LLoadCouncil$Election;", Cond.fieldLink RX4 19 "LoadCouncil" "now" "LLoadCouncil$Council;", Cond.methodLink RX4 180 Lib.MathLoose.max_long.x, Cond.static Lib.MathLoose.max_long.x, Cond.initialized "java/lang/Math", Cond.code Lib.MathLoose.max_long.x Lib.MathLoose.max_long.code 4 (some .long), Cond.methodLink RX4 155 yX4_isPart, Cond.static yX4_isPart, Cond.initialized RX4, Cond.code yX4_isPart cX4_isPart 1 (some .boolean), Cond.instanceMethod yX1_hold, Cond.initialized RX1, Cond.selects RX1 yX1_hold yX1_hold, Cond.code yX1_hold cX1_hold 5 (some .int), Cond.fieldLink RX1 45 "LoadCouncil$Election" "set" "I", Cond.methodLink RX1 31 yX1_begin, Cond.instanceMethod yX1_begin, Cond.selects RX1 yX1_begin yX1_begin, Cond.code yX1_begin cX1_begin 3 none, Cond.fieldLink RX1 52 "LoadCouncil$Election" "elected" "I", Cond.fieldLink RX1 55 "LoadCouncil$Election" "unit" "J", Cond.fieldLink RX1 28 "LoadCouncil$Election" "loads" "[J", Cond.fieldLink RX1 22 "LoadCouncil$Election" "support" "[I"]
def wsX4_greatest_r2 : List Cond := [Cond.instanceMethod yX0_supportOf, Cond.initialized RX0, Cond.selects RX0 yX0_supportOf yX0_supportOf, Cond.code yX0_supportOf cX0_supportOf 2 (some .int), Cond.methodLink RX0 40 yX0_votersWhoAgree, Cond.instanceMethod yX0_votersWhoAgree, Cond.selects RX0 yX0_votersWhoAgree yX0_votersWhoAgree, Cond.code yX0_votersWhoAgree cX0_votersWhoAgree 4 (some .int), Cond.fieldLink RX0 25 "LoadCouncil$Council" "ballots" "I", Cond.fieldLink RX0 9 "LoadCouncil$Council" "voters" "[I", Cond.methodLink RX0 44 yX0_agreesTo, Cond.instanceMethod yX0_agreesTo, Cond.selects RX0 yX0_agreesTo yX0_agreesTo, Cond.code yX0_agreesTo cX0_agreesTo 3 (some .boolean), Cond.fieldLink RX0 15 "LoadCouncil$Council" "sets" "[I", Cond.methodLink RX1 41 yX1_nextMember, Cond.instanceMethod yX1_nextMember, Cond.selects RX1 yX1_nextMember yX1_nextMember, Cond.code yX1_nextMember cX1_nextMember 6 (some .int), Cond.fieldLink RX1 25 "LoadCouncil$Election" "worth" "[J", Cond.static yX4_hasBit, Cond.code yX4_hasBit cX4_hasBit 2 (some .boolean), Cond.methodLink RX1 76 yX1_worthOf, Cond.instanceMethod yX1_worthOf]
def wsX4_greatest_r3 : List Cond := [Cond.selects RX1 yX1_worthOf yX1_worthOf, Cond.code yX1_worthOf cX1_worthOf 7 (some .long), Cond.methodLink RX1 93 yX1_weightOf, Cond.instanceMethod yX1_weightOf, Cond.selects RX1 yX1_weightOf yX1_weightOf, Cond.code yX1_weightOf cX1_weightOf 3 (some .long), Cond.methodLink RX1 97 yJ6_bitCount_0f7a4, Cond.static yJ6_bitCount_0f7a4, Cond.initialized RJ6, Cond.code yJ6_bitCount_0f7a4 cJ6_bitCount_0f7a4 1 (some .int), Cond.constant RJ6 265 (1431655765), Cond.constant RJ6 266 (858993459), Cond.constant RJ6 267 (252645135), Cond.methodLink RX1 80 yX1_isAhead, Cond.instanceMethod yX1_isAhead, Cond.selects RX1 yX1_isAhead yX1_isAhead, Cond.code yX1_isAhead cX1_isAhead 4 (some .boolean), Cond.methodLink RX1 48 yX1_elect, Cond.instanceMethod yX1_elect, Cond.selects RX1 yX1_elect yX1_elect, Cond.code yX1_elect cX1_elect 4 none, Cond.fieldLink RX1 9 "LoadCouncil$Election" "order" "[I", Cond.fieldLink RX1 15 "LoadCouncil$Election" "above" "[J", Cond.fieldLink RX1 19 "LoadCouncil$Election" "below" "[J"]
def wsX4_greatest_r4 : List Cond := [Cond.constantLong RX1 102 (840), Cond.methodLink RX1 104 yX1_spreadLoad, Cond.instanceMethod yX1_spreadLoad, Cond.selects RX1 yX1_spreadLoad yX1_spreadLoad, Cond.code yX1_spreadLoad cX1_spreadLoad 4 none, Cond.methodLink RX4 169 yX4_partOf, Cond.static yX4_partOf, Cond.code yX4_partOf cX4_partOf 7 (some .long), Cond.methodLink RX4 205 yX4_greatestDivisor, Cond.static yX4_greatestDivisor, Cond.code yX4_greatestDivisor cX4_greatestDivisor 11 (some .long)]
def wsX4_greatest : List Cond := .code yX4_greatest cX4_greatest 5 (some .long) :: ((wsX4_greatest_r1 ++ (wsX4_greatest_r2 ++ (wsX4_greatest_r3 ++ wsX4_greatest_r4))) ++ wsX40 ++ wsX00 ++ wsX10)
def wsX4_agrees_r1 : List Cond := [Cond.fieldLink RX4 19 "LoadCouncil" "now" "LLoadCouncil$Council;", Cond.fieldLink RX4 36 "LoadCouncil" "election" "LLoadCouncil$Election;", Cond.methodLink RX4 79 yX4_isSet, Cond.instanceMethod yX4_isSet, Cond.selects RX4 yX4_isSet yX4_isSet, Cond.initialized RX4, Cond.code yX4_isSet cX4_isSet 2 (some .boolean), Cond.instanceMethod yX0_votersWhoAgree, Cond.initialized RX0, Cond.selects RX0 yX0_votersWhoAgree yX0_votersWhoAgree, Cond.code yX0_votersWhoAgree cX0_votersWhoAgree 4 (some .int), Cond.fieldLink RX0 25 "LoadCouncil$Council" "ballots" "I", Cond.fieldLink RX0 9 "LoadCouncil$Council" "voters" "[I", Cond.methodLink RX0 44 yX0_agreesTo, Cond.instanceMethod yX0_agreesTo, Cond.selects RX0 yX0_agreesTo yX0_agreesTo, Cond.code yX0_agreesTo cX0_agreesTo 3 (some .boolean), Cond.fieldLink RX0 15 "LoadCouncil$Council" "sets" "[I", Cond.instanceMethod yX0_isOwed, Cond.selects RX0 yX0_isOwed yX0_isOwed, Cond.code yX0_isOwed cX0_isOwed 3 (some .boolean), Cond.fieldLink RX0 28 "LoadCouncil$Council" "seats" "I", Cond.methodLink RX0 40 yX0_votersWhoAgree, Cond.methodLink RX0 48 yJ6_bitCount_0f7a4]
def wsX4_agrees_r2 : List Cond := [Cond.static yJ6_bitCount_0f7a4, Cond.initialized RJ6, Cond.code yJ6_bitCount_0f7a4 cJ6_bitCount_0f7a4 1 (some .int), Cond.constant RJ6 265 (1431655765), Cond.constant RJ6 266 (858993459), Cond.constant RJ6 267 (252645135), Cond.methodLink RX0 53 yX0_allVoters, Cond.instanceMethod yX0_allVoters, Cond.selects RX0 yX0_allVoters yX0_allVoters, Cond.code yX0_allVoters cX0_allVoters 1 (some .int), Cond.instanceMethod yX1_hold, Cond.initialized RX1, Cond.selects RX1 yX1_hold yX1_hold, Cond.code yX1_hold cX1_hold 5 (some .int), Cond.fieldLink RX1 45 "LoadCouncil$Election" "set" "I", Cond.methodLink RX1 31 yX1_begin, Cond.instanceMethod yX1_begin, Cond.selects RX1 yX1_begin yX1_begin, Cond.code yX1_begin cX1_begin 3 none, Cond.fieldLink RX1 52 "LoadCouncil$Election" "elected" "I", Cond.fieldLink RX1 55 "LoadCouncil$Election" "unit" "J", Cond.fieldLink RX1 28 "LoadCouncil$Election" "loads" "[J", Cond.fieldLink RX1 22 "LoadCouncil$Election" "support" "[I", Cond.instanceMethod yX0_supportOf]
def wsX4_agrees_r3 : List Cond := [Cond.selects RX0 yX0_supportOf yX0_supportOf, Cond.code yX0_supportOf cX0_supportOf 2 (some .int), Cond.methodLink RX1 41 yX1_nextMember, Cond.instanceMethod yX1_nextMember, Cond.selects RX1 yX1_nextMember yX1_nextMember, Cond.code yX1_nextMember cX1_nextMember 6 (some .int), Cond.fieldLink RX1 25 "LoadCouncil$Election" "worth" "[J", Cond.static yX4_hasBit, Cond.code yX4_hasBit cX4_hasBit 2 (some .boolean), Cond.methodLink RX1 76 yX1_worthOf, Cond.instanceMethod yX1_worthOf, Cond.selects RX1 yX1_worthOf yX1_worthOf, Cond.code yX1_worthOf cX1_worthOf 7 (some .long), Cond.methodLink RX1 93 yX1_weightOf, Cond.instanceMethod yX1_weightOf, Cond.selects RX1 yX1_weightOf yX1_weightOf, Cond.code yX1_weightOf cX1_weightOf 3 (some .long), Cond.methodLink RX1 97 yJ6_bitCount_0f7a4, Cond.methodLink RX1 80 yX1_isAhead, Cond.instanceMethod yX1_isAhead, Cond.selects RX1 yX1_isAhead yX1_isAhead, Cond.code yX1_isAhead cX1_isAhead 4 (some .boolean), Cond.methodLink RX1 48 yX1_elect, Cond.instanceMethod yX1_elect]
def wsX4_agrees_r4 : List Cond := [Cond.selects RX1 yX1_elect yX1_elect, Cond.code yX1_elect cX1_elect 4 none, Cond.fieldLink RX1 9 "LoadCouncil$Election" "order" "[I", Cond.fieldLink RX1 15 "LoadCouncil$Election" "above" "[J", Cond.fieldLink RX1 19 "LoadCouncil$Election" "below" "[J", Cond.constantLong RX1 102 (840), Cond.methodLink RX1 104 yX1_spreadLoad, Cond.instanceMethod yX1_spreadLoad, Cond.selects RX1 yX1_spreadLoad yX1_spreadLoad, Cond.code yX1_spreadLoad cX1_spreadLoad 4 none, Cond.instanceMethod yX0_approvedByThoseWhoAgree, Cond.selects RX0 yX0_approvedByThoseWhoAgree yX0_approvedByThoseWhoAgree, Cond.code yX0_approvedByThoseWhoAgree cX0_approvedByThoseWhoAgree 4 (some .int), Cond.methodLink RX4 117 yJ6_bitCount_0f7a4]
def wsX4_agrees : List Cond := .code yX4_agrees cX4_agrees 3 (some .int) :: ((wsX4_agrees_r1 ++ (wsX4_agrees_r2 ++ (wsX4_agrees_r3 ++ wsX4_agrees_r4))) ++ wsX40 ++ wsX00 ++ wsX10)
def wsX4_shorts_r1 : List Cond := [Cond.fieldLink RX4 36 "LoadCouncil" "election" "LLoadCouncil$Election;", Cond.fieldLink RX4 19 "LoadCouncil" "now" "LLoadCouncil$Council;", Cond.methodLink RX4 146 yX4_isLaw, Cond.static yX4_isLaw, Cond.initialized RX4, Cond.code yX4_isLaw cX4_isLaw 1 (some .boolean), Cond.instanceMethod yX1_hold, Cond.initialized RX1, Cond.selects RX1 yX1_hold yX1_hold, Cond.code yX1_hold cX1_hold 5 (some .int), Cond.fieldLink RX1 45 "LoadCouncil$Election" "set" "I", Cond.methodLink RX1 31 yX1_begin, Cond.instanceMethod yX1_begin, Cond.selects RX1 yX1_begin yX1_begin, Cond.code yX1_begin cX1_begin 3 none, Cond.fieldLink RX1 52 "LoadCouncil$Election" "elected" "I", Cond.fieldLink RX1 55 "LoadCouncil$Election" "unit" "J", Cond.fieldLink RX1 28 "LoadCouncil$Election" "loads" "[J", Cond.fieldLink RX1 22 "LoadCouncil$Election" "support" "[I", Cond.instanceMethod yX0_supportOf, Cond.initialized RX0, Cond.selects RX0 yX0_supportOf yX0_supportOf, Cond.code yX0_supportOf cX0_supportOf 2 (some .int), Cond.methodLink RX0 40 yX0_votersWhoAgree]
def wsX4_shorts_r2 : List Cond := [Cond.instanceMethod yX0_votersWhoAgree, Cond.selects RX0 yX0_votersWhoAgree yX0_votersWhoAgree, Cond.code yX0_votersWhoAgree cX0_votersWhoAgree 4 (some .int), Cond.fieldLink RX0 25 "LoadCouncil$Council" "ballots" "I", Cond.fieldLink RX0 9 "LoadCouncil$Council" "voters" "[I", Cond.methodLink RX0 44 yX0_agreesTo, Cond.instanceMethod yX0_agreesTo, Cond.selects RX0 yX0_agreesTo yX0_agreesTo, Cond.code yX0_agreesTo cX0_agreesTo 3 (some .boolean), Cond.fieldLink RX0 15 "LoadCouncil$Council" "sets" "[I", Cond.methodLink RX1 41 yX1_nextMember, Cond.instanceMethod yX1_nextMember, Cond.selects RX1 yX1_nextMember yX1_nextMember, Cond.code yX1_nextMember cX1_nextMember 6 (some .int), Cond.fieldLink RX1 25 "LoadCouncil$Election" "worth" "[J", Cond.static yX4_hasBit, Cond.code yX4_hasBit cX4_hasBit 2 (some .boolean), Cond.methodLink RX1 76 yX1_worthOf, Cond.instanceMethod yX1_worthOf, Cond.selects RX1 yX1_worthOf yX1_worthOf, Cond.code yX1_worthOf cX1_worthOf 7 (some .long), Cond.methodLink RX1 93 yX1_weightOf, Cond.instanceMethod yX1_weightOf, Cond.selects RX1 yX1_weightOf yX1_weightOf]
def wsX4_shorts_r3 : List Cond := [Cond.code yX1_weightOf cX1_weightOf 3 (some .long), Cond.methodLink RX1 97 yJ6_bitCount_0f7a4, Cond.static yJ6_bitCount_0f7a4, Cond.initialized RJ6, Cond.code yJ6_bitCount_0f7a4 cJ6_bitCount_0f7a4 1 (some .int), Cond.constant RJ6 265 (1431655765), Cond.constant RJ6 266 (858993459), Cond.constant RJ6 267 (252645135), Cond.methodLink RX1 80 yX1_isAhead, Cond.instanceMethod yX1_isAhead, Cond.selects RX1 yX1_isAhead yX1_isAhead, Cond.code yX1_isAhead cX1_isAhead 4 (some .boolean), Cond.methodLink RX1 48 yX1_elect, Cond.instanceMethod yX1_elect, Cond.selects RX1 yX1_elect yX1_elect, Cond.code yX1_elect cX1_elect 4 none, Cond.fieldLink RX1 9 "LoadCouncil$Election" "order" "[I", Cond.fieldLink RX1 15 "LoadCouncil$Election" "above" "[J", Cond.fieldLink RX1 19 "LoadCouncil$Election" "below" "[J", Cond.constantLong RX1 102 (840), Cond.methodLink RX1 104 yX1_spreadLoad, Cond.instanceMethod yX1_spreadLoad, Cond.selects RX1 yX1_spreadLoad yX1_spreadLoad, Cond.code yX1_spreadLoad cX1_spreadLoad 4 none]
def wsX4_shorts_r4 : List Cond := [Cond.instanceMethod yX0_isShort, Cond.selects RX0 yX0_isShort yX0_isShort, Cond.code yX0_isShort cX0_isShort 3 (some .boolean), Cond.methodLink RX0 57 yX0_isOwed, Cond.instanceMethod yX0_isOwed, Cond.selects RX0 yX0_isOwed yX0_isOwed, Cond.code yX0_isOwed cX0_isOwed 3 (some .boolean), Cond.fieldLink RX0 28 "LoadCouncil$Council" "seats" "I", Cond.methodLink RX0 48 yJ6_bitCount_0f7a4, Cond.methodLink RX0 53 yX0_allVoters, Cond.instanceMethod yX0_allVoters, Cond.selects RX0 yX0_allVoters yX0_allVoters, Cond.code yX0_allVoters cX0_allVoters 1 (some .int), Cond.methodLink RX0 61 yX0_approvedByThoseWhoAgree, Cond.instanceMethod yX0_approvedByThoseWhoAgree, Cond.selects RX0 yX0_approvedByThoseWhoAgree yX0_approvedByThoseWhoAgree, Cond.code yX0_approvedByThoseWhoAgree cX0_approvedByThoseWhoAgree 4 (some .int)]
def wsX4_shorts : List Cond := .code yX4_shorts cX4_shorts 6 (some .int) :: ((wsX4_shorts_r1 ++ (wsX4_shorts_r2 ++ (wsX4_shorts_r3 ++ wsX4_shorts_r4))) ++ wsX40 ++ wsX00 ++ wsX10)
def wsX4_joins_r1 : List Cond := [Cond.fieldLink RX4 19 "LoadCouncil" "now" "LLoadCouncil$Council;", Cond.fieldLink RX4 23 "LoadCouncil" "trial" "LLoadCouncil$Council;", Cond.fieldLink RX4 36 "LoadCouncil" "election" "LLoadCouncil$Election;", Cond.methodLink RX4 146 yX4_isLaw, Cond.static yX4_isLaw, Cond.initialized RX4, Cond.code yX4_isLaw cX4_isLaw 1 (some .boolean), Cond.methodLink RX4 108 yX4_isCandidate, Cond.instanceMethod yX4_isCandidate, Cond.selects RX4 yX4_isCandidate yX4_isCandidate, Cond.code yX4_isCandidate cX4_isCandidate 2 (some .boolean), Cond.instanceMethod yX0_isWithdrawn, Cond.initialized RX0, Cond.selects RX0 yX0_isWithdrawn yX0_isWithdrawn, Cond.code yX0_isWithdrawn cX0_isWithdrawn 2 (some .boolean), Cond.fieldLink RX0 31 "LoadCouncil$Council" "withdrawn" "I", Cond.static yX4_hasBit, Cond.code yX4_hasBit cX4_hasBit 2 (some .boolean), Cond.instanceMethod yX0_copyFrom, Cond.selects RX0 yX0_copyFrom yX0_copyFrom, Cond.code yX0_copyFrom cX0_copyFrom 2 none, Cond.fieldLink RX0 21 "LoadCouncil$Council" "candidates" "I", Cond.fieldLink RX0 25 "LoadCouncil$Council" "ballots" "I", Cond.fieldLink RX0 28 "LoadCouncil$Council" "seats" "I"]
def wsX4_joins_r2 : List Cond := [Cond.fieldLink RX0 9 "LoadCouncil$Council" "voters" "[I", Cond.methodLink RX0 34 arraycopyName, Cond.native arraycopyName, Cond.static arraycopyName, Cond.initialized "java/lang/System", Cond.fieldLink RX0 15 "LoadCouncil$Council" "sets" "[I", Cond.fieldLink RX0 18 "LoadCouncil$Council" "rank" "[I", Cond.instanceMethod yX0_addBallot, Cond.selects RX0 yX0_addBallot yX0_addBallot, Cond.code yX0_addBallot cX0_addBallot 3 none, Cond.instanceMethod yX1_hold, Cond.initialized RX1, Cond.selects RX1 yX1_hold yX1_hold, Cond.code yX1_hold cX1_hold 5 (some .int), Cond.fieldLink RX1 45 "LoadCouncil$Election" "set" "I", Cond.methodLink RX1 31 yX1_begin, Cond.instanceMethod yX1_begin, Cond.selects RX1 yX1_begin yX1_begin, Cond.code yX1_begin cX1_begin 3 none, Cond.fieldLink RX1 52 "LoadCouncil$Election" "elected" "I", Cond.fieldLink RX1 55 "LoadCouncil$Election" "unit" "J", Cond.fieldLink RX1 28 "LoadCouncil$Election" "loads" "[J", Cond.fieldLink RX1 22 "LoadCouncil$Election" "support" "[I", Cond.instanceMethod yX0_supportOf]
def wsX4_joins_r3 : List Cond := [Cond.selects RX0 yX0_supportOf yX0_supportOf, Cond.code yX0_supportOf cX0_supportOf 2 (some .int), Cond.methodLink RX0 40 yX0_votersWhoAgree, Cond.instanceMethod yX0_votersWhoAgree, Cond.selects RX0 yX0_votersWhoAgree yX0_votersWhoAgree, Cond.code yX0_votersWhoAgree cX0_votersWhoAgree 4 (some .int), Cond.methodLink RX0 44 yX0_agreesTo, Cond.instanceMethod yX0_agreesTo, Cond.selects RX0 yX0_agreesTo yX0_agreesTo, Cond.code yX0_agreesTo cX0_agreesTo 3 (some .boolean), Cond.methodLink RX1 41 yX1_nextMember, Cond.instanceMethod yX1_nextMember, Cond.selects RX1 yX1_nextMember yX1_nextMember, Cond.code yX1_nextMember cX1_nextMember 6 (some .int), Cond.fieldLink RX1 25 "LoadCouncil$Election" "worth" "[J", Cond.methodLink RX1 76 yX1_worthOf, Cond.instanceMethod yX1_worthOf, Cond.selects RX1 yX1_worthOf yX1_worthOf, Cond.code yX1_worthOf cX1_worthOf 7 (some .long), Cond.methodLink RX1 93 yX1_weightOf, Cond.instanceMethod yX1_weightOf, Cond.selects RX1 yX1_weightOf yX1_weightOf, Cond.code yX1_weightOf cX1_weightOf 3 (some .long), Cond.methodLink RX1 97 yJ6_bitCount_0f7a4]
def wsX4_joins_r4 : List Cond := [Cond.static yJ6_bitCount_0f7a4, Cond.initialized RJ6, Cond.code yJ6_bitCount_0f7a4 cJ6_bitCount_0f7a4 1 (some .int), Cond.constant RJ6 265 (1431655765), Cond.constant RJ6 266 (858993459), Cond.constant RJ6 267 (252645135), Cond.methodLink RX1 80 yX1_isAhead, Cond.instanceMethod yX1_isAhead, Cond.selects RX1 yX1_isAhead yX1_isAhead, Cond.code yX1_isAhead cX1_isAhead 4 (some .boolean), Cond.methodLink RX1 48 yX1_elect, Cond.instanceMethod yX1_elect, Cond.selects RX1 yX1_elect yX1_elect, Cond.code yX1_elect cX1_elect 4 none, Cond.fieldLink RX1 9 "LoadCouncil$Election" "order" "[I", Cond.fieldLink RX1 15 "LoadCouncil$Election" "above" "[J", Cond.fieldLink RX1 19 "LoadCouncil$Election" "below" "[J", Cond.constantLong RX1 102 (840), Cond.methodLink RX1 104 yX1_spreadLoad, Cond.instanceMethod yX1_spreadLoad, Cond.selects RX1 yX1_spreadLoad yX1_spreadLoad, Cond.code yX1_spreadLoad cX1_spreadLoad 4 none, Cond.methodLink RX4 199 yX4_hasBit]
def wsX4_joins : List Cond := .code yX4_joins cX4_joins 4 (some .int) :: ((wsX4_joins_r1 ++ (wsX4_joins_r2 ++ (wsX4_joins_r3 ++ wsX4_joins_r4))) ++ wsX40 ++ wsX00 ++ wsX10)
def wsX4_matters_r1 : List Cond := [Cond.fieldLink RX4 36 "LoadCouncil" "election" "LLoadCouncil$Election;", Cond.fieldLink RX4 19 "LoadCouncil" "now" "LLoadCouncil$Council;", Cond.fieldLink RX4 23 "LoadCouncil" "trial" "LLoadCouncil$Council;", Cond.methodLink RX4 146 yX4_isLaw, Cond.static yX4_isLaw, Cond.initialized RX4, Cond.code yX4_isLaw cX4_isLaw 1 (some .boolean), Cond.instanceMethod yX1_hold, Cond.initialized RX1, Cond.selects RX1 yX1_hold yX1_hold, Cond.code yX1_hold cX1_hold 5 (some .int), Cond.fieldLink RX1 45 "LoadCouncil$Election" "set" "I", Cond.methodLink RX1 31 yX1_begin, Cond.instanceMethod yX1_begin, Cond.selects RX1 yX1_begin yX1_begin, Cond.code yX1_begin cX1_begin 3 none, Cond.fieldLink RX1 52 "LoadCouncil$Election" "elected" "I", Cond.fieldLink RX1 55 "LoadCouncil$Election" "unit" "J", Cond.fieldLink RX1 28 "LoadCouncil$Election" "loads" "[J", Cond.fieldLink RX1 22 "LoadCouncil$Election" "support" "[I", Cond.instanceMethod yX0_supportOf, Cond.initialized RX0, Cond.selects RX0 yX0_supportOf yX0_supportOf, Cond.code yX0_supportOf cX0_supportOf 2 (some .int)]
def wsX4_matters_r2 : List Cond := [Cond.methodLink RX0 40 yX0_votersWhoAgree, Cond.instanceMethod yX0_votersWhoAgree, Cond.selects RX0 yX0_votersWhoAgree yX0_votersWhoAgree, Cond.code yX0_votersWhoAgree cX0_votersWhoAgree 4 (some .int), Cond.fieldLink RX0 25 "LoadCouncil$Council" "ballots" "I", Cond.fieldLink RX0 9 "LoadCouncil$Council" "voters" "[I", Cond.methodLink RX0 44 yX0_agreesTo, Cond.instanceMethod yX0_agreesTo, Cond.selects RX0 yX0_agreesTo yX0_agreesTo, Cond.code yX0_agreesTo cX0_agreesTo 3 (some .boolean), Cond.fieldLink RX0 15 "LoadCouncil$Council" "sets" "[I", Cond.methodLink RX1 41 yX1_nextMember, Cond.instanceMethod yX1_nextMember, Cond.selects RX1 yX1_nextMember yX1_nextMember, Cond.code yX1_nextMember cX1_nextMember 6 (some .int), Cond.fieldLink RX1 25 "LoadCouncil$Election" "worth" "[J", Cond.static yX4_hasBit, Cond.code yX4_hasBit cX4_hasBit 2 (some .boolean), Cond.methodLink RX1 76 yX1_worthOf, Cond.instanceMethod yX1_worthOf, Cond.selects RX1 yX1_worthOf yX1_worthOf, Cond.code yX1_worthOf cX1_worthOf 7 (some .long), Cond.methodLink RX1 93 yX1_weightOf, Cond.instanceMethod yX1_weightOf]
def wsX4_matters_r3 : List Cond := [Cond.selects RX1 yX1_weightOf yX1_weightOf, Cond.code yX1_weightOf cX1_weightOf 3 (some .long), Cond.methodLink RX1 97 yJ6_bitCount_0f7a4, Cond.static yJ6_bitCount_0f7a4, Cond.initialized RJ6, Cond.code yJ6_bitCount_0f7a4 cJ6_bitCount_0f7a4 1 (some .int), Cond.constant RJ6 265 (1431655765), Cond.constant RJ6 266 (858993459), Cond.constant RJ6 267 (252645135), Cond.methodLink RX1 80 yX1_isAhead, Cond.instanceMethod yX1_isAhead, Cond.selects RX1 yX1_isAhead yX1_isAhead, Cond.code yX1_isAhead cX1_isAhead 4 (some .boolean), Cond.methodLink RX1 48 yX1_elect, Cond.instanceMethod yX1_elect, Cond.selects RX1 yX1_elect yX1_elect, Cond.code yX1_elect cX1_elect 4 none, Cond.fieldLink RX1 9 "LoadCouncil$Election" "order" "[I", Cond.fieldLink RX1 15 "LoadCouncil$Election" "above" "[J", Cond.fieldLink RX1 19 "LoadCouncil$Election" "below" "[J", Cond.constantLong RX1 102 (840), Cond.methodLink RX1 104 yX1_spreadLoad, Cond.instanceMethod yX1_spreadLoad, Cond.selects RX1 yX1_spreadLoad yX1_spreadLoad]
def wsX4_matters_r4 : List Cond := [Cond.code yX1_spreadLoad cX1_spreadLoad 4 none, Cond.instanceMethod yX0_copyFrom, Cond.selects RX0 yX0_copyFrom yX0_copyFrom, Cond.code yX0_copyFrom cX0_copyFrom 2 none, Cond.fieldLink RX0 21 "LoadCouncil$Council" "candidates" "I", Cond.fieldLink RX0 28 "LoadCouncil$Council" "seats" "I", Cond.fieldLink RX0 31 "LoadCouncil$Council" "withdrawn" "I", Cond.methodLink RX0 34 arraycopyName, Cond.native arraycopyName, Cond.static arraycopyName, Cond.initialized "java/lang/System", Cond.fieldLink RX0 18 "LoadCouncil$Council" "rank" "[I"]
def wsX4_matters : List Cond := .code yX4_matters cX4_matters 5 (some .int) :: ((wsX4_matters_r1 ++ (wsX4_matters_r2 ++ (wsX4_matters_r3 ++ wsX4_matters_r4))) ++ wsX40 ++ wsX00 ++ wsX10)
def wsX4_rather_r1 : List Cond := [Cond.fieldLink RX4 19 "LoadCouncil" "now" "LLoadCouncil$Council;", Cond.fieldLink RX4 36 "LoadCouncil" "election" "LLoadCouncil$Election;", Cond.fieldLink RX4 23 "LoadCouncil" "trial" "LLoadCouncil$Council;", Cond.methodLink RX4 146 yX4_isLaw, Cond.static yX4_isLaw, Cond.initialized RX4, Cond.code yX4_isLaw cX4_isLaw 1 (some .boolean), Cond.methodLink RX4 95 yX4_isBallot, Cond.instanceMethod yX4_isBallot, Cond.selects RX4 yX4_isBallot yX4_isBallot, Cond.code yX4_isBallot cX4_isBallot 2 (some .boolean), Cond.instanceMethod yX1_hold, Cond.initialized RX1, Cond.selects RX1 yX1_hold yX1_hold, Cond.code yX1_hold cX1_hold 5 (some .int), Cond.fieldLink RX1 45 "LoadCouncil$Election" "set" "I", Cond.methodLink RX1 31 yX1_begin, Cond.instanceMethod yX1_begin, Cond.selects RX1 yX1_begin yX1_begin, Cond.code yX1_begin cX1_begin 3 none, Cond.fieldLink RX1 52 "LoadCouncil$Election" "elected" "I", Cond.fieldLink RX1 55 "LoadCouncil$Election" "unit" "J", Cond.fieldLink RX1 28 "LoadCouncil$Election" "loads" "[J", Cond.fieldLink RX1 22 "LoadCouncil$Election" "support" "[I"]
def wsX4_rather_r2 : List Cond := [Cond.instanceMethod yX0_supportOf, Cond.initialized RX0, Cond.selects RX0 yX0_supportOf yX0_supportOf, Cond.code yX0_supportOf cX0_supportOf 2 (some .int), Cond.methodLink RX0 40 yX0_votersWhoAgree, Cond.instanceMethod yX0_votersWhoAgree, Cond.selects RX0 yX0_votersWhoAgree yX0_votersWhoAgree, Cond.code yX0_votersWhoAgree cX0_votersWhoAgree 4 (some .int), Cond.fieldLink RX0 25 "LoadCouncil$Council" "ballots" "I", Cond.fieldLink RX0 9 "LoadCouncil$Council" "voters" "[I", Cond.methodLink RX0 44 yX0_agreesTo, Cond.instanceMethod yX0_agreesTo, Cond.selects RX0 yX0_agreesTo yX0_agreesTo, Cond.code yX0_agreesTo cX0_agreesTo 3 (some .boolean), Cond.fieldLink RX0 15 "LoadCouncil$Council" "sets" "[I", Cond.methodLink RX1 41 yX1_nextMember, Cond.instanceMethod yX1_nextMember, Cond.selects RX1 yX1_nextMember yX1_nextMember, Cond.code yX1_nextMember cX1_nextMember 6 (some .int), Cond.fieldLink RX1 25 "LoadCouncil$Election" "worth" "[J", Cond.static yX4_hasBit, Cond.code yX4_hasBit cX4_hasBit 2 (some .boolean), Cond.methodLink RX1 76 yX1_worthOf, Cond.instanceMethod yX1_worthOf]
def wsX4_rather_r3 : List Cond := [Cond.selects RX1 yX1_worthOf yX1_worthOf, Cond.code yX1_worthOf cX1_worthOf 7 (some .long), Cond.methodLink RX1 93 yX1_weightOf, Cond.instanceMethod yX1_weightOf, Cond.selects RX1 yX1_weightOf yX1_weightOf, Cond.code yX1_weightOf cX1_weightOf 3 (some .long), Cond.methodLink RX1 97 yJ6_bitCount_0f7a4, Cond.static yJ6_bitCount_0f7a4, Cond.initialized RJ6, Cond.code yJ6_bitCount_0f7a4 cJ6_bitCount_0f7a4 1 (some .int), Cond.constant RJ6 265 (1431655765), Cond.constant RJ6 266 (858993459), Cond.constant RJ6 267 (252645135), Cond.methodLink RX1 80 yX1_isAhead, Cond.instanceMethod yX1_isAhead, Cond.selects RX1 yX1_isAhead yX1_isAhead, Cond.code yX1_isAhead cX1_isAhead 4 (some .boolean), Cond.methodLink RX1 48 yX1_elect, Cond.instanceMethod yX1_elect, Cond.selects RX1 yX1_elect yX1_elect, Cond.code yX1_elect cX1_elect 4 none, Cond.fieldLink RX1 9 "LoadCouncil$Election" "order" "[I", Cond.fieldLink RX1 15 "LoadCouncil$Election" "above" "[J", Cond.fieldLink RX1 19 "LoadCouncil$Election" "below" "[J"]
def wsX4_rather_r4 : List Cond := [Cond.constantLong RX1 102 (840), Cond.methodLink RX1 104 yX1_spreadLoad, Cond.instanceMethod yX1_spreadLoad, Cond.selects RX1 yX1_spreadLoad yX1_spreadLoad, Cond.code yX1_spreadLoad cX1_spreadLoad 4 none, Cond.methodLink RX4 117 yJ6_bitCount_0f7a4, Cond.instanceMethod yX0_copyFrom, Cond.selects RX0 yX0_copyFrom yX0_copyFrom, Cond.code yX0_copyFrom cX0_copyFrom 2 none, Cond.fieldLink RX0 21 "LoadCouncil$Council" "candidates" "I", Cond.fieldLink RX0 28 "LoadCouncil$Council" "seats" "I", Cond.fieldLink RX0 31 "LoadCouncil$Council" "withdrawn" "I", Cond.methodLink RX0 34 arraycopyName, Cond.native arraycopyName, Cond.static arraycopyName, Cond.initialized "java/lang/System", Cond.fieldLink RX0 18 "LoadCouncil$Council" "rank" "[I"]
def wsX4_rather : List Cond := .code yX4_rather cX4_rather 9 (some .int) :: ((wsX4_rather_r1 ++ (wsX4_rather_r2 ++ (wsX4_rather_r3 ++ wsX4_rather_r4))) ++ wsX40 ++ wsX00 ++ wsX10)
def wsX4_decided_r1 : List Cond := [Cond.fieldLink RX4 36 "LoadCouncil" "election" "LLoadCouncil$Election;", Cond.fieldLink RX4 19 "LoadCouncil" "now" "LLoadCouncil$Council;", Cond.fieldLink RX4 23 "LoadCouncil" "trial" "LLoadCouncil$Council;", Cond.methodLink RX4 146 yX4_isLaw, Cond.static yX4_isLaw, Cond.initialized RX4, Cond.code yX4_isLaw cX4_isLaw 1 (some .boolean), Cond.instanceMethod yX1_hold, Cond.initialized RX1, Cond.selects RX1 yX1_hold yX1_hold, Cond.code yX1_hold cX1_hold 5 (some .int), Cond.fieldLink RX1 45 "LoadCouncil$Election" "set" "I", Cond.methodLink RX1 31 yX1_begin, Cond.instanceMethod yX1_begin, Cond.selects RX1 yX1_begin yX1_begin, Cond.code yX1_begin cX1_begin 3 none, Cond.fieldLink RX1 52 "LoadCouncil$Election" "elected" "I", Cond.fieldLink RX1 55 "LoadCouncil$Election" "unit" "J", Cond.fieldLink RX1 28 "LoadCouncil$Election" "loads" "[J", Cond.fieldLink RX1 22 "LoadCouncil$Election" "support" "[I", Cond.instanceMethod yX0_supportOf, Cond.initialized RX0, Cond.selects RX0 yX0_supportOf yX0_supportOf, Cond.code yX0_supportOf cX0_supportOf 2 (some .int)]
def wsX4_decided_r2 : List Cond := [Cond.methodLink RX0 40 yX0_votersWhoAgree, Cond.instanceMethod yX0_votersWhoAgree, Cond.selects RX0 yX0_votersWhoAgree yX0_votersWhoAgree, Cond.code yX0_votersWhoAgree cX0_votersWhoAgree 4 (some .int), Cond.fieldLink RX0 25 "LoadCouncil$Council" "ballots" "I", Cond.fieldLink RX0 9 "LoadCouncil$Council" "voters" "[I", Cond.methodLink RX0 44 yX0_agreesTo, Cond.instanceMethod yX0_agreesTo, Cond.selects RX0 yX0_agreesTo yX0_agreesTo, Cond.code yX0_agreesTo cX0_agreesTo 3 (some .boolean), Cond.fieldLink RX0 15 "LoadCouncil$Council" "sets" "[I", Cond.methodLink RX1 41 yX1_nextMember, Cond.instanceMethod yX1_nextMember, Cond.selects RX1 yX1_nextMember yX1_nextMember, Cond.code yX1_nextMember cX1_nextMember 6 (some .int), Cond.fieldLink RX1 25 "LoadCouncil$Election" "worth" "[J", Cond.static yX4_hasBit, Cond.code yX4_hasBit cX4_hasBit 2 (some .boolean), Cond.methodLink RX1 76 yX1_worthOf, Cond.instanceMethod yX1_worthOf, Cond.selects RX1 yX1_worthOf yX1_worthOf, Cond.code yX1_worthOf cX1_worthOf 7 (some .long), Cond.methodLink RX1 93 yX1_weightOf, Cond.instanceMethod yX1_weightOf]
def wsX4_decided_r3 : List Cond := [Cond.selects RX1 yX1_weightOf yX1_weightOf, Cond.code yX1_weightOf cX1_weightOf 3 (some .long), Cond.methodLink RX1 97 yJ6_bitCount_0f7a4, Cond.static yJ6_bitCount_0f7a4, Cond.initialized RJ6, Cond.code yJ6_bitCount_0f7a4 cJ6_bitCount_0f7a4 1 (some .int), Cond.constant RJ6 265 (1431655765), Cond.constant RJ6 266 (858993459), Cond.constant RJ6 267 (252645135), Cond.methodLink RX1 80 yX1_isAhead, Cond.instanceMethod yX1_isAhead, Cond.selects RX1 yX1_isAhead yX1_isAhead, Cond.code yX1_isAhead cX1_isAhead 4 (some .boolean), Cond.methodLink RX1 48 yX1_elect, Cond.instanceMethod yX1_elect, Cond.selects RX1 yX1_elect yX1_elect, Cond.code yX1_elect cX1_elect 4 none, Cond.fieldLink RX1 9 "LoadCouncil$Election" "order" "[I", Cond.fieldLink RX1 15 "LoadCouncil$Election" "above" "[J", Cond.fieldLink RX1 19 "LoadCouncil$Election" "below" "[J", Cond.constantLong RX1 102 (840), Cond.methodLink RX1 104 yX1_spreadLoad, Cond.instanceMethod yX1_spreadLoad, Cond.selects RX1 yX1_spreadLoad yX1_spreadLoad]
def wsX4_decided_r4 : List Cond := [Cond.code yX1_spreadLoad cX1_spreadLoad 4 none, Cond.instanceMethod yX0_copyFrom, Cond.selects RX0 yX0_copyFrom yX0_copyFrom, Cond.code yX0_copyFrom cX0_copyFrom 2 none, Cond.fieldLink RX0 21 "LoadCouncil$Council" "candidates" "I", Cond.fieldLink RX0 28 "LoadCouncil$Council" "seats" "I", Cond.fieldLink RX0 31 "LoadCouncil$Council" "withdrawn" "I", Cond.methodLink RX0 34 arraycopyName, Cond.native arraycopyName, Cond.static arraycopyName, Cond.initialized "java/lang/System", Cond.fieldLink RX0 18 "LoadCouncil$Council" "rank" "[I", Cond.instanceMethod yX0_turnRankRound, Cond.selects RX0 yX0_turnRankRound yX0_turnRankRound, Cond.code yX0_turnRankRound cX0_turnRankRound 3 none]
def wsX4_decided : List Cond := .code yX4_decided cX4_decided 3 (some .int) :: ((wsX4_decided_r1 ++ (wsX4_decided_r2 ++ (wsX4_decided_r3 ++ wsX4_decided_r4))) ++ wsX40 ++ wsX00 ++ wsX10)
def wsX4_both_r1 : List Cond := [Cond.fieldLink RX4 36 "LoadCouncil" "election" "LLoadCouncil$Election;", Cond.fieldLink RX4 19 "LoadCouncil" "now" "LLoadCouncil$Council;", Cond.methodLink RX4 146 yX4_isLaw, Cond.static yX4_isLaw, Cond.initialized RX4, Cond.code yX4_isLaw cX4_isLaw 1 (some .boolean), Cond.instanceMethod yX1_hold, Cond.initialized RX1, Cond.selects RX1 yX1_hold yX1_hold, Cond.code yX1_hold cX1_hold 5 (some .int), Cond.fieldLink RX1 45 "LoadCouncil$Election" "set" "I", Cond.methodLink RX1 31 yX1_begin, Cond.instanceMethod yX1_begin, Cond.selects RX1 yX1_begin yX1_begin, Cond.code yX1_begin cX1_begin 3 none, Cond.fieldLink RX1 52 "LoadCouncil$Election" "elected" "I", Cond.fieldLink RX1 55 "LoadCouncil$Election" "unit" "J", Cond.fieldLink RX1 28 "LoadCouncil$Election" "loads" "[J", Cond.fieldLink RX1 22 "LoadCouncil$Election" "support" "[I", Cond.instanceMethod yX0_supportOf, Cond.initialized RX0, Cond.selects RX0 yX0_supportOf yX0_supportOf, Cond.code yX0_supportOf cX0_supportOf 2 (some .int), Cond.methodLink RX0 40 yX0_votersWhoAgree]
def wsX4_both_r2 : List Cond := [Cond.instanceMethod yX0_votersWhoAgree, Cond.selects RX0 yX0_votersWhoAgree yX0_votersWhoAgree, Cond.code yX0_votersWhoAgree cX0_votersWhoAgree 4 (some .int), Cond.fieldLink RX0 25 "LoadCouncil$Council" "ballots" "I", Cond.fieldLink RX0 9 "LoadCouncil$Council" "voters" "[I", Cond.methodLink RX0 44 yX0_agreesTo, Cond.instanceMethod yX0_agreesTo, Cond.selects RX0 yX0_agreesTo yX0_agreesTo, Cond.code yX0_agreesTo cX0_agreesTo 3 (some .boolean), Cond.fieldLink RX0 15 "LoadCouncil$Council" "sets" "[I", Cond.methodLink RX1 41 yX1_nextMember, Cond.instanceMethod yX1_nextMember, Cond.selects RX1 yX1_nextMember yX1_nextMember, Cond.code yX1_nextMember cX1_nextMember 6 (some .int), Cond.fieldLink RX1 25 "LoadCouncil$Election" "worth" "[J", Cond.static yX4_hasBit, Cond.code yX4_hasBit cX4_hasBit 2 (some .boolean), Cond.methodLink RX1 76 yX1_worthOf, Cond.instanceMethod yX1_worthOf, Cond.selects RX1 yX1_worthOf yX1_worthOf, Cond.code yX1_worthOf cX1_worthOf 7 (some .long), Cond.methodLink RX1 93 yX1_weightOf, Cond.instanceMethod yX1_weightOf, Cond.selects RX1 yX1_weightOf yX1_weightOf]
def wsX4_both_r3 : List Cond := [Cond.code yX1_weightOf cX1_weightOf 3 (some .long), Cond.methodLink RX1 97 yJ6_bitCount_0f7a4, Cond.static yJ6_bitCount_0f7a4, Cond.initialized RJ6, Cond.code yJ6_bitCount_0f7a4 cJ6_bitCount_0f7a4 1 (some .int), Cond.constant RJ6 265 (1431655765), Cond.constant RJ6 266 (858993459), Cond.constant RJ6 267 (252645135), Cond.methodLink RX1 80 yX1_isAhead, Cond.instanceMethod yX1_isAhead, Cond.selects RX1 yX1_isAhead yX1_isAhead, Cond.code yX1_isAhead cX1_isAhead 4 (some .boolean), Cond.methodLink RX1 48 yX1_elect, Cond.instanceMethod yX1_elect, Cond.selects RX1 yX1_elect yX1_elect, Cond.code yX1_elect cX1_elect 4 none, Cond.fieldLink RX1 9 "LoadCouncil$Election" "order" "[I", Cond.fieldLink RX1 15 "LoadCouncil$Election" "above" "[J", Cond.fieldLink RX1 19 "LoadCouncil$Election" "below" "[J", Cond.constantLong RX1 102 (840), Cond.methodLink RX1 104 yX1_spreadLoad, Cond.instanceMethod yX1_spreadLoad, Cond.selects RX1 yX1_spreadLoad yX1_spreadLoad, Cond.code yX1_spreadLoad cX1_spreadLoad 4 none]
def wsX4_both_r4 : List Cond := [Cond.methodLink RX4 117 yJ6_bitCount_0f7a4]
def wsX4_both : List Cond := .code yX4_both cX4_both 4 (some .int) :: ((wsX4_both_r1 ++ (wsX4_both_r2 ++ (wsX4_both_r3 ++ wsX4_both_r4))) ++ wsX40 ++ wsX00 ++ wsX10)
def wsX4_count_r1 : List Cond := [Cond.fieldLink RX4 19 "LoadCouncil" "now" "LLoadCouncil$Council;", Cond.fieldLink RX4 29 "LoadCouncil" "past" "LLoadCouncil$Past;", Cond.fieldLink RX4 12 "LoadCouncil" "text" "LLoadCouncil$Text;", Cond.instanceMethod yX0_allVoters, Cond.initialized RX0, Cond.selects RX0 yX0_allVoters yX0_allVoters, Cond.code yX0_allVoters cX0_allVoters 1 (some .int), Cond.methodLink RX0 40 yX0_votersWhoAgree, Cond.instanceMethod yX0_votersWhoAgree, Cond.selects RX0 yX0_votersWhoAgree yX0_votersWhoAgree, Cond.code yX0_votersWhoAgree cX0_votersWhoAgree 4 (some .int), Cond.fieldLink RX0 25 "LoadCouncil$Council" "ballots" "I", Cond.fieldLink RX0 9 "LoadCouncil$Council" "voters" "[I", Cond.methodLink RX0 44 yX0_agreesTo, Cond.instanceMethod yX0_agreesTo, Cond.selects RX0 yX0_agreesTo yX0_agreesTo, Cond.code yX0_agreesTo cX0_agreesTo 3 (some .boolean), Cond.fieldLink RX0 15 "LoadCouncil$Council" "sets" "[I", Cond.methodLink RX4 117 yJ6_bitCount_0f7a4, Cond.static yJ6_bitCount_0f7a4, Cond.initialized RJ6, Cond.code yJ6_bitCount_0f7a4 cJ6_bitCount_0f7a4 1 (some .int), Cond.constant RJ6 265 (1431655765), Cond.constant RJ6 266 (858993459)]
def wsX4_count_r2 : List Cond := [Cond.constant RJ6 267 (252645135)]
def wsX4_count : List Cond := .code yX4_count cX4_count 2 (some .int) :: ((wsX4_count_r1 ++ wsX4_count_r2) ++ wsX40 ++ wsX00 ++ wsX20 ++ wsX30)
def wsX5_adds : List Cond := .code yX5_adds cX5_adds 3 none :: ([.fieldLink RX5 7 "LoadCouncilModel" "now" "[I"] ++ wsX50)
def wsX5_init : List Cond := .code yX5_init cX5_init 2 none :: ([.methodLink RX5 1 objectInit, .instanceMethod objectInit, .code objectInit ⟨#[0xb1]⟩ 1 none, .arrayClass .int, .fieldLink RX5 7 "LoadCouncilModel" "now" "[I", .fieldLink RX5 13 "LoadCouncilModel" "read" "[I", .fieldLink RX5 16 "LoadCouncilModel" "past" "[I", .fieldLink RX5 19 "LoadCouncilModel" "text" "[I", .fieldLink RX5 22 "LoadCouncilModel" "heads" "[I", .fieldLink RX5 25 "LoadCouncilModel" "sets" "[I", .fieldLink RX5 28 "LoadCouncilModel" "ranks" "[I", .arrayClass .long, .fieldLink RX5 31 "LoadCouncilModel" "loads" "[J", .fieldLink RX5 35 "LoadCouncilModel" "order" "[I", .fieldLink RX5 38 "LoadCouncilModel" "above" "[J", .fieldLink RX5 41 "LoadCouncilModel" "under" "[J", .methodLink RX5 44 yX5_adds, .instanceMethod yX5_adds, .selects RX5 yX5_adds yX5_adds, .initialized RX5, .code yX5_adds cX5_adds 3 none] ++ wsX50)
def wsX5_in : List Cond := .code yX5_in cX5_in 3 (some .boolean) :: ([])
def wsX5_has : List Cond := .code yX5_has cX5_has 2 (some .boolean) :: ([])
def wsX5_ones : List Cond := .code yX5_ones cX5_ones 3 (some .int) :: ([])
def wsX5_isCandidate : List Cond := .code yX5_isCandidate cX5_isCandidate 2 (some .boolean) :: ([.fieldLink RX5 7 "LoadCouncilModel" "now" "[I", .methodLink RX5 48 yX5_in, .static yX5_in, .initialized RX5, .code yX5_in cX5_in 3 (some .boolean)] ++ wsX50)
def wsX5_isBallot : List Cond := .code yX5_isBallot cX5_isBallot 2 (some .boolean) :: ([.fieldLink RX5 7 "LoadCouncilModel" "now" "[I", .methodLink RX5 48 yX5_in, .static yX5_in, .initialized RX5, .code yX5_in cX5_in 3 (some .boolean)] ++ wsX50)
def wsX5_isSet : List Cond := .code yX5_isSet cX5_isSet 2 (some .boolean) :: ([.fieldLink RX5 7 "LoadCouncilModel" "now" "[I", .methodLink RX5 48 yX5_in, .static yX5_in, .initialized RX5, .code yX5_in cX5_in 3 (some .boolean)] ++ wsX50)
def wsX5_isLaw : List Cond := .code yX5_isLaw cX5_isLaw 1 (some .boolean) :: ([.methodLink RX5 48 yX5_in, .static yX5_in, .initialized RX5, .code yX5_in cX5_in 3 (some .boolean)])
def wsX5_allVoters : List Cond := .code yX5_allVoters cX5_allVoters 3 (some .int) :: ([.fieldLink RX5 7 "LoadCouncilModel" "now" "[I"] ++ wsX50)
def wsX5_write : List Cond := .code yX5_write cX5_write 2 (some .int) :: ([.fieldLink RX5 52 "LoadCouncilModel" "letters" "I", .fieldLink RX5 19 "LoadCouncilModel" "text" "[I", .methodLink RX5 48 yX5_in, .static yX5_in, .initialized RX5, .code yX5_in cX5_in 3 (some .boolean)] ++ wsX50)
def wsX5_wipe : List Cond := .code yX5_wipe cX5_wipe 2 (some .int) :: ([.fieldLink RX5 52 "LoadCouncilModel" "letters" "I"] ++ wsX50)
def wsX5_letterAt : List Cond := .code yX5_letterAt cX5_letterAt 2 (some .int) :: ([.fieldLink RX5 52 "LoadCouncilModel" "letters" "I", .fieldLink RX5 19 "LoadCouncilModel" "text" "[I"] ++ wsX50)
def wsX5_takesNumber : List Cond := .code yX5_takesNumber cX5_takesNumber 4 (some .boolean) :: ([.fieldLink RX5 56 "LoadCouncilModel" "spot" "I", .fieldLink RX5 59 "LoadCouncilModel" "value" "I", .fieldLink RX5 19 "LoadCouncilModel" "text" "[I", .methodLink RX5 62 yX5_letterAt, .instanceMethod yX5_letterAt, .selects RX5 yX5_letterAt yX5_letterAt, .initialized RX5, .code yX5_letterAt cX5_letterAt 2 (some .int), .fieldLink RX5 52 "LoadCouncilModel" "letters" "I", .methodLink RX5 48 yX5_in, .static yX5_in, .code yX5_in cX5_in 3 (some .boolean)] ++ wsX50)
def wsX5_takes : List Cond := .code yX5_takes cX5_takes 3 (some .boolean) :: ([.fieldLink RX5 56 "LoadCouncilModel" "spot" "I", .methodLink RX5 62 yX5_letterAt, .instanceMethod yX5_letterAt, .selects RX5 yX5_letterAt yX5_letterAt, .initialized RX5, .code yX5_letterAt cX5_letterAt 2 (some .int), .fieldLink RX5 52 "LoadCouncilModel" "letters" "I", .fieldLink RX5 19 "LoadCouncilModel" "text" "[I"] ++ wsX50)
def wsX5_isName : List Cond := .code yX5_isName cX5_isName 1 (some .boolean) :: ([.fieldLink RX5 56 "LoadCouncilModel" "spot" "I", .fieldLink RX5 13 "LoadCouncilModel" "read" "[I", .methodLink RX5 62 yX5_letterAt, .instanceMethod yX5_letterAt, .selects RX5 yX5_letterAt yX5_letterAt, .initialized RX5, .code yX5_letterAt cX5_letterAt 2 (some .int), .fieldLink RX5 52 "LoadCouncilModel" "letters" "I", .fieldLink RX5 19 "LoadCouncilModel" "text" "[I", .methodLink RX5 48 yX5_in, .static yX5_in, .code yX5_in cX5_in 3 (some .boolean)] ++ wsX50)
def wsX5_takesSet : List Cond := .code yX5_takesSet cX5_takesSet 2 (some .boolean) :: ([.fieldLink RX5 59 "LoadCouncilModel" "value" "I", .fieldLink RX5 19 "LoadCouncilModel" "text" "[I", .fieldLink RX5 56 "LoadCouncilModel" "spot" "I", .methodLink RX5 66 yX5_isName, .instanceMethod yX5_isName, .selects RX5 yX5_isName yX5_isName, .initialized RX5, .code yX5_isName cX5_isName 1 (some .boolean), .fieldLink RX5 13 "LoadCouncilModel" "read" "[I", .methodLink RX5 62 yX5_letterAt, .instanceMethod yX5_letterAt, .selects RX5 yX5_letterAt yX5_letterAt, .code yX5_letterAt cX5_letterAt 2 (some .int), .fieldLink RX5 52 "LoadCouncilModel" "letters" "I", .methodLink RX5 48 yX5_in, .static yX5_in, .code yX5_in cX5_in 3 (some .boolean)] ++ wsX50)
def wsX5_readVoters : List Cond := .code yX5_readVoters cX5_readVoters 3 (some .int) :: ([.fieldLink RX5 13 "LoadCouncilModel" "read" "[I"] ++ wsX50)
def wsX5_takesBallot_r1 : List Cond := [Cond.fieldLink RX5 13 "LoadCouncilModel" "read" "[I", Cond.fieldLink RX5 59 "LoadCouncilModel" "value" "I", Cond.methodLink RX5 70 yX5_takesNumber, Cond.instanceMethod yX5_takesNumber, Cond.selects RX5 yX5_takesNumber yX5_takesNumber, Cond.initialized RX5, Cond.code yX5_takesNumber cX5_takesNumber 4 (some .boolean), Cond.fieldLink RX5 56 "LoadCouncilModel" "spot" "I", Cond.fieldLink RX5 19 "LoadCouncilModel" "text" "[I", Cond.methodLink RX5 62 yX5_letterAt, Cond.instanceMethod yX5_letterAt, Cond.selects RX5 yX5_letterAt yX5_letterAt, Cond.code yX5_letterAt cX5_letterAt 2 (some .int), Cond.fieldLink RX5 52 "LoadCouncilModel" "letters" "I", Cond.methodLink RX5 48 yX5_in, Cond.static yX5_in, Cond.code yX5_in cX5_in 3 (some .boolean), Cond.methodLink RX5 74 yX5_takes, Cond.instanceMethod yX5_takes, Cond.selects RX5 yX5_takes yX5_takes, Cond.code yX5_takes cX5_takes 3 (some .boolean), Cond.methodLink RX5 78 yX5_takesSet, Cond.instanceMethod yX5_takesSet, Cond.selects RX5 yX5_takesSet yX5_takesSet]
def wsX5_takesBallot_r2 : List Cond := [Cond.code yX5_takesSet cX5_takesSet 2 (some .boolean), Cond.methodLink RX5 66 yX5_isName, Cond.instanceMethod yX5_isName, Cond.selects RX5 yX5_isName yX5_isName, Cond.code yX5_isName cX5_isName 1 (some .boolean), Cond.methodLink RX5 81 yX5_readVoters, Cond.instanceMethod yX5_readVoters, Cond.selects RX5 yX5_readVoters yX5_readVoters, Cond.code yX5_readVoters cX5_readVoters 3 (some .int)]
def wsX5_takesBallot : List Cond := .code yX5_takesBallot cX5_takesBallot 2 (some .boolean) :: ((wsX5_takesBallot_r1 ++ wsX5_takesBallot_r2) ++ wsX50)
def wsX5_takesRank : List Cond := .code yX5_takesRank cX5_takesRank 3 (some .boolean) :: ([.fieldLink RX5 13 "LoadCouncilModel" "read" "[I", .fieldLink RX5 19 "LoadCouncilModel" "text" "[I", .fieldLink RX5 56 "LoadCouncilModel" "spot" "I", .methodLink RX5 66 yX5_isName, .instanceMethod yX5_isName, .selects RX5 yX5_isName yX5_isName, .initialized RX5, .code yX5_isName cX5_isName 1 (some .boolean), .methodLink RX5 62 yX5_letterAt, .instanceMethod yX5_letterAt, .selects RX5 yX5_letterAt yX5_letterAt, .code yX5_letterAt cX5_letterAt 2 (some .int), .fieldLink RX5 52 "LoadCouncilModel" "letters" "I", .methodLink RX5 48 yX5_in, .static yX5_in, .code yX5_in cX5_in 3 (some .boolean), .methodLink RX5 85 yX5_has, .static yX5_has, .code yX5_has cX5_has 2 (some .boolean)] ++ wsX50)
def wsX5_takesCandidates : List Cond := .code yX5_takesCandidates cX5_takesCandidates 2 (some .boolean) :: ([.fieldLink RX5 13 "LoadCouncilModel" "read" "[I", .fieldLink RX5 59 "LoadCouncilModel" "value" "I", .methodLink RX5 70 yX5_takesNumber, .instanceMethod yX5_takesNumber, .selects RX5 yX5_takesNumber yX5_takesNumber, .initialized RX5, .code yX5_takesNumber cX5_takesNumber 4 (some .boolean), .fieldLink RX5 56 "LoadCouncilModel" "spot" "I", .fieldLink RX5 19 "LoadCouncilModel" "text" "[I", .methodLink RX5 62 yX5_letterAt, .instanceMethod yX5_letterAt, .selects RX5 yX5_letterAt yX5_letterAt, .code yX5_letterAt cX5_letterAt 2 (some .int), .fieldLink RX5 52 "LoadCouncilModel" "letters" "I", .methodLink RX5 48 yX5_in, .static yX5_in, .code yX5_in cX5_in 3 (some .boolean)] ++ wsX50)
def wsX5_takesSeats : List Cond := .code yX5_takesSeats cX5_takesSeats 2 (some .boolean) :: ([.fieldLink RX5 13 "LoadCouncilModel" "read" "[I", .fieldLink RX5 59 "LoadCouncilModel" "value" "I", .methodLink RX5 70 yX5_takesNumber, .instanceMethod yX5_takesNumber, .selects RX5 yX5_takesNumber yX5_takesNumber, .initialized RX5, .code yX5_takesNumber cX5_takesNumber 4 (some .boolean), .fieldLink RX5 56 "LoadCouncilModel" "spot" "I", .fieldLink RX5 19 "LoadCouncilModel" "text" "[I", .methodLink RX5 62 yX5_letterAt, .instanceMethod yX5_letterAt, .selects RX5 yX5_letterAt yX5_letterAt, .code yX5_letterAt cX5_letterAt 2 (some .int), .fieldLink RX5 52 "LoadCouncilModel" "letters" "I", .methodLink RX5 48 yX5_in, .static yX5_in, .code yX5_in cX5_in 3 (some .boolean)] ++ wsX50)
def wsX5_takesItem_r1 : List Cond := [Cond.fieldLink RX5 56 "LoadCouncilModel" "spot" "I", Cond.fieldLink RX5 13 "LoadCouncilModel" "read" "[I", Cond.methodLink RX5 62 yX5_letterAt, Cond.instanceMethod yX5_letterAt, Cond.selects RX5 yX5_letterAt yX5_letterAt, Cond.initialized RX5, Cond.code yX5_letterAt cX5_letterAt 2 (some .int), Cond.fieldLink RX5 52 "LoadCouncilModel" "letters" "I", Cond.fieldLink RX5 19 "LoadCouncilModel" "text" "[I", Cond.methodLink RX5 88 yX5_takesCandidates, Cond.instanceMethod yX5_takesCandidates, Cond.selects RX5 yX5_takesCandidates yX5_takesCandidates, Cond.code yX5_takesCandidates cX5_takesCandidates 2 (some .boolean), Cond.fieldLink RX5 59 "LoadCouncilModel" "value" "I", Cond.methodLink RX5 70 yX5_takesNumber, Cond.instanceMethod yX5_takesNumber, Cond.selects RX5 yX5_takesNumber yX5_takesNumber, Cond.code yX5_takesNumber cX5_takesNumber 4 (some .boolean), Cond.methodLink RX5 48 yX5_in, Cond.static yX5_in, Cond.code yX5_in cX5_in 3 (some .boolean), Cond.methodLink RX5 74 yX5_takes, Cond.instanceMethod yX5_takes, Cond.selects RX5 yX5_takes yX5_takes]
def wsX5_takesItem_r2 : List Cond := [Cond.code yX5_takes cX5_takes 3 (some .boolean), Cond.methodLink RX5 91 yX5_takesBallot, Cond.instanceMethod yX5_takesBallot, Cond.selects RX5 yX5_takesBallot yX5_takesBallot, Cond.code yX5_takesBallot cX5_takesBallot 2 (some .boolean), Cond.methodLink RX5 78 yX5_takesSet, Cond.instanceMethod yX5_takesSet, Cond.selects RX5 yX5_takesSet yX5_takesSet, Cond.code yX5_takesSet cX5_takesSet 2 (some .boolean), Cond.methodLink RX5 66 yX5_isName, Cond.instanceMethod yX5_isName, Cond.selects RX5 yX5_isName yX5_isName, Cond.code yX5_isName cX5_isName 1 (some .boolean), Cond.methodLink RX5 81 yX5_readVoters, Cond.instanceMethod yX5_readVoters, Cond.selects RX5 yX5_readVoters yX5_readVoters, Cond.code yX5_readVoters cX5_readVoters 3 (some .int), Cond.methodLink RX5 94 yX5_takesSeats, Cond.instanceMethod yX5_takesSeats, Cond.selects RX5 yX5_takesSeats yX5_takesSeats, Cond.code yX5_takesSeats cX5_takesSeats 2 (some .boolean), Cond.methodLink RX5 97 yX5_takesRank, Cond.instanceMethod yX5_takesRank, Cond.selects RX5 yX5_takesRank yX5_takesRank]
def wsX5_takesItem_r3 : List Cond := [Cond.code yX5_takesRank cX5_takesRank 3 (some .boolean), Cond.methodLink RX5 85 yX5_has, Cond.static yX5_has, Cond.code yX5_has cX5_has 2 (some .boolean)]
def wsX5_takesItem : List Cond := .code yX5_takesItem cX5_takesItem 3 (some .boolean) :: ((wsX5_takesItem_r1 ++ (wsX5_takesItem_r2 ++ wsX5_takesItem_r3)) ++ wsX50)
def wsX5_faultOf_r1 : List Cond := [Cond.fieldLink RX5 13 "LoadCouncilModel" "read" "[I", Cond.fieldLink RX5 56 "LoadCouncilModel" "spot" "I", Cond.fieldLink RX5 52 "LoadCouncilModel" "letters" "I", Cond.methodLink RX5 100 yX5_takesItem, Cond.instanceMethod yX5_takesItem, Cond.selects RX5 yX5_takesItem yX5_takesItem, Cond.initialized RX5, Cond.code yX5_takesItem cX5_takesItem 3 (some .boolean), Cond.methodLink RX5 62 yX5_letterAt, Cond.instanceMethod yX5_letterAt, Cond.selects RX5 yX5_letterAt yX5_letterAt, Cond.code yX5_letterAt cX5_letterAt 2 (some .int), Cond.fieldLink RX5 19 "LoadCouncilModel" "text" "[I", Cond.methodLink RX5 88 yX5_takesCandidates, Cond.instanceMethod yX5_takesCandidates, Cond.selects RX5 yX5_takesCandidates yX5_takesCandidates, Cond.code yX5_takesCandidates cX5_takesCandidates 2 (some .boolean), Cond.fieldLink RX5 59 "LoadCouncilModel" "value" "I", Cond.methodLink RX5 70 yX5_takesNumber, Cond.instanceMethod yX5_takesNumber, Cond.selects RX5 yX5_takesNumber yX5_takesNumber, Cond.code yX5_takesNumber cX5_takesNumber 4 (some .boolean), Cond.methodLink RX5 48 yX5_in, Cond.static yX5_in]
def wsX5_faultOf_r2 : List Cond := [Cond.code yX5_in cX5_in 3 (some .boolean), Cond.methodLink RX5 74 yX5_takes, Cond.instanceMethod yX5_takes, Cond.selects RX5 yX5_takes yX5_takes, Cond.code yX5_takes cX5_takes 3 (some .boolean), Cond.methodLink RX5 91 yX5_takesBallot, Cond.instanceMethod yX5_takesBallot, Cond.selects RX5 yX5_takesBallot yX5_takesBallot, Cond.code yX5_takesBallot cX5_takesBallot 2 (some .boolean), Cond.methodLink RX5 78 yX5_takesSet, Cond.instanceMethod yX5_takesSet, Cond.selects RX5 yX5_takesSet yX5_takesSet, Cond.code yX5_takesSet cX5_takesSet 2 (some .boolean), Cond.methodLink RX5 66 yX5_isName, Cond.instanceMethod yX5_isName, Cond.selects RX5 yX5_isName yX5_isName, Cond.code yX5_isName cX5_isName 1 (some .boolean), Cond.methodLink RX5 81 yX5_readVoters, Cond.instanceMethod yX5_readVoters, Cond.selects RX5 yX5_readVoters yX5_readVoters, Cond.code yX5_readVoters cX5_readVoters 3 (some .int), Cond.methodLink RX5 94 yX5_takesSeats, Cond.instanceMethod yX5_takesSeats, Cond.selects RX5 yX5_takesSeats yX5_takesSeats]
def wsX5_faultOf_r3 : List Cond := [Cond.code yX5_takesSeats cX5_takesSeats 2 (some .boolean), Cond.methodLink RX5 97 yX5_takesRank, Cond.instanceMethod yX5_takesRank, Cond.selects RX5 yX5_takesRank yX5_takesRank, Cond.code yX5_takesRank cX5_takesRank 3 (some .boolean), Cond.methodLink RX5 85 yX5_has, Cond.static yX5_has, Cond.code yX5_has cX5_has 2 (some .boolean)]
def wsX5_faultOf : List Cond := .code yX5_faultOf cX5_faultOf 2 (some .int) :: ((wsX5_faultOf_r1 ++ (wsX5_faultOf_r2 ++ wsX5_faultOf_r3)) ++ wsX50)
def wsX5_fault_r1 : List Cond := [Cond.methodLink RX5 103 yX5_faultOf, Cond.instanceMethod yX5_faultOf, Cond.selects RX5 yX5_faultOf yX5_faultOf, Cond.initialized RX5, Cond.code yX5_faultOf cX5_faultOf 2 (some .int), Cond.fieldLink RX5 13 "LoadCouncilModel" "read" "[I", Cond.fieldLink RX5 56 "LoadCouncilModel" "spot" "I", Cond.fieldLink RX5 52 "LoadCouncilModel" "letters" "I", Cond.methodLink RX5 100 yX5_takesItem, Cond.instanceMethod yX5_takesItem, Cond.selects RX5 yX5_takesItem yX5_takesItem, Cond.code yX5_takesItem cX5_takesItem 3 (some .boolean), Cond.methodLink RX5 62 yX5_letterAt, Cond.instanceMethod yX5_letterAt, Cond.selects RX5 yX5_letterAt yX5_letterAt, Cond.code yX5_letterAt cX5_letterAt 2 (some .int), Cond.fieldLink RX5 19 "LoadCouncilModel" "text" "[I", Cond.methodLink RX5 88 yX5_takesCandidates, Cond.instanceMethod yX5_takesCandidates, Cond.selects RX5 yX5_takesCandidates yX5_takesCandidates, Cond.code yX5_takesCandidates cX5_takesCandidates 2 (some .boolean), Cond.fieldLink RX5 59 "LoadCouncilModel" "value" "I", Cond.methodLink RX5 70 yX5_takesNumber, Cond.instanceMethod yX5_takesNumber]
def wsX5_fault_r2 : List Cond := [Cond.selects RX5 yX5_takesNumber yX5_takesNumber, Cond.code yX5_takesNumber cX5_takesNumber 4 (some .boolean), Cond.methodLink RX5 48 yX5_in, Cond.static yX5_in, Cond.code yX5_in cX5_in 3 (some .boolean), Cond.methodLink RX5 74 yX5_takes, Cond.instanceMethod yX5_takes, Cond.selects RX5 yX5_takes yX5_takes, Cond.code yX5_takes cX5_takes 3 (some .boolean), Cond.methodLink RX5 91 yX5_takesBallot, Cond.instanceMethod yX5_takesBallot, Cond.selects RX5 yX5_takesBallot yX5_takesBallot, Cond.code yX5_takesBallot cX5_takesBallot 2 (some .boolean), Cond.methodLink RX5 78 yX5_takesSet, Cond.instanceMethod yX5_takesSet, Cond.selects RX5 yX5_takesSet yX5_takesSet, Cond.code yX5_takesSet cX5_takesSet 2 (some .boolean), Cond.methodLink RX5 66 yX5_isName, Cond.instanceMethod yX5_isName, Cond.selects RX5 yX5_isName yX5_isName, Cond.code yX5_isName cX5_isName 1 (some .boolean), Cond.methodLink RX5 81 yX5_readVoters, Cond.instanceMethod yX5_readVoters, Cond.selects RX5 yX5_readVoters yX5_readVoters]
def wsX5_fault_r3 : List Cond := [Cond.code yX5_readVoters cX5_readVoters 3 (some .int), Cond.methodLink RX5 94 yX5_takesSeats, Cond.instanceMethod yX5_takesSeats, Cond.selects RX5 yX5_takesSeats yX5_takesSeats, Cond.code yX5_takesSeats cX5_takesSeats 2 (some .boolean), Cond.methodLink RX5 97 yX5_takesRank, Cond.instanceMethod yX5_takesRank, Cond.selects RX5 yX5_takesRank yX5_takesRank, Cond.code yX5_takesRank cX5_takesRank 3 (some .boolean), Cond.methodLink RX5 85 yX5_has, Cond.static yX5_has, Cond.code yX5_has cX5_has 2 (some .boolean)]
def wsX5_fault : List Cond := .code yX5_fault cX5_fault 1 (some .int) :: ((wsX5_fault_r1 ++ (wsX5_fault_r2 ++ wsX5_fault_r3)) ++ wsX50)
def wsX5_lay_r1 : List Cond := [Cond.fieldLink RX5 13 "LoadCouncilModel" "read" "[I", Cond.fieldLink RX5 7 "LoadCouncilModel" "now" "[I", Cond.fieldLink RX5 106 "LoadCouncilModel" "changes" "I", Cond.methodLink RX5 103 yX5_faultOf, Cond.instanceMethod yX5_faultOf, Cond.selects RX5 yX5_faultOf yX5_faultOf, Cond.initialized RX5, Cond.code yX5_faultOf cX5_faultOf 2 (some .int), Cond.fieldLink RX5 56 "LoadCouncilModel" "spot" "I", Cond.fieldLink RX5 52 "LoadCouncilModel" "letters" "I", Cond.methodLink RX5 100 yX5_takesItem, Cond.instanceMethod yX5_takesItem, Cond.selects RX5 yX5_takesItem yX5_takesItem, Cond.code yX5_takesItem cX5_takesItem 3 (some .boolean), Cond.methodLink RX5 62 yX5_letterAt, Cond.instanceMethod yX5_letterAt, Cond.selects RX5 yX5_letterAt yX5_letterAt, Cond.code yX5_letterAt cX5_letterAt 2 (some .int), Cond.fieldLink RX5 19 "LoadCouncilModel" "text" "[I", Cond.methodLink RX5 88 yX5_takesCandidates, Cond.instanceMethod yX5_takesCandidates, Cond.selects RX5 yX5_takesCandidates yX5_takesCandidates, Cond.code yX5_takesCandidates cX5_takesCandidates 2 (some .boolean), Cond.fieldLink RX5 59 "LoadCouncilModel" "value" "I"]
def wsX5_lay_r2 : List Cond := [Cond.methodLink RX5 70 yX5_takesNumber, Cond.instanceMethod yX5_takesNumber, Cond.selects RX5 yX5_takesNumber yX5_takesNumber, Cond.code yX5_takesNumber cX5_takesNumber 4 (some .boolean), Cond.methodLink RX5 48 yX5_in, Cond.static yX5_in, Cond.code yX5_in cX5_in 3 (some .boolean), Cond.methodLink RX5 74 yX5_takes, Cond.instanceMethod yX5_takes, Cond.selects RX5 yX5_takes yX5_takes, Cond.code yX5_takes cX5_takes 3 (some .boolean), Cond.methodLink RX5 91 yX5_takesBallot, Cond.instanceMethod yX5_takesBallot, Cond.selects RX5 yX5_takesBallot yX5_takesBallot, Cond.code yX5_takesBallot cX5_takesBallot 2 (some .boolean), Cond.methodLink RX5 78 yX5_takesSet, Cond.instanceMethod yX5_takesSet, Cond.selects RX5 yX5_takesSet yX5_takesSet, Cond.code yX5_takesSet cX5_takesSet 2 (some .boolean), Cond.methodLink RX5 66 yX5_isName, Cond.instanceMethod yX5_isName, Cond.selects RX5 yX5_isName yX5_isName, Cond.code yX5_isName cX5_isName 1 (some .boolean), Cond.methodLink RX5 81 yX5_readVoters]
def wsX5_lay_r3 : List Cond := [Cond.instanceMethod yX5_readVoters, Cond.selects RX5 yX5_readVoters yX5_readVoters, Cond.code yX5_readVoters cX5_readVoters 3 (some .int), Cond.methodLink RX5 94 yX5_takesSeats, Cond.instanceMethod yX5_takesSeats, Cond.selects RX5 yX5_takesSeats yX5_takesSeats, Cond.code yX5_takesSeats cX5_takesSeats 2 (some .boolean), Cond.methodLink RX5 97 yX5_takesRank, Cond.instanceMethod yX5_takesRank, Cond.selects RX5 yX5_takesRank yX5_takesRank, Cond.code yX5_takesRank cX5_takesRank 3 (some .boolean), Cond.methodLink RX5 85 yX5_has, Cond.static yX5_has, Cond.code yX5_has cX5_has 2 (some .boolean)]
def wsX5_lay : List Cond := .code yX5_lay cX5_lay 2 (some .int) :: ((wsX5_lay_r1 ++ (wsX5_lay_r2 ++ wsX5_lay_r3)) ++ wsX50)
def wsX5_remembers : List Cond := .code yX5_remembers cX5_remembers 2 none :: ([.fieldLink RX5 106 "LoadCouncilModel" "changes" "I", .fieldLink RX5 16 "LoadCouncilModel" "past" "[I", .fieldLink RX5 7 "LoadCouncilModel" "now" "[I"] ++ wsX50)
def wsX5_exchanges : List Cond := .code yX5_exchanges cX5_exchanges 4 (some .int) :: ([.fieldLink RX5 7 "LoadCouncilModel" "now" "[I", .methodLink RX5 109 yX5_remembers, .instanceMethod yX5_remembers, .selects RX5 yX5_remembers yX5_remembers, .initialized RX5, .code yX5_remembers cX5_remembers 2 none, .fieldLink RX5 106 "LoadCouncilModel" "changes" "I", .fieldLink RX5 16 "LoadCouncilModel" "past" "[I"] ++ wsX50)
def wsX5_ballot : List Cond := .code yX5_ballot cX5_ballot 3 (some .int) :: ([.fieldLink RX5 7 "LoadCouncilModel" "now" "[I", .methodLink RX5 48 yX5_in, .static yX5_in, .initialized RX5, .code yX5_in cX5_in 3 (some .boolean), .methodLink RX5 112 yX5_isSet, .instanceMethod yX5_isSet, .selects RX5 yX5_isSet yX5_isSet, .code yX5_isSet cX5_isSet 2 (some .boolean), .methodLink RX5 115 yX5_allVoters, .instanceMethod yX5_allVoters, .selects RX5 yX5_allVoters yX5_allVoters, .code yX5_allVoters cX5_allVoters 3 (some .int), .methodLink RX5 109 yX5_remembers, .instanceMethod yX5_remembers, .selects RX5 yX5_remembers yX5_remembers, .code yX5_remembers cX5_remembers 2 none, .fieldLink RX5 106 "LoadCouncilModel" "changes" "I", .fieldLink RX5 16 "LoadCouncilModel" "past" "[I", .methodLink RX5 44 yX5_adds, .instanceMethod yX5_adds, .selects RX5 yX5_adds yX5_adds, .code yX5_adds cX5_adds 3 none] ++ wsX50)
def wsX5_voters : List Cond := .code yX5_voters cX5_voters 3 (some .int) :: ([.fieldLink RX5 7 "LoadCouncilModel" "now" "[I", .methodLink RX5 118 yX5_isBallot, .instanceMethod yX5_isBallot, .selects RX5 yX5_isBallot yX5_isBallot, .initialized RX5, .code yX5_isBallot cX5_isBallot 2 (some .boolean), .methodLink RX5 48 yX5_in, .static yX5_in, .code yX5_in cX5_in 3 (some .boolean), .methodLink RX5 115 yX5_allVoters, .instanceMethod yX5_allVoters, .selects RX5 yX5_allVoters yX5_allVoters, .code yX5_allVoters cX5_allVoters 3 (some .int), .methodLink RX5 121 yX5_exchanges, .instanceMethod yX5_exchanges, .selects RX5 yX5_exchanges yX5_exchanges, .code yX5_exchanges cX5_exchanges 4 (some .int), .methodLink RX5 109 yX5_remembers, .instanceMethod yX5_remembers, .selects RX5 yX5_remembers yX5_remembers, .code yX5_remembers cX5_remembers 2 none, .fieldLink RX5 106 "LoadCouncilModel" "changes" "I", .fieldLink RX5 16 "LoadCouncilModel" "past" "[I"] ++ wsX50)
def wsX5_approve : List Cond := .code yX5_approve cX5_approve 3 (some .int) :: ([.fieldLink RX5 7 "LoadCouncilModel" "now" "[I", .methodLink RX5 118 yX5_isBallot, .instanceMethod yX5_isBallot, .selects RX5 yX5_isBallot yX5_isBallot, .initialized RX5, .code yX5_isBallot cX5_isBallot 2 (some .boolean), .methodLink RX5 48 yX5_in, .static yX5_in, .code yX5_in cX5_in 3 (some .boolean), .methodLink RX5 112 yX5_isSet, .instanceMethod yX5_isSet, .selects RX5 yX5_isSet yX5_isSet, .code yX5_isSet cX5_isSet 2 (some .boolean), .methodLink RX5 121 yX5_exchanges, .instanceMethod yX5_exchanges, .selects RX5 yX5_exchanges yX5_exchanges, .code yX5_exchanges cX5_exchanges 4 (some .int), .methodLink RX5 109 yX5_remembers, .instanceMethod yX5_remembers, .selects RX5 yX5_remembers yX5_remembers, .code yX5_remembers cX5_remembers 2 none, .fieldLink RX5 106 "LoadCouncilModel" "changes" "I", .fieldLink RX5 16 "LoadCouncilModel" "past" "[I"] ++ wsX50)
def wsX5_seats : List Cond := .code yX5_seats cX5_seats 2 (some .int) :: ([.fieldLink RX5 7 "LoadCouncilModel" "now" "[I", .methodLink RX5 48 yX5_in, .static yX5_in, .initialized RX5, .code yX5_in cX5_in 3 (some .boolean), .methodLink RX5 121 yX5_exchanges, .instanceMethod yX5_exchanges, .selects RX5 yX5_exchanges yX5_exchanges, .code yX5_exchanges cX5_exchanges 4 (some .int), .methodLink RX5 109 yX5_remembers, .instanceMethod yX5_remembers, .selects RX5 yX5_remembers yX5_remembers, .code yX5_remembers cX5_remembers 2 none, .fieldLink RX5 106 "LoadCouncilModel" "changes" "I", .fieldLink RX5 16 "LoadCouncilModel" "past" "[I"] ++ wsX50)
def wsX5_withdraw_r1 : List Cond := [Cond.fieldLink RX5 7 "LoadCouncilModel" "now" "[I", Cond.methodLink RX5 125 yX5_isCandidate, Cond.instanceMethod yX5_isCandidate, Cond.selects RX5 yX5_isCandidate yX5_isCandidate, Cond.initialized RX5, Cond.code yX5_isCandidate cX5_isCandidate 2 (some .boolean), Cond.methodLink RX5 48 yX5_in, Cond.static yX5_in, Cond.code yX5_in cX5_in 3 (some .boolean), Cond.methodLink RX5 85 yX5_has, Cond.static yX5_has, Cond.code yX5_has cX5_has 2 (some .boolean), Cond.methodLink RX5 121 yX5_exchanges, Cond.instanceMethod yX5_exchanges, Cond.selects RX5 yX5_exchanges yX5_exchanges, Cond.code yX5_exchanges cX5_exchanges 4 (some .int), Cond.methodLink RX5 109 yX5_remembers, Cond.instanceMethod yX5_remembers, Cond.selects RX5 yX5_remembers yX5_remembers, Cond.code yX5_remembers cX5_remembers 2 none, Cond.fieldLink RX5 106 "LoadCouncilModel" "changes" "I", Cond.fieldLink RX5 16 "LoadCouncilModel" "past" "[I", Cond.methodLink RX5 128 yX5_ones, Cond.static yX5_ones]
def wsX5_withdraw_r2 : List Cond := [Cond.code yX5_ones cX5_ones 3 (some .int)]
def wsX5_withdraw : List Cond := .code yX5_withdraw cX5_withdraw 4 (some .int) :: ((wsX5_withdraw_r1 ++ wsX5_withdraw_r2) ++ wsX50)
def wsX5_placeOf : List Cond := .code yX5_placeOf cX5_placeOf 3 (some .int) :: ([.fieldLink RX5 7 "LoadCouncilModel" "now" "[I"] ++ wsX50)
def wsX5_prefer : List Cond := .code yX5_prefer cX5_prefer 4 (some .int) :: ([.fieldLink RX5 7 "LoadCouncilModel" "now" "[I", .methodLink RX5 125 yX5_isCandidate, .instanceMethod yX5_isCandidate, .selects RX5 yX5_isCandidate yX5_isCandidate, .initialized RX5, .code yX5_isCandidate cX5_isCandidate 2 (some .boolean), .methodLink RX5 48 yX5_in, .static yX5_in, .code yX5_in cX5_in 3 (some .boolean), .methodLink RX5 131 yX5_placeOf, .instanceMethod yX5_placeOf, .selects RX5 yX5_placeOf yX5_placeOf, .code yX5_placeOf cX5_placeOf 3 (some .int), .methodLink RX5 109 yX5_remembers, .instanceMethod yX5_remembers, .selects RX5 yX5_remembers yX5_remembers, .code yX5_remembers cX5_remembers 2 none, .fieldLink RX5 106 "LoadCouncilModel" "changes" "I", .fieldLink RX5 16 "LoadCouncilModel" "past" "[I"] ++ wsX50)
def wsX5_undo : List Cond := .code yX5_undo cX5_undo 2 (some .int) :: ([.fieldLink RX5 106 "LoadCouncilModel" "changes" "I", .fieldLink RX5 7 "LoadCouncilModel" "now" "[I", .fieldLink RX5 16 "LoadCouncilModel" "past" "[I"] ++ wsX50)
def wsX5_lays : List Cond := .code yX5_lays cX5_lays 2 none :: ([.fieldLink RX5 7 "LoadCouncilModel" "now" "[I", .fieldLink RX5 134 "LoadCouncilModel" "ballots" "I", .fieldLink RX5 22 "LoadCouncilModel" "heads" "[I", .fieldLink RX5 25 "LoadCouncilModel" "sets" "[I", .fieldLink RX5 28 "LoadCouncilModel" "ranks" "[I"] ++ wsX50)
def wsX5_supportOf : List Cond := .code yX5_supportOf cX5_supportOf 4 (some .int) :: ([.fieldLink RX5 134 "LoadCouncilModel" "ballots" "I", .fieldLink RX5 25 "LoadCouncilModel" "sets" "[I", .fieldLink RX5 22 "LoadCouncilModel" "heads" "[I", .methodLink RX5 85 yX5_has, .static yX5_has, .initialized RX5, .code yX5_has cX5_has 2 (some .boolean)] ++ wsX50)
def wsX5_loadOf : List Cond := .code yX5_loadOf cX5_loadOf 5 (some .long) :: ([.fieldLink RX5 137 "LoadCouncilModel" "below" "J", .fieldLink RX5 134 "LoadCouncilModel" "ballots" "I", .fieldLink RX5 25 "LoadCouncilModel" "sets" "[I", .fieldLink RX5 22 "LoadCouncilModel" "heads" "[I", .fieldLink RX5 31 "LoadCouncilModel" "loads" "[J", .methodLink RX5 85 yX5_has, .static yX5_has, .initialized RX5, .code yX5_has cX5_has 2 (some .boolean)] ++ wsX50)
def wsX5_weightOf : List Cond := .code yX5_weightOf cX5_weightOf 5 (some .int) :: ([.fieldLink RX5 134 "LoadCouncilModel" "ballots" "I", .fieldLink RX5 25 "LoadCouncilModel" "sets" "[I", .fieldLink RX5 141 "LoadCouncilModel" "members" "I", .fieldLink RX5 22 "LoadCouncilModel" "heads" "[I", .methodLink RX5 128 yX5_ones, .static yX5_ones, .initialized RX5, .code yX5_ones cX5_ones 3 (some .int), .methodLink RX5 85 yX5_has, .static yX5_has, .code yX5_has cX5_has 2 (some .boolean)] ++ wsX50)
def wsX5_isAhead_r1 : List Cond := [Cond.methodLink RX5 144 yX5_supportOf, Cond.instanceMethod yX5_supportOf, Cond.selects RX5 yX5_supportOf yX5_supportOf, Cond.initialized RX5, Cond.code yX5_supportOf cX5_supportOf 4 (some .int), Cond.fieldLink RX5 134 "LoadCouncilModel" "ballots" "I", Cond.fieldLink RX5 25 "LoadCouncilModel" "sets" "[I", Cond.fieldLink RX5 22 "LoadCouncilModel" "heads" "[I", Cond.methodLink RX5 85 yX5_has, Cond.static yX5_has, Cond.code yX5_has cX5_has 2 (some .boolean), Cond.methodLink RX5 147 yX5_weightOf, Cond.instanceMethod yX5_weightOf, Cond.selects RX5 yX5_weightOf yX5_weightOf, Cond.code yX5_weightOf cX5_weightOf 5 (some .int), Cond.fieldLink RX5 141 "LoadCouncilModel" "members" "I", Cond.methodLink RX5 128 yX5_ones, Cond.static yX5_ones, Cond.code yX5_ones cX5_ones 3 (some .int), Cond.methodLink RX5 150 yX5_loadOf, Cond.instanceMethod yX5_loadOf, Cond.selects RX5 yX5_loadOf yX5_loadOf, Cond.code yX5_loadOf cX5_loadOf 5 (some .long), Cond.fieldLink RX5 137 "LoadCouncilModel" "below" "J"]
def wsX5_isAhead_r2 : List Cond := [Cond.fieldLink RX5 31 "LoadCouncilModel" "loads" "[J"]
def wsX5_isAhead : List Cond := .code yX5_isAhead cX5_isAhead 4 (some .boolean) :: ((wsX5_isAhead_r1 ++ wsX5_isAhead_r2) ++ wsX50)
def wsX5_nextOf_r1 : List Cond := [Cond.fieldLink RX5 7 "LoadCouncilModel" "now" "[I", Cond.fieldLink RX5 28 "LoadCouncilModel" "ranks" "[I", Cond.fieldLink RX5 141 "LoadCouncilModel" "members" "I", Cond.methodLink RX5 85 yX5_has, Cond.static yX5_has, Cond.initialized RX5, Cond.code yX5_has cX5_has 2 (some .boolean), Cond.methodLink RX5 144 yX5_supportOf, Cond.instanceMethod yX5_supportOf, Cond.selects RX5 yX5_supportOf yX5_supportOf, Cond.code yX5_supportOf cX5_supportOf 4 (some .int), Cond.fieldLink RX5 134 "LoadCouncilModel" "ballots" "I", Cond.fieldLink RX5 25 "LoadCouncilModel" "sets" "[I", Cond.fieldLink RX5 22 "LoadCouncilModel" "heads" "[I", Cond.methodLink RX5 154 yX5_isAhead, Cond.instanceMethod yX5_isAhead, Cond.selects RX5 yX5_isAhead yX5_isAhead, Cond.code yX5_isAhead cX5_isAhead 4 (some .boolean), Cond.methodLink RX5 147 yX5_weightOf, Cond.instanceMethod yX5_weightOf, Cond.selects RX5 yX5_weightOf yX5_weightOf, Cond.code yX5_weightOf cX5_weightOf 5 (some .int), Cond.methodLink RX5 128 yX5_ones, Cond.static yX5_ones]
def wsX5_nextOf_r2 : List Cond := [Cond.code yX5_ones cX5_ones 3 (some .int), Cond.methodLink RX5 150 yX5_loadOf, Cond.instanceMethod yX5_loadOf, Cond.selects RX5 yX5_loadOf yX5_loadOf, Cond.code yX5_loadOf cX5_loadOf 5 (some .long), Cond.fieldLink RX5 137 "LoadCouncilModel" "below" "J", Cond.fieldLink RX5 31 "LoadCouncilModel" "loads" "[J"]
def wsX5_nextOf : List Cond := .code yX5_nextOf cX5_nextOf 8 (some .int) :: ((wsX5_nextOf_r1 ++ wsX5_nextOf_r2) ++ wsX50)
def wsX5_comesBy_r1 : List Cond := [Cond.fieldLink RX5 38 "LoadCouncilModel" "above" "[J", Cond.fieldLink RX5 157 "LoadCouncilModel" "elected" "I", Cond.fieldLink RX5 41 "LoadCouncilModel" "under" "[J", Cond.constantLong RX5 160 (2520), Cond.fieldLink RX5 137 "LoadCouncilModel" "below" "J", Cond.fieldLink RX5 134 "LoadCouncilModel" "ballots" "I", Cond.fieldLink RX5 31 "LoadCouncilModel" "loads" "[J", Cond.fieldLink RX5 25 "LoadCouncilModel" "sets" "[I", Cond.methodLink RX5 144 yX5_supportOf, Cond.instanceMethod yX5_supportOf, Cond.selects RX5 yX5_supportOf yX5_supportOf, Cond.initialized RX5, Cond.code yX5_supportOf cX5_supportOf 4 (some .int), Cond.fieldLink RX5 22 "LoadCouncilModel" "heads" "[I", Cond.methodLink RX5 85 yX5_has, Cond.static yX5_has, Cond.code yX5_has cX5_has 2 (some .boolean), Cond.methodLink RX5 147 yX5_weightOf, Cond.instanceMethod yX5_weightOf, Cond.selects RX5 yX5_weightOf yX5_weightOf, Cond.code yX5_weightOf cX5_weightOf 5 (some .int), Cond.fieldLink RX5 141 "LoadCouncilModel" "members" "I", Cond.methodLink RX5 128 yX5_ones, Cond.static yX5_ones]
def wsX5_comesBy_r2 : List Cond := [Cond.code yX5_ones cX5_ones 3 (some .int), Cond.methodLink RX5 150 yX5_loadOf, Cond.instanceMethod yX5_loadOf, Cond.selects RX5 yX5_loadOf yX5_loadOf, Cond.code yX5_loadOf cX5_loadOf 5 (some .long)]
def wsX5_comesBy : List Cond := .code yX5_comesBy cX5_comesBy 7 none :: ((wsX5_comesBy_r1 ++ wsX5_comesBy_r2) ++ wsX50)
def wsX5_elects_r1 : List Cond := [Cond.fieldLink RX5 157 "LoadCouncilModel" "elected" "I", Cond.fieldLink RX5 141 "LoadCouncilModel" "members" "I", Cond.fieldLink RX5 137 "LoadCouncilModel" "below" "J", Cond.fieldLink RX5 134 "LoadCouncilModel" "ballots" "I", Cond.fieldLink RX5 31 "LoadCouncilModel" "loads" "[J", Cond.fieldLink RX5 7 "LoadCouncilModel" "now" "[I", Cond.fieldLink RX5 38 "LoadCouncilModel" "above" "[J", Cond.fieldLink RX5 41 "LoadCouncilModel" "under" "[J", Cond.fieldLink RX5 35 "LoadCouncilModel" "order" "[I", Cond.methodLink RX5 162 yX5_nextOf, Cond.instanceMethod yX5_nextOf, Cond.selects RX5 yX5_nextOf yX5_nextOf, Cond.initialized RX5, Cond.code yX5_nextOf cX5_nextOf 8 (some .int), Cond.fieldLink RX5 28 "LoadCouncilModel" "ranks" "[I", Cond.methodLink RX5 85 yX5_has, Cond.static yX5_has, Cond.code yX5_has cX5_has 2 (some .boolean), Cond.methodLink RX5 144 yX5_supportOf, Cond.instanceMethod yX5_supportOf, Cond.selects RX5 yX5_supportOf yX5_supportOf, Cond.code yX5_supportOf cX5_supportOf 4 (some .int), Cond.fieldLink RX5 25 "LoadCouncilModel" "sets" "[I", Cond.fieldLink RX5 22 "LoadCouncilModel" "heads" "[I"]
def wsX5_elects_r2 : List Cond := [Cond.methodLink RX5 154 yX5_isAhead, Cond.instanceMethod yX5_isAhead, Cond.selects RX5 yX5_isAhead yX5_isAhead, Cond.code yX5_isAhead cX5_isAhead 4 (some .boolean), Cond.methodLink RX5 147 yX5_weightOf, Cond.instanceMethod yX5_weightOf, Cond.selects RX5 yX5_weightOf yX5_weightOf, Cond.code yX5_weightOf cX5_weightOf 5 (some .int), Cond.methodLink RX5 128 yX5_ones, Cond.static yX5_ones, Cond.code yX5_ones cX5_ones 3 (some .int), Cond.methodLink RX5 150 yX5_loadOf, Cond.instanceMethod yX5_loadOf, Cond.selects RX5 yX5_loadOf yX5_loadOf, Cond.code yX5_loadOf cX5_loadOf 5 (some .long), Cond.methodLink RX5 166 yX5_comesBy, Cond.instanceMethod yX5_comesBy, Cond.selects RX5 yX5_comesBy yX5_comesBy, Cond.code yX5_comesBy cX5_comesBy 7 none, Cond.constantLong RX5 160 (2520)]
def wsX5_elects : List Cond := .code yX5_elects cX5_elects 4 none :: ((wsX5_elects_r1 ++ wsX5_elects_r2) ++ wsX50)
def wsX5_membersBy_r1 : List Cond := [Cond.fieldLink RX5 141 "LoadCouncilModel" "members" "I", Cond.methodLink RX5 169 yX5_lays, Cond.instanceMethod yX5_lays, Cond.selects RX5 yX5_lays yX5_lays, Cond.initialized RX5, Cond.code yX5_lays cX5_lays 2 none, Cond.fieldLink RX5 7 "LoadCouncilModel" "now" "[I", Cond.fieldLink RX5 134 "LoadCouncilModel" "ballots" "I", Cond.fieldLink RX5 22 "LoadCouncilModel" "heads" "[I", Cond.fieldLink RX5 25 "LoadCouncilModel" "sets" "[I", Cond.fieldLink RX5 28 "LoadCouncilModel" "ranks" "[I", Cond.methodLink RX5 172 yX5_elects, Cond.instanceMethod yX5_elects, Cond.selects RX5 yX5_elects yX5_elects, Cond.code yX5_elects cX5_elects 4 none, Cond.fieldLink RX5 157 "LoadCouncilModel" "elected" "I", Cond.fieldLink RX5 137 "LoadCouncilModel" "below" "J", Cond.fieldLink RX5 31 "LoadCouncilModel" "loads" "[J", Cond.fieldLink RX5 38 "LoadCouncilModel" "above" "[J", Cond.fieldLink RX5 41 "LoadCouncilModel" "under" "[J", Cond.fieldLink RX5 35 "LoadCouncilModel" "order" "[I", Cond.methodLink RX5 162 yX5_nextOf, Cond.instanceMethod yX5_nextOf, Cond.selects RX5 yX5_nextOf yX5_nextOf]
def wsX5_membersBy_r2 : List Cond := [Cond.code yX5_nextOf cX5_nextOf 8 (some .int), Cond.methodLink RX5 85 yX5_has, Cond.static yX5_has, Cond.code yX5_has cX5_has 2 (some .boolean), Cond.methodLink RX5 144 yX5_supportOf, Cond.instanceMethod yX5_supportOf, Cond.selects RX5 yX5_supportOf yX5_supportOf, Cond.code yX5_supportOf cX5_supportOf 4 (some .int), Cond.methodLink RX5 154 yX5_isAhead, Cond.instanceMethod yX5_isAhead, Cond.selects RX5 yX5_isAhead yX5_isAhead, Cond.code yX5_isAhead cX5_isAhead 4 (some .boolean), Cond.methodLink RX5 147 yX5_weightOf, Cond.instanceMethod yX5_weightOf, Cond.selects RX5 yX5_weightOf yX5_weightOf, Cond.code yX5_weightOf cX5_weightOf 5 (some .int), Cond.methodLink RX5 128 yX5_ones, Cond.static yX5_ones, Cond.code yX5_ones cX5_ones 3 (some .int), Cond.methodLink RX5 150 yX5_loadOf, Cond.instanceMethod yX5_loadOf, Cond.selects RX5 yX5_loadOf yX5_loadOf, Cond.code yX5_loadOf cX5_loadOf 5 (some .long), Cond.methodLink RX5 166 yX5_comesBy]
def wsX5_membersBy_r3 : List Cond := [Cond.instanceMethod yX5_comesBy, Cond.selects RX5 yX5_comesBy yX5_comesBy, Cond.code yX5_comesBy cX5_comesBy 7 none, Cond.constantLong RX5 160 (2520)]
def wsX5_membersBy : List Cond := .code yX5_membersBy cX5_membersBy 2 (some .int) :: ((wsX5_membersBy_r1 ++ (wsX5_membersBy_r2 ++ wsX5_membersBy_r3)) ++ wsX50)
def wsX5_lawsOf_r1 : List Cond := [Cond.methodLink RX5 176 yX5_membersBy, Cond.instanceMethod yX5_membersBy, Cond.selects RX5 yX5_membersBy yX5_membersBy, Cond.initialized RX5, Cond.code yX5_membersBy cX5_membersBy 2 (some .int), Cond.fieldLink RX5 141 "LoadCouncilModel" "members" "I", Cond.methodLink RX5 169 yX5_lays, Cond.instanceMethod yX5_lays, Cond.selects RX5 yX5_lays yX5_lays, Cond.code yX5_lays cX5_lays 2 none, Cond.fieldLink RX5 7 "LoadCouncilModel" "now" "[I", Cond.fieldLink RX5 134 "LoadCouncilModel" "ballots" "I", Cond.fieldLink RX5 22 "LoadCouncilModel" "heads" "[I", Cond.fieldLink RX5 25 "LoadCouncilModel" "sets" "[I", Cond.fieldLink RX5 28 "LoadCouncilModel" "ranks" "[I", Cond.methodLink RX5 172 yX5_elects, Cond.instanceMethod yX5_elects, Cond.selects RX5 yX5_elects yX5_elects, Cond.code yX5_elects cX5_elects 4 none, Cond.fieldLink RX5 157 "LoadCouncilModel" "elected" "I", Cond.fieldLink RX5 137 "LoadCouncilModel" "below" "J", Cond.fieldLink RX5 31 "LoadCouncilModel" "loads" "[J", Cond.fieldLink RX5 38 "LoadCouncilModel" "above" "[J", Cond.fieldLink RX5 41 "LoadCouncilModel" "under" "[J"]
def wsX5_lawsOf_r2 : List Cond := [Cond.fieldLink RX5 35 "LoadCouncilModel" "order" "[I", Cond.methodLink RX5 162 yX5_nextOf, Cond.instanceMethod yX5_nextOf, Cond.selects RX5 yX5_nextOf yX5_nextOf, Cond.code yX5_nextOf cX5_nextOf 8 (some .int), Cond.methodLink RX5 85 yX5_has, Cond.static yX5_has, Cond.code yX5_has cX5_has 2 (some .boolean), Cond.methodLink RX5 144 yX5_supportOf, Cond.instanceMethod yX5_supportOf, Cond.selects RX5 yX5_supportOf yX5_supportOf, Cond.code yX5_supportOf cX5_supportOf 4 (some .int), Cond.methodLink RX5 154 yX5_isAhead, Cond.instanceMethod yX5_isAhead, Cond.selects RX5 yX5_isAhead yX5_isAhead, Cond.code yX5_isAhead cX5_isAhead 4 (some .boolean), Cond.methodLink RX5 147 yX5_weightOf, Cond.instanceMethod yX5_weightOf, Cond.selects RX5 yX5_weightOf yX5_weightOf, Cond.code yX5_weightOf cX5_weightOf 5 (some .int), Cond.methodLink RX5 128 yX5_ones, Cond.static yX5_ones, Cond.code yX5_ones cX5_ones 3 (some .int), Cond.methodLink RX5 150 yX5_loadOf]
def wsX5_lawsOf_r3 : List Cond := [Cond.instanceMethod yX5_loadOf, Cond.selects RX5 yX5_loadOf yX5_loadOf, Cond.code yX5_loadOf cX5_loadOf 5 (some .long), Cond.methodLink RX5 166 yX5_comesBy, Cond.instanceMethod yX5_comesBy, Cond.selects RX5 yX5_comesBy yX5_comesBy, Cond.code yX5_comesBy cX5_comesBy 7 none, Cond.constantLong RX5 160 (2520)]
def wsX5_lawsOf : List Cond := .code yX5_lawsOf cX5_lawsOf 4 (some .int) :: ((wsX5_lawsOf_r1 ++ (wsX5_lawsOf_r2 ++ wsX5_lawsOf_r3)) ++ wsX50)
def wsX5_aboutCandidate_r1 : List Cond := [Cond.fieldLink RX5 7 "LoadCouncilModel" "now" "[I", Cond.methodLink RX5 169 yX5_lays, Cond.instanceMethod yX5_lays, Cond.selects RX5 yX5_lays yX5_lays, Cond.initialized RX5, Cond.code yX5_lays cX5_lays 2 none, Cond.fieldLink RX5 134 "LoadCouncilModel" "ballots" "I", Cond.fieldLink RX5 22 "LoadCouncilModel" "heads" "[I", Cond.fieldLink RX5 25 "LoadCouncilModel" "sets" "[I", Cond.fieldLink RX5 28 "LoadCouncilModel" "ranks" "[I", Cond.methodLink RX5 144 yX5_supportOf, Cond.instanceMethod yX5_supportOf, Cond.selects RX5 yX5_supportOf yX5_supportOf, Cond.code yX5_supportOf cX5_supportOf 4 (some .int), Cond.methodLink RX5 85 yX5_has, Cond.static yX5_has, Cond.code yX5_has cX5_has 2 (some .boolean), Cond.methodLink RX5 131 yX5_placeOf, Cond.instanceMethod yX5_placeOf, Cond.selects RX5 yX5_placeOf yX5_placeOf, Cond.code yX5_placeOf cX5_placeOf 3 (some .int), Cond.methodLink RX5 179 yX5_lawsOf, Cond.instanceMethod yX5_lawsOf, Cond.selects RX5 yX5_lawsOf yX5_lawsOf]
def wsX5_aboutCandidate_r2 : List Cond := [Cond.code yX5_lawsOf cX5_lawsOf 4 (some .int), Cond.methodLink RX5 176 yX5_membersBy, Cond.instanceMethod yX5_membersBy, Cond.selects RX5 yX5_membersBy yX5_membersBy, Cond.code yX5_membersBy cX5_membersBy 2 (some .int), Cond.fieldLink RX5 141 "LoadCouncilModel" "members" "I", Cond.methodLink RX5 172 yX5_elects, Cond.instanceMethod yX5_elects, Cond.selects RX5 yX5_elects yX5_elects, Cond.code yX5_elects cX5_elects 4 none, Cond.fieldLink RX5 157 "LoadCouncilModel" "elected" "I", Cond.fieldLink RX5 137 "LoadCouncilModel" "below" "J", Cond.fieldLink RX5 31 "LoadCouncilModel" "loads" "[J", Cond.fieldLink RX5 38 "LoadCouncilModel" "above" "[J", Cond.fieldLink RX5 41 "LoadCouncilModel" "under" "[J", Cond.fieldLink RX5 35 "LoadCouncilModel" "order" "[I", Cond.methodLink RX5 162 yX5_nextOf, Cond.instanceMethod yX5_nextOf, Cond.selects RX5 yX5_nextOf yX5_nextOf, Cond.code yX5_nextOf cX5_nextOf 8 (some .int), Cond.methodLink RX5 154 yX5_isAhead, Cond.instanceMethod yX5_isAhead, Cond.selects RX5 yX5_isAhead yX5_isAhead, Cond.code yX5_isAhead cX5_isAhead 4 (some .boolean)]
def wsX5_aboutCandidate_r3 : List Cond := [Cond.methodLink RX5 147 yX5_weightOf, Cond.instanceMethod yX5_weightOf, Cond.selects RX5 yX5_weightOf yX5_weightOf, Cond.code yX5_weightOf cX5_weightOf 5 (some .int), Cond.methodLink RX5 128 yX5_ones, Cond.static yX5_ones, Cond.code yX5_ones cX5_ones 3 (some .int), Cond.methodLink RX5 150 yX5_loadOf, Cond.instanceMethod yX5_loadOf, Cond.selects RX5 yX5_loadOf yX5_loadOf, Cond.code yX5_loadOf cX5_loadOf 5 (some .long), Cond.methodLink RX5 166 yX5_comesBy, Cond.instanceMethod yX5_comesBy, Cond.selects RX5 yX5_comesBy yX5_comesBy, Cond.code yX5_comesBy cX5_comesBy 7 none, Cond.constantLong RX5 160 (2520)]
def wsX5_aboutCandidate : List Cond := .code yX5_aboutCandidate cX5_aboutCandidate 3 (some .int) :: ((wsX5_aboutCandidate_r1 ++ (wsX5_aboutCandidate_r2 ++ wsX5_aboutCandidate_r3)) ++ wsX50)
def wsX5_candidate_r1 : List Cond := [Cond.methodLink RX5 125 yX5_isCandidate, Cond.instanceMethod yX5_isCandidate, Cond.selects RX5 yX5_isCandidate yX5_isCandidate, Cond.initialized RX5, Cond.code yX5_isCandidate cX5_isCandidate 2 (some .boolean), Cond.fieldLink RX5 7 "LoadCouncilModel" "now" "[I", Cond.methodLink RX5 48 yX5_in, Cond.static yX5_in, Cond.code yX5_in cX5_in 3 (some .boolean), Cond.methodLink RX5 182 yX5_aboutCandidate, Cond.instanceMethod yX5_aboutCandidate, Cond.selects RX5 yX5_aboutCandidate yX5_aboutCandidate, Cond.code yX5_aboutCandidate cX5_aboutCandidate 3 (some .int), Cond.methodLink RX5 169 yX5_lays, Cond.instanceMethod yX5_lays, Cond.selects RX5 yX5_lays yX5_lays, Cond.code yX5_lays cX5_lays 2 none, Cond.fieldLink RX5 134 "LoadCouncilModel" "ballots" "I", Cond.fieldLink RX5 22 "LoadCouncilModel" "heads" "[I", Cond.fieldLink RX5 25 "LoadCouncilModel" "sets" "[I", Cond.fieldLink RX5 28 "LoadCouncilModel" "ranks" "[I", Cond.methodLink RX5 144 yX5_supportOf, Cond.instanceMethod yX5_supportOf, Cond.selects RX5 yX5_supportOf yX5_supportOf]
def wsX5_candidate_r2 : List Cond := [Cond.code yX5_supportOf cX5_supportOf 4 (some .int), Cond.methodLink RX5 85 yX5_has, Cond.static yX5_has, Cond.code yX5_has cX5_has 2 (some .boolean), Cond.methodLink RX5 131 yX5_placeOf, Cond.instanceMethod yX5_placeOf, Cond.selects RX5 yX5_placeOf yX5_placeOf, Cond.code yX5_placeOf cX5_placeOf 3 (some .int), Cond.methodLink RX5 179 yX5_lawsOf, Cond.instanceMethod yX5_lawsOf, Cond.selects RX5 yX5_lawsOf yX5_lawsOf, Cond.code yX5_lawsOf cX5_lawsOf 4 (some .int), Cond.methodLink RX5 176 yX5_membersBy, Cond.instanceMethod yX5_membersBy, Cond.selects RX5 yX5_membersBy yX5_membersBy, Cond.code yX5_membersBy cX5_membersBy 2 (some .int), Cond.fieldLink RX5 141 "LoadCouncilModel" "members" "I", Cond.methodLink RX5 172 yX5_elects, Cond.instanceMethod yX5_elects, Cond.selects RX5 yX5_elects yX5_elects, Cond.code yX5_elects cX5_elects 4 none, Cond.fieldLink RX5 157 "LoadCouncilModel" "elected" "I", Cond.fieldLink RX5 137 "LoadCouncilModel" "below" "J", Cond.fieldLink RX5 31 "LoadCouncilModel" "loads" "[J"]
def wsX5_candidate_r3 : List Cond := [Cond.fieldLink RX5 38 "LoadCouncilModel" "above" "[J", Cond.fieldLink RX5 41 "LoadCouncilModel" "under" "[J", Cond.fieldLink RX5 35 "LoadCouncilModel" "order" "[I", Cond.methodLink RX5 162 yX5_nextOf, Cond.instanceMethod yX5_nextOf, Cond.selects RX5 yX5_nextOf yX5_nextOf, Cond.code yX5_nextOf cX5_nextOf 8 (some .int), Cond.methodLink RX5 154 yX5_isAhead, Cond.instanceMethod yX5_isAhead, Cond.selects RX5 yX5_isAhead yX5_isAhead, Cond.code yX5_isAhead cX5_isAhead 4 (some .boolean), Cond.methodLink RX5 147 yX5_weightOf, Cond.instanceMethod yX5_weightOf, Cond.selects RX5 yX5_weightOf yX5_weightOf, Cond.code yX5_weightOf cX5_weightOf 5 (some .int), Cond.methodLink RX5 128 yX5_ones, Cond.static yX5_ones, Cond.code yX5_ones cX5_ones 3 (some .int), Cond.methodLink RX5 150 yX5_loadOf, Cond.instanceMethod yX5_loadOf, Cond.selects RX5 yX5_loadOf yX5_loadOf, Cond.code yX5_loadOf cX5_loadOf 5 (some .long), Cond.methodLink RX5 166 yX5_comesBy, Cond.instanceMethod yX5_comesBy]
def wsX5_candidate_r4 : List Cond := [Cond.selects RX5 yX5_comesBy yX5_comesBy, Cond.code yX5_comesBy cX5_comesBy 7 none, Cond.constantLong RX5 160 (2520)]
def wsX5_candidate : List Cond := .code yX5_candidate cX5_candidate 3 (some .int) :: ((wsX5_candidate_r1 ++ (wsX5_candidate_r2 ++ (wsX5_candidate_r3 ++ wsX5_candidate_r4))) ++ wsX50)
def wsX5_vote_r1 : List Cond := [Cond.fieldLink RX5 7 "LoadCouncilModel" "now" "[I", Cond.methodLink RX5 118 yX5_isBallot, Cond.instanceMethod yX5_isBallot, Cond.selects RX5 yX5_isBallot yX5_isBallot, Cond.initialized RX5, Cond.code yX5_isBallot cX5_isBallot 2 (some .boolean), Cond.methodLink RX5 48 yX5_in, Cond.static yX5_in, Cond.code yX5_in cX5_in 3 (some .boolean), Cond.methodLink RX5 176 yX5_membersBy, Cond.instanceMethod yX5_membersBy, Cond.selects RX5 yX5_membersBy yX5_membersBy, Cond.code yX5_membersBy cX5_membersBy 2 (some .int), Cond.fieldLink RX5 141 "LoadCouncilModel" "members" "I", Cond.methodLink RX5 169 yX5_lays, Cond.instanceMethod yX5_lays, Cond.selects RX5 yX5_lays yX5_lays, Cond.code yX5_lays cX5_lays 2 none, Cond.fieldLink RX5 134 "LoadCouncilModel" "ballots" "I", Cond.fieldLink RX5 22 "LoadCouncilModel" "heads" "[I", Cond.fieldLink RX5 25 "LoadCouncilModel" "sets" "[I", Cond.fieldLink RX5 28 "LoadCouncilModel" "ranks" "[I", Cond.methodLink RX5 172 yX5_elects, Cond.instanceMethod yX5_elects]
def wsX5_vote_r2 : List Cond := [Cond.selects RX5 yX5_elects yX5_elects, Cond.code yX5_elects cX5_elects 4 none, Cond.fieldLink RX5 157 "LoadCouncilModel" "elected" "I", Cond.fieldLink RX5 137 "LoadCouncilModel" "below" "J", Cond.fieldLink RX5 31 "LoadCouncilModel" "loads" "[J", Cond.fieldLink RX5 38 "LoadCouncilModel" "above" "[J", Cond.fieldLink RX5 41 "LoadCouncilModel" "under" "[J", Cond.fieldLink RX5 35 "LoadCouncilModel" "order" "[I", Cond.methodLink RX5 162 yX5_nextOf, Cond.instanceMethod yX5_nextOf, Cond.selects RX5 yX5_nextOf yX5_nextOf, Cond.code yX5_nextOf cX5_nextOf 8 (some .int), Cond.methodLink RX5 85 yX5_has, Cond.static yX5_has, Cond.code yX5_has cX5_has 2 (some .boolean), Cond.methodLink RX5 144 yX5_supportOf, Cond.instanceMethod yX5_supportOf, Cond.selects RX5 yX5_supportOf yX5_supportOf, Cond.code yX5_supportOf cX5_supportOf 4 (some .int), Cond.methodLink RX5 154 yX5_isAhead, Cond.instanceMethod yX5_isAhead, Cond.selects RX5 yX5_isAhead yX5_isAhead, Cond.code yX5_isAhead cX5_isAhead 4 (some .boolean), Cond.methodLink RX5 147 yX5_weightOf]
def wsX5_vote_r3 : List Cond := [Cond.instanceMethod yX5_weightOf, Cond.selects RX5 yX5_weightOf yX5_weightOf, Cond.code yX5_weightOf cX5_weightOf 5 (some .int), Cond.methodLink RX5 128 yX5_ones, Cond.static yX5_ones, Cond.code yX5_ones cX5_ones 3 (some .int), Cond.methodLink RX5 150 yX5_loadOf, Cond.instanceMethod yX5_loadOf, Cond.selects RX5 yX5_loadOf yX5_loadOf, Cond.code yX5_loadOf cX5_loadOf 5 (some .long), Cond.methodLink RX5 166 yX5_comesBy, Cond.instanceMethod yX5_comesBy, Cond.selects RX5 yX5_comesBy yX5_comesBy, Cond.code yX5_comesBy cX5_comesBy 7 none, Cond.constantLong RX5 160 (2520)]
def wsX5_vote : List Cond := .code yX5_vote cX5_vote 3 (some .int) :: ((wsX5_vote_r1 ++ (wsX5_vote_r2 ++ wsX5_vote_r3)) ++ wsX50)
def wsX5_member_r1 : List Cond := [Cond.fieldLink RX5 157 "LoadCouncilModel" "elected" "I", Cond.fieldLink RX5 35 "LoadCouncilModel" "order" "[I", Cond.methodLink RX5 185 yX5_isLaw, Cond.static yX5_isLaw, Cond.initialized RX5, Cond.code yX5_isLaw cX5_isLaw 1 (some .boolean), Cond.methodLink RX5 48 yX5_in, Cond.static yX5_in, Cond.code yX5_in cX5_in 3 (some .boolean), Cond.methodLink RX5 176 yX5_membersBy, Cond.instanceMethod yX5_membersBy, Cond.selects RX5 yX5_membersBy yX5_membersBy, Cond.code yX5_membersBy cX5_membersBy 2 (some .int), Cond.fieldLink RX5 141 "LoadCouncilModel" "members" "I", Cond.methodLink RX5 169 yX5_lays, Cond.instanceMethod yX5_lays, Cond.selects RX5 yX5_lays yX5_lays, Cond.code yX5_lays cX5_lays 2 none, Cond.fieldLink RX5 7 "LoadCouncilModel" "now" "[I", Cond.fieldLink RX5 134 "LoadCouncilModel" "ballots" "I", Cond.fieldLink RX5 22 "LoadCouncilModel" "heads" "[I", Cond.fieldLink RX5 25 "LoadCouncilModel" "sets" "[I", Cond.fieldLink RX5 28 "LoadCouncilModel" "ranks" "[I", Cond.methodLink RX5 172 yX5_elects]
def wsX5_member_r2 : List Cond := [Cond.instanceMethod yX5_elects, Cond.selects RX5 yX5_elects yX5_elects, Cond.code yX5_elects cX5_elects 4 none, Cond.fieldLink RX5 137 "LoadCouncilModel" "below" "J", Cond.fieldLink RX5 31 "LoadCouncilModel" "loads" "[J", Cond.fieldLink RX5 38 "LoadCouncilModel" "above" "[J", Cond.fieldLink RX5 41 "LoadCouncilModel" "under" "[J", Cond.methodLink RX5 162 yX5_nextOf, Cond.instanceMethod yX5_nextOf, Cond.selects RX5 yX5_nextOf yX5_nextOf, Cond.code yX5_nextOf cX5_nextOf 8 (some .int), Cond.methodLink RX5 85 yX5_has, Cond.static yX5_has, Cond.code yX5_has cX5_has 2 (some .boolean), Cond.methodLink RX5 144 yX5_supportOf, Cond.instanceMethod yX5_supportOf, Cond.selects RX5 yX5_supportOf yX5_supportOf, Cond.code yX5_supportOf cX5_supportOf 4 (some .int), Cond.methodLink RX5 154 yX5_isAhead, Cond.instanceMethod yX5_isAhead, Cond.selects RX5 yX5_isAhead yX5_isAhead, Cond.code yX5_isAhead cX5_isAhead 4 (some .boolean), Cond.methodLink RX5 147 yX5_weightOf, Cond.instanceMethod yX5_weightOf]
def wsX5_member_r3 : List Cond := [Cond.selects RX5 yX5_weightOf yX5_weightOf, Cond.code yX5_weightOf cX5_weightOf 5 (some .int), Cond.methodLink RX5 128 yX5_ones, Cond.static yX5_ones, Cond.code yX5_ones cX5_ones 3 (some .int), Cond.methodLink RX5 150 yX5_loadOf, Cond.instanceMethod yX5_loadOf, Cond.selects RX5 yX5_loadOf yX5_loadOf, Cond.code yX5_loadOf cX5_loadOf 5 (some .long), Cond.methodLink RX5 166 yX5_comesBy, Cond.instanceMethod yX5_comesBy, Cond.selects RX5 yX5_comesBy yX5_comesBy, Cond.code yX5_comesBy cX5_comesBy 7 none, Cond.constantLong RX5 160 (2520)]
def wsX5_member : List Cond := .code yX5_member cX5_member 4 (some .int) :: ((wsX5_member_r1 ++ (wsX5_member_r2 ++ wsX5_member_r3)) ++ wsX50)
def wsX5_members_r1 : List Cond := [Cond.methodLink RX5 185 yX5_isLaw, Cond.static yX5_isLaw, Cond.initialized RX5, Cond.code yX5_isLaw cX5_isLaw 1 (some .boolean), Cond.methodLink RX5 48 yX5_in, Cond.static yX5_in, Cond.code yX5_in cX5_in 3 (some .boolean), Cond.methodLink RX5 176 yX5_membersBy, Cond.instanceMethod yX5_membersBy, Cond.selects RX5 yX5_membersBy yX5_membersBy, Cond.code yX5_membersBy cX5_membersBy 2 (some .int), Cond.fieldLink RX5 141 "LoadCouncilModel" "members" "I", Cond.methodLink RX5 169 yX5_lays, Cond.instanceMethod yX5_lays, Cond.selects RX5 yX5_lays yX5_lays, Cond.code yX5_lays cX5_lays 2 none, Cond.fieldLink RX5 7 "LoadCouncilModel" "now" "[I", Cond.fieldLink RX5 134 "LoadCouncilModel" "ballots" "I", Cond.fieldLink RX5 22 "LoadCouncilModel" "heads" "[I", Cond.fieldLink RX5 25 "LoadCouncilModel" "sets" "[I", Cond.fieldLink RX5 28 "LoadCouncilModel" "ranks" "[I", Cond.methodLink RX5 172 yX5_elects, Cond.instanceMethod yX5_elects, Cond.selects RX5 yX5_elects yX5_elects]
def wsX5_members_r2 : List Cond := [Cond.code yX5_elects cX5_elects 4 none, Cond.fieldLink RX5 157 "LoadCouncilModel" "elected" "I", Cond.fieldLink RX5 137 "LoadCouncilModel" "below" "J", Cond.fieldLink RX5 31 "LoadCouncilModel" "loads" "[J", Cond.fieldLink RX5 38 "LoadCouncilModel" "above" "[J", Cond.fieldLink RX5 41 "LoadCouncilModel" "under" "[J", Cond.fieldLink RX5 35 "LoadCouncilModel" "order" "[I", Cond.methodLink RX5 162 yX5_nextOf, Cond.instanceMethod yX5_nextOf, Cond.selects RX5 yX5_nextOf yX5_nextOf, Cond.code yX5_nextOf cX5_nextOf 8 (some .int), Cond.methodLink RX5 85 yX5_has, Cond.static yX5_has, Cond.code yX5_has cX5_has 2 (some .boolean), Cond.methodLink RX5 144 yX5_supportOf, Cond.instanceMethod yX5_supportOf, Cond.selects RX5 yX5_supportOf yX5_supportOf, Cond.code yX5_supportOf cX5_supportOf 4 (some .int), Cond.methodLink RX5 154 yX5_isAhead, Cond.instanceMethod yX5_isAhead, Cond.selects RX5 yX5_isAhead yX5_isAhead, Cond.code yX5_isAhead cX5_isAhead 4 (some .boolean), Cond.methodLink RX5 147 yX5_weightOf, Cond.instanceMethod yX5_weightOf]
def wsX5_members_r3 : List Cond := [Cond.selects RX5 yX5_weightOf yX5_weightOf, Cond.code yX5_weightOf cX5_weightOf 5 (some .int), Cond.methodLink RX5 128 yX5_ones, Cond.static yX5_ones, Cond.code yX5_ones cX5_ones 3 (some .int), Cond.methodLink RX5 150 yX5_loadOf, Cond.instanceMethod yX5_loadOf, Cond.selects RX5 yX5_loadOf yX5_loadOf, Cond.code yX5_loadOf cX5_loadOf 5 (some .long), Cond.methodLink RX5 166 yX5_comesBy, Cond.instanceMethod yX5_comesBy, Cond.selects RX5 yX5_comesBy yX5_comesBy, Cond.code yX5_comesBy cX5_comesBy 7 none, Cond.constantLong RX5 160 (2520)]
def wsX5_members : List Cond := .code yX5_members cX5_members 2 (some .int) :: ((wsX5_members_r1 ++ (wsX5_members_r2 ++ wsX5_members_r3)) ++ wsX50)
def wsX5_partOf : List Cond := .code yX5_partOf cX5_partOf 11 (some .long) :: ([])
def wsX5_isPart : List Cond := .code yX5_isPart cX5_isPart 1 (some .boolean) :: ([.methodLink RX5 48 yX5_in, .static yX5_in, .initialized RX5, .code yX5_in cX5_in 3 (some .boolean)])
def wsX5_came_r1 : List Cond := [Cond.constantLong RX5 191 (-1), Cond.fieldLink RX5 157 "LoadCouncilModel" "elected" "I", Cond.fieldLink RX5 41 "LoadCouncilModel" "under" "[J", Cond.fieldLink RX5 38 "LoadCouncilModel" "above" "[J", Cond.constantLong RX5 197 (-4), Cond.methodLink RX5 185 yX5_isLaw, Cond.static yX5_isLaw, Cond.initialized RX5, Cond.code yX5_isLaw cX5_isLaw 1 (some .boolean), Cond.methodLink RX5 48 yX5_in, Cond.static yX5_in, Cond.code yX5_in cX5_in 3 (some .boolean), Cond.methodLink RX5 188 yX5_isPart, Cond.static yX5_isPart, Cond.code yX5_isPart cX5_isPart 1 (some .boolean), Cond.methodLink RX5 169 yX5_lays, Cond.instanceMethod yX5_lays, Cond.selects RX5 yX5_lays yX5_lays, Cond.code yX5_lays cX5_lays 2 none, Cond.fieldLink RX5 7 "LoadCouncilModel" "now" "[I", Cond.fieldLink RX5 134 "LoadCouncilModel" "ballots" "I", Cond.fieldLink RX5 22 "LoadCouncilModel" "heads" "[I", Cond.fieldLink RX5 25 "LoadCouncilModel" "sets" "[I", Cond.fieldLink RX5 28 "LoadCouncilModel" "ranks" "[I"]
def wsX5_came_r2 : List Cond := [Cond.methodLink RX5 172 yX5_elects, Cond.instanceMethod yX5_elects, Cond.selects RX5 yX5_elects yX5_elects, Cond.code yX5_elects cX5_elects 4 none, Cond.fieldLink RX5 141 "LoadCouncilModel" "members" "I", Cond.fieldLink RX5 137 "LoadCouncilModel" "below" "J", Cond.fieldLink RX5 31 "LoadCouncilModel" "loads" "[J", Cond.fieldLink RX5 35 "LoadCouncilModel" "order" "[I", Cond.methodLink RX5 162 yX5_nextOf, Cond.instanceMethod yX5_nextOf, Cond.selects RX5 yX5_nextOf yX5_nextOf, Cond.code yX5_nextOf cX5_nextOf 8 (some .int), Cond.methodLink RX5 85 yX5_has, Cond.static yX5_has, Cond.code yX5_has cX5_has 2 (some .boolean), Cond.methodLink RX5 144 yX5_supportOf, Cond.instanceMethod yX5_supportOf, Cond.selects RX5 yX5_supportOf yX5_supportOf, Cond.code yX5_supportOf cX5_supportOf 4 (some .int), Cond.methodLink RX5 154 yX5_isAhead, Cond.instanceMethod yX5_isAhead, Cond.selects RX5 yX5_isAhead yX5_isAhead, Cond.code yX5_isAhead cX5_isAhead 4 (some .boolean), Cond.methodLink RX5 147 yX5_weightOf]
def wsX5_came_r3 : List Cond := [Cond.instanceMethod yX5_weightOf, Cond.selects RX5 yX5_weightOf yX5_weightOf, Cond.code yX5_weightOf cX5_weightOf 5 (some .int), Cond.methodLink RX5 128 yX5_ones, Cond.static yX5_ones, Cond.code yX5_ones cX5_ones 3 (some .int), Cond.methodLink RX5 150 yX5_loadOf, Cond.instanceMethod yX5_loadOf, Cond.selects RX5 yX5_loadOf yX5_loadOf, Cond.code yX5_loadOf cX5_loadOf 5 (some .long), Cond.methodLink RX5 166 yX5_comesBy, Cond.instanceMethod yX5_comesBy, Cond.selects RX5 yX5_comesBy yX5_comesBy, Cond.code yX5_comesBy cX5_comesBy 7 none, Cond.constantLong RX5 160 (2520), Cond.methodLink RX5 193 yX5_partOf, Cond.static yX5_partOf, Cond.code yX5_partOf cX5_partOf 11 (some .long)]
def wsX5_came : List Cond := .code yX5_came cX5_came 4 (some .long) :: ((wsX5_came_r1 ++ (wsX5_came_r2 ++ wsX5_came_r3)) ++ wsX50)
def wsX5_load_r1 : List Cond := [Cond.constantLong RX5 191 (-1), Cond.fieldLink RX5 31 "LoadCouncilModel" "loads" "[J", Cond.fieldLink RX5 137 "LoadCouncilModel" "below" "J", Cond.methodLink RX5 118 yX5_isBallot, Cond.instanceMethod yX5_isBallot, Cond.selects RX5 yX5_isBallot yX5_isBallot, Cond.initialized RX5, Cond.code yX5_isBallot cX5_isBallot 2 (some .boolean), Cond.fieldLink RX5 7 "LoadCouncilModel" "now" "[I", Cond.methodLink RX5 48 yX5_in, Cond.static yX5_in, Cond.code yX5_in cX5_in 3 (some .boolean), Cond.methodLink RX5 188 yX5_isPart, Cond.static yX5_isPart, Cond.code yX5_isPart cX5_isPart 1 (some .boolean), Cond.methodLink RX5 169 yX5_lays, Cond.instanceMethod yX5_lays, Cond.selects RX5 yX5_lays yX5_lays, Cond.code yX5_lays cX5_lays 2 none, Cond.fieldLink RX5 134 "LoadCouncilModel" "ballots" "I", Cond.fieldLink RX5 22 "LoadCouncilModel" "heads" "[I", Cond.fieldLink RX5 25 "LoadCouncilModel" "sets" "[I", Cond.fieldLink RX5 28 "LoadCouncilModel" "ranks" "[I", Cond.methodLink RX5 172 yX5_elects]
def wsX5_load_r2 : List Cond := [Cond.instanceMethod yX5_elects, Cond.selects RX5 yX5_elects yX5_elects, Cond.code yX5_elects cX5_elects 4 none, Cond.fieldLink RX5 157 "LoadCouncilModel" "elected" "I", Cond.fieldLink RX5 141 "LoadCouncilModel" "members" "I", Cond.fieldLink RX5 38 "LoadCouncilModel" "above" "[J", Cond.fieldLink RX5 41 "LoadCouncilModel" "under" "[J", Cond.fieldLink RX5 35 "LoadCouncilModel" "order" "[I", Cond.methodLink RX5 162 yX5_nextOf, Cond.instanceMethod yX5_nextOf, Cond.selects RX5 yX5_nextOf yX5_nextOf, Cond.code yX5_nextOf cX5_nextOf 8 (some .int), Cond.methodLink RX5 85 yX5_has, Cond.static yX5_has, Cond.code yX5_has cX5_has 2 (some .boolean), Cond.methodLink RX5 144 yX5_supportOf, Cond.instanceMethod yX5_supportOf, Cond.selects RX5 yX5_supportOf yX5_supportOf, Cond.code yX5_supportOf cX5_supportOf 4 (some .int), Cond.methodLink RX5 154 yX5_isAhead, Cond.instanceMethod yX5_isAhead, Cond.selects RX5 yX5_isAhead yX5_isAhead, Cond.code yX5_isAhead cX5_isAhead 4 (some .boolean), Cond.methodLink RX5 147 yX5_weightOf]
def wsX5_load_r3 : List Cond := [Cond.instanceMethod yX5_weightOf, Cond.selects RX5 yX5_weightOf yX5_weightOf, Cond.code yX5_weightOf cX5_weightOf 5 (some .int), Cond.methodLink RX5 128 yX5_ones, Cond.static yX5_ones, Cond.code yX5_ones cX5_ones 3 (some .int), Cond.methodLink RX5 150 yX5_loadOf, Cond.instanceMethod yX5_loadOf, Cond.selects RX5 yX5_loadOf yX5_loadOf, Cond.code yX5_loadOf cX5_loadOf 5 (some .long), Cond.methodLink RX5 166 yX5_comesBy, Cond.instanceMethod yX5_comesBy, Cond.selects RX5 yX5_comesBy yX5_comesBy, Cond.code yX5_comesBy cX5_comesBy 7 none, Cond.constantLong RX5 160 (2520), Cond.methodLink RX5 193 yX5_partOf, Cond.static yX5_partOf, Cond.code yX5_partOf cX5_partOf 11 (some .long)]
def wsX5_load : List Cond := .code yX5_load cX5_load 3 (some .long) :: ((wsX5_load_r1 ++ (wsX5_load_r2 ++ wsX5_load_r3)) ++ wsX50)
def wsX5_greatest_r1 : List Cond := [Cond.constantLong RX5 191 (-1), Cond.fieldLink RX5 134 "LoadCouncilModel" "ballots" "I", Cond.fieldLink RX5 31 "LoadCouncilModel" "loads" "[J", Cond.fieldLink RX5 137 "LoadCouncilModel" "below" "J", Cond.methodLink RX5 188 yX5_isPart, Cond.static yX5_isPart, Cond.initialized RX5, Cond.code yX5_isPart cX5_isPart 1 (some .boolean), Cond.methodLink RX5 48 yX5_in, Cond.static yX5_in, Cond.code yX5_in cX5_in 3 (some .boolean), Cond.methodLink RX5 169 yX5_lays, Cond.instanceMethod yX5_lays, Cond.selects RX5 yX5_lays yX5_lays, Cond.code yX5_lays cX5_lays 2 none, Cond.fieldLink RX5 7 "LoadCouncilModel" "now" "[I", Cond.fieldLink RX5 22 "LoadCouncilModel" "heads" "[I", Cond.fieldLink RX5 25 "LoadCouncilModel" "sets" "[I", Cond.fieldLink RX5 28 "LoadCouncilModel" "ranks" "[I", Cond.methodLink RX5 172 yX5_elects, Cond.instanceMethod yX5_elects, Cond.selects RX5 yX5_elects yX5_elects, Cond.code yX5_elects cX5_elects 4 none, Cond.fieldLink RX5 157 "LoadCouncilModel" "elected" "I"]
def wsX5_greatest_r2 : List Cond := [Cond.fieldLink RX5 141 "LoadCouncilModel" "members" "I", Cond.fieldLink RX5 38 "LoadCouncilModel" "above" "[J", Cond.fieldLink RX5 41 "LoadCouncilModel" "under" "[J", Cond.fieldLink RX5 35 "LoadCouncilModel" "order" "[I", Cond.methodLink RX5 162 yX5_nextOf, Cond.instanceMethod yX5_nextOf, Cond.selects RX5 yX5_nextOf yX5_nextOf, Cond.code yX5_nextOf cX5_nextOf 8 (some .int), Cond.methodLink RX5 85 yX5_has, Cond.static yX5_has, Cond.code yX5_has cX5_has 2 (some .boolean), Cond.methodLink RX5 144 yX5_supportOf, Cond.instanceMethod yX5_supportOf, Cond.selects RX5 yX5_supportOf yX5_supportOf, Cond.code yX5_supportOf cX5_supportOf 4 (some .int), Cond.methodLink RX5 154 yX5_isAhead, Cond.instanceMethod yX5_isAhead, Cond.selects RX5 yX5_isAhead yX5_isAhead, Cond.code yX5_isAhead cX5_isAhead 4 (some .boolean), Cond.methodLink RX5 147 yX5_weightOf, Cond.instanceMethod yX5_weightOf, Cond.selects RX5 yX5_weightOf yX5_weightOf, Cond.code yX5_weightOf cX5_weightOf 5 (some .int), Cond.methodLink RX5 128 yX5_ones]
def wsX5_greatest_r3 : List Cond := [Cond.static yX5_ones, Cond.code yX5_ones cX5_ones 3 (some .int), Cond.methodLink RX5 150 yX5_loadOf, Cond.instanceMethod yX5_loadOf, Cond.selects RX5 yX5_loadOf yX5_loadOf, Cond.code yX5_loadOf cX5_loadOf 5 (some .long), Cond.methodLink RX5 166 yX5_comesBy, Cond.instanceMethod yX5_comesBy, Cond.selects RX5 yX5_comesBy yX5_comesBy, Cond.code yX5_comesBy cX5_comesBy 7 none, Cond.constantLong RX5 160 (2520), Cond.methodLink RX5 193 yX5_partOf, Cond.static yX5_partOf, Cond.code yX5_partOf cX5_partOf 11 (some .long)]
def wsX5_greatest : List Cond := .code yX5_greatest cX5_greatest 5 (some .long) :: ((wsX5_greatest_r1 ++ (wsX5_greatest_r2 ++ wsX5_greatest_r3)) ++ wsX50)
def wsX5_agreed : List Cond := .code yX5_agreed cX5_agreed 4 (some .int) :: ([.fieldLink RX5 7 "LoadCouncilModel" "now" "[I"] ++ wsX50)
def wsX5_isOwed : List Cond := .code yX5_isOwed cX5_isOwed 3 (some .boolean) :: ([.fieldLink RX5 7 "LoadCouncilModel" "now" "[I", .methodLink RX5 199 yX5_agreed, .instanceMethod yX5_agreed, .selects RX5 yX5_agreed yX5_agreed, .initialized RX5, .code yX5_agreed cX5_agreed 4 (some .int), .methodLink RX5 128 yX5_ones, .static yX5_ones, .code yX5_ones cX5_ones 3 (some .int), .methodLink RX5 115 yX5_allVoters, .instanceMethod yX5_allVoters, .selects RX5 yX5_allVoters yX5_allVoters, .code yX5_allVoters cX5_allVoters 3 (some .int)] ++ wsX50)
def wsX5_unionOf : List Cond := .code yX5_unionOf cX5_unionOf 4 (some .int) :: ([.fieldLink RX5 7 "LoadCouncilModel" "now" "[I"] ++ wsX50)
def wsX5_agrees_r1 : List Cond := [Cond.methodLink RX5 112 yX5_isSet, Cond.instanceMethod yX5_isSet, Cond.selects RX5 yX5_isSet yX5_isSet, Cond.initialized RX5, Cond.code yX5_isSet cX5_isSet 2 (some .boolean), Cond.fieldLink RX5 7 "LoadCouncilModel" "now" "[I", Cond.methodLink RX5 48 yX5_in, Cond.static yX5_in, Cond.code yX5_in cX5_in 3 (some .boolean), Cond.methodLink RX5 199 yX5_agreed, Cond.instanceMethod yX5_agreed, Cond.selects RX5 yX5_agreed yX5_agreed, Cond.code yX5_agreed cX5_agreed 4 (some .int), Cond.methodLink RX5 202 yX5_isOwed, Cond.instanceMethod yX5_isOwed, Cond.selects RX5 yX5_isOwed yX5_isOwed, Cond.code yX5_isOwed cX5_isOwed 3 (some .boolean), Cond.methodLink RX5 128 yX5_ones, Cond.static yX5_ones, Cond.code yX5_ones cX5_ones 3 (some .int), Cond.methodLink RX5 115 yX5_allVoters, Cond.instanceMethod yX5_allVoters, Cond.selects RX5 yX5_allVoters yX5_allVoters, Cond.code yX5_allVoters cX5_allVoters 3 (some .int)]
def wsX5_agrees_r2 : List Cond := [Cond.methodLink RX5 205 yX5_unionOf, Cond.instanceMethod yX5_unionOf, Cond.selects RX5 yX5_unionOf yX5_unionOf, Cond.code yX5_unionOf cX5_unionOf 4 (some .int), Cond.methodLink RX5 176 yX5_membersBy, Cond.instanceMethod yX5_membersBy, Cond.selects RX5 yX5_membersBy yX5_membersBy, Cond.code yX5_membersBy cX5_membersBy 2 (some .int), Cond.fieldLink RX5 141 "LoadCouncilModel" "members" "I", Cond.methodLink RX5 169 yX5_lays, Cond.instanceMethod yX5_lays, Cond.selects RX5 yX5_lays yX5_lays, Cond.code yX5_lays cX5_lays 2 none, Cond.fieldLink RX5 134 "LoadCouncilModel" "ballots" "I", Cond.fieldLink RX5 22 "LoadCouncilModel" "heads" "[I", Cond.fieldLink RX5 25 "LoadCouncilModel" "sets" "[I", Cond.fieldLink RX5 28 "LoadCouncilModel" "ranks" "[I", Cond.methodLink RX5 172 yX5_elects, Cond.instanceMethod yX5_elects, Cond.selects RX5 yX5_elects yX5_elects, Cond.code yX5_elects cX5_elects 4 none, Cond.fieldLink RX5 157 "LoadCouncilModel" "elected" "I", Cond.fieldLink RX5 137 "LoadCouncilModel" "below" "J", Cond.fieldLink RX5 31 "LoadCouncilModel" "loads" "[J"]
def wsX5_agrees_r3 : List Cond := [Cond.fieldLink RX5 38 "LoadCouncilModel" "above" "[J", Cond.fieldLink RX5 41 "LoadCouncilModel" "under" "[J", Cond.fieldLink RX5 35 "LoadCouncilModel" "order" "[I", Cond.methodLink RX5 162 yX5_nextOf, Cond.instanceMethod yX5_nextOf, Cond.selects RX5 yX5_nextOf yX5_nextOf, Cond.code yX5_nextOf cX5_nextOf 8 (some .int), Cond.methodLink RX5 85 yX5_has, Cond.static yX5_has, Cond.code yX5_has cX5_has 2 (some .boolean), Cond.methodLink RX5 144 yX5_supportOf, Cond.instanceMethod yX5_supportOf, Cond.selects RX5 yX5_supportOf yX5_supportOf, Cond.code yX5_supportOf cX5_supportOf 4 (some .int), Cond.methodLink RX5 154 yX5_isAhead, Cond.instanceMethod yX5_isAhead, Cond.selects RX5 yX5_isAhead yX5_isAhead, Cond.code yX5_isAhead cX5_isAhead 4 (some .boolean), Cond.methodLink RX5 147 yX5_weightOf, Cond.instanceMethod yX5_weightOf, Cond.selects RX5 yX5_weightOf yX5_weightOf, Cond.code yX5_weightOf cX5_weightOf 5 (some .int), Cond.methodLink RX5 150 yX5_loadOf, Cond.instanceMethod yX5_loadOf]
def wsX5_agrees_r4 : List Cond := [Cond.selects RX5 yX5_loadOf yX5_loadOf, Cond.code yX5_loadOf cX5_loadOf 5 (some .long), Cond.methodLink RX5 166 yX5_comesBy, Cond.instanceMethod yX5_comesBy, Cond.selects RX5 yX5_comesBy yX5_comesBy, Cond.code yX5_comesBy cX5_comesBy 7 none, Cond.constantLong RX5 160 (2520)]
def wsX5_agrees : List Cond := .code yX5_agrees cX5_agrees 3 (some .int) :: ((wsX5_agrees_r1 ++ (wsX5_agrees_r2 ++ (wsX5_agrees_r3 ++ wsX5_agrees_r4))) ++ wsX50)
def wsX5_shorts_r1 : List Cond := [Cond.fieldLink RX5 7 "LoadCouncilModel" "now" "[I", Cond.methodLink RX5 185 yX5_isLaw, Cond.static yX5_isLaw, Cond.initialized RX5, Cond.code yX5_isLaw cX5_isLaw 1 (some .boolean), Cond.methodLink RX5 48 yX5_in, Cond.static yX5_in, Cond.code yX5_in cX5_in 3 (some .boolean), Cond.methodLink RX5 176 yX5_membersBy, Cond.instanceMethod yX5_membersBy, Cond.selects RX5 yX5_membersBy yX5_membersBy, Cond.code yX5_membersBy cX5_membersBy 2 (some .int), Cond.fieldLink RX5 141 "LoadCouncilModel" "members" "I", Cond.methodLink RX5 169 yX5_lays, Cond.instanceMethod yX5_lays, Cond.selects RX5 yX5_lays yX5_lays, Cond.code yX5_lays cX5_lays 2 none, Cond.fieldLink RX5 134 "LoadCouncilModel" "ballots" "I", Cond.fieldLink RX5 22 "LoadCouncilModel" "heads" "[I", Cond.fieldLink RX5 25 "LoadCouncilModel" "sets" "[I", Cond.fieldLink RX5 28 "LoadCouncilModel" "ranks" "[I", Cond.methodLink RX5 172 yX5_elects, Cond.instanceMethod yX5_elects, Cond.selects RX5 yX5_elects yX5_elects]
def wsX5_shorts_r2 : List Cond := [Cond.code yX5_elects cX5_elects 4 none, Cond.fieldLink RX5 157 "LoadCouncilModel" "elected" "I", Cond.fieldLink RX5 137 "LoadCouncilModel" "below" "J", Cond.fieldLink RX5 31 "LoadCouncilModel" "loads" "[J", Cond.fieldLink RX5 38 "LoadCouncilModel" "above" "[J", Cond.fieldLink RX5 41 "LoadCouncilModel" "under" "[J", Cond.fieldLink RX5 35 "LoadCouncilModel" "order" "[I", Cond.methodLink RX5 162 yX5_nextOf, Cond.instanceMethod yX5_nextOf, Cond.selects RX5 yX5_nextOf yX5_nextOf, Cond.code yX5_nextOf cX5_nextOf 8 (some .int), Cond.methodLink RX5 85 yX5_has, Cond.static yX5_has, Cond.code yX5_has cX5_has 2 (some .boolean), Cond.methodLink RX5 144 yX5_supportOf, Cond.instanceMethod yX5_supportOf, Cond.selects RX5 yX5_supportOf yX5_supportOf, Cond.code yX5_supportOf cX5_supportOf 4 (some .int), Cond.methodLink RX5 154 yX5_isAhead, Cond.instanceMethod yX5_isAhead, Cond.selects RX5 yX5_isAhead yX5_isAhead, Cond.code yX5_isAhead cX5_isAhead 4 (some .boolean), Cond.methodLink RX5 147 yX5_weightOf, Cond.instanceMethod yX5_weightOf]
def wsX5_shorts_r3 : List Cond := [Cond.selects RX5 yX5_weightOf yX5_weightOf, Cond.code yX5_weightOf cX5_weightOf 5 (some .int), Cond.methodLink RX5 128 yX5_ones, Cond.static yX5_ones, Cond.code yX5_ones cX5_ones 3 (some .int), Cond.methodLink RX5 150 yX5_loadOf, Cond.instanceMethod yX5_loadOf, Cond.selects RX5 yX5_loadOf yX5_loadOf, Cond.code yX5_loadOf cX5_loadOf 5 (some .long), Cond.methodLink RX5 166 yX5_comesBy, Cond.instanceMethod yX5_comesBy, Cond.selects RX5 yX5_comesBy yX5_comesBy, Cond.code yX5_comesBy cX5_comesBy 7 none, Cond.constantLong RX5 160 (2520), Cond.methodLink RX5 202 yX5_isOwed, Cond.instanceMethod yX5_isOwed, Cond.selects RX5 yX5_isOwed yX5_isOwed, Cond.code yX5_isOwed cX5_isOwed 3 (some .boolean), Cond.methodLink RX5 199 yX5_agreed, Cond.instanceMethod yX5_agreed, Cond.selects RX5 yX5_agreed yX5_agreed, Cond.code yX5_agreed cX5_agreed 4 (some .int), Cond.methodLink RX5 115 yX5_allVoters, Cond.instanceMethod yX5_allVoters]
def wsX5_shorts_r4 : List Cond := [Cond.selects RX5 yX5_allVoters yX5_allVoters, Cond.code yX5_allVoters cX5_allVoters 3 (some .int), Cond.methodLink RX5 205 yX5_unionOf, Cond.instanceMethod yX5_unionOf, Cond.selects RX5 yX5_unionOf yX5_unionOf, Cond.code yX5_unionOf cX5_unionOf 4 (some .int)]
def wsX5_shorts : List Cond := .code yX5_shorts cX5_shorts 7 (some .int) :: ((wsX5_shorts_r1 ++ (wsX5_shorts_r2 ++ (wsX5_shorts_r3 ++ wsX5_shorts_r4))) ++ wsX50)
def wsX5_joins_r1 : List Cond := [Cond.fieldLink RX5 7 "LoadCouncilModel" "now" "[I", Cond.fieldLink RX5 134 "LoadCouncilModel" "ballots" "I", Cond.fieldLink RX5 22 "LoadCouncilModel" "heads" "[I", Cond.fieldLink RX5 25 "LoadCouncilModel" "sets" "[I", Cond.fieldLink RX5 141 "LoadCouncilModel" "members" "I", Cond.methodLink RX5 185 yX5_isLaw, Cond.static yX5_isLaw, Cond.initialized RX5, Cond.code yX5_isLaw cX5_isLaw 1 (some .boolean), Cond.methodLink RX5 48 yX5_in, Cond.static yX5_in, Cond.code yX5_in cX5_in 3 (some .boolean), Cond.methodLink RX5 125 yX5_isCandidate, Cond.instanceMethod yX5_isCandidate, Cond.selects RX5 yX5_isCandidate yX5_isCandidate, Cond.code yX5_isCandidate cX5_isCandidate 2 (some .boolean), Cond.methodLink RX5 85 yX5_has, Cond.static yX5_has, Cond.code yX5_has cX5_has 2 (some .boolean), Cond.methodLink RX5 169 yX5_lays, Cond.instanceMethod yX5_lays, Cond.selects RX5 yX5_lays yX5_lays, Cond.code yX5_lays cX5_lays 2 none, Cond.fieldLink RX5 28 "LoadCouncilModel" "ranks" "[I"]
def wsX5_joins_r2 : List Cond := [Cond.methodLink RX5 172 yX5_elects, Cond.instanceMethod yX5_elects, Cond.selects RX5 yX5_elects yX5_elects, Cond.code yX5_elects cX5_elects 4 none, Cond.fieldLink RX5 157 "LoadCouncilModel" "elected" "I", Cond.fieldLink RX5 137 "LoadCouncilModel" "below" "J", Cond.fieldLink RX5 31 "LoadCouncilModel" "loads" "[J", Cond.fieldLink RX5 38 "LoadCouncilModel" "above" "[J", Cond.fieldLink RX5 41 "LoadCouncilModel" "under" "[J", Cond.fieldLink RX5 35 "LoadCouncilModel" "order" "[I", Cond.methodLink RX5 162 yX5_nextOf, Cond.instanceMethod yX5_nextOf, Cond.selects RX5 yX5_nextOf yX5_nextOf, Cond.code yX5_nextOf cX5_nextOf 8 (some .int), Cond.methodLink RX5 144 yX5_supportOf, Cond.instanceMethod yX5_supportOf, Cond.selects RX5 yX5_supportOf yX5_supportOf, Cond.code yX5_supportOf cX5_supportOf 4 (some .int), Cond.methodLink RX5 154 yX5_isAhead, Cond.instanceMethod yX5_isAhead, Cond.selects RX5 yX5_isAhead yX5_isAhead, Cond.code yX5_isAhead cX5_isAhead 4 (some .boolean), Cond.methodLink RX5 147 yX5_weightOf, Cond.instanceMethod yX5_weightOf]
def wsX5_joins_r3 : List Cond := [Cond.selects RX5 yX5_weightOf yX5_weightOf, Cond.code yX5_weightOf cX5_weightOf 5 (some .int), Cond.methodLink RX5 128 yX5_ones, Cond.static yX5_ones, Cond.code yX5_ones cX5_ones 3 (some .int), Cond.methodLink RX5 150 yX5_loadOf, Cond.instanceMethod yX5_loadOf, Cond.selects RX5 yX5_loadOf yX5_loadOf, Cond.code yX5_loadOf cX5_loadOf 5 (some .long), Cond.methodLink RX5 166 yX5_comesBy, Cond.instanceMethod yX5_comesBy, Cond.selects RX5 yX5_comesBy yX5_comesBy, Cond.code yX5_comesBy cX5_comesBy 7 none, Cond.constantLong RX5 160 (2520)]
def wsX5_joins : List Cond := .code yX5_joins cX5_joins 5 (some .int) :: ((wsX5_joins_r1 ++ (wsX5_joins_r2 ++ wsX5_joins_r3)) ++ wsX50)
def wsX5_matters_r1 : List Cond := [Cond.fieldLink RX5 134 "LoadCouncilModel" "ballots" "I", Cond.fieldLink RX5 22 "LoadCouncilModel" "heads" "[I", Cond.fieldLink RX5 141 "LoadCouncilModel" "members" "I", Cond.methodLink RX5 185 yX5_isLaw, Cond.static yX5_isLaw, Cond.initialized RX5, Cond.code yX5_isLaw cX5_isLaw 1 (some .boolean), Cond.methodLink RX5 48 yX5_in, Cond.static yX5_in, Cond.code yX5_in cX5_in 3 (some .boolean), Cond.methodLink RX5 176 yX5_membersBy, Cond.instanceMethod yX5_membersBy, Cond.selects RX5 yX5_membersBy yX5_membersBy, Cond.code yX5_membersBy cX5_membersBy 2 (some .int), Cond.methodLink RX5 169 yX5_lays, Cond.instanceMethod yX5_lays, Cond.selects RX5 yX5_lays yX5_lays, Cond.code yX5_lays cX5_lays 2 none, Cond.fieldLink RX5 7 "LoadCouncilModel" "now" "[I", Cond.fieldLink RX5 25 "LoadCouncilModel" "sets" "[I", Cond.fieldLink RX5 28 "LoadCouncilModel" "ranks" "[I", Cond.methodLink RX5 172 yX5_elects, Cond.instanceMethod yX5_elects, Cond.selects RX5 yX5_elects yX5_elects]
def wsX5_matters_r2 : List Cond := [Cond.code yX5_elects cX5_elects 4 none, Cond.fieldLink RX5 157 "LoadCouncilModel" "elected" "I", Cond.fieldLink RX5 137 "LoadCouncilModel" "below" "J", Cond.fieldLink RX5 31 "LoadCouncilModel" "loads" "[J", Cond.fieldLink RX5 38 "LoadCouncilModel" "above" "[J", Cond.fieldLink RX5 41 "LoadCouncilModel" "under" "[J", Cond.fieldLink RX5 35 "LoadCouncilModel" "order" "[I", Cond.methodLink RX5 162 yX5_nextOf, Cond.instanceMethod yX5_nextOf, Cond.selects RX5 yX5_nextOf yX5_nextOf, Cond.code yX5_nextOf cX5_nextOf 8 (some .int), Cond.methodLink RX5 85 yX5_has, Cond.static yX5_has, Cond.code yX5_has cX5_has 2 (some .boolean), Cond.methodLink RX5 144 yX5_supportOf, Cond.instanceMethod yX5_supportOf, Cond.selects RX5 yX5_supportOf yX5_supportOf, Cond.code yX5_supportOf cX5_supportOf 4 (some .int), Cond.methodLink RX5 154 yX5_isAhead, Cond.instanceMethod yX5_isAhead, Cond.selects RX5 yX5_isAhead yX5_isAhead, Cond.code yX5_isAhead cX5_isAhead 4 (some .boolean), Cond.methodLink RX5 147 yX5_weightOf, Cond.instanceMethod yX5_weightOf]
def wsX5_matters_r3 : List Cond := [Cond.selects RX5 yX5_weightOf yX5_weightOf, Cond.code yX5_weightOf cX5_weightOf 5 (some .int), Cond.methodLink RX5 128 yX5_ones, Cond.static yX5_ones, Cond.code yX5_ones cX5_ones 3 (some .int), Cond.methodLink RX5 150 yX5_loadOf, Cond.instanceMethod yX5_loadOf, Cond.selects RX5 yX5_loadOf yX5_loadOf, Cond.code yX5_loadOf cX5_loadOf 5 (some .long), Cond.methodLink RX5 166 yX5_comesBy, Cond.instanceMethod yX5_comesBy, Cond.selects RX5 yX5_comesBy yX5_comesBy, Cond.code yX5_comesBy cX5_comesBy 7 none, Cond.constantLong RX5 160 (2520)]
def wsX5_matters : List Cond := .code yX5_matters cX5_matters 5 (some .int) :: ((wsX5_matters_r1 ++ (wsX5_matters_r2 ++ wsX5_matters_r3)) ++ wsX50)
def wsX5_rather_r1 : List Cond := [Cond.fieldLink RX5 7 "LoadCouncilModel" "now" "[I", Cond.fieldLink RX5 25 "LoadCouncilModel" "sets" "[I", Cond.fieldLink RX5 141 "LoadCouncilModel" "members" "I", Cond.methodLink RX5 185 yX5_isLaw, Cond.static yX5_isLaw, Cond.initialized RX5, Cond.code yX5_isLaw cX5_isLaw 1 (some .boolean), Cond.methodLink RX5 48 yX5_in, Cond.static yX5_in, Cond.code yX5_in cX5_in 3 (some .boolean), Cond.methodLink RX5 118 yX5_isBallot, Cond.instanceMethod yX5_isBallot, Cond.selects RX5 yX5_isBallot yX5_isBallot, Cond.code yX5_isBallot cX5_isBallot 2 (some .boolean), Cond.methodLink RX5 176 yX5_membersBy, Cond.instanceMethod yX5_membersBy, Cond.selects RX5 yX5_membersBy yX5_membersBy, Cond.code yX5_membersBy cX5_membersBy 2 (some .int), Cond.methodLink RX5 169 yX5_lays, Cond.instanceMethod yX5_lays, Cond.selects RX5 yX5_lays yX5_lays, Cond.code yX5_lays cX5_lays 2 none, Cond.fieldLink RX5 134 "LoadCouncilModel" "ballots" "I", Cond.fieldLink RX5 22 "LoadCouncilModel" "heads" "[I"]
def wsX5_rather_r2 : List Cond := [Cond.fieldLink RX5 28 "LoadCouncilModel" "ranks" "[I", Cond.methodLink RX5 172 yX5_elects, Cond.instanceMethod yX5_elects, Cond.selects RX5 yX5_elects yX5_elects, Cond.code yX5_elects cX5_elects 4 none, Cond.fieldLink RX5 157 "LoadCouncilModel" "elected" "I", Cond.fieldLink RX5 137 "LoadCouncilModel" "below" "J", Cond.fieldLink RX5 31 "LoadCouncilModel" "loads" "[J", Cond.fieldLink RX5 38 "LoadCouncilModel" "above" "[J", Cond.fieldLink RX5 41 "LoadCouncilModel" "under" "[J", Cond.fieldLink RX5 35 "LoadCouncilModel" "order" "[I", Cond.methodLink RX5 162 yX5_nextOf, Cond.instanceMethod yX5_nextOf, Cond.selects RX5 yX5_nextOf yX5_nextOf, Cond.code yX5_nextOf cX5_nextOf 8 (some .int), Cond.methodLink RX5 85 yX5_has, Cond.static yX5_has, Cond.code yX5_has cX5_has 2 (some .boolean), Cond.methodLink RX5 144 yX5_supportOf, Cond.instanceMethod yX5_supportOf, Cond.selects RX5 yX5_supportOf yX5_supportOf, Cond.code yX5_supportOf cX5_supportOf 4 (some .int), Cond.methodLink RX5 154 yX5_isAhead, Cond.instanceMethod yX5_isAhead]
def wsX5_rather_r3 : List Cond := [Cond.selects RX5 yX5_isAhead yX5_isAhead, Cond.code yX5_isAhead cX5_isAhead 4 (some .boolean), Cond.methodLink RX5 147 yX5_weightOf, Cond.instanceMethod yX5_weightOf, Cond.selects RX5 yX5_weightOf yX5_weightOf, Cond.code yX5_weightOf cX5_weightOf 5 (some .int), Cond.methodLink RX5 128 yX5_ones, Cond.static yX5_ones, Cond.code yX5_ones cX5_ones 3 (some .int), Cond.methodLink RX5 150 yX5_loadOf, Cond.instanceMethod yX5_loadOf, Cond.selects RX5 yX5_loadOf yX5_loadOf, Cond.code yX5_loadOf cX5_loadOf 5 (some .long), Cond.methodLink RX5 166 yX5_comesBy, Cond.instanceMethod yX5_comesBy, Cond.selects RX5 yX5_comesBy yX5_comesBy, Cond.code yX5_comesBy cX5_comesBy 7 none, Cond.constantLong RX5 160 (2520)]
def wsX5_rather : List Cond := .code yX5_rather cX5_rather 9 (some .int) :: ((wsX5_rather_r1 ++ (wsX5_rather_r2 ++ wsX5_rather_r3)) ++ wsX50)
def wsX5_decided_r1 : List Cond := [Cond.fieldLink RX5 7 "LoadCouncilModel" "now" "[I", Cond.fieldLink RX5 28 "LoadCouncilModel" "ranks" "[I", Cond.fieldLink RX5 141 "LoadCouncilModel" "members" "I", Cond.methodLink RX5 185 yX5_isLaw, Cond.static yX5_isLaw, Cond.initialized RX5, Cond.code yX5_isLaw cX5_isLaw 1 (some .boolean), Cond.methodLink RX5 48 yX5_in, Cond.static yX5_in, Cond.code yX5_in cX5_in 3 (some .boolean), Cond.methodLink RX5 176 yX5_membersBy, Cond.instanceMethod yX5_membersBy, Cond.selects RX5 yX5_membersBy yX5_membersBy, Cond.code yX5_membersBy cX5_membersBy 2 (some .int), Cond.methodLink RX5 169 yX5_lays, Cond.instanceMethod yX5_lays, Cond.selects RX5 yX5_lays yX5_lays, Cond.code yX5_lays cX5_lays 2 none, Cond.fieldLink RX5 134 "LoadCouncilModel" "ballots" "I", Cond.fieldLink RX5 22 "LoadCouncilModel" "heads" "[I", Cond.fieldLink RX5 25 "LoadCouncilModel" "sets" "[I", Cond.methodLink RX5 172 yX5_elects, Cond.instanceMethod yX5_elects, Cond.selects RX5 yX5_elects yX5_elects]
def wsX5_decided_r2 : List Cond := [Cond.code yX5_elects cX5_elects 4 none, Cond.fieldLink RX5 157 "LoadCouncilModel" "elected" "I", Cond.fieldLink RX5 137 "LoadCouncilModel" "below" "J", Cond.fieldLink RX5 31 "LoadCouncilModel" "loads" "[J", Cond.fieldLink RX5 38 "LoadCouncilModel" "above" "[J", Cond.fieldLink RX5 41 "LoadCouncilModel" "under" "[J", Cond.fieldLink RX5 35 "LoadCouncilModel" "order" "[I", Cond.methodLink RX5 162 yX5_nextOf, Cond.instanceMethod yX5_nextOf, Cond.selects RX5 yX5_nextOf yX5_nextOf, Cond.code yX5_nextOf cX5_nextOf 8 (some .int), Cond.methodLink RX5 85 yX5_has, Cond.static yX5_has, Cond.code yX5_has cX5_has 2 (some .boolean), Cond.methodLink RX5 144 yX5_supportOf, Cond.instanceMethod yX5_supportOf, Cond.selects RX5 yX5_supportOf yX5_supportOf, Cond.code yX5_supportOf cX5_supportOf 4 (some .int), Cond.methodLink RX5 154 yX5_isAhead, Cond.instanceMethod yX5_isAhead, Cond.selects RX5 yX5_isAhead yX5_isAhead, Cond.code yX5_isAhead cX5_isAhead 4 (some .boolean), Cond.methodLink RX5 147 yX5_weightOf, Cond.instanceMethod yX5_weightOf]
def wsX5_decided_r3 : List Cond := [Cond.selects RX5 yX5_weightOf yX5_weightOf, Cond.code yX5_weightOf cX5_weightOf 5 (some .int), Cond.methodLink RX5 128 yX5_ones, Cond.static yX5_ones, Cond.code yX5_ones cX5_ones 3 (some .int), Cond.methodLink RX5 150 yX5_loadOf, Cond.instanceMethod yX5_loadOf, Cond.selects RX5 yX5_loadOf yX5_loadOf, Cond.code yX5_loadOf cX5_loadOf 5 (some .long), Cond.methodLink RX5 166 yX5_comesBy, Cond.instanceMethod yX5_comesBy, Cond.selects RX5 yX5_comesBy yX5_comesBy, Cond.code yX5_comesBy cX5_comesBy 7 none, Cond.constantLong RX5 160 (2520)]
def wsX5_decided : List Cond := .code yX5_decided cX5_decided 5 (some .int) :: ((wsX5_decided_r1 ++ (wsX5_decided_r2 ++ wsX5_decided_r3)) ++ wsX50)
def wsX5_both_r1 : List Cond := [Cond.methodLink RX5 185 yX5_isLaw, Cond.static yX5_isLaw, Cond.initialized RX5, Cond.code yX5_isLaw cX5_isLaw 1 (some .boolean), Cond.methodLink RX5 48 yX5_in, Cond.static yX5_in, Cond.code yX5_in cX5_in 3 (some .boolean), Cond.methodLink RX5 176 yX5_membersBy, Cond.instanceMethod yX5_membersBy, Cond.selects RX5 yX5_membersBy yX5_membersBy, Cond.code yX5_membersBy cX5_membersBy 2 (some .int), Cond.fieldLink RX5 141 "LoadCouncilModel" "members" "I", Cond.methodLink RX5 169 yX5_lays, Cond.instanceMethod yX5_lays, Cond.selects RX5 yX5_lays yX5_lays, Cond.code yX5_lays cX5_lays 2 none, Cond.fieldLink RX5 7 "LoadCouncilModel" "now" "[I", Cond.fieldLink RX5 134 "LoadCouncilModel" "ballots" "I", Cond.fieldLink RX5 22 "LoadCouncilModel" "heads" "[I", Cond.fieldLink RX5 25 "LoadCouncilModel" "sets" "[I", Cond.fieldLink RX5 28 "LoadCouncilModel" "ranks" "[I", Cond.methodLink RX5 172 yX5_elects, Cond.instanceMethod yX5_elects, Cond.selects RX5 yX5_elects yX5_elects]
def wsX5_both_r2 : List Cond := [Cond.code yX5_elects cX5_elects 4 none, Cond.fieldLink RX5 157 "LoadCouncilModel" "elected" "I", Cond.fieldLink RX5 137 "LoadCouncilModel" "below" "J", Cond.fieldLink RX5 31 "LoadCouncilModel" "loads" "[J", Cond.fieldLink RX5 38 "LoadCouncilModel" "above" "[J", Cond.fieldLink RX5 41 "LoadCouncilModel" "under" "[J", Cond.fieldLink RX5 35 "LoadCouncilModel" "order" "[I", Cond.methodLink RX5 162 yX5_nextOf, Cond.instanceMethod yX5_nextOf, Cond.selects RX5 yX5_nextOf yX5_nextOf, Cond.code yX5_nextOf cX5_nextOf 8 (some .int), Cond.methodLink RX5 85 yX5_has, Cond.static yX5_has, Cond.code yX5_has cX5_has 2 (some .boolean), Cond.methodLink RX5 144 yX5_supportOf, Cond.instanceMethod yX5_supportOf, Cond.selects RX5 yX5_supportOf yX5_supportOf, Cond.code yX5_supportOf cX5_supportOf 4 (some .int), Cond.methodLink RX5 154 yX5_isAhead, Cond.instanceMethod yX5_isAhead, Cond.selects RX5 yX5_isAhead yX5_isAhead, Cond.code yX5_isAhead cX5_isAhead 4 (some .boolean), Cond.methodLink RX5 147 yX5_weightOf, Cond.instanceMethod yX5_weightOf]
def wsX5_both_r3 : List Cond := [Cond.selects RX5 yX5_weightOf yX5_weightOf, Cond.code yX5_weightOf cX5_weightOf 5 (some .int), Cond.methodLink RX5 128 yX5_ones, Cond.static yX5_ones, Cond.code yX5_ones cX5_ones 3 (some .int), Cond.methodLink RX5 150 yX5_loadOf, Cond.instanceMethod yX5_loadOf, Cond.selects RX5 yX5_loadOf yX5_loadOf, Cond.code yX5_loadOf cX5_loadOf 5 (some .long), Cond.methodLink RX5 166 yX5_comesBy, Cond.instanceMethod yX5_comesBy, Cond.selects RX5 yX5_comesBy yX5_comesBy, Cond.code yX5_comesBy cX5_comesBy 7 none, Cond.constantLong RX5 160 (2520)]
def wsX5_both : List Cond := .code yX5_both cX5_both 4 (some .int) :: ((wsX5_both_r1 ++ (wsX5_both_r2 ++ wsX5_both_r3)) ++ wsX50)
def wsX5_count : List Cond := .code yX5_count cX5_count 2 (some .int) :: ([.fieldLink RX5 7 "LoadCouncilModel" "now" "[I", .fieldLink RX5 106 "LoadCouncilModel" "changes" "I", .fieldLink RX5 52 "LoadCouncilModel" "letters" "I", .methodLink RX5 115 yX5_allVoters, .instanceMethod yX5_allVoters, .selects RX5 yX5_allVoters yX5_allVoters, .initialized RX5, .code yX5_allVoters cX5_allVoters 3 (some .int), .methodLink RX5 128 yX5_ones, .static yX5_ones, .code yX5_ones cX5_ones 3 (some .int)] ++ wsX50)
def wsJ9_max_f86c9 : List Cond := .code yJ9_max_f86c9 cJ9_max_f86c9 4 (some .long) :: ([])
def wsJ9_min_7cf53 : List Cond := .code yJ9_min_7cf53 cJ9_min_7cf53 2 (some .int) :: ([])
abbrev vwCl : List vw_C := [(RX0, TX0, 7), (RX1, TX1, 9), (RX2, TX2, 3), (RX3, TX3, 2), (RX4, TX4, 5), (RX5, TX5, 19)]
end
section
theorem dX0_init_0 : decode cX0_init 0 = .ok (.aload_n 0, 1) := by decide +kernel
theorem dX0_init_1 : decode cX0_init 1 = .ok (.invokespecial 3, 3) := by decide +kernel
theorem dX0_init_4 : decode cX0_init 4 = .ok (.aload_n 0, 1) := by decide +kernel
theorem dX0_init_5 : decode cX0_init 5 = .ok (.bipush 11, 2) := by decide +kernel
theorem dX0_init_7 : decode cX0_init 7 = .ok (.newarray .int, 2) := by decide +kernel
theorem dX0_init_9 : decode cX0_init 9 = .ok (.putfield 9, 3) := by decide +kernel
theorem dX0_init_12 : decode cX0_init 12 = .ok (.aload_n 0, 1) := by decide +kernel
theorem dX0_init_13 : decode cX0_init 13 = .ok (.bipush 11, 2) := by decide +kernel
theorem dX0_init_15 : decode cX0_init 15 = .ok (.newarray .int, 2) := by decide +kernel
theorem dX0_init_17 : decode cX0_init 17 = .ok (.putfield 15, 3) := by decide +kernel
theorem dX0_init_20 : decode cX0_init 20 = .ok (.aload_n 0, 1) := by decide +kernel
theorem dX0_init_21 : decode cX0_init 21 = .ok (.bipush 8, 2) := by decide +kernel
theorem dX0_init_23 : decode cX0_init 23 = .ok (.newarray .int, 2) := by decide +kernel
theorem dX0_init_25 : decode cX0_init 25 = .ok (.putfield 18, 3) := by decide +kernel
theorem dX0_init_28 : decode cX0_init 28 = .ok (.return_, 1) := by decide +kernel
theorem dX0_beginWith_0 : decode cX0_beginWith 0 = .ok (.aload_n 0, 1) := by decide +kernel
theorem dX0_beginWith_1 : decode cX0_beginWith 1 = .ok (.iload_n 1, 1) := by decide +kernel
theorem dX0_beginWith_2 : decode cX0_beginWith 2 = .ok (.putfield 21, 3) := by decide +kernel
theorem dX0_beginWith_5 : decode cX0_beginWith 5 = .ok (.aload_n 0, 1) := by decide +kernel
theorem dX0_beginWith_6 : decode cX0_beginWith 6 = .ok (.iconst 0, 1) := by decide +kernel
theorem dX0_beginWith_7 : decode cX0_beginWith 7 = .ok (.putfield 25, 3) := by decide +kernel
theorem dX0_beginWith_10 : decode cX0_beginWith 10 = .ok (.aload_n 0, 1) := by decide +kernel
theorem dX0_beginWith_11 : decode cX0_beginWith 11 = .ok (.iconst 3, 1) := by decide +kernel
theorem dX0_beginWith_12 : decode cX0_beginWith 12 = .ok (.putfield 28, 3) := by decide +kernel
theorem dX0_beginWith_15 : decode cX0_beginWith 15 = .ok (.aload_n 0, 1) := by decide +kernel
theorem dX0_beginWith_16 : decode cX0_beginWith 16 = .ok (.iconst 0, 1) := by decide +kernel
theorem dX0_beginWith_17 : decode cX0_beginWith 17 = .ok (.putfield 31, 3) := by decide +kernel
theorem dX0_beginWith_20 : decode cX0_beginWith 20 = .ok (.iconst 0, 1) := by decide +kernel
theorem dX0_beginWith_21 : decode cX0_beginWith 21 = .ok (.istore_n 2, 1) := by decide +kernel
theorem dX0_beginWith_22 : decode cX0_beginWith 22 = .ok (.iload_n 2, 1) := by decide +kernel
theorem dX0_beginWith_23 : decode cX0_beginWith 23 = .ok (.bipush 8, 2) := by decide +kernel
theorem dX0_beginWith_25 : decode cX0_beginWith 25 = .ok (.if_icmp .ge 16, 3) := by decide +kernel
theorem dX0_beginWith_28 : decode cX0_beginWith 28 = .ok (.aload_n 0, 1) := by decide +kernel
theorem dX0_beginWith_29 : decode cX0_beginWith 29 = .ok (.getfield 18, 3) := by decide +kernel
theorem dX0_beginWith_32 : decode cX0_beginWith 32 = .ok (.iload_n 2, 1) := by decide +kernel
theorem dX0_beginWith_33 : decode cX0_beginWith 33 = .ok (.iload_n 2, 1) := by decide +kernel
theorem dX0_beginWith_34 : decode cX0_beginWith 34 = .ok (.iastore, 1) := by decide +kernel
theorem dX0_beginWith_35 : decode cX0_beginWith 35 = .ok (.iinc 2 1, 3) := by decide +kernel
theorem dX0_beginWith_38 : decode cX0_beginWith 38 = .ok (.goto (-16), 3) := by decide +kernel
theorem dX0_beginWith_41 : decode cX0_beginWith 41 = .ok (.return_, 1) := by decide +kernel
theorem dX0_copyFrom_0 : decode cX0_copyFrom 0 = .ok (.aload_n 0, 1) := by decide +kernel
theorem dX0_copyFrom_1 : decode cX0_copyFrom 1 = .ok (.aload_n 1, 1) := by decide +kernel
theorem dX0_copyFrom_2 : decode cX0_copyFrom 2 = .ok (.getfield 21, 3) := by decide +kernel
theorem dX0_copyFrom_5 : decode cX0_copyFrom 5 = .ok (.putfield 21, 3) := by decide +kernel
theorem dX0_copyFrom_8 : decode cX0_copyFrom 8 = .ok (.aload_n 0, 1) := by decide +kernel
theorem dX0_copyFrom_9 : decode cX0_copyFrom 9 = .ok (.aload_n 1, 1) := by decide +kernel
theorem dX0_copyFrom_10 : decode cX0_copyFrom 10 = .ok (.getfield 25, 3) := by decide +kernel
theorem dX0_copyFrom_13 : decode cX0_copyFrom 13 = .ok (.putfield 25, 3) := by decide +kernel
theorem dX0_copyFrom_16 : decode cX0_copyFrom 16 = .ok (.aload_n 0, 1) := by decide +kernel
theorem dX0_copyFrom_17 : decode cX0_copyFrom 17 = .ok (.aload_n 1, 1) := by decide +kernel
theorem dX0_copyFrom_18 : decode cX0_copyFrom 18 = .ok (.getfield 28, 3) := by decide +kernel
theorem dX0_copyFrom_21 : decode cX0_copyFrom 21 = .ok (.putfield 28, 3) := by decide +kernel
theorem dX0_copyFrom_24 : decode cX0_copyFrom 24 = .ok (.aload_n 0, 1) := by decide +kernel
theorem dX0_copyFrom_25 : decode cX0_copyFrom 25 = .ok (.aload_n 1, 1) := by decide +kernel
theorem dX0_copyFrom_26 : decode cX0_copyFrom 26 = .ok (.getfield 31, 3) := by decide +kernel
theorem dX0_copyFrom_29 : decode cX0_copyFrom 29 = .ok (.putfield 31, 3) := by decide +kernel
theorem dX0_copyFrom_32 : decode cX0_copyFrom 32 = .ok (.aload_n 1, 1) := by decide +kernel
theorem dX0_copyFrom_33 : decode cX0_copyFrom 33 = .ok (.getfield 9, 3) := by decide +kernel
theorem dX0_copyFrom_36 : decode cX0_copyFrom 36 = .ok (.iconst 0, 1) := by decide +kernel
theorem dX0_copyFrom_37 : decode cX0_copyFrom 37 = .ok (.aload_n 0, 1) := by decide +kernel
theorem dX0_copyFrom_38 : decode cX0_copyFrom 38 = .ok (.getfield 9, 3) := by decide +kernel
theorem dX0_copyFrom_41 : decode cX0_copyFrom 41 = .ok (.iconst 0, 1) := by decide +kernel
theorem dX0_copyFrom_42 : decode cX0_copyFrom 42 = .ok (.bipush 11, 2) := by decide +kernel
theorem dX0_copyFrom_44 : decode cX0_copyFrom 44 = .ok (.invokestatic 34, 3) := by decide +kernel
theorem dX0_copyFrom_47 : decode cX0_copyFrom 47 = .ok (.aload_n 1, 1) := by decide +kernel
theorem dX0_copyFrom_48 : decode cX0_copyFrom 48 = .ok (.getfield 15, 3) := by decide +kernel
theorem dX0_copyFrom_51 : decode cX0_copyFrom 51 = .ok (.iconst 0, 1) := by decide +kernel
theorem dX0_copyFrom_52 : decode cX0_copyFrom 52 = .ok (.aload_n 0, 1) := by decide +kernel
theorem dX0_copyFrom_53 : decode cX0_copyFrom 53 = .ok (.getfield 15, 3) := by decide +kernel
theorem dX0_copyFrom_56 : decode cX0_copyFrom 56 = .ok (.iconst 0, 1) := by decide +kernel
theorem dX0_copyFrom_57 : decode cX0_copyFrom 57 = .ok (.bipush 11, 2) := by decide +kernel
theorem dX0_copyFrom_59 : decode cX0_copyFrom 59 = .ok (.invokestatic 34, 3) := by decide +kernel
theorem dX0_copyFrom_62 : decode cX0_copyFrom 62 = .ok (.aload_n 1, 1) := by decide +kernel
theorem dX0_copyFrom_63 : decode cX0_copyFrom 63 = .ok (.getfield 18, 3) := by decide +kernel
theorem dX0_copyFrom_66 : decode cX0_copyFrom 66 = .ok (.iconst 0, 1) := by decide +kernel
theorem dX0_copyFrom_67 : decode cX0_copyFrom 67 = .ok (.aload_n 0, 1) := by decide +kernel
theorem dX0_copyFrom_68 : decode cX0_copyFrom 68 = .ok (.getfield 18, 3) := by decide +kernel
theorem dX0_copyFrom_71 : decode cX0_copyFrom 71 = .ok (.iconst 0, 1) := by decide +kernel
theorem dX0_copyFrom_72 : decode cX0_copyFrom 72 = .ok (.bipush 8, 2) := by decide +kernel
theorem dX0_copyFrom_74 : decode cX0_copyFrom 74 = .ok (.invokestatic 34, 3) := by decide +kernel
theorem dX0_copyFrom_77 : decode cX0_copyFrom 77 = .ok (.return_, 1) := by decide +kernel
theorem dX0_addBallot_0 : decode cX0_addBallot 0 = .ok (.aload_n 0, 1) := by decide +kernel
theorem dX0_addBallot_1 : decode cX0_addBallot 1 = .ok (.getfield 25, 3) := by decide +kernel
theorem dX0_addBallot_4 : decode cX0_addBallot 4 = .ok (.bipush 11, 2) := by decide +kernel
theorem dX0_addBallot_6 : decode cX0_addBallot 6 = .ok (.if_icmp .ge 33, 3) := by decide +kernel
theorem dX0_addBallot_9 : decode cX0_addBallot 9 = .ok (.aload_n 0, 1) := by decide +kernel
theorem dX0_addBallot_10 : decode cX0_addBallot 10 = .ok (.getfield 9, 3) := by decide +kernel
theorem dX0_addBallot_13 : decode cX0_addBallot 13 = .ok (.aload_n 0, 1) := by decide +kernel
theorem dX0_addBallot_14 : decode cX0_addBallot 14 = .ok (.getfield 25, 3) := by decide +kernel
theorem dX0_addBallot_17 : decode cX0_addBallot 17 = .ok (.iload_n 1, 1) := by decide +kernel
theorem dX0_addBallot_18 : decode cX0_addBallot 18 = .ok (.iastore, 1) := by decide +kernel
theorem dX0_addBallot_19 : decode cX0_addBallot 19 = .ok (.aload_n 0, 1) := by decide +kernel
theorem dX0_addBallot_20 : decode cX0_addBallot 20 = .ok (.getfield 15, 3) := by decide +kernel
theorem dX0_addBallot_23 : decode cX0_addBallot 23 = .ok (.aload_n 0, 1) := by decide +kernel
theorem dX0_addBallot_24 : decode cX0_addBallot 24 = .ok (.getfield 25, 3) := by decide +kernel
theorem dX0_addBallot_27 : decode cX0_addBallot 27 = .ok (.iload_n 2, 1) := by decide +kernel
theorem dX0_addBallot_28 : decode cX0_addBallot 28 = .ok (.iastore, 1) := by decide +kernel
theorem dX0_addBallot_29 : decode cX0_addBallot 29 = .ok (.aload_n 0, 1) := by decide +kernel
theorem dX0_addBallot_30 : decode cX0_addBallot 30 = .ok (.dup, 1) := by decide +kernel
theorem dX0_addBallot_31 : decode cX0_addBallot 31 = .ok (.getfield 25, 3) := by decide +kernel
theorem dX0_addBallot_34 : decode cX0_addBallot 34 = .ok (.iconst 1, 1) := by decide +kernel
theorem dX0_addBallot_35 : decode cX0_addBallot 35 = .ok (.iadd, 1) := by decide +kernel
theorem dX0_addBallot_36 : decode cX0_addBallot 36 = .ok (.putfield 25, 3) := by decide +kernel
theorem dX0_addBallot_39 : decode cX0_addBallot 39 = .ok (.return_, 1) := by decide +kernel
set_option maxRecDepth 20000 in
theorem ggX0_allVoters_X0_votersWhoAgree : GoodIn wsX0_allVoters wsX0_votersWhoAgree := goodIn_r _ [5, 6, 7, 8, 9, 10, 4, 11, 12, 13, 14, 15, 16, 17, 18, 19] (by decide +kernel) (by decide +kernel)
set_option maxRecDepth 20000 in
theorem gX0_allVoters_X0_votersWhoAgree : GoodIn wsX0_allVoters (wsV RX0 40 RX0 yX0_votersWhoAgree wsX0_votersWhoAgree) := goodIn_app (goodIn_of _ (by decide +kernel)) ggX0_allVoters_X0_votersWhoAgree
theorem dX0_allVoters_0 : decode cX0_allVoters 0 = .ok (.aload_n 0, 1) := by decide +kernel
theorem dX0_allVoters_1 : decode cX0_allVoters 1 = .ok (.iconst 0, 1) := by decide +kernel
theorem dX0_allVoters_2 : decode cX0_allVoters 2 = .ok (.invokevirtual 40, 3) := by decide +kernel
theorem dX0_allVoters_5 : decode cX0_allVoters 5 = .ok (.ireturn, 1) := by decide +kernel
set_option maxRecDepth 20000 in
theorem ggX0_supportOf_X0_votersWhoAgree : GoodIn wsX0_supportOf wsX0_votersWhoAgree := goodIn_r _ [5, 6, 7, 8, 9, 10, 4, 11, 12, 13, 14, 15, 16, 17, 18, 19] (by decide +kernel) (by decide +kernel)
set_option maxRecDepth 20000 in
theorem gX0_supportOf_X0_votersWhoAgree : GoodIn wsX0_supportOf (wsV RX0 40 RX0 yX0_votersWhoAgree wsX0_votersWhoAgree) := goodIn_app (goodIn_of _ (by decide +kernel)) ggX0_supportOf_X0_votersWhoAgree
theorem dX0_supportOf_0 : decode cX0_supportOf 0 = .ok (.aload_n 0, 1) := by decide +kernel
theorem dX0_supportOf_1 : decode cX0_supportOf 1 = .ok (.iconst 1, 1) := by decide +kernel
theorem dX0_supportOf_2 : decode cX0_supportOf 2 = .ok (.iload_n 1, 1) := by decide +kernel
theorem dX0_supportOf_3 : decode cX0_supportOf 3 = .ok (.ishl, 1) := by decide +kernel
theorem dX0_supportOf_4 : decode cX0_supportOf 4 = .ok (.invokevirtual 40, 3) := by decide +kernel
theorem dX0_supportOf_7 : decode cX0_supportOf 7 = .ok (.ireturn, 1) := by decide +kernel
theorem dX0_agreesTo_0 : decode cX0_agreesTo 0 = .ok (.aload_n 0, 1) := by decide +kernel
theorem dX0_agreesTo_1 : decode cX0_agreesTo 1 = .ok (.getfield 15, 3) := by decide +kernel
theorem dX0_agreesTo_4 : decode cX0_agreesTo 4 = .ok (.iload_n 1, 1) := by decide +kernel
theorem dX0_agreesTo_5 : decode cX0_agreesTo 5 = .ok (.iaload, 1) := by decide +kernel
theorem dX0_agreesTo_6 : decode cX0_agreesTo 6 = .ok (.iload_n 2, 1) := by decide +kernel
theorem dX0_agreesTo_7 : decode cX0_agreesTo 7 = .ok (.iand, 1) := by decide +kernel
theorem dX0_agreesTo_8 : decode cX0_agreesTo 8 = .ok (.iload_n 2, 1) := by decide +kernel
theorem dX0_agreesTo_9 : decode cX0_agreesTo 9 = .ok (.if_icmp .ne 7, 3) := by decide +kernel
theorem dX0_agreesTo_12 : decode cX0_agreesTo 12 = .ok (.iconst 1, 1) := by decide +kernel
theorem dX0_agreesTo_13 : decode cX0_agreesTo 13 = .ok (.goto 4, 3) := by decide +kernel
theorem dX0_agreesTo_16 : decode cX0_agreesTo 16 = .ok (.iconst 0, 1) := by decide +kernel
theorem dX0_agreesTo_17 : decode cX0_agreesTo 17 = .ok (.ireturn, 1) := by decide +kernel
set_option maxRecDepth 20000 in
theorem ggX0_votersWhoAgree_X0_agreesTo : GoodIn wsX0_votersWhoAgree wsX0_agreesTo := goodIn_r _ [7, 8, 9, 10, 11, 12, 13, 14, 15] (by decide +kernel) (by decide +kernel)
set_option maxRecDepth 20000 in
theorem gX0_votersWhoAgree_X0_agreesTo : GoodIn wsX0_votersWhoAgree (wsV RX0 44 RX0 yX0_agreesTo wsX0_agreesTo) := goodIn_app (goodIn_of _ (by decide +kernel)) ggX0_votersWhoAgree_X0_agreesTo
theorem dX0_votersWhoAgree_0 : decode cX0_votersWhoAgree 0 = .ok (.iconst 0, 1) := by decide +kernel
theorem dX0_votersWhoAgree_1 : decode cX0_votersWhoAgree 1 = .ok (.istore_n 2, 1) := by decide +kernel
theorem dX0_votersWhoAgree_2 : decode cX0_votersWhoAgree 2 = .ok (.iconst 0, 1) := by decide +kernel
theorem dX0_votersWhoAgree_3 : decode cX0_votersWhoAgree 3 = .ok (.istore_n 3, 1) := by decide +kernel
theorem dX0_votersWhoAgree_4 : decode cX0_votersWhoAgree 4 = .ok (.iload_n 3, 1) := by decide +kernel
theorem dX0_votersWhoAgree_5 : decode cX0_votersWhoAgree 5 = .ok (.aload_n 0, 1) := by decide +kernel
theorem dX0_votersWhoAgree_6 : decode cX0_votersWhoAgree 6 = .ok (.getfield 25, 3) := by decide +kernel
theorem dX0_votersWhoAgree_9 : decode cX0_votersWhoAgree 9 = .ok (.if_icmp .ge 27, 3) := by decide +kernel
theorem dX0_votersWhoAgree_12 : decode cX0_votersWhoAgree 12 = .ok (.aload_n 0, 1) := by decide +kernel
theorem dX0_votersWhoAgree_13 : decode cX0_votersWhoAgree 13 = .ok (.iload_n 3, 1) := by decide +kernel
theorem dX0_votersWhoAgree_14 : decode cX0_votersWhoAgree 14 = .ok (.iload_n 1, 1) := by decide +kernel
theorem dX0_votersWhoAgree_15 : decode cX0_votersWhoAgree 15 = .ok (.invokevirtual 44, 3) := by decide +kernel
theorem dX0_votersWhoAgree_18 : decode cX0_votersWhoAgree 18 = .ok (.ifCond .eq 12, 3) := by decide +kernel
theorem dX0_votersWhoAgree_21 : decode cX0_votersWhoAgree 21 = .ok (.iload_n 2, 1) := by decide +kernel
theorem dX0_votersWhoAgree_22 : decode cX0_votersWhoAgree 22 = .ok (.aload_n 0, 1) := by decide +kernel
theorem dX0_votersWhoAgree_23 : decode cX0_votersWhoAgree 23 = .ok (.getfield 9, 3) := by decide +kernel
theorem dX0_votersWhoAgree_26 : decode cX0_votersWhoAgree 26 = .ok (.iload_n 3, 1) := by decide +kernel
theorem dX0_votersWhoAgree_27 : decode cX0_votersWhoAgree 27 = .ok (.iaload, 1) := by decide +kernel
theorem dX0_votersWhoAgree_28 : decode cX0_votersWhoAgree 28 = .ok (.iadd, 1) := by decide +kernel
theorem dX0_votersWhoAgree_29 : decode cX0_votersWhoAgree 29 = .ok (.istore_n 2, 1) := by decide +kernel
theorem dX0_votersWhoAgree_30 : decode cX0_votersWhoAgree 30 = .ok (.iinc 3 1, 3) := by decide +kernel
theorem dX0_votersWhoAgree_33 : decode cX0_votersWhoAgree 33 = .ok (.goto (-29), 3) := by decide +kernel
theorem dX0_votersWhoAgree_36 : decode cX0_votersWhoAgree 36 = .ok (.iload_n 2, 1) := by decide +kernel
theorem dX0_votersWhoAgree_37 : decode cX0_votersWhoAgree 37 = .ok (.ireturn, 1) := by decide +kernel
set_option maxRecDepth 20000 in
theorem ggX0_approvedByThoseWhoAgree_X0_agreesTo : GoodIn wsX0_approvedByThoseWhoAgree wsX0_agreesTo := goodIn_r _ [7, 2, 8, 9, 10, 11, 12, 13, 14] (by decide +kernel) (by decide +kernel)
set_option maxRecDepth 20000 in
theorem gX0_approvedByThoseWhoAgree_X0_agreesTo : GoodIn wsX0_approvedByThoseWhoAgree (wsV RX0 44 RX0 yX0_agreesTo wsX0_agreesTo) := goodIn_app (goodIn_of _ (by decide +kernel)) ggX0_approvedByThoseWhoAgree_X0_agreesTo
theorem dX0_approvedByThoseWhoAgree_0 : decode cX0_approvedByThoseWhoAgree 0 = .ok (.iconst 0, 1) := by decide +kernel
theorem dX0_approvedByThoseWhoAgree_1 : decode cX0_approvedByThoseWhoAgree 1 = .ok (.istore_n 2, 1) := by decide +kernel
theorem dX0_approvedByThoseWhoAgree_2 : decode cX0_approvedByThoseWhoAgree 2 = .ok (.iconst 0, 1) := by decide +kernel
theorem dX0_approvedByThoseWhoAgree_3 : decode cX0_approvedByThoseWhoAgree 3 = .ok (.istore_n 3, 1) := by decide +kernel
theorem dX0_approvedByThoseWhoAgree_4 : decode cX0_approvedByThoseWhoAgree 4 = .ok (.iload_n 3, 1) := by decide +kernel
theorem dX0_approvedByThoseWhoAgree_5 : decode cX0_approvedByThoseWhoAgree 5 = .ok (.aload_n 0, 1) := by decide +kernel
theorem dX0_approvedByThoseWhoAgree_6 : decode cX0_approvedByThoseWhoAgree 6 = .ok (.getfield 25, 3) := by decide +kernel
theorem dX0_approvedByThoseWhoAgree_9 : decode cX0_approvedByThoseWhoAgree 9 = .ok (.if_icmp .ge 27, 3) := by decide +kernel
theorem dX0_approvedByThoseWhoAgree_12 : decode cX0_approvedByThoseWhoAgree 12 = .ok (.aload_n 0, 1) := by decide +kernel
theorem dX0_approvedByThoseWhoAgree_13 : decode cX0_approvedByThoseWhoAgree 13 = .ok (.iload_n 3, 1) := by decide +kernel
theorem dX0_approvedByThoseWhoAgree_14 : decode cX0_approvedByThoseWhoAgree 14 = .ok (.iload_n 1, 1) := by decide +kernel
theorem dX0_approvedByThoseWhoAgree_15 : decode cX0_approvedByThoseWhoAgree 15 = .ok (.invokevirtual 44, 3) := by decide +kernel
theorem dX0_approvedByThoseWhoAgree_18 : decode cX0_approvedByThoseWhoAgree 18 = .ok (.ifCond .eq 12, 3) := by decide +kernel
theorem dX0_approvedByThoseWhoAgree_21 : decode cX0_approvedByThoseWhoAgree 21 = .ok (.iload_n 2, 1) := by decide +kernel
theorem dX0_approvedByThoseWhoAgree_22 : decode cX0_approvedByThoseWhoAgree 22 = .ok (.aload_n 0, 1) := by decide +kernel
theorem dX0_approvedByThoseWhoAgree_23 : decode cX0_approvedByThoseWhoAgree 23 = .ok (.getfield 15, 3) := by decide +kernel
theorem dX0_approvedByThoseWhoAgree_26 : decode cX0_approvedByThoseWhoAgree 26 = .ok (.iload_n 3, 1) := by decide +kernel
theorem dX0_approvedByThoseWhoAgree_27 : decode cX0_approvedByThoseWhoAgree 27 = .ok (.iaload, 1) := by decide +kernel
theorem dX0_approvedByThoseWhoAgree_28 : decode cX0_approvedByThoseWhoAgree 28 = .ok (.ior, 1) := by decide +kernel
theorem dX0_approvedByThoseWhoAgree_29 : decode cX0_approvedByThoseWhoAgree 29 = .ok (.istore_n 2, 1) := by decide +kernel
theorem dX0_approvedByThoseWhoAgree_30 : decode cX0_approvedByThoseWhoAgree 30 = .ok (.iinc 3 1, 3) := by decide +kernel
theorem dX0_approvedByThoseWhoAgree_33 : decode cX0_approvedByThoseWhoAgree 33 = .ok (.goto (-29), 3) := by decide +kernel
theorem dX0_approvedByThoseWhoAgree_36 : decode cX0_approvedByThoseWhoAgree 36 = .ok (.iload_n 2, 1) := by decide +kernel
theorem dX0_approvedByThoseWhoAgree_37 : decode cX0_approvedByThoseWhoAgree 37 = .ok (.ireturn, 1) := by decide +kernel
set_option maxRecDepth 20000 in
theorem ggX0_isOwed_X0_votersWhoAgree : GoodIn wsX0_isOwed wsX0_votersWhoAgree := goodIn_r _ [6, 7, 8, 9, 10, 11, 5, 12, 13, 25, 26, 27, 28, 29, 30, 31] (by decide +kernel) (by decide +kernel)
set_option maxRecDepth 20000 in
theorem gX0_isOwed_X0_votersWhoAgree : GoodIn wsX0_isOwed (wsV RX0 40 RX0 yX0_votersWhoAgree wsX0_votersWhoAgree) := goodIn_app (goodIn_of _ (by decide +kernel)) ggX0_isOwed_X0_votersWhoAgree
set_option maxRecDepth 20000 in
theorem ggX0_isOwed_J6_bitCount_0f7a4 : GoodIn wsX0_isOwed wsJ6_bitCount_0f7a4 := goodIn_r _ [17, 18, 19, 20] (by decide +kernel) (by decide +kernel)
set_option maxRecDepth 20000 in
theorem gX0_isOwed_J6_bitCount_0f7a4 : GoodIn wsX0_isOwed (va_wsS RX0 48 yJ6_bitCount_0f7a4 wsJ6_bitCount_0f7a4) := goodIn_app (goodIn_of _ (by decide +kernel)) ggX0_isOwed_J6_bitCount_0f7a4
set_option maxRecDepth 20000 in
theorem ggX0_isOwed_X0_allVoters : GoodIn wsX0_isOwed wsX0_allVoters := goodIn_r _ [24, 2, 3, 4, 5, 6, 7, 8, 9, 10, 11, 12, 13, 25, 26, 27, 28, 29, 30, 31] (by decide +kernel) (by decide +kernel)
set_option maxRecDepth 20000 in
theorem gX0_isOwed_X0_allVoters : GoodIn wsX0_isOwed (wsV RX0 53 RX0 yX0_allVoters wsX0_allVoters) := goodIn_app (goodIn_of _ (by decide +kernel)) ggX0_isOwed_X0_allVoters
theorem dX0_isOwed_0 : decode cX0_isOwed 0 = .ok (.aload_n 0, 1) := by decide +kernel
theorem dX0_isOwed_1 : decode cX0_isOwed 1 = .ok (.iload_n 1, 1) := by decide +kernel
theorem dX0_isOwed_2 : decode cX0_isOwed 2 = .ok (.invokevirtual 40, 3) := by decide +kernel
theorem dX0_isOwed_5 : decode cX0_isOwed 5 = .ok (.istore_n 2, 1) := by decide +kernel
theorem dX0_isOwed_6 : decode cX0_isOwed 6 = .ok (.iload_n 2, 1) := by decide +kernel
theorem dX0_isOwed_7 : decode cX0_isOwed 7 = .ok (.ifCond .le 25, 3) := by decide +kernel
theorem dX0_isOwed_10 : decode cX0_isOwed 10 = .ok (.iload_n 2, 1) := by decide +kernel
theorem dX0_isOwed_11 : decode cX0_isOwed 11 = .ok (.aload_n 0, 1) := by decide +kernel
theorem dX0_isOwed_12 : decode cX0_isOwed 12 = .ok (.getfield 28, 3) := by decide +kernel
theorem dX0_isOwed_15 : decode cX0_isOwed 15 = .ok (.imul, 1) := by decide +kernel
theorem dX0_isOwed_16 : decode cX0_isOwed 16 = .ok (.iload_n 1, 1) := by decide +kernel
theorem dX0_isOwed_17 : decode cX0_isOwed 17 = .ok (.invokestatic 48, 3) := by decide +kernel
theorem dX0_isOwed_20 : decode cX0_isOwed 20 = .ok (.aload_n 0, 1) := by decide +kernel
theorem dX0_isOwed_21 : decode cX0_isOwed 21 = .ok (.invokevirtual 53, 3) := by decide +kernel
theorem dX0_isOwed_24 : decode cX0_isOwed 24 = .ok (.imul, 1) := by decide +kernel
theorem dX0_isOwed_25 : decode cX0_isOwed 25 = .ok (.if_icmp .lt 7, 3) := by decide +kernel
theorem dX0_isOwed_28 : decode cX0_isOwed 28 = .ok (.iconst 1, 1) := by decide +kernel
theorem dX0_isOwed_29 : decode cX0_isOwed 29 = .ok (.goto 4, 3) := by decide +kernel
theorem dX0_isOwed_32 : decode cX0_isOwed 32 = .ok (.iconst 0, 1) := by decide +kernel
theorem dX0_isOwed_33 : decode cX0_isOwed 33 = .ok (.ireturn, 1) := by decide +kernel
set_option maxRecDepth 20000 in
theorem ggX0_isShort_X0_isOwed : GoodIn wsX0_isShort wsX0_isOwed := goodIn_r _ [5, 6, 7, 8, 9, 4, 10, 11, 12, 13, 14, 15, 16, 17, 18, 19, 20, 21, 22, 23, 24, 25, 26, 27, 28, 33, 34, 35, 36, 37, 38, 39] (by decide +kernel) (by decide +kernel)
set_option maxRecDepth 20000 in
theorem gX0_isShort_X0_isOwed : GoodIn wsX0_isShort (wsV RX0 57 RX0 yX0_isOwed wsX0_isOwed) := goodIn_app (goodIn_of _ (by decide +kernel)) ggX0_isShort_X0_isOwed
set_option maxRecDepth 20000 in
theorem ggX0_isShort_X0_approvedByThoseWhoAgree : GoodIn wsX0_isShort wsX0_approvedByThoseWhoAgree := goodIn_r _ [32, 11, 17, 13, 14, 15, 4, 16, 33, 34, 35, 36, 37, 38, 39] (by decide +kernel) (by decide +kernel)
set_option maxRecDepth 20000 in
theorem gX0_isShort_X0_approvedByThoseWhoAgree : GoodIn wsX0_isShort (wsV RX0 61 RX0 yX0_approvedByThoseWhoAgree wsX0_approvedByThoseWhoAgree) := goodIn_app (goodIn_of _ (by decide +kernel)) ggX0_isShort_X0_approvedByThoseWhoAgree
set_option maxRecDepth 20000 in
theorem ggX0_isShort_J6_bitCount_0f7a4 : GoodIn wsX0_isShort wsJ6_bitCount_0f7a4 := goodIn_r _ [21, 22, 23, 24] (by decide +kernel) (by decide +kernel)
set_option maxRecDepth 20000 in
theorem gX0_isShort_J6_bitCount_0f7a4 : GoodIn wsX0_isShort (va_wsS RX0 48 yJ6_bitCount_0f7a4 wsJ6_bitCount_0f7a4) := goodIn_app (goodIn_of _ (by decide +kernel)) ggX0_isShort_J6_bitCount_0f7a4
theorem dX0_isShort_0 : decode cX0_isShort 0 = .ok (.aload_n 0, 1) := by decide +kernel
theorem dX0_isShort_1 : decode cX0_isShort 1 = .ok (.iload_n 1, 1) := by decide +kernel
theorem dX0_isShort_2 : decode cX0_isShort 2 = .ok (.invokevirtual 57, 3) := by decide +kernel
theorem dX0_isShort_5 : decode cX0_isShort 5 = .ok (.ifCond .eq 24, 3) := by decide +kernel
theorem dX0_isShort_8 : decode cX0_isShort 8 = .ok (.iload_n 2, 1) := by decide +kernel
theorem dX0_isShort_9 : decode cX0_isShort 9 = .ok (.aload_n 0, 1) := by decide +kernel
theorem dX0_isShort_10 : decode cX0_isShort 10 = .ok (.iload_n 1, 1) := by decide +kernel
theorem dX0_isShort_11 : decode cX0_isShort 11 = .ok (.invokevirtual 61, 3) := by decide +kernel
theorem dX0_isShort_14 : decode cX0_isShort 14 = .ok (.iand, 1) := by decide +kernel
theorem dX0_isShort_15 : decode cX0_isShort 15 = .ok (.invokestatic 48, 3) := by decide +kernel
theorem dX0_isShort_18 : decode cX0_isShort 18 = .ok (.iload_n 1, 1) := by decide +kernel
theorem dX0_isShort_19 : decode cX0_isShort 19 = .ok (.invokestatic 48, 3) := by decide +kernel
theorem dX0_isShort_22 : decode cX0_isShort 22 = .ok (.if_icmp .ge 7, 3) := by decide +kernel
theorem dX0_isShort_25 : decode cX0_isShort 25 = .ok (.iconst 1, 1) := by decide +kernel
theorem dX0_isShort_26 : decode cX0_isShort 26 = .ok (.goto 4, 3) := by decide +kernel
theorem dX0_isShort_29 : decode cX0_isShort 29 = .ok (.iconst 0, 1) := by decide +kernel
theorem dX0_isShort_30 : decode cX0_isShort 30 = .ok (.ireturn, 1) := by decide +kernel
set_option maxRecDepth 20000 in
theorem ggX0_isWithdrawn_X4_hasBit : GoodIn wsX0_isWithdrawn wsX4_hasBit := goodIn_r _ [4] (by decide +kernel) (by decide +kernel)
set_option maxRecDepth 20000 in
theorem gX0_isWithdrawn_X4_hasBit_n64 : GoodIn wsX0_isWithdrawn (wsX4_hasBit) := ggX0_isWithdrawn_X4_hasBit
theorem dX0_isWithdrawn_0 : decode cX0_isWithdrawn 0 = .ok (.aload_n 0, 1) := by decide +kernel
theorem dX0_isWithdrawn_1 : decode cX0_isWithdrawn 1 = .ok (.getfield 31, 3) := by decide +kernel
theorem dX0_isWithdrawn_4 : decode cX0_isWithdrawn 4 = .ok (.iload_n 1, 1) := by decide +kernel
theorem dX0_isWithdrawn_5 : decode cX0_isWithdrawn 5 = .ok (.invokestatic 64, 3) := by decide +kernel
theorem dX0_isWithdrawn_8 : decode cX0_isWithdrawn 8 = .ok (.ireturn, 1) := by decide +kernel
theorem dX0_placeOf_0 : decode cX0_placeOf 0 = .ok (.iconst 0, 1) := by decide +kernel
theorem dX0_placeOf_1 : decode cX0_placeOf 1 = .ok (.istore_n 2, 1) := by decide +kernel
theorem dX0_placeOf_2 : decode cX0_placeOf 2 = .ok (.iconst 0, 1) := by decide +kernel
theorem dX0_placeOf_3 : decode cX0_placeOf 3 = .ok (.istore_n 3, 1) := by decide +kernel
theorem dX0_placeOf_4 : decode cX0_placeOf 4 = .ok (.iload_n 3, 1) := by decide +kernel
theorem dX0_placeOf_5 : decode cX0_placeOf 5 = .ok (.aload_n 0, 1) := by decide +kernel
theorem dX0_placeOf_6 : decode cX0_placeOf 6 = .ok (.getfield 21, 3) := by decide +kernel
theorem dX0_placeOf_9 : decode cX0_placeOf 9 = .ok (.if_icmp .ge 21, 3) := by decide +kernel
theorem dX0_placeOf_12 : decode cX0_placeOf 12 = .ok (.aload_n 0, 1) := by decide +kernel
theorem dX0_placeOf_13 : decode cX0_placeOf 13 = .ok (.getfield 18, 3) := by decide +kernel
theorem dX0_placeOf_16 : decode cX0_placeOf 16 = .ok (.iload_n 3, 1) := by decide +kernel
theorem dX0_placeOf_17 : decode cX0_placeOf 17 = .ok (.iaload, 1) := by decide +kernel
theorem dX0_placeOf_18 : decode cX0_placeOf 18 = .ok (.iload_n 1, 1) := by decide +kernel
theorem dX0_placeOf_19 : decode cX0_placeOf 19 = .ok (.if_icmp .ne 5, 3) := by decide +kernel
theorem dX0_placeOf_22 : decode cX0_placeOf 22 = .ok (.iload_n 3, 1) := by decide +kernel
theorem dX0_placeOf_23 : decode cX0_placeOf 23 = .ok (.istore_n 2, 1) := by decide +kernel
theorem dX0_placeOf_24 : decode cX0_placeOf 24 = .ok (.iinc 3 1, 3) := by decide +kernel
theorem dX0_placeOf_27 : decode cX0_placeOf 27 = .ok (.goto (-23), 3) := by decide +kernel
theorem dX0_placeOf_30 : decode cX0_placeOf 30 = .ok (.iload_n 2, 1) := by decide +kernel
theorem dX0_placeOf_31 : decode cX0_placeOf 31 = .ok (.ireturn, 1) := by decide +kernel
theorem dX0_bringToFront_0 : decode cX0_bringToFront 0 = .ok (.aload_n 0, 1) := by decide +kernel
theorem dX0_bringToFront_1 : decode cX0_bringToFront 1 = .ok (.getfield 18, 3) := by decide +kernel
theorem dX0_bringToFront_4 : decode cX0_bringToFront 4 = .ok (.iload_n 1, 1) := by decide +kernel
theorem dX0_bringToFront_5 : decode cX0_bringToFront 5 = .ok (.iaload, 1) := by decide +kernel
theorem dX0_bringToFront_6 : decode cX0_bringToFront 6 = .ok (.istore_n 2, 1) := by decide +kernel
theorem dX0_bringToFront_7 : decode cX0_bringToFront 7 = .ok (.iload_n 1, 1) := by decide +kernel
theorem dX0_bringToFront_8 : decode cX0_bringToFront 8 = .ok (.istore_n 3, 1) := by decide +kernel
theorem dX0_bringToFront_9 : decode cX0_bringToFront 9 = .ok (.iload_n 3, 1) := by decide +kernel
theorem dX0_bringToFront_10 : decode cX0_bringToFront 10 = .ok (.ifCond .le 23, 3) := by decide +kernel
theorem dX0_bringToFront_13 : decode cX0_bringToFront 13 = .ok (.aload_n 0, 1) := by decide +kernel
theorem dX0_bringToFront_14 : decode cX0_bringToFront 14 = .ok (.getfield 18, 3) := by decide +kernel
theorem dX0_bringToFront_17 : decode cX0_bringToFront 17 = .ok (.iload_n 3, 1) := by decide +kernel
theorem dX0_bringToFront_18 : decode cX0_bringToFront 18 = .ok (.aload_n 0, 1) := by decide +kernel
theorem dX0_bringToFront_19 : decode cX0_bringToFront 19 = .ok (.getfield 18, 3) := by decide +kernel
theorem dX0_bringToFront_22 : decode cX0_bringToFront 22 = .ok (.iload_n 3, 1) := by decide +kernel
theorem dX0_bringToFront_23 : decode cX0_bringToFront 23 = .ok (.iconst 1, 1) := by decide +kernel
theorem dX0_bringToFront_24 : decode cX0_bringToFront 24 = .ok (.isub, 1) := by decide +kernel
theorem dX0_bringToFront_25 : decode cX0_bringToFront 25 = .ok (.iaload, 1) := by decide +kernel
theorem dX0_bringToFront_26 : decode cX0_bringToFront 26 = .ok (.iastore, 1) := by decide +kernel
theorem dX0_bringToFront_27 : decode cX0_bringToFront 27 = .ok (.iinc 3 (-1), 3) := by decide +kernel
theorem dX0_bringToFront_30 : decode cX0_bringToFront 30 = .ok (.goto (-21), 3) := by decide +kernel
theorem dX0_bringToFront_33 : decode cX0_bringToFront 33 = .ok (.aload_n 0, 1) := by decide +kernel
theorem dX0_bringToFront_34 : decode cX0_bringToFront 34 = .ok (.getfield 18, 3) := by decide +kernel
theorem dX0_bringToFront_37 : decode cX0_bringToFront 37 = .ok (.iconst 0, 1) := by decide +kernel
theorem dX0_bringToFront_38 : decode cX0_bringToFront 38 = .ok (.iload_n 2, 1) := by decide +kernel
theorem dX0_bringToFront_39 : decode cX0_bringToFront 39 = .ok (.iastore, 1) := by decide +kernel
theorem dX0_bringToFront_40 : decode cX0_bringToFront 40 = .ok (.return_, 1) := by decide +kernel
theorem dX0_turnRankRound_0 : decode cX0_turnRankRound 0 = .ok (.iconst 0, 1) := by decide +kernel
theorem dX0_turnRankRound_1 : decode cX0_turnRankRound 1 = .ok (.istore_n 1, 1) := by decide +kernel
theorem dX0_turnRankRound_2 : decode cX0_turnRankRound 2 = .ok (.iload_n 1, 1) := by decide +kernel
theorem dX0_turnRankRound_3 : decode cX0_turnRankRound 3 = .ok (.aload_n 0, 1) := by decide +kernel
theorem dX0_turnRankRound_4 : decode cX0_turnRankRound 4 = .ok (.getfield 21, 3) := by decide +kernel
theorem dX0_turnRankRound_7 : decode cX0_turnRankRound 7 = .ok (.iconst 2, 1) := by decide +kernel
theorem dX0_turnRankRound_8 : decode cX0_turnRankRound 8 = .ok (.idiv, 1) := by decide +kernel
theorem dX0_turnRankRound_9 : decode cX0_turnRankRound 9 = .ok (.if_icmp .ge 49, 3) := by decide +kernel
theorem dX0_turnRankRound_12 : decode cX0_turnRankRound 12 = .ok (.aload_n 0, 1) := by decide +kernel
theorem dX0_turnRankRound_13 : decode cX0_turnRankRound 13 = .ok (.getfield 18, 3) := by decide +kernel
theorem dX0_turnRankRound_16 : decode cX0_turnRankRound 16 = .ok (.iload_n 1, 1) := by decide +kernel
theorem dX0_turnRankRound_17 : decode cX0_turnRankRound 17 = .ok (.iaload, 1) := by decide +kernel
theorem dX0_turnRankRound_18 : decode cX0_turnRankRound 18 = .ok (.istore_n 2, 1) := by decide +kernel
theorem dX0_turnRankRound_19 : decode cX0_turnRankRound 19 = .ok (.aload_n 0, 1) := by decide +kernel
theorem dX0_turnRankRound_20 : decode cX0_turnRankRound 20 = .ok (.getfield 18, 3) := by decide +kernel
theorem dX0_turnRankRound_23 : decode cX0_turnRankRound 23 = .ok (.iload_n 1, 1) := by decide +kernel
theorem dX0_turnRankRound_24 : decode cX0_turnRankRound 24 = .ok (.aload_n 0, 1) := by decide +kernel
theorem dX0_turnRankRound_25 : decode cX0_turnRankRound 25 = .ok (.getfield 18, 3) := by decide +kernel
theorem dX0_turnRankRound_28 : decode cX0_turnRankRound 28 = .ok (.aload_n 0, 1) := by decide +kernel
theorem dX0_turnRankRound_29 : decode cX0_turnRankRound 29 = .ok (.getfield 21, 3) := by decide +kernel
theorem dX0_turnRankRound_32 : decode cX0_turnRankRound 32 = .ok (.iconst 1, 1) := by decide +kernel
theorem dX0_turnRankRound_33 : decode cX0_turnRankRound 33 = .ok (.isub, 1) := by decide +kernel
theorem dX0_turnRankRound_34 : decode cX0_turnRankRound 34 = .ok (.iload_n 1, 1) := by decide +kernel
theorem dX0_turnRankRound_35 : decode cX0_turnRankRound 35 = .ok (.isub, 1) := by decide +kernel
theorem dX0_turnRankRound_36 : decode cX0_turnRankRound 36 = .ok (.iaload, 1) := by decide +kernel
theorem dX0_turnRankRound_37 : decode cX0_turnRankRound 37 = .ok (.iastore, 1) := by decide +kernel
theorem dX0_turnRankRound_38 : decode cX0_turnRankRound 38 = .ok (.aload_n 0, 1) := by decide +kernel
theorem dX0_turnRankRound_39 : decode cX0_turnRankRound 39 = .ok (.getfield 18, 3) := by decide +kernel
theorem dX0_turnRankRound_42 : decode cX0_turnRankRound 42 = .ok (.aload_n 0, 1) := by decide +kernel
theorem dX0_turnRankRound_43 : decode cX0_turnRankRound 43 = .ok (.getfield 21, 3) := by decide +kernel
theorem dX0_turnRankRound_46 : decode cX0_turnRankRound 46 = .ok (.iconst 1, 1) := by decide +kernel
theorem dX0_turnRankRound_47 : decode cX0_turnRankRound 47 = .ok (.isub, 1) := by decide +kernel
theorem dX0_turnRankRound_48 : decode cX0_turnRankRound 48 = .ok (.iload_n 1, 1) := by decide +kernel
theorem dX0_turnRankRound_49 : decode cX0_turnRankRound 49 = .ok (.isub, 1) := by decide +kernel
theorem dX0_turnRankRound_50 : decode cX0_turnRankRound 50 = .ok (.iload_n 2, 1) := by decide +kernel
theorem dX0_turnRankRound_51 : decode cX0_turnRankRound 51 = .ok (.iastore, 1) := by decide +kernel
theorem dX0_turnRankRound_52 : decode cX0_turnRankRound 52 = .ok (.iinc 1 1, 3) := by decide +kernel
theorem dX0_turnRankRound_55 : decode cX0_turnRankRound 55 = .ok (.goto (-53), 3) := by decide +kernel
theorem dX0_turnRankRound_58 : decode cX0_turnRankRound 58 = .ok (.return_, 1) := by decide +kernel
theorem dX1_init_0 : decode cX1_init 0 = .ok (.aload_n 0, 1) := by decide +kernel
theorem dX1_init_1 : decode cX1_init 1 = .ok (.invokespecial 3, 3) := by decide +kernel
theorem dX1_init_4 : decode cX1_init 4 = .ok (.aload_n 0, 1) := by decide +kernel
theorem dX1_init_5 : decode cX1_init 5 = .ok (.bipush 8, 2) := by decide +kernel
theorem dX1_init_7 : decode cX1_init 7 = .ok (.newarray .int, 2) := by decide +kernel
theorem dX1_init_9 : decode cX1_init 9 = .ok (.putfield 9, 3) := by decide +kernel
theorem dX1_init_12 : decode cX1_init 12 = .ok (.aload_n 0, 1) := by decide +kernel
theorem dX1_init_13 : decode cX1_init 13 = .ok (.bipush 8, 2) := by decide +kernel
theorem dX1_init_15 : decode cX1_init 15 = .ok (.newarray .long, 2) := by decide +kernel
theorem dX1_init_17 : decode cX1_init 17 = .ok (.putfield 15, 3) := by decide +kernel
theorem dX1_init_20 : decode cX1_init 20 = .ok (.aload_n 0, 1) := by decide +kernel
theorem dX1_init_21 : decode cX1_init 21 = .ok (.bipush 8, 2) := by decide +kernel
theorem dX1_init_23 : decode cX1_init 23 = .ok (.newarray .long, 2) := by decide +kernel
theorem dX1_init_25 : decode cX1_init 25 = .ok (.putfield 19, 3) := by decide +kernel
theorem dX1_init_28 : decode cX1_init 28 = .ok (.aload_n 0, 1) := by decide +kernel
theorem dX1_init_29 : decode cX1_init 29 = .ok (.bipush 8, 2) := by decide +kernel
theorem dX1_init_31 : decode cX1_init 31 = .ok (.newarray .int, 2) := by decide +kernel
theorem dX1_init_33 : decode cX1_init 33 = .ok (.putfield 22, 3) := by decide +kernel
theorem dX1_init_36 : decode cX1_init 36 = .ok (.aload_n 0, 1) := by decide +kernel
theorem dX1_init_37 : decode cX1_init 37 = .ok (.bipush 8, 2) := by decide +kernel
theorem dX1_init_39 : decode cX1_init 39 = .ok (.newarray .long, 2) := by decide +kernel
theorem dX1_init_41 : decode cX1_init 41 = .ok (.putfield 25, 3) := by decide +kernel
theorem dX1_init_44 : decode cX1_init 44 = .ok (.aload_n 0, 1) := by decide +kernel
theorem dX1_init_45 : decode cX1_init 45 = .ok (.bipush 11, 2) := by decide +kernel
theorem dX1_init_47 : decode cX1_init 47 = .ok (.newarray .long, 2) := by decide +kernel
theorem dX1_init_49 : decode cX1_init 49 = .ok (.putfield 28, 3) := by decide +kernel
theorem dX1_init_52 : decode cX1_init 52 = .ok (.return_, 1) := by decide +kernel
set_option maxRecDepth 20000 in
theorem ggX1_hold_X1_begin : GoodIn wsX1_hold wsX1_begin := goodIn_r _ [6, 7, 1, 8, 9, 10, 11, 12, 13, 14, 15, 16, 17, 18, 19, 20, 21, 22, 23, 24, 25, 72, 73, 74, 75, 76, 77, 78, 79, 80, 65, 66, 67, 68, 69, 70, 71] (by decide +kernel) (by decide +kernel)
set_option maxRecDepth 20000 in
theorem gX1_hold_X1_begin : GoodIn wsX1_hold (wsV RX1 31 RX1 yX1_begin wsX1_begin) := goodIn_app (goodIn_of _ (by decide +kernel)) ggX1_hold_X1_begin
set_option maxRecDepth 20000 in
theorem ggX1_hold_X1_nextMember : GoodIn wsX1_hold wsX1_nextMember := goodIn_r _ [29, 1, 30, 31, 32, 33, 34, 35, 36, 5, 37, 10, 8, 9, 38, 39, 40, 41, 42, 43, 44, 45, 46, 47, 48, 49, 50, 51, 52, 65, 66, 67, 68, 69, 70, 71, 72, 73, 74, 75, 76, 77, 78, 79, 80] (by decide +kernel) (by decide +kernel)
set_option maxRecDepth 20000 in
theorem gX1_hold_X1_nextMember : GoodIn wsX1_hold (wsV RX1 41 RX1 yX1_nextMember wsX1_nextMember) := goodIn_app (goodIn_of _ (by decide +kernel)) ggX1_hold_X1_nextMember
set_option maxRecDepth 20000 in
theorem ggX1_hold_X1_elect : GoodIn wsX1_hold wsX1_elect := goodIn_r _ [56, 7, 57, 58, 30, 10, 59, 60, 8, 1, 61, 62, 63, 5, 64, 9, 31, 32, 33, 72, 73, 74, 75, 76, 77, 78, 79, 80, 65, 66, 67, 68, 69, 70, 71] (by decide +kernel) (by decide +kernel)
set_option maxRecDepth 20000 in
theorem gX1_hold_X1_elect : GoodIn wsX1_hold (wsV RX1 48 RX1 yX1_elect wsX1_elect) := goodIn_app (goodIn_of _ (by decide +kernel)) ggX1_hold_X1_elect
theorem dX1_hold_0 : decode cX1_hold 0 = .ok (.aload_n 0, 1) := by decide +kernel
theorem dX1_hold_1 : decode cX1_hold 1 = .ok (.aload_n 1, 1) := by decide +kernel
theorem dX1_hold_2 : decode cX1_hold 2 = .ok (.invokevirtual 31, 3) := by decide +kernel
theorem dX1_hold_5 : decode cX1_hold 5 = .ok (.iconst 0, 1) := by decide +kernel
theorem dX1_hold_6 : decode cX1_hold 6 = .ok (.istore_n 3, 1) := by decide +kernel
theorem dX1_hold_7 : decode cX1_hold 7 = .ok (.iload_n 3, 1) := by decide +kernel
theorem dX1_hold_8 : decode cX1_hold 8 = .ok (.aload_n 1, 1) := by decide +kernel
theorem dX1_hold_9 : decode cX1_hold 9 = .ok (.getfield 35, 3) := by decide +kernel
theorem dX1_hold_12 : decode cX1_hold 12 = .ok (.if_icmp .ge 37, 3) := by decide +kernel
theorem dX1_hold_15 : decode cX1_hold 15 = .ok (.aload_n 0, 1) := by decide +kernel
theorem dX1_hold_16 : decode cX1_hold 16 = .ok (.aload_n 1, 1) := by decide +kernel
theorem dX1_hold_17 : decode cX1_hold 17 = .ok (.iload_n 2, 1) := by decide +kernel
theorem dX1_hold_18 : decode cX1_hold 18 = .ok (.invokevirtual 41, 3) := by decide +kernel
theorem dX1_hold_21 : decode cX1_hold 21 = .ok (.istore 4, 2) := by decide +kernel
theorem dX1_hold_23 : decode cX1_hold 23 = .ok (.iload 4, 2) := by decide +kernel
theorem dX1_hold_25 : decode cX1_hold 25 = .ok (.bipush (-4), 2) := by decide +kernel
theorem dX1_hold_27 : decode cX1_hold 27 = .ok (.if_icmp .ne 8, 3) := by decide +kernel
theorem dX1_hold_30 : decode cX1_hold 30 = .ok (.aload_n 0, 1) := by decide +kernel
theorem dX1_hold_31 : decode cX1_hold 31 = .ok (.getfield 45, 3) := by decide +kernel
theorem dX1_hold_34 : decode cX1_hold 34 = .ok (.ireturn, 1) := by decide +kernel
theorem dX1_hold_35 : decode cX1_hold 35 = .ok (.aload_n 0, 1) := by decide +kernel
theorem dX1_hold_36 : decode cX1_hold 36 = .ok (.aload_n 1, 1) := by decide +kernel
theorem dX1_hold_37 : decode cX1_hold 37 = .ok (.iload_n 2, 1) := by decide +kernel
theorem dX1_hold_38 : decode cX1_hold 38 = .ok (.iload 4, 2) := by decide +kernel
theorem dX1_hold_40 : decode cX1_hold 40 = .ok (.invokevirtual 48, 3) := by decide +kernel
theorem dX1_hold_43 : decode cX1_hold 43 = .ok (.iinc 3 1, 3) := by decide +kernel
theorem dX1_hold_46 : decode cX1_hold 46 = .ok (.goto (-39), 3) := by decide +kernel
theorem dX1_hold_49 : decode cX1_hold 49 = .ok (.aload_n 0, 1) := by decide +kernel
theorem dX1_hold_50 : decode cX1_hold 50 = .ok (.getfield 45, 3) := by decide +kernel
theorem dX1_hold_53 : decode cX1_hold 53 = .ok (.ireturn, 1) := by decide +kernel
set_option maxRecDepth 20000 in
theorem ggX1_begin_X0_supportOf : GoodIn wsX1_begin wsX0_supportOf := goodIn_r _ [9, 10, 11, 12, 7, 13, 14, 15, 16, 17, 18, 19, 20, 30, 31, 32, 33, 34, 35, 36] (by decide +kernel) (by decide +kernel)
set_option maxRecDepth 20000 in
theorem gX1_begin_X0_supportOf_n62 : GoodIn wsX1_begin (wsX0_supportOf) := ggX1_begin_X0_supportOf
theorem dX1_begin_0 : decode cX1_begin 0 = .ok (.aload_n 0, 1) := by decide +kernel
theorem dX1_begin_1 : decode cX1_begin 1 = .ok (.iconst 0, 1) := by decide +kernel
theorem dX1_begin_2 : decode cX1_begin 2 = .ok (.putfield 52, 3) := by decide +kernel
theorem dX1_begin_5 : decode cX1_begin 5 = .ok (.aload_n 0, 1) := by decide +kernel
theorem dX1_begin_6 : decode cX1_begin 6 = .ok (.iconst 0, 1) := by decide +kernel
theorem dX1_begin_7 : decode cX1_begin 7 = .ok (.putfield 45, 3) := by decide +kernel
theorem dX1_begin_10 : decode cX1_begin 10 = .ok (.aload_n 0, 1) := by decide +kernel
theorem dX1_begin_11 : decode cX1_begin 11 = .ok (.lconst 1, 1) := by decide +kernel
theorem dX1_begin_12 : decode cX1_begin 12 = .ok (.putfield 55, 3) := by decide +kernel
theorem dX1_begin_15 : decode cX1_begin 15 = .ok (.iconst 0, 1) := by decide +kernel
theorem dX1_begin_16 : decode cX1_begin 16 = .ok (.istore_n 2, 1) := by decide +kernel
theorem dX1_begin_17 : decode cX1_begin 17 = .ok (.iload_n 2, 1) := by decide +kernel
theorem dX1_begin_18 : decode cX1_begin 18 = .ok (.bipush 11, 2) := by decide +kernel
theorem dX1_begin_20 : decode cX1_begin 20 = .ok (.if_icmp .ge 16, 3) := by decide +kernel
theorem dX1_begin_23 : decode cX1_begin 23 = .ok (.aload_n 0, 1) := by decide +kernel
theorem dX1_begin_24 : decode cX1_begin 24 = .ok (.getfield 28, 3) := by decide +kernel
theorem dX1_begin_27 : decode cX1_begin 27 = .ok (.iload_n 2, 1) := by decide +kernel
theorem dX1_begin_28 : decode cX1_begin 28 = .ok (.lconst 0, 1) := by decide +kernel
theorem dX1_begin_29 : decode cX1_begin 29 = .ok (.lastore, 1) := by decide +kernel
theorem dX1_begin_30 : decode cX1_begin 30 = .ok (.iinc 2 1, 3) := by decide +kernel
theorem dX1_begin_33 : decode cX1_begin 33 = .ok (.goto (-16), 3) := by decide +kernel
theorem dX1_begin_36 : decode cX1_begin 36 = .ok (.iconst 0, 1) := by decide +kernel
theorem dX1_begin_37 : decode cX1_begin 37 = .ok (.istore_n 2, 1) := by decide +kernel
theorem dX1_begin_38 : decode cX1_begin 38 = .ok (.iload_n 2, 1) := by decide +kernel
theorem dX1_begin_39 : decode cX1_begin 39 = .ok (.aload_n 1, 1) := by decide +kernel
theorem dX1_begin_40 : decode cX1_begin 40 = .ok (.getfield 59, 3) := by decide +kernel
theorem dX1_begin_43 : decode cX1_begin 43 = .ok (.if_icmp .ge 20, 3) := by decide +kernel
theorem dX1_begin_46 : decode cX1_begin 46 = .ok (.aload_n 0, 1) := by decide +kernel
theorem dX1_begin_47 : decode cX1_begin 47 = .ok (.getfield 22, 3) := by decide +kernel
theorem dX1_begin_50 : decode cX1_begin 50 = .ok (.iload_n 2, 1) := by decide +kernel
theorem dX1_begin_51 : decode cX1_begin 51 = .ok (.aload_n 1, 1) := by decide +kernel
theorem dX1_begin_52 : decode cX1_begin 52 = .ok (.iload_n 2, 1) := by decide +kernel
theorem dX1_begin_53 : decode cX1_begin 53 = .ok (.invokevirtual 62, 3) := by decide +kernel
theorem dX1_begin_56 : decode cX1_begin 56 = .ok (.iastore, 1) := by decide +kernel
theorem dX1_begin_57 : decode cX1_begin 57 = .ok (.iinc 2 1, 3) := by decide +kernel
theorem dX1_begin_60 : decode cX1_begin 60 = .ok (.goto (-22), 3) := by decide +kernel
theorem dX1_begin_63 : decode cX1_begin 63 = .ok (.return_, 1) := by decide +kernel
set_option maxRecDepth 20000 in
theorem ggX1_nextMember_X4_hasBit : GoodIn wsX1_nextMember wsX4_hasBit := goodIn_r _ [5] (by decide +kernel) (by decide +kernel)
set_option maxRecDepth 20000 in
theorem gX1_nextMember_X4_hasBit_n72 : GoodIn wsX1_nextMember (wsX4_hasBit) := ggX1_nextMember_X4_hasBit
set_option maxRecDepth 20000 in
theorem ggX1_nextMember_X1_worthOf : GoodIn wsX1_nextMember wsX1_worthOf := goodIn_r _ [10, 11, 12, 13, 3, 4, 5, 14, 15, 16, 9, 17, 1, 18, 19, 20, 21, 22, 23, 24, 36, 37, 38, 39, 40, 41, 42, 43, 44, 29, 30, 31, 32, 33, 34, 35] (by decide +kernel) (by decide +kernel)
set_option maxRecDepth 20000 in
theorem gX1_nextMember_X1_worthOf : GoodIn wsX1_nextMember (wsV RX1 76 RX1 yX1_worthOf wsX1_worthOf) := goodIn_app (goodIn_of _ (by decide +kernel)) ggX1_nextMember_X1_worthOf
set_option maxRecDepth 20000 in
theorem ggX1_nextMember_X1_isAhead : GoodIn wsX1_nextMember wsX1_isAhead := goodIn_r _ [28, 11, 2, 36, 37, 38, 39, 40, 41, 42, 43, 44] (by decide +kernel) (by decide +kernel)
set_option maxRecDepth 20000 in
theorem gX1_nextMember_X1_isAhead : GoodIn wsX1_nextMember (wsV RX1 80 RX1 yX1_isAhead wsX1_isAhead) := goodIn_app (goodIn_of _ (by decide +kernel)) ggX1_nextMember_X1_isAhead
theorem dX1_nextMember_0 : decode cX1_nextMember 0 = .ok (.bipush (-4), 2) := by decide +kernel
theorem dX1_nextMember_2 : decode cX1_nextMember 2 = .ok (.istore_n 3, 1) := by decide +kernel
theorem dX1_nextMember_3 : decode cX1_nextMember 3 = .ok (.iconst 0, 1) := by decide +kernel
theorem dX1_nextMember_4 : decode cX1_nextMember 4 = .ok (.istore 4, 2) := by decide +kernel
theorem dX1_nextMember_6 : decode cX1_nextMember 6 = .ok (.iload 4, 2) := by decide +kernel
theorem dX1_nextMember_8 : decode cX1_nextMember 8 = .ok (.aload_n 1, 1) := by decide +kernel
theorem dX1_nextMember_9 : decode cX1_nextMember 9 = .ok (.getfield 59, 3) := by decide +kernel
theorem dX1_nextMember_12 : decode cX1_nextMember 12 = .ok (.if_icmp .ge 70, 3) := by decide +kernel
theorem dX1_nextMember_15 : decode cX1_nextMember 15 = .ok (.aload_n 1, 1) := by decide +kernel
theorem dX1_nextMember_16 : decode cX1_nextMember 16 = .ok (.getfield 66, 3) := by decide +kernel
theorem dX1_nextMember_19 : decode cX1_nextMember 19 = .ok (.iload 4, 2) := by decide +kernel
theorem dX1_nextMember_21 : decode cX1_nextMember 21 = .ok (.iaload, 1) := by decide +kernel
theorem dX1_nextMember_22 : decode cX1_nextMember 22 = .ok (.istore 5, 2) := by decide +kernel
theorem dX1_nextMember_24 : decode cX1_nextMember 24 = .ok (.aload_n 1, 1) := by decide +kernel
theorem dX1_nextMember_25 : decode cX1_nextMember 25 = .ok (.getfield 69, 3) := by decide +kernel
theorem dX1_nextMember_28 : decode cX1_nextMember 28 = .ok (.aload_n 0, 1) := by decide +kernel
theorem dX1_nextMember_29 : decode cX1_nextMember 29 = .ok (.getfield 45, 3) := by decide +kernel
theorem dX1_nextMember_32 : decode cX1_nextMember 32 = .ok (.ior, 1) := by decide +kernel
theorem dX1_nextMember_33 : decode cX1_nextMember 33 = .ok (.iload 5, 2) := by decide +kernel
theorem dX1_nextMember_35 : decode cX1_nextMember 35 = .ok (.invokestatic 72, 3) := by decide +kernel
theorem dX1_nextMember_38 : decode cX1_nextMember 38 = .ok (.ifCond .ne 38, 3) := by decide +kernel
theorem dX1_nextMember_41 : decode cX1_nextMember 41 = .ok (.aload_n 0, 1) := by decide +kernel
theorem dX1_nextMember_42 : decode cX1_nextMember 42 = .ok (.getfield 25, 3) := by decide +kernel
theorem dX1_nextMember_45 : decode cX1_nextMember 45 = .ok (.iload 5, 2) := by decide +kernel
theorem dX1_nextMember_47 : decode cX1_nextMember 47 = .ok (.aload_n 0, 1) := by decide +kernel
theorem dX1_nextMember_48 : decode cX1_nextMember 48 = .ok (.aload_n 1, 1) := by decide +kernel
theorem dX1_nextMember_49 : decode cX1_nextMember 49 = .ok (.iload_n 2, 1) := by decide +kernel
theorem dX1_nextMember_50 : decode cX1_nextMember 50 = .ok (.iload 5, 2) := by decide +kernel
theorem dX1_nextMember_52 : decode cX1_nextMember 52 = .ok (.invokevirtual 76, 3) := by decide +kernel
theorem dX1_nextMember_55 : decode cX1_nextMember 55 = .ok (.lastore, 1) := by decide +kernel
theorem dX1_nextMember_56 : decode cX1_nextMember 56 = .ok (.iload_n 3, 1) := by decide +kernel
theorem dX1_nextMember_57 : decode cX1_nextMember 57 = .ok (.bipush (-4), 2) := by decide +kernel
theorem dX1_nextMember_59 : decode cX1_nextMember 59 = .ok (.if_icmp .eq 14, 3) := by decide +kernel
theorem dX1_nextMember_62 : decode cX1_nextMember 62 = .ok (.aload_n 0, 1) := by decide +kernel
theorem dX1_nextMember_63 : decode cX1_nextMember 63 = .ok (.iload_n 2, 1) := by decide +kernel
theorem dX1_nextMember_64 : decode cX1_nextMember 64 = .ok (.iload 5, 2) := by decide +kernel
theorem dX1_nextMember_66 : decode cX1_nextMember 66 = .ok (.iload_n 3, 1) := by decide +kernel
theorem dX1_nextMember_67 : decode cX1_nextMember 67 = .ok (.invokevirtual 80, 3) := by decide +kernel
theorem dX1_nextMember_70 : decode cX1_nextMember 70 = .ok (.ifCond .eq 6, 3) := by decide +kernel
theorem dX1_nextMember_73 : decode cX1_nextMember 73 = .ok (.iload 5, 2) := by decide +kernel
theorem dX1_nextMember_75 : decode cX1_nextMember 75 = .ok (.istore_n 3, 1) := by decide +kernel
theorem dX1_nextMember_76 : decode cX1_nextMember 76 = .ok (.iinc 4 1, 3) := by decide +kernel
theorem dX1_nextMember_79 : decode cX1_nextMember 79 = .ok (.goto (-73), 3) := by decide +kernel
theorem dX1_nextMember_82 : decode cX1_nextMember 82 = .ok (.iload_n 3, 1) := by decide +kernel
theorem dX1_nextMember_83 : decode cX1_nextMember 83 = .ok (.ireturn, 1) := by decide +kernel
set_option maxRecDepth 20000 in
theorem ggX1_worthOf_X4_hasBit : GoodIn wsX1_worthOf wsX4_hasBit := goodIn_r _ [6] (by decide +kernel) (by decide +kernel)
set_option maxRecDepth 20000 in
theorem gX1_worthOf_X4_hasBit_n72 : GoodIn wsX1_worthOf (wsX4_hasBit) := ggX1_worthOf_X4_hasBit
set_option maxRecDepth 20000 in
theorem ggX1_worthOf_X1_weightOf : GoodIn wsX1_worthOf wsX1_weightOf := goodIn_r _ [11, 12, 13, 14, 15, 16, 17, 18, 19, 29, 30, 31, 32, 33, 34, 35, 20, 21, 22, 23, 24, 25, 26, 27, 28] (by decide +kernel) (by decide +kernel)
set_option maxRecDepth 20000 in
theorem gX1_worthOf_X1_weightOf : GoodIn wsX1_worthOf (wsV RX1 93 RX1 yX1_weightOf wsX1_weightOf) := goodIn_app (goodIn_of _ (by decide +kernel)) ggX1_worthOf_X1_weightOf
theorem dX1_worthOf_0 : decode cX1_worthOf 0 = .ok (.iload_n 2, 1) := by decide +kernel
theorem dX1_worthOf_1 : decode cX1_worthOf 1 = .ok (.iconst 1, 1) := by decide +kernel
theorem dX1_worthOf_2 : decode cX1_worthOf 2 = .ok (.if_icmp .ne 11, 3) := by decide +kernel
theorem dX1_worthOf_5 : decode cX1_worthOf 5 = .ok (.aload_n 0, 1) := by decide +kernel
theorem dX1_worthOf_6 : decode cX1_worthOf 6 = .ok (.getfield 22, 3) := by decide +kernel
theorem dX1_worthOf_9 : decode cX1_worthOf 9 = .ok (.iload_n 3, 1) := by decide +kernel
theorem dX1_worthOf_10 : decode cX1_worthOf 10 = .ok (.iaload, 1) := by decide +kernel
theorem dX1_worthOf_11 : decode cX1_worthOf 11 = .ok (.i2l, 1) := by decide +kernel
theorem dX1_worthOf_12 : decode cX1_worthOf 12 = .ok (.lreturn, 1) := by decide +kernel
theorem dX1_worthOf_13 : decode cX1_worthOf 13 = .ok (.iload_n 2, 1) := by decide +kernel
theorem dX1_worthOf_14 : decode cX1_worthOf 14 = .ok (.iconst 2, 1) := by decide +kernel
theorem dX1_worthOf_15 : decode cX1_worthOf 15 = .ok (.if_icmp .ne 7, 3) := by decide +kernel
theorem dX1_worthOf_18 : decode cX1_worthOf 18 = .ok (.lconst 0, 1) := by decide +kernel
theorem dX1_worthOf_19 : decode cX1_worthOf 19 = .ok (.goto 7, 3) := by decide +kernel
theorem dX1_worthOf_22 : decode cX1_worthOf 22 = .ok (.aload_n 0, 1) := by decide +kernel
theorem dX1_worthOf_23 : decode cX1_worthOf 23 = .ok (.getfield 55, 3) := by decide +kernel
theorem dX1_worthOf_26 : decode cX1_worthOf 26 = .ok (.lstore 4, 2) := by decide +kernel
theorem dX1_worthOf_28 : decode cX1_worthOf 28 = .ok (.iconst 0, 1) := by decide +kernel
theorem dX1_worthOf_29 : decode cX1_worthOf 29 = .ok (.istore 6, 2) := by decide +kernel
theorem dX1_worthOf_31 : decode cX1_worthOf 31 = .ok (.iload 6, 2) := by decide +kernel
theorem dX1_worthOf_33 : decode cX1_worthOf 33 = .ok (.aload_n 1, 1) := by decide +kernel
theorem dX1_worthOf_34 : decode cX1_worthOf 34 = .ok (.getfield 84, 3) := by decide +kernel
theorem dX1_worthOf_37 : decode cX1_worthOf 37 = .ok (.if_icmp .ge 59, 3) := by decide +kernel
theorem dX1_worthOf_40 : decode cX1_worthOf 40 = .ok (.aload_n 1, 1) := by decide +kernel
theorem dX1_worthOf_41 : decode cX1_worthOf 41 = .ok (.getfield 87, 3) := by decide +kernel
theorem dX1_worthOf_44 : decode cX1_worthOf 44 = .ok (.iload 6, 2) := by decide +kernel
theorem dX1_worthOf_46 : decode cX1_worthOf 46 = .ok (.iaload, 1) := by decide +kernel
theorem dX1_worthOf_47 : decode cX1_worthOf 47 = .ok (.iload_n 3, 1) := by decide +kernel
theorem dX1_worthOf_48 : decode cX1_worthOf 48 = .ok (.invokestatic 72, 3) := by decide +kernel
theorem dX1_worthOf_51 : decode cX1_worthOf 51 = .ok (.ifCond .eq 39, 3) := by decide +kernel
theorem dX1_worthOf_54 : decode cX1_worthOf 54 = .ok (.lload 4, 2) := by decide +kernel
theorem dX1_worthOf_56 : decode cX1_worthOf 56 = .ok (.aload_n 1, 1) := by decide +kernel
theorem dX1_worthOf_57 : decode cX1_worthOf 57 = .ok (.getfield 90, 3) := by decide +kernel
theorem dX1_worthOf_60 : decode cX1_worthOf 60 = .ok (.iload 6, 2) := by decide +kernel
theorem dX1_worthOf_62 : decode cX1_worthOf 62 = .ok (.iaload, 1) := by decide +kernel
theorem dX1_worthOf_63 : decode cX1_worthOf 63 = .ok (.i2l, 1) := by decide +kernel
theorem dX1_worthOf_64 : decode cX1_worthOf 64 = .ok (.iload_n 2, 1) := by decide +kernel
theorem dX1_worthOf_65 : decode cX1_worthOf 65 = .ok (.iconst 2, 1) := by decide +kernel
theorem dX1_worthOf_66 : decode cX1_worthOf 66 = .ok (.if_icmp .ne 13, 3) := by decide +kernel
theorem dX1_worthOf_69 : decode cX1_worthOf 69 = .ok (.aload_n 0, 1) := by decide +kernel
theorem dX1_worthOf_70 : decode cX1_worthOf 70 = .ok (.aload_n 1, 1) := by decide +kernel
theorem dX1_worthOf_71 : decode cX1_worthOf 71 = .ok (.iload 6, 2) := by decide +kernel
theorem dX1_worthOf_73 : decode cX1_worthOf 73 = .ok (.invokevirtual 93, 3) := by decide +kernel
theorem dX1_worthOf_76 : decode cX1_worthOf 76 = .ok (.goto 10, 3) := by decide +kernel
theorem dX1_worthOf_79 : decode cX1_worthOf 79 = .ok (.aload_n 0, 1) := by decide +kernel
theorem dX1_worthOf_80 : decode cX1_worthOf 80 = .ok (.getfield 28, 3) := by decide +kernel
theorem dX1_worthOf_83 : decode cX1_worthOf 83 = .ok (.iload 6, 2) := by decide +kernel
theorem dX1_worthOf_85 : decode cX1_worthOf 85 = .ok (.laload, 1) := by decide +kernel
theorem dX1_worthOf_86 : decode cX1_worthOf 86 = .ok (.lmul, 1) := by decide +kernel
theorem dX1_worthOf_87 : decode cX1_worthOf 87 = .ok (.ladd, 1) := by decide +kernel
theorem dX1_worthOf_88 : decode cX1_worthOf 88 = .ok (.lstore 4, 2) := by decide +kernel
theorem dX1_worthOf_90 : decode cX1_worthOf 90 = .ok (.iinc 6 1, 3) := by decide +kernel
theorem dX1_worthOf_93 : decode cX1_worthOf 93 = .ok (.goto (-62), 3) := by decide +kernel
theorem dX1_worthOf_96 : decode cX1_worthOf 96 = .ok (.lload 4, 2) := by decide +kernel
theorem dX1_worthOf_98 : decode cX1_worthOf 98 = .ok (.lreturn, 1) := by decide +kernel
set_option maxRecDepth 20000 in
theorem ggX1_weightOf_J6_bitCount_0f7a4 : GoodIn wsX1_weightOf wsJ6_bitCount_0f7a4 := goodIn_r _ [5, 6, 7, 8] (by decide +kernel) (by decide +kernel)
set_option maxRecDepth 20000 in
theorem gX1_weightOf_J6_bitCount_0f7a4 : GoodIn wsX1_weightOf (va_wsS RX1 97 yJ6_bitCount_0f7a4 wsJ6_bitCount_0f7a4) := goodIn_app (goodIn_of _ (by decide +kernel)) ggX1_weightOf_J6_bitCount_0f7a4
theorem dX1_weightOf_0 : decode cX1_weightOf 0 = .ok (.sipush 840, 3) := by decide +kernel
theorem dX1_weightOf_3 : decode cX1_weightOf 3 = .ok (.iconst 1, 1) := by decide +kernel
theorem dX1_weightOf_4 : decode cX1_weightOf 4 = .ok (.aload_n 1, 1) := by decide +kernel
theorem dX1_weightOf_5 : decode cX1_weightOf 5 = .ok (.getfield 87, 3) := by decide +kernel
theorem dX1_weightOf_8 : decode cX1_weightOf 8 = .ok (.iload_n 2, 1) := by decide +kernel
theorem dX1_weightOf_9 : decode cX1_weightOf 9 = .ok (.iaload, 1) := by decide +kernel
theorem dX1_weightOf_10 : decode cX1_weightOf 10 = .ok (.aload_n 0, 1) := by decide +kernel
theorem dX1_weightOf_11 : decode cX1_weightOf 11 = .ok (.getfield 45, 3) := by decide +kernel
theorem dX1_weightOf_14 : decode cX1_weightOf 14 = .ok (.iand, 1) := by decide +kernel
theorem dX1_weightOf_15 : decode cX1_weightOf 15 = .ok (.invokestatic 97, 3) := by decide +kernel
theorem dX1_weightOf_18 : decode cX1_weightOf 18 = .ok (.iadd, 1) := by decide +kernel
theorem dX1_weightOf_19 : decode cX1_weightOf 19 = .ok (.idiv, 1) := by decide +kernel
theorem dX1_weightOf_20 : decode cX1_weightOf 20 = .ok (.i2l, 1) := by decide +kernel
theorem dX1_weightOf_21 : decode cX1_weightOf 21 = .ok (.lreturn, 1) := by decide +kernel
theorem dX1_isAhead_0 : decode cX1_isAhead 0 = .ok (.aload_n 0, 1) := by decide +kernel
theorem dX1_isAhead_1 : decode cX1_isAhead 1 = .ok (.getfield 22, 3) := by decide +kernel
theorem dX1_isAhead_4 : decode cX1_isAhead 4 = .ok (.iload_n 2, 1) := by decide +kernel
theorem dX1_isAhead_5 : decode cX1_isAhead 5 = .ok (.iaload, 1) := by decide +kernel
theorem dX1_isAhead_6 : decode cX1_isAhead 6 = .ok (.ifCond .eq 12, 3) := by decide +kernel
theorem dX1_isAhead_9 : decode cX1_isAhead 9 = .ok (.aload_n 0, 1) := by decide +kernel
theorem dX1_isAhead_10 : decode cX1_isAhead 10 = .ok (.getfield 22, 3) := by decide +kernel
theorem dX1_isAhead_13 : decode cX1_isAhead 13 = .ok (.iload_n 3, 1) := by decide +kernel
theorem dX1_isAhead_14 : decode cX1_isAhead 14 = .ok (.iaload, 1) := by decide +kernel
theorem dX1_isAhead_15 : decode cX1_isAhead 15 = .ok (.ifCond .ne 24, 3) := by decide +kernel
theorem dX1_isAhead_18 : decode cX1_isAhead 18 = .ok (.aload_n 0, 1) := by decide +kernel
theorem dX1_isAhead_19 : decode cX1_isAhead 19 = .ok (.getfield 22, 3) := by decide +kernel
theorem dX1_isAhead_22 : decode cX1_isAhead 22 = .ok (.iload_n 2, 1) := by decide +kernel
theorem dX1_isAhead_23 : decode cX1_isAhead 23 = .ok (.iaload, 1) := by decide +kernel
theorem dX1_isAhead_24 : decode cX1_isAhead 24 = .ok (.aload_n 0, 1) := by decide +kernel
theorem dX1_isAhead_25 : decode cX1_isAhead 25 = .ok (.getfield 22, 3) := by decide +kernel
theorem dX1_isAhead_28 : decode cX1_isAhead 28 = .ok (.iload_n 3, 1) := by decide +kernel
theorem dX1_isAhead_29 : decode cX1_isAhead 29 = .ok (.iaload, 1) := by decide +kernel
theorem dX1_isAhead_30 : decode cX1_isAhead 30 = .ok (.if_icmp .le 7, 3) := by decide +kernel
theorem dX1_isAhead_33 : decode cX1_isAhead 33 = .ok (.iconst 1, 1) := by decide +kernel
theorem dX1_isAhead_34 : decode cX1_isAhead 34 = .ok (.goto 4, 3) := by decide +kernel
theorem dX1_isAhead_37 : decode cX1_isAhead 37 = .ok (.iconst 0, 1) := by decide +kernel
theorem dX1_isAhead_38 : decode cX1_isAhead 38 = .ok (.ireturn, 1) := by decide +kernel
theorem dX1_isAhead_39 : decode cX1_isAhead 39 = .ok (.iload_n 1, 1) := by decide +kernel
theorem dX1_isAhead_40 : decode cX1_isAhead 40 = .ok (.iconst 1, 1) := by decide +kernel
theorem dX1_isAhead_41 : decode cX1_isAhead 41 = .ok (.if_icmp .eq 8, 3) := by decide +kernel
theorem dX1_isAhead_44 : decode cX1_isAhead 44 = .ok (.iload_n 1, 1) := by decide +kernel
theorem dX1_isAhead_45 : decode cX1_isAhead 45 = .ok (.iconst 2, 1) := by decide +kernel
theorem dX1_isAhead_46 : decode cX1_isAhead 46 = .ok (.if_icmp .ne 25, 3) := by decide +kernel
theorem dX1_isAhead_49 : decode cX1_isAhead 49 = .ok (.aload_n 0, 1) := by decide +kernel
theorem dX1_isAhead_50 : decode cX1_isAhead 50 = .ok (.getfield 25, 3) := by decide +kernel
theorem dX1_isAhead_53 : decode cX1_isAhead 53 = .ok (.iload_n 2, 1) := by decide +kernel
theorem dX1_isAhead_54 : decode cX1_isAhead 54 = .ok (.laload, 1) := by decide +kernel
theorem dX1_isAhead_55 : decode cX1_isAhead 55 = .ok (.aload_n 0, 1) := by decide +kernel
theorem dX1_isAhead_56 : decode cX1_isAhead 56 = .ok (.getfield 25, 3) := by decide +kernel
theorem dX1_isAhead_59 : decode cX1_isAhead 59 = .ok (.iload_n 3, 1) := by decide +kernel
theorem dX1_isAhead_60 : decode cX1_isAhead 60 = .ok (.laload, 1) := by decide +kernel
theorem dX1_isAhead_61 : decode cX1_isAhead 61 = .ok (.lcmp, 1) := by decide +kernel
theorem dX1_isAhead_62 : decode cX1_isAhead 62 = .ok (.ifCond .le 7, 3) := by decide +kernel
theorem dX1_isAhead_65 : decode cX1_isAhead 65 = .ok (.iconst 1, 1) := by decide +kernel
theorem dX1_isAhead_66 : decode cX1_isAhead 66 = .ok (.goto 4, 3) := by decide +kernel
theorem dX1_isAhead_69 : decode cX1_isAhead 69 = .ok (.iconst 0, 1) := by decide +kernel
theorem dX1_isAhead_70 : decode cX1_isAhead 70 = .ok (.ireturn, 1) := by decide +kernel
theorem dX1_isAhead_71 : decode cX1_isAhead 71 = .ok (.aload_n 0, 1) := by decide +kernel
theorem dX1_isAhead_72 : decode cX1_isAhead 72 = .ok (.getfield 25, 3) := by decide +kernel
theorem dX1_isAhead_75 : decode cX1_isAhead 75 = .ok (.iload_n 2, 1) := by decide +kernel
theorem dX1_isAhead_76 : decode cX1_isAhead 76 = .ok (.laload, 1) := by decide +kernel
theorem dX1_isAhead_77 : decode cX1_isAhead 77 = .ok (.aload_n 0, 1) := by decide +kernel
theorem dX1_isAhead_78 : decode cX1_isAhead 78 = .ok (.getfield 22, 3) := by decide +kernel
theorem dX1_isAhead_81 : decode cX1_isAhead 81 = .ok (.iload_n 3, 1) := by decide +kernel
theorem dX1_isAhead_82 : decode cX1_isAhead 82 = .ok (.iaload, 1) := by decide +kernel
theorem dX1_isAhead_83 : decode cX1_isAhead 83 = .ok (.i2l, 1) := by decide +kernel
theorem dX1_isAhead_84 : decode cX1_isAhead 84 = .ok (.lmul, 1) := by decide +kernel
theorem dX1_isAhead_85 : decode cX1_isAhead 85 = .ok (.aload_n 0, 1) := by decide +kernel
theorem dX1_isAhead_86 : decode cX1_isAhead 86 = .ok (.getfield 25, 3) := by decide +kernel
theorem dX1_isAhead_89 : decode cX1_isAhead 89 = .ok (.iload_n 3, 1) := by decide +kernel
theorem dX1_isAhead_90 : decode cX1_isAhead 90 = .ok (.laload, 1) := by decide +kernel
theorem dX1_isAhead_91 : decode cX1_isAhead 91 = .ok (.aload_n 0, 1) := by decide +kernel
theorem dX1_isAhead_92 : decode cX1_isAhead 92 = .ok (.getfield 22, 3) := by decide +kernel
theorem dX1_isAhead_95 : decode cX1_isAhead 95 = .ok (.iload_n 2, 1) := by decide +kernel
theorem dX1_isAhead_96 : decode cX1_isAhead 96 = .ok (.iaload, 1) := by decide +kernel
theorem dX1_isAhead_97 : decode cX1_isAhead 97 = .ok (.i2l, 1) := by decide +kernel
theorem dX1_isAhead_98 : decode cX1_isAhead 98 = .ok (.lmul, 1) := by decide +kernel
theorem dX1_isAhead_99 : decode cX1_isAhead 99 = .ok (.lcmp, 1) := by decide +kernel
theorem dX1_isAhead_100 : decode cX1_isAhead 100 = .ok (.ifCond .ge 7, 3) := by decide +kernel
theorem dX1_isAhead_103 : decode cX1_isAhead 103 = .ok (.iconst 1, 1) := by decide +kernel
theorem dX1_isAhead_104 : decode cX1_isAhead 104 = .ok (.goto 4, 3) := by decide +kernel
theorem dX1_isAhead_107 : decode cX1_isAhead 107 = .ok (.iconst 0, 1) := by decide +kernel
theorem dX1_isAhead_108 : decode cX1_isAhead 108 = .ok (.ireturn, 1) := by decide +kernel
set_option maxRecDepth 20000 in
theorem ggX1_elect_X1_spreadLoad : GoodIn wsX1_elect wsX1_spreadLoad := goodIn_r _ [14, 15, 4, 5, 8, 16, 17, 18, 28, 29, 30, 31, 32, 33, 34, 19, 20, 21, 22, 23, 24, 25, 26, 27] (by decide +kernel) (by decide +kernel)
set_option maxRecDepth 20000 in
theorem gX1_elect_X1_spreadLoad : GoodIn wsX1_elect (wsV RX1 104 RX1 yX1_spreadLoad wsX1_spreadLoad) := goodIn_app (goodIn_of _ (by decide +kernel)) ggX1_elect_X1_spreadLoad
theorem dX1_elect_0 : decode cX1_elect 0 = .ok (.aload_n 0, 1) := by decide +kernel
theorem dX1_elect_1 : decode cX1_elect 1 = .ok (.getfield 52, 3) := by decide +kernel
theorem dX1_elect_4 : decode cX1_elect 4 = .ok (.bipush 8, 2) := by decide +kernel
theorem dX1_elect_6 : decode cX1_elect 6 = .ok (.if_icmp .lt 4, 3) := by decide +kernel
theorem dX1_elect_9 : decode cX1_elect 9 = .ok (.return_, 1) := by decide +kernel
theorem dX1_elect_10 : decode cX1_elect 10 = .ok (.aload_n 0, 1) := by decide +kernel
theorem dX1_elect_11 : decode cX1_elect 11 = .ok (.getfield 9, 3) := by decide +kernel
theorem dX1_elect_14 : decode cX1_elect 14 = .ok (.aload_n 0, 1) := by decide +kernel
theorem dX1_elect_15 : decode cX1_elect 15 = .ok (.getfield 52, 3) := by decide +kernel
theorem dX1_elect_18 : decode cX1_elect 18 = .ok (.iload_n 3, 1) := by decide +kernel
theorem dX1_elect_19 : decode cX1_elect 19 = .ok (.iastore, 1) := by decide +kernel
theorem dX1_elect_20 : decode cX1_elect 20 = .ok (.aload_n 0, 1) := by decide +kernel
theorem dX1_elect_21 : decode cX1_elect 21 = .ok (.getfield 15, 3) := by decide +kernel
theorem dX1_elect_24 : decode cX1_elect 24 = .ok (.aload_n 0, 1) := by decide +kernel
theorem dX1_elect_25 : decode cX1_elect 25 = .ok (.getfield 52, 3) := by decide +kernel
theorem dX1_elect_28 : decode cX1_elect 28 = .ok (.aload_n 0, 1) := by decide +kernel
theorem dX1_elect_29 : decode cX1_elect 29 = .ok (.getfield 25, 3) := by decide +kernel
theorem dX1_elect_32 : decode cX1_elect 32 = .ok (.iload_n 3, 1) := by decide +kernel
theorem dX1_elect_33 : decode cX1_elect 33 = .ok (.laload, 1) := by decide +kernel
theorem dX1_elect_34 : decode cX1_elect 34 = .ok (.lastore, 1) := by decide +kernel
theorem dX1_elect_35 : decode cX1_elect 35 = .ok (.aload_n 0, 1) := by decide +kernel
theorem dX1_elect_36 : decode cX1_elect 36 = .ok (.getfield 22, 3) := by decide +kernel
theorem dX1_elect_39 : decode cX1_elect 39 = .ok (.iload_n 3, 1) := by decide +kernel
theorem dX1_elect_40 : decode cX1_elect 40 = .ok (.iaload, 1) := by decide +kernel
theorem dX1_elect_41 : decode cX1_elect 41 = .ok (.ifCond .ne 16, 3) := by decide +kernel
theorem dX1_elect_44 : decode cX1_elect 44 = .ok (.aload_n 0, 1) := by decide +kernel
theorem dX1_elect_45 : decode cX1_elect 45 = .ok (.getfield 19, 3) := by decide +kernel
theorem dX1_elect_48 : decode cX1_elect 48 = .ok (.aload_n 0, 1) := by decide +kernel
theorem dX1_elect_49 : decode cX1_elect 49 = .ok (.getfield 52, 3) := by decide +kernel
theorem dX1_elect_52 : decode cX1_elect 52 = .ok (.lconst 0, 1) := by decide +kernel
theorem dX1_elect_53 : decode cX1_elect 53 = .ok (.lastore, 1) := by decide +kernel
theorem dX1_elect_54 : decode cX1_elect 54 = .ok (.goto 60, 3) := by decide +kernel
theorem dX1_elect_57 : decode cX1_elect 57 = .ok (.iload_n 2, 1) := by decide +kernel
theorem dX1_elect_58 : decode cX1_elect 58 = .ok (.iconst 1, 1) := by decide +kernel
theorem dX1_elect_59 : decode cX1_elect 59 = .ok (.if_icmp .ne 16, 3) := by decide +kernel
theorem dX1_elect_62 : decode cX1_elect 62 = .ok (.aload_n 0, 1) := by decide +kernel
theorem dX1_elect_63 : decode cX1_elect 63 = .ok (.getfield 19, 3) := by decide +kernel
theorem dX1_elect_66 : decode cX1_elect 66 = .ok (.aload_n 0, 1) := by decide +kernel
theorem dX1_elect_67 : decode cX1_elect 67 = .ok (.getfield 52, 3) := by decide +kernel
theorem dX1_elect_70 : decode cX1_elect 70 = .ok (.lconst 1, 1) := by decide +kernel
theorem dX1_elect_71 : decode cX1_elect 71 = .ok (.lastore, 1) := by decide +kernel
theorem dX1_elect_72 : decode cX1_elect 72 = .ok (.goto 42, 3) := by decide +kernel
theorem dX1_elect_75 : decode cX1_elect 75 = .ok (.iload_n 2, 1) := by decide +kernel
theorem dX1_elect_76 : decode cX1_elect 76 = .ok (.iconst 2, 1) := by decide +kernel
theorem dX1_elect_77 : decode cX1_elect 77 = .ok (.if_icmp .ne 18, 3) := by decide +kernel
theorem dX1_elect_80 : decode cX1_elect 80 = .ok (.aload_n 0, 1) := by decide +kernel
theorem dX1_elect_81 : decode cX1_elect 81 = .ok (.getfield 19, 3) := by decide +kernel
theorem dX1_elect_84 : decode cX1_elect 84 = .ok (.aload_n 0, 1) := by decide +kernel
theorem dX1_elect_85 : decode cX1_elect 85 = .ok (.getfield 52, 3) := by decide +kernel
theorem dX1_elect_88 : decode cX1_elect 88 = .ok (.ldc2_w 102, 3) := by decide +kernel
theorem dX1_elect_91 : decode cX1_elect 91 = .ok (.lastore, 1) := by decide +kernel
theorem dX1_elect_92 : decode cX1_elect 92 = .ok (.goto 22, 3) := by decide +kernel
theorem dX1_elect_95 : decode cX1_elect 95 = .ok (.aload_n 0, 1) := by decide +kernel
theorem dX1_elect_96 : decode cX1_elect 96 = .ok (.aload_n 1, 1) := by decide +kernel
theorem dX1_elect_97 : decode cX1_elect 97 = .ok (.iload_n 3, 1) := by decide +kernel
theorem dX1_elect_98 : decode cX1_elect 98 = .ok (.invokevirtual 104, 3) := by decide +kernel
theorem dX1_elect_101 : decode cX1_elect 101 = .ok (.aload_n 0, 1) := by decide +kernel
theorem dX1_elect_102 : decode cX1_elect 102 = .ok (.getfield 19, 3) := by decide +kernel
theorem dX1_elect_105 : decode cX1_elect 105 = .ok (.aload_n 0, 1) := by decide +kernel
theorem dX1_elect_106 : decode cX1_elect 106 = .ok (.getfield 52, 3) := by decide +kernel
theorem dX1_elect_109 : decode cX1_elect 109 = .ok (.aload_n 0, 1) := by decide +kernel
theorem dX1_elect_110 : decode cX1_elect 110 = .ok (.getfield 55, 3) := by decide +kernel
theorem dX1_elect_113 : decode cX1_elect 113 = .ok (.lastore, 1) := by decide +kernel
theorem dX1_elect_114 : decode cX1_elect 114 = .ok (.aload_n 0, 1) := by decide +kernel
theorem dX1_elect_115 : decode cX1_elect 115 = .ok (.dup, 1) := by decide +kernel
theorem dX1_elect_116 : decode cX1_elect 116 = .ok (.getfield 52, 3) := by decide +kernel
theorem dX1_elect_119 : decode cX1_elect 119 = .ok (.iconst 1, 1) := by decide +kernel
theorem dX1_elect_120 : decode cX1_elect 120 = .ok (.iadd, 1) := by decide +kernel
theorem dX1_elect_121 : decode cX1_elect 121 = .ok (.putfield 52, 3) := by decide +kernel
theorem dX1_elect_124 : decode cX1_elect 124 = .ok (.aload_n 0, 1) := by decide +kernel
theorem dX1_elect_125 : decode cX1_elect 125 = .ok (.dup, 1) := by decide +kernel
theorem dX1_elect_126 : decode cX1_elect 126 = .ok (.getfield 45, 3) := by decide +kernel
theorem dX1_elect_129 : decode cX1_elect 129 = .ok (.iconst 1, 1) := by decide +kernel
theorem dX1_elect_130 : decode cX1_elect 130 = .ok (.iload_n 3, 1) := by decide +kernel
theorem dX1_elect_131 : decode cX1_elect 131 = .ok (.ishl, 1) := by decide +kernel
theorem dX1_elect_132 : decode cX1_elect 132 = .ok (.ior, 1) := by decide +kernel
theorem dX1_elect_133 : decode cX1_elect 133 = .ok (.putfield 45, 3) := by decide +kernel
theorem dX1_elect_136 : decode cX1_elect 136 = .ok (.return_, 1) := by decide +kernel
set_option maxRecDepth 20000 in
theorem ggX1_spreadLoad_X4_hasBit : GoodIn wsX1_spreadLoad wsX4_hasBit := goodIn_r _ [7] (by decide +kernel) (by decide +kernel)
set_option maxRecDepth 20000 in
theorem gX1_spreadLoad_X4_hasBit_n72 : GoodIn wsX1_spreadLoad (wsX4_hasBit) := ggX1_spreadLoad_X4_hasBit
theorem dX1_spreadLoad_0 : decode cX1_spreadLoad 0 = .ok (.iconst 0, 1) := by decide +kernel
theorem dX1_spreadLoad_1 : decode cX1_spreadLoad 1 = .ok (.istore_n 3, 1) := by decide +kernel
theorem dX1_spreadLoad_2 : decode cX1_spreadLoad 2 = .ok (.iload_n 3, 1) := by decide +kernel
theorem dX1_spreadLoad_3 : decode cX1_spreadLoad 3 = .ok (.aload_n 1, 1) := by decide +kernel
theorem dX1_spreadLoad_4 : decode cX1_spreadLoad 4 = .ok (.getfield 84, 3) := by decide +kernel
theorem dX1_spreadLoad_7 : decode cX1_spreadLoad 7 = .ok (.if_icmp .ge 51, 3) := by decide +kernel
theorem dX1_spreadLoad_10 : decode cX1_spreadLoad 10 = .ok (.aload_n 0, 1) := by decide +kernel
theorem dX1_spreadLoad_11 : decode cX1_spreadLoad 11 = .ok (.getfield 28, 3) := by decide +kernel
theorem dX1_spreadLoad_14 : decode cX1_spreadLoad 14 = .ok (.iload_n 3, 1) := by decide +kernel
theorem dX1_spreadLoad_15 : decode cX1_spreadLoad 15 = .ok (.aload_n 1, 1) := by decide +kernel
theorem dX1_spreadLoad_16 : decode cX1_spreadLoad 16 = .ok (.getfield 87, 3) := by decide +kernel
theorem dX1_spreadLoad_19 : decode cX1_spreadLoad 19 = .ok (.iload_n 3, 1) := by decide +kernel
theorem dX1_spreadLoad_20 : decode cX1_spreadLoad 20 = .ok (.iaload, 1) := by decide +kernel
theorem dX1_spreadLoad_21 : decode cX1_spreadLoad 21 = .ok (.iload_n 2, 1) := by decide +kernel
theorem dX1_spreadLoad_22 : decode cX1_spreadLoad 22 = .ok (.invokestatic 72, 3) := by decide +kernel
theorem dX1_spreadLoad_25 : decode cX1_spreadLoad 25 = .ok (.ifCond .eq 12, 3) := by decide +kernel
theorem dX1_spreadLoad_28 : decode cX1_spreadLoad 28 = .ok (.aload_n 0, 1) := by decide +kernel
theorem dX1_spreadLoad_29 : decode cX1_spreadLoad 29 = .ok (.getfield 25, 3) := by decide +kernel
theorem dX1_spreadLoad_32 : decode cX1_spreadLoad 32 = .ok (.iload_n 2, 1) := by decide +kernel
theorem dX1_spreadLoad_33 : decode cX1_spreadLoad 33 = .ok (.laload, 1) := by decide +kernel
theorem dX1_spreadLoad_34 : decode cX1_spreadLoad 34 = .ok (.goto 17, 3) := by decide +kernel
theorem dX1_spreadLoad_37 : decode cX1_spreadLoad 37 = .ok (.aload_n 0, 1) := by decide +kernel
theorem dX1_spreadLoad_38 : decode cX1_spreadLoad 38 = .ok (.getfield 28, 3) := by decide +kernel
theorem dX1_spreadLoad_41 : decode cX1_spreadLoad 41 = .ok (.iload_n 3, 1) := by decide +kernel
theorem dX1_spreadLoad_42 : decode cX1_spreadLoad 42 = .ok (.laload, 1) := by decide +kernel
theorem dX1_spreadLoad_43 : decode cX1_spreadLoad 43 = .ok (.aload_n 0, 1) := by decide +kernel
theorem dX1_spreadLoad_44 : decode cX1_spreadLoad 44 = .ok (.getfield 22, 3) := by decide +kernel
theorem dX1_spreadLoad_47 : decode cX1_spreadLoad 47 = .ok (.iload_n 2, 1) := by decide +kernel
theorem dX1_spreadLoad_48 : decode cX1_spreadLoad 48 = .ok (.iaload, 1) := by decide +kernel
theorem dX1_spreadLoad_49 : decode cX1_spreadLoad 49 = .ok (.i2l, 1) := by decide +kernel
theorem dX1_spreadLoad_50 : decode cX1_spreadLoad 50 = .ok (.lmul, 1) := by decide +kernel
theorem dX1_spreadLoad_51 : decode cX1_spreadLoad 51 = .ok (.lastore, 1) := by decide +kernel
theorem dX1_spreadLoad_52 : decode cX1_spreadLoad 52 = .ok (.iinc 3 1, 3) := by decide +kernel
theorem dX1_spreadLoad_55 : decode cX1_spreadLoad 55 = .ok (.goto (-53), 3) := by decide +kernel
theorem dX1_spreadLoad_58 : decode cX1_spreadLoad 58 = .ok (.aload_n 0, 1) := by decide +kernel
theorem dX1_spreadLoad_59 : decode cX1_spreadLoad 59 = .ok (.dup, 1) := by decide +kernel
theorem dX1_spreadLoad_60 : decode cX1_spreadLoad 60 = .ok (.getfield 55, 3) := by decide +kernel
theorem dX1_spreadLoad_63 : decode cX1_spreadLoad 63 = .ok (.aload_n 0, 1) := by decide +kernel
theorem dX1_spreadLoad_64 : decode cX1_spreadLoad 64 = .ok (.getfield 22, 3) := by decide +kernel
theorem dX1_spreadLoad_67 : decode cX1_spreadLoad 67 = .ok (.iload_n 2, 1) := by decide +kernel
theorem dX1_spreadLoad_68 : decode cX1_spreadLoad 68 = .ok (.iaload, 1) := by decide +kernel
theorem dX1_spreadLoad_69 : decode cX1_spreadLoad 69 = .ok (.i2l, 1) := by decide +kernel
theorem dX1_spreadLoad_70 : decode cX1_spreadLoad 70 = .ok (.lmul, 1) := by decide +kernel
theorem dX1_spreadLoad_71 : decode cX1_spreadLoad 71 = .ok (.putfield 55, 3) := by decide +kernel
theorem dX1_spreadLoad_74 : decode cX1_spreadLoad 74 = .ok (.return_, 1) := by decide +kernel
set_option maxRecDepth 20000 in
theorem ggX2_init_X0_init : GoodIn wsX2_init wsX0_init := goodIn_r _ [9, 10, 2, 3, 11, 12, 13, 14, 18, 19, 20, 21, 22, 23, 24] (by decide +kernel) (by decide +kernel)
set_option maxRecDepth 20000 in
theorem gX2_init_X0_init_n17 : GoodIn wsX2_init (wsX0_init) := ggX2_init_X0_init
theorem dX2_init_0 : decode cX2_init 0 = .ok (.aload_n 0, 1) := by decide +kernel
theorem dX2_init_1 : decode cX2_init 1 = .ok (.invokespecial 3, 3) := by decide +kernel
theorem dX2_init_4 : decode cX2_init 4 = .ok (.aload_n 0, 1) := by decide +kernel
theorem dX2_init_5 : decode cX2_init 5 = .ok (.bipush 6, 2) := by decide +kernel
theorem dX2_init_7 : decode cX2_init 7 = .ok (.anewarray 9, 3) := by decide +kernel
theorem dX2_init_10 : decode cX2_init 10 = .ok (.putfield 11, 3) := by decide +kernel
theorem dX2_init_13 : decode cX2_init 13 = .ok (.iconst 0, 1) := by decide +kernel
theorem dX2_init_14 : decode cX2_init 14 = .ok (.istore_n 1, 1) := by decide +kernel
theorem dX2_init_15 : decode cX2_init 15 = .ok (.iload_n 1, 1) := by decide +kernel
theorem dX2_init_16 : decode cX2_init 16 = .ok (.bipush 6, 2) := by decide +kernel
theorem dX2_init_18 : decode cX2_init 18 = .ok (.if_icmp .ge 22, 3) := by decide +kernel
theorem dX2_init_21 : decode cX2_init 21 = .ok (.aload_n 0, 1) := by decide +kernel
theorem dX2_init_22 : decode cX2_init 22 = .ok (.getfield 11, 3) := by decide +kernel
theorem dX2_init_25 : decode cX2_init 25 = .ok (.iload_n 1, 1) := by decide +kernel
theorem dX2_init_26 : decode cX2_init 26 = .ok (.new 9, 3) := by decide +kernel
theorem dX2_init_29 : decode cX2_init 29 = .ok (.dup, 1) := by decide +kernel
theorem dX2_init_30 : decode cX2_init 30 = .ok (.invokespecial 17, 3) := by decide +kernel
theorem dX2_init_33 : decode cX2_init 33 = .ok (.aastore, 1) := by decide +kernel
theorem dX2_init_34 : decode cX2_init 34 = .ok (.iinc 1 1, 3) := by decide +kernel
theorem dX2_init_37 : decode cX2_init 37 = .ok (.goto (-22), 3) := by decide +kernel
theorem dX2_init_40 : decode cX2_init 40 = .ok (.return_, 1) := by decide +kernel
theorem dX2_forget_0 : decode cX2_forget 0 = .ok (.aload_n 0, 1) := by decide +kernel
theorem dX2_forget_1 : decode cX2_forget 1 = .ok (.iconst 0, 1) := by decide +kernel
theorem dX2_forget_2 : decode cX2_forget 2 = .ok (.putfield 18, 3) := by decide +kernel
theorem dX2_forget_5 : decode cX2_forget 5 = .ok (.return_, 1) := by decide +kernel
set_option maxRecDepth 20000 in
theorem ggX2_keep_X0_copyFrom : GoodIn wsX2_keep wsX0_copyFrom := goodIn_r _ [11, 12, 13, 14, 15, 16, 17, 18, 19, 20, 21, 22, 26, 27, 28, 29, 30, 31, 32] (by decide +kernel) (by decide +kernel)
set_option maxRecDepth 20000 in
theorem gX2_keep_X0_copyFrom_n25 : GoodIn wsX2_keep (wsX0_copyFrom) := ggX2_keep_X0_copyFrom
theorem dX2_keep_0 : decode cX2_keep 0 = .ok (.aload_n 0, 1) := by decide +kernel
theorem dX2_keep_1 : decode cX2_keep 1 = .ok (.getfield 11, 3) := by decide +kernel
theorem dX2_keep_4 : decode cX2_keep 4 = .ok (.aload_n 0, 1) := by decide +kernel
theorem dX2_keep_5 : decode cX2_keep 5 = .ok (.getfield 22, 3) := by decide +kernel
theorem dX2_keep_8 : decode cX2_keep 8 = .ok (.aaload, 1) := by decide +kernel
theorem dX2_keep_9 : decode cX2_keep 9 = .ok (.aload_n 1, 1) := by decide +kernel
theorem dX2_keep_10 : decode cX2_keep 10 = .ok (.invokevirtual 25, 3) := by decide +kernel
theorem dX2_keep_13 : decode cX2_keep 13 = .ok (.aload_n 0, 1) := by decide +kernel
theorem dX2_keep_14 : decode cX2_keep 14 = .ok (.aload_n 0, 1) := by decide +kernel
theorem dX2_keep_15 : decode cX2_keep 15 = .ok (.getfield 22, 3) := by decide +kernel
theorem dX2_keep_18 : decode cX2_keep 18 = .ok (.iconst 1, 1) := by decide +kernel
theorem dX2_keep_19 : decode cX2_keep 19 = .ok (.iadd, 1) := by decide +kernel
theorem dX2_keep_20 : decode cX2_keep 20 = .ok (.bipush 6, 2) := by decide +kernel
theorem dX2_keep_22 : decode cX2_keep 22 = .ok (.irem, 1) := by decide +kernel
theorem dX2_keep_23 : decode cX2_keep 23 = .ok (.putfield 22, 3) := by decide +kernel
theorem dX2_keep_26 : decode cX2_keep 26 = .ok (.aload_n 0, 1) := by decide +kernel
theorem dX2_keep_27 : decode cX2_keep 27 = .ok (.aload_n 0, 1) := by decide +kernel
theorem dX2_keep_28 : decode cX2_keep 28 = .ok (.getfield 18, 3) := by decide +kernel
theorem dX2_keep_31 : decode cX2_keep 31 = .ok (.iconst 1, 1) := by decide +kernel
theorem dX2_keep_32 : decode cX2_keep 32 = .ok (.iadd, 1) := by decide +kernel
theorem dX2_keep_33 : decode cX2_keep 33 = .ok (.bipush 6, 2) := by decide +kernel
theorem dX2_keep_35 : decode cX2_keep 35 = .ok (.invokestatic 29, 3) := by decide +kernel
theorem dX2_keep_38 : decode cX2_keep 38 = .ok (.putfield 18, 3) := by decide +kernel
theorem dX2_keep_41 : decode cX2_keep 41 = .ok (.return_, 1) := by decide +kernel
set_option maxRecDepth 20000 in
theorem ggX2_bringBack_X0_copyFrom : GoodIn wsX2_bringBack wsX0_copyFrom := goodIn_r _ [7, 8, 9, 10, 11, 12, 13, 14, 15, 16, 17, 18, 22, 23, 24, 25, 26, 27, 28] (by decide +kernel) (by decide +kernel)
set_option maxRecDepth 20000 in
theorem gX2_bringBack_X0_copyFrom_n25 : GoodIn wsX2_bringBack (wsX0_copyFrom) := ggX2_bringBack_X0_copyFrom
theorem dX2_bringBack_0 : decode cX2_bringBack 0 = .ok (.aload_n 0, 1) := by decide +kernel
theorem dX2_bringBack_1 : decode cX2_bringBack 1 = .ok (.aload_n 0, 1) := by decide +kernel
theorem dX2_bringBack_2 : decode cX2_bringBack 2 = .ok (.getfield 22, 3) := by decide +kernel
theorem dX2_bringBack_5 : decode cX2_bringBack 5 = .ok (.bipush 6, 2) := by decide +kernel
theorem dX2_bringBack_7 : decode cX2_bringBack 7 = .ok (.iadd, 1) := by decide +kernel
theorem dX2_bringBack_8 : decode cX2_bringBack 8 = .ok (.iconst 1, 1) := by decide +kernel
theorem dX2_bringBack_9 : decode cX2_bringBack 9 = .ok (.isub, 1) := by decide +kernel
theorem dX2_bringBack_10 : decode cX2_bringBack 10 = .ok (.bipush 6, 2) := by decide +kernel
theorem dX2_bringBack_12 : decode cX2_bringBack 12 = .ok (.irem, 1) := by decide +kernel
theorem dX2_bringBack_13 : decode cX2_bringBack 13 = .ok (.putfield 22, 3) := by decide +kernel
theorem dX2_bringBack_16 : decode cX2_bringBack 16 = .ok (.aload_n 0, 1) := by decide +kernel
theorem dX2_bringBack_17 : decode cX2_bringBack 17 = .ok (.dup, 1) := by decide +kernel
theorem dX2_bringBack_18 : decode cX2_bringBack 18 = .ok (.getfield 18, 3) := by decide +kernel
theorem dX2_bringBack_21 : decode cX2_bringBack 21 = .ok (.iconst 1, 1) := by decide +kernel
theorem dX2_bringBack_22 : decode cX2_bringBack 22 = .ok (.isub, 1) := by decide +kernel
theorem dX2_bringBack_23 : decode cX2_bringBack 23 = .ok (.putfield 18, 3) := by decide +kernel
theorem dX2_bringBack_26 : decode cX2_bringBack 26 = .ok (.aload_n 1, 1) := by decide +kernel
theorem dX2_bringBack_27 : decode cX2_bringBack 27 = .ok (.aload_n 0, 1) := by decide +kernel
theorem dX2_bringBack_28 : decode cX2_bringBack 28 = .ok (.getfield 11, 3) := by decide +kernel
theorem dX2_bringBack_31 : decode cX2_bringBack 31 = .ok (.aload_n 0, 1) := by decide +kernel
theorem dX2_bringBack_32 : decode cX2_bringBack 32 = .ok (.getfield 22, 3) := by decide +kernel
theorem dX2_bringBack_35 : decode cX2_bringBack 35 = .ok (.aaload, 1) := by decide +kernel
theorem dX2_bringBack_36 : decode cX2_bringBack 36 = .ok (.invokevirtual 25, 3) := by decide +kernel
theorem dX2_bringBack_39 : decode cX2_bringBack 39 = .ok (.return_, 1) := by decide +kernel
theorem dX3_init_0 : decode cX3_init 0 = .ok (.aload_n 0, 1) := by decide +kernel
theorem dX3_init_1 : decode cX3_init 1 = .ok (.invokespecial 3, 3) := by decide +kernel
theorem dX3_init_4 : decode cX3_init 4 = .ok (.aload_n 0, 1) := by decide +kernel
theorem dX3_init_5 : decode cX3_init 5 = .ok (.sipush 200, 3) := by decide +kernel
theorem dX3_init_8 : decode cX3_init 8 = .ok (.newarray .int, 2) := by decide +kernel
theorem dX3_init_10 : decode cX3_init 10 = .ok (.putfield 9, 3) := by decide +kernel
theorem dX3_init_13 : decode cX3_init 13 = .ok (.return_, 1) := by decide +kernel
theorem dX3_add_0 : decode cX3_add 0 = .ok (.aload_n 0, 1) := by decide +kernel
theorem dX3_add_1 : decode cX3_add 1 = .ok (.getfield 15, 3) := by decide +kernel
theorem dX3_add_4 : decode cX3_add 4 = .ok (.sipush 200, 3) := by decide +kernel
theorem dX3_add_7 : decode cX3_add 7 = .ok (.if_icmp .lt 5, 3) := by decide +kernel
theorem dX3_add_10 : decode cX3_add 10 = .ok (.iconst 0, 1) := by decide +kernel
theorem dX3_add_11 : decode cX3_add 11 = .ok (.ireturn, 1) := by decide +kernel
theorem dX3_add_12 : decode cX3_add 12 = .ok (.aload_n 0, 1) := by decide +kernel
theorem dX3_add_13 : decode cX3_add 13 = .ok (.getfield 9, 3) := by decide +kernel
theorem dX3_add_16 : decode cX3_add 16 = .ok (.aload_n 0, 1) := by decide +kernel
theorem dX3_add_17 : decode cX3_add 17 = .ok (.getfield 15, 3) := by decide +kernel
theorem dX3_add_20 : decode cX3_add 20 = .ok (.iload_n 1, 1) := by decide +kernel
theorem dX3_add_21 : decode cX3_add 21 = .ok (.iastore, 1) := by decide +kernel
theorem dX3_add_22 : decode cX3_add 22 = .ok (.aload_n 0, 1) := by decide +kernel
theorem dX3_add_23 : decode cX3_add 23 = .ok (.dup, 1) := by decide +kernel
theorem dX3_add_24 : decode cX3_add 24 = .ok (.getfield 15, 3) := by decide +kernel
theorem dX3_add_27 : decode cX3_add 27 = .ok (.iconst 1, 1) := by decide +kernel
theorem dX3_add_28 : decode cX3_add 28 = .ok (.iadd, 1) := by decide +kernel
theorem dX3_add_29 : decode cX3_add 29 = .ok (.putfield 15, 3) := by decide +kernel
theorem dX3_add_32 : decode cX3_add 32 = .ok (.iconst 1, 1) := by decide +kernel
theorem dX3_add_33 : decode cX3_add 33 = .ok (.ireturn, 1) := by decide +kernel
theorem dX3_clear_0 : decode cX3_clear 0 = .ok (.aload_n 0, 1) := by decide +kernel
theorem dX3_clear_1 : decode cX3_clear 1 = .ok (.iconst 0, 1) := by decide +kernel
theorem dX3_clear_2 : decode cX3_clear 2 = .ok (.putfield 15, 3) := by decide +kernel
theorem dX3_clear_5 : decode cX3_clear 5 = .ok (.return_, 1) := by decide +kernel
set_option maxRecDepth 20000 in
theorem ggX3_readInto_X0_beginWith : GoodIn wsX3_readInto wsX0_beginWith := goodIn_r _ [6, 7, 8, 9, 10, 11, 64, 65, 66, 67, 68, 69, 70] (by decide +kernel) (by decide +kernel)
set_option maxRecDepth 20000 in
theorem gX3_readInto_X0_beginWith_n19 : GoodIn wsX3_readInto (wsX0_beginWith) := ggX3_readInto_X0_beginWith
set_option maxRecDepth 20000 in
theorem ggX3_readInto_X3_readItem : GoodIn wsX3_readInto wsX3_readItem := goodIn_r _ [16, 2, 17, 18, 19, 15, 20, 21, 22, 23, 24, 3, 4, 5, 6, 7, 8, 9, 10, 11, 25, 26, 27, 28, 29, 30, 31, 32, 33, 34, 35, 36, 37, 38, 39, 40, 41, 42, 43, 44, 45, 46, 47, 48, 49, 50, 51, 52, 53, 54, 55, 56, 57, 58, 59, 60, 61, 62, 63, 64, 65, 66, 67, 68, 69, 70] (by decide +kernel) (by decide +kernel)
set_option maxRecDepth 20000 in
theorem gX3_readInto_X3_readItem : GoodIn wsX3_readInto (wsV RX3 25 RX3 yX3_readItem wsX3_readItem) := goodIn_app (goodIn_of _ (by decide +kernel)) ggX3_readInto_X3_readItem
theorem dX3_readInto_0 : decode cX3_readInto 0 = .ok (.aload_n 1, 1) := by decide +kernel
theorem dX3_readInto_1 : decode cX3_readInto 1 = .ok (.iconst 0, 1) := by decide +kernel
theorem dX3_readInto_2 : decode cX3_readInto 2 = .ok (.invokevirtual 19, 3) := by decide +kernel
theorem dX3_readInto_5 : decode cX3_readInto 5 = .ok (.iconst 0, 1) := by decide +kernel
theorem dX3_readInto_6 : decode cX3_readInto 6 = .ok (.istore_n 2, 1) := by decide +kernel
theorem dX3_readInto_7 : decode cX3_readInto 7 = .ok (.iconst 0, 1) := by decide +kernel
theorem dX3_readInto_8 : decode cX3_readInto 8 = .ok (.istore_n 3, 1) := by decide +kernel
theorem dX3_readInto_9 : decode cX3_readInto 9 = .ok (.iload_n 3, 1) := by decide +kernel
theorem dX3_readInto_10 : decode cX3_readInto 10 = .ok (.aload_n 0, 1) := by decide +kernel
theorem dX3_readInto_11 : decode cX3_readInto 11 = .ok (.getfield 15, 3) := by decide +kernel
theorem dX3_readInto_14 : decode cX3_readInto 14 = .ok (.if_icmp .ge 36, 3) := by decide +kernel
theorem dX3_readInto_17 : decode cX3_readInto 17 = .ok (.aload_n 0, 1) := by decide +kernel
theorem dX3_readInto_18 : decode cX3_readInto 18 = .ok (.getfield 9, 3) := by decide +kernel
theorem dX3_readInto_21 : decode cX3_readInto 21 = .ok (.iload_n 3, 1) := by decide +kernel
theorem dX3_readInto_22 : decode cX3_readInto 22 = .ok (.iaload, 1) := by decide +kernel
theorem dX3_readInto_23 : decode cX3_readInto 23 = .ok (.bipush 59, 2) := by decide +kernel
theorem dX3_readInto_25 : decode cX3_readInto 25 = .ok (.if_icmp .ne 19, 3) := by decide +kernel
theorem dX3_readInto_28 : decode cX3_readInto 28 = .ok (.aload_n 0, 1) := by decide +kernel
theorem dX3_readInto_29 : decode cX3_readInto 29 = .ok (.aload_n 1, 1) := by decide +kernel
theorem dX3_readInto_30 : decode cX3_readInto 30 = .ok (.iload_n 2, 1) := by decide +kernel
theorem dX3_readInto_31 : decode cX3_readInto 31 = .ok (.iload_n 3, 1) := by decide +kernel
theorem dX3_readInto_32 : decode cX3_readInto 32 = .ok (.invokevirtual 25, 3) := by decide +kernel
theorem dX3_readInto_35 : decode cX3_readInto 35 = .ok (.ifCond .ne 5, 3) := by decide +kernel
theorem dX3_readInto_38 : decode cX3_readInto 38 = .ok (.iload_n 2, 1) := by decide +kernel
theorem dX3_readInto_39 : decode cX3_readInto 39 = .ok (.ireturn, 1) := by decide +kernel
theorem dX3_readInto_40 : decode cX3_readInto 40 = .ok (.iload_n 3, 1) := by decide +kernel
theorem dX3_readInto_41 : decode cX3_readInto 41 = .ok (.iconst 1, 1) := by decide +kernel
theorem dX3_readInto_42 : decode cX3_readInto 42 = .ok (.iadd, 1) := by decide +kernel
theorem dX3_readInto_43 : decode cX3_readInto 43 = .ok (.istore_n 2, 1) := by decide +kernel
theorem dX3_readInto_44 : decode cX3_readInto 44 = .ok (.iinc 3 1, 3) := by decide +kernel
theorem dX3_readInto_47 : decode cX3_readInto 47 = .ok (.goto (-38), 3) := by decide +kernel
theorem dX3_readInto_50 : decode cX3_readInto 50 = .ok (.iload_n 2, 1) := by decide +kernel
theorem dX3_readInto_51 : decode cX3_readInto 51 = .ok (.aload_n 0, 1) := by decide +kernel
theorem dX3_readInto_52 : decode cX3_readInto 52 = .ok (.getfield 15, 3) := by decide +kernel
theorem dX3_readInto_55 : decode cX3_readInto 55 = .ok (.if_icmp .ge 7, 3) := by decide +kernel
theorem dX3_readInto_58 : decode cX3_readInto 58 = .ok (.iload_n 2, 1) := by decide +kernel
theorem dX3_readInto_59 : decode cX3_readInto 59 = .ok (.goto 5, 3) := by decide +kernel
theorem dX3_readInto_62 : decode cX3_readInto 62 = .ok (.bipush (-4), 2) := by decide +kernel
theorem dX3_readInto_64 : decode cX3_readInto 64 = .ok (.ireturn, 1) := by decide +kernel
set_option maxRecDepth 20000 in
theorem ggX3_readItem_X3_readCandidates : GoodIn wsX3_readItem wsX3_readCandidates := goodIn_r _ [6, 7, 8, 9, 5, 10, 1, 11, 12, 13, 14, 15, 16, 17, 18, 19, 59, 60, 61, 62, 63, 64, 65, 57, 58] (by decide +kernel) (by decide +kernel)
set_option maxRecDepth 20000 in
theorem gX3_readItem_X3_readCandidates : GoodIn wsX3_readItem (wsV RX3 29 RX3 yX3_readCandidates wsX3_readCandidates) := goodIn_app (goodIn_of _ (by decide +kernel)) ggX3_readItem_X3_readCandidates
set_option maxRecDepth 20000 in
theorem ggX3_readItem_X3_readBallot : GoodIn wsX3_readItem wsX3_readBallot := goodIn_r _ [23, 1, 7, 8, 9, 5, 10, 24, 25, 26, 27, 28, 29, 30, 31, 12, 32, 33, 34, 35, 36, 37, 16, 38, 39, 40, 41, 42, 43, 44, 45, 46, 57, 58, 59, 60, 61, 62, 63, 64, 65] (by decide +kernel) (by decide +kernel)
set_option maxRecDepth 20000 in
theorem gX3_readItem_X3_readBallot : GoodIn wsX3_readItem (wsV RX3 35 RX3 yX3_readBallot wsX3_readBallot) := goodIn_app (goodIn_of _ (by decide +kernel)) ggX3_readItem_X3_readBallot
set_option maxRecDepth 20000 in
theorem ggX3_readItem_X3_readSeats : GoodIn wsX3_readItem wsX3_readSeats := goodIn_r _ [50, 7, 8, 9, 5, 10, 1, 59, 60, 61, 62, 63, 64, 65, 57, 58] (by decide +kernel) (by decide +kernel)
set_option maxRecDepth 20000 in
theorem gX3_readItem_X3_readSeats : GoodIn wsX3_readItem (wsV RX3 38 RX3 yX3_readSeats wsX3_readSeats) := goodIn_app (goodIn_of _ (by decide +kernel)) ggX3_readItem_X3_readSeats
set_option maxRecDepth 20000 in
theorem ggX3_readItem_X3_readRank : GoodIn wsX3_readItem wsX3_readRank := goodIn_r _ [54, 1, 55, 29, 56, 59, 60, 61, 62, 63, 64, 65, 57, 58] (by decide +kernel) (by decide +kernel)
set_option maxRecDepth 20000 in
theorem gX3_readItem_X3_readRank : GoodIn wsX3_readItem (wsV RX3 41 RX3 yX3_readRank wsX3_readRank) := goodIn_app (goodIn_of _ (by decide +kernel)) ggX3_readItem_X3_readRank
theorem dX3_readItem_0 : decode cX3_readItem 0 = .ok (.iload_n 2, 1) := by decide +kernel
theorem dX3_readItem_1 : decode cX3_readItem 1 = .ok (.iload_n 3, 1) := by decide +kernel
theorem dX3_readItem_2 : decode cX3_readItem 2 = .ok (.if_icmp .lt 5, 3) := by decide +kernel
theorem dX3_readItem_5 : decode cX3_readItem 5 = .ok (.iconst 0, 1) := by decide +kernel
theorem dX3_readItem_6 : decode cX3_readItem 6 = .ok (.ireturn, 1) := by decide +kernel
theorem dX3_readItem_7 : decode cX3_readItem 7 = .ok (.aload_n 0, 1) := by decide +kernel
theorem dX3_readItem_8 : decode cX3_readItem 8 = .ok (.getfield 9, 3) := by decide +kernel
theorem dX3_readItem_11 : decode cX3_readItem 11 = .ok (.iload_n 2, 1) := by decide +kernel
theorem dX3_readItem_12 : decode cX3_readItem 12 = .ok (.iaload, 1) := by decide +kernel
theorem dX3_readItem_13 : decode cX3_readItem 13 = .ok (.istore 4, 2) := by decide +kernel
theorem dX3_readItem_15 : decode cX3_readItem 15 = .ok (.iload 4, 2) := by decide +kernel
theorem dX3_readItem_17 : decode cX3_readItem 17 = .ok (.bipush 110, 2) := by decide +kernel
theorem dX3_readItem_19 : decode cX3_readItem 19 = .ok (.if_icmp .ne 13, 3) := by decide +kernel
theorem dX3_readItem_22 : decode cX3_readItem 22 = .ok (.aload_n 0, 1) := by decide +kernel
theorem dX3_readItem_23 : decode cX3_readItem 23 = .ok (.aload_n 1, 1) := by decide +kernel
theorem dX3_readItem_24 : decode cX3_readItem 24 = .ok (.iload_n 2, 1) := by decide +kernel
theorem dX3_readItem_25 : decode cX3_readItem 25 = .ok (.iconst 1, 1) := by decide +kernel
theorem dX3_readItem_26 : decode cX3_readItem 26 = .ok (.iadd, 1) := by decide +kernel
theorem dX3_readItem_27 : decode cX3_readItem 27 = .ok (.iload_n 3, 1) := by decide +kernel
theorem dX3_readItem_28 : decode cX3_readItem 28 = .ok (.invokevirtual 29, 3) := by decide +kernel
theorem dX3_readItem_31 : decode cX3_readItem 31 = .ok (.ireturn, 1) := by decide +kernel
theorem dX3_readItem_32 : decode cX3_readItem 32 = .ok (.aload_n 1, 1) := by decide +kernel
theorem dX3_readItem_33 : decode cX3_readItem 33 = .ok (.getfield 32, 3) := by decide +kernel
theorem dX3_readItem_36 : decode cX3_readItem 36 = .ok (.ifCond .ne 5, 3) := by decide +kernel
theorem dX3_readItem_39 : decode cX3_readItem 39 = .ok (.iconst 0, 1) := by decide +kernel
theorem dX3_readItem_40 : decode cX3_readItem 40 = .ok (.ireturn, 1) := by decide +kernel
theorem dX3_readItem_41 : decode cX3_readItem 41 = .ok (.iload 4, 2) := by decide +kernel
theorem dX3_readItem_43 : decode cX3_readItem 43 = .ok (.lookupswitch 63 #[(98, 33), (107, 43), (111, 53)], 33) := by decide +kernel
theorem dX3_readItem_76 : decode cX3_readItem 76 = .ok (.aload_n 0, 1) := by decide +kernel
theorem dX3_readItem_77 : decode cX3_readItem 77 = .ok (.aload_n 1, 1) := by decide +kernel
theorem dX3_readItem_78 : decode cX3_readItem 78 = .ok (.iload_n 2, 1) := by decide +kernel
theorem dX3_readItem_79 : decode cX3_readItem 79 = .ok (.iconst 1, 1) := by decide +kernel
theorem dX3_readItem_80 : decode cX3_readItem 80 = .ok (.iadd, 1) := by decide +kernel
theorem dX3_readItem_81 : decode cX3_readItem 81 = .ok (.iload_n 3, 1) := by decide +kernel
theorem dX3_readItem_82 : decode cX3_readItem 82 = .ok (.invokevirtual 35, 3) := by decide +kernel
theorem dX3_readItem_85 : decode cX3_readItem 85 = .ok (.ireturn, 1) := by decide +kernel
theorem dX3_readItem_86 : decode cX3_readItem 86 = .ok (.aload_n 0, 1) := by decide +kernel
theorem dX3_readItem_87 : decode cX3_readItem 87 = .ok (.aload_n 1, 1) := by decide +kernel
theorem dX3_readItem_88 : decode cX3_readItem 88 = .ok (.iload_n 2, 1) := by decide +kernel
theorem dX3_readItem_89 : decode cX3_readItem 89 = .ok (.iconst 1, 1) := by decide +kernel
theorem dX3_readItem_90 : decode cX3_readItem 90 = .ok (.iadd, 1) := by decide +kernel
theorem dX3_readItem_91 : decode cX3_readItem 91 = .ok (.iload_n 3, 1) := by decide +kernel
theorem dX3_readItem_92 : decode cX3_readItem 92 = .ok (.invokevirtual 38, 3) := by decide +kernel
theorem dX3_readItem_95 : decode cX3_readItem 95 = .ok (.ireturn, 1) := by decide +kernel
theorem dX3_readItem_96 : decode cX3_readItem 96 = .ok (.aload_n 0, 1) := by decide +kernel
theorem dX3_readItem_97 : decode cX3_readItem 97 = .ok (.aload_n 1, 1) := by decide +kernel
theorem dX3_readItem_98 : decode cX3_readItem 98 = .ok (.iload_n 2, 1) := by decide +kernel
theorem dX3_readItem_99 : decode cX3_readItem 99 = .ok (.iconst 1, 1) := by decide +kernel
theorem dX3_readItem_100 : decode cX3_readItem 100 = .ok (.iadd, 1) := by decide +kernel
theorem dX3_readItem_101 : decode cX3_readItem 101 = .ok (.iload_n 3, 1) := by decide +kernel
theorem dX3_readItem_102 : decode cX3_readItem 102 = .ok (.invokevirtual 41, 3) := by decide +kernel
theorem dX3_readItem_105 : decode cX3_readItem 105 = .ok (.ireturn, 1) := by decide +kernel
theorem dX3_readItem_106 : decode cX3_readItem 106 = .ok (.iconst 0, 1) := by decide +kernel
theorem dX3_readItem_107 : decode cX3_readItem 107 = .ok (.ireturn, 1) := by decide +kernel
set_option maxRecDepth 20000 in
theorem ggX3_readCandidates_X3_number : GoodIn wsX3_readCandidates wsX3_number := goodIn_r _ [5, 6, 23, 24] (by decide +kernel) (by decide +kernel)
set_option maxRecDepth 20000 in
theorem gX3_readCandidates_X3_number : GoodIn wsX3_readCandidates (wsV RX3 44 RX3 yX3_number wsX3_number) := goodIn_app (goodIn_of _ (by decide +kernel)) ggX3_readCandidates_X3_number
set_option maxRecDepth 20000 in
theorem ggX3_readCandidates_X0_beginWith : GoodIn wsX3_readCandidates wsX0_beginWith := goodIn_r _ [10, 11, 12, 13, 14, 15, 16, 17, 18, 19, 20, 21, 22] (by decide +kernel) (by decide +kernel)
set_option maxRecDepth 20000 in
theorem gX3_readCandidates_X0_beginWith_n19 : GoodIn wsX3_readCandidates (wsX0_beginWith) := ggX3_readCandidates_X0_beginWith
theorem dX3_readCandidates_0 : decode cX3_readCandidates 0 = .ok (.aload_n 0, 1) := by decide +kernel
theorem dX3_readCandidates_1 : decode cX3_readCandidates 1 = .ok (.iload_n 2, 1) := by decide +kernel
theorem dX3_readCandidates_2 : decode cX3_readCandidates 2 = .ok (.iload_n 3, 1) := by decide +kernel
theorem dX3_readCandidates_3 : decode cX3_readCandidates 3 = .ok (.invokevirtual 44, 3) := by decide +kernel
theorem dX3_readCandidates_6 : decode cX3_readCandidates 6 = .ok (.istore 4, 2) := by decide +kernel
theorem dX3_readCandidates_8 : decode cX3_readCandidates 8 = .ok (.aload_n 1, 1) := by decide +kernel
theorem dX3_readCandidates_9 : decode cX3_readCandidates 9 = .ok (.getfield 32, 3) := by decide +kernel
theorem dX3_readCandidates_12 : decode cX3_readCandidates 12 = .ok (.ifCond .ne 16, 3) := by decide +kernel
theorem dX3_readCandidates_15 : decode cX3_readCandidates 15 = .ok (.iload 4, 2) := by decide +kernel
theorem dX3_readCandidates_17 : decode cX3_readCandidates 17 = .ok (.iconst 1, 1) := by decide +kernel
theorem dX3_readCandidates_18 : decode cX3_readCandidates 18 = .ok (.if_icmp .lt 10, 3) := by decide +kernel
theorem dX3_readCandidates_21 : decode cX3_readCandidates 21 = .ok (.iload 4, 2) := by decide +kernel
theorem dX3_readCandidates_23 : decode cX3_readCandidates 23 = .ok (.bipush 8, 2) := by decide +kernel
theorem dX3_readCandidates_25 : decode cX3_readCandidates 25 = .ok (.if_icmp .le 5, 3) := by decide +kernel
theorem dX3_readCandidates_28 : decode cX3_readCandidates 28 = .ok (.iconst 0, 1) := by decide +kernel
theorem dX3_readCandidates_29 : decode cX3_readCandidates 29 = .ok (.ireturn, 1) := by decide +kernel
theorem dX3_readCandidates_30 : decode cX3_readCandidates 30 = .ok (.aload_n 1, 1) := by decide +kernel
theorem dX3_readCandidates_31 : decode cX3_readCandidates 31 = .ok (.iload 4, 2) := by decide +kernel
theorem dX3_readCandidates_33 : decode cX3_readCandidates 33 = .ok (.invokevirtual 19, 3) := by decide +kernel
theorem dX3_readCandidates_36 : decode cX3_readCandidates 36 = .ok (.iconst 1, 1) := by decide +kernel
theorem dX3_readCandidates_37 : decode cX3_readCandidates 37 = .ok (.ireturn, 1) := by decide +kernel
set_option maxRecDepth 20000 in
theorem ggX3_readBallot_X3_number : GoodIn wsX3_readBallot wsX3_number := goodIn_r _ [6, 1, 32, 33] (by decide +kernel) (by decide +kernel)
set_option maxRecDepth 20000 in
theorem gX3_readBallot_X3_number : GoodIn wsX3_readBallot (wsV RX3 44 RX3 yX3_number wsX3_number) := goodIn_app (goodIn_of _ (by decide +kernel)) ggX3_readBallot_X3_number
set_option maxRecDepth 20000 in
theorem ggX3_readBallot_X3_risingSet : GoodIn wsX3_readBallot wsX3_risingSet := goodIn_r _ [10, 1, 32, 33] (by decide +kernel) (by decide +kernel)
set_option maxRecDepth 20000 in
theorem gX3_readBallot_X3_risingSet : GoodIn wsX3_readBallot (wsV RX3 48 RX3 yX3_risingSet wsX3_risingSet) := goodIn_app (goodIn_of _ (by decide +kernel)) ggX3_readBallot_X3_risingSet
set_option maxRecDepth 20000 in
theorem ggX3_readBallot_X4_isVoters : GoodIn wsX3_readBallot wsX4_isVoters := goodIn_r _ [13] (by decide +kernel) (by decide +kernel)
set_option maxRecDepth 20000 in
theorem gX3_readBallot_X4_isVoters_n52 : GoodIn wsX3_readBallot (wsX4_isVoters) := ggX3_readBallot_X4_isVoters
set_option maxRecDepth 20000 in
theorem ggX3_readBallot_X0_allVoters : GoodIn wsX3_readBallot wsX0_allVoters := goodIn_r _ [17, 18, 19, 20, 15, 21, 22, 23, 24, 25, 26, 27, 28, 34, 35, 36, 37, 38, 39, 40] (by decide +kernel) (by decide +kernel)
set_option maxRecDepth 20000 in
theorem gX3_readBallot_X0_allVoters_n59 : GoodIn wsX3_readBallot (wsX0_allVoters) := ggX3_readBallot_X0_allVoters
set_option maxRecDepth 20000 in
theorem ggX3_readBallot_X0_addBallot : GoodIn wsX3_readBallot wsX0_addBallot := goodIn_r _ [31, 22, 23, 28, 34, 35, 36, 37, 38, 39, 40] (by decide +kernel) (by decide +kernel)
set_option maxRecDepth 20000 in
theorem gX3_readBallot_X0_addBallot_n63 : GoodIn wsX3_readBallot (wsX0_addBallot) := ggX3_readBallot_X0_addBallot
theorem dX3_readBallot_0 : decode cX3_readBallot 0 = .ok (.iload_n 2, 1) := by decide +kernel
theorem dX3_readBallot_1 : decode cX3_readBallot 1 = .ok (.istore 4, 2) := by decide +kernel
theorem dX3_readBallot_3 : decode cX3_readBallot 3 = .ok (.iload 4, 2) := by decide +kernel
theorem dX3_readBallot_5 : decode cX3_readBallot 5 = .ok (.iload_n 3, 1) := by decide +kernel
theorem dX3_readBallot_6 : decode cX3_readBallot 6 = .ok (.if_icmp .ge 21, 3) := by decide +kernel
theorem dX3_readBallot_9 : decode cX3_readBallot 9 = .ok (.aload_n 0, 1) := by decide +kernel
theorem dX3_readBallot_10 : decode cX3_readBallot 10 = .ok (.getfield 9, 3) := by decide +kernel
theorem dX3_readBallot_13 : decode cX3_readBallot 13 = .ok (.iload 4, 2) := by decide +kernel
theorem dX3_readBallot_15 : decode cX3_readBallot 15 = .ok (.iaload, 1) := by decide +kernel
theorem dX3_readBallot_16 : decode cX3_readBallot 16 = .ok (.bipush 44, 2) := by decide +kernel
theorem dX3_readBallot_18 : decode cX3_readBallot 18 = .ok (.if_icmp .eq 9, 3) := by decide +kernel
theorem dX3_readBallot_21 : decode cX3_readBallot 21 = .ok (.iinc 4 1, 3) := by decide +kernel
theorem dX3_readBallot_24 : decode cX3_readBallot 24 = .ok (.goto (-21), 3) := by decide +kernel
theorem dX3_readBallot_27 : decode cX3_readBallot 27 = .ok (.aload_n 0, 1) := by decide +kernel
theorem dX3_readBallot_28 : decode cX3_readBallot 28 = .ok (.iload_n 2, 1) := by decide +kernel
theorem dX3_readBallot_29 : decode cX3_readBallot 29 = .ok (.iload 4, 2) := by decide +kernel
theorem dX3_readBallot_31 : decode cX3_readBallot 31 = .ok (.invokevirtual 44, 3) := by decide +kernel
theorem dX3_readBallot_34 : decode cX3_readBallot 34 = .ok (.istore 5, 2) := by decide +kernel
theorem dX3_readBallot_36 : decode cX3_readBallot 36 = .ok (.aload_n 0, 1) := by decide +kernel
theorem dX3_readBallot_37 : decode cX3_readBallot 37 = .ok (.aload_n 1, 1) := by decide +kernel
theorem dX3_readBallot_38 : decode cX3_readBallot 38 = .ok (.getfield 32, 3) := by decide +kernel
theorem dX3_readBallot_41 : decode cX3_readBallot 41 = .ok (.iload 4, 2) := by decide +kernel
theorem dX3_readBallot_43 : decode cX3_readBallot 43 = .ok (.iconst 1, 1) := by decide +kernel
theorem dX3_readBallot_44 : decode cX3_readBallot 44 = .ok (.iadd, 1) := by decide +kernel
theorem dX3_readBallot_45 : decode cX3_readBallot 45 = .ok (.iload_n 3, 1) := by decide +kernel
theorem dX3_readBallot_46 : decode cX3_readBallot 46 = .ok (.invokevirtual 48, 3) := by decide +kernel
theorem dX3_readBallot_49 : decode cX3_readBallot 49 = .ok (.istore 6, 2) := by decide +kernel
theorem dX3_readBallot_51 : decode cX3_readBallot 51 = .ok (.iload 5, 2) := by decide +kernel
theorem dX3_readBallot_53 : decode cX3_readBallot 53 = .ok (.invokestatic 52, 3) := by decide +kernel
theorem dX3_readBallot_56 : decode cX3_readBallot 56 = .ok (.ifCond .eq 29, 3) := by decide +kernel
theorem dX3_readBallot_59 : decode cX3_readBallot 59 = .ok (.iload 6, 2) := by decide +kernel
theorem dX3_readBallot_61 : decode cX3_readBallot 61 = .ok (.ifCond .eq 24, 3) := by decide +kernel
theorem dX3_readBallot_64 : decode cX3_readBallot 64 = .ok (.aload_n 1, 1) := by decide +kernel
theorem dX3_readBallot_65 : decode cX3_readBallot 65 = .ok (.getfield 56, 3) := by decide +kernel
theorem dX3_readBallot_68 : decode cX3_readBallot 68 = .ok (.bipush 10, 2) := by decide +kernel
theorem dX3_readBallot_70 : decode cX3_readBallot 70 = .ok (.if_icmp .ge 15, 3) := by decide +kernel
theorem dX3_readBallot_73 : decode cX3_readBallot 73 = .ok (.aload_n 1, 1) := by decide +kernel
theorem dX3_readBallot_74 : decode cX3_readBallot 74 = .ok (.invokevirtual 59, 3) := by decide +kernel
theorem dX3_readBallot_77 : decode cX3_readBallot 77 = .ok (.iload 5, 2) := by decide +kernel
theorem dX3_readBallot_79 : decode cX3_readBallot 79 = .ok (.iadd, 1) := by decide +kernel
theorem dX3_readBallot_80 : decode cX3_readBallot 80 = .ok (.bipush 40, 2) := by decide +kernel
theorem dX3_readBallot_82 : decode cX3_readBallot 82 = .ok (.if_icmp .le 5, 3) := by decide +kernel
theorem dX3_readBallot_85 : decode cX3_readBallot 85 = .ok (.iconst 0, 1) := by decide +kernel
theorem dX3_readBallot_86 : decode cX3_readBallot 86 = .ok (.ireturn, 1) := by decide +kernel
theorem dX3_readBallot_87 : decode cX3_readBallot 87 = .ok (.aload_n 1, 1) := by decide +kernel
theorem dX3_readBallot_88 : decode cX3_readBallot 88 = .ok (.iload 5, 2) := by decide +kernel
theorem dX3_readBallot_90 : decode cX3_readBallot 90 = .ok (.iload 6, 2) := by decide +kernel
theorem dX3_readBallot_92 : decode cX3_readBallot 92 = .ok (.invokevirtual 63, 3) := by decide +kernel
theorem dX3_readBallot_95 : decode cX3_readBallot 95 = .ok (.iconst 1, 1) := by decide +kernel
theorem dX3_readBallot_96 : decode cX3_readBallot 96 = .ok (.ireturn, 1) := by decide +kernel
set_option maxRecDepth 20000 in
theorem ggX3_readSeats_X3_number : GoodIn wsX3_readSeats wsX3_number := goodIn_r _ [5, 6, 14, 15] (by decide +kernel) (by decide +kernel)
set_option maxRecDepth 20000 in
theorem gX3_readSeats_X3_number : GoodIn wsX3_readSeats (wsV RX3 44 RX3 yX3_number wsX3_number) := goodIn_app (goodIn_of _ (by decide +kernel)) ggX3_readSeats_X3_number
theorem dX3_readSeats_0 : decode cX3_readSeats 0 = .ok (.aload_n 0, 1) := by decide +kernel
theorem dX3_readSeats_1 : decode cX3_readSeats 1 = .ok (.iload_n 2, 1) := by decide +kernel
theorem dX3_readSeats_2 : decode cX3_readSeats 2 = .ok (.iload_n 3, 1) := by decide +kernel
theorem dX3_readSeats_3 : decode cX3_readSeats 3 = .ok (.invokevirtual 44, 3) := by decide +kernel
theorem dX3_readSeats_6 : decode cX3_readSeats 6 = .ok (.istore 4, 2) := by decide +kernel
theorem dX3_readSeats_8 : decode cX3_readSeats 8 = .ok (.iload 4, 2) := by decide +kernel
theorem dX3_readSeats_10 : decode cX3_readSeats 10 = .ok (.iconst 1, 1) := by decide +kernel
theorem dX3_readSeats_11 : decode cX3_readSeats 11 = .ok (.if_icmp .lt 10, 3) := by decide +kernel
theorem dX3_readSeats_14 : decode cX3_readSeats 14 = .ok (.iload 4, 2) := by decide +kernel
theorem dX3_readSeats_16 : decode cX3_readSeats 16 = .ok (.bipush 8, 2) := by decide +kernel
theorem dX3_readSeats_18 : decode cX3_readSeats 18 = .ok (.if_icmp .le 5, 3) := by decide +kernel
theorem dX3_readSeats_21 : decode cX3_readSeats 21 = .ok (.iconst 0, 1) := by decide +kernel
theorem dX3_readSeats_22 : decode cX3_readSeats 22 = .ok (.ireturn, 1) := by decide +kernel
theorem dX3_readSeats_23 : decode cX3_readSeats 23 = .ok (.aload_n 1, 1) := by decide +kernel
theorem dX3_readSeats_24 : decode cX3_readSeats 24 = .ok (.iload 4, 2) := by decide +kernel
theorem dX3_readSeats_26 : decode cX3_readSeats 26 = .ok (.putfield 67, 3) := by decide +kernel
theorem dX3_readSeats_29 : decode cX3_readSeats 29 = .ok (.iconst 1, 1) := by decide +kernel
theorem dX3_readSeats_30 : decode cX3_readSeats 30 = .ok (.ireturn, 1) := by decide +kernel
set_option maxRecDepth 20000 in
theorem ggX3_readRank_X4_hasBit : GoodIn wsX3_readRank wsX4_hasBit := goodIn_r _ [4] (by decide +kernel) (by decide +kernel)
set_option maxRecDepth 20000 in
theorem gX3_readRank_X4_hasBit_n70 : GoodIn wsX3_readRank (wsX4_hasBit) := ggX3_readRank_X4_hasBit
theorem dX3_readRank_0 : decode cX3_readRank 0 = .ok (.iload_n 3, 1) := by decide +kernel
theorem dX3_readRank_1 : decode cX3_readRank 1 = .ok (.iload_n 2, 1) := by decide +kernel
theorem dX3_readRank_2 : decode cX3_readRank 2 = .ok (.isub, 1) := by decide +kernel
theorem dX3_readRank_3 : decode cX3_readRank 3 = .ok (.aload_n 1, 1) := by decide +kernel
theorem dX3_readRank_4 : decode cX3_readRank 4 = .ok (.getfield 32, 3) := by decide +kernel
theorem dX3_readRank_7 : decode cX3_readRank 7 = .ok (.if_icmp .eq 5, 3) := by decide +kernel
theorem dX3_readRank_10 : decode cX3_readRank 10 = .ok (.iconst 0, 1) := by decide +kernel
theorem dX3_readRank_11 : decode cX3_readRank 11 = .ok (.ireturn, 1) := by decide +kernel
theorem dX3_readRank_12 : decode cX3_readRank 12 = .ok (.iconst 0, 1) := by decide +kernel
theorem dX3_readRank_13 : decode cX3_readRank 13 = .ok (.istore 4, 2) := by decide +kernel
theorem dX3_readRank_15 : decode cX3_readRank 15 = .ok (.iconst 0, 1) := by decide +kernel
theorem dX3_readRank_16 : decode cX3_readRank 16 = .ok (.istore 5, 2) := by decide +kernel
theorem dX3_readRank_18 : decode cX3_readRank 18 = .ok (.iload 5, 2) := by decide +kernel
theorem dX3_readRank_20 : decode cX3_readRank 20 = .ok (.aload_n 1, 1) := by decide +kernel
theorem dX3_readRank_21 : decode cX3_readRank 21 = .ok (.getfield 32, 3) := by decide +kernel
theorem dX3_readRank_24 : decode cX3_readRank 24 = .ok (.if_icmp .ge 67, 3) := by decide +kernel
theorem dX3_readRank_27 : decode cX3_readRank 27 = .ok (.aload_n 0, 1) := by decide +kernel
theorem dX3_readRank_28 : decode cX3_readRank 28 = .ok (.getfield 9, 3) := by decide +kernel
theorem dX3_readRank_31 : decode cX3_readRank 31 = .ok (.iload_n 2, 1) := by decide +kernel
theorem dX3_readRank_32 : decode cX3_readRank 32 = .ok (.iload 5, 2) := by decide +kernel
theorem dX3_readRank_34 : decode cX3_readRank 34 = .ok (.iadd, 1) := by decide +kernel
theorem dX3_readRank_35 : decode cX3_readRank 35 = .ok (.iaload, 1) := by decide +kernel
theorem dX3_readRank_36 : decode cX3_readRank 36 = .ok (.bipush 97, 2) := by decide +kernel
theorem dX3_readRank_38 : decode cX3_readRank 38 = .ok (.isub, 1) := by decide +kernel
theorem dX3_readRank_39 : decode cX3_readRank 39 = .ok (.istore 6, 2) := by decide +kernel
theorem dX3_readRank_41 : decode cX3_readRank 41 = .ok (.iload 6, 2) := by decide +kernel
theorem dX3_readRank_43 : decode cX3_readRank 43 = .ok (.ifCond .lt 22, 3) := by decide +kernel
theorem dX3_readRank_46 : decode cX3_readRank 46 = .ok (.iload 6, 2) := by decide +kernel
theorem dX3_readRank_48 : decode cX3_readRank 48 = .ok (.aload_n 1, 1) := by decide +kernel
theorem dX3_readRank_49 : decode cX3_readRank 49 = .ok (.getfield 32, 3) := by decide +kernel
theorem dX3_readRank_52 : decode cX3_readRank 52 = .ok (.if_icmp .ge 13, 3) := by decide +kernel
theorem dX3_readRank_55 : decode cX3_readRank 55 = .ok (.iload 4, 2) := by decide +kernel
theorem dX3_readRank_57 : decode cX3_readRank 57 = .ok (.iload 6, 2) := by decide +kernel
theorem dX3_readRank_59 : decode cX3_readRank 59 = .ok (.invokestatic 70, 3) := by decide +kernel
theorem dX3_readRank_62 : decode cX3_readRank 62 = .ok (.ifCond .eq 5, 3) := by decide +kernel
theorem dX3_readRank_65 : decode cX3_readRank 65 = .ok (.iconst 0, 1) := by decide +kernel
theorem dX3_readRank_66 : decode cX3_readRank 66 = .ok (.ireturn, 1) := by decide +kernel
theorem dX3_readRank_67 : decode cX3_readRank 67 = .ok (.iload 4, 2) := by decide +kernel
theorem dX3_readRank_69 : decode cX3_readRank 69 = .ok (.iconst 1, 1) := by decide +kernel
theorem dX3_readRank_70 : decode cX3_readRank 70 = .ok (.iload 6, 2) := by decide +kernel
theorem dX3_readRank_72 : decode cX3_readRank 72 = .ok (.ishl, 1) := by decide +kernel
theorem dX3_readRank_73 : decode cX3_readRank 73 = .ok (.ior, 1) := by decide +kernel
theorem dX3_readRank_74 : decode cX3_readRank 74 = .ok (.istore 4, 2) := by decide +kernel
theorem dX3_readRank_76 : decode cX3_readRank 76 = .ok (.aload_n 1, 1) := by decide +kernel
theorem dX3_readRank_77 : decode cX3_readRank 77 = .ok (.getfield 74, 3) := by decide +kernel
theorem dX3_readRank_80 : decode cX3_readRank 80 = .ok (.iload 5, 2) := by decide +kernel
theorem dX3_readRank_82 : decode cX3_readRank 82 = .ok (.iload 6, 2) := by decide +kernel
theorem dX3_readRank_84 : decode cX3_readRank 84 = .ok (.iastore, 1) := by decide +kernel
theorem dX3_readRank_85 : decode cX3_readRank 85 = .ok (.iinc 5 1, 3) := by decide +kernel
theorem dX3_readRank_88 : decode cX3_readRank 88 = .ok (.goto (-70), 3) := by decide +kernel
theorem dX3_readRank_91 : decode cX3_readRank 91 = .ok (.iconst 1, 1) := by decide +kernel
theorem dX3_readRank_92 : decode cX3_readRank 92 = .ok (.ireturn, 1) := by decide +kernel
theorem dX3_number_0 : decode cX3_number 0 = .ok (.iload_n 2, 1) := by decide +kernel
theorem dX3_number_1 : decode cX3_number 1 = .ok (.iload_n 1, 1) := by decide +kernel
theorem dX3_number_2 : decode cX3_number 2 = .ok (.isub, 1) := by decide +kernel
theorem dX3_number_3 : decode cX3_number 3 = .ok (.iconst 1, 1) := by decide +kernel
theorem dX3_number_4 : decode cX3_number 4 = .ok (.if_icmp .lt 10, 3) := by decide +kernel
theorem dX3_number_7 : decode cX3_number 7 = .ok (.iload_n 2, 1) := by decide +kernel
theorem dX3_number_8 : decode cX3_number 8 = .ok (.iload_n 1, 1) := by decide +kernel
theorem dX3_number_9 : decode cX3_number 9 = .ok (.isub, 1) := by decide +kernel
theorem dX3_number_10 : decode cX3_number 10 = .ok (.iconst 2, 1) := by decide +kernel
theorem dX3_number_11 : decode cX3_number 11 = .ok (.if_icmp .le 5, 3) := by decide +kernel
theorem dX3_number_14 : decode cX3_number 14 = .ok (.iconst (-1), 1) := by decide +kernel
theorem dX3_number_15 : decode cX3_number 15 = .ok (.ireturn, 1) := by decide +kernel
theorem dX3_number_16 : decode cX3_number 16 = .ok (.iconst 0, 1) := by decide +kernel
theorem dX3_number_17 : decode cX3_number 17 = .ok (.istore_n 3, 1) := by decide +kernel
theorem dX3_number_18 : decode cX3_number 18 = .ok (.iload_n 1, 1) := by decide +kernel
theorem dX3_number_19 : decode cX3_number 19 = .ok (.istore 4, 2) := by decide +kernel
theorem dX3_number_21 : decode cX3_number 21 = .ok (.iload 4, 2) := by decide +kernel
theorem dX3_number_23 : decode cX3_number 23 = .ok (.iload_n 2, 1) := by decide +kernel
theorem dX3_number_24 : decode cX3_number 24 = .ok (.if_icmp .ge 43, 3) := by decide +kernel
theorem dX3_number_27 : decode cX3_number 27 = .ok (.aload_n 0, 1) := by decide +kernel
theorem dX3_number_28 : decode cX3_number 28 = .ok (.getfield 9, 3) := by decide +kernel
theorem dX3_number_31 : decode cX3_number 31 = .ok (.iload 4, 2) := by decide +kernel
theorem dX3_number_33 : decode cX3_number 33 = .ok (.iaload, 1) := by decide +kernel
theorem dX3_number_34 : decode cX3_number 34 = .ok (.bipush 48, 2) := by decide +kernel
theorem dX3_number_36 : decode cX3_number 36 = .ok (.isub, 1) := by decide +kernel
theorem dX3_number_37 : decode cX3_number 37 = .ok (.istore 5, 2) := by decide +kernel
theorem dX3_number_39 : decode cX3_number 39 = .ok (.iload 5, 2) := by decide +kernel
theorem dX3_number_41 : decode cX3_number 41 = .ok (.ifCond .lt 10, 3) := by decide +kernel
theorem dX3_number_44 : decode cX3_number 44 = .ok (.iload 5, 2) := by decide +kernel
theorem dX3_number_46 : decode cX3_number 46 = .ok (.bipush 9, 2) := by decide +kernel
theorem dX3_number_48 : decode cX3_number 48 = .ok (.if_icmp .le 5, 3) := by decide +kernel
theorem dX3_number_51 : decode cX3_number 51 = .ok (.iconst (-1), 1) := by decide +kernel
theorem dX3_number_52 : decode cX3_number 52 = .ok (.ireturn, 1) := by decide +kernel
theorem dX3_number_53 : decode cX3_number 53 = .ok (.iload_n 3, 1) := by decide +kernel
theorem dX3_number_54 : decode cX3_number 54 = .ok (.bipush 10, 2) := by decide +kernel
theorem dX3_number_56 : decode cX3_number 56 = .ok (.imul, 1) := by decide +kernel
theorem dX3_number_57 : decode cX3_number 57 = .ok (.iload 5, 2) := by decide +kernel
theorem dX3_number_59 : decode cX3_number 59 = .ok (.iadd, 1) := by decide +kernel
theorem dX3_number_60 : decode cX3_number 60 = .ok (.istore_n 3, 1) := by decide +kernel
theorem dX3_number_61 : decode cX3_number 61 = .ok (.iinc 4 1, 3) := by decide +kernel
theorem dX3_number_64 : decode cX3_number 64 = .ok (.goto (-43), 3) := by decide +kernel
theorem dX3_number_67 : decode cX3_number 67 = .ok (.iload_n 3, 1) := by decide +kernel
theorem dX3_number_68 : decode cX3_number 68 = .ok (.ireturn, 1) := by decide +kernel
theorem dX3_risingSet_0 : decode cX3_risingSet 0 = .ok (.iconst 0, 1) := by decide +kernel
theorem dX3_risingSet_1 : decode cX3_risingSet 1 = .ok (.istore 4, 2) := by decide +kernel
theorem dX3_risingSet_3 : decode cX3_risingSet 3 = .ok (.iconst 0, 1) := by decide +kernel
theorem dX3_risingSet_4 : decode cX3_risingSet 4 = .ok (.istore 5, 2) := by decide +kernel
theorem dX3_risingSet_6 : decode cX3_risingSet 6 = .ok (.iload_n 2, 1) := by decide +kernel
theorem dX3_risingSet_7 : decode cX3_risingSet 7 = .ok (.istore 6, 2) := by decide +kernel
theorem dX3_risingSet_9 : decode cX3_risingSet 9 = .ok (.iload 6, 2) := by decide +kernel
theorem dX3_risingSet_11 : decode cX3_risingSet 11 = .ok (.iload_n 3, 1) := by decide +kernel
theorem dX3_risingSet_12 : decode cX3_risingSet 12 = .ok (.if_icmp .ge 51, 3) := by decide +kernel
theorem dX3_risingSet_15 : decode cX3_risingSet 15 = .ok (.aload_n 0, 1) := by decide +kernel
theorem dX3_risingSet_16 : decode cX3_risingSet 16 = .ok (.getfield 9, 3) := by decide +kernel
theorem dX3_risingSet_19 : decode cX3_risingSet 19 = .ok (.iload 6, 2) := by decide +kernel
theorem dX3_risingSet_21 : decode cX3_risingSet 21 = .ok (.iaload, 1) := by decide +kernel
theorem dX3_risingSet_22 : decode cX3_risingSet 22 = .ok (.bipush 97, 2) := by decide +kernel
theorem dX3_risingSet_24 : decode cX3_risingSet 24 = .ok (.isub, 1) := by decide +kernel
theorem dX3_risingSet_25 : decode cX3_risingSet 25 = .ok (.istore 7, 2) := by decide +kernel
theorem dX3_risingSet_27 : decode cX3_risingSet 27 = .ok (.iload 7, 2) := by decide +kernel
theorem dX3_risingSet_29 : decode cX3_risingSet 29 = .ok (.iload 5, 2) := by decide +kernel
theorem dX3_risingSet_31 : decode cX3_risingSet 31 = .ok (.if_icmp .lt 9, 3) := by decide +kernel
theorem dX3_risingSet_34 : decode cX3_risingSet 34 = .ok (.iload 7, 2) := by decide +kernel
theorem dX3_risingSet_36 : decode cX3_risingSet 36 = .ok (.iload_n 1, 1) := by decide +kernel
theorem dX3_risingSet_37 : decode cX3_risingSet 37 = .ok (.if_icmp .lt 5, 3) := by decide +kernel
theorem dX3_risingSet_40 : decode cX3_risingSet 40 = .ok (.iconst 0, 1) := by decide +kernel
theorem dX3_risingSet_41 : decode cX3_risingSet 41 = .ok (.ireturn, 1) := by decide +kernel
theorem dX3_risingSet_42 : decode cX3_risingSet 42 = .ok (.iload 4, 2) := by decide +kernel
theorem dX3_risingSet_44 : decode cX3_risingSet 44 = .ok (.iconst 1, 1) := by decide +kernel
theorem dX3_risingSet_45 : decode cX3_risingSet 45 = .ok (.iload 7, 2) := by decide +kernel
theorem dX3_risingSet_47 : decode cX3_risingSet 47 = .ok (.ishl, 1) := by decide +kernel
theorem dX3_risingSet_48 : decode cX3_risingSet 48 = .ok (.ior, 1) := by decide +kernel
theorem dX3_risingSet_49 : decode cX3_risingSet 49 = .ok (.istore 4, 2) := by decide +kernel
theorem dX3_risingSet_51 : decode cX3_risingSet 51 = .ok (.iload 7, 2) := by decide +kernel
theorem dX3_risingSet_53 : decode cX3_risingSet 53 = .ok (.iconst 1, 1) := by decide +kernel
theorem dX3_risingSet_54 : decode cX3_risingSet 54 = .ok (.iadd, 1) := by decide +kernel
theorem dX3_risingSet_55 : decode cX3_risingSet 55 = .ok (.istore 5, 2) := by decide +kernel
theorem dX3_risingSet_57 : decode cX3_risingSet 57 = .ok (.iinc 6 1, 3) := by decide +kernel
theorem dX3_risingSet_60 : decode cX3_risingSet 60 = .ok (.goto (-51), 3) := by decide +kernel
theorem dX3_risingSet_63 : decode cX3_risingSet 63 = .ok (.iload 4, 2) := by decide +kernel
theorem dX3_risingSet_65 : decode cX3_risingSet 65 = .ok (.ireturn, 1) := by decide +kernel
end
section
set_option maxRecDepth 20000 in
theorem ggX4_init_X3_init : GoodIn wsX4_init wsX3_init := goodIn_r _ [22, 23, 2, 3, 24, 25, 160, 161] (by decide +kernel) (by decide +kernel)
set_option maxRecDepth 20000 in
theorem gX4_init_X3_init_n11 : GoodIn wsX4_init (wsX3_init) := ggX4_init_X3_init
set_option maxRecDepth 20000 in
theorem ggX4_init_X0_init : GoodIn wsX4_init wsX0_init := goodIn_r _ [27, 28, 2, 3, 24, 29, 30, 31, 167, 168, 169, 170, 171, 172, 173] (by decide +kernel) (by decide +kernel)
set_option maxRecDepth 20000 in
theorem gX4_init_X0_init_n18 : GoodIn wsX4_init (wsX0_init) := ggX4_init_X0_init
set_option maxRecDepth 20000 in
theorem ggX4_init_X2_init : GoodIn wsX4_init wsX2_init := goodIn_r _ [33, 34, 2, 3, 35, 36, 9, 10, 26, 27, 28, 24, 29, 30, 31, 174, 175, 176, 167, 168, 169, 170, 171, 172, 173] (by decide +kernel) (by decide +kernel)
set_option maxRecDepth 20000 in
theorem gX4_init_X2_init_n28 : GoodIn wsX4_init (wsX2_init) := ggX4_init_X2_init
set_option maxRecDepth 20000 in
theorem ggX4_init_X1_init : GoodIn wsX4_init wsX1_init := goodIn_r _ [38, 39, 2, 3, 24, 40, 41, 42, 43, 44, 45, 46, 177, 178, 179, 180, 181, 182, 183, 184, 185] (by decide +kernel) (by decide +kernel)
set_option maxRecDepth 20000 in
theorem gX4_init_X1_init_n35 : GoodIn wsX4_init (wsX1_init) := ggX4_init_X1_init
set_option maxRecDepth 20000 in
theorem ggX4_init_J0_length_8abf5 : GoodIn wsX4_init wsJ0_length_8abf5 := goodIn_r _ [51, 52, 53, 54, 55, 50, 56, 57, 58] (by decide +kernel) (by decide +kernel)
set_option maxRecDepth 20000 in
theorem gX4_init_J0_length_8abf5 : GoodIn wsX4_init (wsV RX4 42 RJ0 yJ0_length_8abf5 wsJ0_length_8abf5) := goodIn_app (goodIn_of _ (by decide +kernel)) ggX4_init_J0_length_8abf5
set_option maxRecDepth 20000 in
theorem ggX4_init_J0_charAt_5068e : GoodIn wsX4_init wsJ0_charAt_5068e := goodIn_r _ [62, 52, 63, 64, 65, 50, 66, 57, 58, 67, 68, 69, 70, 71, 72, 73, 74, 75, 76, 77, 78, 79, 80, 81, 82, 83, 84, 85, 86, 87, 88, 89, 90, 91, 92, 93, 94, 95] (by decide +kernel) (by decide +kernel)
set_option maxRecDepth 20000 in
theorem gX4_init_J0_charAt_5068e : GoodIn wsX4_init (wsV RX4 48 RJ0 yJ0_charAt_5068e wsJ0_charAt_5068e) := goodIn_app (goodIn_of _ (by decide +kernel)) ggX4_init_J0_charAt_5068e
set_option maxRecDepth 20000 in
theorem ggX4_init_X3_add : GoodIn wsX4_init wsX3_add := goodIn_r _ [98, 99, 25, 160, 161] (by decide +kernel) (by decide +kernel)
set_option maxRecDepth 20000 in
theorem gX4_init_X3_add_n52 : GoodIn wsX4_init (wsX3_add) := ggX4_init_X3_add
set_option maxRecDepth 20000 in
theorem ggX4_init_X3_readInto : GoodIn wsX4_init wsX3_readInto := goodIn_r _ [102, 99, 25, 103, 10, 104, 105, 106, 107, 108, 109, 31, 110, 111, 112, 6, 113, 114, 115, 116, 117, 118, 119, 120, 121, 122, 123, 124, 125, 126, 127, 128, 129, 130, 131, 132, 133, 134, 135, 136, 137, 138, 139, 29, 140, 141, 142, 143, 30, 144, 145, 146, 147, 148, 149, 150, 151, 152, 153, 154, 155, 156, 160, 161, 167, 168, 169, 170, 171, 172, 173] (by decide +kernel) (by decide +kernel)
set_option maxRecDepth 20000 in
theorem gX4_init_X3_readInto_n56 : GoodIn wsX4_init (wsX3_readInto) := ggX4_init_X3_readInto
set_option maxRecDepth 20000 in
theorem ggX4_init_X3_clear : GoodIn wsX4_init wsX3_clear := goodIn_r _ [159, 99, 160, 161] (by decide +kernel) (by decide +kernel)
set_option maxRecDepth 20000 in
theorem gX4_init_X3_clear_n60 : GoodIn wsX4_init (wsX3_clear) := ggX4_init_X3_clear
theorem dX4_init_0 : decode cX4_init 0 = .ok (.aload_n 0, 1) := by decide +kernel
theorem dX4_init_1 : decode cX4_init 1 = .ok (.invokespecial 3, 3) := by decide +kernel
theorem dX4_init_4 : decode cX4_init 4 = .ok (.aload_n 0, 1) := by decide +kernel
theorem dX4_init_5 : decode cX4_init 5 = .ok (.new 9, 3) := by decide +kernel
theorem dX4_init_8 : decode cX4_init 8 = .ok (.dup, 1) := by decide +kernel
theorem dX4_init_9 : decode cX4_init 9 = .ok (.invokespecial 11, 3) := by decide +kernel
theorem dX4_init_12 : decode cX4_init 12 = .ok (.putfield 12, 3) := by decide +kernel
theorem dX4_init_15 : decode cX4_init 15 = .ok (.aload_n 0, 1) := by decide +kernel
theorem dX4_init_16 : decode cX4_init 16 = .ok (.new 16, 3) := by decide +kernel
theorem dX4_init_19 : decode cX4_init 19 = .ok (.dup, 1) := by decide +kernel
theorem dX4_init_20 : decode cX4_init 20 = .ok (.invokespecial 18, 3) := by decide +kernel
theorem dX4_init_23 : decode cX4_init 23 = .ok (.putfield 19, 3) := by decide +kernel
theorem dX4_init_26 : decode cX4_init 26 = .ok (.aload_n 0, 1) := by decide +kernel
theorem dX4_init_27 : decode cX4_init 27 = .ok (.new 16, 3) := by decide +kernel
theorem dX4_init_30 : decode cX4_init 30 = .ok (.dup, 1) := by decide +kernel
theorem dX4_init_31 : decode cX4_init 31 = .ok (.invokespecial 18, 3) := by decide +kernel
theorem dX4_init_34 : decode cX4_init 34 = .ok (.putfield 23, 3) := by decide +kernel
theorem dX4_init_37 : decode cX4_init 37 = .ok (.aload_n 0, 1) := by decide +kernel
theorem dX4_init_38 : decode cX4_init 38 = .ok (.new 26, 3) := by decide +kernel
theorem dX4_init_41 : decode cX4_init 41 = .ok (.dup, 1) := by decide +kernel
theorem dX4_init_42 : decode cX4_init 42 = .ok (.invokespecial 28, 3) := by decide +kernel
theorem dX4_init_45 : decode cX4_init 45 = .ok (.putfield 29, 3) := by decide +kernel
theorem dX4_init_48 : decode cX4_init 48 = .ok (.aload_n 0, 1) := by decide +kernel
theorem dX4_init_49 : decode cX4_init 49 = .ok (.new 33, 3) := by decide +kernel
theorem dX4_init_52 : decode cX4_init 52 = .ok (.dup, 1) := by decide +kernel
theorem dX4_init_53 : decode cX4_init 53 = .ok (.invokespecial 35, 3) := by decide +kernel
theorem dX4_init_56 : decode cX4_init 56 = .ok (.putfield 36, 3) := by decide +kernel
theorem dX4_init_59 : decode cX4_init 59 = .ok (.iconst 0, 1) := by decide +kernel
theorem dX4_init_60 : decode cX4_init 60 = .ok (.istore_n 1, 1) := by decide +kernel
theorem dX4_init_61 : decode cX4_init 61 = .ok (.iload_n 1, 1) := by decide +kernel
theorem dX4_init_62 : decode cX4_init 62 = .ok (.ldc 40, 2) := by decide +kernel
theorem dX4_init_64 : decode cX4_init 64 = .ok (.invokevirtual 42, 3) := by decide +kernel
theorem dX4_init_67 : decode cX4_init 67 = .ok (.if_icmp .ge 23, 3) := by decide +kernel
theorem dX4_init_70 : decode cX4_init 70 = .ok (.aload_n 0, 1) := by decide +kernel
theorem dX4_init_71 : decode cX4_init 71 = .ok (.getfield 12, 3) := by decide +kernel
theorem dX4_init_74 : decode cX4_init 74 = .ok (.ldc 40, 2) := by decide +kernel
theorem dX4_init_76 : decode cX4_init 76 = .ok (.iload_n 1, 1) := by decide +kernel
theorem dX4_init_77 : decode cX4_init 77 = .ok (.invokevirtual 48, 3) := by decide +kernel
theorem dX4_init_80 : decode cX4_init 80 = .ok (.invokevirtual 52, 3) := by decide +kernel
theorem dX4_init_83 : decode cX4_init 83 = .ok (.pop, 1) := by decide +kernel
theorem dX4_init_84 : decode cX4_init 84 = .ok (.iinc 1 1, 3) := by decide +kernel
theorem dX4_init_87 : decode cX4_init 87 = .ok (.goto (-26), 3) := by decide +kernel
theorem dX4_init_90 : decode cX4_init 90 = .ok (.aload_n 0, 1) := by decide +kernel
theorem dX4_init_91 : decode cX4_init 91 = .ok (.getfield 12, 3) := by decide +kernel
theorem dX4_init_94 : decode cX4_init 94 = .ok (.aload_n 0, 1) := by decide +kernel
theorem dX4_init_95 : decode cX4_init 95 = .ok (.getfield 19, 3) := by decide +kernel
theorem dX4_init_98 : decode cX4_init 98 = .ok (.invokevirtual 56, 3) := by decide +kernel
theorem dX4_init_101 : decode cX4_init 101 = .ok (.pop, 1) := by decide +kernel
theorem dX4_init_102 : decode cX4_init 102 = .ok (.aload_n 0, 1) := by decide +kernel
theorem dX4_init_103 : decode cX4_init 103 = .ok (.getfield 12, 3) := by decide +kernel
theorem dX4_init_106 : decode cX4_init 106 = .ok (.invokevirtual 60, 3) := by decide +kernel
theorem dX4_init_109 : decode cX4_init 109 = .ok (.return_, 1) := by decide +kernel
set_option maxRecDepth 20000 in
theorem ggX4_write_X3_add : GoodIn wsX4_write wsX3_add := goodIn_r _ [5, 6, 7, 13, 14] (by decide +kernel) (by decide +kernel)
set_option maxRecDepth 20000 in
theorem gX4_write_X3_add_n52 : GoodIn wsX4_write (wsX3_add) := ggX4_write_X3_add
theorem dX4_write_0 : decode cX4_write 0 = .ok (.iload_n 1, 1) := by decide +kernel
theorem dX4_write_1 : decode cX4_write 1 = .ok (.bipush 32, 2) := by decide +kernel
theorem dX4_write_3 : decode cX4_write 3 = .ok (.if_icmp .lt 9, 3) := by decide +kernel
theorem dX4_write_6 : decode cX4_write 6 = .ok (.iload_n 1, 1) := by decide +kernel
theorem dX4_write_7 : decode cX4_write 7 = .ok (.bipush 126, 2) := by decide +kernel
theorem dX4_write_9 : decode cX4_write 9 = .ok (.if_icmp .le 5, 3) := by decide +kernel
theorem dX4_write_12 : decode cX4_write 12 = .ok (.iconst (-1), 1) := by decide +kernel
theorem dX4_write_13 : decode cX4_write 13 = .ok (.ireturn, 1) := by decide +kernel
theorem dX4_write_14 : decode cX4_write 14 = .ok (.aload_n 0, 1) := by decide +kernel
theorem dX4_write_15 : decode cX4_write 15 = .ok (.getfield 12, 3) := by decide +kernel
theorem dX4_write_18 : decode cX4_write 18 = .ok (.iload_n 1, 1) := by decide +kernel
theorem dX4_write_19 : decode cX4_write 19 = .ok (.invokevirtual 52, 3) := by decide +kernel
theorem dX4_write_22 : decode cX4_write 22 = .ok (.ifCond .eq 13, 3) := by decide +kernel
theorem dX4_write_25 : decode cX4_write 25 = .ok (.aload_n 0, 1) := by decide +kernel
theorem dX4_write_26 : decode cX4_write 26 = .ok (.getfield 12, 3) := by decide +kernel
theorem dX4_write_29 : decode cX4_write 29 = .ok (.getfield 63, 3) := by decide +kernel
theorem dX4_write_32 : decode cX4_write 32 = .ok (.goto 5, 3) := by decide +kernel
theorem dX4_write_35 : decode cX4_write 35 = .ok (.bipush (-3), 2) := by decide +kernel
theorem dX4_write_37 : decode cX4_write 37 = .ok (.ireturn, 1) := by decide +kernel
set_option maxRecDepth 20000 in
theorem ggX4_wipe_X3_clear : GoodIn wsX4_wipe wsX3_clear := goodIn_r _ [5, 6, 12, 13] (by decide +kernel) (by decide +kernel)
set_option maxRecDepth 20000 in
theorem gX4_wipe_X3_clear_n60 : GoodIn wsX4_wipe (wsX3_clear) := ggX4_wipe_X3_clear
theorem dX4_wipe_0 : decode cX4_wipe 0 = .ok (.aload_n 0, 1) := by decide +kernel
theorem dX4_wipe_1 : decode cX4_wipe 1 = .ok (.getfield 12, 3) := by decide +kernel
theorem dX4_wipe_4 : decode cX4_wipe 4 = .ok (.getfield 63, 3) := by decide +kernel
theorem dX4_wipe_7 : decode cX4_wipe 7 = .ok (.istore_n 1, 1) := by decide +kernel
theorem dX4_wipe_8 : decode cX4_wipe 8 = .ok (.aload_n 0, 1) := by decide +kernel
theorem dX4_wipe_9 : decode cX4_wipe 9 = .ok (.getfield 12, 3) := by decide +kernel
theorem dX4_wipe_12 : decode cX4_wipe 12 = .ok (.invokevirtual 60, 3) := by decide +kernel
theorem dX4_wipe_15 : decode cX4_wipe 15 = .ok (.iload_n 1, 1) := by decide +kernel
theorem dX4_wipe_16 : decode cX4_wipe 16 = .ok (.ireturn, 1) := by decide +kernel
set_option maxRecDepth 20000 in
theorem ggX4_fault_X3_readInto : GoodIn wsX4_fault wsX3_readInto := goodIn_r _ [6, 7, 8, 9, 10, 11, 12, 13, 14, 15, 16, 17, 18, 19, 20, 4, 21, 22, 23, 24, 25, 26, 27, 28, 29, 30, 31, 32, 33, 34, 35, 36, 37, 38, 39, 40, 41, 42, 43, 44, 45, 46, 47, 48, 49, 50, 51, 52, 53, 54, 55, 56, 57, 58, 59, 60, 61, 62, 63, 64, 65, 66, 72, 73, 74, 75, 76, 77, 78, 79, 80] (by decide +kernel) (by decide +kernel)
set_option maxRecDepth 20000 in
theorem gX4_fault_X3_readInto_n56 : GoodIn wsX4_fault (wsX3_readInto) := ggX4_fault_X3_readInto
theorem dX4_fault_0 : decode cX4_fault 0 = .ok (.aload_n 0, 1) := by decide +kernel
theorem dX4_fault_1 : decode cX4_fault 1 = .ok (.getfield 12, 3) := by decide +kernel
theorem dX4_fault_4 : decode cX4_fault 4 = .ok (.aload_n 0, 1) := by decide +kernel
theorem dX4_fault_5 : decode cX4_fault 5 = .ok (.getfield 23, 3) := by decide +kernel
theorem dX4_fault_8 : decode cX4_fault 8 = .ok (.invokevirtual 56, 3) := by decide +kernel
theorem dX4_fault_11 : decode cX4_fault 11 = .ok (.ireturn, 1) := by decide +kernel
set_option maxRecDepth 20000 in
theorem ggX4_lay_X3_readInto : GoodIn wsX4_lay wsX3_readInto := goodIn_r _ [8, 9, 10, 11, 12, 13, 14, 15, 16, 17, 18, 19, 20, 21, 22, 6, 23, 24, 25, 26, 27, 28, 29, 30, 31, 32, 33, 34, 35, 36, 37, 38, 39, 40, 41, 42, 43, 44, 45, 46, 47, 48, 49, 50, 51, 52, 53, 54, 55, 56, 57, 58, 59, 60, 61, 62, 63, 64, 65, 66, 67, 68, 93, 94, 86, 87, 88, 89, 90, 91, 92] (by decide +kernel) (by decide +kernel)
set_option maxRecDepth 20000 in
theorem gX4_lay_X3_readInto_n56 : GoodIn wsX4_lay (wsX3_readInto) := ggX4_lay_X3_readInto
set_option maxRecDepth 20000 in
theorem ggX4_lay_X0_copyFrom : GoodIn wsX4_lay wsX0_copyFrom := goodIn_r _ [71, 15, 16, 17, 18, 50, 72, 73, 74, 75, 55, 19, 86, 87, 88, 89, 90, 91, 92] (by decide +kernel) (by decide +kernel)
set_option maxRecDepth 20000 in
theorem gX4_lay_X0_copyFrom_n69 : GoodIn wsX4_lay (wsX0_copyFrom) := ggX4_lay_X0_copyFrom
set_option maxRecDepth 20000 in
theorem ggX4_lay_X2_forget : GoodIn wsX4_lay wsX2_forget := goodIn_r _ [79, 80, 95, 96, 97] (by decide +kernel) (by decide +kernel)
set_option maxRecDepth 20000 in
theorem gX4_lay_X2_forget_n73 : GoodIn wsX4_lay (wsX2_forget) := ggX4_lay_X2_forget
theorem dX4_lay_0 : decode cX4_lay 0 = .ok (.aload_n 0, 1) := by decide +kernel
theorem dX4_lay_1 : decode cX4_lay 1 = .ok (.getfield 12, 3) := by decide +kernel
theorem dX4_lay_4 : decode cX4_lay 4 = .ok (.aload_n 0, 1) := by decide +kernel
theorem dX4_lay_5 : decode cX4_lay 5 = .ok (.getfield 23, 3) := by decide +kernel
theorem dX4_lay_8 : decode cX4_lay 8 = .ok (.invokevirtual 56, 3) := by decide +kernel
theorem dX4_lay_11 : decode cX4_lay 11 = .ok (.bipush (-4), 2) := by decide +kernel
theorem dX4_lay_13 : decode cX4_lay 13 = .ok (.if_icmp .ne 13, 3) := by decide +kernel
theorem dX4_lay_16 : decode cX4_lay 16 = .ok (.aload_n 0, 1) := by decide +kernel
theorem dX4_lay_17 : decode cX4_lay 17 = .ok (.getfield 23, 3) := by decide +kernel
theorem dX4_lay_20 : decode cX4_lay 20 = .ok (.getfield 66, 3) := by decide +kernel
theorem dX4_lay_23 : decode cX4_lay 23 = .ok (.ifCond .ne 6, 3) := by decide +kernel
theorem dX4_lay_26 : decode cX4_lay 26 = .ok (.bipush (-2), 2) := by decide +kernel
theorem dX4_lay_28 : decode cX4_lay 28 = .ok (.ireturn, 1) := by decide +kernel
theorem dX4_lay_29 : decode cX4_lay 29 = .ok (.aload_n 0, 1) := by decide +kernel
theorem dX4_lay_30 : decode cX4_lay 30 = .ok (.getfield 19, 3) := by decide +kernel
theorem dX4_lay_33 : decode cX4_lay 33 = .ok (.aload_n 0, 1) := by decide +kernel
theorem dX4_lay_34 : decode cX4_lay 34 = .ok (.getfield 23, 3) := by decide +kernel
theorem dX4_lay_37 : decode cX4_lay 37 = .ok (.invokevirtual 69, 3) := by decide +kernel
theorem dX4_lay_40 : decode cX4_lay 40 = .ok (.aload_n 0, 1) := by decide +kernel
theorem dX4_lay_41 : decode cX4_lay 41 = .ok (.getfield 29, 3) := by decide +kernel
theorem dX4_lay_44 : decode cX4_lay 44 = .ok (.invokevirtual 73, 3) := by decide +kernel
theorem dX4_lay_47 : decode cX4_lay 47 = .ok (.aload_n 0, 1) := by decide +kernel
theorem dX4_lay_48 : decode cX4_lay 48 = .ok (.getfield 19, 3) := by decide +kernel
theorem dX4_lay_51 : decode cX4_lay 51 = .ok (.getfield 66, 3) := by decide +kernel
theorem dX4_lay_54 : decode cX4_lay 54 = .ok (.ireturn, 1) := by decide +kernel
set_option maxRecDepth 20000 in
theorem ggX4_ballot_X4_isVoters : GoodIn wsX4_ballot wsX4_isVoters := goodIn_r _ [6] (by decide +kernel) (by decide +kernel)
set_option maxRecDepth 20000 in
theorem gX4_ballot_X4_isVoters : GoodIn wsX4_ballot (va_wsS RX4 76 yX4_isVoters wsX4_isVoters) := goodIn_app (goodIn_of _ (by decide +kernel)) ggX4_ballot_X4_isVoters
set_option maxRecDepth 20000 in
theorem ggX4_ballot_X4_isSet : GoodIn wsX4_ballot wsX4_isSet := goodIn_r _ [10, 1, 51, 52, 53, 54, 55, 56, 57, 58, 59, 60, 61, 62] (by decide +kernel) (by decide +kernel)
set_option maxRecDepth 20000 in
theorem gX4_ballot_X4_isSet : GoodIn wsX4_ballot (wsV RX4 79 RX4 yX4_isSet wsX4_isSet) := goodIn_app (goodIn_of _ (by decide +kernel)) ggX4_ballot_X4_isSet
set_option maxRecDepth 20000 in
theorem ggX4_ballot_X0_allVoters : GoodIn wsX4_ballot wsX0_allVoters := goodIn_r _ [14, 15, 16, 17, 12, 18, 19, 20, 21, 22, 23, 24, 25, 56, 57, 58, 59, 60, 61, 62] (by decide +kernel) (by decide +kernel)
set_option maxRecDepth 20000 in
theorem gX4_ballot_X0_allVoters_n85 : GoodIn wsX4_ballot (wsX0_allVoters) := ggX4_ballot_X0_allVoters
set_option maxRecDepth 20000 in
theorem ggX4_ballot_X2_keep : GoodIn wsX4_ballot wsX2_keep := goodIn_r _ [29, 30, 31, 32, 33, 34, 35, 36, 37, 12, 38, 39, 40, 19, 41, 42, 20, 43, 44, 45, 46, 25, 47, 63, 64, 65, 56, 57, 58, 59, 60, 61, 62] (by decide +kernel) (by decide +kernel)
set_option maxRecDepth 20000 in
theorem gX4_ballot_X2_keep_n88 : GoodIn wsX4_ballot (wsX2_keep) := ggX4_ballot_X2_keep
set_option maxRecDepth 20000 in
theorem ggX4_ballot_X0_addBallot : GoodIn wsX4_ballot wsX0_addBallot := goodIn_r _ [50, 19, 20, 25, 56, 57, 58, 59, 60, 61, 62] (by decide +kernel) (by decide +kernel)
set_option maxRecDepth 20000 in
theorem gX4_ballot_X0_addBallot_n91 : GoodIn wsX4_ballot (wsX0_addBallot) := ggX4_ballot_X0_addBallot
theorem dX4_ballot_0 : decode cX4_ballot 0 = .ok (.iload_n 1, 1) := by decide +kernel
theorem dX4_ballot_1 : decode cX4_ballot 1 = .ok (.invokestatic 76, 3) := by decide +kernel
theorem dX4_ballot_4 : decode cX4_ballot 4 = .ok (.ifCond .eq 11, 3) := by decide +kernel
theorem dX4_ballot_7 : decode cX4_ballot 7 = .ok (.aload_n 0, 1) := by decide +kernel
theorem dX4_ballot_8 : decode cX4_ballot 8 = .ok (.iload_n 2, 1) := by decide +kernel
theorem dX4_ballot_9 : decode cX4_ballot 9 = .ok (.invokevirtual 79, 3) := by decide +kernel
theorem dX4_ballot_12 : decode cX4_ballot 12 = .ok (.ifCond .ne 5, 3) := by decide +kernel
theorem dX4_ballot_15 : decode cX4_ballot 15 = .ok (.iconst (-1), 1) := by decide +kernel
theorem dX4_ballot_16 : decode cX4_ballot 16 = .ok (.ireturn, 1) := by decide +kernel
theorem dX4_ballot_17 : decode cX4_ballot 17 = .ok (.aload_n 0, 1) := by decide +kernel
theorem dX4_ballot_18 : decode cX4_ballot 18 = .ok (.getfield 19, 3) := by decide +kernel
theorem dX4_ballot_21 : decode cX4_ballot 21 = .ok (.getfield 82, 3) := by decide +kernel
theorem dX4_ballot_24 : decode cX4_ballot 24 = .ok (.bipush 10, 2) := by decide +kernel
theorem dX4_ballot_26 : decode cX4_ballot 26 = .ok (.if_icmp .ge 17, 3) := by decide +kernel
theorem dX4_ballot_29 : decode cX4_ballot 29 = .ok (.aload_n 0, 1) := by decide +kernel
theorem dX4_ballot_30 : decode cX4_ballot 30 = .ok (.getfield 19, 3) := by decide +kernel
theorem dX4_ballot_33 : decode cX4_ballot 33 = .ok (.invokevirtual 85, 3) := by decide +kernel
theorem dX4_ballot_36 : decode cX4_ballot 36 = .ok (.iload_n 1, 1) := by decide +kernel
theorem dX4_ballot_37 : decode cX4_ballot 37 = .ok (.iadd, 1) := by decide +kernel
theorem dX4_ballot_38 : decode cX4_ballot 38 = .ok (.bipush 40, 2) := by decide +kernel
theorem dX4_ballot_40 : decode cX4_ballot 40 = .ok (.if_icmp .le 6, 3) := by decide +kernel
theorem dX4_ballot_43 : decode cX4_ballot 43 = .ok (.bipush (-3), 2) := by decide +kernel
theorem dX4_ballot_45 : decode cX4_ballot 45 = .ok (.ireturn, 1) := by decide +kernel
theorem dX4_ballot_46 : decode cX4_ballot 46 = .ok (.aload_n 0, 1) := by decide +kernel
theorem dX4_ballot_47 : decode cX4_ballot 47 = .ok (.getfield 29, 3) := by decide +kernel
theorem dX4_ballot_50 : decode cX4_ballot 50 = .ok (.aload_n 0, 1) := by decide +kernel
theorem dX4_ballot_51 : decode cX4_ballot 51 = .ok (.getfield 19, 3) := by decide +kernel
theorem dX4_ballot_54 : decode cX4_ballot 54 = .ok (.invokevirtual 88, 3) := by decide +kernel
theorem dX4_ballot_57 : decode cX4_ballot 57 = .ok (.aload_n 0, 1) := by decide +kernel
theorem dX4_ballot_58 : decode cX4_ballot 58 = .ok (.getfield 19, 3) := by decide +kernel
theorem dX4_ballot_61 : decode cX4_ballot 61 = .ok (.iload_n 1, 1) := by decide +kernel
theorem dX4_ballot_62 : decode cX4_ballot 62 = .ok (.iload_n 2, 1) := by decide +kernel
theorem dX4_ballot_63 : decode cX4_ballot 63 = .ok (.invokevirtual 91, 3) := by decide +kernel
theorem dX4_ballot_66 : decode cX4_ballot 66 = .ok (.aload_n 0, 1) := by decide +kernel
theorem dX4_ballot_67 : decode cX4_ballot 67 = .ok (.getfield 19, 3) := by decide +kernel
theorem dX4_ballot_70 : decode cX4_ballot 70 = .ok (.getfield 82, 3) := by decide +kernel
theorem dX4_ballot_73 : decode cX4_ballot 73 = .ok (.iconst 1, 1) := by decide +kernel
theorem dX4_ballot_74 : decode cX4_ballot 74 = .ok (.isub, 1) := by decide +kernel
theorem dX4_ballot_75 : decode cX4_ballot 75 = .ok (.ireturn, 1) := by decide +kernel
set_option maxRecDepth 20000 in
theorem ggX4_voters_X4_isBallot : GoodIn wsX4_voters wsX4_isBallot := goodIn_r _ [7, 1, 48, 49, 50, 51, 52, 53, 54, 55, 56, 57, 58, 59] (by decide +kernel) (by decide +kernel)
set_option maxRecDepth 20000 in
theorem gX4_voters_X4_isBallot : GoodIn wsX4_voters (wsV RX4 95 RX4 yX4_isBallot wsX4_isBallot) := goodIn_app (goodIn_of _ (by decide +kernel)) ggX4_voters_X4_isBallot
set_option maxRecDepth 20000 in
theorem ggX4_voters_X4_isVoters : GoodIn wsX4_voters wsX4_isVoters := goodIn_r _ [10] (by decide +kernel) (by decide +kernel)
set_option maxRecDepth 20000 in
theorem gX4_voters_X4_isVoters : GoodIn wsX4_voters (va_wsS RX4 76 yX4_isVoters wsX4_isVoters) := goodIn_app (goodIn_of _ (by decide +kernel)) ggX4_voters_X4_isVoters
set_option maxRecDepth 20000 in
theorem ggX4_voters_X0_allVoters : GoodIn wsX4_voters wsX0_allVoters := goodIn_r _ [14, 15, 16, 17, 12, 18, 19, 20, 21, 22, 23, 24, 25, 53, 54, 55, 56, 57, 58, 59] (by decide +kernel) (by decide +kernel)
set_option maxRecDepth 20000 in
theorem gX4_voters_X0_allVoters_n85 : GoodIn wsX4_voters (wsX0_allVoters) := ggX4_voters_X0_allVoters
set_option maxRecDepth 20000 in
theorem ggX4_voters_X2_keep : GoodIn wsX4_voters wsX2_keep := goodIn_r _ [29, 30, 31, 32, 33, 34, 35, 36, 37, 12, 38, 39, 40, 19, 41, 42, 20, 43, 44, 45, 46, 25, 47, 60, 61, 62, 53, 54, 55, 56, 57, 58, 59] (by decide +kernel) (by decide +kernel)
set_option maxRecDepth 20000 in
theorem gX4_voters_X2_keep_n88 : GoodIn wsX4_voters (wsX2_keep) := ggX4_voters_X2_keep
theorem dX4_voters_0 : decode cX4_voters 0 = .ok (.aload_n 0, 1) := by decide +kernel
theorem dX4_voters_1 : decode cX4_voters 1 = .ok (.iload_n 1, 1) := by decide +kernel
theorem dX4_voters_2 : decode cX4_voters 2 = .ok (.invokevirtual 95, 3) := by decide +kernel
theorem dX4_voters_5 : decode cX4_voters 5 = .ok (.ifCond .eq 10, 3) := by decide +kernel
theorem dX4_voters_8 : decode cX4_voters 8 = .ok (.iload_n 2, 1) := by decide +kernel
theorem dX4_voters_9 : decode cX4_voters 9 = .ok (.invokestatic 76, 3) := by decide +kernel
theorem dX4_voters_12 : decode cX4_voters 12 = .ok (.ifCond .ne 5, 3) := by decide +kernel
theorem dX4_voters_15 : decode cX4_voters 15 = .ok (.iconst (-1), 1) := by decide +kernel
theorem dX4_voters_16 : decode cX4_voters 16 = .ok (.ireturn, 1) := by decide +kernel
theorem dX4_voters_17 : decode cX4_voters 17 = .ok (.aload_n 0, 1) := by decide +kernel
theorem dX4_voters_18 : decode cX4_voters 18 = .ok (.getfield 19, 3) := by decide +kernel
theorem dX4_voters_21 : decode cX4_voters 21 = .ok (.getfield 98, 3) := by decide +kernel
theorem dX4_voters_24 : decode cX4_voters 24 = .ok (.iload_n 1, 1) := by decide +kernel
theorem dX4_voters_25 : decode cX4_voters 25 = .ok (.iaload, 1) := by decide +kernel
theorem dX4_voters_26 : decode cX4_voters 26 = .ok (.istore_n 3, 1) := by decide +kernel
theorem dX4_voters_27 : decode cX4_voters 27 = .ok (.iload_n 3, 1) := by decide +kernel
theorem dX4_voters_28 : decode cX4_voters 28 = .ok (.iload_n 2, 1) := by decide +kernel
theorem dX4_voters_29 : decode cX4_voters 29 = .ok (.if_icmp .ne 6, 3) := by decide +kernel
theorem dX4_voters_32 : decode cX4_voters 32 = .ok (.bipush (-2), 2) := by decide +kernel
theorem dX4_voters_34 : decode cX4_voters 34 = .ok (.ireturn, 1) := by decide +kernel
theorem dX4_voters_35 : decode cX4_voters 35 = .ok (.aload_n 0, 1) := by decide +kernel
theorem dX4_voters_36 : decode cX4_voters 36 = .ok (.getfield 19, 3) := by decide +kernel
theorem dX4_voters_39 : decode cX4_voters 39 = .ok (.invokevirtual 85, 3) := by decide +kernel
theorem dX4_voters_42 : decode cX4_voters 42 = .ok (.iload_n 3, 1) := by decide +kernel
theorem dX4_voters_43 : decode cX4_voters 43 = .ok (.isub, 1) := by decide +kernel
theorem dX4_voters_44 : decode cX4_voters 44 = .ok (.iload_n 2, 1) := by decide +kernel
theorem dX4_voters_45 : decode cX4_voters 45 = .ok (.iadd, 1) := by decide +kernel
theorem dX4_voters_46 : decode cX4_voters 46 = .ok (.bipush 40, 2) := by decide +kernel
theorem dX4_voters_48 : decode cX4_voters 48 = .ok (.if_icmp .le 6, 3) := by decide +kernel
theorem dX4_voters_51 : decode cX4_voters 51 = .ok (.bipush (-3), 2) := by decide +kernel
theorem dX4_voters_53 : decode cX4_voters 53 = .ok (.ireturn, 1) := by decide +kernel
theorem dX4_voters_54 : decode cX4_voters 54 = .ok (.aload_n 0, 1) := by decide +kernel
theorem dX4_voters_55 : decode cX4_voters 55 = .ok (.getfield 29, 3) := by decide +kernel
theorem dX4_voters_58 : decode cX4_voters 58 = .ok (.aload_n 0, 1) := by decide +kernel
theorem dX4_voters_59 : decode cX4_voters 59 = .ok (.getfield 19, 3) := by decide +kernel
theorem dX4_voters_62 : decode cX4_voters 62 = .ok (.invokevirtual 88, 3) := by decide +kernel
theorem dX4_voters_65 : decode cX4_voters 65 = .ok (.aload_n 0, 1) := by decide +kernel
theorem dX4_voters_66 : decode cX4_voters 66 = .ok (.getfield 19, 3) := by decide +kernel
theorem dX4_voters_69 : decode cX4_voters 69 = .ok (.getfield 98, 3) := by decide +kernel
theorem dX4_voters_72 : decode cX4_voters 72 = .ok (.iload_n 1, 1) := by decide +kernel
theorem dX4_voters_73 : decode cX4_voters 73 = .ok (.iload_n 2, 1) := by decide +kernel
theorem dX4_voters_74 : decode cX4_voters 74 = .ok (.iastore, 1) := by decide +kernel
theorem dX4_voters_75 : decode cX4_voters 75 = .ok (.iload_n 3, 1) := by decide +kernel
theorem dX4_voters_76 : decode cX4_voters 76 = .ok (.ireturn, 1) := by decide +kernel
set_option maxRecDepth 20000 in
theorem ggX4_approve_X4_isBallot : GoodIn wsX4_approve wsX4_isBallot := goodIn_r _ [7, 1, 38, 39, 40, 41, 42, 43, 44, 45, 46, 47, 48, 49] (by decide +kernel) (by decide +kernel)
set_option maxRecDepth 20000 in
theorem gX4_approve_X4_isBallot : GoodIn wsX4_approve (wsV RX4 95 RX4 yX4_isBallot wsX4_isBallot) := goodIn_app (goodIn_of _ (by decide +kernel)) ggX4_approve_X4_isBallot
set_option maxRecDepth 20000 in
theorem ggX4_approve_X4_isSet : GoodIn wsX4_approve wsX4_isSet := goodIn_r _ [11, 1, 38, 39, 40, 41, 42, 43, 44, 45, 46, 47, 48, 49] (by decide +kernel) (by decide +kernel)
set_option maxRecDepth 20000 in
theorem gX4_approve_X4_isSet : GoodIn wsX4_approve (wsV RX4 79 RX4 yX4_isSet wsX4_isSet) := goodIn_app (goodIn_of _ (by decide +kernel)) ggX4_approve_X4_isSet
set_option maxRecDepth 20000 in
theorem ggX4_approve_X2_keep : GoodIn wsX4_approve wsX2_keep := goodIn_r _ [15, 16, 17, 18, 19, 20, 21, 22, 23, 24, 25, 26, 27, 28, 29, 30, 31, 32, 33, 34, 35, 36, 37, 50, 51, 52, 43, 44, 45, 46, 47, 48, 49] (by decide +kernel) (by decide +kernel)
set_option maxRecDepth 20000 in
theorem gX4_approve_X2_keep_n88 : GoodIn wsX4_approve (wsX2_keep) := ggX4_approve_X2_keep
theorem dX4_approve_0 : decode cX4_approve 0 = .ok (.aload_n 0, 1) := by decide +kernel
theorem dX4_approve_1 : decode cX4_approve 1 = .ok (.iload_n 1, 1) := by decide +kernel
theorem dX4_approve_2 : decode cX4_approve 2 = .ok (.invokevirtual 95, 3) := by decide +kernel
theorem dX4_approve_5 : decode cX4_approve 5 = .ok (.ifCond .eq 11, 3) := by decide +kernel
theorem dX4_approve_8 : decode cX4_approve 8 = .ok (.aload_n 0, 1) := by decide +kernel
theorem dX4_approve_9 : decode cX4_approve 9 = .ok (.iload_n 2, 1) := by decide +kernel
theorem dX4_approve_10 : decode cX4_approve 10 = .ok (.invokevirtual 79, 3) := by decide +kernel
theorem dX4_approve_13 : decode cX4_approve 13 = .ok (.ifCond .ne 5, 3) := by decide +kernel
theorem dX4_approve_16 : decode cX4_approve 16 = .ok (.iconst (-1), 1) := by decide +kernel
theorem dX4_approve_17 : decode cX4_approve 17 = .ok (.ireturn, 1) := by decide +kernel
theorem dX4_approve_18 : decode cX4_approve 18 = .ok (.aload_n 0, 1) := by decide +kernel
theorem dX4_approve_19 : decode cX4_approve 19 = .ok (.getfield 19, 3) := by decide +kernel
theorem dX4_approve_22 : decode cX4_approve 22 = .ok (.getfield 102, 3) := by decide +kernel
theorem dX4_approve_25 : decode cX4_approve 25 = .ok (.iload_n 1, 1) := by decide +kernel
theorem dX4_approve_26 : decode cX4_approve 26 = .ok (.iaload, 1) := by decide +kernel
theorem dX4_approve_27 : decode cX4_approve 27 = .ok (.istore_n 3, 1) := by decide +kernel
theorem dX4_approve_28 : decode cX4_approve 28 = .ok (.iload_n 3, 1) := by decide +kernel
theorem dX4_approve_29 : decode cX4_approve 29 = .ok (.iload_n 2, 1) := by decide +kernel
theorem dX4_approve_30 : decode cX4_approve 30 = .ok (.if_icmp .ne 6, 3) := by decide +kernel
theorem dX4_approve_33 : decode cX4_approve 33 = .ok (.bipush (-2), 2) := by decide +kernel
theorem dX4_approve_35 : decode cX4_approve 35 = .ok (.ireturn, 1) := by decide +kernel
theorem dX4_approve_36 : decode cX4_approve 36 = .ok (.aload_n 0, 1) := by decide +kernel
theorem dX4_approve_37 : decode cX4_approve 37 = .ok (.getfield 29, 3) := by decide +kernel
theorem dX4_approve_40 : decode cX4_approve 40 = .ok (.aload_n 0, 1) := by decide +kernel
theorem dX4_approve_41 : decode cX4_approve 41 = .ok (.getfield 19, 3) := by decide +kernel
theorem dX4_approve_44 : decode cX4_approve 44 = .ok (.invokevirtual 88, 3) := by decide +kernel
theorem dX4_approve_47 : decode cX4_approve 47 = .ok (.aload_n 0, 1) := by decide +kernel
theorem dX4_approve_48 : decode cX4_approve 48 = .ok (.getfield 19, 3) := by decide +kernel
theorem dX4_approve_51 : decode cX4_approve 51 = .ok (.getfield 102, 3) := by decide +kernel
theorem dX4_approve_54 : decode cX4_approve 54 = .ok (.iload_n 1, 1) := by decide +kernel
theorem dX4_approve_55 : decode cX4_approve 55 = .ok (.iload_n 2, 1) := by decide +kernel
theorem dX4_approve_56 : decode cX4_approve 56 = .ok (.iastore, 1) := by decide +kernel
theorem dX4_approve_57 : decode cX4_approve 57 = .ok (.iload_n 3, 1) := by decide +kernel
theorem dX4_approve_58 : decode cX4_approve 58 = .ok (.ireturn, 1) := by decide +kernel
set_option maxRecDepth 20000 in
theorem ggX4_seats_X2_keep : GoodIn wsX4_seats wsX2_keep := goodIn_r _ [6, 7, 8, 9, 10, 11, 12, 13, 14, 15, 16, 17, 18, 19, 20, 21, 22, 23, 24, 25, 26, 27, 28, 41, 42, 43, 34, 35, 36, 37, 38, 39, 40] (by decide +kernel) (by decide +kernel)
set_option maxRecDepth 20000 in
theorem gX4_seats_X2_keep_n88 : GoodIn wsX4_seats (wsX2_keep) := ggX4_seats_X2_keep
theorem dX4_seats_0 : decode cX4_seats 0 = .ok (.iload_n 1, 1) := by decide +kernel
theorem dX4_seats_1 : decode cX4_seats 1 = .ok (.iconst 1, 1) := by decide +kernel
theorem dX4_seats_2 : decode cX4_seats 2 = .ok (.if_icmp .lt 9, 3) := by decide +kernel
theorem dX4_seats_5 : decode cX4_seats 5 = .ok (.iload_n 1, 1) := by decide +kernel
theorem dX4_seats_6 : decode cX4_seats 6 = .ok (.bipush 8, 2) := by decide +kernel
theorem dX4_seats_8 : decode cX4_seats 8 = .ok (.if_icmp .le 5, 3) := by decide +kernel
theorem dX4_seats_11 : decode cX4_seats 11 = .ok (.iconst (-1), 1) := by decide +kernel
theorem dX4_seats_12 : decode cX4_seats 12 = .ok (.ireturn, 1) := by decide +kernel
theorem dX4_seats_13 : decode cX4_seats 13 = .ok (.aload_n 0, 1) := by decide +kernel
theorem dX4_seats_14 : decode cX4_seats 14 = .ok (.getfield 19, 3) := by decide +kernel
theorem dX4_seats_17 : decode cX4_seats 17 = .ok (.getfield 105, 3) := by decide +kernel
theorem dX4_seats_20 : decode cX4_seats 20 = .ok (.istore_n 2, 1) := by decide +kernel
theorem dX4_seats_21 : decode cX4_seats 21 = .ok (.iload_n 2, 1) := by decide +kernel
theorem dX4_seats_22 : decode cX4_seats 22 = .ok (.iload_n 1, 1) := by decide +kernel
theorem dX4_seats_23 : decode cX4_seats 23 = .ok (.if_icmp .ne 6, 3) := by decide +kernel
theorem dX4_seats_26 : decode cX4_seats 26 = .ok (.bipush (-2), 2) := by decide +kernel
theorem dX4_seats_28 : decode cX4_seats 28 = .ok (.ireturn, 1) := by decide +kernel
theorem dX4_seats_29 : decode cX4_seats 29 = .ok (.aload_n 0, 1) := by decide +kernel
theorem dX4_seats_30 : decode cX4_seats 30 = .ok (.getfield 29, 3) := by decide +kernel
theorem dX4_seats_33 : decode cX4_seats 33 = .ok (.aload_n 0, 1) := by decide +kernel
theorem dX4_seats_34 : decode cX4_seats 34 = .ok (.getfield 19, 3) := by decide +kernel
theorem dX4_seats_37 : decode cX4_seats 37 = .ok (.invokevirtual 88, 3) := by decide +kernel
theorem dX4_seats_40 : decode cX4_seats 40 = .ok (.aload_n 0, 1) := by decide +kernel
theorem dX4_seats_41 : decode cX4_seats 41 = .ok (.getfield 19, 3) := by decide +kernel
theorem dX4_seats_44 : decode cX4_seats 44 = .ok (.iload_n 1, 1) := by decide +kernel
theorem dX4_seats_45 : decode cX4_seats 45 = .ok (.putfield 105, 3) := by decide +kernel
theorem dX4_seats_48 : decode cX4_seats 48 = .ok (.iload_n 2, 1) := by decide +kernel
theorem dX4_seats_49 : decode cX4_seats 49 = .ok (.ireturn, 1) := by decide +kernel
set_option maxRecDepth 20000 in
theorem ggX4_withdraw_X4_isCandidate : GoodIn wsX4_withdraw wsX4_isCandidate := goodIn_r _ [7, 1, 46, 47, 48, 49, 50, 51, 52, 53, 54, 55, 56, 57] (by decide +kernel) (by decide +kernel)
set_option maxRecDepth 20000 in
theorem gX4_withdraw_X4_isCandidate : GoodIn wsX4_withdraw (wsV RX4 108 RX4 yX4_isCandidate wsX4_isCandidate) := goodIn_app (goodIn_of _ (by decide +kernel)) ggX4_withdraw_X4_isCandidate
set_option maxRecDepth 20000 in
theorem ggX4_withdraw_X0_isWithdrawn : GoodIn wsX4_withdraw wsX0_isWithdrawn := goodIn_r _ [11, 12, 13, 6, 14, 51, 52, 53, 54, 55, 56, 57] (by decide +kernel) (by decide +kernel)
set_option maxRecDepth 20000 in
theorem gX4_withdraw_X0_isWithdrawn_n111 : GoodIn wsX4_withdraw (wsX0_isWithdrawn) := ggX4_withdraw_X0_isWithdrawn
set_option maxRecDepth 20000 in
theorem ggX4_withdraw_X2_keep : GoodIn wsX4_withdraw wsX2_keep := goodIn_r _ [18, 19, 20, 21, 22, 23, 24, 25, 26, 9, 27, 28, 29, 30, 31, 12, 32, 33, 34, 35, 36, 37, 38, 58, 59, 60, 51, 52, 53, 54, 55, 56, 57] (by decide +kernel) (by decide +kernel)
set_option maxRecDepth 20000 in
theorem gX4_withdraw_X2_keep_n88 : GoodIn wsX4_withdraw (wsX2_keep) := ggX4_withdraw_X2_keep
set_option maxRecDepth 20000 in
theorem ggX4_withdraw_J6_bitCount_0f7a4 : GoodIn wsX4_withdraw wsJ6_bitCount_0f7a4 := goodIn_r _ [42, 43, 44, 45] (by decide +kernel) (by decide +kernel)
set_option maxRecDepth 20000 in
theorem gX4_withdraw_J6_bitCount_0f7a4 : GoodIn wsX4_withdraw (va_wsS RX4 117 yJ6_bitCount_0f7a4 wsJ6_bitCount_0f7a4) := goodIn_app (goodIn_of _ (by decide +kernel)) ggX4_withdraw_J6_bitCount_0f7a4
theorem dX4_withdraw_0 : decode cX4_withdraw 0 = .ok (.aload_n 0, 1) := by decide +kernel
theorem dX4_withdraw_1 : decode cX4_withdraw 1 = .ok (.iload_n 1, 1) := by decide +kernel
theorem dX4_withdraw_2 : decode cX4_withdraw 2 = .ok (.invokevirtual 108, 3) := by decide +kernel
theorem dX4_withdraw_5 : decode cX4_withdraw 5 = .ok (.ifCond .eq 12, 3) := by decide +kernel
theorem dX4_withdraw_8 : decode cX4_withdraw 8 = .ok (.iload_n 2, 1) := by decide +kernel
theorem dX4_withdraw_9 : decode cX4_withdraw 9 = .ok (.ifCond .lt 8, 3) := by decide +kernel
theorem dX4_withdraw_12 : decode cX4_withdraw 12 = .ok (.iload_n 2, 1) := by decide +kernel
theorem dX4_withdraw_13 : decode cX4_withdraw 13 = .ok (.iconst 1, 1) := by decide +kernel
theorem dX4_withdraw_14 : decode cX4_withdraw 14 = .ok (.if_icmp .le 5, 3) := by decide +kernel
theorem dX4_withdraw_17 : decode cX4_withdraw 17 = .ok (.iconst (-1), 1) := by decide +kernel
theorem dX4_withdraw_18 : decode cX4_withdraw 18 = .ok (.ireturn, 1) := by decide +kernel
theorem dX4_withdraw_19 : decode cX4_withdraw 19 = .ok (.aload_n 0, 1) := by decide +kernel
theorem dX4_withdraw_20 : decode cX4_withdraw 20 = .ok (.getfield 19, 3) := by decide +kernel
theorem dX4_withdraw_23 : decode cX4_withdraw 23 = .ok (.iload_n 1, 1) := by decide +kernel
theorem dX4_withdraw_24 : decode cX4_withdraw 24 = .ok (.invokevirtual 111, 3) := by decide +kernel
theorem dX4_withdraw_27 : decode cX4_withdraw 27 = .ok (.iload_n 2, 1) := by decide +kernel
theorem dX4_withdraw_28 : decode cX4_withdraw 28 = .ok (.iconst 1, 1) := by decide +kernel
theorem dX4_withdraw_29 : decode cX4_withdraw 29 = .ok (.if_icmp .ne 7, 3) := by decide +kernel
theorem dX4_withdraw_32 : decode cX4_withdraw 32 = .ok (.iconst 1, 1) := by decide +kernel
theorem dX4_withdraw_33 : decode cX4_withdraw 33 = .ok (.goto 4, 3) := by decide +kernel
theorem dX4_withdraw_36 : decode cX4_withdraw 36 = .ok (.iconst 0, 1) := by decide +kernel
theorem dX4_withdraw_37 : decode cX4_withdraw 37 = .ok (.if_icmp .ne 6, 3) := by decide +kernel
theorem dX4_withdraw_40 : decode cX4_withdraw 40 = .ok (.bipush (-2), 2) := by decide +kernel
theorem dX4_withdraw_42 : decode cX4_withdraw 42 = .ok (.ireturn, 1) := by decide +kernel
theorem dX4_withdraw_43 : decode cX4_withdraw 43 = .ok (.aload_n 0, 1) := by decide +kernel
theorem dX4_withdraw_44 : decode cX4_withdraw 44 = .ok (.getfield 29, 3) := by decide +kernel
theorem dX4_withdraw_47 : decode cX4_withdraw 47 = .ok (.aload_n 0, 1) := by decide +kernel
theorem dX4_withdraw_48 : decode cX4_withdraw 48 = .ok (.getfield 19, 3) := by decide +kernel
theorem dX4_withdraw_51 : decode cX4_withdraw 51 = .ok (.invokevirtual 88, 3) := by decide +kernel
theorem dX4_withdraw_54 : decode cX4_withdraw 54 = .ok (.aload_n 0, 1) := by decide +kernel
theorem dX4_withdraw_55 : decode cX4_withdraw 55 = .ok (.getfield 19, 3) := by decide +kernel
theorem dX4_withdraw_58 : decode cX4_withdraw 58 = .ok (.dup, 1) := by decide +kernel
theorem dX4_withdraw_59 : decode cX4_withdraw 59 = .ok (.getfield 114, 3) := by decide +kernel
theorem dX4_withdraw_62 : decode cX4_withdraw 62 = .ok (.iconst 1, 1) := by decide +kernel
theorem dX4_withdraw_63 : decode cX4_withdraw 63 = .ok (.iload_n 1, 1) := by decide +kernel
theorem dX4_withdraw_64 : decode cX4_withdraw 64 = .ok (.ishl, 1) := by decide +kernel
theorem dX4_withdraw_65 : decode cX4_withdraw 65 = .ok (.ixor, 1) := by decide +kernel
theorem dX4_withdraw_66 : decode cX4_withdraw 66 = .ok (.putfield 114, 3) := by decide +kernel
theorem dX4_withdraw_69 : decode cX4_withdraw 69 = .ok (.aload_n 0, 1) := by decide +kernel
theorem dX4_withdraw_70 : decode cX4_withdraw 70 = .ok (.getfield 19, 3) := by decide +kernel
theorem dX4_withdraw_73 : decode cX4_withdraw 73 = .ok (.getfield 114, 3) := by decide +kernel
theorem dX4_withdraw_76 : decode cX4_withdraw 76 = .ok (.invokestatic 117, 3) := by decide +kernel
theorem dX4_withdraw_79 : decode cX4_withdraw 79 = .ok (.ireturn, 1) := by decide +kernel
set_option maxRecDepth 20000 in
theorem ggX4_prefer_X4_isCandidate : GoodIn wsX4_prefer wsX4_isCandidate := goodIn_r _ [7, 1, 40, 41, 42, 43, 44, 45, 46, 47, 48, 49, 50, 51] (by decide +kernel) (by decide +kernel)
set_option maxRecDepth 20000 in
theorem gX4_prefer_X4_isCandidate : GoodIn wsX4_prefer (wsV RX4 108 RX4 yX4_isCandidate wsX4_isCandidate) := goodIn_app (goodIn_of _ (by decide +kernel)) ggX4_prefer_X4_isCandidate
set_option maxRecDepth 20000 in
theorem ggX4_prefer_X0_placeOf : GoodIn wsX4_prefer wsX0_placeOf := goodIn_r _ [11, 12, 13, 45, 46, 47, 48, 49, 50, 51] (by decide +kernel) (by decide +kernel)
set_option maxRecDepth 20000 in
theorem gX4_prefer_X0_placeOf_n123 : GoodIn wsX4_prefer (wsX0_placeOf) := ggX4_prefer_X0_placeOf
set_option maxRecDepth 20000 in
theorem ggX4_prefer_X2_keep : GoodIn wsX4_prefer wsX2_keep := goodIn_r _ [17, 18, 19, 20, 21, 22, 23, 24, 25, 9, 26, 27, 12, 28, 29, 30, 31, 32, 33, 34, 35, 36, 13, 52, 53, 54, 45, 46, 47, 48, 49, 50, 51] (by decide +kernel) (by decide +kernel)
set_option maxRecDepth 20000 in
theorem gX4_prefer_X2_keep_n88 : GoodIn wsX4_prefer (wsX2_keep) := ggX4_prefer_X2_keep
set_option maxRecDepth 20000 in
theorem ggX4_prefer_X0_bringToFront : GoodIn wsX4_prefer wsX0_bringToFront := goodIn_r _ [39, 13, 45, 46, 47, 48, 49, 50, 51] (by decide +kernel) (by decide +kernel)
set_option maxRecDepth 20000 in
theorem gX4_prefer_X0_bringToFront_n126 : GoodIn wsX4_prefer (wsX0_bringToFront) := ggX4_prefer_X0_bringToFront
theorem dX4_prefer_0 : decode cX4_prefer 0 = .ok (.aload_n 0, 1) := by decide +kernel
theorem dX4_prefer_1 : decode cX4_prefer 1 = .ok (.iload_n 1, 1) := by decide +kernel
theorem dX4_prefer_2 : decode cX4_prefer 2 = .ok (.invokevirtual 108, 3) := by decide +kernel
theorem dX4_prefer_5 : decode cX4_prefer 5 = .ok (.ifCond .ne 5, 3) := by decide +kernel
theorem dX4_prefer_8 : decode cX4_prefer 8 = .ok (.iconst (-1), 1) := by decide +kernel
theorem dX4_prefer_9 : decode cX4_prefer 9 = .ok (.ireturn, 1) := by decide +kernel
theorem dX4_prefer_10 : decode cX4_prefer 10 = .ok (.aload_n 0, 1) := by decide +kernel
theorem dX4_prefer_11 : decode cX4_prefer 11 = .ok (.getfield 19, 3) := by decide +kernel
theorem dX4_prefer_14 : decode cX4_prefer 14 = .ok (.iload_n 1, 1) := by decide +kernel
theorem dX4_prefer_15 : decode cX4_prefer 15 = .ok (.invokevirtual 123, 3) := by decide +kernel
theorem dX4_prefer_18 : decode cX4_prefer 18 = .ok (.istore_n 2, 1) := by decide +kernel
theorem dX4_prefer_19 : decode cX4_prefer 19 = .ok (.iload_n 2, 1) := by decide +kernel
theorem dX4_prefer_20 : decode cX4_prefer 20 = .ok (.ifCond .ne 6, 3) := by decide +kernel
theorem dX4_prefer_23 : decode cX4_prefer 23 = .ok (.bipush (-2), 2) := by decide +kernel
theorem dX4_prefer_25 : decode cX4_prefer 25 = .ok (.ireturn, 1) := by decide +kernel
theorem dX4_prefer_26 : decode cX4_prefer 26 = .ok (.aload_n 0, 1) := by decide +kernel
theorem dX4_prefer_27 : decode cX4_prefer 27 = .ok (.getfield 29, 3) := by decide +kernel
theorem dX4_prefer_30 : decode cX4_prefer 30 = .ok (.aload_n 0, 1) := by decide +kernel
theorem dX4_prefer_31 : decode cX4_prefer 31 = .ok (.getfield 19, 3) := by decide +kernel
theorem dX4_prefer_34 : decode cX4_prefer 34 = .ok (.invokevirtual 88, 3) := by decide +kernel
theorem dX4_prefer_37 : decode cX4_prefer 37 = .ok (.aload_n 0, 1) := by decide +kernel
theorem dX4_prefer_38 : decode cX4_prefer 38 = .ok (.getfield 19, 3) := by decide +kernel
theorem dX4_prefer_41 : decode cX4_prefer 41 = .ok (.iload_n 2, 1) := by decide +kernel
theorem dX4_prefer_42 : decode cX4_prefer 42 = .ok (.invokevirtual 126, 3) := by decide +kernel
theorem dX4_prefer_45 : decode cX4_prefer 45 = .ok (.iload_n 2, 1) := by decide +kernel
theorem dX4_prefer_46 : decode cX4_prefer 46 = .ok (.ireturn, 1) := by decide +kernel
set_option maxRecDepth 20000 in
theorem ggX4_undo_X2_bringBack : GoodIn wsX4_undo wsX2_bringBack := goodIn_r _ [6, 7, 8, 9, 10, 11, 12, 13, 14, 15, 16, 17, 18, 19, 20, 21, 22, 23, 24, 30, 31, 32, 33, 34, 35, 36, 37, 38, 39] (by decide +kernel) (by decide +kernel)
set_option maxRecDepth 20000 in
theorem gX4_undo_X2_bringBack_n133 : GoodIn wsX4_undo (wsX2_bringBack) := ggX4_undo_X2_bringBack
theorem dX4_undo_0 : decode cX4_undo 0 = .ok (.aload_n 0, 1) := by decide +kernel
theorem dX4_undo_1 : decode cX4_undo 1 = .ok (.getfield 29, 3) := by decide +kernel
theorem dX4_undo_4 : decode cX4_undo 4 = .ok (.getfield 130, 3) := by decide +kernel
theorem dX4_undo_7 : decode cX4_undo 7 = .ok (.ifCond .ne 6, 3) := by decide +kernel
theorem dX4_undo_10 : decode cX4_undo 10 = .ok (.bipush (-2), 2) := by decide +kernel
theorem dX4_undo_12 : decode cX4_undo 12 = .ok (.ireturn, 1) := by decide +kernel
theorem dX4_undo_13 : decode cX4_undo 13 = .ok (.aload_n 0, 1) := by decide +kernel
theorem dX4_undo_14 : decode cX4_undo 14 = .ok (.getfield 29, 3) := by decide +kernel
theorem dX4_undo_17 : decode cX4_undo 17 = .ok (.aload_n 0, 1) := by decide +kernel
theorem dX4_undo_18 : decode cX4_undo 18 = .ok (.getfield 19, 3) := by decide +kernel
theorem dX4_undo_21 : decode cX4_undo 21 = .ok (.invokevirtual 133, 3) := by decide +kernel
theorem dX4_undo_24 : decode cX4_undo 24 = .ok (.aload_n 0, 1) := by decide +kernel
theorem dX4_undo_25 : decode cX4_undo 25 = .ok (.getfield 29, 3) := by decide +kernel
theorem dX4_undo_28 : decode cX4_undo 28 = .ok (.getfield 130, 3) := by decide +kernel
theorem dX4_undo_31 : decode cX4_undo 31 = .ok (.ireturn, 1) := by decide +kernel
set_option maxRecDepth 20000 in
theorem ggX4_candidate_X4_isCandidate : GoodIn wsX4_candidate wsX4_isCandidate := goodIn_r _ [6, 1, 88, 89, 90, 91, 92, 93, 94, 95, 96, 97, 98, 99] (by decide +kernel) (by decide +kernel)
set_option maxRecDepth 20000 in
theorem gX4_candidate_X4_isCandidate : GoodIn wsX4_candidate (wsV RX4 108 RX4 yX4_isCandidate wsX4_isCandidate) := goodIn_app (goodIn_of _ (by decide +kernel)) ggX4_candidate_X4_isCandidate
set_option maxRecDepth 20000 in
theorem ggX4_candidate_X0_supportOf : GoodIn wsX4_candidate wsX0_supportOf := goodIn_r _ [10, 11, 12, 13, 8, 14, 15, 16, 17, 18, 19, 20, 21, 93, 94, 95, 96, 97, 98, 99] (by decide +kernel) (by decide +kernel)
set_option maxRecDepth 20000 in
theorem gX4_candidate_X0_supportOf_n136 : GoodIn wsX4_candidate (wsX0_supportOf) := ggX4_candidate_X0_supportOf
set_option maxRecDepth 20000 in
theorem ggX4_candidate_X0_placeOf : GoodIn wsX4_candidate wsX0_placeOf := goodIn_r _ [24, 25, 26, 93, 94, 95, 96, 97, 98, 99] (by decide +kernel) (by decide +kernel)
set_option maxRecDepth 20000 in
theorem gX4_candidate_X0_placeOf_n123 : GoodIn wsX4_candidate (wsX0_placeOf) := ggX4_candidate_X0_placeOf
set_option maxRecDepth 20000 in
theorem ggX4_candidate_X0_isWithdrawn : GoodIn wsX4_candidate wsX0_isWithdrawn := goodIn_r _ [29, 30, 31, 5, 32, 93, 94, 95, 96, 97, 98, 99] (by decide +kernel) (by decide +kernel)
set_option maxRecDepth 20000 in
theorem gX4_candidate_X0_isWithdrawn_n111 : GoodIn wsX4_candidate (wsX0_isWithdrawn) := ggX4_candidate_X0_isWithdrawn
set_option maxRecDepth 20000 in
theorem ggX4_candidate_X4_lawsThatElect : GoodIn wsX4_candidate wsX4_lawsThatElect := goodIn_r _ [36, 37, 1, 38, 39, 40, 41, 42, 43, 44, 45, 46, 47, 48, 49, 50, 7, 8, 9, 10, 11, 12, 13, 14, 15, 16, 17, 18, 19, 20, 21, 51, 52, 53, 54, 55, 31, 5, 32, 56, 57, 58, 59, 60, 61, 62, 63, 64, 65, 66, 67, 68, 69, 70, 71, 72, 73, 74, 75, 76, 77, 78, 79, 80, 81, 82, 83, 84, 85, 86, 87, 88, 89, 90, 91, 92, 93, 94, 95, 96, 97, 98, 99, 100, 101, 102, 103, 104, 105, 106, 107, 108] (by decide +kernel) (by decide +kernel)
set_option maxRecDepth 20000 in
theorem gX4_candidate_X4_lawsThatElect : GoodIn wsX4_candidate (wsV RX4 139 RX4 yX4_lawsThatElect wsX4_lawsThatElect) := goodIn_app (goodIn_of _ (by decide +kernel)) ggX4_candidate_X4_lawsThatElect
theorem dX4_candidate_0 : decode cX4_candidate 0 = .ok (.aload_n 0, 1) := by decide +kernel
theorem dX4_candidate_1 : decode cX4_candidate 1 = .ok (.iload_n 1, 1) := by decide +kernel
theorem dX4_candidate_2 : decode cX4_candidate 2 = .ok (.invokevirtual 108, 3) := by decide +kernel
theorem dX4_candidate_5 : decode cX4_candidate 5 = .ok (.ifCond .ne 5, 3) := by decide +kernel
theorem dX4_candidate_8 : decode cX4_candidate 8 = .ok (.iconst (-1), 1) := by decide +kernel
theorem dX4_candidate_9 : decode cX4_candidate 9 = .ok (.ireturn, 1) := by decide +kernel
theorem dX4_candidate_10 : decode cX4_candidate 10 = .ok (.iload_n 2, 1) := by decide +kernel
theorem dX4_candidate_11 : decode cX4_candidate 11 = .ok (.tableswitch 70 0 3 #[29, 38, 47, 64], 29) := by decide +kernel
theorem dX4_candidate_40 : decode cX4_candidate 40 = .ok (.aload_n 0, 1) := by decide +kernel
theorem dX4_candidate_41 : decode cX4_candidate 41 = .ok (.getfield 19, 3) := by decide +kernel
theorem dX4_candidate_44 : decode cX4_candidate 44 = .ok (.iload_n 1, 1) := by decide +kernel
theorem dX4_candidate_45 : decode cX4_candidate 45 = .ok (.invokevirtual 136, 3) := by decide +kernel
theorem dX4_candidate_48 : decode cX4_candidate 48 = .ok (.ireturn, 1) := by decide +kernel
theorem dX4_candidate_49 : decode cX4_candidate 49 = .ok (.aload_n 0, 1) := by decide +kernel
theorem dX4_candidate_50 : decode cX4_candidate 50 = .ok (.getfield 19, 3) := by decide +kernel
theorem dX4_candidate_53 : decode cX4_candidate 53 = .ok (.iload_n 1, 1) := by decide +kernel
theorem dX4_candidate_54 : decode cX4_candidate 54 = .ok (.invokevirtual 123, 3) := by decide +kernel
theorem dX4_candidate_57 : decode cX4_candidate 57 = .ok (.ireturn, 1) := by decide +kernel
theorem dX4_candidate_58 : decode cX4_candidate 58 = .ok (.aload_n 0, 1) := by decide +kernel
theorem dX4_candidate_59 : decode cX4_candidate 59 = .ok (.getfield 19, 3) := by decide +kernel
theorem dX4_candidate_62 : decode cX4_candidate 62 = .ok (.iload_n 1, 1) := by decide +kernel
theorem dX4_candidate_63 : decode cX4_candidate 63 = .ok (.invokevirtual 111, 3) := by decide +kernel
theorem dX4_candidate_66 : decode cX4_candidate 66 = .ok (.ifCond .eq 7, 3) := by decide +kernel
theorem dX4_candidate_69 : decode cX4_candidate 69 = .ok (.iconst 1, 1) := by decide +kernel
theorem dX4_candidate_70 : decode cX4_candidate 70 = .ok (.goto 4, 3) := by decide +kernel
theorem dX4_candidate_73 : decode cX4_candidate 73 = .ok (.iconst 0, 1) := by decide +kernel
theorem dX4_candidate_74 : decode cX4_candidate 74 = .ok (.ireturn, 1) := by decide +kernel
theorem dX4_candidate_75 : decode cX4_candidate 75 = .ok (.aload_n 0, 1) := by decide +kernel
theorem dX4_candidate_76 : decode cX4_candidate 76 = .ok (.iload_n 1, 1) := by decide +kernel
theorem dX4_candidate_77 : decode cX4_candidate 77 = .ok (.invokevirtual 139, 3) := by decide +kernel
theorem dX4_candidate_80 : decode cX4_candidate 80 = .ok (.ireturn, 1) := by decide +kernel
theorem dX4_candidate_81 : decode cX4_candidate 81 = .ok (.iconst (-1), 1) := by decide +kernel
theorem dX4_candidate_82 : decode cX4_candidate 82 = .ok (.ireturn, 1) := by decide +kernel
set_option maxRecDepth 20000 in
theorem ggX4_vote_X4_isBallot : GoodIn wsX4_vote wsX4_isBallot := goodIn_r _ [7, 1, 75, 76, 77, 78, 79, 80, 81, 82, 83, 84, 85, 86] (by decide +kernel) (by decide +kernel)
set_option maxRecDepth 20000 in
theorem gX4_vote_X4_isBallot : GoodIn wsX4_vote (wsV RX4 95 RX4 yX4_isBallot wsX4_isBallot) := goodIn_app (goodIn_of _ (by decide +kernel)) ggX4_vote_X4_isBallot
set_option maxRecDepth 20000 in
theorem ggX4_vote_X1_hold : GoodIn wsX4_vote wsX1_hold := goodIn_r _ [11, 12, 13, 14, 15, 9, 16, 17, 18, 19, 20, 21, 22, 23, 24, 25, 26, 27, 28, 29, 30, 31, 32, 33, 34, 35, 36, 37, 38, 39, 40, 41, 6, 42, 43, 44, 45, 46, 47, 48, 49, 50, 51, 52, 53, 54, 55, 56, 57, 58, 59, 60, 61, 62, 63, 64, 65, 66, 67, 68, 69, 70, 71, 72, 73, 80, 81, 82, 83, 84, 85, 86, 87, 88, 89, 90, 91, 92, 93, 94, 95] (by decide +kernel) (by decide +kernel)
set_option maxRecDepth 20000 in
theorem gX4_vote_X1_hold_n142 : GoodIn wsX4_vote (wsX1_hold) := ggX4_vote_X1_hold
set_option maxRecDepth 20000 in
theorem ggX4_vote_J6_bitCount_0f7a4 : GoodIn wsX4_vote wsJ6_bitCount_0f7a4 := goodIn_r _ [54, 55, 56, 57] (by decide +kernel) (by decide +kernel)
set_option maxRecDepth 20000 in
theorem gX4_vote_J6_bitCount_0f7a4 : GoodIn wsX4_vote (va_wsS RX4 117 yJ6_bitCount_0f7a4 wsJ6_bitCount_0f7a4) := goodIn_app (goodIn_of _ (by decide +kernel)) ggX4_vote_J6_bitCount_0f7a4
theorem dX4_vote_0 : decode cX4_vote 0 = .ok (.aload_n 0, 1) := by decide +kernel
theorem dX4_vote_1 : decode cX4_vote 1 = .ok (.iload_n 1, 1) := by decide +kernel
theorem dX4_vote_2 : decode cX4_vote 2 = .ok (.invokevirtual 95, 3) := by decide +kernel
theorem dX4_vote_5 : decode cX4_vote 5 = .ok (.ifCond .eq 12, 3) := by decide +kernel
theorem dX4_vote_8 : decode cX4_vote 8 = .ok (.iload_n 2, 1) := by decide +kernel
theorem dX4_vote_9 : decode cX4_vote 9 = .ok (.ifCond .lt 8, 3) := by decide +kernel
theorem dX4_vote_12 : decode cX4_vote 12 = .ok (.iload_n 2, 1) := by decide +kernel
theorem dX4_vote_13 : decode cX4_vote 13 = .ok (.iconst 5, 1) := by decide +kernel
theorem dX4_vote_14 : decode cX4_vote 14 = .ok (.if_icmp .le 5, 3) := by decide +kernel
theorem dX4_vote_17 : decode cX4_vote 17 = .ok (.iconst (-1), 1) := by decide +kernel
theorem dX4_vote_18 : decode cX4_vote 18 = .ok (.ireturn, 1) := by decide +kernel
theorem dX4_vote_19 : decode cX4_vote 19 = .ok (.iload_n 2, 1) := by decide +kernel
theorem dX4_vote_20 : decode cX4_vote 20 = .ok (.ifCond .ne 13, 3) := by decide +kernel
theorem dX4_vote_23 : decode cX4_vote 23 = .ok (.aload_n 0, 1) := by decide +kernel
theorem dX4_vote_24 : decode cX4_vote 24 = .ok (.getfield 19, 3) := by decide +kernel
theorem dX4_vote_27 : decode cX4_vote 27 = .ok (.getfield 98, 3) := by decide +kernel
theorem dX4_vote_30 : decode cX4_vote 30 = .ok (.iload_n 1, 1) := by decide +kernel
theorem dX4_vote_31 : decode cX4_vote 31 = .ok (.iaload, 1) := by decide +kernel
theorem dX4_vote_32 : decode cX4_vote 32 = .ok (.ireturn, 1) := by decide +kernel
theorem dX4_vote_33 : decode cX4_vote 33 = .ok (.iload_n 2, 1) := by decide +kernel
theorem dX4_vote_34 : decode cX4_vote 34 = .ok (.iconst 1, 1) := by decide +kernel
theorem dX4_vote_35 : decode cX4_vote 35 = .ok (.if_icmp .ne 13, 3) := by decide +kernel
theorem dX4_vote_38 : decode cX4_vote 38 = .ok (.aload_n 0, 1) := by decide +kernel
theorem dX4_vote_39 : decode cX4_vote 39 = .ok (.getfield 19, 3) := by decide +kernel
theorem dX4_vote_42 : decode cX4_vote 42 = .ok (.getfield 102, 3) := by decide +kernel
theorem dX4_vote_45 : decode cX4_vote 45 = .ok (.iload_n 1, 1) := by decide +kernel
theorem dX4_vote_46 : decode cX4_vote 46 = .ok (.iaload, 1) := by decide +kernel
theorem dX4_vote_47 : decode cX4_vote 47 = .ok (.ireturn, 1) := by decide +kernel
theorem dX4_vote_48 : decode cX4_vote 48 = .ok (.aload_n 0, 1) := by decide +kernel
theorem dX4_vote_49 : decode cX4_vote 49 = .ok (.getfield 36, 3) := by decide +kernel
theorem dX4_vote_52 : decode cX4_vote 52 = .ok (.aload_n 0, 1) := by decide +kernel
theorem dX4_vote_53 : decode cX4_vote 53 = .ok (.getfield 19, 3) := by decide +kernel
theorem dX4_vote_56 : decode cX4_vote 56 = .ok (.iload_n 2, 1) := by decide +kernel
theorem dX4_vote_57 : decode cX4_vote 57 = .ok (.iconst 2, 1) := by decide +kernel
theorem dX4_vote_58 : decode cX4_vote 58 = .ok (.isub, 1) := by decide +kernel
theorem dX4_vote_59 : decode cX4_vote 59 = .ok (.invokevirtual 142, 3) := by decide +kernel
theorem dX4_vote_62 : decode cX4_vote 62 = .ok (.aload_n 0, 1) := by decide +kernel
theorem dX4_vote_63 : decode cX4_vote 63 = .ok (.getfield 19, 3) := by decide +kernel
theorem dX4_vote_66 : decode cX4_vote 66 = .ok (.getfield 102, 3) := by decide +kernel
theorem dX4_vote_69 : decode cX4_vote 69 = .ok (.iload_n 1, 1) := by decide +kernel
theorem dX4_vote_70 : decode cX4_vote 70 = .ok (.iaload, 1) := by decide +kernel
theorem dX4_vote_71 : decode cX4_vote 71 = .ok (.iand, 1) := by decide +kernel
theorem dX4_vote_72 : decode cX4_vote 72 = .ok (.invokestatic 117, 3) := by decide +kernel
theorem dX4_vote_75 : decode cX4_vote 75 = .ok (.ireturn, 1) := by decide +kernel
set_option maxRecDepth 20000 in
theorem ggX4_member_X4_isLaw : GoodIn wsX4_member wsX4_isLaw := goodIn_r _ [6] (by decide +kernel) (by decide +kernel)
set_option maxRecDepth 20000 in
theorem gX4_member_X4_isLaw : GoodIn wsX4_member (va_wsS RX4 146 yX4_isLaw wsX4_isLaw) := goodIn_app (goodIn_of _ (by decide +kernel)) ggX4_member_X4_isLaw
set_option maxRecDepth 20000 in
theorem ggX4_member_X1_hold : GoodIn wsX4_member wsX1_hold := goodIn_r _ [10, 11, 12, 13, 14, 8, 15, 16, 17, 18, 19, 20, 21, 22, 23, 24, 25, 26, 27, 28, 29, 30, 31, 32, 33, 34, 35, 36, 37, 38, 39, 40, 5, 41, 42, 43, 44, 45, 46, 47, 48, 49, 50, 51, 52, 53, 54, 55, 56, 57, 58, 59, 60, 61, 62, 63, 64, 65, 66, 67, 68, 69, 70, 71, 72, 87, 88, 89, 90, 91, 92, 93, 78, 79, 80, 81, 82, 83, 84, 85, 86] (by decide +kernel) (by decide +kernel)
set_option maxRecDepth 20000 in
theorem gX4_member_X1_hold_n142 : GoodIn wsX4_member (wsX1_hold) := ggX4_member_X1_hold
theorem dX4_member_0 : decode cX4_member 0 = .ok (.iload_n 1, 1) := by decide +kernel
theorem dX4_member_1 : decode cX4_member 1 = .ok (.invokestatic 146, 3) := by decide +kernel
theorem dX4_member_4 : decode cX4_member 4 = .ok (.ifCond .eq 8, 3) := by decide +kernel
theorem dX4_member_7 : decode cX4_member 7 = .ok (.iload_n 2, 1) := by decide +kernel
theorem dX4_member_8 : decode cX4_member 8 = .ok (.iconst (-1), 1) := by decide +kernel
theorem dX4_member_9 : decode cX4_member 9 = .ok (.if_icmp .ge 5, 3) := by decide +kernel
theorem dX4_member_12 : decode cX4_member 12 = .ok (.iconst (-1), 1) := by decide +kernel
theorem dX4_member_13 : decode cX4_member 13 = .ok (.ireturn, 1) := by decide +kernel
theorem dX4_member_14 : decode cX4_member 14 = .ok (.aload_n 0, 1) := by decide +kernel
theorem dX4_member_15 : decode cX4_member 15 = .ok (.getfield 36, 3) := by decide +kernel
theorem dX4_member_18 : decode cX4_member 18 = .ok (.aload_n 0, 1) := by decide +kernel
theorem dX4_member_19 : decode cX4_member 19 = .ok (.getfield 19, 3) := by decide +kernel
theorem dX4_member_22 : decode cX4_member 22 = .ok (.iload_n 1, 1) := by decide +kernel
theorem dX4_member_23 : decode cX4_member 23 = .ok (.invokevirtual 142, 3) := by decide +kernel
theorem dX4_member_26 : decode cX4_member 26 = .ok (.pop, 1) := by decide +kernel
theorem dX4_member_27 : decode cX4_member 27 = .ok (.iload_n 2, 1) := by decide +kernel
theorem dX4_member_28 : decode cX4_member 28 = .ok (.iconst (-1), 1) := by decide +kernel
theorem dX4_member_29 : decode cX4_member 29 = .ok (.if_icmp .ne 11, 3) := by decide +kernel
theorem dX4_member_32 : decode cX4_member 32 = .ok (.aload_n 0, 1) := by decide +kernel
theorem dX4_member_33 : decode cX4_member 33 = .ok (.getfield 36, 3) := by decide +kernel
theorem dX4_member_36 : decode cX4_member 36 = .ok (.getfield 149, 3) := by decide +kernel
theorem dX4_member_39 : decode cX4_member 39 = .ok (.ireturn, 1) := by decide +kernel
theorem dX4_member_40 : decode cX4_member 40 = .ok (.iload_n 2, 1) := by decide +kernel
theorem dX4_member_41 : decode cX4_member 41 = .ok (.aload_n 0, 1) := by decide +kernel
theorem dX4_member_42 : decode cX4_member 42 = .ok (.getfield 36, 3) := by decide +kernel
theorem dX4_member_45 : decode cX4_member 45 = .ok (.getfield 149, 3) := by decide +kernel
theorem dX4_member_48 : decode cX4_member 48 = .ok (.if_icmp .ge 15, 3) := by decide +kernel
theorem dX4_member_51 : decode cX4_member 51 = .ok (.aload_n 0, 1) := by decide +kernel
theorem dX4_member_52 : decode cX4_member 52 = .ok (.getfield 36, 3) := by decide +kernel
theorem dX4_member_55 : decode cX4_member 55 = .ok (.getfield 152, 3) := by decide +kernel
theorem dX4_member_58 : decode cX4_member 58 = .ok (.iload_n 2, 1) := by decide +kernel
theorem dX4_member_59 : decode cX4_member 59 = .ok (.iaload, 1) := by decide +kernel
theorem dX4_member_60 : decode cX4_member 60 = .ok (.goto 5, 3) := by decide +kernel
theorem dX4_member_63 : decode cX4_member 63 = .ok (.bipush (-4), 2) := by decide +kernel
theorem dX4_member_65 : decode cX4_member 65 = .ok (.ireturn, 1) := by decide +kernel
set_option maxRecDepth 20000 in
theorem ggX4_members_X4_isLaw : GoodIn wsX4_members wsX4_isLaw := goodIn_r _ [6] (by decide +kernel) (by decide +kernel)
set_option maxRecDepth 20000 in
theorem gX4_members_X4_isLaw : GoodIn wsX4_members (va_wsS RX4 146 yX4_isLaw wsX4_isLaw) := goodIn_app (goodIn_of _ (by decide +kernel)) ggX4_members_X4_isLaw
set_option maxRecDepth 20000 in
theorem ggX4_members_X1_hold : GoodIn wsX4_members wsX1_hold := goodIn_r _ [10, 11, 12, 13, 14, 8, 15, 16, 17, 18, 19, 20, 21, 22, 23, 24, 25, 26, 27, 28, 29, 30, 31, 32, 33, 34, 35, 36, 37, 38, 39, 40, 5, 41, 42, 43, 44, 45, 46, 47, 48, 49, 50, 51, 52, 53, 54, 55, 56, 57, 58, 59, 60, 61, 62, 63, 64, 65, 66, 67, 68, 69, 70, 71, 72, 78, 79, 80, 81, 82, 83, 84, 85, 86, 87, 88, 89, 90, 91, 92, 93] (by decide +kernel) (by decide +kernel)
set_option maxRecDepth 20000 in
theorem gX4_members_X1_hold_n142 : GoodIn wsX4_members (wsX1_hold) := ggX4_members_X1_hold
theorem dX4_members_0 : decode cX4_members 0 = .ok (.iload_n 1, 1) := by decide +kernel
theorem dX4_members_1 : decode cX4_members 1 = .ok (.invokestatic 146, 3) := by decide +kernel
theorem dX4_members_4 : decode cX4_members 4 = .ok (.ifCond .eq 18, 3) := by decide +kernel
theorem dX4_members_7 : decode cX4_members 7 = .ok (.aload_n 0, 1) := by decide +kernel
theorem dX4_members_8 : decode cX4_members 8 = .ok (.getfield 36, 3) := by decide +kernel
theorem dX4_members_11 : decode cX4_members 11 = .ok (.aload_n 0, 1) := by decide +kernel
theorem dX4_members_12 : decode cX4_members 12 = .ok (.getfield 19, 3) := by decide +kernel
theorem dX4_members_15 : decode cX4_members 15 = .ok (.iload_n 1, 1) := by decide +kernel
theorem dX4_members_16 : decode cX4_members 16 = .ok (.invokevirtual 142, 3) := by decide +kernel
theorem dX4_members_19 : decode cX4_members 19 = .ok (.goto 4, 3) := by decide +kernel
theorem dX4_members_22 : decode cX4_members 22 = .ok (.iconst (-1), 1) := by decide +kernel
theorem dX4_members_23 : decode cX4_members 23 = .ok (.ireturn, 1) := by decide +kernel
set_option maxRecDepth 20000 in
theorem ggX4_came_X4_isLaw : GoodIn wsX4_came wsX4_isLaw := goodIn_r _ [8] (by decide +kernel) (by decide +kernel)
set_option maxRecDepth 20000 in
theorem gX4_came_X4_isLaw : GoodIn wsX4_came (va_wsS RX4 146 yX4_isLaw wsX4_isLaw) := goodIn_app (goodIn_of _ (by decide +kernel)) ggX4_came_X4_isLaw
set_option maxRecDepth 20000 in
theorem ggX4_came_X4_isPart : GoodIn wsX4_came wsX4_isPart := goodIn_r _ [11] (by decide +kernel) (by decide +kernel)
set_option maxRecDepth 20000 in
theorem gX4_came_X4_isPart : GoodIn wsX4_came (va_wsS RX4 155 yX4_isPart wsX4_isPart) := goodIn_app (goodIn_of _ (by decide +kernel)) ggX4_came_X4_isPart
set_option maxRecDepth 20000 in
theorem ggX4_came_X1_hold : GoodIn wsX4_came wsX1_hold := goodIn_r _ [15, 16, 17, 18, 19, 13, 20, 21, 22, 23, 24, 25, 26, 27, 28, 29, 30, 31, 32, 33, 34, 35, 36, 37, 38, 39, 40, 41, 42, 43, 44, 45, 7, 46, 47, 48, 49, 50, 51, 52, 53, 54, 55, 56, 57, 58, 59, 60, 61, 62, 63, 64, 65, 66, 67, 68, 69, 70, 71, 72, 73, 74, 75, 76, 77, 102, 103, 104, 105, 106, 107, 108, 93, 94, 95, 96, 97, 98, 99, 100, 101] (by decide +kernel) (by decide +kernel)
set_option maxRecDepth 20000 in
theorem gX4_came_X1_hold_n142 : GoodIn wsX4_came (wsX1_hold) := ggX4_came_X1_hold
set_option maxRecDepth 20000 in
theorem ggX4_came_X4_partOf : GoodIn wsX4_came wsX4_partOf := goodIn_r _ [80, 81, 82, 83, 84, 85, 86, 7, 87] (by decide +kernel) (by decide +kernel)
set_option maxRecDepth 20000 in
theorem gX4_came_X4_partOf : GoodIn wsX4_came (va_wsS RX4 169 yX4_partOf wsX4_partOf) := goodIn_app (goodIn_of _ (by decide +kernel)) ggX4_came_X4_partOf
theorem dX4_came_0 : decode cX4_came 0 = .ok (.iload_n 1, 1) := by decide +kernel
theorem dX4_came_1 : decode cX4_came 1 = .ok (.invokestatic 146, 3) := by decide +kernel
theorem dX4_came_4 : decode cX4_came 4 = .ok (.ifCond .eq 14, 3) := by decide +kernel
theorem dX4_came_7 : decode cX4_came 7 = .ok (.iload_n 2, 1) := by decide +kernel
theorem dX4_came_8 : decode cX4_came 8 = .ok (.ifCond .lt 10, 3) := by decide +kernel
theorem dX4_came_11 : decode cX4_came 11 = .ok (.iload_n 3, 1) := by decide +kernel
theorem dX4_came_12 : decode cX4_came 12 = .ok (.invokestatic 155, 3) := by decide +kernel
theorem dX4_came_15 : decode cX4_came 15 = .ok (.ifCond .ne 7, 3) := by decide +kernel
theorem dX4_came_18 : decode cX4_came 18 = .ok (.ldc2_w 158, 3) := by decide +kernel
theorem dX4_came_21 : decode cX4_came 21 = .ok (.lreturn, 1) := by decide +kernel
theorem dX4_came_22 : decode cX4_came 22 = .ok (.aload_n 0, 1) := by decide +kernel
theorem dX4_came_23 : decode cX4_came 23 = .ok (.getfield 36, 3) := by decide +kernel
theorem dX4_came_26 : decode cX4_came 26 = .ok (.aload_n 0, 1) := by decide +kernel
theorem dX4_came_27 : decode cX4_came 27 = .ok (.getfield 19, 3) := by decide +kernel
theorem dX4_came_30 : decode cX4_came 30 = .ok (.iload_n 1, 1) := by decide +kernel
theorem dX4_came_31 : decode cX4_came 31 = .ok (.invokevirtual 142, 3) := by decide +kernel
theorem dX4_came_34 : decode cX4_came 34 = .ok (.pop, 1) := by decide +kernel
theorem dX4_came_35 : decode cX4_came 35 = .ok (.iload_n 2, 1) := by decide +kernel
theorem dX4_came_36 : decode cX4_came 36 = .ok (.aload_n 0, 1) := by decide +kernel
theorem dX4_came_37 : decode cX4_came 37 = .ok (.getfield 36, 3) := by decide +kernel
theorem dX4_came_40 : decode cX4_came 40 = .ok (.getfield 149, 3) := by decide +kernel
theorem dX4_came_43 : decode cX4_came 43 = .ok (.if_icmp .ge 17, 3) := by decide +kernel
theorem dX4_came_46 : decode cX4_came 46 = .ok (.aload_n 0, 1) := by decide +kernel
theorem dX4_came_47 : decode cX4_came 47 = .ok (.getfield 36, 3) := by decide +kernel
theorem dX4_came_50 : decode cX4_came 50 = .ok (.getfield 160, 3) := by decide +kernel
theorem dX4_came_53 : decode cX4_came 53 = .ok (.iload_n 2, 1) := by decide +kernel
theorem dX4_came_54 : decode cX4_came 54 = .ok (.laload, 1) := by decide +kernel
theorem dX4_came_55 : decode cX4_came 55 = .ok (.lconst 0, 1) := by decide +kernel
theorem dX4_came_56 : decode cX4_came 56 = .ok (.lcmp, 1) := by decide +kernel
theorem dX4_came_57 : decode cX4_came 57 = .ok (.ifCond .ne 7, 3) := by decide +kernel
theorem dX4_came_60 : decode cX4_came 60 = .ok (.ldc2_w 164, 3) := by decide +kernel
theorem dX4_came_63 : decode cX4_came 63 = .ok (.lreturn, 1) := by decide +kernel
theorem dX4_came_64 : decode cX4_came 64 = .ok (.aload_n 0, 1) := by decide +kernel
theorem dX4_came_65 : decode cX4_came 65 = .ok (.getfield 36, 3) := by decide +kernel
theorem dX4_came_68 : decode cX4_came 68 = .ok (.getfield 166, 3) := by decide +kernel
theorem dX4_came_71 : decode cX4_came 71 = .ok (.iload_n 2, 1) := by decide +kernel
theorem dX4_came_72 : decode cX4_came 72 = .ok (.laload, 1) := by decide +kernel
theorem dX4_came_73 : decode cX4_came 73 = .ok (.aload_n 0, 1) := by decide +kernel
theorem dX4_came_74 : decode cX4_came 74 = .ok (.getfield 36, 3) := by decide +kernel
theorem dX4_came_77 : decode cX4_came 77 = .ok (.getfield 160, 3) := by decide +kernel
theorem dX4_came_80 : decode cX4_came 80 = .ok (.iload_n 2, 1) := by decide +kernel
theorem dX4_came_81 : decode cX4_came 81 = .ok (.laload, 1) := by decide +kernel
theorem dX4_came_82 : decode cX4_came 82 = .ok (.iload_n 3, 1) := by decide +kernel
theorem dX4_came_83 : decode cX4_came 83 = .ok (.invokestatic 169, 3) := by decide +kernel
theorem dX4_came_86 : decode cX4_came 86 = .ok (.lreturn, 1) := by decide +kernel
set_option maxRecDepth 20000 in
theorem ggX4_load_X4_isBallot : GoodIn wsX4_load wsX4_isBallot := goodIn_r _ [8, 3, 88, 89, 90, 91, 92, 102, 103, 104, 105, 106, 107, 108] (by decide +kernel) (by decide +kernel)
set_option maxRecDepth 20000 in
theorem gX4_load_X4_isBallot : GoodIn wsX4_load (wsV RX4 95 RX4 yX4_isBallot wsX4_isBallot) := goodIn_app (goodIn_of _ (by decide +kernel)) ggX4_load_X4_isBallot
set_option maxRecDepth 20000 in
theorem ggX4_load_X4_isPart : GoodIn wsX4_load wsX4_isPart := goodIn_r _ [11] (by decide +kernel) (by decide +kernel)
set_option maxRecDepth 20000 in
theorem gX4_load_X4_isPart : GoodIn wsX4_load (va_wsS RX4 155 yX4_isPart wsX4_isPart) := goodIn_app (goodIn_of _ (by decide +kernel)) ggX4_load_X4_isPart
set_option maxRecDepth 20000 in
theorem ggX4_load_X1_hold : GoodIn wsX4_load wsX1_hold := goodIn_r _ [15, 16, 17, 18, 19, 13, 20, 21, 22, 23, 24, 25, 26, 27, 28, 29, 30, 31, 32, 33, 34, 35, 36, 37, 38, 39, 40, 41, 42, 43, 44, 45, 7, 46, 47, 48, 49, 50, 51, 52, 53, 54, 55, 56, 57, 58, 59, 60, 61, 62, 63, 64, 65, 66, 67, 68, 69, 70, 71, 72, 73, 74, 75, 76, 77, 102, 103, 104, 105, 106, 107, 108, 93, 94, 95, 96, 97, 98, 99, 100, 101] (by decide +kernel) (by decide +kernel)
set_option maxRecDepth 20000 in
theorem gX4_load_X1_hold_n142 : GoodIn wsX4_load (wsX1_hold) := ggX4_load_X1_hold
set_option maxRecDepth 20000 in
theorem ggX4_load_X4_partOf : GoodIn wsX4_load wsX4_partOf := goodIn_r _ [80, 81, 82, 83, 84, 85, 86, 7, 87] (by decide +kernel) (by decide +kernel)
set_option maxRecDepth 20000 in
theorem gX4_load_X4_partOf : GoodIn wsX4_load (va_wsS RX4 169 yX4_partOf wsX4_partOf) := goodIn_app (goodIn_of _ (by decide +kernel)) ggX4_load_X4_partOf
theorem dX4_load_0 : decode cX4_load 0 = .ok (.aload_n 0, 1) := by decide +kernel
theorem dX4_load_1 : decode cX4_load 1 = .ok (.iload_n 1, 1) := by decide +kernel
theorem dX4_load_2 : decode cX4_load 2 = .ok (.invokevirtual 95, 3) := by decide +kernel
theorem dX4_load_5 : decode cX4_load 5 = .ok (.ifCond .eq 10, 3) := by decide +kernel
theorem dX4_load_8 : decode cX4_load 8 = .ok (.iload_n 2, 1) := by decide +kernel
theorem dX4_load_9 : decode cX4_load 9 = .ok (.invokestatic 155, 3) := by decide +kernel
theorem dX4_load_12 : decode cX4_load 12 = .ok (.ifCond .ne 7, 3) := by decide +kernel
theorem dX4_load_15 : decode cX4_load 15 = .ok (.ldc2_w 158, 3) := by decide +kernel
theorem dX4_load_18 : decode cX4_load 18 = .ok (.lreturn, 1) := by decide +kernel
theorem dX4_load_19 : decode cX4_load 19 = .ok (.aload_n 0, 1) := by decide +kernel
theorem dX4_load_20 : decode cX4_load 20 = .ok (.getfield 36, 3) := by decide +kernel
theorem dX4_load_23 : decode cX4_load 23 = .ok (.aload_n 0, 1) := by decide +kernel
theorem dX4_load_24 : decode cX4_load 24 = .ok (.getfield 19, 3) := by decide +kernel
theorem dX4_load_27 : decode cX4_load 27 = .ok (.iconst 0, 1) := by decide +kernel
theorem dX4_load_28 : decode cX4_load 28 = .ok (.invokevirtual 142, 3) := by decide +kernel
theorem dX4_load_31 : decode cX4_load 31 = .ok (.pop, 1) := by decide +kernel
theorem dX4_load_32 : decode cX4_load 32 = .ok (.aload_n 0, 1) := by decide +kernel
theorem dX4_load_33 : decode cX4_load 33 = .ok (.getfield 36, 3) := by decide +kernel
theorem dX4_load_36 : decode cX4_load 36 = .ok (.getfield 173, 3) := by decide +kernel
theorem dX4_load_39 : decode cX4_load 39 = .ok (.iload_n 1, 1) := by decide +kernel
theorem dX4_load_40 : decode cX4_load 40 = .ok (.laload, 1) := by decide +kernel
theorem dX4_load_41 : decode cX4_load 41 = .ok (.aload_n 0, 1) := by decide +kernel
theorem dX4_load_42 : decode cX4_load 42 = .ok (.getfield 36, 3) := by decide +kernel
theorem dX4_load_45 : decode cX4_load 45 = .ok (.getfield 176, 3) := by decide +kernel
theorem dX4_load_48 : decode cX4_load 48 = .ok (.iload_n 2, 1) := by decide +kernel
theorem dX4_load_49 : decode cX4_load 49 = .ok (.invokestatic 169, 3) := by decide +kernel
theorem dX4_load_52 : decode cX4_load 52 = .ok (.lreturn, 1) := by decide +kernel
set_option maxRecDepth 20000 in
theorem ggX4_greatest_X4_isPart : GoodIn wsX4_greatest wsX4_isPart := goodIn_r _ [11] (by decide +kernel) (by decide +kernel)
set_option maxRecDepth 20000 in
theorem gX4_greatest_X4_isPart : GoodIn wsX4_greatest (va_wsS RX4 155 yX4_isPart wsX4_isPart) := goodIn_app (goodIn_of _ (by decide +kernel)) ggX4_greatest_X4_isPart
set_option maxRecDepth 20000 in
theorem ggX4_greatest_X1_hold : GoodIn wsX4_greatest wsX1_hold := goodIn_r _ [15, 16, 17, 18, 19, 13, 20, 21, 22, 23, 24, 25, 26, 27, 28, 29, 30, 31, 32, 33, 34, 35, 36, 37, 38, 39, 40, 41, 42, 43, 44, 45, 10, 46, 47, 48, 49, 50, 51, 52, 53, 54, 55, 56, 57, 58, 59, 60, 61, 62, 63, 64, 65, 66, 67, 68, 69, 70, 71, 72, 73, 74, 75, 76, 77, 89, 90, 91, 92, 93, 94, 95, 96, 97, 98, 99, 100, 101, 102, 103, 104] (by decide +kernel) (by decide +kernel)
set_option maxRecDepth 20000 in
theorem gX4_greatest_X1_hold_n142 : GoodIn wsX4_greatest (wsX1_hold) := ggX4_greatest_X1_hold
set_option maxRecDepth 20000 in
theorem ggX4_greatest_X4_partOf : GoodIn wsX4_greatest wsX4_partOf := goodIn_r _ [80, 4, 5, 6, 7, 81, 82, 10, 83] (by decide +kernel) (by decide +kernel)
set_option maxRecDepth 20000 in
theorem gX4_greatest_X4_partOf : GoodIn wsX4_greatest (va_wsS RX4 169 yX4_partOf wsX4_partOf) := goodIn_app (goodIn_of _ (by decide +kernel)) ggX4_greatest_X4_partOf
theorem dX4_greatest_0 : decode cX4_greatest 0 = .ok (.iload_n 1, 1) := by decide +kernel
theorem dX4_greatest_1 : decode cX4_greatest 1 = .ok (.invokestatic 155, 3) := by decide +kernel
theorem dX4_greatest_4 : decode cX4_greatest 4 = .ok (.ifCond .ne 7, 3) := by decide +kernel
theorem dX4_greatest_7 : decode cX4_greatest 7 = .ok (.ldc2_w 158, 3) := by decide +kernel
theorem dX4_greatest_10 : decode cX4_greatest 10 = .ok (.lreturn, 1) := by decide +kernel
theorem dX4_greatest_11 : decode cX4_greatest 11 = .ok (.aload_n 0, 1) := by decide +kernel
theorem dX4_greatest_12 : decode cX4_greatest 12 = .ok (.getfield 36, 3) := by decide +kernel
theorem dX4_greatest_15 : decode cX4_greatest 15 = .ok (.aload_n 0, 1) := by decide +kernel
theorem dX4_greatest_16 : decode cX4_greatest 16 = .ok (.getfield 19, 3) := by decide +kernel
theorem dX4_greatest_19 : decode cX4_greatest 19 = .ok (.iconst 0, 1) := by decide +kernel
theorem dX4_greatest_20 : decode cX4_greatest 20 = .ok (.invokevirtual 142, 3) := by decide +kernel
theorem dX4_greatest_23 : decode cX4_greatest 23 = .ok (.pop, 1) := by decide +kernel
theorem dX4_greatest_24 : decode cX4_greatest 24 = .ok (.lconst 0, 1) := by decide +kernel
theorem dX4_greatest_25 : decode cX4_greatest 25 = .ok (.lstore_n 2, 1) := by decide +kernel
theorem dX4_greatest_26 : decode cX4_greatest 26 = .ok (.iconst 0, 1) := by decide +kernel
theorem dX4_greatest_27 : decode cX4_greatest 27 = .ok (.istore 4, 2) := by decide +kernel
theorem dX4_greatest_29 : decode cX4_greatest 29 = .ok (.iload 4, 2) := by decide +kernel
theorem dX4_greatest_31 : decode cX4_greatest 31 = .ok (.aload_n 0, 1) := by decide +kernel
theorem dX4_greatest_32 : decode cX4_greatest 32 = .ok (.getfield 19, 3) := by decide +kernel
theorem dX4_greatest_35 : decode cX4_greatest 35 = .ok (.getfield 82, 3) := by decide +kernel
theorem dX4_greatest_38 : decode cX4_greatest 38 = .ok (.if_icmp .ge 24, 3) := by decide +kernel
theorem dX4_greatest_41 : decode cX4_greatest 41 = .ok (.lload_n 2, 1) := by decide +kernel
theorem dX4_greatest_42 : decode cX4_greatest 42 = .ok (.aload_n 0, 1) := by decide +kernel
theorem dX4_greatest_43 : decode cX4_greatest 43 = .ok (.getfield 36, 3) := by decide +kernel
theorem dX4_greatest_46 : decode cX4_greatest 46 = .ok (.getfield 173, 3) := by decide +kernel
theorem dX4_greatest_49 : decode cX4_greatest 49 = .ok (.iload 4, 2) := by decide +kernel
theorem dX4_greatest_51 : decode cX4_greatest 51 = .ok (.laload, 1) := by decide +kernel
theorem dX4_greatest_52 : decode cX4_greatest 52 = .ok (.invokestatic 180, 3) := by decide +kernel
theorem dX4_greatest_55 : decode cX4_greatest 55 = .ok (.lstore_n 2, 1) := by decide +kernel
theorem dX4_greatest_56 : decode cX4_greatest 56 = .ok (.iinc 4 1, 3) := by decide +kernel
theorem dX4_greatest_59 : decode cX4_greatest 59 = .ok (.goto (-30), 3) := by decide +kernel
theorem dX4_greatest_62 : decode cX4_greatest 62 = .ok (.lload_n 2, 1) := by decide +kernel
theorem dX4_greatest_63 : decode cX4_greatest 63 = .ok (.aload_n 0, 1) := by decide +kernel
theorem dX4_greatest_64 : decode cX4_greatest 64 = .ok (.getfield 36, 3) := by decide +kernel
theorem dX4_greatest_67 : decode cX4_greatest 67 = .ok (.getfield 176, 3) := by decide +kernel
theorem dX4_greatest_70 : decode cX4_greatest 70 = .ok (.iload_n 1, 1) := by decide +kernel
theorem dX4_greatest_71 : decode cX4_greatest 71 = .ok (.invokestatic 169, 3) := by decide +kernel
theorem dX4_greatest_74 : decode cX4_greatest 74 = .ok (.lreturn, 1) := by decide +kernel
set_option maxRecDepth 20000 in
theorem ggX4_agrees_X4_isSet : GoodIn wsX4_agrees wsX4_isSet := goodIn_r _ [7, 1, 87, 88, 89, 90, 91, 92, 93, 94, 95, 96, 97, 98] (by decide +kernel) (by decide +kernel)
set_option maxRecDepth 20000 in
theorem gX4_agrees_X4_isSet : GoodIn wsX4_agrees (wsV RX4 79 RX4 yX4_isSet wsX4_isSet) := goodIn_app (goodIn_of _ (by decide +kernel)) ggX4_agrees_X4_isSet
set_option maxRecDepth 20000 in
theorem ggX4_agrees_X0_votersWhoAgree : GoodIn wsX4_agrees wsX0_votersWhoAgree := goodIn_r _ [11, 12, 13, 14, 15, 16, 9, 17, 18, 92, 93, 94, 95, 96, 97, 98] (by decide +kernel) (by decide +kernel)
set_option maxRecDepth 20000 in
theorem gX4_agrees_X0_votersWhoAgree_n186 : GoodIn wsX4_agrees (wsX0_votersWhoAgree) := ggX4_agrees_X0_votersWhoAgree
set_option maxRecDepth 20000 in
theorem ggX4_agrees_X0_isOwed : GoodIn wsX4_agrees wsX0_isOwed := goodIn_r _ [21, 22, 23, 8, 10, 9, 11, 12, 13, 14, 15, 16, 17, 18, 24, 25, 26, 27, 28, 29, 30, 31, 32, 33, 34, 92, 93, 94, 95, 96, 97, 98] (by decide +kernel) (by decide +kernel)
set_option maxRecDepth 20000 in
theorem gX4_agrees_X0_isOwed_n189 : GoodIn wsX4_agrees (wsX0_isOwed) := ggX4_agrees_X0_isOwed
set_option maxRecDepth 20000 in
theorem ggX4_agrees_X1_hold : GoodIn wsX4_agrees wsX1_hold := goodIn_r _ [38, 39, 40, 41, 42, 36, 43, 44, 45, 46, 47, 48, 9, 49, 50, 23, 8, 10, 11, 12, 13, 14, 15, 16, 17, 18, 51, 52, 53, 54, 55, 56, 6, 57, 58, 59, 60, 61, 62, 63, 64, 65, 66, 25, 26, 27, 28, 29, 30, 67, 68, 69, 70, 71, 72, 73, 74, 75, 76, 77, 78, 79, 80, 81, 82, 92, 93, 94, 95, 96, 97, 98, 99, 100, 101, 102, 103, 104, 105, 106, 107] (by decide +kernel) (by decide +kernel)
set_option maxRecDepth 20000 in
theorem gX4_agrees_X1_hold_n142 : GoodIn wsX4_agrees (wsX1_hold) := ggX4_agrees_X1_hold
set_option maxRecDepth 20000 in
theorem ggX4_agrees_X0_approvedByThoseWhoAgree : GoodIn wsX4_agrees wsX0_approvedByThoseWhoAgree := goodIn_r _ [85, 12, 18, 14, 15, 16, 9, 17, 92, 93, 94, 95, 96, 97, 98] (by decide +kernel) (by decide +kernel)
set_option maxRecDepth 20000 in
theorem gX4_agrees_X0_approvedByThoseWhoAgree_n192 : GoodIn wsX4_agrees (wsX0_approvedByThoseWhoAgree) := ggX4_agrees_X0_approvedByThoseWhoAgree
set_option maxRecDepth 20000 in
theorem ggX4_agrees_J6_bitCount_0f7a4 : GoodIn wsX4_agrees wsJ6_bitCount_0f7a4 := goodIn_r _ [27, 28, 29, 30] (by decide +kernel) (by decide +kernel)
set_option maxRecDepth 20000 in
theorem gX4_agrees_J6_bitCount_0f7a4 : GoodIn wsX4_agrees (va_wsS RX4 117 yJ6_bitCount_0f7a4 wsJ6_bitCount_0f7a4) := goodIn_app (goodIn_of _ (by decide +kernel)) ggX4_agrees_J6_bitCount_0f7a4
theorem dX4_agrees_0 : decode cX4_agrees 0 = .ok (.aload_n 0, 1) := by decide +kernel
theorem dX4_agrees_1 : decode cX4_agrees 1 = .ok (.iload_n 1, 1) := by decide +kernel
theorem dX4_agrees_2 : decode cX4_agrees 2 = .ok (.invokevirtual 79, 3) := by decide +kernel
theorem dX4_agrees_5 : decode cX4_agrees 5 = .ok (.ifCond .eq 12, 3) := by decide +kernel
theorem dX4_agrees_8 : decode cX4_agrees 8 = .ok (.iload_n 2, 1) := by decide +kernel
theorem dX4_agrees_9 : decode cX4_agrees 9 = .ok (.ifCond .lt 8, 3) := by decide +kernel
theorem dX4_agrees_12 : decode cX4_agrees 12 = .ok (.iload_n 2, 1) := by decide +kernel
theorem dX4_agrees_13 : decode cX4_agrees 13 = .ok (.iconst 5, 1) := by decide +kernel
theorem dX4_agrees_14 : decode cX4_agrees 14 = .ok (.if_icmp .le 5, 3) := by decide +kernel
theorem dX4_agrees_17 : decode cX4_agrees 17 = .ok (.iconst (-1), 1) := by decide +kernel
theorem dX4_agrees_18 : decode cX4_agrees 18 = .ok (.ireturn, 1) := by decide +kernel
theorem dX4_agrees_19 : decode cX4_agrees 19 = .ok (.iload_n 2, 1) := by decide +kernel
theorem dX4_agrees_20 : decode cX4_agrees 20 = .ok (.ifCond .ne 12, 3) := by decide +kernel
theorem dX4_agrees_23 : decode cX4_agrees 23 = .ok (.aload_n 0, 1) := by decide +kernel
theorem dX4_agrees_24 : decode cX4_agrees 24 = .ok (.getfield 19, 3) := by decide +kernel
theorem dX4_agrees_27 : decode cX4_agrees 27 = .ok (.iload_n 1, 1) := by decide +kernel
theorem dX4_agrees_28 : decode cX4_agrees 28 = .ok (.invokevirtual 186, 3) := by decide +kernel
theorem dX4_agrees_31 : decode cX4_agrees 31 = .ok (.ireturn, 1) := by decide +kernel
theorem dX4_agrees_32 : decode cX4_agrees 32 = .ok (.iload_n 2, 1) := by decide +kernel
theorem dX4_agrees_33 : decode cX4_agrees 33 = .ok (.iconst 1, 1) := by decide +kernel
theorem dX4_agrees_34 : decode cX4_agrees 34 = .ok (.if_icmp .ne 20, 3) := by decide +kernel
theorem dX4_agrees_37 : decode cX4_agrees 37 = .ok (.aload_n 0, 1) := by decide +kernel
theorem dX4_agrees_38 : decode cX4_agrees 38 = .ok (.getfield 19, 3) := by decide +kernel
theorem dX4_agrees_41 : decode cX4_agrees 41 = .ok (.iload_n 1, 1) := by decide +kernel
theorem dX4_agrees_42 : decode cX4_agrees 42 = .ok (.invokevirtual 189, 3) := by decide +kernel
theorem dX4_agrees_45 : decode cX4_agrees 45 = .ok (.ifCond .eq 7, 3) := by decide +kernel
theorem dX4_agrees_48 : decode cX4_agrees 48 = .ok (.iconst 1, 1) := by decide +kernel
theorem dX4_agrees_49 : decode cX4_agrees 49 = .ok (.goto 4, 3) := by decide +kernel
theorem dX4_agrees_52 : decode cX4_agrees 52 = .ok (.iconst 0, 1) := by decide +kernel
theorem dX4_agrees_53 : decode cX4_agrees 53 = .ok (.ireturn, 1) := by decide +kernel
theorem dX4_agrees_54 : decode cX4_agrees 54 = .ok (.aload_n 0, 1) := by decide +kernel
theorem dX4_agrees_55 : decode cX4_agrees 55 = .ok (.getfield 36, 3) := by decide +kernel
theorem dX4_agrees_58 : decode cX4_agrees 58 = .ok (.aload_n 0, 1) := by decide +kernel
theorem dX4_agrees_59 : decode cX4_agrees 59 = .ok (.getfield 19, 3) := by decide +kernel
theorem dX4_agrees_62 : decode cX4_agrees 62 = .ok (.iload_n 2, 1) := by decide +kernel
theorem dX4_agrees_63 : decode cX4_agrees 63 = .ok (.iconst 2, 1) := by decide +kernel
theorem dX4_agrees_64 : decode cX4_agrees 64 = .ok (.isub, 1) := by decide +kernel
theorem dX4_agrees_65 : decode cX4_agrees 65 = .ok (.invokevirtual 142, 3) := by decide +kernel
theorem dX4_agrees_68 : decode cX4_agrees 68 = .ok (.aload_n 0, 1) := by decide +kernel
theorem dX4_agrees_69 : decode cX4_agrees 69 = .ok (.getfield 19, 3) := by decide +kernel
theorem dX4_agrees_72 : decode cX4_agrees 72 = .ok (.iload_n 1, 1) := by decide +kernel
theorem dX4_agrees_73 : decode cX4_agrees 73 = .ok (.invokevirtual 192, 3) := by decide +kernel
theorem dX4_agrees_76 : decode cX4_agrees 76 = .ok (.iand, 1) := by decide +kernel
theorem dX4_agrees_77 : decode cX4_agrees 77 = .ok (.invokestatic 117, 3) := by decide +kernel
theorem dX4_agrees_80 : decode cX4_agrees 80 = .ok (.ireturn, 1) := by decide +kernel
set_option maxRecDepth 20000 in
theorem ggX4_shorts_X4_isLaw : GoodIn wsX4_shorts wsX4_isLaw := goodIn_r _ [6] (by decide +kernel) (by decide +kernel)
set_option maxRecDepth 20000 in
theorem gX4_shorts_X4_isLaw : GoodIn wsX4_shorts (va_wsS RX4 146 yX4_isLaw wsX4_isLaw) := goodIn_app (goodIn_of _ (by decide +kernel)) ggX4_shorts_X4_isLaw
set_option maxRecDepth 20000 in
theorem ggX4_shorts_X1_hold : GoodIn wsX4_shorts wsX1_hold := goodIn_r _ [10, 11, 12, 13, 14, 8, 15, 16, 17, 18, 19, 20, 21, 22, 23, 24, 25, 26, 27, 28, 29, 30, 31, 32, 33, 34, 35, 36, 37, 38, 39, 40, 5, 41, 42, 43, 44, 45, 46, 47, 48, 49, 50, 51, 52, 53, 54, 55, 56, 57, 58, 59, 60, 61, 62, 63, 64, 65, 66, 67, 68, 69, 70, 71, 72, 95, 96, 97, 98, 99, 100, 101, 102, 103, 104, 105, 106, 107, 108, 109, 110] (by decide +kernel) (by decide +kernel)
set_option maxRecDepth 20000 in
theorem gX4_shorts_X1_hold_n142 : GoodIn wsX4_shorts (wsX1_hold) := ggX4_shorts_X1_hold
set_option maxRecDepth 20000 in
theorem ggX4_shorts_X0_isShort : GoodIn wsX4_shorts wsX0_isShort := goodIn_r _ [75, 76, 77, 78, 21, 79, 80, 24, 25, 26, 27, 28, 29, 30, 31, 32, 33, 34, 81, 51, 52, 53, 54, 55, 56, 82, 83, 84, 85, 86, 87, 88, 89, 95, 96, 97, 98, 99, 100, 101] (by decide +kernel) (by decide +kernel)
set_option maxRecDepth 20000 in
theorem gX4_shorts_X0_isShort_n195 : GoodIn wsX4_shorts (wsX0_isShort) := ggX4_shorts_X0_isShort
theorem dX4_shorts_0 : decode cX4_shorts 0 = .ok (.iload_n 1, 1) := by decide +kernel
theorem dX4_shorts_1 : decode cX4_shorts 1 = .ok (.invokestatic 146, 3) := by decide +kernel
theorem dX4_shorts_4 : decode cX4_shorts 4 = .ok (.ifCond .eq 8, 3) := by decide +kernel
theorem dX4_shorts_7 : decode cX4_shorts 7 = .ok (.iload_n 2, 1) := by decide +kernel
theorem dX4_shorts_8 : decode cX4_shorts 8 = .ok (.iconst (-1), 1) := by decide +kernel
theorem dX4_shorts_9 : decode cX4_shorts 9 = .ok (.if_icmp .ge 5, 3) := by decide +kernel
theorem dX4_shorts_12 : decode cX4_shorts 12 = .ok (.iconst (-1), 1) := by decide +kernel
theorem dX4_shorts_13 : decode cX4_shorts 13 = .ok (.ireturn, 1) := by decide +kernel
theorem dX4_shorts_14 : decode cX4_shorts 14 = .ok (.aload_n 0, 1) := by decide +kernel
theorem dX4_shorts_15 : decode cX4_shorts 15 = .ok (.getfield 36, 3) := by decide +kernel
theorem dX4_shorts_18 : decode cX4_shorts 18 = .ok (.aload_n 0, 1) := by decide +kernel
theorem dX4_shorts_19 : decode cX4_shorts 19 = .ok (.getfield 19, 3) := by decide +kernel
theorem dX4_shorts_22 : decode cX4_shorts 22 = .ok (.iload_n 1, 1) := by decide +kernel
theorem dX4_shorts_23 : decode cX4_shorts 23 = .ok (.invokevirtual 142, 3) := by decide +kernel
theorem dX4_shorts_26 : decode cX4_shorts 26 = .ok (.istore_n 3, 1) := by decide +kernel
theorem dX4_shorts_27 : decode cX4_shorts 27 = .ok (.iconst 0, 1) := by decide +kernel
theorem dX4_shorts_28 : decode cX4_shorts 28 = .ok (.istore 4, 2) := by decide +kernel
theorem dX4_shorts_30 : decode cX4_shorts 30 = .ok (.iconst 1, 1) := by decide +kernel
theorem dX4_shorts_31 : decode cX4_shorts 31 = .ok (.istore 5, 2) := by decide +kernel
theorem dX4_shorts_33 : decode cX4_shorts 33 = .ok (.iload 5, 2) := by decide +kernel
theorem dX4_shorts_35 : decode cX4_shorts 35 = .ok (.iconst 1, 1) := by decide +kernel
theorem dX4_shorts_36 : decode cX4_shorts 36 = .ok (.aload_n 0, 1) := by decide +kernel
theorem dX4_shorts_37 : decode cX4_shorts 37 = .ok (.getfield 19, 3) := by decide +kernel
theorem dX4_shorts_40 : decode cX4_shorts 40 = .ok (.getfield 66, 3) := by decide +kernel
theorem dX4_shorts_43 : decode cX4_shorts 43 = .ok (.ishl, 1) := by decide +kernel
theorem dX4_shorts_44 : decode cX4_shorts 44 = .ok (.if_icmp .ge 34, 3) := by decide +kernel
theorem dX4_shorts_47 : decode cX4_shorts 47 = .ok (.aload_n 0, 1) := by decide +kernel
theorem dX4_shorts_48 : decode cX4_shorts 48 = .ok (.getfield 19, 3) := by decide +kernel
theorem dX4_shorts_51 : decode cX4_shorts 51 = .ok (.iload 5, 2) := by decide +kernel
theorem dX4_shorts_53 : decode cX4_shorts 53 = .ok (.iload_n 3, 1) := by decide +kernel
theorem dX4_shorts_54 : decode cX4_shorts 54 = .ok (.invokevirtual 195, 3) := by decide +kernel
theorem dX4_shorts_57 : decode cX4_shorts 57 = .ok (.ifCond .eq 15, 3) := by decide +kernel
theorem dX4_shorts_60 : decode cX4_shorts 60 = .ok (.iload 4, 2) := by decide +kernel
theorem dX4_shorts_62 : decode cX4_shorts 62 = .ok (.iload_n 2, 1) := by decide +kernel
theorem dX4_shorts_63 : decode cX4_shorts 63 = .ok (.if_icmp .ne 6, 3) := by decide +kernel
theorem dX4_shorts_66 : decode cX4_shorts 66 = .ok (.iload 5, 2) := by decide +kernel
theorem dX4_shorts_68 : decode cX4_shorts 68 = .ok (.ireturn, 1) := by decide +kernel
theorem dX4_shorts_69 : decode cX4_shorts 69 = .ok (.iinc 4 1, 3) := by decide +kernel
theorem dX4_shorts_72 : decode cX4_shorts 72 = .ok (.iinc 5 1, 3) := by decide +kernel
theorem dX4_shorts_75 : decode cX4_shorts 75 = .ok (.goto (-42), 3) := by decide +kernel
theorem dX4_shorts_78 : decode cX4_shorts 78 = .ok (.iload_n 2, 1) := by decide +kernel
theorem dX4_shorts_79 : decode cX4_shorts 79 = .ok (.iconst (-1), 1) := by decide +kernel
theorem dX4_shorts_80 : decode cX4_shorts 80 = .ok (.if_icmp .ne 8, 3) := by decide +kernel
theorem dX4_shorts_83 : decode cX4_shorts 83 = .ok (.iload 4, 2) := by decide +kernel
theorem dX4_shorts_85 : decode cX4_shorts 85 = .ok (.goto 5, 3) := by decide +kernel
theorem dX4_shorts_88 : decode cX4_shorts 88 = .ok (.bipush (-4), 2) := by decide +kernel
theorem dX4_shorts_90 : decode cX4_shorts 90 = .ok (.ireturn, 1) := by decide +kernel
set_option maxRecDepth 20000 in
theorem ggX4_joins_X4_isLaw : GoodIn wsX4_joins wsX4_isLaw := goodIn_r _ [7] (by decide +kernel) (by decide +kernel)
set_option maxRecDepth 20000 in
theorem gX4_joins_X4_isLaw : GoodIn wsX4_joins (va_wsS RX4 146 yX4_isLaw wsX4_isLaw) := goodIn_app (goodIn_of _ (by decide +kernel)) ggX4_joins_X4_isLaw
set_option maxRecDepth 20000 in
theorem ggX4_joins_X4_isCandidate : GoodIn wsX4_joins wsX4_isCandidate := goodIn_r _ [11, 1, 96, 97, 98, 99, 100, 101, 102, 103, 104, 105, 106, 107] (by decide +kernel) (by decide +kernel)
set_option maxRecDepth 20000 in
theorem gX4_joins_X4_isCandidate : GoodIn wsX4_joins (wsV RX4 108 RX4 yX4_isCandidate wsX4_isCandidate) := goodIn_app (goodIn_of _ (by decide +kernel)) ggX4_joins_X4_isCandidate
set_option maxRecDepth 20000 in
theorem ggX4_joins_X0_isWithdrawn : GoodIn wsX4_joins wsX0_isWithdrawn := goodIn_r _ [15, 16, 17, 6, 18, 101, 102, 103, 104, 105, 106, 107] (by decide +kernel) (by decide +kernel)
set_option maxRecDepth 20000 in
theorem gX4_joins_X0_isWithdrawn_n111 : GoodIn wsX4_joins (wsX0_isWithdrawn) := ggX4_joins_X0_isWithdrawn
set_option maxRecDepth 20000 in
theorem ggX4_joins_X0_copyFrom : GoodIn wsX4_joins wsX0_copyFrom := goodIn_r _ [21, 22, 23, 24, 16, 25, 26, 27, 28, 29, 30, 31, 101, 102, 103, 104, 105, 106, 107] (by decide +kernel) (by decide +kernel)
set_option maxRecDepth 20000 in
theorem gX4_joins_X0_copyFrom_n69 : GoodIn wsX4_joins (wsX0_copyFrom) := ggX4_joins_X0_copyFrom
set_option maxRecDepth 20000 in
theorem ggX4_joins_X0_addBallot : GoodIn wsX4_joins wsX0_addBallot := goodIn_r _ [34, 23, 25, 30, 101, 102, 103, 104, 105, 106, 107] (by decide +kernel) (by decide +kernel)
set_option maxRecDepth 20000 in
theorem gX4_joins_X0_addBallot_n91 : GoodIn wsX4_joins (wsX0_addBallot) := ggX4_joins_X0_addBallot
set_option maxRecDepth 20000 in
theorem ggX4_joins_X1_hold : GoodIn wsX4_joins wsX1_hold := goodIn_r _ [38, 39, 40, 41, 42, 36, 43, 44, 45, 46, 47, 48, 13, 49, 50, 51, 52, 53, 54, 23, 25, 55, 56, 57, 58, 30, 59, 60, 61, 62, 63, 17, 6, 18, 64, 65, 66, 67, 68, 69, 70, 71, 72, 73, 74, 75, 76, 77, 78, 79, 80, 81, 82, 83, 84, 85, 86, 87, 88, 89, 90, 91, 92, 93, 94, 101, 102, 103, 104, 105, 106, 107, 108, 109, 110, 111, 112, 113, 114, 115, 116] (by decide +kernel) (by decide +kernel)
set_option maxRecDepth 20000 in
theorem gX4_joins_X1_hold_n142 : GoodIn wsX4_joins (wsX1_hold) := ggX4_joins_X1_hold
set_option maxRecDepth 20000 in
theorem ggX4_joins_X4_hasBit : GoodIn wsX4_joins wsX4_hasBit := goodIn_r _ [18] (by decide +kernel) (by decide +kernel)
set_option maxRecDepth 20000 in
theorem gX4_joins_X4_hasBit : GoodIn wsX4_joins (va_wsS RX4 199 yX4_hasBit wsX4_hasBit) := goodIn_app (goodIn_of _ (by decide +kernel)) ggX4_joins_X4_hasBit
theorem dX4_joins_0 : decode cX4_joins 0 = .ok (.iload_n 1, 1) := by decide +kernel
theorem dX4_joins_1 : decode cX4_joins 1 = .ok (.invokestatic 146, 3) := by decide +kernel
theorem dX4_joins_4 : decode cX4_joins 4 = .ok (.ifCond .eq 11, 3) := by decide +kernel
theorem dX4_joins_7 : decode cX4_joins 7 = .ok (.aload_n 0, 1) := by decide +kernel
theorem dX4_joins_8 : decode cX4_joins 8 = .ok (.iload_n 2, 1) := by decide +kernel
theorem dX4_joins_9 : decode cX4_joins 9 = .ok (.invokevirtual 108, 3) := by decide +kernel
theorem dX4_joins_12 : decode cX4_joins 12 = .ok (.ifCond .ne 5, 3) := by decide +kernel
theorem dX4_joins_15 : decode cX4_joins 15 = .ok (.iconst (-1), 1) := by decide +kernel
theorem dX4_joins_16 : decode cX4_joins 16 = .ok (.ireturn, 1) := by decide +kernel
theorem dX4_joins_17 : decode cX4_joins 17 = .ok (.aload_n 0, 1) := by decide +kernel
theorem dX4_joins_18 : decode cX4_joins 18 = .ok (.getfield 19, 3) := by decide +kernel
theorem dX4_joins_21 : decode cX4_joins 21 = .ok (.iload_n 2, 1) := by decide +kernel
theorem dX4_joins_22 : decode cX4_joins 22 = .ok (.invokevirtual 111, 3) := by decide +kernel
theorem dX4_joins_25 : decode cX4_joins 25 = .ok (.ifCond .eq 6, 3) := by decide +kernel
theorem dX4_joins_28 : decode cX4_joins 28 = .ok (.bipush (-2), 2) := by decide +kernel
theorem dX4_joins_30 : decode cX4_joins 30 = .ok (.ireturn, 1) := by decide +kernel
theorem dX4_joins_31 : decode cX4_joins 31 = .ok (.aload_n 0, 1) := by decide +kernel
theorem dX4_joins_32 : decode cX4_joins 32 = .ok (.getfield 23, 3) := by decide +kernel
theorem dX4_joins_35 : decode cX4_joins 35 = .ok (.aload_n 0, 1) := by decide +kernel
theorem dX4_joins_36 : decode cX4_joins 36 = .ok (.getfield 19, 3) := by decide +kernel
theorem dX4_joins_39 : decode cX4_joins 39 = .ok (.invokevirtual 69, 3) := by decide +kernel
theorem dX4_joins_42 : decode cX4_joins 42 = .ok (.aload_n 0, 1) := by decide +kernel
theorem dX4_joins_43 : decode cX4_joins 43 = .ok (.getfield 23, 3) := by decide +kernel
theorem dX4_joins_46 : decode cX4_joins 46 = .ok (.iconst 0, 1) := by decide +kernel
theorem dX4_joins_47 : decode cX4_joins 47 = .ok (.iconst 1, 1) := by decide +kernel
theorem dX4_joins_48 : decode cX4_joins 48 = .ok (.iload_n 2, 1) := by decide +kernel
theorem dX4_joins_49 : decode cX4_joins 49 = .ok (.ishl, 1) := by decide +kernel
theorem dX4_joins_50 : decode cX4_joins 50 = .ok (.invokevirtual 91, 3) := by decide +kernel
theorem dX4_joins_53 : decode cX4_joins 53 = .ok (.iconst 0, 1) := by decide +kernel
theorem dX4_joins_54 : decode cX4_joins 54 = .ok (.istore_n 3, 1) := by decide +kernel
theorem dX4_joins_55 : decode cX4_joins 55 = .ok (.iload_n 3, 1) := by decide +kernel
theorem dX4_joins_56 : decode cX4_joins 56 = .ok (.bipush 20, 2) := by decide +kernel
theorem dX4_joins_58 : decode cX4_joins 58 = .ok (.if_icmp .gt 46, 3) := by decide +kernel
theorem dX4_joins_61 : decode cX4_joins 61 = .ok (.aload_n 0, 1) := by decide +kernel
theorem dX4_joins_62 : decode cX4_joins 62 = .ok (.getfield 23, 3) := by decide +kernel
theorem dX4_joins_65 : decode cX4_joins 65 = .ok (.getfield 98, 3) := by decide +kernel
theorem dX4_joins_68 : decode cX4_joins 68 = .ok (.aload_n 0, 1) := by decide +kernel
theorem dX4_joins_69 : decode cX4_joins 69 = .ok (.getfield 19, 3) := by decide +kernel
theorem dX4_joins_72 : decode cX4_joins 72 = .ok (.getfield 82, 3) := by decide +kernel
theorem dX4_joins_75 : decode cX4_joins 75 = .ok (.iload_n 3, 1) := by decide +kernel
theorem dX4_joins_76 : decode cX4_joins 76 = .ok (.iastore, 1) := by decide +kernel
theorem dX4_joins_77 : decode cX4_joins 77 = .ok (.aload_n 0, 1) := by decide +kernel
theorem dX4_joins_78 : decode cX4_joins 78 = .ok (.getfield 36, 3) := by decide +kernel
theorem dX4_joins_81 : decode cX4_joins 81 = .ok (.aload_n 0, 1) := by decide +kernel
theorem dX4_joins_82 : decode cX4_joins 82 = .ok (.getfield 23, 3) := by decide +kernel
theorem dX4_joins_85 : decode cX4_joins 85 = .ok (.iload_n 1, 1) := by decide +kernel
theorem dX4_joins_86 : decode cX4_joins 86 = .ok (.invokevirtual 142, 3) := by decide +kernel
theorem dX4_joins_89 : decode cX4_joins 89 = .ok (.iload_n 2, 1) := by decide +kernel
theorem dX4_joins_90 : decode cX4_joins 90 = .ok (.invokestatic 199, 3) := by decide +kernel
theorem dX4_joins_93 : decode cX4_joins 93 = .ok (.ifCond .eq 5, 3) := by decide +kernel
theorem dX4_joins_96 : decode cX4_joins 96 = .ok (.iload_n 3, 1) := by decide +kernel
theorem dX4_joins_97 : decode cX4_joins 97 = .ok (.ireturn, 1) := by decide +kernel
theorem dX4_joins_98 : decode cX4_joins 98 = .ok (.iinc 3 1, 3) := by decide +kernel
theorem dX4_joins_101 : decode cX4_joins 101 = .ok (.goto (-46), 3) := by decide +kernel
theorem dX4_joins_104 : decode cX4_joins 104 = .ok (.bipush (-4), 2) := by decide +kernel
theorem dX4_joins_106 : decode cX4_joins 106 = .ok (.ireturn, 1) := by decide +kernel
set_option maxRecDepth 20000 in
theorem ggX4_matters_X4_isLaw : GoodIn wsX4_matters wsX4_isLaw := goodIn_r _ [7] (by decide +kernel) (by decide +kernel)
set_option maxRecDepth 20000 in
theorem gX4_matters_X4_isLaw : GoodIn wsX4_matters (va_wsS RX4 146 yX4_isLaw wsX4_isLaw) := goodIn_app (goodIn_of _ (by decide +kernel)) ggX4_matters_X4_isLaw
set_option maxRecDepth 20000 in
theorem ggX4_matters_X1_hold : GoodIn wsX4_matters wsX1_hold := goodIn_r _ [11, 12, 13, 14, 15, 9, 16, 17, 18, 19, 20, 21, 22, 23, 24, 25, 26, 27, 28, 29, 30, 31, 32, 33, 34, 35, 36, 37, 38, 39, 40, 41, 6, 42, 43, 44, 45, 46, 47, 48, 49, 50, 51, 52, 53, 54, 55, 56, 57, 58, 59, 60, 61, 62, 63, 64, 65, 66, 67, 68, 69, 70, 71, 72, 73, 90, 91, 92, 93, 94, 95, 96, 97, 98, 99, 100, 101, 102, 103, 104, 105] (by decide +kernel) (by decide +kernel)
set_option maxRecDepth 20000 in
theorem gX4_matters_X1_hold_n142 : GoodIn wsX4_matters (wsX1_hold) := ggX4_matters_X1_hold
set_option maxRecDepth 20000 in
theorem ggX4_matters_X0_copyFrom : GoodIn wsX4_matters wsX0_copyFrom := goodIn_r _ [76, 77, 29, 78, 79, 30, 80, 81, 82, 83, 35, 84, 90, 91, 92, 93, 94, 95, 96] (by decide +kernel) (by decide +kernel)
set_option maxRecDepth 20000 in
theorem gX4_matters_X0_copyFrom_n69 : GoodIn wsX4_matters (wsX0_copyFrom) := ggX4_matters_X0_copyFrom
theorem dX4_matters_0 : decode cX4_matters 0 = .ok (.iload_n 1, 1) := by decide +kernel
theorem dX4_matters_1 : decode cX4_matters 1 = .ok (.invokestatic 146, 3) := by decide +kernel
theorem dX4_matters_4 : decode cX4_matters 4 = .ok (.ifCond .ne 5, 3) := by decide +kernel
theorem dX4_matters_7 : decode cX4_matters 7 = .ok (.iconst (-1), 1) := by decide +kernel
theorem dX4_matters_8 : decode cX4_matters 8 = .ok (.ireturn, 1) := by decide +kernel
theorem dX4_matters_9 : decode cX4_matters 9 = .ok (.aload_n 0, 1) := by decide +kernel
theorem dX4_matters_10 : decode cX4_matters 10 = .ok (.getfield 36, 3) := by decide +kernel
theorem dX4_matters_13 : decode cX4_matters 13 = .ok (.aload_n 0, 1) := by decide +kernel
theorem dX4_matters_14 : decode cX4_matters 14 = .ok (.getfield 19, 3) := by decide +kernel
theorem dX4_matters_17 : decode cX4_matters 17 = .ok (.iload_n 1, 1) := by decide +kernel
theorem dX4_matters_18 : decode cX4_matters 18 = .ok (.invokevirtual 142, 3) := by decide +kernel
theorem dX4_matters_21 : decode cX4_matters 21 = .ok (.istore_n 2, 1) := by decide +kernel
theorem dX4_matters_22 : decode cX4_matters 22 = .ok (.iconst 0, 1) := by decide +kernel
theorem dX4_matters_23 : decode cX4_matters 23 = .ok (.istore_n 3, 1) := by decide +kernel
theorem dX4_matters_24 : decode cX4_matters 24 = .ok (.aload_n 0, 1) := by decide +kernel
theorem dX4_matters_25 : decode cX4_matters 25 = .ok (.getfield 23, 3) := by decide +kernel
theorem dX4_matters_28 : decode cX4_matters 28 = .ok (.aload_n 0, 1) := by decide +kernel
theorem dX4_matters_29 : decode cX4_matters 29 = .ok (.getfield 19, 3) := by decide +kernel
theorem dX4_matters_32 : decode cX4_matters 32 = .ok (.invokevirtual 69, 3) := by decide +kernel
theorem dX4_matters_35 : decode cX4_matters 35 = .ok (.iconst 0, 1) := by decide +kernel
theorem dX4_matters_36 : decode cX4_matters 36 = .ok (.istore 4, 2) := by decide +kernel
theorem dX4_matters_38 : decode cX4_matters 38 = .ok (.iload 4, 2) := by decide +kernel
theorem dX4_matters_40 : decode cX4_matters 40 = .ok (.aload_n 0, 1) := by decide +kernel
theorem dX4_matters_41 : decode cX4_matters 41 = .ok (.getfield 19, 3) := by decide +kernel
theorem dX4_matters_44 : decode cX4_matters 44 = .ok (.getfield 82, 3) := by decide +kernel
theorem dX4_matters_47 : decode cX4_matters 47 = .ok (.if_icmp .ge 74, 3) := by decide +kernel
theorem dX4_matters_50 : decode cX4_matters 50 = .ok (.aload_n 0, 1) := by decide +kernel
theorem dX4_matters_51 : decode cX4_matters 51 = .ok (.getfield 23, 3) := by decide +kernel
theorem dX4_matters_54 : decode cX4_matters 54 = .ok (.getfield 98, 3) := by decide +kernel
theorem dX4_matters_57 : decode cX4_matters 57 = .ok (.iload 4, 2) := by decide +kernel
theorem dX4_matters_59 : decode cX4_matters 59 = .ok (.aload_n 0, 1) := by decide +kernel
theorem dX4_matters_60 : decode cX4_matters 60 = .ok (.getfield 19, 3) := by decide +kernel
theorem dX4_matters_63 : decode cX4_matters 63 = .ok (.getfield 98, 3) := by decide +kernel
theorem dX4_matters_66 : decode cX4_matters 66 = .ok (.iload 4, 2) := by decide +kernel
theorem dX4_matters_68 : decode cX4_matters 68 = .ok (.iaload, 1) := by decide +kernel
theorem dX4_matters_69 : decode cX4_matters 69 = .ok (.iconst 1, 1) := by decide +kernel
theorem dX4_matters_70 : decode cX4_matters 70 = .ok (.isub, 1) := by decide +kernel
theorem dX4_matters_71 : decode cX4_matters 71 = .ok (.iastore, 1) := by decide +kernel
theorem dX4_matters_72 : decode cX4_matters 72 = .ok (.aload_n 0, 1) := by decide +kernel
theorem dX4_matters_73 : decode cX4_matters 73 = .ok (.getfield 36, 3) := by decide +kernel
theorem dX4_matters_76 : decode cX4_matters 76 = .ok (.aload_n 0, 1) := by decide +kernel
theorem dX4_matters_77 : decode cX4_matters 77 = .ok (.getfield 23, 3) := by decide +kernel
theorem dX4_matters_80 : decode cX4_matters 80 = .ok (.iload_n 1, 1) := by decide +kernel
theorem dX4_matters_81 : decode cX4_matters 81 = .ok (.invokevirtual 142, 3) := by decide +kernel
theorem dX4_matters_84 : decode cX4_matters 84 = .ok (.iload_n 2, 1) := by decide +kernel
theorem dX4_matters_85 : decode cX4_matters 85 = .ok (.if_icmp .eq 10, 3) := by decide +kernel
theorem dX4_matters_88 : decode cX4_matters 88 = .ok (.iload_n 3, 1) := by decide +kernel
theorem dX4_matters_89 : decode cX4_matters 89 = .ok (.iconst 1, 1) := by decide +kernel
theorem dX4_matters_90 : decode cX4_matters 90 = .ok (.iload 4, 2) := by decide +kernel
theorem dX4_matters_92 : decode cX4_matters 92 = .ok (.ishl, 1) := by decide +kernel
theorem dX4_matters_93 : decode cX4_matters 93 = .ok (.ior, 1) := by decide +kernel
theorem dX4_matters_94 : decode cX4_matters 94 = .ok (.istore_n 3, 1) := by decide +kernel
theorem dX4_matters_95 : decode cX4_matters 95 = .ok (.aload_n 0, 1) := by decide +kernel
theorem dX4_matters_96 : decode cX4_matters 96 = .ok (.getfield 23, 3) := by decide +kernel
theorem dX4_matters_99 : decode cX4_matters 99 = .ok (.getfield 98, 3) := by decide +kernel
theorem dX4_matters_102 : decode cX4_matters 102 = .ok (.iload 4, 2) := by decide +kernel
theorem dX4_matters_104 : decode cX4_matters 104 = .ok (.aload_n 0, 1) := by decide +kernel
theorem dX4_matters_105 : decode cX4_matters 105 = .ok (.getfield 19, 3) := by decide +kernel
theorem dX4_matters_108 : decode cX4_matters 108 = .ok (.getfield 98, 3) := by decide +kernel
theorem dX4_matters_111 : decode cX4_matters 111 = .ok (.iload 4, 2) := by decide +kernel
theorem dX4_matters_113 : decode cX4_matters 113 = .ok (.iaload, 1) := by decide +kernel
theorem dX4_matters_114 : decode cX4_matters 114 = .ok (.iastore, 1) := by decide +kernel
theorem dX4_matters_115 : decode cX4_matters 115 = .ok (.iinc 4 1, 3) := by decide +kernel
theorem dX4_matters_118 : decode cX4_matters 118 = .ok (.goto (-80), 3) := by decide +kernel
theorem dX4_matters_121 : decode cX4_matters 121 = .ok (.iload_n 3, 1) := by decide +kernel
theorem dX4_matters_122 : decode cX4_matters 122 = .ok (.ireturn, 1) := by decide +kernel
set_option maxRecDepth 20000 in
theorem ggX4_rather_X4_isLaw : GoodIn wsX4_rather wsX4_isLaw := goodIn_r _ [7] (by decide +kernel) (by decide +kernel)
set_option maxRecDepth 20000 in
theorem gX4_rather_X4_isLaw : GoodIn wsX4_rather (va_wsS RX4 146 yX4_isLaw wsX4_isLaw) := goodIn_app (goodIn_of _ (by decide +kernel)) ggX4_rather_X4_isLaw
set_option maxRecDepth 20000 in
theorem ggX4_rather_X4_isBallot : GoodIn wsX4_rather wsX4_isBallot := goodIn_r _ [11, 1, 90, 91, 92, 93, 94, 95, 96, 97, 98, 99, 100, 101] (by decide +kernel) (by decide +kernel)
set_option maxRecDepth 20000 in
theorem gX4_rather_X4_isBallot : GoodIn wsX4_rather (wsV RX4 95 RX4 yX4_isBallot wsX4_isBallot) := goodIn_app (goodIn_of _ (by decide +kernel)) ggX4_rather_X4_isBallot
set_option maxRecDepth 20000 in
theorem ggX4_rather_X1_hold : GoodIn wsX4_rather wsX1_hold := goodIn_r _ [15, 16, 17, 18, 19, 13, 20, 21, 22, 23, 24, 25, 26, 27, 28, 29, 30, 31, 32, 33, 34, 35, 36, 37, 38, 39, 40, 41, 42, 43, 44, 45, 6, 46, 47, 48, 49, 50, 51, 52, 53, 54, 55, 56, 57, 58, 59, 60, 61, 62, 63, 64, 65, 66, 67, 68, 69, 70, 71, 72, 73, 74, 75, 76, 77, 95, 96, 97, 98, 99, 100, 101, 102, 103, 104, 105, 106, 107, 108, 109, 110] (by decide +kernel) (by decide +kernel)
set_option maxRecDepth 20000 in
theorem gX4_rather_X1_hold_n142 : GoodIn wsX4_rather (wsX1_hold) := ggX4_rather_X1_hold
set_option maxRecDepth 20000 in
theorem ggX4_rather_J6_bitCount_0f7a4 : GoodIn wsX4_rather wsJ6_bitCount_0f7a4 := goodIn_r _ [58, 59, 60, 61] (by decide +kernel) (by decide +kernel)
set_option maxRecDepth 20000 in
theorem gX4_rather_J6_bitCount_0f7a4 : GoodIn wsX4_rather (va_wsS RX4 117 yJ6_bitCount_0f7a4 wsJ6_bitCount_0f7a4) := goodIn_app (goodIn_of _ (by decide +kernel)) ggX4_rather_J6_bitCount_0f7a4
set_option maxRecDepth 20000 in
theorem ggX4_rather_X0_copyFrom : GoodIn wsX4_rather wsX0_copyFrom := goodIn_r _ [81, 82, 33, 83, 84, 34, 85, 86, 87, 88, 39, 89, 95, 96, 97, 98, 99, 100, 101] (by decide +kernel) (by decide +kernel)
set_option maxRecDepth 20000 in
theorem gX4_rather_X0_copyFrom_n69 : GoodIn wsX4_rather (wsX0_copyFrom) := ggX4_rather_X0_copyFrom
theorem dX4_rather_0 : decode cX4_rather 0 = .ok (.iload_n 1, 1) := by decide +kernel
theorem dX4_rather_1 : decode cX4_rather 1 = .ok (.invokestatic 146, 3) := by decide +kernel
theorem dX4_rather_4 : decode cX4_rather 4 = .ok (.ifCond .eq 20, 3) := by decide +kernel
theorem dX4_rather_7 : decode cX4_rather 7 = .ok (.aload_n 0, 1) := by decide +kernel
theorem dX4_rather_8 : decode cX4_rather 8 = .ok (.iload_n 2, 1) := by decide +kernel
theorem dX4_rather_9 : decode cX4_rather 9 = .ok (.invokevirtual 95, 3) := by decide +kernel
theorem dX4_rather_12 : decode cX4_rather 12 = .ok (.ifCond .eq 12, 3) := by decide +kernel
theorem dX4_rather_15 : decode cX4_rather 15 = .ok (.iload_n 3, 1) := by decide +kernel
theorem dX4_rather_16 : decode cX4_rather 16 = .ok (.ifCond .lt 8, 3) := by decide +kernel
theorem dX4_rather_19 : decode cX4_rather 19 = .ok (.iload_n 3, 1) := by decide +kernel
theorem dX4_rather_20 : decode cX4_rather 20 = .ok (.iconst 1, 1) := by decide +kernel
theorem dX4_rather_21 : decode cX4_rather 21 = .ok (.if_icmp .le 5, 3) := by decide +kernel
theorem dX4_rather_24 : decode cX4_rather 24 = .ok (.iconst (-1), 1) := by decide +kernel
theorem dX4_rather_25 : decode cX4_rather 25 = .ok (.ireturn, 1) := by decide +kernel
theorem dX4_rather_26 : decode cX4_rather 26 = .ok (.aload_n 0, 1) := by decide +kernel
theorem dX4_rather_27 : decode cX4_rather 27 = .ok (.getfield 19, 3) := by decide +kernel
theorem dX4_rather_30 : decode cX4_rather 30 = .ok (.getfield 102, 3) := by decide +kernel
theorem dX4_rather_33 : decode cX4_rather 33 = .ok (.iload_n 2, 1) := by decide +kernel
theorem dX4_rather_34 : decode cX4_rather 34 = .ok (.iaload, 1) := by decide +kernel
theorem dX4_rather_35 : decode cX4_rather 35 = .ok (.istore 4, 2) := by decide +kernel
theorem dX4_rather_37 : decode cX4_rather 37 = .ok (.aload_n 0, 1) := by decide +kernel
theorem dX4_rather_38 : decode cX4_rather 38 = .ok (.getfield 36, 3) := by decide +kernel
theorem dX4_rather_41 : decode cX4_rather 41 = .ok (.aload_n 0, 1) := by decide +kernel
theorem dX4_rather_42 : decode cX4_rather 42 = .ok (.getfield 19, 3) := by decide +kernel
theorem dX4_rather_45 : decode cX4_rather 45 = .ok (.iload_n 1, 1) := by decide +kernel
theorem dX4_rather_46 : decode cX4_rather 46 = .ok (.invokevirtual 142, 3) := by decide +kernel
theorem dX4_rather_49 : decode cX4_rather 49 = .ok (.iload 4, 2) := by decide +kernel
theorem dX4_rather_51 : decode cX4_rather 51 = .ok (.iand, 1) := by decide +kernel
theorem dX4_rather_52 : decode cX4_rather 52 = .ok (.invokestatic 117, 3) := by decide +kernel
theorem dX4_rather_55 : decode cX4_rather 55 = .ok (.istore 5, 2) := by decide +kernel
theorem dX4_rather_57 : decode cX4_rather 57 = .ok (.bipush (-4), 2) := by decide +kernel
theorem dX4_rather_59 : decode cX4_rather 59 = .ok (.istore 6, 2) := by decide +kernel
theorem dX4_rather_61 : decode cX4_rather 61 = .ok (.aload_n 0, 1) := by decide +kernel
theorem dX4_rather_62 : decode cX4_rather 62 = .ok (.getfield 23, 3) := by decide +kernel
theorem dX4_rather_65 : decode cX4_rather 65 = .ok (.aload_n 0, 1) := by decide +kernel
theorem dX4_rather_66 : decode cX4_rather 66 = .ok (.getfield 19, 3) := by decide +kernel
theorem dX4_rather_69 : decode cX4_rather 69 = .ok (.invokevirtual 69, 3) := by decide +kernel
theorem dX4_rather_72 : decode cX4_rather 72 = .ok (.iconst 1, 1) := by decide +kernel
theorem dX4_rather_73 : decode cX4_rather 73 = .ok (.istore 7, 2) := by decide +kernel
theorem dX4_rather_75 : decode cX4_rather 75 = .ok (.iload 7, 2) := by decide +kernel
theorem dX4_rather_77 : decode cX4_rather 77 = .ok (.iconst 1, 1) := by decide +kernel
theorem dX4_rather_78 : decode cX4_rather 78 = .ok (.aload_n 0, 1) := by decide +kernel
theorem dX4_rather_79 : decode cX4_rather 79 = .ok (.getfield 19, 3) := by decide +kernel
theorem dX4_rather_82 : decode cX4_rather 82 = .ok (.getfield 66, 3) := by decide +kernel
theorem dX4_rather_85 : decode cX4_rather 85 = .ok (.ishl, 1) := by decide +kernel
theorem dX4_rather_86 : decode cX4_rather 86 = .ok (.if_icmp .ge 55, 3) := by decide +kernel
theorem dX4_rather_89 : decode cX4_rather 89 = .ok (.aload_n 0, 1) := by decide +kernel
theorem dX4_rather_90 : decode cX4_rather 90 = .ok (.getfield 23, 3) := by decide +kernel
theorem dX4_rather_93 : decode cX4_rather 93 = .ok (.getfield 102, 3) := by decide +kernel
theorem dX4_rather_96 : decode cX4_rather 96 = .ok (.iload_n 2, 1) := by decide +kernel
theorem dX4_rather_97 : decode cX4_rather 97 = .ok (.iload 7, 2) := by decide +kernel
theorem dX4_rather_99 : decode cX4_rather 99 = .ok (.iastore, 1) := by decide +kernel
theorem dX4_rather_100 : decode cX4_rather 100 = .ok (.aload_n 0, 1) := by decide +kernel
theorem dX4_rather_101 : decode cX4_rather 101 = .ok (.getfield 36, 3) := by decide +kernel
theorem dX4_rather_104 : decode cX4_rather 104 = .ok (.aload_n 0, 1) := by decide +kernel
theorem dX4_rather_105 : decode cX4_rather 105 = .ok (.getfield 23, 3) := by decide +kernel
theorem dX4_rather_108 : decode cX4_rather 108 = .ok (.iload_n 1, 1) := by decide +kernel
theorem dX4_rather_109 : decode cX4_rather 109 = .ok (.invokevirtual 142, 3) := by decide +kernel
theorem dX4_rather_112 : decode cX4_rather 112 = .ok (.iload 4, 2) := by decide +kernel
theorem dX4_rather_114 : decode cX4_rather 114 = .ok (.iand, 1) := by decide +kernel
theorem dX4_rather_115 : decode cX4_rather 115 = .ok (.invokestatic 117, 3) := by decide +kernel
theorem dX4_rather_118 : decode cX4_rather 118 = .ok (.istore 8, 2) := by decide +kernel
theorem dX4_rather_120 : decode cX4_rather 120 = .ok (.iload 8, 2) := by decide +kernel
theorem dX4_rather_122 : decode cX4_rather 122 = .ok (.iload 5, 2) := by decide +kernel
theorem dX4_rather_124 : decode cX4_rather 124 = .ok (.if_icmp .le 11, 3) := by decide +kernel
theorem dX4_rather_127 : decode cX4_rather 127 = .ok (.iload 8, 2) := by decide +kernel
theorem dX4_rather_129 : decode cX4_rather 129 = .ok (.istore 5, 2) := by decide +kernel
theorem dX4_rather_131 : decode cX4_rather 131 = .ok (.iload 7, 2) := by decide +kernel
theorem dX4_rather_133 : decode cX4_rather 133 = .ok (.istore 6, 2) := by decide +kernel
theorem dX4_rather_135 : decode cX4_rather 135 = .ok (.iinc 7 1, 3) := by decide +kernel
theorem dX4_rather_138 : decode cX4_rather 138 = .ok (.goto (-63), 3) := by decide +kernel
theorem dX4_rather_141 : decode cX4_rather 141 = .ok (.iload 6, 2) := by decide +kernel
theorem dX4_rather_143 : decode cX4_rather 143 = .ok (.bipush (-4), 2) := by decide +kernel
theorem dX4_rather_145 : decode cX4_rather 145 = .ok (.if_icmp .eq 7, 3) := by decide +kernel
theorem dX4_rather_148 : decode cX4_rather 148 = .ok (.iload_n 3, 1) := by decide +kernel
theorem dX4_rather_149 : decode cX4_rather 149 = .ok (.ifCond .ne 8, 3) := by decide +kernel
theorem dX4_rather_152 : decode cX4_rather 152 = .ok (.iload 6, 2) := by decide +kernel
theorem dX4_rather_154 : decode cX4_rather 154 = .ok (.goto 5, 3) := by decide +kernel
theorem dX4_rather_157 : decode cX4_rather 157 = .ok (.iload 5, 2) := by decide +kernel
theorem dX4_rather_159 : decode cX4_rather 159 = .ok (.ireturn, 1) := by decide +kernel
set_option maxRecDepth 20000 in
theorem ggX4_decided_X4_isLaw : GoodIn wsX4_decided wsX4_isLaw := goodIn_r _ [7] (by decide +kernel) (by decide +kernel)
set_option maxRecDepth 20000 in
theorem gX4_decided_X4_isLaw : GoodIn wsX4_decided (va_wsS RX4 146 yX4_isLaw wsX4_isLaw) := goodIn_app (goodIn_of _ (by decide +kernel)) ggX4_decided_X4_isLaw
set_option maxRecDepth 20000 in
theorem ggX4_decided_X1_hold : GoodIn wsX4_decided wsX1_hold := goodIn_r _ [11, 12, 13, 14, 15, 9, 16, 17, 18, 19, 20, 21, 22, 23, 24, 25, 26, 27, 28, 29, 30, 31, 32, 33, 34, 35, 36, 37, 38, 39, 40, 41, 6, 42, 43, 44, 45, 46, 47, 48, 49, 50, 51, 52, 53, 54, 55, 56, 57, 58, 59, 60, 61, 62, 63, 64, 65, 66, 67, 68, 69, 70, 71, 72, 73, 93, 94, 95, 96, 97, 98, 99, 100, 101, 102, 103, 104, 105, 106, 107, 108] (by decide +kernel) (by decide +kernel)
set_option maxRecDepth 20000 in
theorem gX4_decided_X1_hold_n142 : GoodIn wsX4_decided (wsX1_hold) := ggX4_decided_X1_hold
set_option maxRecDepth 20000 in
theorem ggX4_decided_X0_copyFrom : GoodIn wsX4_decided wsX0_copyFrom := goodIn_r _ [76, 77, 29, 78, 79, 30, 80, 81, 82, 83, 35, 84, 93, 94, 95, 96, 97, 98, 99] (by decide +kernel) (by decide +kernel)
set_option maxRecDepth 20000 in
theorem gX4_decided_X0_copyFrom_n69 : GoodIn wsX4_decided (wsX0_copyFrom) := ggX4_decided_X0_copyFrom
set_option maxRecDepth 20000 in
theorem ggX4_decided_X0_turnRankRound : GoodIn wsX4_decided wsX0_turnRankRound := goodIn_r _ [87, 77, 84, 93, 94, 95, 96, 97, 98, 99] (by decide +kernel) (by decide +kernel)
set_option maxRecDepth 20000 in
theorem gX4_decided_X0_turnRankRound_n202 : GoodIn wsX4_decided (wsX0_turnRankRound) := ggX4_decided_X0_turnRankRound
theorem dX4_decided_0 : decode cX4_decided 0 = .ok (.iload_n 1, 1) := by decide +kernel
theorem dX4_decided_1 : decode cX4_decided 1 = .ok (.invokestatic 146, 3) := by decide +kernel
theorem dX4_decided_4 : decode cX4_decided 4 = .ok (.ifCond .ne 5, 3) := by decide +kernel
theorem dX4_decided_7 : decode cX4_decided 7 = .ok (.iconst (-1), 1) := by decide +kernel
theorem dX4_decided_8 : decode cX4_decided 8 = .ok (.ireturn, 1) := by decide +kernel
theorem dX4_decided_9 : decode cX4_decided 9 = .ok (.aload_n 0, 1) := by decide +kernel
theorem dX4_decided_10 : decode cX4_decided 10 = .ok (.getfield 36, 3) := by decide +kernel
theorem dX4_decided_13 : decode cX4_decided 13 = .ok (.aload_n 0, 1) := by decide +kernel
theorem dX4_decided_14 : decode cX4_decided 14 = .ok (.getfield 19, 3) := by decide +kernel
theorem dX4_decided_17 : decode cX4_decided 17 = .ok (.iload_n 1, 1) := by decide +kernel
theorem dX4_decided_18 : decode cX4_decided 18 = .ok (.invokevirtual 142, 3) := by decide +kernel
theorem dX4_decided_21 : decode cX4_decided 21 = .ok (.istore_n 2, 1) := by decide +kernel
theorem dX4_decided_22 : decode cX4_decided 22 = .ok (.aload_n 0, 1) := by decide +kernel
theorem dX4_decided_23 : decode cX4_decided 23 = .ok (.getfield 23, 3) := by decide +kernel
theorem dX4_decided_26 : decode cX4_decided 26 = .ok (.aload_n 0, 1) := by decide +kernel
theorem dX4_decided_27 : decode cX4_decided 27 = .ok (.getfield 19, 3) := by decide +kernel
theorem dX4_decided_30 : decode cX4_decided 30 = .ok (.invokevirtual 69, 3) := by decide +kernel
theorem dX4_decided_33 : decode cX4_decided 33 = .ok (.aload_n 0, 1) := by decide +kernel
theorem dX4_decided_34 : decode cX4_decided 34 = .ok (.getfield 23, 3) := by decide +kernel
theorem dX4_decided_37 : decode cX4_decided 37 = .ok (.invokevirtual 202, 3) := by decide +kernel
theorem dX4_decided_40 : decode cX4_decided 40 = .ok (.aload_n 0, 1) := by decide +kernel
theorem dX4_decided_41 : decode cX4_decided 41 = .ok (.getfield 36, 3) := by decide +kernel
theorem dX4_decided_44 : decode cX4_decided 44 = .ok (.aload_n 0, 1) := by decide +kernel
theorem dX4_decided_45 : decode cX4_decided 45 = .ok (.getfield 23, 3) := by decide +kernel
theorem dX4_decided_48 : decode cX4_decided 48 = .ok (.iload_n 1, 1) := by decide +kernel
theorem dX4_decided_49 : decode cX4_decided 49 = .ok (.invokevirtual 142, 3) := by decide +kernel
theorem dX4_decided_52 : decode cX4_decided 52 = .ok (.iload_n 2, 1) := by decide +kernel
theorem dX4_decided_53 : decode cX4_decided 53 = .ok (.if_icmp .eq 7, 3) := by decide +kernel
theorem dX4_decided_56 : decode cX4_decided 56 = .ok (.iconst 1, 1) := by decide +kernel
theorem dX4_decided_57 : decode cX4_decided 57 = .ok (.goto 4, 3) := by decide +kernel
theorem dX4_decided_60 : decode cX4_decided 60 = .ok (.iconst 0, 1) := by decide +kernel
theorem dX4_decided_61 : decode cX4_decided 61 = .ok (.ireturn, 1) := by decide +kernel
set_option maxRecDepth 20000 in
theorem ggX4_both_X4_isLaw : GoodIn wsX4_both wsX4_isLaw := goodIn_r _ [6] (by decide +kernel) (by decide +kernel)
set_option maxRecDepth 20000 in
theorem gX4_both_X4_isLaw : GoodIn wsX4_both (va_wsS RX4 146 yX4_isLaw wsX4_isLaw) := goodIn_app (goodIn_of _ (by decide +kernel)) ggX4_both_X4_isLaw
set_option maxRecDepth 20000 in
theorem ggX4_both_X1_hold : GoodIn wsX4_both wsX1_hold := goodIn_r _ [10, 11, 12, 13, 14, 8, 15, 16, 17, 18, 19, 20, 21, 22, 23, 24, 25, 26, 27, 28, 29, 30, 31, 32, 33, 34, 35, 36, 37, 38, 39, 40, 5, 41, 42, 43, 44, 45, 46, 47, 48, 49, 50, 51, 52, 53, 54, 55, 56, 57, 58, 59, 60, 61, 62, 63, 64, 65, 66, 67, 68, 69, 70, 71, 72, 79, 80, 81, 82, 83, 84, 85, 86, 87, 88, 89, 90, 91, 92, 93, 94] (by decide +kernel) (by decide +kernel)
set_option maxRecDepth 20000 in
theorem gX4_both_X1_hold_n142 : GoodIn wsX4_both (wsX1_hold) := ggX4_both_X1_hold
set_option maxRecDepth 20000 in
theorem ggX4_both_J6_bitCount_0f7a4 : GoodIn wsX4_both wsJ6_bitCount_0f7a4 := goodIn_r _ [53, 54, 55, 56] (by decide +kernel) (by decide +kernel)
set_option maxRecDepth 20000 in
theorem gX4_both_J6_bitCount_0f7a4 : GoodIn wsX4_both (va_wsS RX4 117 yJ6_bitCount_0f7a4 wsJ6_bitCount_0f7a4) := goodIn_app (goodIn_of _ (by decide +kernel)) ggX4_both_J6_bitCount_0f7a4
theorem dX4_both_0 : decode cX4_both 0 = .ok (.iload_n 1, 1) := by decide +kernel
theorem dX4_both_1 : decode cX4_both 1 = .ok (.invokestatic 146, 3) := by decide +kernel
theorem dX4_both_4 : decode cX4_both 4 = .ok (.ifCond .eq 10, 3) := by decide +kernel
theorem dX4_both_7 : decode cX4_both 7 = .ok (.iload_n 2, 1) := by decide +kernel
theorem dX4_both_8 : decode cX4_both 8 = .ok (.invokestatic 146, 3) := by decide +kernel
theorem dX4_both_11 : decode cX4_both 11 = .ok (.ifCond .ne 5, 3) := by decide +kernel
theorem dX4_both_14 : decode cX4_both 14 = .ok (.iconst (-1), 1) := by decide +kernel
theorem dX4_both_15 : decode cX4_both 15 = .ok (.ireturn, 1) := by decide +kernel
theorem dX4_both_16 : decode cX4_both 16 = .ok (.aload_n 0, 1) := by decide +kernel
theorem dX4_both_17 : decode cX4_both 17 = .ok (.getfield 36, 3) := by decide +kernel
theorem dX4_both_20 : decode cX4_both 20 = .ok (.aload_n 0, 1) := by decide +kernel
theorem dX4_both_21 : decode cX4_both 21 = .ok (.getfield 19, 3) := by decide +kernel
theorem dX4_both_24 : decode cX4_both 24 = .ok (.iload_n 1, 1) := by decide +kernel
theorem dX4_both_25 : decode cX4_both 25 = .ok (.invokevirtual 142, 3) := by decide +kernel
theorem dX4_both_28 : decode cX4_both 28 = .ok (.istore_n 3, 1) := by decide +kernel
theorem dX4_both_29 : decode cX4_both 29 = .ok (.iload_n 3, 1) := by decide +kernel
theorem dX4_both_30 : decode cX4_both 30 = .ok (.aload_n 0, 1) := by decide +kernel
theorem dX4_both_31 : decode cX4_both 31 = .ok (.getfield 36, 3) := by decide +kernel
theorem dX4_both_34 : decode cX4_both 34 = .ok (.aload_n 0, 1) := by decide +kernel
theorem dX4_both_35 : decode cX4_both 35 = .ok (.getfield 19, 3) := by decide +kernel
theorem dX4_both_38 : decode cX4_both 38 = .ok (.iload_n 2, 1) := by decide +kernel
theorem dX4_both_39 : decode cX4_both 39 = .ok (.invokevirtual 142, 3) := by decide +kernel
theorem dX4_both_42 : decode cX4_both 42 = .ok (.iand, 1) := by decide +kernel
theorem dX4_both_43 : decode cX4_both 43 = .ok (.invokestatic 117, 3) := by decide +kernel
theorem dX4_both_46 : decode cX4_both 46 = .ok (.ireturn, 1) := by decide +kernel
set_option maxRecDepth 20000 in
theorem ggX4_count_X0_allVoters : GoodIn wsX4_count wsX0_allVoters := goodIn_r _ [7, 8, 9, 10, 5, 11, 12, 13, 14, 15, 16, 17, 18, 31, 32, 33, 34, 35, 36, 37] (by decide +kernel) (by decide +kernel)
set_option maxRecDepth 20000 in
theorem gX4_count_X0_allVoters_n85 : GoodIn wsX4_count (wsX0_allVoters) := ggX4_count_X0_allVoters
set_option maxRecDepth 20000 in
theorem ggX4_count_J6_bitCount_0f7a4 : GoodIn wsX4_count wsJ6_bitCount_0f7a4 := goodIn_r _ [22, 23, 24, 25] (by decide +kernel) (by decide +kernel)
set_option maxRecDepth 20000 in
theorem gX4_count_J6_bitCount_0f7a4 : GoodIn wsX4_count (va_wsS RX4 117 yJ6_bitCount_0f7a4 wsJ6_bitCount_0f7a4) := goodIn_app (goodIn_of _ (by decide +kernel)) ggX4_count_J6_bitCount_0f7a4
theorem dX4_count_0 : decode cX4_count 0 = .ok (.iload_n 1, 1) := by decide +kernel
theorem dX4_count_1 : decode cX4_count 1 = .ok (.tableswitch 102 0 6 #[43, 51, 59, 67, 75, 86, 94], 43) := by decide +kernel
theorem dX4_count_44 : decode cX4_count 44 = .ok (.aload_n 0, 1) := by decide +kernel
theorem dX4_count_45 : decode cX4_count 45 = .ok (.getfield 19, 3) := by decide +kernel
theorem dX4_count_48 : decode cX4_count 48 = .ok (.getfield 66, 3) := by decide +kernel
theorem dX4_count_51 : decode cX4_count 51 = .ok (.ireturn, 1) := by decide +kernel
theorem dX4_count_52 : decode cX4_count 52 = .ok (.aload_n 0, 1) := by decide +kernel
theorem dX4_count_53 : decode cX4_count 53 = .ok (.getfield 19, 3) := by decide +kernel
theorem dX4_count_56 : decode cX4_count 56 = .ok (.getfield 82, 3) := by decide +kernel
theorem dX4_count_59 : decode cX4_count 59 = .ok (.ireturn, 1) := by decide +kernel
theorem dX4_count_60 : decode cX4_count 60 = .ok (.aload_n 0, 1) := by decide +kernel
theorem dX4_count_61 : decode cX4_count 61 = .ok (.getfield 19, 3) := by decide +kernel
theorem dX4_count_64 : decode cX4_count 64 = .ok (.invokevirtual 85, 3) := by decide +kernel
theorem dX4_count_67 : decode cX4_count 67 = .ok (.ireturn, 1) := by decide +kernel
theorem dX4_count_68 : decode cX4_count 68 = .ok (.aload_n 0, 1) := by decide +kernel
theorem dX4_count_69 : decode cX4_count 69 = .ok (.getfield 19, 3) := by decide +kernel
theorem dX4_count_72 : decode cX4_count 72 = .ok (.getfield 105, 3) := by decide +kernel
theorem dX4_count_75 : decode cX4_count 75 = .ok (.ireturn, 1) := by decide +kernel
theorem dX4_count_76 : decode cX4_count 76 = .ok (.aload_n 0, 1) := by decide +kernel
theorem dX4_count_77 : decode cX4_count 77 = .ok (.getfield 19, 3) := by decide +kernel
theorem dX4_count_80 : decode cX4_count 80 = .ok (.getfield 114, 3) := by decide +kernel
theorem dX4_count_83 : decode cX4_count 83 = .ok (.invokestatic 117, 3) := by decide +kernel
theorem dX4_count_86 : decode cX4_count 86 = .ok (.ireturn, 1) := by decide +kernel
theorem dX4_count_87 : decode cX4_count 87 = .ok (.aload_n 0, 1) := by decide +kernel
theorem dX4_count_88 : decode cX4_count 88 = .ok (.getfield 29, 3) := by decide +kernel
theorem dX4_count_91 : decode cX4_count 91 = .ok (.getfield 130, 3) := by decide +kernel
theorem dX4_count_94 : decode cX4_count 94 = .ok (.ireturn, 1) := by decide +kernel
theorem dX4_count_95 : decode cX4_count 95 = .ok (.aload_n 0, 1) := by decide +kernel
theorem dX4_count_96 : decode cX4_count 96 = .ok (.getfield 12, 3) := by decide +kernel
theorem dX4_count_99 : decode cX4_count 99 = .ok (.getfield 63, 3) := by decide +kernel
theorem dX4_count_102 : decode cX4_count 102 = .ok (.ireturn, 1) := by decide +kernel
theorem dX4_count_103 : decode cX4_count 103 = .ok (.iconst (-1), 1) := by decide +kernel
theorem dX4_count_104 : decode cX4_count 104 = .ok (.ireturn, 1) := by decide +kernel
set_option maxRecDepth 20000 in
theorem ggX4_lawsThatElect_X1_hold : GoodIn wsX4_lawsThatElect wsX1_hold := goodIn_r _ [6, 7, 8, 9, 10, 4, 11, 12, 13, 14, 15, 16, 17, 18, 19, 20, 21, 22, 23, 24, 25, 26, 27, 28, 29, 30, 31, 32, 33, 34, 35, 36, 37, 38, 39, 40, 41, 42, 43, 44, 45, 46, 47, 48, 49, 50, 51, 52, 53, 54, 55, 56, 57, 58, 59, 60, 61, 62, 63, 64, 65, 66, 67, 68, 69, 76, 77, 78, 79, 80, 81, 82, 83, 84, 85, 86, 87, 88, 89, 90, 91] (by decide +kernel) (by decide +kernel)
set_option maxRecDepth 20000 in
theorem gX4_lawsThatElect_X1_hold_n142 : GoodIn wsX4_lawsThatElect (wsX1_hold) := ggX4_lawsThatElect_X1_hold
set_option maxRecDepth 20000 in
theorem ggX4_lawsThatElect_X4_hasBit : GoodIn wsX4_lawsThatElect wsX4_hasBit := goodIn_r _ [38] (by decide +kernel) (by decide +kernel)
set_option maxRecDepth 20000 in
theorem gX4_lawsThatElect_X4_hasBit : GoodIn wsX4_lawsThatElect (va_wsS RX4 199 yX4_hasBit wsX4_hasBit) := goodIn_app (goodIn_of _ (by decide +kernel)) ggX4_lawsThatElect_X4_hasBit
theorem dX4_lawsThatElect_0 : decode cX4_lawsThatElect 0 = .ok (.iconst 0, 1) := by decide +kernel
theorem dX4_lawsThatElect_1 : decode cX4_lawsThatElect 1 = .ok (.istore_n 2, 1) := by decide +kernel
theorem dX4_lawsThatElect_2 : decode cX4_lawsThatElect 2 = .ok (.iconst 0, 1) := by decide +kernel
theorem dX4_lawsThatElect_3 : decode cX4_lawsThatElect 3 = .ok (.istore_n 3, 1) := by decide +kernel
theorem dX4_lawsThatElect_4 : decode cX4_lawsThatElect 4 = .ok (.iload_n 3, 1) := by decide +kernel
theorem dX4_lawsThatElect_5 : decode cX4_lawsThatElect 5 = .ok (.iconst 4, 1) := by decide +kernel
theorem dX4_lawsThatElect_6 : decode cX4_lawsThatElect 6 = .ok (.if_icmp .ge 34, 3) := by decide +kernel
theorem dX4_lawsThatElect_9 : decode cX4_lawsThatElect 9 = .ok (.aload_n 0, 1) := by decide +kernel
theorem dX4_lawsThatElect_10 : decode cX4_lawsThatElect 10 = .ok (.getfield 36, 3) := by decide +kernel
theorem dX4_lawsThatElect_13 : decode cX4_lawsThatElect 13 = .ok (.aload_n 0, 1) := by decide +kernel
theorem dX4_lawsThatElect_14 : decode cX4_lawsThatElect 14 = .ok (.getfield 19, 3) := by decide +kernel
theorem dX4_lawsThatElect_17 : decode cX4_lawsThatElect 17 = .ok (.iload_n 3, 1) := by decide +kernel
theorem dX4_lawsThatElect_18 : decode cX4_lawsThatElect 18 = .ok (.invokevirtual 142, 3) := by decide +kernel
theorem dX4_lawsThatElect_21 : decode cX4_lawsThatElect 21 = .ok (.iload_n 1, 1) := by decide +kernel
theorem dX4_lawsThatElect_22 : decode cX4_lawsThatElect 22 = .ok (.invokestatic 199, 3) := by decide +kernel
theorem dX4_lawsThatElect_25 : decode cX4_lawsThatElect 25 = .ok (.ifCond .eq 9, 3) := by decide +kernel
theorem dX4_lawsThatElect_28 : decode cX4_lawsThatElect 28 = .ok (.iload_n 2, 1) := by decide +kernel
theorem dX4_lawsThatElect_29 : decode cX4_lawsThatElect 29 = .ok (.iconst 1, 1) := by decide +kernel
theorem dX4_lawsThatElect_30 : decode cX4_lawsThatElect 30 = .ok (.iload_n 3, 1) := by decide +kernel
theorem dX4_lawsThatElect_31 : decode cX4_lawsThatElect 31 = .ok (.ishl, 1) := by decide +kernel
theorem dX4_lawsThatElect_32 : decode cX4_lawsThatElect 32 = .ok (.ior, 1) := by decide +kernel
theorem dX4_lawsThatElect_33 : decode cX4_lawsThatElect 33 = .ok (.istore_n 2, 1) := by decide +kernel
theorem dX4_lawsThatElect_34 : decode cX4_lawsThatElect 34 = .ok (.iinc 3 1, 3) := by decide +kernel
theorem dX4_lawsThatElect_37 : decode cX4_lawsThatElect 37 = .ok (.goto (-33), 3) := by decide +kernel
theorem dX4_lawsThatElect_40 : decode cX4_lawsThatElect 40 = .ok (.iload_n 2, 1) := by decide +kernel
theorem dX4_lawsThatElect_41 : decode cX4_lawsThatElect 41 = .ok (.ireturn, 1) := by decide +kernel
theorem dX4_isCandidate_0 : decode cX4_isCandidate 0 = .ok (.iload_n 1, 1) := by decide +kernel
theorem dX4_isCandidate_1 : decode cX4_isCandidate 1 = .ok (.ifCond .lt 18, 3) := by decide +kernel
theorem dX4_isCandidate_4 : decode cX4_isCandidate 4 = .ok (.iload_n 1, 1) := by decide +kernel
theorem dX4_isCandidate_5 : decode cX4_isCandidate 5 = .ok (.aload_n 0, 1) := by decide +kernel
theorem dX4_isCandidate_6 : decode cX4_isCandidate 6 = .ok (.getfield 19, 3) := by decide +kernel
theorem dX4_isCandidate_9 : decode cX4_isCandidate 9 = .ok (.getfield 66, 3) := by decide +kernel
theorem dX4_isCandidate_12 : decode cX4_isCandidate 12 = .ok (.if_icmp .ge 7, 3) := by decide +kernel
theorem dX4_isCandidate_15 : decode cX4_isCandidate 15 = .ok (.iconst 1, 1) := by decide +kernel
theorem dX4_isCandidate_16 : decode cX4_isCandidate 16 = .ok (.goto 4, 3) := by decide +kernel
theorem dX4_isCandidate_19 : decode cX4_isCandidate 19 = .ok (.iconst 0, 1) := by decide +kernel
theorem dX4_isCandidate_20 : decode cX4_isCandidate 20 = .ok (.ireturn, 1) := by decide +kernel
theorem dX4_isBallot_0 : decode cX4_isBallot 0 = .ok (.iload_n 1, 1) := by decide +kernel
theorem dX4_isBallot_1 : decode cX4_isBallot 1 = .ok (.ifCond .lt 18, 3) := by decide +kernel
theorem dX4_isBallot_4 : decode cX4_isBallot 4 = .ok (.iload_n 1, 1) := by decide +kernel
theorem dX4_isBallot_5 : decode cX4_isBallot 5 = .ok (.aload_n 0, 1) := by decide +kernel
theorem dX4_isBallot_6 : decode cX4_isBallot 6 = .ok (.getfield 19, 3) := by decide +kernel
theorem dX4_isBallot_9 : decode cX4_isBallot 9 = .ok (.getfield 82, 3) := by decide +kernel
theorem dX4_isBallot_12 : decode cX4_isBallot 12 = .ok (.if_icmp .ge 7, 3) := by decide +kernel
theorem dX4_isBallot_15 : decode cX4_isBallot 15 = .ok (.iconst 1, 1) := by decide +kernel
theorem dX4_isBallot_16 : decode cX4_isBallot 16 = .ok (.goto 4, 3) := by decide +kernel
theorem dX4_isBallot_19 : decode cX4_isBallot 19 = .ok (.iconst 0, 1) := by decide +kernel
theorem dX4_isBallot_20 : decode cX4_isBallot 20 = .ok (.ireturn, 1) := by decide +kernel
theorem dX4_isSet_0 : decode cX4_isSet 0 = .ok (.iload_n 1, 1) := by decide +kernel
theorem dX4_isSet_1 : decode cX4_isSet 1 = .ok (.iconst 1, 1) := by decide +kernel
theorem dX4_isSet_2 : decode cX4_isSet 2 = .ok (.if_icmp .lt 20, 3) := by decide +kernel
theorem dX4_isSet_5 : decode cX4_isSet 5 = .ok (.iload_n 1, 1) := by decide +kernel
theorem dX4_isSet_6 : decode cX4_isSet 6 = .ok (.iconst 1, 1) := by decide +kernel
theorem dX4_isSet_7 : decode cX4_isSet 7 = .ok (.aload_n 0, 1) := by decide +kernel
theorem dX4_isSet_8 : decode cX4_isSet 8 = .ok (.getfield 19, 3) := by decide +kernel
theorem dX4_isSet_11 : decode cX4_isSet 11 = .ok (.getfield 66, 3) := by decide +kernel
theorem dX4_isSet_14 : decode cX4_isSet 14 = .ok (.ishl, 1) := by decide +kernel
theorem dX4_isSet_15 : decode cX4_isSet 15 = .ok (.if_icmp .ge 7, 3) := by decide +kernel
theorem dX4_isSet_18 : decode cX4_isSet 18 = .ok (.iconst 1, 1) := by decide +kernel
theorem dX4_isSet_19 : decode cX4_isSet 19 = .ok (.goto 4, 3) := by decide +kernel
theorem dX4_isSet_22 : decode cX4_isSet 22 = .ok (.iconst 0, 1) := by decide +kernel
theorem dX4_isSet_23 : decode cX4_isSet 23 = .ok (.ireturn, 1) := by decide +kernel
theorem dX4_isVoters_0 : decode cX4_isVoters 0 = .ok (.iload_n 0, 1) := by decide +kernel
theorem dX4_isVoters_1 : decode cX4_isVoters 1 = .ok (.iconst 1, 1) := by decide +kernel
theorem dX4_isVoters_2 : decode cX4_isVoters 2 = .ok (.if_icmp .lt 13, 3) := by decide +kernel
theorem dX4_isVoters_5 : decode cX4_isVoters 5 = .ok (.iload_n 0, 1) := by decide +kernel
theorem dX4_isVoters_6 : decode cX4_isVoters 6 = .ok (.bipush 20, 2) := by decide +kernel
theorem dX4_isVoters_8 : decode cX4_isVoters 8 = .ok (.if_icmp .gt 7, 3) := by decide +kernel
theorem dX4_isVoters_11 : decode cX4_isVoters 11 = .ok (.iconst 1, 1) := by decide +kernel
theorem dX4_isVoters_12 : decode cX4_isVoters 12 = .ok (.goto 4, 3) := by decide +kernel
theorem dX4_isVoters_15 : decode cX4_isVoters 15 = .ok (.iconst 0, 1) := by decide +kernel
theorem dX4_isVoters_16 : decode cX4_isVoters 16 = .ok (.ireturn, 1) := by decide +kernel
theorem dX4_isLaw_0 : decode cX4_isLaw 0 = .ok (.iload_n 0, 1) := by decide +kernel
theorem dX4_isLaw_1 : decode cX4_isLaw 1 = .ok (.ifCond .lt 12, 3) := by decide +kernel
theorem dX4_isLaw_4 : decode cX4_isLaw 4 = .ok (.iload_n 0, 1) := by decide +kernel
theorem dX4_isLaw_5 : decode cX4_isLaw 5 = .ok (.iconst 4, 1) := by decide +kernel
theorem dX4_isLaw_6 : decode cX4_isLaw 6 = .ok (.if_icmp .ge 7, 3) := by decide +kernel
theorem dX4_isLaw_9 : decode cX4_isLaw 9 = .ok (.iconst 1, 1) := by decide +kernel
theorem dX4_isLaw_10 : decode cX4_isLaw 10 = .ok (.goto 4, 3) := by decide +kernel
theorem dX4_isLaw_13 : decode cX4_isLaw 13 = .ok (.iconst 0, 1) := by decide +kernel
theorem dX4_isLaw_14 : decode cX4_isLaw 14 = .ok (.ireturn, 1) := by decide +kernel
theorem dX4_isPart_0 : decode cX4_isPart 0 = .ok (.iload_n 0, 1) := by decide +kernel
theorem dX4_isPart_1 : decode cX4_isPart 1 = .ok (.ifCond .eq 8, 3) := by decide +kernel
theorem dX4_isPart_4 : decode cX4_isPart 4 = .ok (.iload_n 0, 1) := by decide +kernel
theorem dX4_isPart_5 : decode cX4_isPart 5 = .ok (.iconst 1, 1) := by decide +kernel
theorem dX4_isPart_6 : decode cX4_isPart 6 = .ok (.if_icmp .ne 7, 3) := by decide +kernel
theorem dX4_isPart_9 : decode cX4_isPart 9 = .ok (.iconst 1, 1) := by decide +kernel
theorem dX4_isPart_10 : decode cX4_isPart 10 = .ok (.goto 4, 3) := by decide +kernel
theorem dX4_isPart_13 : decode cX4_isPart 13 = .ok (.iconst 0, 1) := by decide +kernel
theorem dX4_isPart_14 : decode cX4_isPart 14 = .ok (.ireturn, 1) := by decide +kernel
theorem dX4_hasBit_0 : decode cX4_hasBit 0 = .ok (.iload_n 0, 1) := by decide +kernel
theorem dX4_hasBit_1 : decode cX4_hasBit 1 = .ok (.iload_n 1, 1) := by decide +kernel
theorem dX4_hasBit_2 : decode cX4_hasBit 2 = .ok (.ishr, 1) := by decide +kernel
theorem dX4_hasBit_3 : decode cX4_hasBit 3 = .ok (.iconst 1, 1) := by decide +kernel
theorem dX4_hasBit_4 : decode cX4_hasBit 4 = .ok (.iand, 1) := by decide +kernel
theorem dX4_hasBit_5 : decode cX4_hasBit 5 = .ok (.iconst 1, 1) := by decide +kernel
theorem dX4_hasBit_6 : decode cX4_hasBit 6 = .ok (.if_icmp .ne 7, 3) := by decide +kernel
theorem dX4_hasBit_9 : decode cX4_hasBit 9 = .ok (.iconst 1, 1) := by decide +kernel
theorem dX4_hasBit_10 : decode cX4_hasBit 10 = .ok (.goto 4, 3) := by decide +kernel
theorem dX4_hasBit_13 : decode cX4_hasBit 13 = .ok (.iconst 0, 1) := by decide +kernel
theorem dX4_hasBit_14 : decode cX4_hasBit 14 = .ok (.ireturn, 1) := by decide +kernel
set_option maxRecDepth 20000 in
theorem ggX4_partOf_X4_greatestDivisor : GoodIn wsX4_partOf wsX4_greatestDivisor := goodIn_r _ [8] (by decide +kernel) (by decide +kernel)
set_option maxRecDepth 20000 in
theorem gX4_partOf_X4_greatestDivisor : GoodIn wsX4_partOf (va_wsS RX4 205 yX4_greatestDivisor wsX4_greatestDivisor) := goodIn_app (goodIn_of _ (by decide +kernel)) ggX4_partOf_X4_greatestDivisor
theorem dX4_partOf_0 : decode cX4_partOf 0 = .ok (.lconst 1, 1) := by decide +kernel
theorem dX4_partOf_1 : decode cX4_partOf 1 = .ok (.lload_n 0, 1) := by decide +kernel
theorem dX4_partOf_2 : decode cX4_partOf 2 = .ok (.lload_n 2, 1) := by decide +kernel
theorem dX4_partOf_3 : decode cX4_partOf 3 = .ok (.invokestatic 205, 3) := by decide +kernel
theorem dX4_partOf_6 : decode cX4_partOf 6 = .ok (.invokestatic 180, 3) := by decide +kernel
theorem dX4_partOf_9 : decode cX4_partOf 9 = .ok (.lstore 5, 2) := by decide +kernel
theorem dX4_partOf_11 : decode cX4_partOf 11 = .ok (.iload 4, 2) := by decide +kernel
theorem dX4_partOf_13 : decode cX4_partOf 13 = .ok (.ifCond .ne 7, 3) := by decide +kernel
theorem dX4_partOf_16 : decode cX4_partOf 16 = .ok (.lload_n 0, 1) := by decide +kernel
theorem dX4_partOf_17 : decode cX4_partOf 17 = .ok (.goto 4, 3) := by decide +kernel
theorem dX4_partOf_20 : decode cX4_partOf 20 = .ok (.lload_n 2, 1) := by decide +kernel
theorem dX4_partOf_21 : decode cX4_partOf 21 = .ok (.lload 5, 2) := by decide +kernel
theorem dX4_partOf_23 : decode cX4_partOf 23 = .ok (.ldiv, 1) := by decide +kernel
theorem dX4_partOf_24 : decode cX4_partOf 24 = .ok (.lreturn, 1) := by decide +kernel
theorem dX4_greatestDivisor_0 : decode cX4_greatestDivisor 0 = .ok (.lload_n 0, 1) := by decide +kernel
theorem dX4_greatestDivisor_1 : decode cX4_greatestDivisor 1 = .ok (.lstore 4, 2) := by decide +kernel
theorem dX4_greatestDivisor_3 : decode cX4_greatestDivisor 3 = .ok (.lload_n 2, 1) := by decide +kernel
theorem dX4_greatestDivisor_4 : decode cX4_greatestDivisor 4 = .ok (.lstore 6, 2) := by decide +kernel
theorem dX4_greatestDivisor_6 : decode cX4_greatestDivisor 6 = .ok (.iconst 0, 1) := by decide +kernel
theorem dX4_greatestDivisor_7 : decode cX4_greatestDivisor 7 = .ok (.istore 8, 2) := by decide +kernel
theorem dX4_greatestDivisor_9 : decode cX4_greatestDivisor 9 = .ok (.iload 8, 2) := by decide +kernel
theorem dX4_greatestDivisor_11 : decode cX4_greatestDivisor 11 = .ok (.sipush 128, 3) := by decide +kernel
theorem dX4_greatestDivisor_14 : decode cX4_greatestDivisor 14 = .ok (.if_icmp .ge 31, 3) := by decide +kernel
theorem dX4_greatestDivisor_17 : decode cX4_greatestDivisor 17 = .ok (.lload 6, 2) := by decide +kernel
theorem dX4_greatestDivisor_19 : decode cX4_greatestDivisor 19 = .ok (.lconst 0, 1) := by decide +kernel
theorem dX4_greatestDivisor_20 : decode cX4_greatestDivisor 20 = .ok (.lcmp, 1) := by decide +kernel
theorem dX4_greatestDivisor_21 : decode cX4_greatestDivisor 21 = .ok (.ifCond .eq 24, 3) := by decide +kernel
theorem dX4_greatestDivisor_24 : decode cX4_greatestDivisor 24 = .ok (.lload 4, 2) := by decide +kernel
theorem dX4_greatestDivisor_26 : decode cX4_greatestDivisor 26 = .ok (.lload 6, 2) := by decide +kernel
theorem dX4_greatestDivisor_28 : decode cX4_greatestDivisor 28 = .ok (.lrem, 1) := by decide +kernel
theorem dX4_greatestDivisor_29 : decode cX4_greatestDivisor 29 = .ok (.lstore 9, 2) := by decide +kernel
theorem dX4_greatestDivisor_31 : decode cX4_greatestDivisor 31 = .ok (.lload 6, 2) := by decide +kernel
theorem dX4_greatestDivisor_33 : decode cX4_greatestDivisor 33 = .ok (.lstore 4, 2) := by decide +kernel
theorem dX4_greatestDivisor_35 : decode cX4_greatestDivisor 35 = .ok (.lload 9, 2) := by decide +kernel
theorem dX4_greatestDivisor_37 : decode cX4_greatestDivisor 37 = .ok (.lstore 6, 2) := by decide +kernel
theorem dX4_greatestDivisor_39 : decode cX4_greatestDivisor 39 = .ok (.iinc 8 1, 3) := by decide +kernel
theorem dX4_greatestDivisor_42 : decode cX4_greatestDivisor 42 = .ok (.goto (-33), 3) := by decide +kernel
theorem dX4_greatestDivisor_45 : decode cX4_greatestDivisor 45 = .ok (.lload 4, 2) := by decide +kernel
theorem dX4_greatestDivisor_47 : decode cX4_greatestDivisor 47 = .ok (.lreturn, 1) := by decide +kernel
end
section
set_option maxRecDepth 20000 in
theorem ggX5_init_X5_adds : GoodIn wsX5_init wsX5_adds := goodIn_r _ [21, 5, 22, 23, 24, 25, 26, 27, 28, 29, 30, 31, 32, 33, 34, 35, 36, 37, 38, 39, 40] (by decide +kernel) (by decide +kernel)
set_option maxRecDepth 20000 in
theorem gX5_init_X5_adds : GoodIn wsX5_init (wsV RX5 44 RX5 yX5_adds wsX5_adds) := goodIn_app (goodIn_of _ (by decide +kernel)) ggX5_init_X5_adds
theorem dX5_init_0 : decode cX5_init 0 = .ok (.aload_n 0, 1) := by decide +kernel
theorem dX5_init_1 : decode cX5_init 1 = .ok (.invokespecial 1, 3) := by decide +kernel
theorem dX5_init_4 : decode cX5_init 4 = .ok (.aload_n 0, 1) := by decide +kernel
theorem dX5_init_5 : decode cX5_init 5 = .ok (.bipush 32, 2) := by decide +kernel
theorem dX5_init_7 : decode cX5_init 7 = .ok (.newarray .int, 2) := by decide +kernel
theorem dX5_init_9 : decode cX5_init 9 = .ok (.putfield 7, 3) := by decide +kernel
theorem dX5_init_12 : decode cX5_init 12 = .ok (.aload_n 0, 1) := by decide +kernel
theorem dX5_init_13 : decode cX5_init 13 = .ok (.bipush 32, 2) := by decide +kernel
theorem dX5_init_15 : decode cX5_init 15 = .ok (.newarray .int, 2) := by decide +kernel
theorem dX5_init_17 : decode cX5_init 17 = .ok (.putfield 13, 3) := by decide +kernel
theorem dX5_init_20 : decode cX5_init 20 = .ok (.aload_n 0, 1) := by decide +kernel
theorem dX5_init_21 : decode cX5_init 21 = .ok (.sipush 192, 3) := by decide +kernel
theorem dX5_init_24 : decode cX5_init 24 = .ok (.newarray .int, 2) := by decide +kernel
theorem dX5_init_26 : decode cX5_init 26 = .ok (.putfield 16, 3) := by decide +kernel
theorem dX5_init_29 : decode cX5_init 29 = .ok (.aload_n 0, 1) := by decide +kernel
theorem dX5_init_30 : decode cX5_init 30 = .ok (.sipush 200, 3) := by decide +kernel
theorem dX5_init_33 : decode cX5_init 33 = .ok (.newarray .int, 2) := by decide +kernel
theorem dX5_init_35 : decode cX5_init 35 = .ok (.putfield 19, 3) := by decide +kernel
theorem dX5_init_38 : decode cX5_init 38 = .ok (.aload_n 0, 1) := by decide +kernel
theorem dX5_init_39 : decode cX5_init 39 = .ok (.bipush 11, 2) := by decide +kernel
theorem dX5_init_41 : decode cX5_init 41 = .ok (.newarray .int, 2) := by decide +kernel
theorem dX5_init_43 : decode cX5_init 43 = .ok (.putfield 22, 3) := by decide +kernel
theorem dX5_init_46 : decode cX5_init 46 = .ok (.aload_n 0, 1) := by decide +kernel
theorem dX5_init_47 : decode cX5_init 47 = .ok (.bipush 11, 2) := by decide +kernel
theorem dX5_init_49 : decode cX5_init 49 = .ok (.newarray .int, 2) := by decide +kernel
theorem dX5_init_51 : decode cX5_init 51 = .ok (.putfield 25, 3) := by decide +kernel
theorem dX5_init_54 : decode cX5_init 54 = .ok (.aload_n 0, 1) := by decide +kernel
theorem dX5_init_55 : decode cX5_init 55 = .ok (.bipush 8, 2) := by decide +kernel
theorem dX5_init_57 : decode cX5_init 57 = .ok (.newarray .int, 2) := by decide +kernel
theorem dX5_init_59 : decode cX5_init 59 = .ok (.putfield 28, 3) := by decide +kernel
theorem dX5_init_62 : decode cX5_init 62 = .ok (.aload_n 0, 1) := by decide +kernel
theorem dX5_init_63 : decode cX5_init 63 = .ok (.bipush 11, 2) := by decide +kernel
theorem dX5_init_65 : decode cX5_init 65 = .ok (.newarray .long, 2) := by decide +kernel
theorem dX5_init_67 : decode cX5_init 67 = .ok (.putfield 31, 3) := by decide +kernel
theorem dX5_init_70 : decode cX5_init 70 = .ok (.aload_n 0, 1) := by decide +kernel
theorem dX5_init_71 : decode cX5_init 71 = .ok (.bipush 8, 2) := by decide +kernel
theorem dX5_init_73 : decode cX5_init 73 = .ok (.newarray .int, 2) := by decide +kernel
theorem dX5_init_75 : decode cX5_init 75 = .ok (.putfield 35, 3) := by decide +kernel
theorem dX5_init_78 : decode cX5_init 78 = .ok (.aload_n 0, 1) := by decide +kernel
theorem dX5_init_79 : decode cX5_init 79 = .ok (.bipush 8, 2) := by decide +kernel
theorem dX5_init_81 : decode cX5_init 81 = .ok (.newarray .long, 2) := by decide +kernel
theorem dX5_init_83 : decode cX5_init 83 = .ok (.putfield 38, 3) := by decide +kernel
theorem dX5_init_86 : decode cX5_init 86 = .ok (.aload_n 0, 1) := by decide +kernel
theorem dX5_init_87 : decode cX5_init 87 = .ok (.bipush 8, 2) := by decide +kernel
theorem dX5_init_89 : decode cX5_init 89 = .ok (.newarray .long, 2) := by decide +kernel
theorem dX5_init_91 : decode cX5_init 91 = .ok (.putfield 41, 3) := by decide +kernel
theorem dX5_init_94 : decode cX5_init 94 = .ok (.aload_n 0, 1) := by decide +kernel
theorem dX5_init_95 : decode cX5_init 95 = .ok (.getfield 7, 3) := by decide +kernel
theorem dX5_init_98 : decode cX5_init 98 = .ok (.iconst 0, 1) := by decide +kernel
theorem dX5_init_99 : decode cX5_init 99 = .ok (.bipush 6, 2) := by decide +kernel
theorem dX5_init_101 : decode cX5_init 101 = .ok (.iastore, 1) := by decide +kernel
theorem dX5_init_102 : decode cX5_init 102 = .ok (.iconst 0, 1) := by decide +kernel
theorem dX5_init_103 : decode cX5_init 103 = .ok (.istore_n 1, 1) := by decide +kernel
theorem dX5_init_104 : decode cX5_init 104 = .ok (.iload_n 1, 1) := by decide +kernel
theorem dX5_init_105 : decode cX5_init 105 = .ok (.bipush 6, 2) := by decide +kernel
theorem dX5_init_107 : decode cX5_init 107 = .ok (.if_icmp .ge 19, 3) := by decide +kernel
theorem dX5_init_110 : decode cX5_init 110 = .ok (.aload_n 0, 1) := by decide +kernel
theorem dX5_init_111 : decode cX5_init 111 = .ok (.getfield 7, 3) := by decide +kernel
theorem dX5_init_114 : decode cX5_init 114 = .ok (.bipush 24, 2) := by decide +kernel
theorem dX5_init_116 : decode cX5_init 116 = .ok (.iload_n 1, 1) := by decide +kernel
theorem dX5_init_117 : decode cX5_init 117 = .ok (.iadd, 1) := by decide +kernel
theorem dX5_init_118 : decode cX5_init 118 = .ok (.iload_n 1, 1) := by decide +kernel
theorem dX5_init_119 : decode cX5_init 119 = .ok (.iastore, 1) := by decide +kernel
theorem dX5_init_120 : decode cX5_init 120 = .ok (.iinc 1 1, 3) := by decide +kernel
theorem dX5_init_123 : decode cX5_init 123 = .ok (.goto (-19), 3) := by decide +kernel
theorem dX5_init_126 : decode cX5_init 126 = .ok (.aload_n 0, 1) := by decide +kernel
theorem dX5_init_127 : decode cX5_init 127 = .ok (.bipush 9, 2) := by decide +kernel
theorem dX5_init_129 : decode cX5_init 129 = .ok (.iconst 3, 1) := by decide +kernel
theorem dX5_init_130 : decode cX5_init 130 = .ok (.invokevirtual 44, 3) := by decide +kernel
theorem dX5_init_133 : decode cX5_init 133 = .ok (.aload_n 0, 1) := by decide +kernel
theorem dX5_init_134 : decode cX5_init 134 = .ok (.bipush 6, 2) := by decide +kernel
theorem dX5_init_136 : decode cX5_init 136 = .ok (.bipush 7, 2) := by decide +kernel
theorem dX5_init_138 : decode cX5_init 138 = .ok (.invokevirtual 44, 3) := by decide +kernel
theorem dX5_init_141 : decode cX5_init 141 = .ok (.aload_n 0, 1) := by decide +kernel
theorem dX5_init_142 : decode cX5_init 142 = .ok (.iconst 5, 1) := by decide +kernel
theorem dX5_init_143 : decode cX5_init 143 = .ok (.bipush 12, 2) := by decide +kernel
theorem dX5_init_145 : decode cX5_init 145 = .ok (.invokevirtual 44, 3) := by decide +kernel
theorem dX5_init_148 : decode cX5_init 148 = .ok (.aload_n 0, 1) := by decide +kernel
theorem dX5_init_149 : decode cX5_init 149 = .ok (.iconst 4, 1) := by decide +kernel
theorem dX5_init_150 : decode cX5_init 150 = .ok (.bipush 24, 2) := by decide +kernel
theorem dX5_init_152 : decode cX5_init 152 = .ok (.invokevirtual 44, 3) := by decide +kernel
theorem dX5_init_155 : decode cX5_init 155 = .ok (.aload_n 0, 1) := by decide +kernel
theorem dX5_init_156 : decode cX5_init 156 = .ok (.iconst 3, 1) := by decide +kernel
theorem dX5_init_157 : decode cX5_init 157 = .ok (.bipush 32, 2) := by decide +kernel
theorem dX5_init_159 : decode cX5_init 159 = .ok (.invokevirtual 44, 3) := by decide +kernel
theorem dX5_init_162 : decode cX5_init 162 = .ok (.aload_n 0, 1) := by decide +kernel
theorem dX5_init_163 : decode cX5_init 163 = .ok (.iconst 2, 1) := by decide +kernel
theorem dX5_init_164 : decode cX5_init 164 = .ok (.bipush 48, 2) := by decide +kernel
theorem dX5_init_166 : decode cX5_init 166 = .ok (.invokevirtual 44, 3) := by decide +kernel
theorem dX5_init_169 : decode cX5_init 169 = .ok (.aload_n 0, 1) := by decide +kernel
theorem dX5_init_170 : decode cX5_init 170 = .ok (.getfield 7, 3) := by decide +kernel
theorem dX5_init_173 : decode cX5_init 173 = .ok (.bipush 22, 2) := by decide +kernel
theorem dX5_init_175 : decode cX5_init 175 = .ok (.iconst 4, 1) := by decide +kernel
theorem dX5_init_176 : decode cX5_init 176 = .ok (.iastore, 1) := by decide +kernel
theorem dX5_init_177 : decode cX5_init 177 = .ok (.return_, 1) := by decide +kernel
theorem dX5_in_0 : decode cX5_in 0 = .ok (.iload_n 0, 1) := by decide +kernel
theorem dX5_in_1 : decode cX5_in 1 = .ok (.iload_n 1, 1) := by decide +kernel
theorem dX5_in_2 : decode cX5_in 2 = .ok (.if_icmp .lt 12, 3) := by decide +kernel
theorem dX5_in_5 : decode cX5_in 5 = .ok (.iload_n 0, 1) := by decide +kernel
theorem dX5_in_6 : decode cX5_in 6 = .ok (.iload_n 2, 1) := by decide +kernel
theorem dX5_in_7 : decode cX5_in 7 = .ok (.if_icmp .gt 7, 3) := by decide +kernel
theorem dX5_in_10 : decode cX5_in 10 = .ok (.iconst 1, 1) := by decide +kernel
theorem dX5_in_11 : decode cX5_in 11 = .ok (.goto 4, 3) := by decide +kernel
theorem dX5_in_14 : decode cX5_in 14 = .ok (.iconst 0, 1) := by decide +kernel
theorem dX5_in_15 : decode cX5_in 15 = .ok (.ireturn, 1) := by decide +kernel
theorem dX5_has_0 : decode cX5_has 0 = .ok (.iload_n 0, 1) := by decide +kernel
theorem dX5_has_1 : decode cX5_has 1 = .ok (.iload_n 1, 1) := by decide +kernel
theorem dX5_has_2 : decode cX5_has 2 = .ok (.ishr, 1) := by decide +kernel
theorem dX5_has_3 : decode cX5_has 3 = .ok (.iconst 1, 1) := by decide +kernel
theorem dX5_has_4 : decode cX5_has 4 = .ok (.iand, 1) := by decide +kernel
theorem dX5_has_5 : decode cX5_has 5 = .ok (.iconst 1, 1) := by decide +kernel
theorem dX5_has_6 : decode cX5_has 6 = .ok (.if_icmp .ne 7, 3) := by decide +kernel
theorem dX5_has_9 : decode cX5_has 9 = .ok (.iconst 1, 1) := by decide +kernel
theorem dX5_has_10 : decode cX5_has 10 = .ok (.goto 4, 3) := by decide +kernel
theorem dX5_has_13 : decode cX5_has 13 = .ok (.iconst 0, 1) := by decide +kernel
theorem dX5_has_14 : decode cX5_has 14 = .ok (.ireturn, 1) := by decide +kernel
theorem dX5_ones_0 : decode cX5_ones 0 = .ok (.iconst 0, 1) := by decide +kernel
theorem dX5_ones_1 : decode cX5_ones 1 = .ok (.istore_n 1, 1) := by decide +kernel
theorem dX5_ones_2 : decode cX5_ones 2 = .ok (.iconst 0, 1) := by decide +kernel
theorem dX5_ones_3 : decode cX5_ones 3 = .ok (.istore_n 2, 1) := by decide +kernel
theorem dX5_ones_4 : decode cX5_ones 4 = .ok (.iload_n 2, 1) := by decide +kernel
theorem dX5_ones_5 : decode cX5_ones 5 = .ok (.bipush 11, 2) := by decide +kernel
theorem dX5_ones_7 : decode cX5_ones 7 = .ok (.if_icmp .ge 17, 3) := by decide +kernel
theorem dX5_ones_10 : decode cX5_ones 10 = .ok (.iload_n 1, 1) := by decide +kernel
theorem dX5_ones_11 : decode cX5_ones 11 = .ok (.iload_n 0, 1) := by decide +kernel
theorem dX5_ones_12 : decode cX5_ones 12 = .ok (.iload_n 2, 1) := by decide +kernel
theorem dX5_ones_13 : decode cX5_ones 13 = .ok (.ishr, 1) := by decide +kernel
theorem dX5_ones_14 : decode cX5_ones 14 = .ok (.iconst 1, 1) := by decide +kernel
theorem dX5_ones_15 : decode cX5_ones 15 = .ok (.iand, 1) := by decide +kernel
theorem dX5_ones_16 : decode cX5_ones 16 = .ok (.iadd, 1) := by decide +kernel
theorem dX5_ones_17 : decode cX5_ones 17 = .ok (.istore_n 1, 1) := by decide +kernel
theorem dX5_ones_18 : decode cX5_ones 18 = .ok (.iinc 2 1, 3) := by decide +kernel
theorem dX5_ones_21 : decode cX5_ones 21 = .ok (.goto (-17), 3) := by decide +kernel
theorem dX5_ones_24 : decode cX5_ones 24 = .ok (.iload_n 1, 1) := by decide +kernel
theorem dX5_ones_25 : decode cX5_ones 25 = .ok (.ireturn, 1) := by decide +kernel
theorem dX5_adds_0 : decode cX5_adds 0 = .ok (.aload_n 0, 1) := by decide +kernel
theorem dX5_adds_1 : decode cX5_adds 1 = .ok (.getfield 7, 3) := by decide +kernel
theorem dX5_adds_4 : decode cX5_adds 4 = .ok (.iconst 2, 1) := by decide +kernel
theorem dX5_adds_5 : decode cX5_adds 5 = .ok (.aload_n 0, 1) := by decide +kernel
theorem dX5_adds_6 : decode cX5_adds 6 = .ok (.getfield 7, 3) := by decide +kernel
theorem dX5_adds_9 : decode cX5_adds 9 = .ok (.iconst 1, 1) := by decide +kernel
theorem dX5_adds_10 : decode cX5_adds 10 = .ok (.iaload, 1) := by decide +kernel
theorem dX5_adds_11 : decode cX5_adds 11 = .ok (.iadd, 1) := by decide +kernel
theorem dX5_adds_12 : decode cX5_adds 12 = .ok (.iload_n 1, 1) := by decide +kernel
theorem dX5_adds_13 : decode cX5_adds 13 = .ok (.iastore, 1) := by decide +kernel
theorem dX5_adds_14 : decode cX5_adds 14 = .ok (.aload_n 0, 1) := by decide +kernel
theorem dX5_adds_15 : decode cX5_adds 15 = .ok (.getfield 7, 3) := by decide +kernel
theorem dX5_adds_18 : decode cX5_adds 18 = .ok (.bipush 12, 2) := by decide +kernel
theorem dX5_adds_20 : decode cX5_adds 20 = .ok (.aload_n 0, 1) := by decide +kernel
theorem dX5_adds_21 : decode cX5_adds 21 = .ok (.getfield 7, 3) := by decide +kernel
theorem dX5_adds_24 : decode cX5_adds 24 = .ok (.iconst 1, 1) := by decide +kernel
theorem dX5_adds_25 : decode cX5_adds 25 = .ok (.iaload, 1) := by decide +kernel
theorem dX5_adds_26 : decode cX5_adds 26 = .ok (.iadd, 1) := by decide +kernel
theorem dX5_adds_27 : decode cX5_adds 27 = .ok (.iload_n 2, 1) := by decide +kernel
theorem dX5_adds_28 : decode cX5_adds 28 = .ok (.iastore, 1) := by decide +kernel
theorem dX5_adds_29 : decode cX5_adds 29 = .ok (.aload_n 0, 1) := by decide +kernel
theorem dX5_adds_30 : decode cX5_adds 30 = .ok (.getfield 7, 3) := by decide +kernel
theorem dX5_adds_33 : decode cX5_adds 33 = .ok (.iconst 1, 1) := by decide +kernel
theorem dX5_adds_34 : decode cX5_adds 34 = .ok (.dup2, 1) := by decide +kernel
theorem dX5_adds_35 : decode cX5_adds 35 = .ok (.iaload, 1) := by decide +kernel
theorem dX5_adds_36 : decode cX5_adds 36 = .ok (.iconst 1, 1) := by decide +kernel
theorem dX5_adds_37 : decode cX5_adds 37 = .ok (.iadd, 1) := by decide +kernel
theorem dX5_adds_38 : decode cX5_adds 38 = .ok (.iastore, 1) := by decide +kernel
theorem dX5_adds_39 : decode cX5_adds 39 = .ok (.return_, 1) := by decide +kernel
set_option maxRecDepth 20000 in
theorem ggX5_isCandidate_X5_in : GoodIn wsX5_isCandidate wsX5_in := goodIn_r _ [5] (by decide +kernel) (by decide +kernel)
set_option maxRecDepth 20000 in
theorem gX5_isCandidate_X5_in : GoodIn wsX5_isCandidate (va_wsS RX5 48 yX5_in wsX5_in) := goodIn_app (goodIn_of _ (by decide +kernel)) ggX5_isCandidate_X5_in
theorem dX5_isCandidate_0 : decode cX5_isCandidate 0 = .ok (.iload_n 1, 1) := by decide +kernel
theorem dX5_isCandidate_1 : decode cX5_isCandidate 1 = .ok (.iconst 0, 1) := by decide +kernel
theorem dX5_isCandidate_2 : decode cX5_isCandidate 2 = .ok (.aload_n 0, 1) := by decide +kernel
theorem dX5_isCandidate_3 : decode cX5_isCandidate 3 = .ok (.getfield 7, 3) := by decide +kernel
theorem dX5_isCandidate_6 : decode cX5_isCandidate 6 = .ok (.iconst 0, 1) := by decide +kernel
theorem dX5_isCandidate_7 : decode cX5_isCandidate 7 = .ok (.iaload, 1) := by decide +kernel
theorem dX5_isCandidate_8 : decode cX5_isCandidate 8 = .ok (.iconst 1, 1) := by decide +kernel
theorem dX5_isCandidate_9 : decode cX5_isCandidate 9 = .ok (.isub, 1) := by decide +kernel
theorem dX5_isCandidate_10 : decode cX5_isCandidate 10 = .ok (.invokestatic 48, 3) := by decide +kernel
theorem dX5_isCandidate_13 : decode cX5_isCandidate 13 = .ok (.ireturn, 1) := by decide +kernel
set_option maxRecDepth 20000 in
theorem ggX5_isBallot_X5_in : GoodIn wsX5_isBallot wsX5_in := goodIn_r _ [5] (by decide +kernel) (by decide +kernel)
set_option maxRecDepth 20000 in
theorem gX5_isBallot_X5_in : GoodIn wsX5_isBallot (va_wsS RX5 48 yX5_in wsX5_in) := goodIn_app (goodIn_of _ (by decide +kernel)) ggX5_isBallot_X5_in
theorem dX5_isBallot_0 : decode cX5_isBallot 0 = .ok (.iload_n 1, 1) := by decide +kernel
theorem dX5_isBallot_1 : decode cX5_isBallot 1 = .ok (.iconst 0, 1) := by decide +kernel
theorem dX5_isBallot_2 : decode cX5_isBallot 2 = .ok (.aload_n 0, 1) := by decide +kernel
theorem dX5_isBallot_3 : decode cX5_isBallot 3 = .ok (.getfield 7, 3) := by decide +kernel
theorem dX5_isBallot_6 : decode cX5_isBallot 6 = .ok (.iconst 1, 1) := by decide +kernel
theorem dX5_isBallot_7 : decode cX5_isBallot 7 = .ok (.iaload, 1) := by decide +kernel
theorem dX5_isBallot_8 : decode cX5_isBallot 8 = .ok (.iconst 1, 1) := by decide +kernel
theorem dX5_isBallot_9 : decode cX5_isBallot 9 = .ok (.isub, 1) := by decide +kernel
theorem dX5_isBallot_10 : decode cX5_isBallot 10 = .ok (.invokestatic 48, 3) := by decide +kernel
theorem dX5_isBallot_13 : decode cX5_isBallot 13 = .ok (.ireturn, 1) := by decide +kernel
set_option maxRecDepth 20000 in
theorem ggX5_isSet_X5_in : GoodIn wsX5_isSet wsX5_in := goodIn_r _ [5] (by decide +kernel) (by decide +kernel)
set_option maxRecDepth 20000 in
theorem gX5_isSet_X5_in : GoodIn wsX5_isSet (va_wsS RX5 48 yX5_in wsX5_in) := goodIn_app (goodIn_of _ (by decide +kernel)) ggX5_isSet_X5_in
theorem dX5_isSet_0 : decode cX5_isSet 0 = .ok (.iload_n 1, 1) := by decide +kernel
theorem dX5_isSet_1 : decode cX5_isSet 1 = .ok (.iconst 1, 1) := by decide +kernel
theorem dX5_isSet_2 : decode cX5_isSet 2 = .ok (.iconst 1, 1) := by decide +kernel
theorem dX5_isSet_3 : decode cX5_isSet 3 = .ok (.aload_n 0, 1) := by decide +kernel
theorem dX5_isSet_4 : decode cX5_isSet 4 = .ok (.getfield 7, 3) := by decide +kernel
theorem dX5_isSet_7 : decode cX5_isSet 7 = .ok (.iconst 0, 1) := by decide +kernel
theorem dX5_isSet_8 : decode cX5_isSet 8 = .ok (.iaload, 1) := by decide +kernel
theorem dX5_isSet_9 : decode cX5_isSet 9 = .ok (.ishl, 1) := by decide +kernel
theorem dX5_isSet_10 : decode cX5_isSet 10 = .ok (.iconst 1, 1) := by decide +kernel
theorem dX5_isSet_11 : decode cX5_isSet 11 = .ok (.isub, 1) := by decide +kernel
theorem dX5_isSet_12 : decode cX5_isSet 12 = .ok (.invokestatic 48, 3) := by decide +kernel
theorem dX5_isSet_15 : decode cX5_isSet 15 = .ok (.ireturn, 1) := by decide +kernel
set_option maxRecDepth 20000 in
theorem ggX5_isLaw_X5_in : GoodIn wsX5_isLaw wsX5_in := goodIn_r _ [4] (by decide +kernel) (by decide +kernel)
set_option maxRecDepth 20000 in
theorem gX5_isLaw_X5_in : GoodIn wsX5_isLaw (va_wsS RX5 48 yX5_in wsX5_in) := goodIn_app (goodIn_of _ (by decide +kernel)) ggX5_isLaw_X5_in
theorem dX5_isLaw_0 : decode cX5_isLaw 0 = .ok (.iload_n 0, 1) := by decide +kernel
theorem dX5_isLaw_1 : decode cX5_isLaw 1 = .ok (.iconst 0, 1) := by decide +kernel
theorem dX5_isLaw_2 : decode cX5_isLaw 2 = .ok (.iconst 3, 1) := by decide +kernel
theorem dX5_isLaw_3 : decode cX5_isLaw 3 = .ok (.invokestatic 48, 3) := by decide +kernel
theorem dX5_isLaw_6 : decode cX5_isLaw 6 = .ok (.ireturn, 1) := by decide +kernel
theorem dX5_allVoters_0 : decode cX5_allVoters 0 = .ok (.iconst 0, 1) := by decide +kernel
theorem dX5_allVoters_1 : decode cX5_allVoters 1 = .ok (.istore_n 1, 1) := by decide +kernel
theorem dX5_allVoters_2 : decode cX5_allVoters 2 = .ok (.iconst 0, 1) := by decide +kernel
theorem dX5_allVoters_3 : decode cX5_allVoters 3 = .ok (.istore_n 2, 1) := by decide +kernel
theorem dX5_allVoters_4 : decode cX5_allVoters 4 = .ok (.iload_n 2, 1) := by decide +kernel
theorem dX5_allVoters_5 : decode cX5_allVoters 5 = .ok (.aload_n 0, 1) := by decide +kernel
theorem dX5_allVoters_6 : decode cX5_allVoters 6 = .ok (.getfield 7, 3) := by decide +kernel
theorem dX5_allVoters_9 : decode cX5_allVoters 9 = .ok (.iconst 1, 1) := by decide +kernel
theorem dX5_allVoters_10 : decode cX5_allVoters 10 = .ok (.iaload, 1) := by decide +kernel
theorem dX5_allVoters_11 : decode cX5_allVoters 11 = .ok (.if_icmp .ge 20, 3) := by decide +kernel
theorem dX5_allVoters_14 : decode cX5_allVoters 14 = .ok (.iload_n 1, 1) := by decide +kernel
theorem dX5_allVoters_15 : decode cX5_allVoters 15 = .ok (.aload_n 0, 1) := by decide +kernel
theorem dX5_allVoters_16 : decode cX5_allVoters 16 = .ok (.getfield 7, 3) := by decide +kernel
theorem dX5_allVoters_19 : decode cX5_allVoters 19 = .ok (.iconst 2, 1) := by decide +kernel
theorem dX5_allVoters_20 : decode cX5_allVoters 20 = .ok (.iload_n 2, 1) := by decide +kernel
theorem dX5_allVoters_21 : decode cX5_allVoters 21 = .ok (.iadd, 1) := by decide +kernel
theorem dX5_allVoters_22 : decode cX5_allVoters 22 = .ok (.iaload, 1) := by decide +kernel
theorem dX5_allVoters_23 : decode cX5_allVoters 23 = .ok (.iadd, 1) := by decide +kernel
theorem dX5_allVoters_24 : decode cX5_allVoters 24 = .ok (.istore_n 1, 1) := by decide +kernel
theorem dX5_allVoters_25 : decode cX5_allVoters 25 = .ok (.iinc 2 1, 3) := by decide +kernel
theorem dX5_allVoters_28 : decode cX5_allVoters 28 = .ok (.goto (-24), 3) := by decide +kernel
theorem dX5_allVoters_31 : decode cX5_allVoters 31 = .ok (.iload_n 1, 1) := by decide +kernel
theorem dX5_allVoters_32 : decode cX5_allVoters 32 = .ok (.ireturn, 1) := by decide +kernel
set_option maxRecDepth 20000 in
theorem ggX5_write_X5_in : GoodIn wsX5_write wsX5_in := goodIn_r _ [6] (by decide +kernel) (by decide +kernel)
set_option maxRecDepth 20000 in
theorem gX5_write_X5_in : GoodIn wsX5_write (va_wsS RX5 48 yX5_in wsX5_in) := goodIn_app (goodIn_of _ (by decide +kernel)) ggX5_write_X5_in
theorem dX5_write_0 : decode cX5_write 0 = .ok (.iload_n 1, 1) := by decide +kernel
theorem dX5_write_1 : decode cX5_write 1 = .ok (.bipush 32, 2) := by decide +kernel
theorem dX5_write_3 : decode cX5_write 3 = .ok (.bipush 126, 2) := by decide +kernel
theorem dX5_write_5 : decode cX5_write 5 = .ok (.invokestatic 48, 3) := by decide +kernel
theorem dX5_write_8 : decode cX5_write 8 = .ok (.ifCond .ne 5, 3) := by decide +kernel
theorem dX5_write_11 : decode cX5_write 11 = .ok (.iconst (-1), 1) := by decide +kernel
theorem dX5_write_12 : decode cX5_write 12 = .ok (.ireturn, 1) := by decide +kernel
theorem dX5_write_13 : decode cX5_write 13 = .ok (.aload_n 0, 1) := by decide +kernel
theorem dX5_write_14 : decode cX5_write 14 = .ok (.getfield 52, 3) := by decide +kernel
theorem dX5_write_17 : decode cX5_write 17 = .ok (.sipush 200, 3) := by decide +kernel
theorem dX5_write_20 : decode cX5_write 20 = .ok (.if_icmp .ne 6, 3) := by decide +kernel
theorem dX5_write_23 : decode cX5_write 23 = .ok (.bipush (-3), 2) := by decide +kernel
theorem dX5_write_25 : decode cX5_write 25 = .ok (.ireturn, 1) := by decide +kernel
theorem dX5_write_26 : decode cX5_write 26 = .ok (.aload_n 0, 1) := by decide +kernel
theorem dX5_write_27 : decode cX5_write 27 = .ok (.getfield 19, 3) := by decide +kernel
theorem dX5_write_30 : decode cX5_write 30 = .ok (.aload_n 0, 1) := by decide +kernel
theorem dX5_write_31 : decode cX5_write 31 = .ok (.getfield 52, 3) := by decide +kernel
theorem dX5_write_34 : decode cX5_write 34 = .ok (.iload_n 1, 1) := by decide +kernel
theorem dX5_write_35 : decode cX5_write 35 = .ok (.iastore, 1) := by decide +kernel
theorem dX5_write_36 : decode cX5_write 36 = .ok (.aload_n 0, 1) := by decide +kernel
theorem dX5_write_37 : decode cX5_write 37 = .ok (.dup, 1) := by decide +kernel
theorem dX5_write_38 : decode cX5_write 38 = .ok (.getfield 52, 3) := by decide +kernel
theorem dX5_write_41 : decode cX5_write 41 = .ok (.iconst 1, 1) := by decide +kernel
theorem dX5_write_42 : decode cX5_write 42 = .ok (.iadd, 1) := by decide +kernel
theorem dX5_write_43 : decode cX5_write 43 = .ok (.putfield 52, 3) := by decide +kernel
theorem dX5_write_46 : decode cX5_write 46 = .ok (.aload_n 0, 1) := by decide +kernel
theorem dX5_write_47 : decode cX5_write 47 = .ok (.getfield 52, 3) := by decide +kernel
theorem dX5_write_50 : decode cX5_write 50 = .ok (.ireturn, 1) := by decide +kernel
theorem dX5_wipe_0 : decode cX5_wipe 0 = .ok (.aload_n 0, 1) := by decide +kernel
theorem dX5_wipe_1 : decode cX5_wipe 1 = .ok (.getfield 52, 3) := by decide +kernel
theorem dX5_wipe_4 : decode cX5_wipe 4 = .ok (.istore_n 1, 1) := by decide +kernel
theorem dX5_wipe_5 : decode cX5_wipe 5 = .ok (.aload_n 0, 1) := by decide +kernel
theorem dX5_wipe_6 : decode cX5_wipe 6 = .ok (.iconst 0, 1) := by decide +kernel
theorem dX5_wipe_7 : decode cX5_wipe 7 = .ok (.putfield 52, 3) := by decide +kernel
theorem dX5_wipe_10 : decode cX5_wipe 10 = .ok (.iload_n 1, 1) := by decide +kernel
theorem dX5_wipe_11 : decode cX5_wipe 11 = .ok (.ireturn, 1) := by decide +kernel
theorem dX5_letterAt_0 : decode cX5_letterAt 0 = .ok (.iload_n 1, 1) := by decide +kernel
theorem dX5_letterAt_1 : decode cX5_letterAt 1 = .ok (.aload_n 0, 1) := by decide +kernel
theorem dX5_letterAt_2 : decode cX5_letterAt 2 = .ok (.getfield 52, 3) := by decide +kernel
theorem dX5_letterAt_5 : decode cX5_letterAt 5 = .ok (.if_icmp .ge 12, 3) := by decide +kernel
theorem dX5_letterAt_8 : decode cX5_letterAt 8 = .ok (.aload_n 0, 1) := by decide +kernel
theorem dX5_letterAt_9 : decode cX5_letterAt 9 = .ok (.getfield 19, 3) := by decide +kernel
theorem dX5_letterAt_12 : decode cX5_letterAt 12 = .ok (.iload_n 1, 1) := by decide +kernel
theorem dX5_letterAt_13 : decode cX5_letterAt 13 = .ok (.iaload, 1) := by decide +kernel
theorem dX5_letterAt_14 : decode cX5_letterAt 14 = .ok (.goto 5, 3) := by decide +kernel
theorem dX5_letterAt_17 : decode cX5_letterAt 17 = .ok (.bipush (-4), 2) := by decide +kernel
theorem dX5_letterAt_19 : decode cX5_letterAt 19 = .ok (.ireturn, 1) := by decide +kernel
set_option maxRecDepth 20000 in
theorem ggX5_takesNumber_X5_letterAt : GoodIn wsX5_takesNumber wsX5_letterAt := goodIn_r _ [8, 9, 3, 13, 14, 15, 16, 17, 18, 19, 20, 21, 22, 23, 24, 25, 26, 27, 28, 29, 30, 31] (by decide +kernel) (by decide +kernel)
set_option maxRecDepth 20000 in
theorem gX5_takesNumber_X5_letterAt : GoodIn wsX5_takesNumber (wsV RX5 62 RX5 yX5_letterAt wsX5_letterAt) := goodIn_app (goodIn_of _ (by decide +kernel)) ggX5_takesNumber_X5_letterAt
set_option maxRecDepth 20000 in
theorem ggX5_takesNumber_X5_in : GoodIn wsX5_takesNumber wsX5_in := goodIn_r _ [12] (by decide +kernel) (by decide +kernel)
set_option maxRecDepth 20000 in
theorem gX5_takesNumber_X5_in : GoodIn wsX5_takesNumber (va_wsS RX5 48 yX5_in wsX5_in) := goodIn_app (goodIn_of _ (by decide +kernel)) ggX5_takesNumber_X5_in
theorem dX5_takesNumber_0 : decode cX5_takesNumber 0 = .ok (.aload_n 0, 1) := by decide +kernel
theorem dX5_takesNumber_1 : decode cX5_takesNumber 1 = .ok (.getfield 56, 3) := by decide +kernel
theorem dX5_takesNumber_4 : decode cX5_takesNumber 4 = .ok (.istore_n 3, 1) := by decide +kernel
theorem dX5_takesNumber_5 : decode cX5_takesNumber 5 = .ok (.aload_n 0, 1) := by decide +kernel
theorem dX5_takesNumber_6 : decode cX5_takesNumber 6 = .ok (.iconst 0, 1) := by decide +kernel
theorem dX5_takesNumber_7 : decode cX5_takesNumber 7 = .ok (.putfield 59, 3) := by decide +kernel
theorem dX5_takesNumber_10 : decode cX5_takesNumber 10 = .ok (.aload_n 0, 1) := by decide +kernel
theorem dX5_takesNumber_11 : decode cX5_takesNumber 11 = .ok (.aload_n 0, 1) := by decide +kernel
theorem dX5_takesNumber_12 : decode cX5_takesNumber 12 = .ok (.getfield 56, 3) := by decide +kernel
theorem dX5_takesNumber_15 : decode cX5_takesNumber 15 = .ok (.invokevirtual 62, 3) := by decide +kernel
theorem dX5_takesNumber_18 : decode cX5_takesNumber 18 = .ok (.bipush 48, 2) := by decide +kernel
theorem dX5_takesNumber_20 : decode cX5_takesNumber 20 = .ok (.bipush 57, 2) := by decide +kernel
theorem dX5_takesNumber_22 : decode cX5_takesNumber 22 = .ok (.invokestatic 48, 3) := by decide +kernel
theorem dX5_takesNumber_25 : decode cX5_takesNumber 25 = .ok (.ifCond .eq 50, 3) := by decide +kernel
theorem dX5_takesNumber_28 : decode cX5_takesNumber 28 = .ok (.aload_n 0, 1) := by decide +kernel
theorem dX5_takesNumber_29 : decode cX5_takesNumber 29 = .ok (.getfield 56, 3) := by decide +kernel
theorem dX5_takesNumber_32 : decode cX5_takesNumber 32 = .ok (.iload_n 3, 1) := by decide +kernel
theorem dX5_takesNumber_33 : decode cX5_takesNumber 33 = .ok (.iconst 2, 1) := by decide +kernel
theorem dX5_takesNumber_34 : decode cX5_takesNumber 34 = .ok (.iadd, 1) := by decide +kernel
theorem dX5_takesNumber_35 : decode cX5_takesNumber 35 = .ok (.if_icmp .ge 40, 3) := by decide +kernel
theorem dX5_takesNumber_38 : decode cX5_takesNumber 38 = .ok (.aload_n 0, 1) := by decide +kernel
theorem dX5_takesNumber_39 : decode cX5_takesNumber 39 = .ok (.bipush 10, 2) := by decide +kernel
theorem dX5_takesNumber_41 : decode cX5_takesNumber 41 = .ok (.aload_n 0, 1) := by decide +kernel
theorem dX5_takesNumber_42 : decode cX5_takesNumber 42 = .ok (.getfield 59, 3) := by decide +kernel
theorem dX5_takesNumber_45 : decode cX5_takesNumber 45 = .ok (.imul, 1) := by decide +kernel
theorem dX5_takesNumber_46 : decode cX5_takesNumber 46 = .ok (.aload_n 0, 1) := by decide +kernel
theorem dX5_takesNumber_47 : decode cX5_takesNumber 47 = .ok (.getfield 19, 3) := by decide +kernel
theorem dX5_takesNumber_50 : decode cX5_takesNumber 50 = .ok (.aload_n 0, 1) := by decide +kernel
theorem dX5_takesNumber_51 : decode cX5_takesNumber 51 = .ok (.getfield 56, 3) := by decide +kernel
theorem dX5_takesNumber_54 : decode cX5_takesNumber 54 = .ok (.iaload, 1) := by decide +kernel
theorem dX5_takesNumber_55 : decode cX5_takesNumber 55 = .ok (.iadd, 1) := by decide +kernel
theorem dX5_takesNumber_56 : decode cX5_takesNumber 56 = .ok (.bipush 48, 2) := by decide +kernel
theorem dX5_takesNumber_58 : decode cX5_takesNumber 58 = .ok (.isub, 1) := by decide +kernel
theorem dX5_takesNumber_59 : decode cX5_takesNumber 59 = .ok (.putfield 59, 3) := by decide +kernel
theorem dX5_takesNumber_62 : decode cX5_takesNumber 62 = .ok (.aload_n 0, 1) := by decide +kernel
theorem dX5_takesNumber_63 : decode cX5_takesNumber 63 = .ok (.dup, 1) := by decide +kernel
theorem dX5_takesNumber_64 : decode cX5_takesNumber 64 = .ok (.getfield 56, 3) := by decide +kernel
theorem dX5_takesNumber_67 : decode cX5_takesNumber 67 = .ok (.iconst 1, 1) := by decide +kernel
theorem dX5_takesNumber_68 : decode cX5_takesNumber 68 = .ok (.iadd, 1) := by decide +kernel
theorem dX5_takesNumber_69 : decode cX5_takesNumber 69 = .ok (.putfield 56, 3) := by decide +kernel
theorem dX5_takesNumber_72 : decode cX5_takesNumber 72 = .ok (.goto (-62), 3) := by decide +kernel
theorem dX5_takesNumber_75 : decode cX5_takesNumber 75 = .ok (.aload_n 0, 1) := by decide +kernel
theorem dX5_takesNumber_76 : decode cX5_takesNumber 76 = .ok (.getfield 56, 3) := by decide +kernel
theorem dX5_takesNumber_79 : decode cX5_takesNumber 79 = .ok (.iload_n 3, 1) := by decide +kernel
theorem dX5_takesNumber_80 : decode cX5_takesNumber 80 = .ok (.if_icmp .le 19, 3) := by decide +kernel
theorem dX5_takesNumber_83 : decode cX5_takesNumber 83 = .ok (.aload_n 0, 1) := by decide +kernel
theorem dX5_takesNumber_84 : decode cX5_takesNumber 84 = .ok (.getfield 59, 3) := by decide +kernel
theorem dX5_takesNumber_87 : decode cX5_takesNumber 87 = .ok (.iload_n 1, 1) := by decide +kernel
theorem dX5_takesNumber_88 : decode cX5_takesNumber 88 = .ok (.iload_n 2, 1) := by decide +kernel
theorem dX5_takesNumber_89 : decode cX5_takesNumber 89 = .ok (.invokestatic 48, 3) := by decide +kernel
theorem dX5_takesNumber_92 : decode cX5_takesNumber 92 = .ok (.ifCond .eq 7, 3) := by decide +kernel
theorem dX5_takesNumber_95 : decode cX5_takesNumber 95 = .ok (.iconst 1, 1) := by decide +kernel
theorem dX5_takesNumber_96 : decode cX5_takesNumber 96 = .ok (.goto 4, 3) := by decide +kernel
theorem dX5_takesNumber_99 : decode cX5_takesNumber 99 = .ok (.iconst 0, 1) := by decide +kernel
theorem dX5_takesNumber_100 : decode cX5_takesNumber 100 = .ok (.ireturn, 1) := by decide +kernel
set_option maxRecDepth 20000 in
theorem ggX5_takes_X5_letterAt : GoodIn wsX5_takes wsX5_letterAt := goodIn_r _ [6, 7, 8, 9, 10, 11, 12, 13, 14, 15, 16, 17, 18, 19, 20, 21, 22, 23, 24, 25, 26, 27] (by decide +kernel) (by decide +kernel)
set_option maxRecDepth 20000 in
theorem gX5_takes_X5_letterAt : GoodIn wsX5_takes (wsV RX5 62 RX5 yX5_letterAt wsX5_letterAt) := goodIn_app (goodIn_of _ (by decide +kernel)) ggX5_takes_X5_letterAt
theorem dX5_takes_0 : decode cX5_takes 0 = .ok (.aload_n 0, 1) := by decide +kernel
theorem dX5_takes_1 : decode cX5_takes 1 = .ok (.aload_n 0, 1) := by decide +kernel
theorem dX5_takes_2 : decode cX5_takes 2 = .ok (.getfield 56, 3) := by decide +kernel
theorem dX5_takes_5 : decode cX5_takes 5 = .ok (.invokevirtual 62, 3) := by decide +kernel
theorem dX5_takes_8 : decode cX5_takes 8 = .ok (.iload_n 1, 1) := by decide +kernel
theorem dX5_takes_9 : decode cX5_takes 9 = .ok (.if_icmp .ne 7, 3) := by decide +kernel
theorem dX5_takes_12 : decode cX5_takes 12 = .ok (.iconst 1, 1) := by decide +kernel
theorem dX5_takes_13 : decode cX5_takes 13 = .ok (.goto 4, 3) := by decide +kernel
theorem dX5_takes_16 : decode cX5_takes 16 = .ok (.iconst 0, 1) := by decide +kernel
theorem dX5_takes_17 : decode cX5_takes 17 = .ok (.istore_n 2, 1) := by decide +kernel
theorem dX5_takes_18 : decode cX5_takes 18 = .ok (.aload_n 0, 1) := by decide +kernel
theorem dX5_takes_19 : decode cX5_takes 19 = .ok (.dup, 1) := by decide +kernel
theorem dX5_takes_20 : decode cX5_takes 20 = .ok (.getfield 56, 3) := by decide +kernel
theorem dX5_takes_23 : decode cX5_takes 23 = .ok (.iload_n 2, 1) := by decide +kernel
theorem dX5_takes_24 : decode cX5_takes 24 = .ok (.ifCond .eq 7, 3) := by decide +kernel
theorem dX5_takes_27 : decode cX5_takes 27 = .ok (.iconst 1, 1) := by decide +kernel
theorem dX5_takes_28 : decode cX5_takes 28 = .ok (.goto 4, 3) := by decide +kernel
theorem dX5_takes_31 : decode cX5_takes 31 = .ok (.iconst 0, 1) := by decide +kernel
theorem dX5_takes_32 : decode cX5_takes 32 = .ok (.iadd, 1) := by decide +kernel
theorem dX5_takes_33 : decode cX5_takes 33 = .ok (.putfield 56, 3) := by decide +kernel
theorem dX5_takes_36 : decode cX5_takes 36 = .ok (.iload_n 2, 1) := by decide +kernel
theorem dX5_takes_37 : decode cX5_takes 37 = .ok (.ireturn, 1) := by decide +kernel
set_option maxRecDepth 20000 in
theorem ggX5_isName_X5_letterAt : GoodIn wsX5_isName wsX5_letterAt := goodIn_r _ [7, 8, 9, 13, 14, 15, 16, 17, 18, 19, 20, 21, 22, 23, 24, 25, 26, 27, 28, 29, 30, 31] (by decide +kernel) (by decide +kernel)
set_option maxRecDepth 20000 in
theorem gX5_isName_X5_letterAt : GoodIn wsX5_isName (wsV RX5 62 RX5 yX5_letterAt wsX5_letterAt) := goodIn_app (goodIn_of _ (by decide +kernel)) ggX5_isName_X5_letterAt
set_option maxRecDepth 20000 in
theorem ggX5_isName_X5_in : GoodIn wsX5_isName wsX5_in := goodIn_r _ [12] (by decide +kernel) (by decide +kernel)
set_option maxRecDepth 20000 in
theorem gX5_isName_X5_in : GoodIn wsX5_isName (va_wsS RX5 48 yX5_in wsX5_in) := goodIn_app (goodIn_of _ (by decide +kernel)) ggX5_isName_X5_in
theorem dX5_isName_0 : decode cX5_isName 0 = .ok (.aload_n 0, 1) := by decide +kernel
theorem dX5_isName_1 : decode cX5_isName 1 = .ok (.aload_n 0, 1) := by decide +kernel
theorem dX5_isName_2 : decode cX5_isName 2 = .ok (.getfield 56, 3) := by decide +kernel
theorem dX5_isName_5 : decode cX5_isName 5 = .ok (.invokevirtual 62, 3) := by decide +kernel
theorem dX5_isName_8 : decode cX5_isName 8 = .ok (.bipush 97, 2) := by decide +kernel
theorem dX5_isName_10 : decode cX5_isName 10 = .ok (.bipush 97, 2) := by decide +kernel
theorem dX5_isName_12 : decode cX5_isName 12 = .ok (.aload_n 0, 1) := by decide +kernel
theorem dX5_isName_13 : decode cX5_isName 13 = .ok (.getfield 13, 3) := by decide +kernel
theorem dX5_isName_16 : decode cX5_isName 16 = .ok (.iconst 0, 1) := by decide +kernel
theorem dX5_isName_17 : decode cX5_isName 17 = .ok (.iaload, 1) := by decide +kernel
theorem dX5_isName_18 : decode cX5_isName 18 = .ok (.iadd, 1) := by decide +kernel
theorem dX5_isName_19 : decode cX5_isName 19 = .ok (.iconst 1, 1) := by decide +kernel
theorem dX5_isName_20 : decode cX5_isName 20 = .ok (.isub, 1) := by decide +kernel
theorem dX5_isName_21 : decode cX5_isName 21 = .ok (.invokestatic 48, 3) := by decide +kernel
theorem dX5_isName_24 : decode cX5_isName 24 = .ok (.ireturn, 1) := by decide +kernel
set_option maxRecDepth 20000 in
theorem ggX5_takesSet_X5_isName : GoodIn wsX5_takesSet wsX5_isName := goodIn_r _ [8, 3, 9, 10, 11, 12, 7, 13, 14, 2, 15, 16, 17, 18, 19, 20, 21, 22, 23, 24, 25, 26, 27, 28, 29, 30, 31, 32, 33, 34, 35, 36] (by decide +kernel) (by decide +kernel)
set_option maxRecDepth 20000 in
theorem gX5_takesSet_X5_isName : GoodIn wsX5_takesSet (wsV RX5 66 RX5 yX5_isName wsX5_isName) := goodIn_app (goodIn_of _ (by decide +kernel)) ggX5_takesSet_X5_isName
theorem dX5_takesSet_0 : decode cX5_takesSet 0 = .ok (.aload_n 0, 1) := by decide +kernel
theorem dX5_takesSet_1 : decode cX5_takesSet 1 = .ok (.iconst 0, 1) := by decide +kernel
theorem dX5_takesSet_2 : decode cX5_takesSet 2 = .ok (.putfield 59, 3) := by decide +kernel
theorem dX5_takesSet_5 : decode cX5_takesSet 5 = .ok (.iconst (-1), 1) := by decide +kernel
theorem dX5_takesSet_6 : decode cX5_takesSet 6 = .ok (.istore_n 1, 1) := by decide +kernel
theorem dX5_takesSet_7 : decode cX5_takesSet 7 = .ok (.aload_n 0, 1) := by decide +kernel
theorem dX5_takesSet_8 : decode cX5_takesSet 8 = .ok (.invokevirtual 66, 3) := by decide +kernel
theorem dX5_takesSet_11 : decode cX5_takesSet 11 = .ok (.ifCond .eq 57, 3) := by decide +kernel
theorem dX5_takesSet_14 : decode cX5_takesSet 14 = .ok (.aload_n 0, 1) := by decide +kernel
theorem dX5_takesSet_15 : decode cX5_takesSet 15 = .ok (.getfield 19, 3) := by decide +kernel
theorem dX5_takesSet_18 : decode cX5_takesSet 18 = .ok (.aload_n 0, 1) := by decide +kernel
theorem dX5_takesSet_19 : decode cX5_takesSet 19 = .ok (.getfield 56, 3) := by decide +kernel
theorem dX5_takesSet_22 : decode cX5_takesSet 22 = .ok (.iaload, 1) := by decide +kernel
theorem dX5_takesSet_23 : decode cX5_takesSet 23 = .ok (.bipush 97, 2) := by decide +kernel
theorem dX5_takesSet_25 : decode cX5_takesSet 25 = .ok (.isub, 1) := by decide +kernel
theorem dX5_takesSet_26 : decode cX5_takesSet 26 = .ok (.iload_n 1, 1) := by decide +kernel
theorem dX5_takesSet_27 : decode cX5_takesSet 27 = .ok (.if_icmp .le 41, 3) := by decide +kernel
theorem dX5_takesSet_30 : decode cX5_takesSet 30 = .ok (.aload_n 0, 1) := by decide +kernel
theorem dX5_takesSet_31 : decode cX5_takesSet 31 = .ok (.getfield 19, 3) := by decide +kernel
theorem dX5_takesSet_34 : decode cX5_takesSet 34 = .ok (.aload_n 0, 1) := by decide +kernel
theorem dX5_takesSet_35 : decode cX5_takesSet 35 = .ok (.getfield 56, 3) := by decide +kernel
theorem dX5_takesSet_38 : decode cX5_takesSet 38 = .ok (.iaload, 1) := by decide +kernel
theorem dX5_takesSet_39 : decode cX5_takesSet 39 = .ok (.bipush 97, 2) := by decide +kernel
theorem dX5_takesSet_41 : decode cX5_takesSet 41 = .ok (.isub, 1) := by decide +kernel
theorem dX5_takesSet_42 : decode cX5_takesSet 42 = .ok (.istore_n 1, 1) := by decide +kernel
theorem dX5_takesSet_43 : decode cX5_takesSet 43 = .ok (.aload_n 0, 1) := by decide +kernel
theorem dX5_takesSet_44 : decode cX5_takesSet 44 = .ok (.dup, 1) := by decide +kernel
theorem dX5_takesSet_45 : decode cX5_takesSet 45 = .ok (.getfield 59, 3) := by decide +kernel
theorem dX5_takesSet_48 : decode cX5_takesSet 48 = .ok (.iconst 1, 1) := by decide +kernel
theorem dX5_takesSet_49 : decode cX5_takesSet 49 = .ok (.iload_n 1, 1) := by decide +kernel
theorem dX5_takesSet_50 : decode cX5_takesSet 50 = .ok (.ishl, 1) := by decide +kernel
theorem dX5_takesSet_51 : decode cX5_takesSet 51 = .ok (.ior, 1) := by decide +kernel
theorem dX5_takesSet_52 : decode cX5_takesSet 52 = .ok (.putfield 59, 3) := by decide +kernel
theorem dX5_takesSet_55 : decode cX5_takesSet 55 = .ok (.aload_n 0, 1) := by decide +kernel
theorem dX5_takesSet_56 : decode cX5_takesSet 56 = .ok (.dup, 1) := by decide +kernel
theorem dX5_takesSet_57 : decode cX5_takesSet 57 = .ok (.getfield 56, 3) := by decide +kernel
theorem dX5_takesSet_60 : decode cX5_takesSet 60 = .ok (.iconst 1, 1) := by decide +kernel
theorem dX5_takesSet_61 : decode cX5_takesSet 61 = .ok (.iadd, 1) := by decide +kernel
theorem dX5_takesSet_62 : decode cX5_takesSet 62 = .ok (.putfield 56, 3) := by decide +kernel
theorem dX5_takesSet_65 : decode cX5_takesSet 65 = .ok (.goto (-58), 3) := by decide +kernel
theorem dX5_takesSet_68 : decode cX5_takesSet 68 = .ok (.aload_n 0, 1) := by decide +kernel
theorem dX5_takesSet_69 : decode cX5_takesSet 69 = .ok (.getfield 59, 3) := by decide +kernel
theorem dX5_takesSet_72 : decode cX5_takesSet 72 = .ok (.ifCond .le 7, 3) := by decide +kernel
theorem dX5_takesSet_75 : decode cX5_takesSet 75 = .ok (.iconst 1, 1) := by decide +kernel
theorem dX5_takesSet_76 : decode cX5_takesSet 76 = .ok (.goto 4, 3) := by decide +kernel
theorem dX5_takesSet_79 : decode cX5_takesSet 79 = .ok (.iconst 0, 1) := by decide +kernel
theorem dX5_takesSet_80 : decode cX5_takesSet 80 = .ok (.ireturn, 1) := by decide +kernel
theorem dX5_readVoters_0 : decode cX5_readVoters 0 = .ok (.iconst 0, 1) := by decide +kernel
theorem dX5_readVoters_1 : decode cX5_readVoters 1 = .ok (.istore_n 1, 1) := by decide +kernel
theorem dX5_readVoters_2 : decode cX5_readVoters 2 = .ok (.iconst 0, 1) := by decide +kernel
theorem dX5_readVoters_3 : decode cX5_readVoters 3 = .ok (.istore_n 2, 1) := by decide +kernel
theorem dX5_readVoters_4 : decode cX5_readVoters 4 = .ok (.iload_n 2, 1) := by decide +kernel
theorem dX5_readVoters_5 : decode cX5_readVoters 5 = .ok (.aload_n 0, 1) := by decide +kernel
theorem dX5_readVoters_6 : decode cX5_readVoters 6 = .ok (.getfield 13, 3) := by decide +kernel
theorem dX5_readVoters_9 : decode cX5_readVoters 9 = .ok (.iconst 1, 1) := by decide +kernel
theorem dX5_readVoters_10 : decode cX5_readVoters 10 = .ok (.iaload, 1) := by decide +kernel
theorem dX5_readVoters_11 : decode cX5_readVoters 11 = .ok (.if_icmp .ge 20, 3) := by decide +kernel
theorem dX5_readVoters_14 : decode cX5_readVoters 14 = .ok (.iload_n 1, 1) := by decide +kernel
theorem dX5_readVoters_15 : decode cX5_readVoters 15 = .ok (.aload_n 0, 1) := by decide +kernel
theorem dX5_readVoters_16 : decode cX5_readVoters 16 = .ok (.getfield 13, 3) := by decide +kernel
theorem dX5_readVoters_19 : decode cX5_readVoters 19 = .ok (.iconst 2, 1) := by decide +kernel
theorem dX5_readVoters_20 : decode cX5_readVoters 20 = .ok (.iload_n 2, 1) := by decide +kernel
theorem dX5_readVoters_21 : decode cX5_readVoters 21 = .ok (.iadd, 1) := by decide +kernel
theorem dX5_readVoters_22 : decode cX5_readVoters 22 = .ok (.iaload, 1) := by decide +kernel
theorem dX5_readVoters_23 : decode cX5_readVoters 23 = .ok (.iadd, 1) := by decide +kernel
theorem dX5_readVoters_24 : decode cX5_readVoters 24 = .ok (.istore_n 1, 1) := by decide +kernel
theorem dX5_readVoters_25 : decode cX5_readVoters 25 = .ok (.iinc 2 1, 3) := by decide +kernel
theorem dX5_readVoters_28 : decode cX5_readVoters 28 = .ok (.goto (-24), 3) := by decide +kernel
theorem dX5_readVoters_31 : decode cX5_readVoters 31 = .ok (.iload_n 1, 1) := by decide +kernel
theorem dX5_readVoters_32 : decode cX5_readVoters 32 = .ok (.ireturn, 1) := by decide +kernel
set_option maxRecDepth 20000 in
theorem ggX5_takesBallot_X5_takesNumber : GoodIn wsX5_takesBallot wsX5_takesNumber := goodIn_r _ [7, 8, 2, 9, 10, 11, 12, 6, 13, 14, 15, 16, 17, 34, 35, 36, 37, 38, 39, 40, 41, 42, 43, 44, 45, 46, 47, 48, 49, 50, 51, 52] (by decide +kernel) (by decide +kernel)
set_option maxRecDepth 20000 in
theorem gX5_takesBallot_X5_takesNumber : GoodIn wsX5_takesBallot (wsV RX5 70 RX5 yX5_takesNumber wsX5_takesNumber) := goodIn_app (goodIn_of _ (by decide +kernel)) ggX5_takesBallot_X5_takesNumber
set_option maxRecDepth 20000 in
theorem ggX5_takesBallot_X5_takes : GoodIn wsX5_takesBallot wsX5_takes := goodIn_r _ [21, 8, 10, 11, 12, 6, 13, 14, 9, 34, 35, 36, 37, 38, 39, 40, 41, 42, 43, 44, 45, 46, 47, 48, 49, 50, 51, 52] (by decide +kernel) (by decide +kernel)
set_option maxRecDepth 20000 in
theorem gX5_takesBallot_X5_takes : GoodIn wsX5_takesBallot (wsV RX5 74 RX5 yX5_takes wsX5_takes) := goodIn_app (goodIn_of _ (by decide +kernel)) ggX5_takesBallot_X5_takes
set_option maxRecDepth 20000 in
theorem ggX5_takesBallot_X5_takesSet : GoodIn wsX5_takesBallot wsX5_takesSet := goodIn_r _ [25, 2, 9, 8, 26, 27, 28, 6, 29, 1, 10, 11, 12, 13, 14, 15, 16, 17, 34, 35, 36, 37, 38, 39, 40, 41, 42, 43, 44, 45, 46, 47, 48, 49, 50, 51, 52] (by decide +kernel) (by decide +kernel)
set_option maxRecDepth 20000 in
theorem gX5_takesBallot_X5_takesSet : GoodIn wsX5_takesBallot (wsV RX5 78 RX5 yX5_takesSet wsX5_takesSet) := goodIn_app (goodIn_of _ (by decide +kernel)) ggX5_takesBallot_X5_takesSet
set_option maxRecDepth 20000 in
theorem ggX5_takesBallot_X5_readVoters : GoodIn wsX5_takesBallot wsX5_readVoters := goodIn_r _ [33, 1, 34, 35, 36, 37, 38, 39, 40, 41, 42, 43, 44, 45, 46, 47, 48, 49, 50, 51, 52] (by decide +kernel) (by decide +kernel)
set_option maxRecDepth 20000 in
theorem gX5_takesBallot_X5_readVoters : GoodIn wsX5_takesBallot (wsV RX5 81 RX5 yX5_readVoters wsX5_readVoters) := goodIn_app (goodIn_of _ (by decide +kernel)) ggX5_takesBallot_X5_readVoters
theorem dX5_takesBallot_0 : decode cX5_takesBallot 0 = .ok (.aload_n 0, 1) := by decide +kernel
theorem dX5_takesBallot_1 : decode cX5_takesBallot 1 = .ok (.iconst 1, 1) := by decide +kernel
theorem dX5_takesBallot_2 : decode cX5_takesBallot 2 = .ok (.bipush 20, 2) := by decide +kernel
theorem dX5_takesBallot_4 : decode cX5_takesBallot 4 = .ok (.invokevirtual 70, 3) := by decide +kernel
theorem dX5_takesBallot_7 : decode cX5_takesBallot 7 = .ok (.ifCond .eq 14, 3) := by decide +kernel
theorem dX5_takesBallot_10 : decode cX5_takesBallot 10 = .ok (.aload_n 0, 1) := by decide +kernel
theorem dX5_takesBallot_11 : decode cX5_takesBallot 11 = .ok (.getfield 13, 3) := by decide +kernel
theorem dX5_takesBallot_14 : decode cX5_takesBallot 14 = .ok (.iconst 1, 1) := by decide +kernel
theorem dX5_takesBallot_15 : decode cX5_takesBallot 15 = .ok (.iaload, 1) := by decide +kernel
theorem dX5_takesBallot_16 : decode cX5_takesBallot 16 = .ok (.bipush 10, 2) := by decide +kernel
theorem dX5_takesBallot_18 : decode cX5_takesBallot 18 = .ok (.if_icmp .ne 5, 3) := by decide +kernel
theorem dX5_takesBallot_21 : decode cX5_takesBallot 21 = .ok (.iconst 0, 1) := by decide +kernel
theorem dX5_takesBallot_22 : decode cX5_takesBallot 22 = .ok (.ireturn, 1) := by decide +kernel
theorem dX5_takesBallot_23 : decode cX5_takesBallot 23 = .ok (.aload_n 0, 1) := by decide +kernel
theorem dX5_takesBallot_24 : decode cX5_takesBallot 24 = .ok (.getfield 59, 3) := by decide +kernel
theorem dX5_takesBallot_27 : decode cX5_takesBallot 27 = .ok (.istore_n 1, 1) := by decide +kernel
theorem dX5_takesBallot_28 : decode cX5_takesBallot 28 = .ok (.aload_n 0, 1) := by decide +kernel
theorem dX5_takesBallot_29 : decode cX5_takesBallot 29 = .ok (.bipush 44, 2) := by decide +kernel
theorem dX5_takesBallot_31 : decode cX5_takesBallot 31 = .ok (.invokevirtual 74, 3) := by decide +kernel
theorem dX5_takesBallot_34 : decode cX5_takesBallot 34 = .ok (.ifCond .eq 21, 3) := by decide +kernel
theorem dX5_takesBallot_37 : decode cX5_takesBallot 37 = .ok (.aload_n 0, 1) := by decide +kernel
theorem dX5_takesBallot_38 : decode cX5_takesBallot 38 = .ok (.invokevirtual 78, 3) := by decide +kernel
theorem dX5_takesBallot_41 : decode cX5_takesBallot 41 = .ok (.ifCond .eq 14, 3) := by decide +kernel
theorem dX5_takesBallot_44 : decode cX5_takesBallot 44 = .ok (.aload_n 0, 1) := by decide +kernel
theorem dX5_takesBallot_45 : decode cX5_takesBallot 45 = .ok (.invokevirtual 81, 3) := by decide +kernel
theorem dX5_takesBallot_48 : decode cX5_takesBallot 48 = .ok (.iload_n 1, 1) := by decide +kernel
theorem dX5_takesBallot_49 : decode cX5_takesBallot 49 = .ok (.iadd, 1) := by decide +kernel
theorem dX5_takesBallot_50 : decode cX5_takesBallot 50 = .ok (.bipush 40, 2) := by decide +kernel
theorem dX5_takesBallot_52 : decode cX5_takesBallot 52 = .ok (.if_icmp .le 5, 3) := by decide +kernel
theorem dX5_takesBallot_55 : decode cX5_takesBallot 55 = .ok (.iconst 0, 1) := by decide +kernel
theorem dX5_takesBallot_56 : decode cX5_takesBallot 56 = .ok (.ireturn, 1) := by decide +kernel
theorem dX5_takesBallot_57 : decode cX5_takesBallot 57 = .ok (.aload_n 0, 1) := by decide +kernel
theorem dX5_takesBallot_58 : decode cX5_takesBallot 58 = .ok (.getfield 13, 3) := by decide +kernel
theorem dX5_takesBallot_61 : decode cX5_takesBallot 61 = .ok (.iconst 2, 1) := by decide +kernel
theorem dX5_takesBallot_62 : decode cX5_takesBallot 62 = .ok (.aload_n 0, 1) := by decide +kernel
theorem dX5_takesBallot_63 : decode cX5_takesBallot 63 = .ok (.getfield 13, 3) := by decide +kernel
theorem dX5_takesBallot_66 : decode cX5_takesBallot 66 = .ok (.iconst 1, 1) := by decide +kernel
theorem dX5_takesBallot_67 : decode cX5_takesBallot 67 = .ok (.iaload, 1) := by decide +kernel
theorem dX5_takesBallot_68 : decode cX5_takesBallot 68 = .ok (.iadd, 1) := by decide +kernel
theorem dX5_takesBallot_69 : decode cX5_takesBallot 69 = .ok (.iload_n 1, 1) := by decide +kernel
theorem dX5_takesBallot_70 : decode cX5_takesBallot 70 = .ok (.iastore, 1) := by decide +kernel
theorem dX5_takesBallot_71 : decode cX5_takesBallot 71 = .ok (.aload_n 0, 1) := by decide +kernel
theorem dX5_takesBallot_72 : decode cX5_takesBallot 72 = .ok (.getfield 13, 3) := by decide +kernel
theorem dX5_takesBallot_75 : decode cX5_takesBallot 75 = .ok (.bipush 12, 2) := by decide +kernel
theorem dX5_takesBallot_77 : decode cX5_takesBallot 77 = .ok (.aload_n 0, 1) := by decide +kernel
theorem dX5_takesBallot_78 : decode cX5_takesBallot 78 = .ok (.getfield 13, 3) := by decide +kernel
theorem dX5_takesBallot_81 : decode cX5_takesBallot 81 = .ok (.iconst 1, 1) := by decide +kernel
theorem dX5_takesBallot_82 : decode cX5_takesBallot 82 = .ok (.iaload, 1) := by decide +kernel
theorem dX5_takesBallot_83 : decode cX5_takesBallot 83 = .ok (.iadd, 1) := by decide +kernel
theorem dX5_takesBallot_84 : decode cX5_takesBallot 84 = .ok (.aload_n 0, 1) := by decide +kernel
theorem dX5_takesBallot_85 : decode cX5_takesBallot 85 = .ok (.getfield 59, 3) := by decide +kernel
theorem dX5_takesBallot_88 : decode cX5_takesBallot 88 = .ok (.iastore, 1) := by decide +kernel
theorem dX5_takesBallot_89 : decode cX5_takesBallot 89 = .ok (.aload_n 0, 1) := by decide +kernel
theorem dX5_takesBallot_90 : decode cX5_takesBallot 90 = .ok (.getfield 13, 3) := by decide +kernel
theorem dX5_takesBallot_93 : decode cX5_takesBallot 93 = .ok (.iconst 1, 1) := by decide +kernel
theorem dX5_takesBallot_94 : decode cX5_takesBallot 94 = .ok (.dup2, 1) := by decide +kernel
theorem dX5_takesBallot_95 : decode cX5_takesBallot 95 = .ok (.iaload, 1) := by decide +kernel
theorem dX5_takesBallot_96 : decode cX5_takesBallot 96 = .ok (.iconst 1, 1) := by decide +kernel
theorem dX5_takesBallot_97 : decode cX5_takesBallot 97 = .ok (.iadd, 1) := by decide +kernel
theorem dX5_takesBallot_98 : decode cX5_takesBallot 98 = .ok (.iastore, 1) := by decide +kernel
theorem dX5_takesBallot_99 : decode cX5_takesBallot 99 = .ok (.iconst 1, 1) := by decide +kernel
theorem dX5_takesBallot_100 : decode cX5_takesBallot 100 = .ok (.ireturn, 1) := by decide +kernel
set_option maxRecDepth 20000 in
theorem ggX5_takesRank_X5_isName : GoodIn wsX5_takesRank wsX5_isName := goodIn_r _ [8, 3, 1, 9, 10, 11, 7, 12, 13, 2, 14, 15, 16, 20, 21, 22, 23, 24, 25, 26, 27, 28, 29, 30, 31, 32, 33, 34, 35, 36, 37, 38] (by decide +kernel) (by decide +kernel)
set_option maxRecDepth 20000 in
theorem gX5_takesRank_X5_isName : GoodIn wsX5_takesRank (wsV RX5 66 RX5 yX5_isName wsX5_isName) := goodIn_app (goodIn_of _ (by decide +kernel)) ggX5_takesRank_X5_isName
set_option maxRecDepth 20000 in
theorem ggX5_takesRank_X5_has : GoodIn wsX5_takesRank wsX5_has := goodIn_r _ [19] (by decide +kernel) (by decide +kernel)
set_option maxRecDepth 20000 in
theorem gX5_takesRank_X5_has : GoodIn wsX5_takesRank (va_wsS RX5 85 yX5_has wsX5_has) := goodIn_app (goodIn_of _ (by decide +kernel)) ggX5_takesRank_X5_has
theorem dX5_takesRank_0 : decode cX5_takesRank 0 = .ok (.iconst 0, 1) := by decide +kernel
theorem dX5_takesRank_1 : decode cX5_takesRank 1 = .ok (.istore_n 1, 1) := by decide +kernel
theorem dX5_takesRank_2 : decode cX5_takesRank 2 = .ok (.iconst 0, 1) := by decide +kernel
theorem dX5_takesRank_3 : decode cX5_takesRank 3 = .ok (.istore_n 2, 1) := by decide +kernel
theorem dX5_takesRank_4 : decode cX5_takesRank 4 = .ok (.iload_n 2, 1) := by decide +kernel
theorem dX5_takesRank_5 : decode cX5_takesRank 5 = .ok (.aload_n 0, 1) := by decide +kernel
theorem dX5_takesRank_6 : decode cX5_takesRank 6 = .ok (.getfield 13, 3) := by decide +kernel
theorem dX5_takesRank_9 : decode cX5_takesRank 9 = .ok (.iconst 0, 1) := by decide +kernel
theorem dX5_takesRank_10 : decode cX5_takesRank 10 = .ok (.iaload, 1) := by decide +kernel
theorem dX5_takesRank_11 : decode cX5_takesRank 11 = .ok (.if_icmp .ge 82, 3) := by decide +kernel
theorem dX5_takesRank_14 : decode cX5_takesRank 14 = .ok (.aload_n 0, 1) := by decide +kernel
theorem dX5_takesRank_15 : decode cX5_takesRank 15 = .ok (.invokevirtual 66, 3) := by decide +kernel
theorem dX5_takesRank_18 : decode cX5_takesRank 18 = .ok (.ifCond .eq 22, 3) := by decide +kernel
theorem dX5_takesRank_21 : decode cX5_takesRank 21 = .ok (.iload_n 1, 1) := by decide +kernel
theorem dX5_takesRank_22 : decode cX5_takesRank 22 = .ok (.aload_n 0, 1) := by decide +kernel
theorem dX5_takesRank_23 : decode cX5_takesRank 23 = .ok (.getfield 19, 3) := by decide +kernel
theorem dX5_takesRank_26 : decode cX5_takesRank 26 = .ok (.aload_n 0, 1) := by decide +kernel
theorem dX5_takesRank_27 : decode cX5_takesRank 27 = .ok (.getfield 56, 3) := by decide +kernel
theorem dX5_takesRank_30 : decode cX5_takesRank 30 = .ok (.iaload, 1) := by decide +kernel
theorem dX5_takesRank_31 : decode cX5_takesRank 31 = .ok (.bipush 97, 2) := by decide +kernel
theorem dX5_takesRank_33 : decode cX5_takesRank 33 = .ok (.isub, 1) := by decide +kernel
theorem dX5_takesRank_34 : decode cX5_takesRank 34 = .ok (.invokestatic 85, 3) := by decide +kernel
theorem dX5_takesRank_37 : decode cX5_takesRank 37 = .ok (.ifCond .eq 5, 3) := by decide +kernel
theorem dX5_takesRank_40 : decode cX5_takesRank 40 = .ok (.iconst 0, 1) := by decide +kernel
theorem dX5_takesRank_41 : decode cX5_takesRank 41 = .ok (.ireturn, 1) := by decide +kernel
theorem dX5_takesRank_42 : decode cX5_takesRank 42 = .ok (.aload_n 0, 1) := by decide +kernel
theorem dX5_takesRank_43 : decode cX5_takesRank 43 = .ok (.getfield 13, 3) := by decide +kernel
theorem dX5_takesRank_46 : decode cX5_takesRank 46 = .ok (.bipush 24, 2) := by decide +kernel
theorem dX5_takesRank_48 : decode cX5_takesRank 48 = .ok (.iload_n 2, 1) := by decide +kernel
theorem dX5_takesRank_49 : decode cX5_takesRank 49 = .ok (.iadd, 1) := by decide +kernel
theorem dX5_takesRank_50 : decode cX5_takesRank 50 = .ok (.aload_n 0, 1) := by decide +kernel
theorem dX5_takesRank_51 : decode cX5_takesRank 51 = .ok (.getfield 19, 3) := by decide +kernel
theorem dX5_takesRank_54 : decode cX5_takesRank 54 = .ok (.aload_n 0, 1) := by decide +kernel
theorem dX5_takesRank_55 : decode cX5_takesRank 55 = .ok (.getfield 56, 3) := by decide +kernel
theorem dX5_takesRank_58 : decode cX5_takesRank 58 = .ok (.iaload, 1) := by decide +kernel
theorem dX5_takesRank_59 : decode cX5_takesRank 59 = .ok (.bipush 97, 2) := by decide +kernel
theorem dX5_takesRank_61 : decode cX5_takesRank 61 = .ok (.isub, 1) := by decide +kernel
theorem dX5_takesRank_62 : decode cX5_takesRank 62 = .ok (.iastore, 1) := by decide +kernel
theorem dX5_takesRank_63 : decode cX5_takesRank 63 = .ok (.iload_n 1, 1) := by decide +kernel
theorem dX5_takesRank_64 : decode cX5_takesRank 64 = .ok (.iconst 1, 1) := by decide +kernel
theorem dX5_takesRank_65 : decode cX5_takesRank 65 = .ok (.aload_n 0, 1) := by decide +kernel
theorem dX5_takesRank_66 : decode cX5_takesRank 66 = .ok (.getfield 13, 3) := by decide +kernel
theorem dX5_takesRank_69 : decode cX5_takesRank 69 = .ok (.bipush 24, 2) := by decide +kernel
theorem dX5_takesRank_71 : decode cX5_takesRank 71 = .ok (.iload_n 2, 1) := by decide +kernel
theorem dX5_takesRank_72 : decode cX5_takesRank 72 = .ok (.iadd, 1) := by decide +kernel
theorem dX5_takesRank_73 : decode cX5_takesRank 73 = .ok (.iaload, 1) := by decide +kernel
theorem dX5_takesRank_74 : decode cX5_takesRank 74 = .ok (.ishl, 1) := by decide +kernel
theorem dX5_takesRank_75 : decode cX5_takesRank 75 = .ok (.ior, 1) := by decide +kernel
theorem dX5_takesRank_76 : decode cX5_takesRank 76 = .ok (.istore_n 1, 1) := by decide +kernel
theorem dX5_takesRank_77 : decode cX5_takesRank 77 = .ok (.aload_n 0, 1) := by decide +kernel
theorem dX5_takesRank_78 : decode cX5_takesRank 78 = .ok (.dup, 1) := by decide +kernel
theorem dX5_takesRank_79 : decode cX5_takesRank 79 = .ok (.getfield 56, 3) := by decide +kernel
theorem dX5_takesRank_82 : decode cX5_takesRank 82 = .ok (.iconst 1, 1) := by decide +kernel
theorem dX5_takesRank_83 : decode cX5_takesRank 83 = .ok (.iadd, 1) := by decide +kernel
theorem dX5_takesRank_84 : decode cX5_takesRank 84 = .ok (.putfield 56, 3) := by decide +kernel
theorem dX5_takesRank_87 : decode cX5_takesRank 87 = .ok (.iinc 2 1, 3) := by decide +kernel
theorem dX5_takesRank_90 : decode cX5_takesRank 90 = .ok (.goto (-86), 3) := by decide +kernel
theorem dX5_takesRank_93 : decode cX5_takesRank 93 = .ok (.iconst 1, 1) := by decide +kernel
theorem dX5_takesRank_94 : decode cX5_takesRank 94 = .ok (.ireturn, 1) := by decide +kernel
set_option maxRecDepth 20000 in
theorem ggX5_takesCandidates_X5_takesNumber : GoodIn wsX5_takesCandidates wsX5_takesNumber := goodIn_r _ [7, 8, 2, 9, 10, 11, 12, 6, 13, 14, 15, 16, 17, 18, 19, 20, 21, 22, 23, 24, 25, 26, 27, 28, 29, 30, 31, 32, 33, 34, 35, 36] (by decide +kernel) (by decide +kernel)
set_option maxRecDepth 20000 in
theorem gX5_takesCandidates_X5_takesNumber : GoodIn wsX5_takesCandidates (wsV RX5 70 RX5 yX5_takesNumber wsX5_takesNumber) := goodIn_app (goodIn_of _ (by decide +kernel)) ggX5_takesCandidates_X5_takesNumber
theorem dX5_takesCandidates_0 : decode cX5_takesCandidates 0 = .ok (.aload_n 0, 1) := by decide +kernel
theorem dX5_takesCandidates_1 : decode cX5_takesCandidates 1 = .ok (.getfield 13, 3) := by decide +kernel
theorem dX5_takesCandidates_4 : decode cX5_takesCandidates 4 = .ok (.iconst 0, 1) := by decide +kernel
theorem dX5_takesCandidates_5 : decode cX5_takesCandidates 5 = .ok (.iaload, 1) := by decide +kernel
theorem dX5_takesCandidates_6 : decode cX5_takesCandidates 6 = .ok (.ifCond .gt 13, 3) := by decide +kernel
theorem dX5_takesCandidates_9 : decode cX5_takesCandidates 9 = .ok (.aload_n 0, 1) := by decide +kernel
theorem dX5_takesCandidates_10 : decode cX5_takesCandidates 10 = .ok (.iconst 1, 1) := by decide +kernel
theorem dX5_takesCandidates_11 : decode cX5_takesCandidates 11 = .ok (.bipush 8, 2) := by decide +kernel
theorem dX5_takesCandidates_13 : decode cX5_takesCandidates 13 = .ok (.invokevirtual 70, 3) := by decide +kernel
theorem dX5_takesCandidates_16 : decode cX5_takesCandidates 16 = .ok (.ifCond .ne 5, 3) := by decide +kernel
theorem dX5_takesCandidates_19 : decode cX5_takesCandidates 19 = .ok (.iconst 0, 1) := by decide +kernel
theorem dX5_takesCandidates_20 : decode cX5_takesCandidates 20 = .ok (.ireturn, 1) := by decide +kernel
theorem dX5_takesCandidates_21 : decode cX5_takesCandidates 21 = .ok (.aload_n 0, 1) := by decide +kernel
theorem dX5_takesCandidates_22 : decode cX5_takesCandidates 22 = .ok (.getfield 13, 3) := by decide +kernel
theorem dX5_takesCandidates_25 : decode cX5_takesCandidates 25 = .ok (.iconst 0, 1) := by decide +kernel
theorem dX5_takesCandidates_26 : decode cX5_takesCandidates 26 = .ok (.aload_n 0, 1) := by decide +kernel
theorem dX5_takesCandidates_27 : decode cX5_takesCandidates 27 = .ok (.getfield 59, 3) := by decide +kernel
theorem dX5_takesCandidates_30 : decode cX5_takesCandidates 30 = .ok (.iastore, 1) := by decide +kernel
theorem dX5_takesCandidates_31 : decode cX5_takesCandidates 31 = .ok (.iconst 0, 1) := by decide +kernel
theorem dX5_takesCandidates_32 : decode cX5_takesCandidates 32 = .ok (.istore_n 1, 1) := by decide +kernel
theorem dX5_takesCandidates_33 : decode cX5_takesCandidates 33 = .ok (.iload_n 1, 1) := by decide +kernel
theorem dX5_takesCandidates_34 : decode cX5_takesCandidates 34 = .ok (.aload_n 0, 1) := by decide +kernel
theorem dX5_takesCandidates_35 : decode cX5_takesCandidates 35 = .ok (.getfield 59, 3) := by decide +kernel
theorem dX5_takesCandidates_38 : decode cX5_takesCandidates 38 = .ok (.if_icmp .ge 19, 3) := by decide +kernel
theorem dX5_takesCandidates_41 : decode cX5_takesCandidates 41 = .ok (.aload_n 0, 1) := by decide +kernel
theorem dX5_takesCandidates_42 : decode cX5_takesCandidates 42 = .ok (.getfield 13, 3) := by decide +kernel
theorem dX5_takesCandidates_45 : decode cX5_takesCandidates 45 = .ok (.bipush 24, 2) := by decide +kernel
theorem dX5_takesCandidates_47 : decode cX5_takesCandidates 47 = .ok (.iload_n 1, 1) := by decide +kernel
theorem dX5_takesCandidates_48 : decode cX5_takesCandidates 48 = .ok (.iadd, 1) := by decide +kernel
theorem dX5_takesCandidates_49 : decode cX5_takesCandidates 49 = .ok (.iload_n 1, 1) := by decide +kernel
theorem dX5_takesCandidates_50 : decode cX5_takesCandidates 50 = .ok (.iastore, 1) := by decide +kernel
theorem dX5_takesCandidates_51 : decode cX5_takesCandidates 51 = .ok (.iinc 1 1, 3) := by decide +kernel
theorem dX5_takesCandidates_54 : decode cX5_takesCandidates 54 = .ok (.goto (-21), 3) := by decide +kernel
theorem dX5_takesCandidates_57 : decode cX5_takesCandidates 57 = .ok (.iconst 1, 1) := by decide +kernel
theorem dX5_takesCandidates_58 : decode cX5_takesCandidates 58 = .ok (.ireturn, 1) := by decide +kernel
set_option maxRecDepth 20000 in
theorem ggX5_takesSeats_X5_takesNumber : GoodIn wsX5_takesSeats wsX5_takesNumber := goodIn_r _ [7, 8, 2, 9, 10, 11, 12, 6, 13, 14, 15, 16, 17, 18, 19, 20, 21, 22, 23, 24, 25, 26, 27, 28, 29, 30, 31, 32, 33, 34, 35, 36] (by decide +kernel) (by decide +kernel)
set_option maxRecDepth 20000 in
theorem gX5_takesSeats_X5_takesNumber : GoodIn wsX5_takesSeats (wsV RX5 70 RX5 yX5_takesNumber wsX5_takesNumber) := goodIn_app (goodIn_of _ (by decide +kernel)) ggX5_takesSeats_X5_takesNumber
theorem dX5_takesSeats_0 : decode cX5_takesSeats 0 = .ok (.aload_n 0, 1) := by decide +kernel
theorem dX5_takesSeats_1 : decode cX5_takesSeats 1 = .ok (.iconst 1, 1) := by decide +kernel
theorem dX5_takesSeats_2 : decode cX5_takesSeats 2 = .ok (.bipush 8, 2) := by decide +kernel
theorem dX5_takesSeats_4 : decode cX5_takesSeats 4 = .ok (.invokevirtual 70, 3) := by decide +kernel
theorem dX5_takesSeats_7 : decode cX5_takesSeats 7 = .ok (.istore_n 1, 1) := by decide +kernel
theorem dX5_takesSeats_8 : decode cX5_takesSeats 8 = .ok (.aload_n 0, 1) := by decide +kernel
theorem dX5_takesSeats_9 : decode cX5_takesSeats 9 = .ok (.getfield 13, 3) := by decide +kernel
theorem dX5_takesSeats_12 : decode cX5_takesSeats 12 = .ok (.bipush 22, 2) := by decide +kernel
theorem dX5_takesSeats_14 : decode cX5_takesSeats 14 = .ok (.aload_n 0, 1) := by decide +kernel
theorem dX5_takesSeats_15 : decode cX5_takesSeats 15 = .ok (.getfield 59, 3) := by decide +kernel
theorem dX5_takesSeats_18 : decode cX5_takesSeats 18 = .ok (.iastore, 1) := by decide +kernel
theorem dX5_takesSeats_19 : decode cX5_takesSeats 19 = .ok (.iload_n 1, 1) := by decide +kernel
theorem dX5_takesSeats_20 : decode cX5_takesSeats 20 = .ok (.ireturn, 1) := by decide +kernel
set_option maxRecDepth 20000 in
theorem ggX5_takesItem_X5_letterAt : GoodIn wsX5_takesItem wsX5_letterAt := goodIn_r _ [7, 8, 9, 53, 54, 55, 56, 57, 58, 59, 60, 61, 62, 63, 64, 65, 66, 67, 68, 69, 70, 71] (by decide +kernel) (by decide +kernel)
set_option maxRecDepth 20000 in
theorem gX5_takesItem_X5_letterAt : GoodIn wsX5_takesItem (wsV RX5 62 RX5 yX5_letterAt wsX5_letterAt) := goodIn_app (goodIn_of _ (by decide +kernel)) ggX5_takesItem_X5_letterAt
set_option maxRecDepth 20000 in
theorem ggX5_takesItem_X5_takesCandidates : GoodIn wsX5_takesItem wsX5_takesCandidates := goodIn_r _ [13, 2, 14, 15, 16, 17, 6, 18, 1, 9, 3, 4, 5, 7, 8, 19, 20, 21, 53, 54, 55, 56, 57, 58, 59, 60, 61, 62, 63, 64, 65, 66, 67, 68, 69, 70, 71] (by decide +kernel) (by decide +kernel)
set_option maxRecDepth 20000 in
theorem gX5_takesItem_X5_takesCandidates : GoodIn wsX5_takesItem (wsV RX5 88 RX5 yX5_takesCandidates wsX5_takesCandidates) := goodIn_app (goodIn_of _ (by decide +kernel)) ggX5_takesItem_X5_takesCandidates
set_option maxRecDepth 20000 in
theorem ggX5_takesItem_X5_takes : GoodIn wsX5_takesItem wsX5_takes := goodIn_r _ [25, 1, 3, 4, 5, 6, 7, 8, 9, 53, 54, 55, 56, 57, 58, 59, 60, 61, 62, 63, 64, 65, 66, 67, 68, 69, 70, 71] (by decide +kernel) (by decide +kernel)
set_option maxRecDepth 20000 in
theorem gX5_takesItem_X5_takes : GoodIn wsX5_takesItem (wsV RX5 74 RX5 yX5_takes wsX5_takes) := goodIn_app (goodIn_of _ (by decide +kernel)) ggX5_takesItem_X5_takes
set_option maxRecDepth 20000 in
theorem ggX5_takesItem_X5_takesBallot : GoodIn wsX5_takesItem wsX5_takesBallot := goodIn_r _ [29, 2, 14, 15, 16, 17, 6, 18, 1, 9, 3, 4, 5, 7, 8, 19, 20, 21, 22, 23, 24, 25, 30, 31, 32, 33, 34, 35, 36, 37, 38, 39, 40, 41, 53, 54, 55, 56, 57, 58, 59, 60, 61, 62, 63, 64, 65, 66, 67, 68, 69, 70, 71] (by decide +kernel) (by decide +kernel)
set_option maxRecDepth 20000 in
theorem gX5_takesItem_X5_takesBallot : GoodIn wsX5_takesItem (wsV RX5 91 RX5 yX5_takesBallot wsX5_takesBallot) := goodIn_app (goodIn_of _ (by decide +kernel)) ggX5_takesItem_X5_takesBallot
set_option maxRecDepth 20000 in
theorem ggX5_takesItem_X5_takesSeats : GoodIn wsX5_takesItem wsX5_takesSeats := goodIn_r _ [45, 2, 14, 15, 16, 17, 6, 18, 1, 9, 3, 4, 5, 7, 8, 19, 20, 21, 53, 54, 55, 56, 57, 58, 59, 60, 61, 62, 63, 64, 65, 66, 67, 68, 69, 70, 71] (by decide +kernel) (by decide +kernel)
set_option maxRecDepth 20000 in
theorem gX5_takesItem_X5_takesSeats : GoodIn wsX5_takesItem (wsV RX5 94 RX5 yX5_takesSeats wsX5_takesSeats) := goodIn_app (goodIn_of _ (by decide +kernel)) ggX5_takesItem_X5_takesSeats
set_option maxRecDepth 20000 in
theorem ggX5_takesItem_X5_takesRank : GoodIn wsX5_takesItem wsX5_takesRank := goodIn_r _ [49, 2, 9, 1, 34, 35, 36, 6, 37, 3, 4, 5, 7, 8, 19, 20, 21, 50, 51, 52, 53, 54, 55, 56, 57, 58, 59, 60, 61, 62, 63, 64, 65, 66, 67, 68, 69, 70, 71] (by decide +kernel) (by decide +kernel)
set_option maxRecDepth 20000 in
theorem gX5_takesItem_X5_takesRank : GoodIn wsX5_takesItem (wsV RX5 97 RX5 yX5_takesRank wsX5_takesRank) := goodIn_app (goodIn_of _ (by decide +kernel)) ggX5_takesItem_X5_takesRank
theorem dX5_takesItem_0 : decode cX5_takesItem 0 = .ok (.aload_n 0, 1) := by decide +kernel
theorem dX5_takesItem_1 : decode cX5_takesItem 1 = .ok (.aload_n 0, 1) := by decide +kernel
theorem dX5_takesItem_2 : decode cX5_takesItem 2 = .ok (.getfield 56, 3) := by decide +kernel
theorem dX5_takesItem_5 : decode cX5_takesItem 5 = .ok (.invokevirtual 62, 3) := by decide +kernel
theorem dX5_takesItem_8 : decode cX5_takesItem 8 = .ok (.istore_n 1, 1) := by decide +kernel
theorem dX5_takesItem_9 : decode cX5_takesItem 9 = .ok (.aload_n 0, 1) := by decide +kernel
theorem dX5_takesItem_10 : decode cX5_takesItem 10 = .ok (.dup, 1) := by decide +kernel
theorem dX5_takesItem_11 : decode cX5_takesItem 11 = .ok (.getfield 56, 3) := by decide +kernel
theorem dX5_takesItem_14 : decode cX5_takesItem 14 = .ok (.iconst 1, 1) := by decide +kernel
theorem dX5_takesItem_15 : decode cX5_takesItem 15 = .ok (.iadd, 1) := by decide +kernel
theorem dX5_takesItem_16 : decode cX5_takesItem 16 = .ok (.putfield 56, 3) := by decide +kernel
theorem dX5_takesItem_19 : decode cX5_takesItem 19 = .ok (.iload_n 1, 1) := by decide +kernel
theorem dX5_takesItem_20 : decode cX5_takesItem 20 = .ok (.bipush 110, 2) := by decide +kernel
theorem dX5_takesItem_22 : decode cX5_takesItem 22 = .ok (.if_icmp .eq 12, 3) := by decide +kernel
theorem dX5_takesItem_25 : decode cX5_takesItem 25 = .ok (.aload_n 0, 1) := by decide +kernel
theorem dX5_takesItem_26 : decode cX5_takesItem 26 = .ok (.getfield 13, 3) := by decide +kernel
theorem dX5_takesItem_29 : decode cX5_takesItem 29 = .ok (.iconst 0, 1) := by decide +kernel
theorem dX5_takesItem_30 : decode cX5_takesItem 30 = .ok (.iaload, 1) := by decide +kernel
theorem dX5_takesItem_31 : decode cX5_takesItem 31 = .ok (.ifCond .le 7, 3) := by decide +kernel
theorem dX5_takesItem_34 : decode cX5_takesItem 34 = .ok (.iconst 1, 1) := by decide +kernel
theorem dX5_takesItem_35 : decode cX5_takesItem 35 = .ok (.goto 4, 3) := by decide +kernel
theorem dX5_takesItem_38 : decode cX5_takesItem 38 = .ok (.iconst 0, 1) := by decide +kernel
theorem dX5_takesItem_39 : decode cX5_takesItem 39 = .ok (.istore_n 2, 1) := by decide +kernel
theorem dX5_takesItem_40 : decode cX5_takesItem 40 = .ok (.iload_n 1, 1) := by decide +kernel
theorem dX5_takesItem_41 : decode cX5_takesItem 41 = .ok (.lookupswitch 143 #[(98, 65), (107, 91), (110, 43), (111, 117)], 43) := by decide +kernel
theorem dX5_takesItem_84 : decode cX5_takesItem 84 = .ok (.aload_n 0, 1) := by decide +kernel
theorem dX5_takesItem_85 : decode cX5_takesItem 85 = .ok (.invokevirtual 88, 3) := by decide +kernel
theorem dX5_takesItem_88 : decode cX5_takesItem 88 = .ok (.ifCond .eq 16, 3) := by decide +kernel
theorem dX5_takesItem_91 : decode cX5_takesItem 91 = .ok (.aload_n 0, 1) := by decide +kernel
theorem dX5_takesItem_92 : decode cX5_takesItem 92 = .ok (.bipush 59, 2) := by decide +kernel
theorem dX5_takesItem_94 : decode cX5_takesItem 94 = .ok (.invokevirtual 74, 3) := by decide +kernel
theorem dX5_takesItem_97 : decode cX5_takesItem 97 = .ok (.ifCond .eq 7, 3) := by decide +kernel
theorem dX5_takesItem_100 : decode cX5_takesItem 100 = .ok (.iconst 1, 1) := by decide +kernel
theorem dX5_takesItem_101 : decode cX5_takesItem 101 = .ok (.goto 4, 3) := by decide +kernel
theorem dX5_takesItem_104 : decode cX5_takesItem 104 = .ok (.iconst 0, 1) := by decide +kernel
theorem dX5_takesItem_105 : decode cX5_takesItem 105 = .ok (.ireturn, 1) := by decide +kernel
theorem dX5_takesItem_106 : decode cX5_takesItem 106 = .ok (.iload_n 2, 1) := by decide +kernel
theorem dX5_takesItem_107 : decode cX5_takesItem 107 = .ok (.ifCond .eq 23, 3) := by decide +kernel
theorem dX5_takesItem_110 : decode cX5_takesItem 110 = .ok (.aload_n 0, 1) := by decide +kernel
theorem dX5_takesItem_111 : decode cX5_takesItem 111 = .ok (.invokevirtual 91, 3) := by decide +kernel
theorem dX5_takesItem_114 : decode cX5_takesItem 114 = .ok (.ifCond .eq 16, 3) := by decide +kernel
theorem dX5_takesItem_117 : decode cX5_takesItem 117 = .ok (.aload_n 0, 1) := by decide +kernel
theorem dX5_takesItem_118 : decode cX5_takesItem 118 = .ok (.bipush 59, 2) := by decide +kernel
theorem dX5_takesItem_120 : decode cX5_takesItem 120 = .ok (.invokevirtual 74, 3) := by decide +kernel
theorem dX5_takesItem_123 : decode cX5_takesItem 123 = .ok (.ifCond .eq 7, 3) := by decide +kernel
theorem dX5_takesItem_126 : decode cX5_takesItem 126 = .ok (.iconst 1, 1) := by decide +kernel
theorem dX5_takesItem_127 : decode cX5_takesItem 127 = .ok (.goto 4, 3) := by decide +kernel
theorem dX5_takesItem_130 : decode cX5_takesItem 130 = .ok (.iconst 0, 1) := by decide +kernel
theorem dX5_takesItem_131 : decode cX5_takesItem 131 = .ok (.ireturn, 1) := by decide +kernel
theorem dX5_takesItem_132 : decode cX5_takesItem 132 = .ok (.iload_n 2, 1) := by decide +kernel
theorem dX5_takesItem_133 : decode cX5_takesItem 133 = .ok (.ifCond .eq 23, 3) := by decide +kernel
theorem dX5_takesItem_136 : decode cX5_takesItem 136 = .ok (.aload_n 0, 1) := by decide +kernel
theorem dX5_takesItem_137 : decode cX5_takesItem 137 = .ok (.invokevirtual 94, 3) := by decide +kernel
theorem dX5_takesItem_140 : decode cX5_takesItem 140 = .ok (.ifCond .eq 16, 3) := by decide +kernel
theorem dX5_takesItem_143 : decode cX5_takesItem 143 = .ok (.aload_n 0, 1) := by decide +kernel
theorem dX5_takesItem_144 : decode cX5_takesItem 144 = .ok (.bipush 59, 2) := by decide +kernel
theorem dX5_takesItem_146 : decode cX5_takesItem 146 = .ok (.invokevirtual 74, 3) := by decide +kernel
theorem dX5_takesItem_149 : decode cX5_takesItem 149 = .ok (.ifCond .eq 7, 3) := by decide +kernel
theorem dX5_takesItem_152 : decode cX5_takesItem 152 = .ok (.iconst 1, 1) := by decide +kernel
theorem dX5_takesItem_153 : decode cX5_takesItem 153 = .ok (.goto 4, 3) := by decide +kernel
theorem dX5_takesItem_156 : decode cX5_takesItem 156 = .ok (.iconst 0, 1) := by decide +kernel
theorem dX5_takesItem_157 : decode cX5_takesItem 157 = .ok (.ireturn, 1) := by decide +kernel
theorem dX5_takesItem_158 : decode cX5_takesItem 158 = .ok (.iload_n 2, 1) := by decide +kernel
theorem dX5_takesItem_159 : decode cX5_takesItem 159 = .ok (.ifCond .eq 23, 3) := by decide +kernel
theorem dX5_takesItem_162 : decode cX5_takesItem 162 = .ok (.aload_n 0, 1) := by decide +kernel
theorem dX5_takesItem_163 : decode cX5_takesItem 163 = .ok (.invokevirtual 97, 3) := by decide +kernel
theorem dX5_takesItem_166 : decode cX5_takesItem 166 = .ok (.ifCond .eq 16, 3) := by decide +kernel
theorem dX5_takesItem_169 : decode cX5_takesItem 169 = .ok (.aload_n 0, 1) := by decide +kernel
theorem dX5_takesItem_170 : decode cX5_takesItem 170 = .ok (.bipush 59, 2) := by decide +kernel
theorem dX5_takesItem_172 : decode cX5_takesItem 172 = .ok (.invokevirtual 74, 3) := by decide +kernel
theorem dX5_takesItem_175 : decode cX5_takesItem 175 = .ok (.ifCond .eq 7, 3) := by decide +kernel
theorem dX5_takesItem_178 : decode cX5_takesItem 178 = .ok (.iconst 1, 1) := by decide +kernel
theorem dX5_takesItem_179 : decode cX5_takesItem 179 = .ok (.goto 4, 3) := by decide +kernel
theorem dX5_takesItem_182 : decode cX5_takesItem 182 = .ok (.iconst 0, 1) := by decide +kernel
theorem dX5_takesItem_183 : decode cX5_takesItem 183 = .ok (.ireturn, 1) := by decide +kernel
theorem dX5_takesItem_184 : decode cX5_takesItem 184 = .ok (.iconst 0, 1) := by decide +kernel
theorem dX5_takesItem_185 : decode cX5_takesItem 185 = .ok (.ireturn, 1) := by decide +kernel
set_option maxRecDepth 20000 in
theorem ggX5_faultOf_X5_takesItem : GoodIn wsX5_faultOf wsX5_takesItem := goodIn_r _ [8, 2, 1, 9, 10, 11, 7, 12, 3, 13, 14, 15, 16, 17, 18, 19, 20, 21, 22, 23, 24, 25, 26, 27, 28, 29, 30, 31, 32, 33, 34, 35, 36, 37, 38, 39, 40, 41, 42, 43, 44, 45, 46, 47, 48, 49, 50, 51, 52, 53, 54, 55, 56, 57, 58, 59, 60, 61, 62, 63, 64, 65, 66, 67, 68, 69, 70, 71, 72, 73, 74, 75] (by decide +kernel) (by decide +kernel)
set_option maxRecDepth 20000 in
theorem gX5_faultOf_X5_takesItem : GoodIn wsX5_faultOf (wsV RX5 100 RX5 yX5_takesItem wsX5_takesItem) := goodIn_app (goodIn_of _ (by decide +kernel)) ggX5_faultOf_X5_takesItem
theorem dX5_faultOf_0 : decode cX5_faultOf 0 = .ok (.iconst 0, 1) := by decide +kernel
theorem dX5_faultOf_1 : decode cX5_faultOf 1 = .ok (.istore_n 1, 1) := by decide +kernel
theorem dX5_faultOf_2 : decode cX5_faultOf 2 = .ok (.iload_n 1, 1) := by decide +kernel
theorem dX5_faultOf_3 : decode cX5_faultOf 3 = .ok (.bipush 32, 2) := by decide +kernel
theorem dX5_faultOf_5 : decode cX5_faultOf 5 = .ok (.if_icmp .ge 16, 3) := by decide +kernel
theorem dX5_faultOf_8 : decode cX5_faultOf 8 = .ok (.aload_n 0, 1) := by decide +kernel
theorem dX5_faultOf_9 : decode cX5_faultOf 9 = .ok (.getfield 13, 3) := by decide +kernel
theorem dX5_faultOf_12 : decode cX5_faultOf 12 = .ok (.iload_n 1, 1) := by decide +kernel
theorem dX5_faultOf_13 : decode cX5_faultOf 13 = .ok (.iconst 0, 1) := by decide +kernel
theorem dX5_faultOf_14 : decode cX5_faultOf 14 = .ok (.iastore, 1) := by decide +kernel
theorem dX5_faultOf_15 : decode cX5_faultOf 15 = .ok (.iinc 1 1, 3) := by decide +kernel
theorem dX5_faultOf_18 : decode cX5_faultOf 18 = .ok (.goto (-16), 3) := by decide +kernel
theorem dX5_faultOf_21 : decode cX5_faultOf 21 = .ok (.aload_n 0, 1) := by decide +kernel
theorem dX5_faultOf_22 : decode cX5_faultOf 22 = .ok (.getfield 13, 3) := by decide +kernel
theorem dX5_faultOf_25 : decode cX5_faultOf 25 = .ok (.bipush 22, 2) := by decide +kernel
theorem dX5_faultOf_27 : decode cX5_faultOf 27 = .ok (.iconst 3, 1) := by decide +kernel
theorem dX5_faultOf_28 : decode cX5_faultOf 28 = .ok (.iastore, 1) := by decide +kernel
theorem dX5_faultOf_29 : decode cX5_faultOf 29 = .ok (.aload_n 0, 1) := by decide +kernel
theorem dX5_faultOf_30 : decode cX5_faultOf 30 = .ok (.iconst 0, 1) := by decide +kernel
theorem dX5_faultOf_31 : decode cX5_faultOf 31 = .ok (.putfield 56, 3) := by decide +kernel
theorem dX5_faultOf_34 : decode cX5_faultOf 34 = .ok (.aload_n 0, 1) := by decide +kernel
theorem dX5_faultOf_35 : decode cX5_faultOf 35 = .ok (.getfield 56, 3) := by decide +kernel
theorem dX5_faultOf_38 : decode cX5_faultOf 38 = .ok (.aload_n 0, 1) := by decide +kernel
theorem dX5_faultOf_39 : decode cX5_faultOf 39 = .ok (.getfield 52, 3) := by decide +kernel
theorem dX5_faultOf_42 : decode cX5_faultOf 42 = .ok (.if_icmp .ge 20, 3) := by decide +kernel
theorem dX5_faultOf_45 : decode cX5_faultOf 45 = .ok (.aload_n 0, 1) := by decide +kernel
theorem dX5_faultOf_46 : decode cX5_faultOf 46 = .ok (.getfield 56, 3) := by decide +kernel
theorem dX5_faultOf_49 : decode cX5_faultOf 49 = .ok (.istore_n 1, 1) := by decide +kernel
theorem dX5_faultOf_50 : decode cX5_faultOf 50 = .ok (.aload_n 0, 1) := by decide +kernel
theorem dX5_faultOf_51 : decode cX5_faultOf 51 = .ok (.invokevirtual 100, 3) := by decide +kernel
theorem dX5_faultOf_54 : decode cX5_faultOf 54 = .ok (.ifCond .ne 5, 3) := by decide +kernel
theorem dX5_faultOf_57 : decode cX5_faultOf 57 = .ok (.iload_n 1, 1) := by decide +kernel
theorem dX5_faultOf_58 : decode cX5_faultOf 58 = .ok (.ireturn, 1) := by decide +kernel
theorem dX5_faultOf_59 : decode cX5_faultOf 59 = .ok (.goto (-25), 3) := by decide +kernel
theorem dX5_faultOf_62 : decode cX5_faultOf 62 = .ok (.bipush (-4), 2) := by decide +kernel
theorem dX5_faultOf_64 : decode cX5_faultOf 64 = .ok (.ireturn, 1) := by decide +kernel
set_option maxRecDepth 20000 in
theorem ggX5_fault_X5_faultOf : GoodIn wsX5_fault wsX5_faultOf := goodIn_r _ [5, 6, 7, 8, 9, 10, 11, 4, 12, 13, 14, 15, 16, 17, 18, 19, 20, 21, 22, 23, 24, 25, 26, 27, 28, 29, 30, 31, 32, 33, 34, 35, 36, 37, 38, 39, 40, 41, 42, 43, 44, 45, 46, 47, 48, 49, 50, 51, 52, 53, 54, 55, 56, 57, 58, 59, 60, 61, 62, 63, 64, 65, 66, 67, 68, 69, 70, 71, 72, 73, 74, 75, 76, 77, 78, 79] (by decide +kernel) (by decide +kernel)
set_option maxRecDepth 20000 in
theorem gX5_fault_X5_faultOf : GoodIn wsX5_fault (wsV RX5 103 RX5 yX5_faultOf wsX5_faultOf) := goodIn_app (goodIn_of _ (by decide +kernel)) ggX5_fault_X5_faultOf
theorem dX5_fault_0 : decode cX5_fault 0 = .ok (.aload_n 0, 1) := by decide +kernel
theorem dX5_fault_1 : decode cX5_fault 1 = .ok (.invokevirtual 103, 3) := by decide +kernel
theorem dX5_fault_4 : decode cX5_fault 4 = .ok (.ireturn, 1) := by decide +kernel
set_option maxRecDepth 20000 in
theorem ggX5_lay_X5_faultOf : GoodIn wsX5_lay wsX5_faultOf := goodIn_r _ [8, 1, 9, 10, 11, 12, 13, 7, 14, 15, 16, 17, 18, 19, 20, 21, 22, 23, 24, 25, 26, 27, 28, 29, 30, 31, 32, 33, 34, 35, 36, 37, 38, 39, 40, 41, 42, 43, 44, 45, 46, 47, 48, 49, 50, 51, 52, 53, 54, 55, 56, 57, 58, 59, 60, 61, 62, 63, 64, 65, 66, 67, 68, 69, 70, 71, 72, 73, 74, 75, 76, 77, 78, 79, 80, 81] (by decide +kernel) (by decide +kernel)
set_option maxRecDepth 20000 in
theorem gX5_lay_X5_faultOf : GoodIn wsX5_lay (wsV RX5 103 RX5 yX5_faultOf wsX5_faultOf) := goodIn_app (goodIn_of _ (by decide +kernel)) ggX5_lay_X5_faultOf
theorem dX5_lay_0 : decode cX5_lay 0 = .ok (.aload_n 0, 1) := by decide +kernel
theorem dX5_lay_1 : decode cX5_lay 1 = .ok (.invokevirtual 103, 3) := by decide +kernel
theorem dX5_lay_4 : decode cX5_lay 4 = .ok (.bipush (-4), 2) := by decide +kernel
theorem dX5_lay_6 : decode cX5_lay 6 = .ok (.if_icmp .ne 12, 3) := by decide +kernel
theorem dX5_lay_9 : decode cX5_lay 9 = .ok (.aload_n 0, 1) := by decide +kernel
theorem dX5_lay_10 : decode cX5_lay 10 = .ok (.getfield 13, 3) := by decide +kernel
theorem dX5_lay_13 : decode cX5_lay 13 = .ok (.iconst 0, 1) := by decide +kernel
theorem dX5_lay_14 : decode cX5_lay 14 = .ok (.iaload, 1) := by decide +kernel
theorem dX5_lay_15 : decode cX5_lay 15 = .ok (.ifCond .ne 6, 3) := by decide +kernel
theorem dX5_lay_18 : decode cX5_lay 18 = .ok (.bipush (-2), 2) := by decide +kernel
theorem dX5_lay_20 : decode cX5_lay 20 = .ok (.ireturn, 1) := by decide +kernel
theorem dX5_lay_21 : decode cX5_lay 21 = .ok (.iconst 0, 1) := by decide +kernel
theorem dX5_lay_22 : decode cX5_lay 22 = .ok (.istore_n 1, 1) := by decide +kernel
theorem dX5_lay_23 : decode cX5_lay 23 = .ok (.iload_n 1, 1) := by decide +kernel
theorem dX5_lay_24 : decode cX5_lay 24 = .ok (.bipush 32, 2) := by decide +kernel
theorem dX5_lay_26 : decode cX5_lay 26 = .ok (.if_icmp .ge 21, 3) := by decide +kernel
theorem dX5_lay_29 : decode cX5_lay 29 = .ok (.aload_n 0, 1) := by decide +kernel
theorem dX5_lay_30 : decode cX5_lay 30 = .ok (.getfield 7, 3) := by decide +kernel
theorem dX5_lay_33 : decode cX5_lay 33 = .ok (.iload_n 1, 1) := by decide +kernel
theorem dX5_lay_34 : decode cX5_lay 34 = .ok (.aload_n 0, 1) := by decide +kernel
theorem dX5_lay_35 : decode cX5_lay 35 = .ok (.getfield 13, 3) := by decide +kernel
theorem dX5_lay_38 : decode cX5_lay 38 = .ok (.iload_n 1, 1) := by decide +kernel
theorem dX5_lay_39 : decode cX5_lay 39 = .ok (.iaload, 1) := by decide +kernel
theorem dX5_lay_40 : decode cX5_lay 40 = .ok (.iastore, 1) := by decide +kernel
theorem dX5_lay_41 : decode cX5_lay 41 = .ok (.iinc 1 1, 3) := by decide +kernel
theorem dX5_lay_44 : decode cX5_lay 44 = .ok (.goto (-21), 3) := by decide +kernel
theorem dX5_lay_47 : decode cX5_lay 47 = .ok (.aload_n 0, 1) := by decide +kernel
theorem dX5_lay_48 : decode cX5_lay 48 = .ok (.iconst 0, 1) := by decide +kernel
theorem dX5_lay_49 : decode cX5_lay 49 = .ok (.putfield 106, 3) := by decide +kernel
theorem dX5_lay_52 : decode cX5_lay 52 = .ok (.aload_n 0, 1) := by decide +kernel
theorem dX5_lay_53 : decode cX5_lay 53 = .ok (.getfield 7, 3) := by decide +kernel
theorem dX5_lay_56 : decode cX5_lay 56 = .ok (.iconst 0, 1) := by decide +kernel
theorem dX5_lay_57 : decode cX5_lay 57 = .ok (.iaload, 1) := by decide +kernel
theorem dX5_lay_58 : decode cX5_lay 58 = .ok (.ireturn, 1) := by decide +kernel
theorem dX5_remembers_0 : decode cX5_remembers 0 = .ok (.aload_n 0, 1) := by decide +kernel
theorem dX5_remembers_1 : decode cX5_remembers 1 = .ok (.getfield 106, 3) := by decide +kernel
theorem dX5_remembers_4 : decode cX5_remembers 4 = .ok (.bipush 6, 2) := by decide +kernel
theorem dX5_remembers_6 : decode cX5_remembers 6 = .ok (.if_icmp .ne 43, 3) := by decide +kernel
theorem dX5_remembers_9 : decode cX5_remembers 9 = .ok (.iconst 0, 1) := by decide +kernel
theorem dX5_remembers_10 : decode cX5_remembers 10 = .ok (.istore_n 1, 1) := by decide +kernel
theorem dX5_remembers_11 : decode cX5_remembers 11 = .ok (.iload_n 1, 1) := by decide +kernel
theorem dX5_remembers_12 : decode cX5_remembers 12 = .ok (.sipush 160, 3) := by decide +kernel
theorem dX5_remembers_15 : decode cX5_remembers 15 = .ok (.if_icmp .ge 24, 3) := by decide +kernel
theorem dX5_remembers_18 : decode cX5_remembers 18 = .ok (.aload_n 0, 1) := by decide +kernel
theorem dX5_remembers_19 : decode cX5_remembers 19 = .ok (.getfield 16, 3) := by decide +kernel
theorem dX5_remembers_22 : decode cX5_remembers 22 = .ok (.iload_n 1, 1) := by decide +kernel
theorem dX5_remembers_23 : decode cX5_remembers 23 = .ok (.aload_n 0, 1) := by decide +kernel
theorem dX5_remembers_24 : decode cX5_remembers 24 = .ok (.getfield 16, 3) := by decide +kernel
theorem dX5_remembers_27 : decode cX5_remembers 27 = .ok (.iload_n 1, 1) := by decide +kernel
theorem dX5_remembers_28 : decode cX5_remembers 28 = .ok (.bipush 32, 2) := by decide +kernel
theorem dX5_remembers_30 : decode cX5_remembers 30 = .ok (.iadd, 1) := by decide +kernel
theorem dX5_remembers_31 : decode cX5_remembers 31 = .ok (.iaload, 1) := by decide +kernel
theorem dX5_remembers_32 : decode cX5_remembers 32 = .ok (.iastore, 1) := by decide +kernel
theorem dX5_remembers_33 : decode cX5_remembers 33 = .ok (.iinc 1 1, 3) := by decide +kernel
theorem dX5_remembers_36 : decode cX5_remembers 36 = .ok (.goto (-25), 3) := by decide +kernel
theorem dX5_remembers_39 : decode cX5_remembers 39 = .ok (.aload_n 0, 1) := by decide +kernel
theorem dX5_remembers_40 : decode cX5_remembers 40 = .ok (.dup, 1) := by decide +kernel
theorem dX5_remembers_41 : decode cX5_remembers 41 = .ok (.getfield 106, 3) := by decide +kernel
theorem dX5_remembers_44 : decode cX5_remembers 44 = .ok (.iconst 1, 1) := by decide +kernel
theorem dX5_remembers_45 : decode cX5_remembers 45 = .ok (.isub, 1) := by decide +kernel
theorem dX5_remembers_46 : decode cX5_remembers 46 = .ok (.putfield 106, 3) := by decide +kernel
theorem dX5_remembers_49 : decode cX5_remembers 49 = .ok (.iconst 0, 1) := by decide +kernel
theorem dX5_remembers_50 : decode cX5_remembers 50 = .ok (.istore_n 1, 1) := by decide +kernel
theorem dX5_remembers_51 : decode cX5_remembers 51 = .ok (.iload_n 1, 1) := by decide +kernel
theorem dX5_remembers_52 : decode cX5_remembers 52 = .ok (.bipush 32, 2) := by decide +kernel
theorem dX5_remembers_54 : decode cX5_remembers 54 = .ok (.if_icmp .ge 29, 3) := by decide +kernel
theorem dX5_remembers_57 : decode cX5_remembers 57 = .ok (.aload_n 0, 1) := by decide +kernel
theorem dX5_remembers_58 : decode cX5_remembers 58 = .ok (.getfield 16, 3) := by decide +kernel
theorem dX5_remembers_61 : decode cX5_remembers 61 = .ok (.bipush 32, 2) := by decide +kernel
theorem dX5_remembers_63 : decode cX5_remembers 63 = .ok (.aload_n 0, 1) := by decide +kernel
theorem dX5_remembers_64 : decode cX5_remembers 64 = .ok (.getfield 106, 3) := by decide +kernel
theorem dX5_remembers_67 : decode cX5_remembers 67 = .ok (.imul, 1) := by decide +kernel
theorem dX5_remembers_68 : decode cX5_remembers 68 = .ok (.iload_n 1, 1) := by decide +kernel
theorem dX5_remembers_69 : decode cX5_remembers 69 = .ok (.iadd, 1) := by decide +kernel
theorem dX5_remembers_70 : decode cX5_remembers 70 = .ok (.aload_n 0, 1) := by decide +kernel
theorem dX5_remembers_71 : decode cX5_remembers 71 = .ok (.getfield 7, 3) := by decide +kernel
theorem dX5_remembers_74 : decode cX5_remembers 74 = .ok (.iload_n 1, 1) := by decide +kernel
theorem dX5_remembers_75 : decode cX5_remembers 75 = .ok (.iaload, 1) := by decide +kernel
theorem dX5_remembers_76 : decode cX5_remembers 76 = .ok (.iastore, 1) := by decide +kernel
theorem dX5_remembers_77 : decode cX5_remembers 77 = .ok (.iinc 1 1, 3) := by decide +kernel
theorem dX5_remembers_80 : decode cX5_remembers 80 = .ok (.goto (-29), 3) := by decide +kernel
theorem dX5_remembers_83 : decode cX5_remembers 83 = .ok (.aload_n 0, 1) := by decide +kernel
theorem dX5_remembers_84 : decode cX5_remembers 84 = .ok (.dup, 1) := by decide +kernel
theorem dX5_remembers_85 : decode cX5_remembers 85 = .ok (.getfield 106, 3) := by decide +kernel
theorem dX5_remembers_88 : decode cX5_remembers 88 = .ok (.iconst 1, 1) := by decide +kernel
theorem dX5_remembers_89 : decode cX5_remembers 89 = .ok (.iadd, 1) := by decide +kernel
theorem dX5_remembers_90 : decode cX5_remembers 90 = .ok (.putfield 106, 3) := by decide +kernel
theorem dX5_remembers_93 : decode cX5_remembers 93 = .ok (.return_, 1) := by decide +kernel
set_option maxRecDepth 20000 in
theorem ggX5_exchanges_X5_remembers : GoodIn wsX5_exchanges wsX5_remembers := goodIn_r _ [6, 7, 8, 1, 9, 10, 11, 12, 13, 14, 15, 16, 17, 18, 19, 20, 21, 22, 23, 24, 25, 26, 27] (by decide +kernel) (by decide +kernel)
set_option maxRecDepth 20000 in
theorem gX5_exchanges_X5_remembers : GoodIn wsX5_exchanges (wsV RX5 109 RX5 yX5_remembers wsX5_remembers) := goodIn_app (goodIn_of _ (by decide +kernel)) ggX5_exchanges_X5_remembers
theorem dX5_exchanges_0 : decode cX5_exchanges 0 = .ok (.aload_n 0, 1) := by decide +kernel
theorem dX5_exchanges_1 : decode cX5_exchanges 1 = .ok (.invokevirtual 109, 3) := by decide +kernel
theorem dX5_exchanges_4 : decode cX5_exchanges 4 = .ok (.aload_n 0, 1) := by decide +kernel
theorem dX5_exchanges_5 : decode cX5_exchanges 5 = .ok (.getfield 7, 3) := by decide +kernel
theorem dX5_exchanges_8 : decode cX5_exchanges 8 = .ok (.iload_n 1, 1) := by decide +kernel
theorem dX5_exchanges_9 : decode cX5_exchanges 9 = .ok (.iaload, 1) := by decide +kernel
theorem dX5_exchanges_10 : decode cX5_exchanges 10 = .ok (.istore_n 3, 1) := by decide +kernel
theorem dX5_exchanges_11 : decode cX5_exchanges 11 = .ok (.aload_n 0, 1) := by decide +kernel
theorem dX5_exchanges_12 : decode cX5_exchanges 12 = .ok (.getfield 7, 3) := by decide +kernel
theorem dX5_exchanges_15 : decode cX5_exchanges 15 = .ok (.iload_n 1, 1) := by decide +kernel
theorem dX5_exchanges_16 : decode cX5_exchanges 16 = .ok (.iload_n 2, 1) := by decide +kernel
theorem dX5_exchanges_17 : decode cX5_exchanges 17 = .ok (.iastore, 1) := by decide +kernel
theorem dX5_exchanges_18 : decode cX5_exchanges 18 = .ok (.iload_n 3, 1) := by decide +kernel
theorem dX5_exchanges_19 : decode cX5_exchanges 19 = .ok (.ireturn, 1) := by decide +kernel
set_option maxRecDepth 20000 in
theorem ggX5_ballot_X5_in : GoodIn wsX5_ballot wsX5_in := goodIn_r _ [5] (by decide +kernel) (by decide +kernel)
set_option maxRecDepth 20000 in
theorem gX5_ballot_X5_in : GoodIn wsX5_ballot (va_wsS RX5 48 yX5_in wsX5_in) := goodIn_app (goodIn_of _ (by decide +kernel)) ggX5_ballot_X5_in
set_option maxRecDepth 20000 in
theorem ggX5_ballot_X5_isSet : GoodIn wsX5_ballot wsX5_isSet := goodIn_r _ [9, 1, 2, 3, 4, 5, 24, 25, 26, 27, 28, 29, 30, 31, 32, 33, 34, 35, 36, 37, 38, 39, 40, 41, 42] (by decide +kernel) (by decide +kernel)
set_option maxRecDepth 20000 in
theorem gX5_ballot_X5_isSet : GoodIn wsX5_ballot (wsV RX5 112 RX5 yX5_isSet wsX5_isSet) := goodIn_app (goodIn_of _ (by decide +kernel)) ggX5_ballot_X5_isSet
set_option maxRecDepth 20000 in
theorem ggX5_ballot_X5_allVoters : GoodIn wsX5_ballot wsX5_allVoters := goodIn_r _ [13, 1, 24, 25, 26, 27, 28, 29, 30, 31, 32, 33, 34, 35, 36, 37, 38, 39, 40, 41, 42] (by decide +kernel) (by decide +kernel)
set_option maxRecDepth 20000 in
theorem gX5_ballot_X5_allVoters : GoodIn wsX5_ballot (wsV RX5 115 RX5 yX5_allVoters wsX5_allVoters) := goodIn_app (goodIn_of _ (by decide +kernel)) ggX5_ballot_X5_allVoters
set_option maxRecDepth 20000 in
theorem ggX5_ballot_X5_remembers : GoodIn wsX5_ballot wsX5_remembers := goodIn_r _ [17, 18, 19, 1, 24, 25, 26, 27, 28, 29, 30, 31, 32, 33, 34, 35, 36, 37, 38, 39, 40, 41, 42] (by decide +kernel) (by decide +kernel)
set_option maxRecDepth 20000 in
theorem gX5_ballot_X5_remembers : GoodIn wsX5_ballot (wsV RX5 109 RX5 yX5_remembers wsX5_remembers) := goodIn_app (goodIn_of _ (by decide +kernel)) ggX5_ballot_X5_remembers
set_option maxRecDepth 20000 in
theorem ggX5_ballot_X5_adds : GoodIn wsX5_ballot wsX5_adds := goodIn_r _ [23, 1, 24, 25, 26, 27, 28, 29, 30, 31, 32, 33, 34, 35, 36, 37, 38, 39, 40, 41, 42] (by decide +kernel) (by decide +kernel)
set_option maxRecDepth 20000 in
theorem gX5_ballot_X5_adds : GoodIn wsX5_ballot (wsV RX5 44 RX5 yX5_adds wsX5_adds) := goodIn_app (goodIn_of _ (by decide +kernel)) ggX5_ballot_X5_adds
theorem dX5_ballot_0 : decode cX5_ballot 0 = .ok (.iload_n 1, 1) := by decide +kernel
theorem dX5_ballot_1 : decode cX5_ballot 1 = .ok (.iconst 1, 1) := by decide +kernel
theorem dX5_ballot_2 : decode cX5_ballot 2 = .ok (.bipush 20, 2) := by decide +kernel
theorem dX5_ballot_4 : decode cX5_ballot 4 = .ok (.invokestatic 48, 3) := by decide +kernel
theorem dX5_ballot_7 : decode cX5_ballot 7 = .ok (.ifCond .eq 11, 3) := by decide +kernel
theorem dX5_ballot_10 : decode cX5_ballot 10 = .ok (.aload_n 0, 1) := by decide +kernel
theorem dX5_ballot_11 : decode cX5_ballot 11 = .ok (.iload_n 2, 1) := by decide +kernel
theorem dX5_ballot_12 : decode cX5_ballot 12 = .ok (.invokevirtual 112, 3) := by decide +kernel
theorem dX5_ballot_15 : decode cX5_ballot 15 = .ok (.ifCond .ne 5, 3) := by decide +kernel
theorem dX5_ballot_18 : decode cX5_ballot 18 = .ok (.iconst (-1), 1) := by decide +kernel
theorem dX5_ballot_19 : decode cX5_ballot 19 = .ok (.ireturn, 1) := by decide +kernel
theorem dX5_ballot_20 : decode cX5_ballot 20 = .ok (.aload_n 0, 1) := by decide +kernel
theorem dX5_ballot_21 : decode cX5_ballot 21 = .ok (.getfield 7, 3) := by decide +kernel
theorem dX5_ballot_24 : decode cX5_ballot 24 = .ok (.iconst 1, 1) := by decide +kernel
theorem dX5_ballot_25 : decode cX5_ballot 25 = .ok (.iaload, 1) := by decide +kernel
theorem dX5_ballot_26 : decode cX5_ballot 26 = .ok (.bipush 10, 2) := by decide +kernel
theorem dX5_ballot_28 : decode cX5_ballot 28 = .ok (.if_icmp .eq 14, 3) := by decide +kernel
theorem dX5_ballot_31 : decode cX5_ballot 31 = .ok (.aload_n 0, 1) := by decide +kernel
theorem dX5_ballot_32 : decode cX5_ballot 32 = .ok (.invokevirtual 115, 3) := by decide +kernel
theorem dX5_ballot_35 : decode cX5_ballot 35 = .ok (.iload_n 1, 1) := by decide +kernel
theorem dX5_ballot_36 : decode cX5_ballot 36 = .ok (.iadd, 1) := by decide +kernel
theorem dX5_ballot_37 : decode cX5_ballot 37 = .ok (.bipush 40, 2) := by decide +kernel
theorem dX5_ballot_39 : decode cX5_ballot 39 = .ok (.if_icmp .le 6, 3) := by decide +kernel
theorem dX5_ballot_42 : decode cX5_ballot 42 = .ok (.bipush (-3), 2) := by decide +kernel
theorem dX5_ballot_44 : decode cX5_ballot 44 = .ok (.ireturn, 1) := by decide +kernel
theorem dX5_ballot_45 : decode cX5_ballot 45 = .ok (.aload_n 0, 1) := by decide +kernel
theorem dX5_ballot_46 : decode cX5_ballot 46 = .ok (.invokevirtual 109, 3) := by decide +kernel
theorem dX5_ballot_49 : decode cX5_ballot 49 = .ok (.aload_n 0, 1) := by decide +kernel
theorem dX5_ballot_50 : decode cX5_ballot 50 = .ok (.iload_n 1, 1) := by decide +kernel
theorem dX5_ballot_51 : decode cX5_ballot 51 = .ok (.iload_n 2, 1) := by decide +kernel
theorem dX5_ballot_52 : decode cX5_ballot 52 = .ok (.invokevirtual 44, 3) := by decide +kernel
theorem dX5_ballot_55 : decode cX5_ballot 55 = .ok (.aload_n 0, 1) := by decide +kernel
theorem dX5_ballot_56 : decode cX5_ballot 56 = .ok (.getfield 7, 3) := by decide +kernel
theorem dX5_ballot_59 : decode cX5_ballot 59 = .ok (.iconst 1, 1) := by decide +kernel
theorem dX5_ballot_60 : decode cX5_ballot 60 = .ok (.iaload, 1) := by decide +kernel
theorem dX5_ballot_61 : decode cX5_ballot 61 = .ok (.iconst 1, 1) := by decide +kernel
theorem dX5_ballot_62 : decode cX5_ballot 62 = .ok (.isub, 1) := by decide +kernel
theorem dX5_ballot_63 : decode cX5_ballot 63 = .ok (.ireturn, 1) := by decide +kernel
set_option maxRecDepth 20000 in
theorem ggX5_voters_X5_isBallot : GoodIn wsX5_voters wsX5_isBallot := goodIn_r _ [6, 1, 7, 8, 5, 9, 24, 25, 26, 27, 28, 29, 30, 31, 32, 33, 34, 35, 36, 37, 38, 39, 40, 41, 42] (by decide +kernel) (by decide +kernel)
set_option maxRecDepth 20000 in
theorem gX5_voters_X5_isBallot : GoodIn wsX5_voters (wsV RX5 118 RX5 yX5_isBallot wsX5_isBallot) := goodIn_app (goodIn_of _ (by decide +kernel)) ggX5_voters_X5_isBallot
set_option maxRecDepth 20000 in
theorem ggX5_voters_X5_in : GoodIn wsX5_voters wsX5_in := goodIn_r _ [9] (by decide +kernel) (by decide +kernel)
set_option maxRecDepth 20000 in
theorem gX5_voters_X5_in : GoodIn wsX5_voters (va_wsS RX5 48 yX5_in wsX5_in) := goodIn_app (goodIn_of _ (by decide +kernel)) ggX5_voters_X5_in
set_option maxRecDepth 20000 in
theorem ggX5_voters_X5_allVoters : GoodIn wsX5_voters wsX5_allVoters := goodIn_r _ [13, 1, 24, 25, 26, 27, 28, 29, 30, 31, 32, 33, 34, 35, 36, 37, 38, 39, 40, 41, 42] (by decide +kernel) (by decide +kernel)
set_option maxRecDepth 20000 in
theorem gX5_voters_X5_allVoters : GoodIn wsX5_voters (wsV RX5 115 RX5 yX5_allVoters wsX5_allVoters) := goodIn_app (goodIn_of _ (by decide +kernel)) ggX5_voters_X5_allVoters
set_option maxRecDepth 20000 in
theorem ggX5_voters_X5_exchanges : GoodIn wsX5_voters wsX5_exchanges := goodIn_r _ [17, 1, 18, 19, 20, 5, 21, 22, 23, 24, 25, 26, 27, 28, 29, 30, 31, 32, 33, 34, 35, 36, 37, 38, 39, 40, 41, 42] (by decide +kernel) (by decide +kernel)
set_option maxRecDepth 20000 in
theorem gX5_voters_X5_exchanges : GoodIn wsX5_voters (wsV RX5 121 RX5 yX5_exchanges wsX5_exchanges) := goodIn_app (goodIn_of _ (by decide +kernel)) ggX5_voters_X5_exchanges
theorem dX5_voters_0 : decode cX5_voters 0 = .ok (.aload_n 0, 1) := by decide +kernel
theorem dX5_voters_1 : decode cX5_voters 1 = .ok (.iload_n 1, 1) := by decide +kernel
theorem dX5_voters_2 : decode cX5_voters 2 = .ok (.invokevirtual 118, 3) := by decide +kernel
theorem dX5_voters_5 : decode cX5_voters 5 = .ok (.ifCond .eq 13, 3) := by decide +kernel
theorem dX5_voters_8 : decode cX5_voters 8 = .ok (.iload_n 2, 1) := by decide +kernel
theorem dX5_voters_9 : decode cX5_voters 9 = .ok (.iconst 1, 1) := by decide +kernel
theorem dX5_voters_10 : decode cX5_voters 10 = .ok (.bipush 20, 2) := by decide +kernel
theorem dX5_voters_12 : decode cX5_voters 12 = .ok (.invokestatic 48, 3) := by decide +kernel
theorem dX5_voters_15 : decode cX5_voters 15 = .ok (.ifCond .ne 5, 3) := by decide +kernel
theorem dX5_voters_18 : decode cX5_voters 18 = .ok (.iconst (-1), 1) := by decide +kernel
theorem dX5_voters_19 : decode cX5_voters 19 = .ok (.ireturn, 1) := by decide +kernel
theorem dX5_voters_20 : decode cX5_voters 20 = .ok (.aload_n 0, 1) := by decide +kernel
theorem dX5_voters_21 : decode cX5_voters 21 = .ok (.getfield 7, 3) := by decide +kernel
theorem dX5_voters_24 : decode cX5_voters 24 = .ok (.iconst 2, 1) := by decide +kernel
theorem dX5_voters_25 : decode cX5_voters 25 = .ok (.iload_n 1, 1) := by decide +kernel
theorem dX5_voters_26 : decode cX5_voters 26 = .ok (.iadd, 1) := by decide +kernel
theorem dX5_voters_27 : decode cX5_voters 27 = .ok (.iaload, 1) := by decide +kernel
theorem dX5_voters_28 : decode cX5_voters 28 = .ok (.iload_n 2, 1) := by decide +kernel
theorem dX5_voters_29 : decode cX5_voters 29 = .ok (.if_icmp .ne 6, 3) := by decide +kernel
theorem dX5_voters_32 : decode cX5_voters 32 = .ok (.bipush (-2), 2) := by decide +kernel
theorem dX5_voters_34 : decode cX5_voters 34 = .ok (.ireturn, 1) := by decide +kernel
theorem dX5_voters_35 : decode cX5_voters 35 = .ok (.aload_n 0, 1) := by decide +kernel
theorem dX5_voters_36 : decode cX5_voters 36 = .ok (.invokevirtual 115, 3) := by decide +kernel
theorem dX5_voters_39 : decode cX5_voters 39 = .ok (.aload_n 0, 1) := by decide +kernel
theorem dX5_voters_40 : decode cX5_voters 40 = .ok (.getfield 7, 3) := by decide +kernel
theorem dX5_voters_43 : decode cX5_voters 43 = .ok (.iconst 2, 1) := by decide +kernel
theorem dX5_voters_44 : decode cX5_voters 44 = .ok (.iload_n 1, 1) := by decide +kernel
theorem dX5_voters_45 : decode cX5_voters 45 = .ok (.iadd, 1) := by decide +kernel
theorem dX5_voters_46 : decode cX5_voters 46 = .ok (.iaload, 1) := by decide +kernel
theorem dX5_voters_47 : decode cX5_voters 47 = .ok (.isub, 1) := by decide +kernel
theorem dX5_voters_48 : decode cX5_voters 48 = .ok (.iload_n 2, 1) := by decide +kernel
theorem dX5_voters_49 : decode cX5_voters 49 = .ok (.iadd, 1) := by decide +kernel
theorem dX5_voters_50 : decode cX5_voters 50 = .ok (.bipush 40, 2) := by decide +kernel
theorem dX5_voters_52 : decode cX5_voters 52 = .ok (.if_icmp .le 8, 3) := by decide +kernel
theorem dX5_voters_55 : decode cX5_voters 55 = .ok (.bipush (-3), 2) := by decide +kernel
theorem dX5_voters_57 : decode cX5_voters 57 = .ok (.goto 11, 3) := by decide +kernel
theorem dX5_voters_60 : decode cX5_voters 60 = .ok (.aload_n 0, 1) := by decide +kernel
theorem dX5_voters_61 : decode cX5_voters 61 = .ok (.iconst 2, 1) := by decide +kernel
theorem dX5_voters_62 : decode cX5_voters 62 = .ok (.iload_n 1, 1) := by decide +kernel
theorem dX5_voters_63 : decode cX5_voters 63 = .ok (.iadd, 1) := by decide +kernel
theorem dX5_voters_64 : decode cX5_voters 64 = .ok (.iload_n 2, 1) := by decide +kernel
theorem dX5_voters_65 : decode cX5_voters 65 = .ok (.invokevirtual 121, 3) := by decide +kernel
theorem dX5_voters_68 : decode cX5_voters 68 = .ok (.ireturn, 1) := by decide +kernel
set_option maxRecDepth 20000 in
theorem ggX5_approve_X5_isBallot : GoodIn wsX5_approve wsX5_isBallot := goodIn_r _ [6, 1, 7, 8, 5, 9, 24, 25, 26, 27, 28, 29, 30, 31, 32, 33, 34, 35, 36, 37, 38, 39, 40, 41, 42] (by decide +kernel) (by decide +kernel)
set_option maxRecDepth 20000 in
theorem gX5_approve_X5_isBallot : GoodIn wsX5_approve (wsV RX5 118 RX5 yX5_isBallot wsX5_isBallot) := goodIn_app (goodIn_of _ (by decide +kernel)) ggX5_approve_X5_isBallot
set_option maxRecDepth 20000 in
theorem ggX5_approve_X5_isSet : GoodIn wsX5_approve wsX5_isSet := goodIn_r _ [13, 1, 7, 8, 5, 9, 24, 25, 26, 27, 28, 29, 30, 31, 32, 33, 34, 35, 36, 37, 38, 39, 40, 41, 42] (by decide +kernel) (by decide +kernel)
set_option maxRecDepth 20000 in
theorem gX5_approve_X5_isSet : GoodIn wsX5_approve (wsV RX5 112 RX5 yX5_isSet wsX5_isSet) := goodIn_app (goodIn_of _ (by decide +kernel)) ggX5_approve_X5_isSet
set_option maxRecDepth 20000 in
theorem ggX5_approve_X5_exchanges : GoodIn wsX5_approve wsX5_exchanges := goodIn_r _ [17, 1, 18, 19, 20, 5, 21, 22, 23, 24, 25, 26, 27, 28, 29, 30, 31, 32, 33, 34, 35, 36, 37, 38, 39, 40, 41, 42] (by decide +kernel) (by decide +kernel)
set_option maxRecDepth 20000 in
theorem gX5_approve_X5_exchanges : GoodIn wsX5_approve (wsV RX5 121 RX5 yX5_exchanges wsX5_exchanges) := goodIn_app (goodIn_of _ (by decide +kernel)) ggX5_approve_X5_exchanges
theorem dX5_approve_0 : decode cX5_approve 0 = .ok (.aload_n 0, 1) := by decide +kernel
theorem dX5_approve_1 : decode cX5_approve 1 = .ok (.iload_n 1, 1) := by decide +kernel
theorem dX5_approve_2 : decode cX5_approve 2 = .ok (.invokevirtual 118, 3) := by decide +kernel
theorem dX5_approve_5 : decode cX5_approve 5 = .ok (.ifCond .eq 11, 3) := by decide +kernel
theorem dX5_approve_8 : decode cX5_approve 8 = .ok (.aload_n 0, 1) := by decide +kernel
theorem dX5_approve_9 : decode cX5_approve 9 = .ok (.iload_n 2, 1) := by decide +kernel
theorem dX5_approve_10 : decode cX5_approve 10 = .ok (.invokevirtual 112, 3) := by decide +kernel
theorem dX5_approve_13 : decode cX5_approve 13 = .ok (.ifCond .ne 5, 3) := by decide +kernel
theorem dX5_approve_16 : decode cX5_approve 16 = .ok (.iconst (-1), 1) := by decide +kernel
theorem dX5_approve_17 : decode cX5_approve 17 = .ok (.ireturn, 1) := by decide +kernel
theorem dX5_approve_18 : decode cX5_approve 18 = .ok (.aload_n 0, 1) := by decide +kernel
theorem dX5_approve_19 : decode cX5_approve 19 = .ok (.getfield 7, 3) := by decide +kernel
theorem dX5_approve_22 : decode cX5_approve 22 = .ok (.bipush 12, 2) := by decide +kernel
theorem dX5_approve_24 : decode cX5_approve 24 = .ok (.iload_n 1, 1) := by decide +kernel
theorem dX5_approve_25 : decode cX5_approve 25 = .ok (.iadd, 1) := by decide +kernel
theorem dX5_approve_26 : decode cX5_approve 26 = .ok (.iaload, 1) := by decide +kernel
theorem dX5_approve_27 : decode cX5_approve 27 = .ok (.iload_n 2, 1) := by decide +kernel
theorem dX5_approve_28 : decode cX5_approve 28 = .ok (.if_icmp .ne 8, 3) := by decide +kernel
theorem dX5_approve_31 : decode cX5_approve 31 = .ok (.bipush (-2), 2) := by decide +kernel
theorem dX5_approve_33 : decode cX5_approve 33 = .ok (.goto 12, 3) := by decide +kernel
theorem dX5_approve_36 : decode cX5_approve 36 = .ok (.aload_n 0, 1) := by decide +kernel
theorem dX5_approve_37 : decode cX5_approve 37 = .ok (.bipush 12, 2) := by decide +kernel
theorem dX5_approve_39 : decode cX5_approve 39 = .ok (.iload_n 1, 1) := by decide +kernel
theorem dX5_approve_40 : decode cX5_approve 40 = .ok (.iadd, 1) := by decide +kernel
theorem dX5_approve_41 : decode cX5_approve 41 = .ok (.iload_n 2, 1) := by decide +kernel
theorem dX5_approve_42 : decode cX5_approve 42 = .ok (.invokevirtual 121, 3) := by decide +kernel
theorem dX5_approve_45 : decode cX5_approve 45 = .ok (.ireturn, 1) := by decide +kernel
set_option maxRecDepth 20000 in
theorem ggX5_seats_X5_in : GoodIn wsX5_seats wsX5_in := goodIn_r _ [5] (by decide +kernel) (by decide +kernel)
set_option maxRecDepth 20000 in
theorem gX5_seats_X5_in : GoodIn wsX5_seats (va_wsS RX5 48 yX5_in wsX5_in) := goodIn_app (goodIn_of _ (by decide +kernel)) ggX5_seats_X5_in
set_option maxRecDepth 20000 in
theorem ggX5_seats_X5_exchanges : GoodIn wsX5_seats wsX5_exchanges := goodIn_r _ [9, 1, 10, 11, 12, 4, 13, 14, 15, 16, 17, 18, 19, 20, 21, 22, 23, 24, 25, 26, 27, 28, 29, 30, 31, 32, 33, 34] (by decide +kernel) (by decide +kernel)
set_option maxRecDepth 20000 in
theorem gX5_seats_X5_exchanges : GoodIn wsX5_seats (wsV RX5 121 RX5 yX5_exchanges wsX5_exchanges) := goodIn_app (goodIn_of _ (by decide +kernel)) ggX5_seats_X5_exchanges
theorem dX5_seats_0 : decode cX5_seats 0 = .ok (.iload_n 1, 1) := by decide +kernel
theorem dX5_seats_1 : decode cX5_seats 1 = .ok (.iconst 1, 1) := by decide +kernel
theorem dX5_seats_2 : decode cX5_seats 2 = .ok (.bipush 8, 2) := by decide +kernel
theorem dX5_seats_4 : decode cX5_seats 4 = .ok (.invokestatic 48, 3) := by decide +kernel
theorem dX5_seats_7 : decode cX5_seats 7 = .ok (.ifCond .ne 5, 3) := by decide +kernel
theorem dX5_seats_10 : decode cX5_seats 10 = .ok (.iconst (-1), 1) := by decide +kernel
theorem dX5_seats_11 : decode cX5_seats 11 = .ok (.ireturn, 1) := by decide +kernel
theorem dX5_seats_12 : decode cX5_seats 12 = .ok (.aload_n 0, 1) := by decide +kernel
theorem dX5_seats_13 : decode cX5_seats 13 = .ok (.getfield 7, 3) := by decide +kernel
theorem dX5_seats_16 : decode cX5_seats 16 = .ok (.bipush 22, 2) := by decide +kernel
theorem dX5_seats_18 : decode cX5_seats 18 = .ok (.iaload, 1) := by decide +kernel
theorem dX5_seats_19 : decode cX5_seats 19 = .ok (.iload_n 1, 1) := by decide +kernel
theorem dX5_seats_20 : decode cX5_seats 20 = .ok (.if_icmp .ne 8, 3) := by decide +kernel
theorem dX5_seats_23 : decode cX5_seats 23 = .ok (.bipush (-2), 2) := by decide +kernel
theorem dX5_seats_25 : decode cX5_seats 25 = .ok (.goto 10, 3) := by decide +kernel
theorem dX5_seats_28 : decode cX5_seats 28 = .ok (.aload_n 0, 1) := by decide +kernel
theorem dX5_seats_29 : decode cX5_seats 29 = .ok (.bipush 22, 2) := by decide +kernel
theorem dX5_seats_31 : decode cX5_seats 31 = .ok (.iload_n 1, 1) := by decide +kernel
theorem dX5_seats_32 : decode cX5_seats 32 = .ok (.invokevirtual 121, 3) := by decide +kernel
theorem dX5_seats_35 : decode cX5_seats 35 = .ok (.ireturn, 1) := by decide +kernel
set_option maxRecDepth 20000 in
theorem ggX5_withdraw_X5_isCandidate : GoodIn wsX5_withdraw wsX5_isCandidate := goodIn_r _ [6, 1, 7, 8, 5, 9, 26, 27, 28, 29, 30, 31, 32, 33, 34, 35, 36, 37, 38, 39, 40, 41, 42, 43, 44] (by decide +kernel) (by decide +kernel)
set_option maxRecDepth 20000 in
theorem gX5_withdraw_X5_isCandidate : GoodIn wsX5_withdraw (wsV RX5 125 RX5 yX5_isCandidate wsX5_isCandidate) := goodIn_app (goodIn_of _ (by decide +kernel)) ggX5_withdraw_X5_isCandidate
set_option maxRecDepth 20000 in
theorem ggX5_withdraw_X5_in : GoodIn wsX5_withdraw wsX5_in := goodIn_r _ [9] (by decide +kernel) (by decide +kernel)
set_option maxRecDepth 20000 in
theorem gX5_withdraw_X5_in : GoodIn wsX5_withdraw (va_wsS RX5 48 yX5_in wsX5_in) := goodIn_app (goodIn_of _ (by decide +kernel)) ggX5_withdraw_X5_in
set_option maxRecDepth 20000 in
theorem ggX5_withdraw_X5_has : GoodIn wsX5_withdraw wsX5_has := goodIn_r _ [12] (by decide +kernel) (by decide +kernel)
set_option maxRecDepth 20000 in
theorem gX5_withdraw_X5_has : GoodIn wsX5_withdraw (va_wsS RX5 85 yX5_has wsX5_has) := goodIn_app (goodIn_of _ (by decide +kernel)) ggX5_withdraw_X5_has
set_option maxRecDepth 20000 in
theorem ggX5_withdraw_X5_exchanges : GoodIn wsX5_withdraw wsX5_exchanges := goodIn_r _ [16, 1, 17, 18, 19, 5, 20, 21, 22, 26, 27, 28, 29, 30, 31, 32, 33, 34, 35, 36, 37, 38, 39, 40, 41, 42, 43, 44] (by decide +kernel) (by decide +kernel)
set_option maxRecDepth 20000 in
theorem gX5_withdraw_X5_exchanges : GoodIn wsX5_withdraw (wsV RX5 121 RX5 yX5_exchanges wsX5_exchanges) := goodIn_app (goodIn_of _ (by decide +kernel)) ggX5_withdraw_X5_exchanges
set_option maxRecDepth 20000 in
theorem ggX5_withdraw_X5_ones : GoodIn wsX5_withdraw wsX5_ones := goodIn_r _ [25] (by decide +kernel) (by decide +kernel)
set_option maxRecDepth 20000 in
theorem gX5_withdraw_X5_ones : GoodIn wsX5_withdraw (va_wsS RX5 128 yX5_ones wsX5_ones) := goodIn_app (goodIn_of _ (by decide +kernel)) ggX5_withdraw_X5_ones
theorem dX5_withdraw_0 : decode cX5_withdraw 0 = .ok (.aload_n 0, 1) := by decide +kernel
theorem dX5_withdraw_1 : decode cX5_withdraw 1 = .ok (.iload_n 1, 1) := by decide +kernel
theorem dX5_withdraw_2 : decode cX5_withdraw 2 = .ok (.invokevirtual 125, 3) := by decide +kernel
theorem dX5_withdraw_5 : decode cX5_withdraw 5 = .ok (.ifCond .eq 12, 3) := by decide +kernel
theorem dX5_withdraw_8 : decode cX5_withdraw 8 = .ok (.iload_n 2, 1) := by decide +kernel
theorem dX5_withdraw_9 : decode cX5_withdraw 9 = .ok (.iconst 0, 1) := by decide +kernel
theorem dX5_withdraw_10 : decode cX5_withdraw 10 = .ok (.iconst 1, 1) := by decide +kernel
theorem dX5_withdraw_11 : decode cX5_withdraw 11 = .ok (.invokestatic 48, 3) := by decide +kernel
theorem dX5_withdraw_14 : decode cX5_withdraw 14 = .ok (.ifCond .ne 5, 3) := by decide +kernel
theorem dX5_withdraw_17 : decode cX5_withdraw 17 = .ok (.iconst (-1), 1) := by decide +kernel
theorem dX5_withdraw_18 : decode cX5_withdraw 18 = .ok (.ireturn, 1) := by decide +kernel
theorem dX5_withdraw_19 : decode cX5_withdraw 19 = .ok (.aload_n 0, 1) := by decide +kernel
theorem dX5_withdraw_20 : decode cX5_withdraw 20 = .ok (.getfield 7, 3) := by decide +kernel
theorem dX5_withdraw_23 : decode cX5_withdraw 23 = .ok (.bipush 23, 2) := by decide +kernel
theorem dX5_withdraw_25 : decode cX5_withdraw 25 = .ok (.iaload, 1) := by decide +kernel
theorem dX5_withdraw_26 : decode cX5_withdraw 26 = .ok (.iload_n 1, 1) := by decide +kernel
theorem dX5_withdraw_27 : decode cX5_withdraw 27 = .ok (.invokestatic 85, 3) := by decide +kernel
theorem dX5_withdraw_30 : decode cX5_withdraw 30 = .ok (.iload_n 2, 1) := by decide +kernel
theorem dX5_withdraw_31 : decode cX5_withdraw 31 = .ok (.iconst 1, 1) := by decide +kernel
theorem dX5_withdraw_32 : decode cX5_withdraw 32 = .ok (.if_icmp .ne 7, 3) := by decide +kernel
theorem dX5_withdraw_35 : decode cX5_withdraw 35 = .ok (.iconst 1, 1) := by decide +kernel
theorem dX5_withdraw_36 : decode cX5_withdraw 36 = .ok (.goto 4, 3) := by decide +kernel
theorem dX5_withdraw_39 : decode cX5_withdraw 39 = .ok (.iconst 0, 1) := by decide +kernel
theorem dX5_withdraw_40 : decode cX5_withdraw 40 = .ok (.if_icmp .ne 6, 3) := by decide +kernel
theorem dX5_withdraw_43 : decode cX5_withdraw 43 = .ok (.bipush (-2), 2) := by decide +kernel
theorem dX5_withdraw_45 : decode cX5_withdraw 45 = .ok (.ireturn, 1) := by decide +kernel
theorem dX5_withdraw_46 : decode cX5_withdraw 46 = .ok (.aload_n 0, 1) := by decide +kernel
theorem dX5_withdraw_47 : decode cX5_withdraw 47 = .ok (.bipush 23, 2) := by decide +kernel
theorem dX5_withdraw_49 : decode cX5_withdraw 49 = .ok (.aload_n 0, 1) := by decide +kernel
theorem dX5_withdraw_50 : decode cX5_withdraw 50 = .ok (.getfield 7, 3) := by decide +kernel
theorem dX5_withdraw_53 : decode cX5_withdraw 53 = .ok (.bipush 23, 2) := by decide +kernel
theorem dX5_withdraw_55 : decode cX5_withdraw 55 = .ok (.iaload, 1) := by decide +kernel
theorem dX5_withdraw_56 : decode cX5_withdraw 56 = .ok (.iconst 1, 1) := by decide +kernel
theorem dX5_withdraw_57 : decode cX5_withdraw 57 = .ok (.iload_n 1, 1) := by decide +kernel
theorem dX5_withdraw_58 : decode cX5_withdraw 58 = .ok (.ishl, 1) := by decide +kernel
theorem dX5_withdraw_59 : decode cX5_withdraw 59 = .ok (.ixor, 1) := by decide +kernel
theorem dX5_withdraw_60 : decode cX5_withdraw 60 = .ok (.invokevirtual 121, 3) := by decide +kernel
theorem dX5_withdraw_63 : decode cX5_withdraw 63 = .ok (.istore_n 3, 1) := by decide +kernel
theorem dX5_withdraw_64 : decode cX5_withdraw 64 = .ok (.iload_n 3, 1) := by decide +kernel
theorem dX5_withdraw_65 : decode cX5_withdraw 65 = .ok (.ifCond .ge 8, 3) := by decide +kernel
theorem dX5_withdraw_68 : decode cX5_withdraw 68 = .ok (.bipush (-4), 2) := by decide +kernel
theorem dX5_withdraw_70 : decode cX5_withdraw 70 = .ok (.goto 13, 3) := by decide +kernel
theorem dX5_withdraw_73 : decode cX5_withdraw 73 = .ok (.aload_n 0, 1) := by decide +kernel
theorem dX5_withdraw_74 : decode cX5_withdraw 74 = .ok (.getfield 7, 3) := by decide +kernel
theorem dX5_withdraw_77 : decode cX5_withdraw 77 = .ok (.bipush 23, 2) := by decide +kernel
theorem dX5_withdraw_79 : decode cX5_withdraw 79 = .ok (.iaload, 1) := by decide +kernel
theorem dX5_withdraw_80 : decode cX5_withdraw 80 = .ok (.invokestatic 128, 3) := by decide +kernel
theorem dX5_withdraw_83 : decode cX5_withdraw 83 = .ok (.ireturn, 1) := by decide +kernel
theorem dX5_placeOf_0 : decode cX5_placeOf 0 = .ok (.iconst 0, 1) := by decide +kernel
theorem dX5_placeOf_1 : decode cX5_placeOf 1 = .ok (.istore_n 2, 1) := by decide +kernel
theorem dX5_placeOf_2 : decode cX5_placeOf 2 = .ok (.aload_n 0, 1) := by decide +kernel
theorem dX5_placeOf_3 : decode cX5_placeOf 3 = .ok (.getfield 7, 3) := by decide +kernel
theorem dX5_placeOf_6 : decode cX5_placeOf 6 = .ok (.bipush 24, 2) := by decide +kernel
theorem dX5_placeOf_8 : decode cX5_placeOf 8 = .ok (.iload_n 2, 1) := by decide +kernel
theorem dX5_placeOf_9 : decode cX5_placeOf 9 = .ok (.iadd, 1) := by decide +kernel
theorem dX5_placeOf_10 : decode cX5_placeOf 10 = .ok (.iaload, 1) := by decide +kernel
theorem dX5_placeOf_11 : decode cX5_placeOf 11 = .ok (.iload_n 1, 1) := by decide +kernel
theorem dX5_placeOf_12 : decode cX5_placeOf 12 = .ok (.if_icmp .eq 9, 3) := by decide +kernel
theorem dX5_placeOf_15 : decode cX5_placeOf 15 = .ok (.iinc 2 1, 3) := by decide +kernel
theorem dX5_placeOf_18 : decode cX5_placeOf 18 = .ok (.goto (-16), 3) := by decide +kernel
theorem dX5_placeOf_21 : decode cX5_placeOf 21 = .ok (.iload_n 2, 1) := by decide +kernel
theorem dX5_placeOf_22 : decode cX5_placeOf 22 = .ok (.ireturn, 1) := by decide +kernel
set_option maxRecDepth 20000 in
theorem ggX5_prefer_X5_isCandidate : GoodIn wsX5_prefer wsX5_isCandidate := goodIn_r _ [6, 1, 7, 8, 5, 9, 20, 21, 22, 23, 24, 25, 26, 27, 28, 29, 30, 31, 32, 33, 34, 35, 36, 37, 38] (by decide +kernel) (by decide +kernel)
set_option maxRecDepth 20000 in
theorem gX5_prefer_X5_isCandidate : GoodIn wsX5_prefer (wsV RX5 125 RX5 yX5_isCandidate wsX5_isCandidate) := goodIn_app (goodIn_of _ (by decide +kernel)) ggX5_prefer_X5_isCandidate
set_option maxRecDepth 20000 in
theorem ggX5_prefer_X5_placeOf : GoodIn wsX5_prefer wsX5_placeOf := goodIn_r _ [13, 1, 20, 21, 22, 23, 24, 25, 26, 27, 28, 29, 30, 31, 32, 33, 34, 35, 36, 37, 38] (by decide +kernel) (by decide +kernel)
set_option maxRecDepth 20000 in
theorem gX5_prefer_X5_placeOf : GoodIn wsX5_prefer (wsV RX5 131 RX5 yX5_placeOf wsX5_placeOf) := goodIn_app (goodIn_of _ (by decide +kernel)) ggX5_prefer_X5_placeOf
set_option maxRecDepth 20000 in
theorem ggX5_prefer_X5_remembers : GoodIn wsX5_prefer wsX5_remembers := goodIn_r _ [17, 18, 19, 1, 20, 21, 22, 23, 24, 25, 26, 27, 28, 29, 30, 31, 32, 33, 34, 35, 36, 37, 38] (by decide +kernel) (by decide +kernel)
set_option maxRecDepth 20000 in
theorem gX5_prefer_X5_remembers : GoodIn wsX5_prefer (wsV RX5 109 RX5 yX5_remembers wsX5_remembers) := goodIn_app (goodIn_of _ (by decide +kernel)) ggX5_prefer_X5_remembers
theorem dX5_prefer_0 : decode cX5_prefer 0 = .ok (.aload_n 0, 1) := by decide +kernel
theorem dX5_prefer_1 : decode cX5_prefer 1 = .ok (.iload_n 1, 1) := by decide +kernel
theorem dX5_prefer_2 : decode cX5_prefer 2 = .ok (.invokevirtual 125, 3) := by decide +kernel
theorem dX5_prefer_5 : decode cX5_prefer 5 = .ok (.ifCond .ne 5, 3) := by decide +kernel
theorem dX5_prefer_8 : decode cX5_prefer 8 = .ok (.iconst (-1), 1) := by decide +kernel
theorem dX5_prefer_9 : decode cX5_prefer 9 = .ok (.ireturn, 1) := by decide +kernel
theorem dX5_prefer_10 : decode cX5_prefer 10 = .ok (.aload_n 0, 1) := by decide +kernel
theorem dX5_prefer_11 : decode cX5_prefer 11 = .ok (.iload_n 1, 1) := by decide +kernel
theorem dX5_prefer_12 : decode cX5_prefer 12 = .ok (.invokevirtual 131, 3) := by decide +kernel
theorem dX5_prefer_15 : decode cX5_prefer 15 = .ok (.istore_n 2, 1) := by decide +kernel
theorem dX5_prefer_16 : decode cX5_prefer 16 = .ok (.iload_n 2, 1) := by decide +kernel
theorem dX5_prefer_17 : decode cX5_prefer 17 = .ok (.ifCond .ne 6, 3) := by decide +kernel
theorem dX5_prefer_20 : decode cX5_prefer 20 = .ok (.bipush (-2), 2) := by decide +kernel
theorem dX5_prefer_22 : decode cX5_prefer 22 = .ok (.ireturn, 1) := by decide +kernel
theorem dX5_prefer_23 : decode cX5_prefer 23 = .ok (.aload_n 0, 1) := by decide +kernel
theorem dX5_prefer_24 : decode cX5_prefer 24 = .ok (.invokevirtual 109, 3) := by decide +kernel
theorem dX5_prefer_27 : decode cX5_prefer 27 = .ok (.iload_n 2, 1) := by decide +kernel
theorem dX5_prefer_28 : decode cX5_prefer 28 = .ok (.istore_n 3, 1) := by decide +kernel
theorem dX5_prefer_29 : decode cX5_prefer 29 = .ok (.iload_n 3, 1) := by decide +kernel
theorem dX5_prefer_30 : decode cX5_prefer 30 = .ok (.ifCond .le 29, 3) := by decide +kernel
theorem dX5_prefer_33 : decode cX5_prefer 33 = .ok (.aload_n 0, 1) := by decide +kernel
theorem dX5_prefer_34 : decode cX5_prefer 34 = .ok (.getfield 7, 3) := by decide +kernel
theorem dX5_prefer_37 : decode cX5_prefer 37 = .ok (.bipush 24, 2) := by decide +kernel
theorem dX5_prefer_39 : decode cX5_prefer 39 = .ok (.iload_n 3, 1) := by decide +kernel
theorem dX5_prefer_40 : decode cX5_prefer 40 = .ok (.iadd, 1) := by decide +kernel
theorem dX5_prefer_41 : decode cX5_prefer 41 = .ok (.aload_n 0, 1) := by decide +kernel
theorem dX5_prefer_42 : decode cX5_prefer 42 = .ok (.getfield 7, 3) := by decide +kernel
theorem dX5_prefer_45 : decode cX5_prefer 45 = .ok (.bipush 24, 2) := by decide +kernel
theorem dX5_prefer_47 : decode cX5_prefer 47 = .ok (.iload_n 3, 1) := by decide +kernel
theorem dX5_prefer_48 : decode cX5_prefer 48 = .ok (.iadd, 1) := by decide +kernel
theorem dX5_prefer_49 : decode cX5_prefer 49 = .ok (.iconst 1, 1) := by decide +kernel
theorem dX5_prefer_50 : decode cX5_prefer 50 = .ok (.isub, 1) := by decide +kernel
theorem dX5_prefer_51 : decode cX5_prefer 51 = .ok (.iaload, 1) := by decide +kernel
theorem dX5_prefer_52 : decode cX5_prefer 52 = .ok (.iastore, 1) := by decide +kernel
theorem dX5_prefer_53 : decode cX5_prefer 53 = .ok (.iinc 3 (-1), 3) := by decide +kernel
theorem dX5_prefer_56 : decode cX5_prefer 56 = .ok (.goto (-27), 3) := by decide +kernel
theorem dX5_prefer_59 : decode cX5_prefer 59 = .ok (.aload_n 0, 1) := by decide +kernel
theorem dX5_prefer_60 : decode cX5_prefer 60 = .ok (.getfield 7, 3) := by decide +kernel
theorem dX5_prefer_63 : decode cX5_prefer 63 = .ok (.bipush 24, 2) := by decide +kernel
theorem dX5_prefer_65 : decode cX5_prefer 65 = .ok (.iload_n 1, 1) := by decide +kernel
theorem dX5_prefer_66 : decode cX5_prefer 66 = .ok (.iastore, 1) := by decide +kernel
theorem dX5_prefer_67 : decode cX5_prefer 67 = .ok (.iload_n 2, 1) := by decide +kernel
theorem dX5_prefer_68 : decode cX5_prefer 68 = .ok (.ireturn, 1) := by decide +kernel
theorem dX5_undo_0 : decode cX5_undo 0 = .ok (.aload_n 0, 1) := by decide +kernel
theorem dX5_undo_1 : decode cX5_undo 1 = .ok (.getfield 106, 3) := by decide +kernel
theorem dX5_undo_4 : decode cX5_undo 4 = .ok (.ifCond .ne 6, 3) := by decide +kernel
theorem dX5_undo_7 : decode cX5_undo 7 = .ok (.bipush (-2), 2) := by decide +kernel
theorem dX5_undo_9 : decode cX5_undo 9 = .ok (.ireturn, 1) := by decide +kernel
theorem dX5_undo_10 : decode cX5_undo 10 = .ok (.aload_n 0, 1) := by decide +kernel
theorem dX5_undo_11 : decode cX5_undo 11 = .ok (.dup, 1) := by decide +kernel
theorem dX5_undo_12 : decode cX5_undo 12 = .ok (.getfield 106, 3) := by decide +kernel
theorem dX5_undo_15 : decode cX5_undo 15 = .ok (.iconst 1, 1) := by decide +kernel
theorem dX5_undo_16 : decode cX5_undo 16 = .ok (.isub, 1) := by decide +kernel
theorem dX5_undo_17 : decode cX5_undo 17 = .ok (.putfield 106, 3) := by decide +kernel
theorem dX5_undo_20 : decode cX5_undo 20 = .ok (.iconst 0, 1) := by decide +kernel
theorem dX5_undo_21 : decode cX5_undo 21 = .ok (.istore_n 1, 1) := by decide +kernel
theorem dX5_undo_22 : decode cX5_undo 22 = .ok (.iload_n 1, 1) := by decide +kernel
theorem dX5_undo_23 : decode cX5_undo 23 = .ok (.bipush 32, 2) := by decide +kernel
theorem dX5_undo_25 : decode cX5_undo 25 = .ok (.if_icmp .ge 29, 3) := by decide +kernel
theorem dX5_undo_28 : decode cX5_undo 28 = .ok (.aload_n 0, 1) := by decide +kernel
theorem dX5_undo_29 : decode cX5_undo 29 = .ok (.getfield 7, 3) := by decide +kernel
theorem dX5_undo_32 : decode cX5_undo 32 = .ok (.iload_n 1, 1) := by decide +kernel
theorem dX5_undo_33 : decode cX5_undo 33 = .ok (.aload_n 0, 1) := by decide +kernel
theorem dX5_undo_34 : decode cX5_undo 34 = .ok (.getfield 16, 3) := by decide +kernel
theorem dX5_undo_37 : decode cX5_undo 37 = .ok (.bipush 32, 2) := by decide +kernel
theorem dX5_undo_39 : decode cX5_undo 39 = .ok (.aload_n 0, 1) := by decide +kernel
theorem dX5_undo_40 : decode cX5_undo 40 = .ok (.getfield 106, 3) := by decide +kernel
theorem dX5_undo_43 : decode cX5_undo 43 = .ok (.imul, 1) := by decide +kernel
theorem dX5_undo_44 : decode cX5_undo 44 = .ok (.iload_n 1, 1) := by decide +kernel
theorem dX5_undo_45 : decode cX5_undo 45 = .ok (.iadd, 1) := by decide +kernel
theorem dX5_undo_46 : decode cX5_undo 46 = .ok (.iaload, 1) := by decide +kernel
theorem dX5_undo_47 : decode cX5_undo 47 = .ok (.iastore, 1) := by decide +kernel
theorem dX5_undo_48 : decode cX5_undo 48 = .ok (.iinc 1 1, 3) := by decide +kernel
theorem dX5_undo_51 : decode cX5_undo 51 = .ok (.goto (-29), 3) := by decide +kernel
theorem dX5_undo_54 : decode cX5_undo 54 = .ok (.aload_n 0, 1) := by decide +kernel
theorem dX5_undo_55 : decode cX5_undo 55 = .ok (.getfield 106, 3) := by decide +kernel
theorem dX5_undo_58 : decode cX5_undo 58 = .ok (.ireturn, 1) := by decide +kernel
end
section
theorem dX5_lays_0 : decode cX5_lays 0 = .ok (.aload_n 0, 1) := by decide +kernel
theorem dX5_lays_1 : decode cX5_lays 1 = .ok (.aload_n 0, 1) := by decide +kernel
theorem dX5_lays_2 : decode cX5_lays 2 = .ok (.getfield 7, 3) := by decide +kernel
theorem dX5_lays_5 : decode cX5_lays 5 = .ok (.iconst 1, 1) := by decide +kernel
theorem dX5_lays_6 : decode cX5_lays 6 = .ok (.iaload, 1) := by decide +kernel
theorem dX5_lays_7 : decode cX5_lays 7 = .ok (.putfield 134, 3) := by decide +kernel
theorem dX5_lays_10 : decode cX5_lays 10 = .ok (.iconst 0, 1) := by decide +kernel
theorem dX5_lays_11 : decode cX5_lays 11 = .ok (.istore_n 1, 1) := by decide +kernel
theorem dX5_lays_12 : decode cX5_lays 12 = .ok (.iload_n 1, 1) := by decide +kernel
theorem dX5_lays_13 : decode cX5_lays 13 = .ok (.aload_n 0, 1) := by decide +kernel
theorem dX5_lays_14 : decode cX5_lays 14 = .ok (.getfield 134, 3) := by decide +kernel
theorem dX5_lays_17 : decode cX5_lays 17 = .ok (.if_icmp .ge 38, 3) := by decide +kernel
theorem dX5_lays_20 : decode cX5_lays 20 = .ok (.aload_n 0, 1) := by decide +kernel
theorem dX5_lays_21 : decode cX5_lays 21 = .ok (.getfield 22, 3) := by decide +kernel
theorem dX5_lays_24 : decode cX5_lays 24 = .ok (.iload_n 1, 1) := by decide +kernel
theorem dX5_lays_25 : decode cX5_lays 25 = .ok (.aload_n 0, 1) := by decide +kernel
theorem dX5_lays_26 : decode cX5_lays 26 = .ok (.getfield 7, 3) := by decide +kernel
theorem dX5_lays_29 : decode cX5_lays 29 = .ok (.iconst 2, 1) := by decide +kernel
theorem dX5_lays_30 : decode cX5_lays 30 = .ok (.iload_n 1, 1) := by decide +kernel
theorem dX5_lays_31 : decode cX5_lays 31 = .ok (.iadd, 1) := by decide +kernel
theorem dX5_lays_32 : decode cX5_lays 32 = .ok (.iaload, 1) := by decide +kernel
theorem dX5_lays_33 : decode cX5_lays 33 = .ok (.iastore, 1) := by decide +kernel
theorem dX5_lays_34 : decode cX5_lays 34 = .ok (.aload_n 0, 1) := by decide +kernel
theorem dX5_lays_35 : decode cX5_lays 35 = .ok (.getfield 25, 3) := by decide +kernel
theorem dX5_lays_38 : decode cX5_lays 38 = .ok (.iload_n 1, 1) := by decide +kernel
theorem dX5_lays_39 : decode cX5_lays 39 = .ok (.aload_n 0, 1) := by decide +kernel
theorem dX5_lays_40 : decode cX5_lays 40 = .ok (.getfield 7, 3) := by decide +kernel
theorem dX5_lays_43 : decode cX5_lays 43 = .ok (.bipush 12, 2) := by decide +kernel
theorem dX5_lays_45 : decode cX5_lays 45 = .ok (.iload_n 1, 1) := by decide +kernel
theorem dX5_lays_46 : decode cX5_lays 46 = .ok (.iadd, 1) := by decide +kernel
theorem dX5_lays_47 : decode cX5_lays 47 = .ok (.iaload, 1) := by decide +kernel
theorem dX5_lays_48 : decode cX5_lays 48 = .ok (.iastore, 1) := by decide +kernel
theorem dX5_lays_49 : decode cX5_lays 49 = .ok (.iinc 1 1, 3) := by decide +kernel
theorem dX5_lays_52 : decode cX5_lays 52 = .ok (.goto (-40), 3) := by decide +kernel
theorem dX5_lays_55 : decode cX5_lays 55 = .ok (.iconst 0, 1) := by decide +kernel
theorem dX5_lays_56 : decode cX5_lays 56 = .ok (.istore_n 1, 1) := by decide +kernel
theorem dX5_lays_57 : decode cX5_lays 57 = .ok (.iload_n 1, 1) := by decide +kernel
theorem dX5_lays_58 : decode cX5_lays 58 = .ok (.aload_n 0, 1) := by decide +kernel
theorem dX5_lays_59 : decode cX5_lays 59 = .ok (.getfield 7, 3) := by decide +kernel
theorem dX5_lays_62 : decode cX5_lays 62 = .ok (.iconst 0, 1) := by decide +kernel
theorem dX5_lays_63 : decode cX5_lays 63 = .ok (.iaload, 1) := by decide +kernel
theorem dX5_lays_64 : decode cX5_lays 64 = .ok (.if_icmp .ge 24, 3) := by decide +kernel
theorem dX5_lays_67 : decode cX5_lays 67 = .ok (.aload_n 0, 1) := by decide +kernel
theorem dX5_lays_68 : decode cX5_lays 68 = .ok (.getfield 28, 3) := by decide +kernel
theorem dX5_lays_71 : decode cX5_lays 71 = .ok (.iload_n 1, 1) := by decide +kernel
theorem dX5_lays_72 : decode cX5_lays 72 = .ok (.aload_n 0, 1) := by decide +kernel
theorem dX5_lays_73 : decode cX5_lays 73 = .ok (.getfield 7, 3) := by decide +kernel
theorem dX5_lays_76 : decode cX5_lays 76 = .ok (.bipush 24, 2) := by decide +kernel
theorem dX5_lays_78 : decode cX5_lays 78 = .ok (.iload_n 1, 1) := by decide +kernel
theorem dX5_lays_79 : decode cX5_lays 79 = .ok (.iadd, 1) := by decide +kernel
theorem dX5_lays_80 : decode cX5_lays 80 = .ok (.iaload, 1) := by decide +kernel
theorem dX5_lays_81 : decode cX5_lays 81 = .ok (.iastore, 1) := by decide +kernel
theorem dX5_lays_82 : decode cX5_lays 82 = .ok (.iinc 1 1, 3) := by decide +kernel
theorem dX5_lays_85 : decode cX5_lays 85 = .ok (.goto (-28), 3) := by decide +kernel
theorem dX5_lays_88 : decode cX5_lays 88 = .ok (.return_, 1) := by decide +kernel
set_option maxRecDepth 20000 in
theorem ggX5_supportOf_X5_has : GoodIn wsX5_supportOf wsX5_has := goodIn_r _ [7] (by decide +kernel) (by decide +kernel)
set_option maxRecDepth 20000 in
theorem gX5_supportOf_X5_has : GoodIn wsX5_supportOf (va_wsS RX5 85 yX5_has wsX5_has) := goodIn_app (goodIn_of _ (by decide +kernel)) ggX5_supportOf_X5_has
theorem dX5_supportOf_0 : decode cX5_supportOf 0 = .ok (.iconst 0, 1) := by decide +kernel
theorem dX5_supportOf_1 : decode cX5_supportOf 1 = .ok (.istore_n 2, 1) := by decide +kernel
theorem dX5_supportOf_2 : decode cX5_supportOf 2 = .ok (.iconst 0, 1) := by decide +kernel
theorem dX5_supportOf_3 : decode cX5_supportOf 3 = .ok (.istore_n 3, 1) := by decide +kernel
theorem dX5_supportOf_4 : decode cX5_supportOf 4 = .ok (.iload_n 3, 1) := by decide +kernel
theorem dX5_supportOf_5 : decode cX5_supportOf 5 = .ok (.aload_n 0, 1) := by decide +kernel
theorem dX5_supportOf_6 : decode cX5_supportOf 6 = .ok (.getfield 134, 3) := by decide +kernel
theorem dX5_supportOf_9 : decode cX5_supportOf 9 = .ok (.if_icmp .ge 35, 3) := by decide +kernel
theorem dX5_supportOf_12 : decode cX5_supportOf 12 = .ok (.iload_n 2, 1) := by decide +kernel
theorem dX5_supportOf_13 : decode cX5_supportOf 13 = .ok (.aload_n 0, 1) := by decide +kernel
theorem dX5_supportOf_14 : decode cX5_supportOf 14 = .ok (.getfield 25, 3) := by decide +kernel
theorem dX5_supportOf_17 : decode cX5_supportOf 17 = .ok (.iload_n 3, 1) := by decide +kernel
theorem dX5_supportOf_18 : decode cX5_supportOf 18 = .ok (.iaload, 1) := by decide +kernel
theorem dX5_supportOf_19 : decode cX5_supportOf 19 = .ok (.iload_n 1, 1) := by decide +kernel
theorem dX5_supportOf_20 : decode cX5_supportOf 20 = .ok (.invokestatic 85, 3) := by decide +kernel
theorem dX5_supportOf_23 : decode cX5_supportOf 23 = .ok (.ifCond .eq 12, 3) := by decide +kernel
theorem dX5_supportOf_26 : decode cX5_supportOf 26 = .ok (.aload_n 0, 1) := by decide +kernel
theorem dX5_supportOf_27 : decode cX5_supportOf 27 = .ok (.getfield 22, 3) := by decide +kernel
theorem dX5_supportOf_30 : decode cX5_supportOf 30 = .ok (.iload_n 3, 1) := by decide +kernel
theorem dX5_supportOf_31 : decode cX5_supportOf 31 = .ok (.iaload, 1) := by decide +kernel
theorem dX5_supportOf_32 : decode cX5_supportOf 32 = .ok (.goto 4, 3) := by decide +kernel
theorem dX5_supportOf_35 : decode cX5_supportOf 35 = .ok (.iconst 0, 1) := by decide +kernel
theorem dX5_supportOf_36 : decode cX5_supportOf 36 = .ok (.iadd, 1) := by decide +kernel
theorem dX5_supportOf_37 : decode cX5_supportOf 37 = .ok (.istore_n 2, 1) := by decide +kernel
theorem dX5_supportOf_38 : decode cX5_supportOf 38 = .ok (.iinc 3 1, 3) := by decide +kernel
theorem dX5_supportOf_41 : decode cX5_supportOf 41 = .ok (.goto (-37), 3) := by decide +kernel
theorem dX5_supportOf_44 : decode cX5_supportOf 44 = .ok (.iload_n 2, 1) := by decide +kernel
theorem dX5_supportOf_45 : decode cX5_supportOf 45 = .ok (.ireturn, 1) := by decide +kernel
set_option maxRecDepth 20000 in
theorem ggX5_loadOf_X5_has : GoodIn wsX5_loadOf wsX5_has := goodIn_r _ [9] (by decide +kernel) (by decide +kernel)
set_option maxRecDepth 20000 in
theorem gX5_loadOf_X5_has : GoodIn wsX5_loadOf (va_wsS RX5 85 yX5_has wsX5_has) := goodIn_app (goodIn_of _ (by decide +kernel)) ggX5_loadOf_X5_has
theorem dX5_loadOf_0 : decode cX5_loadOf 0 = .ok (.aload_n 0, 1) := by decide +kernel
theorem dX5_loadOf_1 : decode cX5_loadOf 1 = .ok (.getfield 137, 3) := by decide +kernel
theorem dX5_loadOf_4 : decode cX5_loadOf 4 = .ok (.lstore_n 2, 1) := by decide +kernel
theorem dX5_loadOf_5 : decode cX5_loadOf 5 = .ok (.iconst 0, 1) := by decide +kernel
theorem dX5_loadOf_6 : decode cX5_loadOf 6 = .ok (.istore 4, 2) := by decide +kernel
theorem dX5_loadOf_8 : decode cX5_loadOf 8 = .ok (.iload 4, 2) := by decide +kernel
theorem dX5_loadOf_10 : decode cX5_loadOf 10 = .ok (.aload_n 0, 1) := by decide +kernel
theorem dX5_loadOf_11 : decode cX5_loadOf 11 = .ok (.getfield 134, 3) := by decide +kernel
theorem dX5_loadOf_14 : decode cX5_loadOf 14 = .ok (.if_icmp .ge 46, 3) := by decide +kernel
theorem dX5_loadOf_17 : decode cX5_loadOf 17 = .ok (.lload_n 2, 1) := by decide +kernel
theorem dX5_loadOf_18 : decode cX5_loadOf 18 = .ok (.aload_n 0, 1) := by decide +kernel
theorem dX5_loadOf_19 : decode cX5_loadOf 19 = .ok (.getfield 25, 3) := by decide +kernel
theorem dX5_loadOf_22 : decode cX5_loadOf 22 = .ok (.iload 4, 2) := by decide +kernel
theorem dX5_loadOf_24 : decode cX5_loadOf 24 = .ok (.iaload, 1) := by decide +kernel
theorem dX5_loadOf_25 : decode cX5_loadOf 25 = .ok (.iload_n 1, 1) := by decide +kernel
theorem dX5_loadOf_26 : decode cX5_loadOf 26 = .ok (.invokestatic 85, 3) := by decide +kernel
theorem dX5_loadOf_29 : decode cX5_loadOf 29 = .ok (.ifCond .eq 22, 3) := by decide +kernel
theorem dX5_loadOf_32 : decode cX5_loadOf 32 = .ok (.aload_n 0, 1) := by decide +kernel
theorem dX5_loadOf_33 : decode cX5_loadOf 33 = .ok (.getfield 22, 3) := by decide +kernel
theorem dX5_loadOf_36 : decode cX5_loadOf 36 = .ok (.iload 4, 2) := by decide +kernel
theorem dX5_loadOf_38 : decode cX5_loadOf 38 = .ok (.iaload, 1) := by decide +kernel
theorem dX5_loadOf_39 : decode cX5_loadOf 39 = .ok (.i2l, 1) := by decide +kernel
theorem dX5_loadOf_40 : decode cX5_loadOf 40 = .ok (.aload_n 0, 1) := by decide +kernel
theorem dX5_loadOf_41 : decode cX5_loadOf 41 = .ok (.getfield 31, 3) := by decide +kernel
theorem dX5_loadOf_44 : decode cX5_loadOf 44 = .ok (.iload 4, 2) := by decide +kernel
theorem dX5_loadOf_46 : decode cX5_loadOf 46 = .ok (.laload, 1) := by decide +kernel
theorem dX5_loadOf_47 : decode cX5_loadOf 47 = .ok (.lmul, 1) := by decide +kernel
theorem dX5_loadOf_48 : decode cX5_loadOf 48 = .ok (.goto 4, 3) := by decide +kernel
theorem dX5_loadOf_51 : decode cX5_loadOf 51 = .ok (.lconst 0, 1) := by decide +kernel
theorem dX5_loadOf_52 : decode cX5_loadOf 52 = .ok (.ladd, 1) := by decide +kernel
theorem dX5_loadOf_53 : decode cX5_loadOf 53 = .ok (.lstore_n 2, 1) := by decide +kernel
theorem dX5_loadOf_54 : decode cX5_loadOf 54 = .ok (.iinc 4 1, 3) := by decide +kernel
theorem dX5_loadOf_57 : decode cX5_loadOf 57 = .ok (.goto (-49), 3) := by decide +kernel
theorem dX5_loadOf_60 : decode cX5_loadOf 60 = .ok (.lload_n 2, 1) := by decide +kernel
theorem dX5_loadOf_61 : decode cX5_loadOf 61 = .ok (.lreturn, 1) := by decide +kernel
set_option maxRecDepth 20000 in
theorem ggX5_weightOf_X5_ones : GoodIn wsX5_weightOf wsX5_ones := goodIn_r _ [8] (by decide +kernel) (by decide +kernel)
set_option maxRecDepth 20000 in
theorem gX5_weightOf_X5_ones : GoodIn wsX5_weightOf (va_wsS RX5 128 yX5_ones wsX5_ones) := goodIn_app (goodIn_of _ (by decide +kernel)) ggX5_weightOf_X5_ones
set_option maxRecDepth 20000 in
theorem ggX5_weightOf_X5_has : GoodIn wsX5_weightOf wsX5_has := goodIn_r _ [11] (by decide +kernel) (by decide +kernel)
set_option maxRecDepth 20000 in
theorem gX5_weightOf_X5_has : GoodIn wsX5_weightOf (va_wsS RX5 85 yX5_has wsX5_has) := goodIn_app (goodIn_of _ (by decide +kernel)) ggX5_weightOf_X5_has
theorem dX5_weightOf_0 : decode cX5_weightOf 0 = .ok (.iconst 0, 1) := by decide +kernel
theorem dX5_weightOf_1 : decode cX5_weightOf 1 = .ok (.istore_n 2, 1) := by decide +kernel
theorem dX5_weightOf_2 : decode cX5_weightOf 2 = .ok (.iconst 0, 1) := by decide +kernel
theorem dX5_weightOf_3 : decode cX5_weightOf 3 = .ok (.istore_n 3, 1) := by decide +kernel
theorem dX5_weightOf_4 : decode cX5_weightOf 4 = .ok (.iload_n 3, 1) := by decide +kernel
theorem dX5_weightOf_5 : decode cX5_weightOf 5 = .ok (.aload_n 0, 1) := by decide +kernel
theorem dX5_weightOf_6 : decode cX5_weightOf 6 = .ok (.getfield 134, 3) := by decide +kernel
theorem dX5_weightOf_9 : decode cX5_weightOf 9 = .ok (.if_icmp .ge 60, 3) := by decide +kernel
theorem dX5_weightOf_12 : decode cX5_weightOf 12 = .ok (.aload_n 0, 1) := by decide +kernel
theorem dX5_weightOf_13 : decode cX5_weightOf 13 = .ok (.getfield 25, 3) := by decide +kernel
theorem dX5_weightOf_16 : decode cX5_weightOf 16 = .ok (.iload_n 3, 1) := by decide +kernel
theorem dX5_weightOf_17 : decode cX5_weightOf 17 = .ok (.iaload, 1) := by decide +kernel
theorem dX5_weightOf_18 : decode cX5_weightOf 18 = .ok (.aload_n 0, 1) := by decide +kernel
theorem dX5_weightOf_19 : decode cX5_weightOf 19 = .ok (.getfield 141, 3) := by decide +kernel
theorem dX5_weightOf_22 : decode cX5_weightOf 22 = .ok (.iand, 1) := by decide +kernel
theorem dX5_weightOf_23 : decode cX5_weightOf 23 = .ok (.invokestatic 128, 3) := by decide +kernel
theorem dX5_weightOf_26 : decode cX5_weightOf 26 = .ok (.istore 4, 2) := by decide +kernel
theorem dX5_weightOf_28 : decode cX5_weightOf 28 = .ok (.iload_n 2, 1) := by decide +kernel
theorem dX5_weightOf_29 : decode cX5_weightOf 29 = .ok (.aload_n 0, 1) := by decide +kernel
theorem dX5_weightOf_30 : decode cX5_weightOf 30 = .ok (.getfield 25, 3) := by decide +kernel
theorem dX5_weightOf_33 : decode cX5_weightOf 33 = .ok (.iload_n 3, 1) := by decide +kernel
theorem dX5_weightOf_34 : decode cX5_weightOf 34 = .ok (.iaload, 1) := by decide +kernel
theorem dX5_weightOf_35 : decode cX5_weightOf 35 = .ok (.iload_n 1, 1) := by decide +kernel
theorem dX5_weightOf_36 : decode cX5_weightOf 36 = .ok (.invokestatic 85, 3) := by decide +kernel
theorem dX5_weightOf_39 : decode cX5_weightOf 39 = .ok (.ifCond .eq 21, 3) := by decide +kernel
theorem dX5_weightOf_42 : decode cX5_weightOf 42 = .ok (.aload_n 0, 1) := by decide +kernel
theorem dX5_weightOf_43 : decode cX5_weightOf 43 = .ok (.getfield 22, 3) := by decide +kernel
theorem dX5_weightOf_46 : decode cX5_weightOf 46 = .ok (.iload_n 3, 1) := by decide +kernel
theorem dX5_weightOf_47 : decode cX5_weightOf 47 = .ok (.iaload, 1) := by decide +kernel
theorem dX5_weightOf_48 : decode cX5_weightOf 48 = .ok (.sipush 2520, 3) := by decide +kernel
theorem dX5_weightOf_51 : decode cX5_weightOf 51 = .ok (.iconst 1, 1) := by decide +kernel
theorem dX5_weightOf_52 : decode cX5_weightOf 52 = .ok (.iload 4, 2) := by decide +kernel
theorem dX5_weightOf_54 : decode cX5_weightOf 54 = .ok (.iadd, 1) := by decide +kernel
theorem dX5_weightOf_55 : decode cX5_weightOf 55 = .ok (.idiv, 1) := by decide +kernel
theorem dX5_weightOf_56 : decode cX5_weightOf 56 = .ok (.imul, 1) := by decide +kernel
theorem dX5_weightOf_57 : decode cX5_weightOf 57 = .ok (.goto 4, 3) := by decide +kernel
theorem dX5_weightOf_60 : decode cX5_weightOf 60 = .ok (.iconst 0, 1) := by decide +kernel
theorem dX5_weightOf_61 : decode cX5_weightOf 61 = .ok (.iadd, 1) := by decide +kernel
theorem dX5_weightOf_62 : decode cX5_weightOf 62 = .ok (.istore_n 2, 1) := by decide +kernel
theorem dX5_weightOf_63 : decode cX5_weightOf 63 = .ok (.iinc 3 1, 3) := by decide +kernel
theorem dX5_weightOf_66 : decode cX5_weightOf 66 = .ok (.goto (-62), 3) := by decide +kernel
theorem dX5_weightOf_69 : decode cX5_weightOf 69 = .ok (.iload_n 2, 1) := by decide +kernel
theorem dX5_weightOf_70 : decode cX5_weightOf 70 = .ok (.ireturn, 1) := by decide +kernel
set_option maxRecDepth 20000 in
theorem ggX5_isAhead_X5_supportOf : GoodIn wsX5_isAhead wsX5_supportOf := goodIn_r _ [5, 6, 7, 8, 9, 10, 4, 11, 26, 27, 28, 29, 30, 31, 32, 33, 34, 35, 36, 37, 38, 39, 40, 41, 42, 43, 44] (by decide +kernel) (by decide +kernel)
set_option maxRecDepth 20000 in
theorem gX5_isAhead_X5_supportOf : GoodIn wsX5_isAhead (wsV RX5 144 RX5 yX5_supportOf wsX5_supportOf) := goodIn_app (goodIn_of _ (by decide +kernel)) ggX5_isAhead_X5_supportOf
set_option maxRecDepth 20000 in
theorem ggX5_isAhead_X5_weightOf : GoodIn wsX5_isAhead wsX5_weightOf := goodIn_r _ [15, 6, 7, 16, 8, 17, 18, 4, 19, 9, 10, 11, 26, 27, 28, 29, 30, 31, 32, 33, 34, 35, 36, 37, 38, 39, 40, 41, 42, 43, 44] (by decide +kernel) (by decide +kernel)
set_option maxRecDepth 20000 in
theorem gX5_isAhead_X5_weightOf : GoodIn wsX5_isAhead (wsV RX5 147 RX5 yX5_weightOf wsX5_weightOf) := goodIn_app (goodIn_of _ (by decide +kernel)) ggX5_isAhead_X5_weightOf
set_option maxRecDepth 20000 in
theorem ggX5_isAhead_X5_loadOf : GoodIn wsX5_isAhead wsX5_loadOf := goodIn_r _ [23, 24, 6, 7, 8, 25, 9, 10, 4, 11, 26, 27, 28, 29, 30, 31, 32, 33, 34, 35, 36, 37, 38, 39, 40, 41, 42, 43, 44] (by decide +kernel) (by decide +kernel)
set_option maxRecDepth 20000 in
theorem gX5_isAhead_X5_loadOf : GoodIn wsX5_isAhead (wsV RX5 150 RX5 yX5_loadOf wsX5_loadOf) := goodIn_app (goodIn_of _ (by decide +kernel)) ggX5_isAhead_X5_loadOf
theorem dX5_isAhead_0 : decode cX5_isAhead 0 = .ok (.iload_n 1, 1) := by decide +kernel
theorem dX5_isAhead_1 : decode cX5_isAhead 1 = .ok (.lookupswitch 65 #[(1, 27), (2, 46)], 27) := by decide +kernel
theorem dX5_isAhead_28 : decode cX5_isAhead 28 = .ok (.aload_n 0, 1) := by decide +kernel
theorem dX5_isAhead_29 : decode cX5_isAhead 29 = .ok (.iload_n 2, 1) := by decide +kernel
theorem dX5_isAhead_30 : decode cX5_isAhead 30 = .ok (.invokevirtual 144, 3) := by decide +kernel
theorem dX5_isAhead_33 : decode cX5_isAhead 33 = .ok (.aload_n 0, 1) := by decide +kernel
theorem dX5_isAhead_34 : decode cX5_isAhead 34 = .ok (.iload_n 3, 1) := by decide +kernel
theorem dX5_isAhead_35 : decode cX5_isAhead 35 = .ok (.invokevirtual 144, 3) := by decide +kernel
theorem dX5_isAhead_38 : decode cX5_isAhead 38 = .ok (.if_icmp .le 7, 3) := by decide +kernel
theorem dX5_isAhead_41 : decode cX5_isAhead 41 = .ok (.iconst 1, 1) := by decide +kernel
theorem dX5_isAhead_42 : decode cX5_isAhead 42 = .ok (.goto 4, 3) := by decide +kernel
theorem dX5_isAhead_45 : decode cX5_isAhead 45 = .ok (.iconst 0, 1) := by decide +kernel
theorem dX5_isAhead_46 : decode cX5_isAhead 46 = .ok (.ireturn, 1) := by decide +kernel
theorem dX5_isAhead_47 : decode cX5_isAhead 47 = .ok (.aload_n 0, 1) := by decide +kernel
theorem dX5_isAhead_48 : decode cX5_isAhead 48 = .ok (.iload_n 2, 1) := by decide +kernel
theorem dX5_isAhead_49 : decode cX5_isAhead 49 = .ok (.invokevirtual 147, 3) := by decide +kernel
theorem dX5_isAhead_52 : decode cX5_isAhead 52 = .ok (.aload_n 0, 1) := by decide +kernel
theorem dX5_isAhead_53 : decode cX5_isAhead 53 = .ok (.iload_n 3, 1) := by decide +kernel
theorem dX5_isAhead_54 : decode cX5_isAhead 54 = .ok (.invokevirtual 147, 3) := by decide +kernel
theorem dX5_isAhead_57 : decode cX5_isAhead 57 = .ok (.if_icmp .le 7, 3) := by decide +kernel
theorem dX5_isAhead_60 : decode cX5_isAhead 60 = .ok (.iconst 1, 1) := by decide +kernel
theorem dX5_isAhead_61 : decode cX5_isAhead 61 = .ok (.goto 4, 3) := by decide +kernel
theorem dX5_isAhead_64 : decode cX5_isAhead 64 = .ok (.iconst 0, 1) := by decide +kernel
theorem dX5_isAhead_65 : decode cX5_isAhead 65 = .ok (.ireturn, 1) := by decide +kernel
theorem dX5_isAhead_66 : decode cX5_isAhead 66 = .ok (.aload_n 0, 1) := by decide +kernel
theorem dX5_isAhead_67 : decode cX5_isAhead 67 = .ok (.iload_n 2, 1) := by decide +kernel
theorem dX5_isAhead_68 : decode cX5_isAhead 68 = .ok (.invokevirtual 150, 3) := by decide +kernel
theorem dX5_isAhead_71 : decode cX5_isAhead 71 = .ok (.aload_n 0, 1) := by decide +kernel
theorem dX5_isAhead_72 : decode cX5_isAhead 72 = .ok (.iload_n 3, 1) := by decide +kernel
theorem dX5_isAhead_73 : decode cX5_isAhead 73 = .ok (.invokevirtual 144, 3) := by decide +kernel
theorem dX5_isAhead_76 : decode cX5_isAhead 76 = .ok (.i2l, 1) := by decide +kernel
theorem dX5_isAhead_77 : decode cX5_isAhead 77 = .ok (.lmul, 1) := by decide +kernel
theorem dX5_isAhead_78 : decode cX5_isAhead 78 = .ok (.aload_n 0, 1) := by decide +kernel
theorem dX5_isAhead_79 : decode cX5_isAhead 79 = .ok (.iload_n 3, 1) := by decide +kernel
theorem dX5_isAhead_80 : decode cX5_isAhead 80 = .ok (.invokevirtual 150, 3) := by decide +kernel
theorem dX5_isAhead_83 : decode cX5_isAhead 83 = .ok (.aload_n 0, 1) := by decide +kernel
theorem dX5_isAhead_84 : decode cX5_isAhead 84 = .ok (.iload_n 2, 1) := by decide +kernel
theorem dX5_isAhead_85 : decode cX5_isAhead 85 = .ok (.invokevirtual 144, 3) := by decide +kernel
theorem dX5_isAhead_88 : decode cX5_isAhead 88 = .ok (.i2l, 1) := by decide +kernel
theorem dX5_isAhead_89 : decode cX5_isAhead 89 = .ok (.lmul, 1) := by decide +kernel
theorem dX5_isAhead_90 : decode cX5_isAhead 90 = .ok (.lcmp, 1) := by decide +kernel
theorem dX5_isAhead_91 : decode cX5_isAhead 91 = .ok (.ifCond .ge 7, 3) := by decide +kernel
theorem dX5_isAhead_94 : decode cX5_isAhead 94 = .ok (.iconst 1, 1) := by decide +kernel
theorem dX5_isAhead_95 : decode cX5_isAhead 95 = .ok (.goto 4, 3) := by decide +kernel
theorem dX5_isAhead_98 : decode cX5_isAhead 98 = .ok (.iconst 0, 1) := by decide +kernel
theorem dX5_isAhead_99 : decode cX5_isAhead 99 = .ok (.ireturn, 1) := by decide +kernel
set_option maxRecDepth 20000 in
theorem ggX5_nextOf_X5_has : GoodIn wsX5_nextOf wsX5_has := goodIn_r _ [7] (by decide +kernel) (by decide +kernel)
set_option maxRecDepth 20000 in
theorem gX5_nextOf_X5_has : GoodIn wsX5_nextOf (va_wsS RX5 85 yX5_has wsX5_has) := goodIn_app (goodIn_of _ (by decide +kernel)) ggX5_nextOf_X5_has
set_option maxRecDepth 20000 in
theorem ggX5_nextOf_X5_supportOf : GoodIn wsX5_nextOf wsX5_supportOf := goodIn_r _ [11, 12, 13, 14, 4, 5, 6, 7, 32, 33, 34, 35, 36, 37, 38, 39, 40, 41, 42, 43, 44, 45, 46, 47, 48, 49, 50] (by decide +kernel) (by decide +kernel)
set_option maxRecDepth 20000 in
theorem gX5_nextOf_X5_supportOf : GoodIn wsX5_nextOf (wsV RX5 144 RX5 yX5_supportOf wsX5_supportOf) := goodIn_app (goodIn_of _ (by decide +kernel)) ggX5_nextOf_X5_supportOf
set_option maxRecDepth 20000 in
theorem ggX5_nextOf_X5_isAhead : GoodIn wsX5_nextOf wsX5_isAhead := goodIn_r _ [18, 8, 9, 10, 6, 11, 12, 13, 14, 4, 5, 7, 19, 20, 21, 22, 3, 23, 24, 25, 26, 27, 28, 29, 30, 31, 32, 33, 34, 35, 36, 37, 38, 39, 40, 41, 42, 43, 44, 45, 46, 47, 48, 49, 50] (by decide +kernel) (by decide +kernel)
set_option maxRecDepth 20000 in
theorem gX5_nextOf_X5_isAhead : GoodIn wsX5_nextOf (wsV RX5 154 RX5 yX5_isAhead wsX5_isAhead) := goodIn_app (goodIn_of _ (by decide +kernel)) ggX5_nextOf_X5_isAhead
theorem dX5_nextOf_0 : decode cX5_nextOf 0 = .ok (.bipush (-4), 2) := by decide +kernel
theorem dX5_nextOf_2 : decode cX5_nextOf 2 = .ok (.istore_n 3, 1) := by decide +kernel
theorem dX5_nextOf_3 : decode cX5_nextOf 3 = .ok (.iconst 0, 1) := by decide +kernel
theorem dX5_nextOf_4 : decode cX5_nextOf 4 = .ok (.istore 4, 2) := by decide +kernel
theorem dX5_nextOf_6 : decode cX5_nextOf 6 = .ok (.iload 4, 2) := by decide +kernel
theorem dX5_nextOf_8 : decode cX5_nextOf 8 = .ok (.aload_n 0, 1) := by decide +kernel
theorem dX5_nextOf_9 : decode cX5_nextOf 9 = .ok (.getfield 7, 3) := by decide +kernel
theorem dX5_nextOf_12 : decode cX5_nextOf 12 = .ok (.iconst 0, 1) := by decide +kernel
theorem dX5_nextOf_13 : decode cX5_nextOf 13 = .ok (.iaload, 1) := by decide +kernel
theorem dX5_nextOf_14 : decode cX5_nextOf 14 = .ok (.if_icmp .ge 115, 3) := by decide +kernel
theorem dX5_nextOf_17 : decode cX5_nextOf 17 = .ok (.aload_n 0, 1) := by decide +kernel
theorem dX5_nextOf_18 : decode cX5_nextOf 18 = .ok (.getfield 28, 3) := by decide +kernel
theorem dX5_nextOf_21 : decode cX5_nextOf 21 = .ok (.iload 4, 2) := by decide +kernel
theorem dX5_nextOf_23 : decode cX5_nextOf 23 = .ok (.iaload, 1) := by decide +kernel
theorem dX5_nextOf_24 : decode cX5_nextOf 24 = .ok (.istore 5, 2) := by decide +kernel
theorem dX5_nextOf_26 : decode cX5_nextOf 26 = .ok (.aload_n 0, 1) := by decide +kernel
theorem dX5_nextOf_27 : decode cX5_nextOf 27 = .ok (.getfield 7, 3) := by decide +kernel
theorem dX5_nextOf_30 : decode cX5_nextOf 30 = .ok (.bipush 23, 2) := by decide +kernel
theorem dX5_nextOf_32 : decode cX5_nextOf 32 = .ok (.iaload, 1) := by decide +kernel
theorem dX5_nextOf_33 : decode cX5_nextOf 33 = .ok (.iload 5, 2) := by decide +kernel
theorem dX5_nextOf_35 : decode cX5_nextOf 35 = .ok (.invokestatic 85, 3) := by decide +kernel
theorem dX5_nextOf_38 : decode cX5_nextOf 38 = .ok (.ifCond .ne 37, 3) := by decide +kernel
theorem dX5_nextOf_41 : decode cX5_nextOf 41 = .ok (.aload_n 0, 1) := by decide +kernel
theorem dX5_nextOf_42 : decode cX5_nextOf 42 = .ok (.getfield 141, 3) := by decide +kernel
theorem dX5_nextOf_45 : decode cX5_nextOf 45 = .ok (.iload 5, 2) := by decide +kernel
theorem dX5_nextOf_47 : decode cX5_nextOf 47 = .ok (.invokestatic 85, 3) := by decide +kernel
theorem dX5_nextOf_50 : decode cX5_nextOf 50 = .ok (.ifCond .ne 25, 3) := by decide +kernel
theorem dX5_nextOf_53 : decode cX5_nextOf 53 = .ok (.aload_n 0, 1) := by decide +kernel
theorem dX5_nextOf_54 : decode cX5_nextOf 54 = .ok (.iload 5, 2) := by decide +kernel
theorem dX5_nextOf_56 : decode cX5_nextOf 56 = .ok (.invokevirtual 144, 3) := by decide +kernel
theorem dX5_nextOf_59 : decode cX5_nextOf 59 = .ok (.ifCond .le 7, 3) := by decide +kernel
theorem dX5_nextOf_62 : decode cX5_nextOf 62 = .ok (.iconst 1, 1) := by decide +kernel
theorem dX5_nextOf_63 : decode cX5_nextOf 63 = .ok (.goto 4, 3) := by decide +kernel
theorem dX5_nextOf_66 : decode cX5_nextOf 66 = .ok (.iconst 0, 1) := by decide +kernel
theorem dX5_nextOf_67 : decode cX5_nextOf 67 = .ok (.iload_n 2, 1) := by decide +kernel
theorem dX5_nextOf_68 : decode cX5_nextOf 68 = .ok (.if_icmp .ne 7, 3) := by decide +kernel
theorem dX5_nextOf_71 : decode cX5_nextOf 71 = .ok (.iconst 1, 1) := by decide +kernel
theorem dX5_nextOf_72 : decode cX5_nextOf 72 = .ok (.goto 4, 3) := by decide +kernel
theorem dX5_nextOf_75 : decode cX5_nextOf 75 = .ok (.iconst 0, 1) := by decide +kernel
theorem dX5_nextOf_76 : decode cX5_nextOf 76 = .ok (.istore 6, 2) := by decide +kernel
theorem dX5_nextOf_78 : decode cX5_nextOf 78 = .ok (.iload 6, 2) := by decide +kernel
theorem dX5_nextOf_80 : decode cX5_nextOf 80 = .ok (.ifCond .eq 28, 3) := by decide +kernel
theorem dX5_nextOf_83 : decode cX5_nextOf 83 = .ok (.iload_n 3, 1) := by decide +kernel
theorem dX5_nextOf_84 : decode cX5_nextOf 84 = .ok (.bipush (-4), 2) := by decide +kernel
theorem dX5_nextOf_86 : decode cX5_nextOf 86 = .ok (.if_icmp .eq 18, 3) := by decide +kernel
theorem dX5_nextOf_89 : decode cX5_nextOf 89 = .ok (.iload_n 2, 1) := by decide +kernel
theorem dX5_nextOf_90 : decode cX5_nextOf 90 = .ok (.ifCond .eq 18, 3) := by decide +kernel
theorem dX5_nextOf_93 : decode cX5_nextOf 93 = .ok (.aload_n 0, 1) := by decide +kernel
theorem dX5_nextOf_94 : decode cX5_nextOf 94 = .ok (.iload_n 1, 1) := by decide +kernel
theorem dX5_nextOf_95 : decode cX5_nextOf 95 = .ok (.iload 5, 2) := by decide +kernel
theorem dX5_nextOf_97 : decode cX5_nextOf 97 = .ok (.iload_n 3, 1) := by decide +kernel
theorem dX5_nextOf_98 : decode cX5_nextOf 98 = .ok (.invokevirtual 154, 3) := by decide +kernel
theorem dX5_nextOf_101 : decode cX5_nextOf 101 = .ok (.ifCond .eq 7, 3) := by decide +kernel
theorem dX5_nextOf_104 : decode cX5_nextOf 104 = .ok (.iconst 1, 1) := by decide +kernel
theorem dX5_nextOf_105 : decode cX5_nextOf 105 = .ok (.goto 4, 3) := by decide +kernel
theorem dX5_nextOf_108 : decode cX5_nextOf 108 = .ok (.iconst 0, 1) := by decide +kernel
theorem dX5_nextOf_109 : decode cX5_nextOf 109 = .ok (.istore 7, 2) := by decide +kernel
theorem dX5_nextOf_111 : decode cX5_nextOf 111 = .ok (.iload 7, 2) := by decide +kernel
theorem dX5_nextOf_113 : decode cX5_nextOf 113 = .ok (.ifCond .eq 8, 3) := by decide +kernel
theorem dX5_nextOf_116 : decode cX5_nextOf 116 = .ok (.iload 5, 2) := by decide +kernel
theorem dX5_nextOf_118 : decode cX5_nextOf 118 = .ok (.goto 4, 3) := by decide +kernel
theorem dX5_nextOf_121 : decode cX5_nextOf 121 = .ok (.iload_n 3, 1) := by decide +kernel
theorem dX5_nextOf_122 : decode cX5_nextOf 122 = .ok (.istore_n 3, 1) := by decide +kernel
theorem dX5_nextOf_123 : decode cX5_nextOf 123 = .ok (.iinc 4 1, 3) := by decide +kernel
theorem dX5_nextOf_126 : decode cX5_nextOf 126 = .ok (.goto (-120), 3) := by decide +kernel
theorem dX5_nextOf_129 : decode cX5_nextOf 129 = .ok (.iload_n 3, 1) := by decide +kernel
theorem dX5_nextOf_130 : decode cX5_nextOf 130 = .ok (.ireturn, 1) := by decide +kernel
set_option maxRecDepth 20000 in
theorem ggX5_comesBy_X5_supportOf : GoodIn wsX5_comesBy wsX5_supportOf := goodIn_r _ [13, 6, 8, 14, 15, 16, 12, 17, 30, 31, 32, 33, 34, 35, 36, 37, 38, 39, 40, 41, 42, 43, 44, 45, 46, 47, 48] (by decide +kernel) (by decide +kernel)
set_option maxRecDepth 20000 in
theorem gX5_comesBy_X5_supportOf : GoodIn wsX5_comesBy (wsV RX5 144 RX5 yX5_supportOf wsX5_supportOf) := goodIn_app (goodIn_of _ (by decide +kernel)) ggX5_comesBy_X5_supportOf
set_option maxRecDepth 20000 in
theorem ggX5_comesBy_X5_weightOf : GoodIn wsX5_comesBy wsX5_weightOf := goodIn_r _ [21, 6, 8, 22, 14, 23, 24, 12, 25, 15, 16, 17, 30, 31, 32, 33, 34, 35, 36, 37, 38, 39, 40, 41, 42, 43, 44, 45, 46, 47, 48] (by decide +kernel) (by decide +kernel)
set_option maxRecDepth 20000 in
theorem gX5_comesBy_X5_weightOf : GoodIn wsX5_comesBy (wsV RX5 147 RX5 yX5_weightOf wsX5_weightOf) := goodIn_app (goodIn_of _ (by decide +kernel)) ggX5_comesBy_X5_weightOf
set_option maxRecDepth 20000 in
theorem ggX5_comesBy_X5_loadOf : GoodIn wsX5_comesBy wsX5_loadOf := goodIn_r _ [29, 5, 6, 8, 14, 7, 15, 16, 12, 17, 30, 31, 32, 33, 34, 35, 36, 37, 38, 39, 40, 41, 42, 43, 44, 45, 46, 47, 48] (by decide +kernel) (by decide +kernel)
set_option maxRecDepth 20000 in
theorem gX5_comesBy_X5_loadOf : GoodIn wsX5_comesBy (wsV RX5 150 RX5 yX5_loadOf wsX5_loadOf) := goodIn_app (goodIn_of _ (by decide +kernel)) ggX5_comesBy_X5_loadOf
set_option maxRecDepth 20000 in
theorem ggX5_comesBy_X5_has : GoodIn wsX5_comesBy wsX5_has := goodIn_r _ [17] (by decide +kernel) (by decide +kernel)
set_option maxRecDepth 20000 in
theorem gX5_comesBy_X5_has : GoodIn wsX5_comesBy (va_wsS RX5 85 yX5_has wsX5_has) := goodIn_app (goodIn_of _ (by decide +kernel)) ggX5_comesBy_X5_has
theorem dX5_comesBy_0 : decode cX5_comesBy 0 = .ok (.aload_n 0, 1) := by decide +kernel
theorem dX5_comesBy_1 : decode cX5_comesBy 1 = .ok (.iload_n 2, 1) := by decide +kernel
theorem dX5_comesBy_2 : decode cX5_comesBy 2 = .ok (.invokevirtual 144, 3) := by decide +kernel
theorem dX5_comesBy_5 : decode cX5_comesBy 5 = .ok (.istore_n 3, 1) := by decide +kernel
theorem dX5_comesBy_6 : decode cX5_comesBy 6 = .ok (.aload_n 0, 1) := by decide +kernel
theorem dX5_comesBy_7 : decode cX5_comesBy 7 = .ok (.getfield 38, 3) := by decide +kernel
theorem dX5_comesBy_10 : decode cX5_comesBy 10 = .ok (.aload_n 0, 1) := by decide +kernel
theorem dX5_comesBy_11 : decode cX5_comesBy 11 = .ok (.getfield 157, 3) := by decide +kernel
theorem dX5_comesBy_14 : decode cX5_comesBy 14 = .ok (.iload_n 1, 1) := by decide +kernel
theorem dX5_comesBy_15 : decode cX5_comesBy 15 = .ok (.iconst 1, 1) := by decide +kernel
theorem dX5_comesBy_16 : decode cX5_comesBy 16 = .ok (.if_icmp .ne 8, 3) := by decide +kernel
theorem dX5_comesBy_19 : decode cX5_comesBy 19 = .ok (.iload_n 3, 1) := by decide +kernel
theorem dX5_comesBy_20 : decode cX5_comesBy 20 = .ok (.i2l, 1) := by decide +kernel
theorem dX5_comesBy_21 : decode cX5_comesBy 21 = .ok (.goto 22, 3) := by decide +kernel
theorem dX5_comesBy_24 : decode cX5_comesBy 24 = .ok (.iload_n 1, 1) := by decide +kernel
theorem dX5_comesBy_25 : decode cX5_comesBy 25 = .ok (.iconst 2, 1) := by decide +kernel
theorem dX5_comesBy_26 : decode cX5_comesBy 26 = .ok (.if_icmp .ne 12, 3) := by decide +kernel
theorem dX5_comesBy_29 : decode cX5_comesBy 29 = .ok (.aload_n 0, 1) := by decide +kernel
theorem dX5_comesBy_30 : decode cX5_comesBy 30 = .ok (.iload_n 2, 1) := by decide +kernel
theorem dX5_comesBy_31 : decode cX5_comesBy 31 = .ok (.invokevirtual 147, 3) := by decide +kernel
theorem dX5_comesBy_34 : decode cX5_comesBy 34 = .ok (.i2l, 1) := by decide +kernel
theorem dX5_comesBy_35 : decode cX5_comesBy 35 = .ok (.goto 8, 3) := by decide +kernel
theorem dX5_comesBy_38 : decode cX5_comesBy 38 = .ok (.aload_n 0, 1) := by decide +kernel
theorem dX5_comesBy_39 : decode cX5_comesBy 39 = .ok (.iload_n 2, 1) := by decide +kernel
theorem dX5_comesBy_40 : decode cX5_comesBy 40 = .ok (.invokevirtual 150, 3) := by decide +kernel
theorem dX5_comesBy_43 : decode cX5_comesBy 43 = .ok (.lastore, 1) := by decide +kernel
theorem dX5_comesBy_44 : decode cX5_comesBy 44 = .ok (.aload_n 0, 1) := by decide +kernel
theorem dX5_comesBy_45 : decode cX5_comesBy 45 = .ok (.getfield 41, 3) := by decide +kernel
theorem dX5_comesBy_48 : decode cX5_comesBy 48 = .ok (.aload_n 0, 1) := by decide +kernel
theorem dX5_comesBy_49 : decode cX5_comesBy 49 = .ok (.getfield 157, 3) := by decide +kernel
theorem dX5_comesBy_52 : decode cX5_comesBy 52 = .ok (.iload_n 1, 1) := by decide +kernel
theorem dX5_comesBy_53 : decode cX5_comesBy 53 = .ok (.iconst 1, 1) := by decide +kernel
theorem dX5_comesBy_54 : decode cX5_comesBy 54 = .ok (.if_icmp .ne 7, 3) := by decide +kernel
theorem dX5_comesBy_57 : decode cX5_comesBy 57 = .ok (.lconst 1, 1) := by decide +kernel
theorem dX5_comesBy_58 : decode cX5_comesBy 58 = .ok (.goto 21, 3) := by decide +kernel
theorem dX5_comesBy_61 : decode cX5_comesBy 61 = .ok (.iload_n 1, 1) := by decide +kernel
theorem dX5_comesBy_62 : decode cX5_comesBy 62 = .ok (.iconst 2, 1) := by decide +kernel
theorem dX5_comesBy_63 : decode cX5_comesBy 63 = .ok (.if_icmp .ne 9, 3) := by decide +kernel
theorem dX5_comesBy_66 : decode cX5_comesBy 66 = .ok (.ldc2_w 160, 3) := by decide +kernel
theorem dX5_comesBy_69 : decode cX5_comesBy 69 = .ok (.goto 10, 3) := by decide +kernel
theorem dX5_comesBy_72 : decode cX5_comesBy 72 = .ok (.aload_n 0, 1) := by decide +kernel
theorem dX5_comesBy_73 : decode cX5_comesBy 73 = .ok (.getfield 137, 3) := by decide +kernel
theorem dX5_comesBy_76 : decode cX5_comesBy 76 = .ok (.iload_n 3, 1) := by decide +kernel
theorem dX5_comesBy_77 : decode cX5_comesBy 77 = .ok (.i2l, 1) := by decide +kernel
theorem dX5_comesBy_78 : decode cX5_comesBy 78 = .ok (.lmul, 1) := by decide +kernel
theorem dX5_comesBy_79 : decode cX5_comesBy 79 = .ok (.lastore, 1) := by decide +kernel
theorem dX5_comesBy_80 : decode cX5_comesBy 80 = .ok (.iload_n 1, 1) := by decide +kernel
theorem dX5_comesBy_81 : decode cX5_comesBy 81 = .ok (.iconst 1, 1) := by decide +kernel
theorem dX5_comesBy_82 : decode cX5_comesBy 82 = .ok (.if_icmp .eq 8, 3) := by decide +kernel
theorem dX5_comesBy_85 : decode cX5_comesBy 85 = .ok (.iload_n 1, 1) := by decide +kernel
theorem dX5_comesBy_86 : decode cX5_comesBy 86 = .ok (.iconst 2, 1) := by decide +kernel
theorem dX5_comesBy_87 : decode cX5_comesBy 87 = .ok (.if_icmp .ne 4, 3) := by decide +kernel
theorem dX5_comesBy_90 : decode cX5_comesBy 90 = .ok (.return_, 1) := by decide +kernel
theorem dX5_comesBy_91 : decode cX5_comesBy 91 = .ok (.aload_n 0, 1) := by decide +kernel
theorem dX5_comesBy_92 : decode cX5_comesBy 92 = .ok (.iload_n 2, 1) := by decide +kernel
theorem dX5_comesBy_93 : decode cX5_comesBy 93 = .ok (.invokevirtual 150, 3) := by decide +kernel
theorem dX5_comesBy_96 : decode cX5_comesBy 96 = .ok (.lstore 4, 2) := by decide +kernel
theorem dX5_comesBy_98 : decode cX5_comesBy 98 = .ok (.iconst 0, 1) := by decide +kernel
theorem dX5_comesBy_99 : decode cX5_comesBy 99 = .ok (.istore 6, 2) := by decide +kernel
theorem dX5_comesBy_101 : decode cX5_comesBy 101 = .ok (.iload 6, 2) := by decide +kernel
theorem dX5_comesBy_103 : decode cX5_comesBy 103 = .ok (.aload_n 0, 1) := by decide +kernel
theorem dX5_comesBy_104 : decode cX5_comesBy 104 = .ok (.getfield 134, 3) := by decide +kernel
theorem dX5_comesBy_107 : decode cX5_comesBy 107 = .ok (.if_icmp .ge 45, 3) := by decide +kernel
theorem dX5_comesBy_110 : decode cX5_comesBy 110 = .ok (.aload_n 0, 1) := by decide +kernel
theorem dX5_comesBy_111 : decode cX5_comesBy 111 = .ok (.getfield 31, 3) := by decide +kernel
theorem dX5_comesBy_114 : decode cX5_comesBy 114 = .ok (.iload 6, 2) := by decide +kernel
theorem dX5_comesBy_116 : decode cX5_comesBy 116 = .ok (.aload_n 0, 1) := by decide +kernel
theorem dX5_comesBy_117 : decode cX5_comesBy 117 = .ok (.getfield 25, 3) := by decide +kernel
theorem dX5_comesBy_120 : decode cX5_comesBy 120 = .ok (.iload 6, 2) := by decide +kernel
theorem dX5_comesBy_122 : decode cX5_comesBy 122 = .ok (.iaload, 1) := by decide +kernel
theorem dX5_comesBy_123 : decode cX5_comesBy 123 = .ok (.iload_n 2, 1) := by decide +kernel
theorem dX5_comesBy_124 : decode cX5_comesBy 124 = .ok (.invokestatic 85, 3) := by decide +kernel
theorem dX5_comesBy_127 : decode cX5_comesBy 127 = .ok (.ifCond .eq 8, 3) := by decide +kernel
theorem dX5_comesBy_130 : decode cX5_comesBy 130 = .ok (.lload 4, 2) := by decide +kernel
theorem dX5_comesBy_132 : decode cX5_comesBy 132 = .ok (.goto 13, 3) := by decide +kernel
theorem dX5_comesBy_135 : decode cX5_comesBy 135 = .ok (.aload_n 0, 1) := by decide +kernel
theorem dX5_comesBy_136 : decode cX5_comesBy 136 = .ok (.getfield 31, 3) := by decide +kernel
theorem dX5_comesBy_139 : decode cX5_comesBy 139 = .ok (.iload 6, 2) := by decide +kernel
theorem dX5_comesBy_141 : decode cX5_comesBy 141 = .ok (.laload, 1) := by decide +kernel
theorem dX5_comesBy_142 : decode cX5_comesBy 142 = .ok (.iload_n 3, 1) := by decide +kernel
theorem dX5_comesBy_143 : decode cX5_comesBy 143 = .ok (.i2l, 1) := by decide +kernel
theorem dX5_comesBy_144 : decode cX5_comesBy 144 = .ok (.lmul, 1) := by decide +kernel
theorem dX5_comesBy_145 : decode cX5_comesBy 145 = .ok (.lastore, 1) := by decide +kernel
theorem dX5_comesBy_146 : decode cX5_comesBy 146 = .ok (.iinc 6 1, 3) := by decide +kernel
theorem dX5_comesBy_149 : decode cX5_comesBy 149 = .ok (.goto (-48), 3) := by decide +kernel
theorem dX5_comesBy_152 : decode cX5_comesBy 152 = .ok (.aload_n 0, 1) := by decide +kernel
theorem dX5_comesBy_153 : decode cX5_comesBy 153 = .ok (.dup, 1) := by decide +kernel
theorem dX5_comesBy_154 : decode cX5_comesBy 154 = .ok (.getfield 137, 3) := by decide +kernel
theorem dX5_comesBy_157 : decode cX5_comesBy 157 = .ok (.iload_n 3, 1) := by decide +kernel
theorem dX5_comesBy_158 : decode cX5_comesBy 158 = .ok (.i2l, 1) := by decide +kernel
theorem dX5_comesBy_159 : decode cX5_comesBy 159 = .ok (.lmul, 1) := by decide +kernel
theorem dX5_comesBy_160 : decode cX5_comesBy 160 = .ok (.putfield 137, 3) := by decide +kernel
theorem dX5_comesBy_163 : decode cX5_comesBy 163 = .ok (.return_, 1) := by decide +kernel
set_option maxRecDepth 20000 in
theorem ggX5_elects_X5_nextOf : GoodIn wsX5_elects wsX5_nextOf := goodIn_r _ [14, 6, 15, 2, 16, 17, 13, 18, 19, 20, 21, 22, 4, 23, 24, 25, 26, 27, 28, 29, 30, 31, 32, 33, 34, 35, 36, 37, 38, 39, 3, 5, 45, 46, 47, 48, 49, 50, 51, 52, 53, 54, 55, 56, 57, 58, 59, 60, 61, 62, 63] (by decide +kernel) (by decide +kernel)
set_option maxRecDepth 20000 in
theorem gX5_elects_X5_nextOf : GoodIn wsX5_elects (wsV RX5 162 RX5 yX5_nextOf wsX5_nextOf) := goodIn_app (goodIn_of _ (by decide +kernel)) ggX5_elects_X5_nextOf
set_option maxRecDepth 20000 in
theorem ggX5_elects_X5_comesBy : GoodIn wsX5_elects wsX5_comesBy := goodIn_r _ [43, 7, 1, 8, 44, 3, 4, 5, 23, 19, 20, 21, 13, 22, 24, 16, 17, 18, 29, 30, 31, 32, 2, 33, 34, 35, 36, 37, 38, 39, 45, 46, 47, 48, 49, 50, 51, 52, 53, 54, 55, 56, 57, 58, 59, 60, 61, 62, 63] (by decide +kernel) (by decide +kernel)
set_option maxRecDepth 20000 in
theorem gX5_elects_X5_comesBy : GoodIn wsX5_elects (wsV RX5 166 RX5 yX5_comesBy wsX5_comesBy) := goodIn_app (goodIn_of _ (by decide +kernel)) ggX5_elects_X5_comesBy
theorem dX5_elects_0 : decode cX5_elects 0 = .ok (.aload_n 0, 1) := by decide +kernel
theorem dX5_elects_1 : decode cX5_elects 1 = .ok (.iconst 0, 1) := by decide +kernel
theorem dX5_elects_2 : decode cX5_elects 2 = .ok (.putfield 157, 3) := by decide +kernel
theorem dX5_elects_5 : decode cX5_elects 5 = .ok (.aload_n 0, 1) := by decide +kernel
theorem dX5_elects_6 : decode cX5_elects 6 = .ok (.iconst 0, 1) := by decide +kernel
theorem dX5_elects_7 : decode cX5_elects 7 = .ok (.putfield 141, 3) := by decide +kernel
theorem dX5_elects_10 : decode cX5_elects 10 = .ok (.aload_n 0, 1) := by decide +kernel
theorem dX5_elects_11 : decode cX5_elects 11 = .ok (.lconst 1, 1) := by decide +kernel
theorem dX5_elects_12 : decode cX5_elects 12 = .ok (.putfield 137, 3) := by decide +kernel
theorem dX5_elects_15 : decode cX5_elects 15 = .ok (.iconst 0, 1) := by decide +kernel
theorem dX5_elects_16 : decode cX5_elects 16 = .ok (.istore_n 2, 1) := by decide +kernel
theorem dX5_elects_17 : decode cX5_elects 17 = .ok (.iload_n 2, 1) := by decide +kernel
theorem dX5_elects_18 : decode cX5_elects 18 = .ok (.aload_n 0, 1) := by decide +kernel
theorem dX5_elects_19 : decode cX5_elects 19 = .ok (.getfield 134, 3) := by decide +kernel
theorem dX5_elects_22 : decode cX5_elects 22 = .ok (.if_icmp .ge 16, 3) := by decide +kernel
theorem dX5_elects_25 : decode cX5_elects 25 = .ok (.aload_n 0, 1) := by decide +kernel
theorem dX5_elects_26 : decode cX5_elects 26 = .ok (.getfield 31, 3) := by decide +kernel
theorem dX5_elects_29 : decode cX5_elects 29 = .ok (.iload_n 2, 1) := by decide +kernel
theorem dX5_elects_30 : decode cX5_elects 30 = .ok (.lconst 0, 1) := by decide +kernel
theorem dX5_elects_31 : decode cX5_elects 31 = .ok (.lastore, 1) := by decide +kernel
theorem dX5_elects_32 : decode cX5_elects 32 = .ok (.iinc 2 1, 3) := by decide +kernel
theorem dX5_elects_35 : decode cX5_elects 35 = .ok (.goto (-18), 3) := by decide +kernel
theorem dX5_elects_38 : decode cX5_elects 38 = .ok (.iconst 1, 1) := by decide +kernel
theorem dX5_elects_39 : decode cX5_elects 39 = .ok (.istore_n 2, 1) := by decide +kernel
theorem dX5_elects_40 : decode cX5_elects 40 = .ok (.iload_n 2, 1) := by decide +kernel
theorem dX5_elects_41 : decode cX5_elects 41 = .ok (.ifCond .eq 117, 3) := by decide +kernel
theorem dX5_elects_44 : decode cX5_elects 44 = .ok (.aload_n 0, 1) := by decide +kernel
theorem dX5_elects_45 : decode cX5_elects 45 = .ok (.getfield 157, 3) := by decide +kernel
theorem dX5_elects_48 : decode cX5_elects 48 = .ok (.aload_n 0, 1) := by decide +kernel
theorem dX5_elects_49 : decode cX5_elects 49 = .ok (.getfield 7, 3) := by decide +kernel
theorem dX5_elects_52 : decode cX5_elects 52 = .ok (.bipush 22, 2) := by decide +kernel
theorem dX5_elects_54 : decode cX5_elects 54 = .ok (.iaload, 1) := by decide +kernel
theorem dX5_elects_55 : decode cX5_elects 55 = .ok (.if_icmp .ge 103, 3) := by decide +kernel
theorem dX5_elects_58 : decode cX5_elects 58 = .ok (.aload_n 0, 1) := by decide +kernel
theorem dX5_elects_59 : decode cX5_elects 59 = .ok (.iload_n 1, 1) := by decide +kernel
theorem dX5_elects_60 : decode cX5_elects 60 = .ok (.iconst 1, 1) := by decide +kernel
theorem dX5_elects_61 : decode cX5_elects 61 = .ok (.invokevirtual 162, 3) := by decide +kernel
theorem dX5_elects_64 : decode cX5_elects 64 = .ok (.istore_n 3, 1) := by decide +kernel
theorem dX5_elects_65 : decode cX5_elects 65 = .ok (.iload_n 3, 1) := by decide +kernel
theorem dX5_elects_66 : decode cX5_elects 66 = .ok (.bipush (-4), 2) := by decide +kernel
theorem dX5_elects_68 : decode cX5_elects 68 = .ok (.if_icmp .eq 12, 3) := by decide +kernel
theorem dX5_elects_71 : decode cX5_elects 71 = .ok (.aload_n 0, 1) := by decide +kernel
theorem dX5_elects_72 : decode cX5_elects 72 = .ok (.iload_n 1, 1) := by decide +kernel
theorem dX5_elects_73 : decode cX5_elects 73 = .ok (.iload_n 3, 1) := by decide +kernel
theorem dX5_elects_74 : decode cX5_elects 74 = .ok (.invokevirtual 166, 3) := by decide +kernel
theorem dX5_elects_77 : decode cX5_elects 77 = .ok (.goto 30, 3) := by decide +kernel
theorem dX5_elects_80 : decode cX5_elects 80 = .ok (.aload_n 0, 1) := by decide +kernel
theorem dX5_elects_81 : decode cX5_elects 81 = .ok (.iload_n 1, 1) := by decide +kernel
theorem dX5_elects_82 : decode cX5_elects 82 = .ok (.iconst 0, 1) := by decide +kernel
theorem dX5_elects_83 : decode cX5_elects 83 = .ok (.invokevirtual 162, 3) := by decide +kernel
theorem dX5_elects_86 : decode cX5_elects 86 = .ok (.istore_n 3, 1) := by decide +kernel
theorem dX5_elects_87 : decode cX5_elects 87 = .ok (.aload_n 0, 1) := by decide +kernel
theorem dX5_elects_88 : decode cX5_elects 88 = .ok (.getfield 38, 3) := by decide +kernel
theorem dX5_elects_91 : decode cX5_elects 91 = .ok (.aload_n 0, 1) := by decide +kernel
theorem dX5_elects_92 : decode cX5_elects 92 = .ok (.getfield 157, 3) := by decide +kernel
theorem dX5_elects_95 : decode cX5_elects 95 = .ok (.lconst 0, 1) := by decide +kernel
theorem dX5_elects_96 : decode cX5_elects 96 = .ok (.lastore, 1) := by decide +kernel
theorem dX5_elects_97 : decode cX5_elects 97 = .ok (.aload_n 0, 1) := by decide +kernel
theorem dX5_elects_98 : decode cX5_elects 98 = .ok (.getfield 41, 3) := by decide +kernel
theorem dX5_elects_101 : decode cX5_elects 101 = .ok (.aload_n 0, 1) := by decide +kernel
theorem dX5_elects_102 : decode cX5_elects 102 = .ok (.getfield 157, 3) := by decide +kernel
theorem dX5_elects_105 : decode cX5_elects 105 = .ok (.lconst 0, 1) := by decide +kernel
theorem dX5_elects_106 : decode cX5_elects 106 = .ok (.lastore, 1) := by decide +kernel
theorem dX5_elects_107 : decode cX5_elects 107 = .ok (.iload_n 3, 1) := by decide +kernel
theorem dX5_elects_108 : decode cX5_elects 108 = .ok (.bipush (-4), 2) := by decide +kernel
theorem dX5_elects_110 : decode cX5_elects 110 = .ok (.if_icmp .eq 7, 3) := by decide +kernel
theorem dX5_elects_113 : decode cX5_elects 113 = .ok (.iconst 1, 1) := by decide +kernel
theorem dX5_elects_114 : decode cX5_elects 114 = .ok (.goto 4, 3) := by decide +kernel
theorem dX5_elects_117 : decode cX5_elects 117 = .ok (.iconst 0, 1) := by decide +kernel
theorem dX5_elects_118 : decode cX5_elects 118 = .ok (.istore_n 2, 1) := by decide +kernel
theorem dX5_elects_119 : decode cX5_elects 119 = .ok (.iload_n 2, 1) := by decide +kernel
theorem dX5_elects_120 : decode cX5_elects 120 = .ok (.ifCond .eq 35, 3) := by decide +kernel
theorem dX5_elects_123 : decode cX5_elects 123 = .ok (.aload_n 0, 1) := by decide +kernel
theorem dX5_elects_124 : decode cX5_elects 124 = .ok (.getfield 35, 3) := by decide +kernel
theorem dX5_elects_127 : decode cX5_elects 127 = .ok (.aload_n 0, 1) := by decide +kernel
theorem dX5_elects_128 : decode cX5_elects 128 = .ok (.getfield 157, 3) := by decide +kernel
theorem dX5_elects_131 : decode cX5_elects 131 = .ok (.iload_n 3, 1) := by decide +kernel
theorem dX5_elects_132 : decode cX5_elects 132 = .ok (.iastore, 1) := by decide +kernel
theorem dX5_elects_133 : decode cX5_elects 133 = .ok (.aload_n 0, 1) := by decide +kernel
theorem dX5_elects_134 : decode cX5_elects 134 = .ok (.dup, 1) := by decide +kernel
theorem dX5_elects_135 : decode cX5_elects 135 = .ok (.getfield 141, 3) := by decide +kernel
theorem dX5_elects_138 : decode cX5_elects 138 = .ok (.iconst 1, 1) := by decide +kernel
theorem dX5_elects_139 : decode cX5_elects 139 = .ok (.iload_n 3, 1) := by decide +kernel
theorem dX5_elects_140 : decode cX5_elects 140 = .ok (.ishl, 1) := by decide +kernel
theorem dX5_elects_141 : decode cX5_elects 141 = .ok (.ior, 1) := by decide +kernel
theorem dX5_elects_142 : decode cX5_elects 142 = .ok (.putfield 141, 3) := by decide +kernel
theorem dX5_elects_145 : decode cX5_elects 145 = .ok (.aload_n 0, 1) := by decide +kernel
theorem dX5_elects_146 : decode cX5_elects 146 = .ok (.dup, 1) := by decide +kernel
theorem dX5_elects_147 : decode cX5_elects 147 = .ok (.getfield 157, 3) := by decide +kernel
theorem dX5_elects_150 : decode cX5_elects 150 = .ok (.iconst 1, 1) := by decide +kernel
theorem dX5_elects_151 : decode cX5_elects 151 = .ok (.iadd, 1) := by decide +kernel
theorem dX5_elects_152 : decode cX5_elects 152 = .ok (.putfield 157, 3) := by decide +kernel
theorem dX5_elects_155 : decode cX5_elects 155 = .ok (.goto (-115), 3) := by decide +kernel
theorem dX5_elects_158 : decode cX5_elects 158 = .ok (.return_, 1) := by decide +kernel
set_option maxRecDepth 20000 in
theorem ggX5_membersBy_X5_lays : GoodIn wsX5_membersBy wsX5_lays := goodIn_r _ [6, 7, 8, 9, 10, 11, 53, 54, 55, 56, 57, 58, 59, 60, 61, 62, 63, 64, 65, 66, 67, 68, 69, 70, 71] (by decide +kernel) (by decide +kernel)
set_option maxRecDepth 20000 in
theorem gX5_membersBy_X5_lays : GoodIn wsX5_membersBy (wsV RX5 169 RX5 yX5_lays wsX5_lays) := goodIn_app (goodIn_of _ (by decide +kernel)) ggX5_membersBy_X5_lays
set_option maxRecDepth 20000 in
theorem ggX5_membersBy_X5_elects : GoodIn wsX5_membersBy wsX5_elects := goodIn_r _ [15, 16, 1, 17, 8, 18, 7, 19, 20, 21, 22, 23, 24, 5, 25, 11, 26, 27, 28, 29, 30, 31, 32, 10, 9, 33, 34, 35, 36, 37, 38, 39, 40, 41, 42, 43, 44, 45, 46, 47, 48, 49, 50, 51, 52, 53, 54, 55, 56, 57, 58, 59, 60, 61, 62, 63, 64, 65, 66, 67, 68, 69, 70, 71] (by decide +kernel) (by decide +kernel)
set_option maxRecDepth 20000 in
theorem gX5_membersBy_X5_elects : GoodIn wsX5_membersBy (wsV RX5 172 RX5 yX5_elects wsX5_elects) := goodIn_app (goodIn_of _ (by decide +kernel)) ggX5_membersBy_X5_elects
theorem dX5_membersBy_0 : decode cX5_membersBy 0 = .ok (.aload_n 0, 1) := by decide +kernel
theorem dX5_membersBy_1 : decode cX5_membersBy 1 = .ok (.invokevirtual 169, 3) := by decide +kernel
theorem dX5_membersBy_4 : decode cX5_membersBy 4 = .ok (.aload_n 0, 1) := by decide +kernel
theorem dX5_membersBy_5 : decode cX5_membersBy 5 = .ok (.iload_n 1, 1) := by decide +kernel
theorem dX5_membersBy_6 : decode cX5_membersBy 6 = .ok (.invokevirtual 172, 3) := by decide +kernel
theorem dX5_membersBy_9 : decode cX5_membersBy 9 = .ok (.aload_n 0, 1) := by decide +kernel
theorem dX5_membersBy_10 : decode cX5_membersBy 10 = .ok (.getfield 141, 3) := by decide +kernel
theorem dX5_membersBy_13 : decode cX5_membersBy 13 = .ok (.ireturn, 1) := by decide +kernel
set_option maxRecDepth 20000 in
theorem ggX5_lawsOf_X5_membersBy : GoodIn wsX5_lawsOf wsX5_membersBy := goodIn_r _ [5, 6, 7, 8, 9, 4, 10, 11, 12, 13, 14, 15, 16, 17, 18, 19, 20, 21, 22, 23, 24, 25, 26, 27, 28, 29, 30, 31, 32, 33, 34, 35, 36, 37, 38, 39, 40, 41, 42, 43, 44, 45, 46, 47, 48, 49, 50, 51, 52, 53, 54, 55, 56, 57, 58, 59, 60, 61, 62, 63, 64, 65, 66, 67, 68, 69, 70, 71, 72, 73, 74, 75] (by decide +kernel) (by decide +kernel)
set_option maxRecDepth 20000 in
theorem gX5_lawsOf_X5_membersBy : GoodIn wsX5_lawsOf (wsV RX5 176 RX5 yX5_membersBy wsX5_membersBy) := goodIn_app (goodIn_of _ (by decide +kernel)) ggX5_lawsOf_X5_membersBy
set_option maxRecDepth 20000 in
theorem ggX5_lawsOf_X5_has : GoodIn wsX5_lawsOf wsX5_has := goodIn_r _ [32] (by decide +kernel) (by decide +kernel)
set_option maxRecDepth 20000 in
theorem gX5_lawsOf_X5_has : GoodIn wsX5_lawsOf (va_wsS RX5 85 yX5_has wsX5_has) := goodIn_app (goodIn_of _ (by decide +kernel)) ggX5_lawsOf_X5_has
theorem dX5_lawsOf_0 : decode cX5_lawsOf 0 = .ok (.iconst 0, 1) := by decide +kernel
theorem dX5_lawsOf_1 : decode cX5_lawsOf 1 = .ok (.istore_n 2, 1) := by decide +kernel
theorem dX5_lawsOf_2 : decode cX5_lawsOf 2 = .ok (.iconst 0, 1) := by decide +kernel
theorem dX5_lawsOf_3 : decode cX5_lawsOf 3 = .ok (.istore_n 3, 1) := by decide +kernel
theorem dX5_lawsOf_4 : decode cX5_lawsOf 4 = .ok (.iload_n 3, 1) := by decide +kernel
theorem dX5_lawsOf_5 : decode cX5_lawsOf 5 = .ok (.iconst 4, 1) := by decide +kernel
theorem dX5_lawsOf_6 : decode cX5_lawsOf 6 = .ok (.if_icmp .ge 31, 3) := by decide +kernel
theorem dX5_lawsOf_9 : decode cX5_lawsOf 9 = .ok (.iload_n 2, 1) := by decide +kernel
theorem dX5_lawsOf_10 : decode cX5_lawsOf 10 = .ok (.aload_n 0, 1) := by decide +kernel
theorem dX5_lawsOf_11 : decode cX5_lawsOf 11 = .ok (.iload_n 3, 1) := by decide +kernel
theorem dX5_lawsOf_12 : decode cX5_lawsOf 12 = .ok (.invokevirtual 176, 3) := by decide +kernel
theorem dX5_lawsOf_15 : decode cX5_lawsOf 15 = .ok (.iload_n 1, 1) := by decide +kernel
theorem dX5_lawsOf_16 : decode cX5_lawsOf 16 = .ok (.invokestatic 85, 3) := by decide +kernel
theorem dX5_lawsOf_19 : decode cX5_lawsOf 19 = .ok (.ifCond .eq 9, 3) := by decide +kernel
theorem dX5_lawsOf_22 : decode cX5_lawsOf 22 = .ok (.iconst 1, 1) := by decide +kernel
theorem dX5_lawsOf_23 : decode cX5_lawsOf 23 = .ok (.iload_n 3, 1) := by decide +kernel
theorem dX5_lawsOf_24 : decode cX5_lawsOf 24 = .ok (.ishl, 1) := by decide +kernel
theorem dX5_lawsOf_25 : decode cX5_lawsOf 25 = .ok (.goto 4, 3) := by decide +kernel
theorem dX5_lawsOf_28 : decode cX5_lawsOf 28 = .ok (.iconst 0, 1) := by decide +kernel
theorem dX5_lawsOf_29 : decode cX5_lawsOf 29 = .ok (.ior, 1) := by decide +kernel
theorem dX5_lawsOf_30 : decode cX5_lawsOf 30 = .ok (.istore_n 2, 1) := by decide +kernel
theorem dX5_lawsOf_31 : decode cX5_lawsOf 31 = .ok (.iinc 3 1, 3) := by decide +kernel
theorem dX5_lawsOf_34 : decode cX5_lawsOf 34 = .ok (.goto (-30), 3) := by decide +kernel
theorem dX5_lawsOf_37 : decode cX5_lawsOf 37 = .ok (.iload_n 2, 1) := by decide +kernel
theorem dX5_lawsOf_38 : decode cX5_lawsOf 38 = .ok (.ireturn, 1) := by decide +kernel
set_option maxRecDepth 20000 in
theorem ggX5_aboutCandidate_X5_lays : GoodIn wsX5_aboutCandidate wsX5_lays := goodIn_r _ [6, 1, 7, 8, 9, 10, 65, 66, 67, 68, 69, 70, 71, 72, 73, 74, 75, 76, 77, 78, 79, 80, 81, 82, 83] (by decide +kernel) (by decide +kernel)
set_option maxRecDepth 20000 in
theorem gX5_aboutCandidate_X5_lays : GoodIn wsX5_aboutCandidate (wsV RX5 169 RX5 yX5_lays wsX5_lays) := goodIn_app (goodIn_of _ (by decide +kernel)) ggX5_aboutCandidate_X5_lays
set_option maxRecDepth 20000 in
theorem ggX5_aboutCandidate_X5_supportOf : GoodIn wsX5_aboutCandidate wsX5_supportOf := goodIn_r _ [14, 7, 9, 8, 15, 16, 5, 17, 65, 66, 67, 68, 69, 70, 71, 72, 73, 74, 75, 76, 77, 78, 79, 80, 81, 82, 83] (by decide +kernel) (by decide +kernel)
set_option maxRecDepth 20000 in
theorem gX5_aboutCandidate_X5_supportOf : GoodIn wsX5_aboutCandidate (wsV RX5 144 RX5 yX5_supportOf wsX5_supportOf) := goodIn_app (goodIn_of _ (by decide +kernel)) ggX5_aboutCandidate_X5_supportOf
set_option maxRecDepth 20000 in
theorem ggX5_aboutCandidate_X5_placeOf : GoodIn wsX5_aboutCandidate wsX5_placeOf := goodIn_r _ [21, 1, 65, 66, 67, 68, 69, 70, 71, 72, 73, 74, 75, 76, 77, 78, 79, 80, 81, 82, 83] (by decide +kernel) (by decide +kernel)
set_option maxRecDepth 20000 in
theorem gX5_aboutCandidate_X5_placeOf : GoodIn wsX5_aboutCandidate (wsV RX5 131 RX5 yX5_placeOf wsX5_placeOf) := goodIn_app (goodIn_of _ (by decide +kernel)) ggX5_aboutCandidate_X5_placeOf
set_option maxRecDepth 20000 in
theorem ggX5_aboutCandidate_X5_lawsOf : GoodIn wsX5_aboutCandidate wsX5_lawsOf := goodIn_r _ [25, 26, 27, 28, 5, 29, 30, 2, 3, 4, 6, 1, 7, 8, 9, 10, 31, 32, 33, 34, 35, 36, 37, 38, 39, 40, 41, 42, 43, 44, 15, 16, 17, 11, 12, 13, 14, 45, 46, 47, 48, 49, 50, 51, 52, 53, 54, 55, 56, 57, 58, 59, 60, 61, 62, 63, 64, 65, 66, 67, 68, 69, 70, 71, 72, 73, 74, 75, 76, 77, 78, 79, 80, 81, 82, 83] (by decide +kernel) (by decide +kernel)
set_option maxRecDepth 20000 in
theorem gX5_aboutCandidate_X5_lawsOf : GoodIn wsX5_aboutCandidate (wsV RX5 179 RX5 yX5_lawsOf wsX5_lawsOf) := goodIn_app (goodIn_of _ (by decide +kernel)) ggX5_aboutCandidate_X5_lawsOf
theorem dX5_aboutCandidate_0 : decode cX5_aboutCandidate 0 = .ok (.aload_n 0, 1) := by decide +kernel
theorem dX5_aboutCandidate_1 : decode cX5_aboutCandidate 1 = .ok (.invokevirtual 169, 3) := by decide +kernel
theorem dX5_aboutCandidate_4 : decode cX5_aboutCandidate 4 = .ok (.iload_n 2, 1) := by decide +kernel
theorem dX5_aboutCandidate_5 : decode cX5_aboutCandidate 5 = .ok (.ifCond .ne 11, 3) := by decide +kernel
theorem dX5_aboutCandidate_8 : decode cX5_aboutCandidate 8 = .ok (.aload_n 0, 1) := by decide +kernel
theorem dX5_aboutCandidate_9 : decode cX5_aboutCandidate 9 = .ok (.iload_n 1, 1) := by decide +kernel
theorem dX5_aboutCandidate_10 : decode cX5_aboutCandidate 10 = .ok (.invokevirtual 144, 3) := by decide +kernel
theorem dX5_aboutCandidate_13 : decode cX5_aboutCandidate 13 = .ok (.goto 40, 3) := by decide +kernel
theorem dX5_aboutCandidate_16 : decode cX5_aboutCandidate 16 = .ok (.iload_n 2, 1) := by decide +kernel
theorem dX5_aboutCandidate_17 : decode cX5_aboutCandidate 17 = .ok (.iconst 1, 1) := by decide +kernel
theorem dX5_aboutCandidate_18 : decode cX5_aboutCandidate 18 = .ok (.if_icmp .ne 11, 3) := by decide +kernel
theorem dX5_aboutCandidate_21 : decode cX5_aboutCandidate 21 = .ok (.aload_n 0, 1) := by decide +kernel
theorem dX5_aboutCandidate_22 : decode cX5_aboutCandidate 22 = .ok (.iload_n 1, 1) := by decide +kernel
theorem dX5_aboutCandidate_23 : decode cX5_aboutCandidate 23 = .ok (.invokevirtual 131, 3) := by decide +kernel
theorem dX5_aboutCandidate_26 : decode cX5_aboutCandidate 26 = .ok (.goto 27, 3) := by decide +kernel
theorem dX5_aboutCandidate_29 : decode cX5_aboutCandidate 29 = .ok (.iload_n 2, 1) := by decide +kernel
theorem dX5_aboutCandidate_30 : decode cX5_aboutCandidate 30 = .ok (.iconst 2, 1) := by decide +kernel
theorem dX5_aboutCandidate_31 : decode cX5_aboutCandidate 31 = .ok (.if_icmp .ne 17, 3) := by decide +kernel
theorem dX5_aboutCandidate_34 : decode cX5_aboutCandidate 34 = .ok (.aload_n 0, 1) := by decide +kernel
theorem dX5_aboutCandidate_35 : decode cX5_aboutCandidate 35 = .ok (.getfield 7, 3) := by decide +kernel
theorem dX5_aboutCandidate_38 : decode cX5_aboutCandidate 38 = .ok (.bipush 23, 2) := by decide +kernel
theorem dX5_aboutCandidate_40 : decode cX5_aboutCandidate 40 = .ok (.iaload, 1) := by decide +kernel
theorem dX5_aboutCandidate_41 : decode cX5_aboutCandidate 41 = .ok (.iload_n 1, 1) := by decide +kernel
theorem dX5_aboutCandidate_42 : decode cX5_aboutCandidate 42 = .ok (.ishr, 1) := by decide +kernel
theorem dX5_aboutCandidate_43 : decode cX5_aboutCandidate 43 = .ok (.iconst 1, 1) := by decide +kernel
theorem dX5_aboutCandidate_44 : decode cX5_aboutCandidate 44 = .ok (.iand, 1) := by decide +kernel
theorem dX5_aboutCandidate_45 : decode cX5_aboutCandidate 45 = .ok (.goto 8, 3) := by decide +kernel
theorem dX5_aboutCandidate_48 : decode cX5_aboutCandidate 48 = .ok (.aload_n 0, 1) := by decide +kernel
theorem dX5_aboutCandidate_49 : decode cX5_aboutCandidate 49 = .ok (.iload_n 1, 1) := by decide +kernel
theorem dX5_aboutCandidate_50 : decode cX5_aboutCandidate 50 = .ok (.invokevirtual 179, 3) := by decide +kernel
theorem dX5_aboutCandidate_53 : decode cX5_aboutCandidate 53 = .ok (.ireturn, 1) := by decide +kernel
set_option maxRecDepth 20000 in
theorem ggX5_candidate_X5_isCandidate : GoodIn wsX5_candidate wsX5_isCandidate := goodIn_r _ [5, 6, 7, 8, 4, 9, 76, 77, 78, 79, 80, 81, 82, 83, 84, 85, 86, 87, 88, 89, 90, 91, 92, 93, 94] (by decide +kernel) (by decide +kernel)
set_option maxRecDepth 20000 in
theorem gX5_candidate_X5_isCandidate : GoodIn wsX5_candidate (wsV RX5 125 RX5 yX5_isCandidate wsX5_isCandidate) := goodIn_app (goodIn_of _ (by decide +kernel)) ggX5_candidate_X5_isCandidate
set_option maxRecDepth 20000 in
theorem ggX5_candidate_X5_in : GoodIn wsX5_candidate wsX5_in := goodIn_r _ [9] (by decide +kernel) (by decide +kernel)
set_option maxRecDepth 20000 in
theorem gX5_candidate_X5_in : GoodIn wsX5_candidate (va_wsS RX5 48 yX5_in wsX5_in) := goodIn_app (goodIn_of _ (by decide +kernel)) ggX5_candidate_X5_in
set_option maxRecDepth 20000 in
theorem ggX5_candidate_X5_aboutCandidate : GoodIn wsX5_candidate wsX5_aboutCandidate := goodIn_r _ [13, 6, 14, 15, 16, 4, 17, 18, 19, 20, 21, 22, 23, 24, 25, 26, 27, 28, 29, 30, 31, 32, 33, 34, 35, 36, 37, 38, 39, 40, 41, 42, 43, 44, 45, 46, 47, 48, 49, 50, 51, 52, 53, 54, 55, 56, 57, 58, 59, 60, 61, 62, 63, 64, 65, 66, 67, 68, 69, 70, 71, 72, 73, 74, 75, 76, 77, 78, 79, 80, 81, 82, 83, 84, 85, 86, 87, 88, 89, 90, 91, 92, 93, 94] (by decide +kernel) (by decide +kernel)
set_option maxRecDepth 20000 in
theorem gX5_candidate_X5_aboutCandidate : GoodIn wsX5_candidate (wsV RX5 182 RX5 yX5_aboutCandidate wsX5_aboutCandidate) := goodIn_app (goodIn_of _ (by decide +kernel)) ggX5_candidate_X5_aboutCandidate
theorem dX5_candidate_0 : decode cX5_candidate 0 = .ok (.aload_n 0, 1) := by decide +kernel
theorem dX5_candidate_1 : decode cX5_candidate 1 = .ok (.iload_n 1, 1) := by decide +kernel
theorem dX5_candidate_2 : decode cX5_candidate 2 = .ok (.invokevirtual 125, 3) := by decide +kernel
theorem dX5_candidate_5 : decode cX5_candidate 5 = .ok (.ifCond .eq 21, 3) := by decide +kernel
theorem dX5_candidate_8 : decode cX5_candidate 8 = .ok (.iload_n 2, 1) := by decide +kernel
theorem dX5_candidate_9 : decode cX5_candidate 9 = .ok (.iconst 0, 1) := by decide +kernel
theorem dX5_candidate_10 : decode cX5_candidate 10 = .ok (.iconst 3, 1) := by decide +kernel
theorem dX5_candidate_11 : decode cX5_candidate 11 = .ok (.invokestatic 48, 3) := by decide +kernel
theorem dX5_candidate_14 : decode cX5_candidate 14 = .ok (.ifCond .eq 12, 3) := by decide +kernel
theorem dX5_candidate_17 : decode cX5_candidate 17 = .ok (.aload_n 0, 1) := by decide +kernel
theorem dX5_candidate_18 : decode cX5_candidate 18 = .ok (.iload_n 1, 1) := by decide +kernel
theorem dX5_candidate_19 : decode cX5_candidate 19 = .ok (.iload_n 2, 1) := by decide +kernel
theorem dX5_candidate_20 : decode cX5_candidate 20 = .ok (.invokevirtual 182, 3) := by decide +kernel
theorem dX5_candidate_23 : decode cX5_candidate 23 = .ok (.goto 4, 3) := by decide +kernel
theorem dX5_candidate_26 : decode cX5_candidate 26 = .ok (.iconst (-1), 1) := by decide +kernel
theorem dX5_candidate_27 : decode cX5_candidate 27 = .ok (.ireturn, 1) := by decide +kernel
set_option maxRecDepth 20000 in
theorem ggX5_vote_X5_isBallot : GoodIn wsX5_vote wsX5_isBallot := goodIn_r _ [6, 1, 7, 8, 5, 9, 64, 65, 66, 67, 68, 69, 70, 71, 72, 73, 74, 75, 76, 77, 78, 79, 80, 81, 82] (by decide +kernel) (by decide +kernel)
set_option maxRecDepth 20000 in
theorem gX5_vote_X5_isBallot : GoodIn wsX5_vote (wsV RX5 118 RX5 yX5_isBallot wsX5_isBallot) := goodIn_app (goodIn_of _ (by decide +kernel)) ggX5_vote_X5_isBallot
set_option maxRecDepth 20000 in
theorem ggX5_vote_X5_in : GoodIn wsX5_vote wsX5_in := goodIn_r _ [9] (by decide +kernel) (by decide +kernel)
set_option maxRecDepth 20000 in
theorem gX5_vote_X5_in : GoodIn wsX5_vote (va_wsS RX5 48 yX5_in wsX5_in) := goodIn_app (goodIn_of _ (by decide +kernel)) ggX5_vote_X5_in
set_option maxRecDepth 20000 in
theorem ggX5_vote_X5_membersBy : GoodIn wsX5_vote wsX5_membersBy := goodIn_r _ [13, 14, 15, 16, 17, 5, 18, 1, 19, 20, 21, 22, 23, 24, 25, 26, 27, 28, 29, 30, 31, 32, 33, 34, 35, 36, 37, 38, 39, 40, 41, 42, 43, 44, 45, 46, 47, 48, 49, 50, 51, 52, 53, 54, 55, 56, 57, 58, 59, 60, 61, 62, 63, 64, 65, 66, 67, 68, 69, 70, 71, 72, 73, 74, 75, 76, 77, 78, 79, 80, 81, 82] (by decide +kernel) (by decide +kernel)
set_option maxRecDepth 20000 in
theorem gX5_vote_X5_membersBy : GoodIn wsX5_vote (wsV RX5 176 RX5 yX5_membersBy wsX5_membersBy) := goodIn_app (goodIn_of _ (by decide +kernel)) ggX5_vote_X5_membersBy
set_option maxRecDepth 20000 in
theorem ggX5_vote_X5_ones : GoodIn wsX5_vote wsX5_ones := goodIn_r _ [54] (by decide +kernel) (by decide +kernel)
set_option maxRecDepth 20000 in
theorem gX5_vote_X5_ones : GoodIn wsX5_vote (va_wsS RX5 128 yX5_ones wsX5_ones) := goodIn_app (goodIn_of _ (by decide +kernel)) ggX5_vote_X5_ones
theorem dX5_vote_0 : decode cX5_vote 0 = .ok (.aload_n 0, 1) := by decide +kernel
theorem dX5_vote_1 : decode cX5_vote 1 = .ok (.iload_n 1, 1) := by decide +kernel
theorem dX5_vote_2 : decode cX5_vote 2 = .ok (.invokevirtual 118, 3) := by decide +kernel
theorem dX5_vote_5 : decode cX5_vote 5 = .ok (.ifCond .eq 12, 3) := by decide +kernel
theorem dX5_vote_8 : decode cX5_vote 8 = .ok (.iload_n 2, 1) := by decide +kernel
theorem dX5_vote_9 : decode cX5_vote 9 = .ok (.iconst 0, 1) := by decide +kernel
theorem dX5_vote_10 : decode cX5_vote 10 = .ok (.iconst 5, 1) := by decide +kernel
theorem dX5_vote_11 : decode cX5_vote 11 = .ok (.invokestatic 48, 3) := by decide +kernel
theorem dX5_vote_14 : decode cX5_vote 14 = .ok (.ifCond .ne 5, 3) := by decide +kernel
theorem dX5_vote_17 : decode cX5_vote 17 = .ok (.iconst (-1), 1) := by decide +kernel
theorem dX5_vote_18 : decode cX5_vote 18 = .ok (.ireturn, 1) := by decide +kernel
theorem dX5_vote_19 : decode cX5_vote 19 = .ok (.iload_n 2, 1) := by decide +kernel
theorem dX5_vote_20 : decode cX5_vote 20 = .ok (.ifCond .ne 14, 3) := by decide +kernel
theorem dX5_vote_23 : decode cX5_vote 23 = .ok (.aload_n 0, 1) := by decide +kernel
theorem dX5_vote_24 : decode cX5_vote 24 = .ok (.getfield 7, 3) := by decide +kernel
theorem dX5_vote_27 : decode cX5_vote 27 = .ok (.iconst 2, 1) := by decide +kernel
theorem dX5_vote_28 : decode cX5_vote 28 = .ok (.iload_n 1, 1) := by decide +kernel
theorem dX5_vote_29 : decode cX5_vote 29 = .ok (.iadd, 1) := by decide +kernel
theorem dX5_vote_30 : decode cX5_vote 30 = .ok (.iaload, 1) := by decide +kernel
theorem dX5_vote_31 : decode cX5_vote 31 = .ok (.goto 40, 3) := by decide +kernel
theorem dX5_vote_34 : decode cX5_vote 34 = .ok (.iload_n 2, 1) := by decide +kernel
theorem dX5_vote_35 : decode cX5_vote 35 = .ok (.iconst 1, 1) := by decide +kernel
theorem dX5_vote_36 : decode cX5_vote 36 = .ok (.if_icmp .ne 15, 3) := by decide +kernel
theorem dX5_vote_39 : decode cX5_vote 39 = .ok (.aload_n 0, 1) := by decide +kernel
theorem dX5_vote_40 : decode cX5_vote 40 = .ok (.getfield 7, 3) := by decide +kernel
theorem dX5_vote_43 : decode cX5_vote 43 = .ok (.bipush 12, 2) := by decide +kernel
theorem dX5_vote_45 : decode cX5_vote 45 = .ok (.iload_n 1, 1) := by decide +kernel
theorem dX5_vote_46 : decode cX5_vote 46 = .ok (.iadd, 1) := by decide +kernel
theorem dX5_vote_47 : decode cX5_vote 47 = .ok (.iaload, 1) := by decide +kernel
theorem dX5_vote_48 : decode cX5_vote 48 = .ok (.goto 23, 3) := by decide +kernel
theorem dX5_vote_51 : decode cX5_vote 51 = .ok (.aload_n 0, 1) := by decide +kernel
theorem dX5_vote_52 : decode cX5_vote 52 = .ok (.getfield 7, 3) := by decide +kernel
theorem dX5_vote_55 : decode cX5_vote 55 = .ok (.bipush 12, 2) := by decide +kernel
theorem dX5_vote_57 : decode cX5_vote 57 = .ok (.iload_n 1, 1) := by decide +kernel
theorem dX5_vote_58 : decode cX5_vote 58 = .ok (.iadd, 1) := by decide +kernel
theorem dX5_vote_59 : decode cX5_vote 59 = .ok (.iaload, 1) := by decide +kernel
theorem dX5_vote_60 : decode cX5_vote 60 = .ok (.aload_n 0, 1) := by decide +kernel
theorem dX5_vote_61 : decode cX5_vote 61 = .ok (.iload_n 2, 1) := by decide +kernel
theorem dX5_vote_62 : decode cX5_vote 62 = .ok (.iconst 2, 1) := by decide +kernel
theorem dX5_vote_63 : decode cX5_vote 63 = .ok (.isub, 1) := by decide +kernel
theorem dX5_vote_64 : decode cX5_vote 64 = .ok (.invokevirtual 176, 3) := by decide +kernel
theorem dX5_vote_67 : decode cX5_vote 67 = .ok (.iand, 1) := by decide +kernel
theorem dX5_vote_68 : decode cX5_vote 68 = .ok (.invokestatic 128, 3) := by decide +kernel
theorem dX5_vote_71 : decode cX5_vote 71 = .ok (.ireturn, 1) := by decide +kernel
set_option maxRecDepth 20000 in
theorem ggX5_member_X5_isLaw : GoodIn wsX5_member wsX5_isLaw := goodIn_r _ [6, 7, 8, 5, 9] (by decide +kernel) (by decide +kernel)
set_option maxRecDepth 20000 in
theorem gX5_member_X5_isLaw : GoodIn wsX5_member (va_wsS RX5 185 yX5_isLaw wsX5_isLaw) := goodIn_app (goodIn_of _ (by decide +kernel)) ggX5_member_X5_isLaw
set_option maxRecDepth 20000 in
theorem ggX5_member_X5_membersBy : GoodIn wsX5_member wsX5_membersBy := goodIn_r _ [13, 14, 15, 16, 17, 5, 18, 19, 20, 21, 22, 23, 24, 25, 26, 27, 1, 28, 29, 30, 31, 2, 32, 33, 34, 35, 36, 37, 38, 39, 40, 41, 42, 43, 44, 45, 46, 47, 48, 49, 50, 51, 52, 53, 54, 55, 56, 57, 58, 59, 60, 61, 62, 63, 64, 65, 66, 67, 68, 69, 70, 71, 72, 73, 74, 75, 76, 77, 78, 79, 80, 81] (by decide +kernel) (by decide +kernel)
set_option maxRecDepth 20000 in
theorem gX5_member_X5_membersBy : GoodIn wsX5_member (wsV RX5 176 RX5 yX5_membersBy wsX5_membersBy) := goodIn_app (goodIn_of _ (by decide +kernel)) ggX5_member_X5_membersBy
set_option maxRecDepth 20000 in
theorem ggX5_member_X5_ones : GoodIn wsX5_member wsX5_ones := goodIn_r _ [53] (by decide +kernel) (by decide +kernel)
set_option maxRecDepth 20000 in
theorem gX5_member_X5_ones : GoodIn wsX5_member (va_wsS RX5 128 yX5_ones wsX5_ones) := goodIn_app (goodIn_of _ (by decide +kernel)) ggX5_member_X5_ones
theorem dX5_member_0 : decode cX5_member 0 = .ok (.iload_n 1, 1) := by decide +kernel
theorem dX5_member_1 : decode cX5_member 1 = .ok (.invokestatic 185, 3) := by decide +kernel
theorem dX5_member_4 : decode cX5_member 4 = .ok (.ifCond .eq 8, 3) := by decide +kernel
theorem dX5_member_7 : decode cX5_member 7 = .ok (.iload_n 2, 1) := by decide +kernel
theorem dX5_member_8 : decode cX5_member 8 = .ok (.iconst (-1), 1) := by decide +kernel
theorem dX5_member_9 : decode cX5_member 9 = .ok (.if_icmp .ge 5, 3) := by decide +kernel
theorem dX5_member_12 : decode cX5_member 12 = .ok (.iconst (-1), 1) := by decide +kernel
theorem dX5_member_13 : decode cX5_member 13 = .ok (.ireturn, 1) := by decide +kernel
theorem dX5_member_14 : decode cX5_member 14 = .ok (.aload_n 0, 1) := by decide +kernel
theorem dX5_member_15 : decode cX5_member 15 = .ok (.iload_n 1, 1) := by decide +kernel
theorem dX5_member_16 : decode cX5_member 16 = .ok (.invokevirtual 176, 3) := by decide +kernel
theorem dX5_member_19 : decode cX5_member 19 = .ok (.istore_n 3, 1) := by decide +kernel
theorem dX5_member_20 : decode cX5_member 20 = .ok (.iload_n 2, 1) := by decide +kernel
theorem dX5_member_21 : decode cX5_member 21 = .ok (.iconst (-1), 1) := by decide +kernel
theorem dX5_member_22 : decode cX5_member 22 = .ok (.if_icmp .ne 10, 3) := by decide +kernel
theorem dX5_member_25 : decode cX5_member 25 = .ok (.iload_n 3, 1) := by decide +kernel
theorem dX5_member_26 : decode cX5_member 26 = .ok (.invokestatic 128, 3) := by decide +kernel
theorem dX5_member_29 : decode cX5_member 29 = .ok (.goto 22, 3) := by decide +kernel
theorem dX5_member_32 : decode cX5_member 32 = .ok (.iload_n 2, 1) := by decide +kernel
theorem dX5_member_33 : decode cX5_member 33 = .ok (.aload_n 0, 1) := by decide +kernel
theorem dX5_member_34 : decode cX5_member 34 = .ok (.getfield 157, 3) := by decide +kernel
theorem dX5_member_37 : decode cX5_member 37 = .ok (.if_icmp .ge 12, 3) := by decide +kernel
theorem dX5_member_40 : decode cX5_member 40 = .ok (.aload_n 0, 1) := by decide +kernel
theorem dX5_member_41 : decode cX5_member 41 = .ok (.getfield 35, 3) := by decide +kernel
theorem dX5_member_44 : decode cX5_member 44 = .ok (.iload_n 2, 1) := by decide +kernel
theorem dX5_member_45 : decode cX5_member 45 = .ok (.iaload, 1) := by decide +kernel
theorem dX5_member_46 : decode cX5_member 46 = .ok (.goto 5, 3) := by decide +kernel
theorem dX5_member_49 : decode cX5_member 49 = .ok (.bipush (-4), 2) := by decide +kernel
theorem dX5_member_51 : decode cX5_member 51 = .ok (.ireturn, 1) := by decide +kernel
set_option maxRecDepth 20000 in
theorem ggX5_members_X5_isLaw : GoodIn wsX5_members wsX5_isLaw := goodIn_r _ [4, 5, 6, 3, 7] (by decide +kernel) (by decide +kernel)
set_option maxRecDepth 20000 in
theorem gX5_members_X5_isLaw : GoodIn wsX5_members (va_wsS RX5 185 yX5_isLaw wsX5_isLaw) := goodIn_app (goodIn_of _ (by decide +kernel)) ggX5_members_X5_isLaw
set_option maxRecDepth 20000 in
theorem ggX5_members_X5_membersBy : GoodIn wsX5_members wsX5_membersBy := goodIn_r _ [11, 12, 13, 14, 15, 3, 16, 17, 18, 19, 20, 21, 22, 23, 24, 25, 26, 27, 28, 29, 30, 31, 32, 33, 34, 35, 36, 37, 38, 39, 40, 41, 42, 43, 44, 45, 46, 47, 48, 49, 50, 51, 52, 53, 54, 55, 56, 57, 58, 59, 60, 61, 62, 63, 64, 65, 66, 67, 68, 69, 70, 71, 72, 73, 74, 75, 76, 77, 78, 79, 80, 81] (by decide +kernel) (by decide +kernel)
set_option maxRecDepth 20000 in
theorem gX5_members_X5_membersBy : GoodIn wsX5_members (wsV RX5 176 RX5 yX5_membersBy wsX5_membersBy) := goodIn_app (goodIn_of _ (by decide +kernel)) ggX5_members_X5_membersBy
theorem dX5_members_0 : decode cX5_members 0 = .ok (.iload_n 1, 1) := by decide +kernel
theorem dX5_members_1 : decode cX5_members 1 = .ok (.invokestatic 185, 3) := by decide +kernel
theorem dX5_members_4 : decode cX5_members 4 = .ok (.ifCond .eq 11, 3) := by decide +kernel
theorem dX5_members_7 : decode cX5_members 7 = .ok (.aload_n 0, 1) := by decide +kernel
theorem dX5_members_8 : decode cX5_members 8 = .ok (.iload_n 1, 1) := by decide +kernel
theorem dX5_members_9 : decode cX5_members 9 = .ok (.invokevirtual 176, 3) := by decide +kernel
theorem dX5_members_12 : decode cX5_members 12 = .ok (.goto 4, 3) := by decide +kernel
theorem dX5_members_15 : decode cX5_members 15 = .ok (.iconst (-1), 1) := by decide +kernel
theorem dX5_members_16 : decode cX5_members 16 = .ok (.ireturn, 1) := by decide +kernel
theorem dX5_partOf_0 : decode cX5_partOf 0 = .ok (.lload_n 0, 1) := by decide +kernel
theorem dX5_partOf_1 : decode cX5_partOf 1 = .ok (.lstore 5, 2) := by decide +kernel
theorem dX5_partOf_3 : decode cX5_partOf 3 = .ok (.lload_n 2, 1) := by decide +kernel
theorem dX5_partOf_4 : decode cX5_partOf 4 = .ok (.lstore 7, 2) := by decide +kernel
theorem dX5_partOf_6 : decode cX5_partOf 6 = .ok (.lload 7, 2) := by decide +kernel
theorem dX5_partOf_8 : decode cX5_partOf 8 = .ok (.lconst 0, 1) := by decide +kernel
theorem dX5_partOf_9 : decode cX5_partOf 9 = .ok (.lcmp, 1) := by decide +kernel
theorem dX5_partOf_10 : decode cX5_partOf 10 = .ok (.ifCond .eq 21, 3) := by decide +kernel
theorem dX5_partOf_13 : decode cX5_partOf 13 = .ok (.lload 5, 2) := by decide +kernel
theorem dX5_partOf_15 : decode cX5_partOf 15 = .ok (.lload 7, 2) := by decide +kernel
theorem dX5_partOf_17 : decode cX5_partOf 17 = .ok (.lrem, 1) := by decide +kernel
theorem dX5_partOf_18 : decode cX5_partOf 18 = .ok (.lstore 9, 2) := by decide +kernel
theorem dX5_partOf_20 : decode cX5_partOf 20 = .ok (.lload 7, 2) := by decide +kernel
theorem dX5_partOf_22 : decode cX5_partOf 22 = .ok (.lstore 5, 2) := by decide +kernel
theorem dX5_partOf_24 : decode cX5_partOf 24 = .ok (.lload 9, 2) := by decide +kernel
theorem dX5_partOf_26 : decode cX5_partOf 26 = .ok (.lstore 7, 2) := by decide +kernel
theorem dX5_partOf_28 : decode cX5_partOf 28 = .ok (.goto (-22), 3) := by decide +kernel
theorem dX5_partOf_31 : decode cX5_partOf 31 = .ok (.iload 4, 2) := by decide +kernel
theorem dX5_partOf_33 : decode cX5_partOf 33 = .ok (.ifCond .ne 10, 3) := by decide +kernel
theorem dX5_partOf_36 : decode cX5_partOf 36 = .ok (.lload_n 0, 1) := by decide +kernel
theorem dX5_partOf_37 : decode cX5_partOf 37 = .ok (.lload 5, 2) := by decide +kernel
theorem dX5_partOf_39 : decode cX5_partOf 39 = .ok (.ldiv, 1) := by decide +kernel
theorem dX5_partOf_40 : decode cX5_partOf 40 = .ok (.goto 7, 3) := by decide +kernel
theorem dX5_partOf_43 : decode cX5_partOf 43 = .ok (.lload_n 2, 1) := by decide +kernel
theorem dX5_partOf_44 : decode cX5_partOf 44 = .ok (.lload 5, 2) := by decide +kernel
theorem dX5_partOf_46 : decode cX5_partOf 46 = .ok (.ldiv, 1) := by decide +kernel
theorem dX5_partOf_47 : decode cX5_partOf 47 = .ok (.lreturn, 1) := by decide +kernel
set_option maxRecDepth 20000 in
theorem ggX5_isPart_X5_in : GoodIn wsX5_isPart wsX5_in := goodIn_r _ [4] (by decide +kernel) (by decide +kernel)
set_option maxRecDepth 20000 in
theorem gX5_isPart_X5_in : GoodIn wsX5_isPart (va_wsS RX5 48 yX5_in wsX5_in) := goodIn_app (goodIn_of _ (by decide +kernel)) ggX5_isPart_X5_in
theorem dX5_isPart_0 : decode cX5_isPart 0 = .ok (.iload_n 0, 1) := by decide +kernel
theorem dX5_isPart_1 : decode cX5_isPart 1 = .ok (.iconst 0, 1) := by decide +kernel
theorem dX5_isPart_2 : decode cX5_isPart 2 = .ok (.iconst 1, 1) := by decide +kernel
theorem dX5_isPart_3 : decode cX5_isPart 3 = .ok (.invokestatic 48, 3) := by decide +kernel
theorem dX5_isPart_6 : decode cX5_isPart 6 = .ok (.ireturn, 1) := by decide +kernel
set_option maxRecDepth 20000 in
theorem ggX5_came_X5_isLaw : GoodIn wsX5_came wsX5_isLaw := goodIn_r _ [9, 10, 11, 8, 12] (by decide +kernel) (by decide +kernel)
set_option maxRecDepth 20000 in
theorem gX5_came_X5_isLaw : GoodIn wsX5_came (va_wsS RX5 185 yX5_isLaw wsX5_isLaw) := goodIn_app (goodIn_of _ (by decide +kernel)) ggX5_came_X5_isLaw
set_option maxRecDepth 20000 in
theorem ggX5_came_X5_isPart : GoodIn wsX5_came wsX5_isPart := goodIn_r _ [15, 10, 11, 8, 12] (by decide +kernel) (by decide +kernel)
set_option maxRecDepth 20000 in
theorem gX5_came_X5_isPart : GoodIn wsX5_came (va_wsS RX5 188 yX5_isPart wsX5_isPart) := goodIn_app (goodIn_of _ (by decide +kernel)) ggX5_came_X5_isPart
set_option maxRecDepth 20000 in
theorem ggX5_came_X5_lays : GoodIn wsX5_came wsX5_lays := goodIn_r _ [19, 20, 21, 22, 23, 24, 67, 68, 69, 70, 71, 72, 73, 74, 75, 76, 77, 78, 79, 80, 81, 82, 83, 84, 85] (by decide +kernel) (by decide +kernel)
set_option maxRecDepth 20000 in
theorem gX5_came_X5_lays : GoodIn wsX5_came (wsV RX5 169 RX5 yX5_lays wsX5_lays) := goodIn_app (goodIn_of _ (by decide +kernel)) ggX5_came_X5_lays
set_option maxRecDepth 20000 in
theorem ggX5_came_X5_elects : GoodIn wsX5_came wsX5_elects := goodIn_r _ [28, 2, 29, 30, 21, 31, 20, 4, 3, 32, 33, 34, 35, 8, 36, 24, 37, 38, 39, 40, 41, 42, 43, 23, 22, 44, 45, 46, 47, 48, 49, 50, 51, 52, 53, 54, 55, 56, 57, 58, 59, 60, 61, 62, 63, 67, 68, 69, 70, 71, 72, 73, 74, 75, 76, 77, 78, 79, 80, 81, 82, 83, 84, 85] (by decide +kernel) (by decide +kernel)
set_option maxRecDepth 20000 in
theorem gX5_came_X5_elects : GoodIn wsX5_came (wsV RX5 172 RX5 yX5_elects wsX5_elects) := goodIn_app (goodIn_of _ (by decide +kernel)) ggX5_came_X5_elects
set_option maxRecDepth 20000 in
theorem ggX5_came_X5_partOf : GoodIn wsX5_came wsX5_partOf := goodIn_r _ [66] (by decide +kernel) (by decide +kernel)
set_option maxRecDepth 20000 in
theorem gX5_came_X5_partOf : GoodIn wsX5_came (va_wsS RX5 193 yX5_partOf wsX5_partOf) := goodIn_app (goodIn_of _ (by decide +kernel)) ggX5_came_X5_partOf
theorem dX5_came_0 : decode cX5_came 0 = .ok (.iload_n 1, 1) := by decide +kernel
theorem dX5_came_1 : decode cX5_came 1 = .ok (.invokestatic 185, 3) := by decide +kernel
theorem dX5_came_4 : decode cX5_came 4 = .ok (.ifCond .eq 14, 3) := by decide +kernel
theorem dX5_came_7 : decode cX5_came 7 = .ok (.iload_n 2, 1) := by decide +kernel
theorem dX5_came_8 : decode cX5_came 8 = .ok (.ifCond .lt 10, 3) := by decide +kernel
theorem dX5_came_11 : decode cX5_came 11 = .ok (.iload_n 3, 1) := by decide +kernel
theorem dX5_came_12 : decode cX5_came 12 = .ok (.invokestatic 188, 3) := by decide +kernel
theorem dX5_came_15 : decode cX5_came 15 = .ok (.ifCond .ne 7, 3) := by decide +kernel
theorem dX5_came_18 : decode cX5_came 18 = .ok (.ldc2_w 191, 3) := by decide +kernel
theorem dX5_came_21 : decode cX5_came 21 = .ok (.lreturn, 1) := by decide +kernel
theorem dX5_came_22 : decode cX5_came 22 = .ok (.aload_n 0, 1) := by decide +kernel
theorem dX5_came_23 : decode cX5_came 23 = .ok (.invokevirtual 169, 3) := by decide +kernel
theorem dX5_came_26 : decode cX5_came 26 = .ok (.aload_n 0, 1) := by decide +kernel
theorem dX5_came_27 : decode cX5_came 27 = .ok (.iload_n 1, 1) := by decide +kernel
theorem dX5_came_28 : decode cX5_came 28 = .ok (.invokevirtual 172, 3) := by decide +kernel
theorem dX5_came_31 : decode cX5_came 31 = .ok (.iload_n 2, 1) := by decide +kernel
theorem dX5_came_32 : decode cX5_came 32 = .ok (.aload_n 0, 1) := by decide +kernel
theorem dX5_came_33 : decode cX5_came 33 = .ok (.getfield 157, 3) := by decide +kernel
theorem dX5_came_36 : decode cX5_came 36 = .ok (.if_icmp .ge 33, 3) := by decide +kernel
theorem dX5_came_39 : decode cX5_came 39 = .ok (.aload_n 0, 1) := by decide +kernel
theorem dX5_came_40 : decode cX5_came 40 = .ok (.getfield 41, 3) := by decide +kernel
theorem dX5_came_43 : decode cX5_came 43 = .ok (.iload_n 2, 1) := by decide +kernel
theorem dX5_came_44 : decode cX5_came 44 = .ok (.laload, 1) := by decide +kernel
theorem dX5_came_45 : decode cX5_came 45 = .ok (.lconst 0, 1) := by decide +kernel
theorem dX5_came_46 : decode cX5_came 46 = .ok (.lcmp, 1) := by decide +kernel
theorem dX5_came_47 : decode cX5_came 47 = .ok (.ifCond .le 22, 3) := by decide +kernel
theorem dX5_came_50 : decode cX5_came 50 = .ok (.aload_n 0, 1) := by decide +kernel
theorem dX5_came_51 : decode cX5_came 51 = .ok (.getfield 38, 3) := by decide +kernel
theorem dX5_came_54 : decode cX5_came 54 = .ok (.iload_n 2, 1) := by decide +kernel
theorem dX5_came_55 : decode cX5_came 55 = .ok (.laload, 1) := by decide +kernel
theorem dX5_came_56 : decode cX5_came 56 = .ok (.aload_n 0, 1) := by decide +kernel
theorem dX5_came_57 : decode cX5_came 57 = .ok (.getfield 41, 3) := by decide +kernel
theorem dX5_came_60 : decode cX5_came 60 = .ok (.iload_n 2, 1) := by decide +kernel
theorem dX5_came_61 : decode cX5_came 61 = .ok (.laload, 1) := by decide +kernel
theorem dX5_came_62 : decode cX5_came 62 = .ok (.iload_n 3, 1) := by decide +kernel
theorem dX5_came_63 : decode cX5_came 63 = .ok (.invokestatic 193, 3) := by decide +kernel
theorem dX5_came_66 : decode cX5_came 66 = .ok (.goto 6, 3) := by decide +kernel
theorem dX5_came_69 : decode cX5_came 69 = .ok (.ldc2_w 197, 3) := by decide +kernel
theorem dX5_came_72 : decode cX5_came 72 = .ok (.lreturn, 1) := by decide +kernel
set_option maxRecDepth 20000 in
theorem ggX5_load_X5_isBallot : GoodIn wsX5_load wsX5_isBallot := goodIn_r _ [8, 9, 10, 11, 7, 12, 67, 68, 69, 70, 71, 72, 73, 74, 75, 76, 77, 78, 79, 80, 81, 82, 83, 84, 85] (by decide +kernel) (by decide +kernel)
set_option maxRecDepth 20000 in
theorem gX5_load_X5_isBallot : GoodIn wsX5_load (wsV RX5 118 RX5 yX5_isBallot wsX5_isBallot) := goodIn_app (goodIn_of _ (by decide +kernel)) ggX5_load_X5_isBallot
set_option maxRecDepth 20000 in
theorem ggX5_load_X5_isPart : GoodIn wsX5_load wsX5_isPart := goodIn_r _ [15, 10, 11, 7, 12] (by decide +kernel) (by decide +kernel)
set_option maxRecDepth 20000 in
theorem gX5_load_X5_isPart : GoodIn wsX5_load (va_wsS RX5 188 yX5_isPart wsX5_isPart) := goodIn_app (goodIn_of _ (by decide +kernel)) ggX5_load_X5_isPart
set_option maxRecDepth 20000 in
theorem ggX5_load_X5_lays : GoodIn wsX5_load wsX5_lays := goodIn_r _ [19, 9, 20, 21, 22, 23, 67, 68, 69, 70, 71, 72, 73, 74, 75, 76, 77, 78, 79, 80, 81, 82, 83, 84, 85] (by decide +kernel) (by decide +kernel)
set_option maxRecDepth 20000 in
theorem gX5_load_X5_lays : GoodIn wsX5_load (wsV RX5 169 RX5 yX5_lays wsX5_lays) := goodIn_app (goodIn_of _ (by decide +kernel)) ggX5_load_X5_lays
set_option maxRecDepth 20000 in
theorem ggX5_load_X5_elects : GoodIn wsX5_load wsX5_elects := goodIn_r _ [27, 28, 29, 3, 20, 2, 9, 30, 31, 32, 33, 34, 35, 7, 36, 23, 37, 38, 39, 40, 41, 42, 43, 22, 21, 44, 45, 46, 47, 48, 49, 50, 51, 52, 53, 54, 55, 56, 57, 58, 59, 60, 61, 62, 63, 67, 68, 69, 70, 71, 72, 73, 74, 75, 76, 77, 78, 79, 80, 81, 82, 83, 84, 85] (by decide +kernel) (by decide +kernel)
set_option maxRecDepth 20000 in
theorem gX5_load_X5_elects : GoodIn wsX5_load (wsV RX5 172 RX5 yX5_elects wsX5_elects) := goodIn_app (goodIn_of _ (by decide +kernel)) ggX5_load_X5_elects
set_option maxRecDepth 20000 in
theorem ggX5_load_X5_partOf : GoodIn wsX5_load wsX5_partOf := goodIn_r _ [66] (by decide +kernel) (by decide +kernel)
set_option maxRecDepth 20000 in
theorem gX5_load_X5_partOf : GoodIn wsX5_load (va_wsS RX5 193 yX5_partOf wsX5_partOf) := goodIn_app (goodIn_of _ (by decide +kernel)) ggX5_load_X5_partOf
theorem dX5_load_0 : decode cX5_load 0 = .ok (.aload_n 0, 1) := by decide +kernel
theorem dX5_load_1 : decode cX5_load 1 = .ok (.iload_n 1, 1) := by decide +kernel
theorem dX5_load_2 : decode cX5_load 2 = .ok (.invokevirtual 118, 3) := by decide +kernel
theorem dX5_load_5 : decode cX5_load 5 = .ok (.ifCond .eq 10, 3) := by decide +kernel
theorem dX5_load_8 : decode cX5_load 8 = .ok (.iload_n 2, 1) := by decide +kernel
theorem dX5_load_9 : decode cX5_load 9 = .ok (.invokestatic 188, 3) := by decide +kernel
theorem dX5_load_12 : decode cX5_load 12 = .ok (.ifCond .ne 7, 3) := by decide +kernel
theorem dX5_load_15 : decode cX5_load 15 = .ok (.ldc2_w 191, 3) := by decide +kernel
theorem dX5_load_18 : decode cX5_load 18 = .ok (.lreturn, 1) := by decide +kernel
theorem dX5_load_19 : decode cX5_load 19 = .ok (.aload_n 0, 1) := by decide +kernel
theorem dX5_load_20 : decode cX5_load 20 = .ok (.invokevirtual 169, 3) := by decide +kernel
theorem dX5_load_23 : decode cX5_load 23 = .ok (.aload_n 0, 1) := by decide +kernel
theorem dX5_load_24 : decode cX5_load 24 = .ok (.iconst 0, 1) := by decide +kernel
theorem dX5_load_25 : decode cX5_load 25 = .ok (.invokevirtual 172, 3) := by decide +kernel
theorem dX5_load_28 : decode cX5_load 28 = .ok (.aload_n 0, 1) := by decide +kernel
theorem dX5_load_29 : decode cX5_load 29 = .ok (.getfield 31, 3) := by decide +kernel
theorem dX5_load_32 : decode cX5_load 32 = .ok (.iload_n 1, 1) := by decide +kernel
theorem dX5_load_33 : decode cX5_load 33 = .ok (.laload, 1) := by decide +kernel
theorem dX5_load_34 : decode cX5_load 34 = .ok (.aload_n 0, 1) := by decide +kernel
theorem dX5_load_35 : decode cX5_load 35 = .ok (.getfield 137, 3) := by decide +kernel
theorem dX5_load_38 : decode cX5_load 38 = .ok (.iload_n 2, 1) := by decide +kernel
theorem dX5_load_39 : decode cX5_load 39 = .ok (.invokestatic 193, 3) := by decide +kernel
theorem dX5_load_42 : decode cX5_load 42 = .ok (.lreturn, 1) := by decide +kernel
set_option maxRecDepth 20000 in
theorem ggX5_greatest_X5_isPart : GoodIn wsX5_greatest wsX5_isPart := goodIn_r _ [8, 9, 10, 7, 11] (by decide +kernel) (by decide +kernel)
set_option maxRecDepth 20000 in
theorem gX5_greatest_X5_isPart : GoodIn wsX5_greatest (va_wsS RX5 188 yX5_isPart wsX5_isPart) := goodIn_app (goodIn_of _ (by decide +kernel)) ggX5_greatest_X5_isPart
set_option maxRecDepth 20000 in
theorem ggX5_greatest_X5_lays : GoodIn wsX5_greatest wsX5_lays := goodIn_r _ [15, 16, 2, 17, 18, 19, 63, 64, 65, 66, 67, 68, 69, 70, 71, 72, 73, 74, 75, 76, 77, 78, 79, 80, 81] (by decide +kernel) (by decide +kernel)
set_option maxRecDepth 20000 in
theorem gX5_greatest_X5_lays : GoodIn wsX5_greatest (wsV RX5 169 RX5 yX5_lays wsX5_lays) := goodIn_app (goodIn_of _ (by decide +kernel)) ggX5_greatest_X5_lays
set_option maxRecDepth 20000 in
theorem ggX5_greatest_X5_elects : GoodIn wsX5_greatest wsX5_elects := goodIn_r _ [23, 24, 25, 4, 2, 3, 16, 26, 27, 28, 29, 30, 31, 7, 32, 19, 33, 34, 35, 36, 37, 38, 39, 18, 17, 40, 41, 42, 43, 44, 45, 46, 47, 48, 49, 50, 51, 52, 53, 54, 55, 56, 57, 58, 59, 63, 64, 65, 66, 67, 68, 69, 70, 71, 72, 73, 74, 75, 76, 77, 78, 79, 80, 81] (by decide +kernel) (by decide +kernel)
set_option maxRecDepth 20000 in
theorem gX5_greatest_X5_elects : GoodIn wsX5_greatest (wsV RX5 172 RX5 yX5_elects wsX5_elects) := goodIn_app (goodIn_of _ (by decide +kernel)) ggX5_greatest_X5_elects
set_option maxRecDepth 20000 in
theorem ggX5_greatest_X5_partOf : GoodIn wsX5_greatest wsX5_partOf := goodIn_r _ [62] (by decide +kernel) (by decide +kernel)
set_option maxRecDepth 20000 in
theorem gX5_greatest_X5_partOf : GoodIn wsX5_greatest (va_wsS RX5 193 yX5_partOf wsX5_partOf) := goodIn_app (goodIn_of _ (by decide +kernel)) ggX5_greatest_X5_partOf
theorem dX5_greatest_0 : decode cX5_greatest 0 = .ok (.iload_n 1, 1) := by decide +kernel
theorem dX5_greatest_1 : decode cX5_greatest 1 = .ok (.invokestatic 188, 3) := by decide +kernel
theorem dX5_greatest_4 : decode cX5_greatest 4 = .ok (.ifCond .ne 7, 3) := by decide +kernel
theorem dX5_greatest_7 : decode cX5_greatest 7 = .ok (.ldc2_w 191, 3) := by decide +kernel
theorem dX5_greatest_10 : decode cX5_greatest 10 = .ok (.lreturn, 1) := by decide +kernel
theorem dX5_greatest_11 : decode cX5_greatest 11 = .ok (.aload_n 0, 1) := by decide +kernel
theorem dX5_greatest_12 : decode cX5_greatest 12 = .ok (.invokevirtual 169, 3) := by decide +kernel
theorem dX5_greatest_15 : decode cX5_greatest 15 = .ok (.aload_n 0, 1) := by decide +kernel
theorem dX5_greatest_16 : decode cX5_greatest 16 = .ok (.iconst 0, 1) := by decide +kernel
theorem dX5_greatest_17 : decode cX5_greatest 17 = .ok (.invokevirtual 172, 3) := by decide +kernel
theorem dX5_greatest_20 : decode cX5_greatest 20 = .ok (.lconst 0, 1) := by decide +kernel
theorem dX5_greatest_21 : decode cX5_greatest 21 = .ok (.lstore_n 2, 1) := by decide +kernel
theorem dX5_greatest_22 : decode cX5_greatest 22 = .ok (.iconst 0, 1) := by decide +kernel
theorem dX5_greatest_23 : decode cX5_greatest 23 = .ok (.istore 4, 2) := by decide +kernel
theorem dX5_greatest_25 : decode cX5_greatest 25 = .ok (.iload 4, 2) := by decide +kernel
theorem dX5_greatest_27 : decode cX5_greatest 27 = .ok (.aload_n 0, 1) := by decide +kernel
theorem dX5_greatest_28 : decode cX5_greatest 28 = .ok (.getfield 134, 3) := by decide +kernel
theorem dX5_greatest_31 : decode cX5_greatest 31 = .ok (.if_icmp .ge 33, 3) := by decide +kernel
theorem dX5_greatest_34 : decode cX5_greatest 34 = .ok (.aload_n 0, 1) := by decide +kernel
theorem dX5_greatest_35 : decode cX5_greatest 35 = .ok (.getfield 31, 3) := by decide +kernel
theorem dX5_greatest_38 : decode cX5_greatest 38 = .ok (.iload 4, 2) := by decide +kernel
theorem dX5_greatest_40 : decode cX5_greatest 40 = .ok (.laload, 1) := by decide +kernel
theorem dX5_greatest_41 : decode cX5_greatest 41 = .ok (.lload_n 2, 1) := by decide +kernel
theorem dX5_greatest_42 : decode cX5_greatest 42 = .ok (.lcmp, 1) := by decide +kernel
theorem dX5_greatest_43 : decode cX5_greatest 43 = .ok (.ifCond .le 13, 3) := by decide +kernel
theorem dX5_greatest_46 : decode cX5_greatest 46 = .ok (.aload_n 0, 1) := by decide +kernel
theorem dX5_greatest_47 : decode cX5_greatest 47 = .ok (.getfield 31, 3) := by decide +kernel
theorem dX5_greatest_50 : decode cX5_greatest 50 = .ok (.iload 4, 2) := by decide +kernel
theorem dX5_greatest_52 : decode cX5_greatest 52 = .ok (.laload, 1) := by decide +kernel
theorem dX5_greatest_53 : decode cX5_greatest 53 = .ok (.goto 4, 3) := by decide +kernel
theorem dX5_greatest_56 : decode cX5_greatest 56 = .ok (.lload_n 2, 1) := by decide +kernel
theorem dX5_greatest_57 : decode cX5_greatest 57 = .ok (.lstore_n 2, 1) := by decide +kernel
theorem dX5_greatest_58 : decode cX5_greatest 58 = .ok (.iinc 4 1, 3) := by decide +kernel
theorem dX5_greatest_61 : decode cX5_greatest 61 = .ok (.goto (-36), 3) := by decide +kernel
theorem dX5_greatest_64 : decode cX5_greatest 64 = .ok (.lload_n 2, 1) := by decide +kernel
theorem dX5_greatest_65 : decode cX5_greatest 65 = .ok (.aload_n 0, 1) := by decide +kernel
theorem dX5_greatest_66 : decode cX5_greatest 66 = .ok (.getfield 137, 3) := by decide +kernel
theorem dX5_greatest_69 : decode cX5_greatest 69 = .ok (.iload_n 1, 1) := by decide +kernel
theorem dX5_greatest_70 : decode cX5_greatest 70 = .ok (.invokestatic 193, 3) := by decide +kernel
theorem dX5_greatest_73 : decode cX5_greatest 73 = .ok (.lreturn, 1) := by decide +kernel
theorem dX5_agreed_0 : decode cX5_agreed 0 = .ok (.iconst 0, 1) := by decide +kernel
theorem dX5_agreed_1 : decode cX5_agreed 1 = .ok (.istore_n 2, 1) := by decide +kernel
theorem dX5_agreed_2 : decode cX5_agreed 2 = .ok (.iconst 0, 1) := by decide +kernel
theorem dX5_agreed_3 : decode cX5_agreed 3 = .ok (.istore_n 3, 1) := by decide +kernel
theorem dX5_agreed_4 : decode cX5_agreed 4 = .ok (.iload_n 3, 1) := by decide +kernel
theorem dX5_agreed_5 : decode cX5_agreed 5 = .ok (.aload_n 0, 1) := by decide +kernel
theorem dX5_agreed_6 : decode cX5_agreed 6 = .ok (.getfield 7, 3) := by decide +kernel
theorem dX5_agreed_9 : decode cX5_agreed 9 = .ok (.iconst 1, 1) := by decide +kernel
theorem dX5_agreed_10 : decode cX5_agreed 10 = .ok (.iaload, 1) := by decide +kernel
theorem dX5_agreed_11 : decode cX5_agreed 11 = .ok (.if_icmp .ge 39, 3) := by decide +kernel
theorem dX5_agreed_14 : decode cX5_agreed 14 = .ok (.iload_n 2, 1) := by decide +kernel
theorem dX5_agreed_15 : decode cX5_agreed 15 = .ok (.aload_n 0, 1) := by decide +kernel
theorem dX5_agreed_16 : decode cX5_agreed 16 = .ok (.getfield 7, 3) := by decide +kernel
theorem dX5_agreed_19 : decode cX5_agreed 19 = .ok (.bipush 12, 2) := by decide +kernel
theorem dX5_agreed_21 : decode cX5_agreed 21 = .ok (.iload_n 3, 1) := by decide +kernel
theorem dX5_agreed_22 : decode cX5_agreed 22 = .ok (.iadd, 1) := by decide +kernel
theorem dX5_agreed_23 : decode cX5_agreed 23 = .ok (.iaload, 1) := by decide +kernel
theorem dX5_agreed_24 : decode cX5_agreed 24 = .ok (.iload_n 1, 1) := by decide +kernel
theorem dX5_agreed_25 : decode cX5_agreed 25 = .ok (.iand, 1) := by decide +kernel
theorem dX5_agreed_26 : decode cX5_agreed 26 = .ok (.iload_n 1, 1) := by decide +kernel
theorem dX5_agreed_27 : decode cX5_agreed 27 = .ok (.if_icmp .ne 14, 3) := by decide +kernel
theorem dX5_agreed_30 : decode cX5_agreed 30 = .ok (.aload_n 0, 1) := by decide +kernel
theorem dX5_agreed_31 : decode cX5_agreed 31 = .ok (.getfield 7, 3) := by decide +kernel
theorem dX5_agreed_34 : decode cX5_agreed 34 = .ok (.iconst 2, 1) := by decide +kernel
theorem dX5_agreed_35 : decode cX5_agreed 35 = .ok (.iload_n 3, 1) := by decide +kernel
theorem dX5_agreed_36 : decode cX5_agreed 36 = .ok (.iadd, 1) := by decide +kernel
theorem dX5_agreed_37 : decode cX5_agreed 37 = .ok (.iaload, 1) := by decide +kernel
theorem dX5_agreed_38 : decode cX5_agreed 38 = .ok (.goto 4, 3) := by decide +kernel
theorem dX5_agreed_41 : decode cX5_agreed 41 = .ok (.iconst 0, 1) := by decide +kernel
theorem dX5_agreed_42 : decode cX5_agreed 42 = .ok (.iadd, 1) := by decide +kernel
theorem dX5_agreed_43 : decode cX5_agreed 43 = .ok (.istore_n 2, 1) := by decide +kernel
theorem dX5_agreed_44 : decode cX5_agreed 44 = .ok (.iinc 3 1, 3) := by decide +kernel
theorem dX5_agreed_47 : decode cX5_agreed 47 = .ok (.goto (-43), 3) := by decide +kernel
theorem dX5_agreed_50 : decode cX5_agreed 50 = .ok (.iload_n 2, 1) := by decide +kernel
theorem dX5_agreed_51 : decode cX5_agreed 51 = .ok (.ireturn, 1) := by decide +kernel
set_option maxRecDepth 20000 in
theorem ggX5_isOwed_X5_agreed : GoodIn wsX5_isOwed wsX5_agreed := goodIn_r _ [6, 1, 14, 15, 16, 17, 18, 19, 20, 21, 22, 23, 24, 25, 26, 27, 28, 29, 30, 31, 32] (by decide +kernel) (by decide +kernel)
set_option maxRecDepth 20000 in
theorem gX5_isOwed_X5_agreed : GoodIn wsX5_isOwed (wsV RX5 199 RX5 yX5_agreed wsX5_agreed) := goodIn_app (goodIn_of _ (by decide +kernel)) ggX5_isOwed_X5_agreed
set_option maxRecDepth 20000 in
theorem ggX5_isOwed_X5_ones : GoodIn wsX5_isOwed wsX5_ones := goodIn_r _ [9] (by decide +kernel) (by decide +kernel)
set_option maxRecDepth 20000 in
theorem gX5_isOwed_X5_ones : GoodIn wsX5_isOwed (va_wsS RX5 128 yX5_ones wsX5_ones) := goodIn_app (goodIn_of _ (by decide +kernel)) ggX5_isOwed_X5_ones
set_option maxRecDepth 20000 in
theorem ggX5_isOwed_X5_allVoters : GoodIn wsX5_isOwed wsX5_allVoters := goodIn_r _ [13, 1, 14, 15, 16, 17, 18, 19, 20, 21, 22, 23, 24, 25, 26, 27, 28, 29, 30, 31, 32] (by decide +kernel) (by decide +kernel)
set_option maxRecDepth 20000 in
theorem gX5_isOwed_X5_allVoters : GoodIn wsX5_isOwed (wsV RX5 115 RX5 yX5_allVoters wsX5_allVoters) := goodIn_app (goodIn_of _ (by decide +kernel)) ggX5_isOwed_X5_allVoters
theorem dX5_isOwed_0 : decode cX5_isOwed 0 = .ok (.aload_n 0, 1) := by decide +kernel
theorem dX5_isOwed_1 : decode cX5_isOwed 1 = .ok (.iload_n 1, 1) := by decide +kernel
theorem dX5_isOwed_2 : decode cX5_isOwed 2 = .ok (.invokevirtual 199, 3) := by decide +kernel
theorem dX5_isOwed_5 : decode cX5_isOwed 5 = .ok (.istore_n 2, 1) := by decide +kernel
theorem dX5_isOwed_6 : decode cX5_isOwed 6 = .ok (.iload_n 2, 1) := by decide +kernel
theorem dX5_isOwed_7 : decode cX5_isOwed 7 = .ok (.ifCond .le 28, 3) := by decide +kernel
theorem dX5_isOwed_10 : decode cX5_isOwed 10 = .ok (.iload_n 2, 1) := by decide +kernel
theorem dX5_isOwed_11 : decode cX5_isOwed 11 = .ok (.aload_n 0, 1) := by decide +kernel
theorem dX5_isOwed_12 : decode cX5_isOwed 12 = .ok (.getfield 7, 3) := by decide +kernel
theorem dX5_isOwed_15 : decode cX5_isOwed 15 = .ok (.bipush 22, 2) := by decide +kernel
theorem dX5_isOwed_17 : decode cX5_isOwed 17 = .ok (.iaload, 1) := by decide +kernel
theorem dX5_isOwed_18 : decode cX5_isOwed 18 = .ok (.imul, 1) := by decide +kernel
theorem dX5_isOwed_19 : decode cX5_isOwed 19 = .ok (.iload_n 1, 1) := by decide +kernel
theorem dX5_isOwed_20 : decode cX5_isOwed 20 = .ok (.invokestatic 128, 3) := by decide +kernel
theorem dX5_isOwed_23 : decode cX5_isOwed 23 = .ok (.aload_n 0, 1) := by decide +kernel
theorem dX5_isOwed_24 : decode cX5_isOwed 24 = .ok (.invokevirtual 115, 3) := by decide +kernel
theorem dX5_isOwed_27 : decode cX5_isOwed 27 = .ok (.imul, 1) := by decide +kernel
theorem dX5_isOwed_28 : decode cX5_isOwed 28 = .ok (.if_icmp .lt 7, 3) := by decide +kernel
theorem dX5_isOwed_31 : decode cX5_isOwed 31 = .ok (.iconst 1, 1) := by decide +kernel
theorem dX5_isOwed_32 : decode cX5_isOwed 32 = .ok (.goto 4, 3) := by decide +kernel
theorem dX5_isOwed_35 : decode cX5_isOwed 35 = .ok (.iconst 0, 1) := by decide +kernel
theorem dX5_isOwed_36 : decode cX5_isOwed 36 = .ok (.ireturn, 1) := by decide +kernel
theorem dX5_unionOf_0 : decode cX5_unionOf 0 = .ok (.iconst 0, 1) := by decide +kernel
theorem dX5_unionOf_1 : decode cX5_unionOf 1 = .ok (.istore_n 2, 1) := by decide +kernel
theorem dX5_unionOf_2 : decode cX5_unionOf 2 = .ok (.iconst 0, 1) := by decide +kernel
theorem dX5_unionOf_3 : decode cX5_unionOf 3 = .ok (.istore_n 3, 1) := by decide +kernel
theorem dX5_unionOf_4 : decode cX5_unionOf 4 = .ok (.iload_n 3, 1) := by decide +kernel
theorem dX5_unionOf_5 : decode cX5_unionOf 5 = .ok (.aload_n 0, 1) := by decide +kernel
theorem dX5_unionOf_6 : decode cX5_unionOf 6 = .ok (.getfield 7, 3) := by decide +kernel
theorem dX5_unionOf_9 : decode cX5_unionOf 9 = .ok (.iconst 1, 1) := by decide +kernel
theorem dX5_unionOf_10 : decode cX5_unionOf 10 = .ok (.iaload, 1) := by decide +kernel
theorem dX5_unionOf_11 : decode cX5_unionOf 11 = .ok (.if_icmp .ge 40, 3) := by decide +kernel
theorem dX5_unionOf_14 : decode cX5_unionOf 14 = .ok (.iload_n 2, 1) := by decide +kernel
theorem dX5_unionOf_15 : decode cX5_unionOf 15 = .ok (.aload_n 0, 1) := by decide +kernel
theorem dX5_unionOf_16 : decode cX5_unionOf 16 = .ok (.getfield 7, 3) := by decide +kernel
theorem dX5_unionOf_19 : decode cX5_unionOf 19 = .ok (.bipush 12, 2) := by decide +kernel
theorem dX5_unionOf_21 : decode cX5_unionOf 21 = .ok (.iload_n 3, 1) := by decide +kernel
theorem dX5_unionOf_22 : decode cX5_unionOf 22 = .ok (.iadd, 1) := by decide +kernel
theorem dX5_unionOf_23 : decode cX5_unionOf 23 = .ok (.iaload, 1) := by decide +kernel
theorem dX5_unionOf_24 : decode cX5_unionOf 24 = .ok (.iload_n 1, 1) := by decide +kernel
theorem dX5_unionOf_25 : decode cX5_unionOf 25 = .ok (.iand, 1) := by decide +kernel
theorem dX5_unionOf_26 : decode cX5_unionOf 26 = .ok (.iload_n 1, 1) := by decide +kernel
theorem dX5_unionOf_27 : decode cX5_unionOf 27 = .ok (.if_icmp .ne 15, 3) := by decide +kernel
theorem dX5_unionOf_30 : decode cX5_unionOf 30 = .ok (.aload_n 0, 1) := by decide +kernel
theorem dX5_unionOf_31 : decode cX5_unionOf 31 = .ok (.getfield 7, 3) := by decide +kernel
theorem dX5_unionOf_34 : decode cX5_unionOf 34 = .ok (.bipush 12, 2) := by decide +kernel
theorem dX5_unionOf_36 : decode cX5_unionOf 36 = .ok (.iload_n 3, 1) := by decide +kernel
theorem dX5_unionOf_37 : decode cX5_unionOf 37 = .ok (.iadd, 1) := by decide +kernel
theorem dX5_unionOf_38 : decode cX5_unionOf 38 = .ok (.iaload, 1) := by decide +kernel
theorem dX5_unionOf_39 : decode cX5_unionOf 39 = .ok (.goto 4, 3) := by decide +kernel
theorem dX5_unionOf_42 : decode cX5_unionOf 42 = .ok (.iconst 0, 1) := by decide +kernel
theorem dX5_unionOf_43 : decode cX5_unionOf 43 = .ok (.ior, 1) := by decide +kernel
theorem dX5_unionOf_44 : decode cX5_unionOf 44 = .ok (.istore_n 2, 1) := by decide +kernel
theorem dX5_unionOf_45 : decode cX5_unionOf 45 = .ok (.iinc 3 1, 3) := by decide +kernel
theorem dX5_unionOf_48 : decode cX5_unionOf 48 = .ok (.goto (-44), 3) := by decide +kernel
theorem dX5_unionOf_51 : decode cX5_unionOf 51 = .ok (.iload_n 2, 1) := by decide +kernel
theorem dX5_unionOf_52 : decode cX5_unionOf 52 = .ok (.ireturn, 1) := by decide +kernel
set_option maxRecDepth 20000 in
theorem ggX5_agrees_X5_isSet : GoodIn wsX5_agrees wsX5_isSet := goodIn_r _ [5, 6, 7, 8, 4, 9, 80, 81, 82, 83, 84, 85, 86, 87, 88, 89, 90, 91, 92, 93, 94, 95, 96, 97, 98] (by decide +kernel) (by decide +kernel)
set_option maxRecDepth 20000 in
theorem gX5_agrees_X5_isSet : GoodIn wsX5_agrees (wsV RX5 112 RX5 yX5_isSet wsX5_isSet) := goodIn_app (goodIn_of _ (by decide +kernel)) ggX5_agrees_X5_isSet
set_option maxRecDepth 20000 in
theorem ggX5_agrees_X5_in : GoodIn wsX5_agrees wsX5_in := goodIn_r _ [9] (by decide +kernel) (by decide +kernel)
set_option maxRecDepth 20000 in
theorem gX5_agrees_X5_in : GoodIn wsX5_agrees (va_wsS RX5 48 yX5_in wsX5_in) := goodIn_app (goodIn_of _ (by decide +kernel)) ggX5_agrees_X5_in
set_option maxRecDepth 20000 in
theorem ggX5_agrees_X5_agreed : GoodIn wsX5_agrees wsX5_agreed := goodIn_r _ [13, 6, 80, 81, 82, 83, 84, 85, 86, 87, 88, 89, 90, 91, 92, 93, 94, 95, 96, 97, 98] (by decide +kernel) (by decide +kernel)
set_option maxRecDepth 20000 in
theorem gX5_agrees_X5_agreed : GoodIn wsX5_agrees (wsV RX5 199 RX5 yX5_agreed wsX5_agreed) := goodIn_app (goodIn_of _ (by decide +kernel)) ggX5_agrees_X5_agreed
set_option maxRecDepth 20000 in
theorem ggX5_agrees_X5_isOwed : GoodIn wsX5_agrees wsX5_isOwed := goodIn_r _ [17, 6, 10, 11, 12, 4, 13, 18, 19, 20, 21, 22, 23, 24, 80, 81, 82, 83, 84, 85, 86, 87, 88, 89, 90, 91, 92, 93, 94, 95, 96, 97, 98] (by decide +kernel) (by decide +kernel)
set_option maxRecDepth 20000 in
theorem gX5_agrees_X5_isOwed : GoodIn wsX5_agrees (wsV RX5 202 RX5 yX5_isOwed wsX5_isOwed) := goodIn_app (goodIn_of _ (by decide +kernel)) ggX5_agrees_X5_isOwed
set_option maxRecDepth 20000 in
theorem ggX5_agrees_X5_unionOf : GoodIn wsX5_agrees wsX5_unionOf := goodIn_r _ [28, 6, 80, 81, 82, 83, 84, 85, 86, 87, 88, 89, 90, 91, 92, 93, 94, 95, 96, 97, 98] (by decide +kernel) (by decide +kernel)
set_option maxRecDepth 20000 in
theorem gX5_agrees_X5_unionOf : GoodIn wsX5_agrees (wsV RX5 205 RX5 yX5_unionOf wsX5_unionOf) := goodIn_app (goodIn_of _ (by decide +kernel)) ggX5_agrees_X5_unionOf
set_option maxRecDepth 20000 in
theorem ggX5_agrees_X5_membersBy : GoodIn wsX5_agrees wsX5_membersBy := goodIn_r _ [32, 33, 34, 35, 36, 4, 37, 6, 38, 39, 40, 41, 42, 43, 44, 45, 46, 47, 48, 49, 50, 51, 52, 53, 54, 55, 56, 57, 58, 59, 60, 61, 62, 63, 64, 65, 66, 67, 68, 69, 70, 18, 19, 20, 71, 72, 73, 74, 75, 76, 77, 78, 79, 80, 81, 82, 83, 84, 85, 86, 87, 88, 89, 90, 91, 92, 93, 94, 95, 96, 97, 98] (by decide +kernel) (by decide +kernel)
set_option maxRecDepth 20000 in
theorem gX5_agrees_X5_membersBy : GoodIn wsX5_agrees (wsV RX5 176 RX5 yX5_membersBy wsX5_membersBy) := goodIn_app (goodIn_of _ (by decide +kernel)) ggX5_agrees_X5_membersBy
set_option maxRecDepth 20000 in
theorem ggX5_agrees_X5_ones : GoodIn wsX5_agrees wsX5_ones := goodIn_r _ [20] (by decide +kernel) (by decide +kernel)
set_option maxRecDepth 20000 in
theorem gX5_agrees_X5_ones : GoodIn wsX5_agrees (va_wsS RX5 128 yX5_ones wsX5_ones) := goodIn_app (goodIn_of _ (by decide +kernel)) ggX5_agrees_X5_ones
theorem dX5_agrees_0 : decode cX5_agrees 0 = .ok (.aload_n 0, 1) := by decide +kernel
theorem dX5_agrees_1 : decode cX5_agrees 1 = .ok (.iload_n 1, 1) := by decide +kernel
theorem dX5_agrees_2 : decode cX5_agrees 2 = .ok (.invokevirtual 112, 3) := by decide +kernel
theorem dX5_agrees_5 : decode cX5_agrees 5 = .ok (.ifCond .eq 12, 3) := by decide +kernel
theorem dX5_agrees_8 : decode cX5_agrees 8 = .ok (.iload_n 2, 1) := by decide +kernel
theorem dX5_agrees_9 : decode cX5_agrees 9 = .ok (.iconst 0, 1) := by decide +kernel
theorem dX5_agrees_10 : decode cX5_agrees 10 = .ok (.iconst 5, 1) := by decide +kernel
theorem dX5_agrees_11 : decode cX5_agrees 11 = .ok (.invokestatic 48, 3) := by decide +kernel
theorem dX5_agrees_14 : decode cX5_agrees 14 = .ok (.ifCond .ne 5, 3) := by decide +kernel
theorem dX5_agrees_17 : decode cX5_agrees 17 = .ok (.iconst (-1), 1) := by decide +kernel
theorem dX5_agrees_18 : decode cX5_agrees 18 = .ok (.ireturn, 1) := by decide +kernel
theorem dX5_agrees_19 : decode cX5_agrees 19 = .ok (.iload_n 2, 1) := by decide +kernel
theorem dX5_agrees_20 : decode cX5_agrees 20 = .ok (.ifCond .ne 11, 3) := by decide +kernel
theorem dX5_agrees_23 : decode cX5_agrees 23 = .ok (.aload_n 0, 1) := by decide +kernel
theorem dX5_agrees_24 : decode cX5_agrees 24 = .ok (.iload_n 1, 1) := by decide +kernel
theorem dX5_agrees_25 : decode cX5_agrees 25 = .ok (.invokevirtual 199, 3) := by decide +kernel
theorem dX5_agrees_28 : decode cX5_agrees 28 = .ok (.goto 40, 3) := by decide +kernel
theorem dX5_agrees_31 : decode cX5_agrees 31 = .ok (.iload_n 2, 1) := by decide +kernel
theorem dX5_agrees_32 : decode cX5_agrees 32 = .ok (.iconst 1, 1) := by decide +kernel
theorem dX5_agrees_33 : decode cX5_agrees 33 = .ok (.if_icmp .ne 19, 3) := by decide +kernel
theorem dX5_agrees_36 : decode cX5_agrees 36 = .ok (.aload_n 0, 1) := by decide +kernel
theorem dX5_agrees_37 : decode cX5_agrees 37 = .ok (.iload_n 1, 1) := by decide +kernel
theorem dX5_agrees_38 : decode cX5_agrees 38 = .ok (.invokevirtual 202, 3) := by decide +kernel
theorem dX5_agrees_41 : decode cX5_agrees 41 = .ok (.ifCond .eq 7, 3) := by decide +kernel
theorem dX5_agrees_44 : decode cX5_agrees 44 = .ok (.iconst 1, 1) := by decide +kernel
theorem dX5_agrees_45 : decode cX5_agrees 45 = .ok (.goto 23, 3) := by decide +kernel
theorem dX5_agrees_48 : decode cX5_agrees 48 = .ok (.iconst 0, 1) := by decide +kernel
theorem dX5_agrees_49 : decode cX5_agrees 49 = .ok (.goto 19, 3) := by decide +kernel
theorem dX5_agrees_52 : decode cX5_agrees 52 = .ok (.aload_n 0, 1) := by decide +kernel
theorem dX5_agrees_53 : decode cX5_agrees 53 = .ok (.iload_n 1, 1) := by decide +kernel
theorem dX5_agrees_54 : decode cX5_agrees 54 = .ok (.invokevirtual 205, 3) := by decide +kernel
theorem dX5_agrees_57 : decode cX5_agrees 57 = .ok (.aload_n 0, 1) := by decide +kernel
theorem dX5_agrees_58 : decode cX5_agrees 58 = .ok (.iload_n 2, 1) := by decide +kernel
theorem dX5_agrees_59 : decode cX5_agrees 59 = .ok (.iconst 2, 1) := by decide +kernel
theorem dX5_agrees_60 : decode cX5_agrees 60 = .ok (.isub, 1) := by decide +kernel
theorem dX5_agrees_61 : decode cX5_agrees 61 = .ok (.invokevirtual 176, 3) := by decide +kernel
theorem dX5_agrees_64 : decode cX5_agrees 64 = .ok (.iand, 1) := by decide +kernel
theorem dX5_agrees_65 : decode cX5_agrees 65 = .ok (.invokestatic 128, 3) := by decide +kernel
theorem dX5_agrees_68 : decode cX5_agrees 68 = .ok (.ireturn, 1) := by decide +kernel
set_option maxRecDepth 20000 in
theorem ggX5_shorts_X5_isLaw : GoodIn wsX5_shorts wsX5_isLaw := goodIn_r _ [5, 6, 7, 4, 8] (by decide +kernel) (by decide +kernel)
set_option maxRecDepth 20000 in
theorem gX5_shorts_X5_isLaw : GoodIn wsX5_shorts (va_wsS RX5 185 yX5_isLaw wsX5_isLaw) := goodIn_app (goodIn_of _ (by decide +kernel)) ggX5_shorts_X5_isLaw
set_option maxRecDepth 20000 in
theorem ggX5_shorts_X5_membersBy : GoodIn wsX5_shorts wsX5_membersBy := goodIn_r _ [12, 13, 14, 15, 16, 4, 17, 1, 18, 19, 20, 21, 22, 23, 24, 25, 26, 27, 28, 29, 30, 31, 32, 33, 34, 35, 36, 37, 38, 39, 40, 41, 42, 43, 44, 45, 46, 47, 48, 49, 50, 51, 52, 53, 54, 55, 56, 57, 58, 59, 60, 61, 62, 79, 80, 81, 82, 83, 84, 85, 86, 87, 88, 89, 90, 91, 92, 93, 94, 95, 96, 97] (by decide +kernel) (by decide +kernel)
set_option maxRecDepth 20000 in
theorem gX5_shorts_X5_membersBy : GoodIn wsX5_shorts (wsV RX5 176 RX5 yX5_membersBy wsX5_membersBy) := goodIn_app (goodIn_of _ (by decide +kernel)) ggX5_shorts_X5_membersBy
set_option maxRecDepth 20000 in
theorem ggX5_shorts_X5_isOwed : GoodIn wsX5_shorts wsX5_isOwed := goodIn_r _ [66, 1, 67, 68, 69, 4, 70, 51, 52, 53, 71, 72, 73, 74, 79, 80, 81, 82, 83, 84, 85, 86, 87, 88, 89, 90, 91, 92, 93, 94, 95, 96, 97] (by decide +kernel) (by decide +kernel)
set_option maxRecDepth 20000 in
theorem gX5_shorts_X5_isOwed : GoodIn wsX5_shorts (wsV RX5 202 RX5 yX5_isOwed wsX5_isOwed) := goodIn_app (goodIn_of _ (by decide +kernel)) ggX5_shorts_X5_isOwed
set_option maxRecDepth 20000 in
theorem ggX5_shorts_X5_unionOf : GoodIn wsX5_shorts wsX5_unionOf := goodIn_r _ [78, 1, 79, 80, 81, 82, 83, 84, 85, 86, 87, 88, 89, 90, 91, 92, 93, 94, 95, 96, 97] (by decide +kernel) (by decide +kernel)
set_option maxRecDepth 20000 in
theorem gX5_shorts_X5_unionOf : GoodIn wsX5_shorts (wsV RX5 205 RX5 yX5_unionOf wsX5_unionOf) := goodIn_app (goodIn_of _ (by decide +kernel)) ggX5_shorts_X5_unionOf
set_option maxRecDepth 20000 in
theorem ggX5_shorts_X5_ones : GoodIn wsX5_shorts wsX5_ones := goodIn_r _ [53] (by decide +kernel) (by decide +kernel)
set_option maxRecDepth 20000 in
theorem gX5_shorts_X5_ones : GoodIn wsX5_shorts (va_wsS RX5 128 yX5_ones wsX5_ones) := goodIn_app (goodIn_of _ (by decide +kernel)) ggX5_shorts_X5_ones
theorem dX5_shorts_0 : decode cX5_shorts 0 = .ok (.iload_n 1, 1) := by decide +kernel
theorem dX5_shorts_1 : decode cX5_shorts 1 = .ok (.invokestatic 185, 3) := by decide +kernel
theorem dX5_shorts_4 : decode cX5_shorts 4 = .ok (.ifCond .eq 8, 3) := by decide +kernel
theorem dX5_shorts_7 : decode cX5_shorts 7 = .ok (.iload_n 2, 1) := by decide +kernel
theorem dX5_shorts_8 : decode cX5_shorts 8 = .ok (.iconst (-1), 1) := by decide +kernel
theorem dX5_shorts_9 : decode cX5_shorts 9 = .ok (.if_icmp .ge 5, 3) := by decide +kernel
theorem dX5_shorts_12 : decode cX5_shorts 12 = .ok (.iconst (-1), 1) := by decide +kernel
theorem dX5_shorts_13 : decode cX5_shorts 13 = .ok (.ireturn, 1) := by decide +kernel
theorem dX5_shorts_14 : decode cX5_shorts 14 = .ok (.aload_n 0, 1) := by decide +kernel
theorem dX5_shorts_15 : decode cX5_shorts 15 = .ok (.iload_n 1, 1) := by decide +kernel
theorem dX5_shorts_16 : decode cX5_shorts 16 = .ok (.invokevirtual 176, 3) := by decide +kernel
theorem dX5_shorts_19 : decode cX5_shorts 19 = .ok (.istore_n 3, 1) := by decide +kernel
theorem dX5_shorts_20 : decode cX5_shorts 20 = .ok (.iconst 0, 1) := by decide +kernel
theorem dX5_shorts_21 : decode cX5_shorts 21 = .ok (.istore 4, 2) := by decide +kernel
theorem dX5_shorts_23 : decode cX5_shorts 23 = .ok (.bipush (-4), 2) := by decide +kernel
theorem dX5_shorts_25 : decode cX5_shorts 25 = .ok (.istore 5, 2) := by decide +kernel
theorem dX5_shorts_27 : decode cX5_shorts 27 = .ok (.iconst 1, 1) := by decide +kernel
theorem dX5_shorts_28 : decode cX5_shorts 28 = .ok (.istore 6, 2) := by decide +kernel
theorem dX5_shorts_30 : decode cX5_shorts 30 = .ok (.iload 6, 2) := by decide +kernel
theorem dX5_shorts_32 : decode cX5_shorts 32 = .ok (.iconst 1, 1) := by decide +kernel
theorem dX5_shorts_33 : decode cX5_shorts 33 = .ok (.aload_n 0, 1) := by decide +kernel
theorem dX5_shorts_34 : decode cX5_shorts 34 = .ok (.getfield 7, 3) := by decide +kernel
theorem dX5_shorts_37 : decode cX5_shorts 37 = .ok (.iconst 0, 1) := by decide +kernel
theorem dX5_shorts_38 : decode cX5_shorts 38 = .ok (.iaload, 1) := by decide +kernel
theorem dX5_shorts_39 : decode cX5_shorts 39 = .ok (.ishl, 1) := by decide +kernel
theorem dX5_shorts_40 : decode cX5_shorts 40 = .ok (.if_icmp .ge 55, 3) := by decide +kernel
theorem dX5_shorts_43 : decode cX5_shorts 43 = .ok (.aload_n 0, 1) := by decide +kernel
theorem dX5_shorts_44 : decode cX5_shorts 44 = .ok (.iload 6, 2) := by decide +kernel
theorem dX5_shorts_46 : decode cX5_shorts 46 = .ok (.invokevirtual 202, 3) := by decide +kernel
theorem dX5_shorts_49 : decode cX5_shorts 49 = .ok (.ifCond .eq 40, 3) := by decide +kernel
theorem dX5_shorts_52 : decode cX5_shorts 52 = .ok (.aload_n 0, 1) := by decide +kernel
theorem dX5_shorts_53 : decode cX5_shorts 53 = .ok (.iload 6, 2) := by decide +kernel
theorem dX5_shorts_55 : decode cX5_shorts 55 = .ok (.invokevirtual 205, 3) := by decide +kernel
theorem dX5_shorts_58 : decode cX5_shorts 58 = .ok (.iload_n 3, 1) := by decide +kernel
theorem dX5_shorts_59 : decode cX5_shorts 59 = .ok (.iand, 1) := by decide +kernel
theorem dX5_shorts_60 : decode cX5_shorts 60 = .ok (.invokestatic 128, 3) := by decide +kernel
theorem dX5_shorts_63 : decode cX5_shorts 63 = .ok (.iload 6, 2) := by decide +kernel
theorem dX5_shorts_65 : decode cX5_shorts 65 = .ok (.invokestatic 128, 3) := by decide +kernel
theorem dX5_shorts_68 : decode cX5_shorts 68 = .ok (.if_icmp .ge 21, 3) := by decide +kernel
theorem dX5_shorts_71 : decode cX5_shorts 71 = .ok (.iload 4, 2) := by decide +kernel
theorem dX5_shorts_73 : decode cX5_shorts 73 = .ok (.iload_n 2, 1) := by decide +kernel
theorem dX5_shorts_74 : decode cX5_shorts 74 = .ok (.if_icmp .ne 8, 3) := by decide +kernel
theorem dX5_shorts_77 : decode cX5_shorts 77 = .ok (.iload 6, 2) := by decide +kernel
theorem dX5_shorts_79 : decode cX5_shorts 79 = .ok (.goto 5, 3) := by decide +kernel
theorem dX5_shorts_82 : decode cX5_shorts 82 = .ok (.iload 5, 2) := by decide +kernel
theorem dX5_shorts_84 : decode cX5_shorts 84 = .ok (.istore 5, 2) := by decide +kernel
theorem dX5_shorts_86 : decode cX5_shorts 86 = .ok (.iinc 4 1, 3) := by decide +kernel
theorem dX5_shorts_89 : decode cX5_shorts 89 = .ok (.iinc 6 1, 3) := by decide +kernel
theorem dX5_shorts_92 : decode cX5_shorts 92 = .ok (.goto (-62), 3) := by decide +kernel
theorem dX5_shorts_95 : decode cX5_shorts 95 = .ok (.iload_n 2, 1) := by decide +kernel
theorem dX5_shorts_96 : decode cX5_shorts 96 = .ok (.iconst (-1), 1) := by decide +kernel
theorem dX5_shorts_97 : decode cX5_shorts 97 = .ok (.if_icmp .ne 8, 3) := by decide +kernel
theorem dX5_shorts_100 : decode cX5_shorts 100 = .ok (.iload 4, 2) := by decide +kernel
theorem dX5_shorts_102 : decode cX5_shorts 102 = .ok (.goto 5, 3) := by decide +kernel
theorem dX5_shorts_105 : decode cX5_shorts 105 = .ok (.iload 5, 2) := by decide +kernel
theorem dX5_shorts_107 : decode cX5_shorts 107 = .ok (.ireturn, 1) := by decide +kernel
set_option maxRecDepth 20000 in
theorem ggX5_joins_X5_isLaw : GoodIn wsX5_joins wsX5_isLaw := goodIn_r _ [9, 10, 11, 8, 12] (by decide +kernel) (by decide +kernel)
set_option maxRecDepth 20000 in
theorem gX5_joins_X5_isLaw : GoodIn wsX5_joins (va_wsS RX5 185 yX5_isLaw wsX5_isLaw) := goodIn_app (goodIn_of _ (by decide +kernel)) ggX5_joins_X5_isLaw
set_option maxRecDepth 20000 in
theorem ggX5_joins_X5_isCandidate : GoodIn wsX5_joins wsX5_isCandidate := goodIn_r _ [16, 1, 10, 11, 8, 12, 63, 64, 65, 66, 67, 68, 69, 70, 71, 72, 73, 74, 75, 76, 77, 78, 79, 80, 81] (by decide +kernel) (by decide +kernel)
set_option maxRecDepth 20000 in
theorem gX5_joins_X5_isCandidate : GoodIn wsX5_joins (wsV RX5 125 RX5 yX5_isCandidate wsX5_isCandidate) := goodIn_app (goodIn_of _ (by decide +kernel)) ggX5_joins_X5_isCandidate
set_option maxRecDepth 20000 in
theorem ggX5_joins_X5_has : GoodIn wsX5_joins wsX5_has := goodIn_r _ [19] (by decide +kernel) (by decide +kernel)
set_option maxRecDepth 20000 in
theorem gX5_joins_X5_has : GoodIn wsX5_joins (va_wsS RX5 85 yX5_has wsX5_has) := goodIn_app (goodIn_of _ (by decide +kernel)) ggX5_joins_X5_has
set_option maxRecDepth 20000 in
theorem ggX5_joins_X5_lays : GoodIn wsX5_joins wsX5_lays := goodIn_r _ [23, 1, 2, 3, 4, 24, 63, 64, 65, 66, 67, 68, 69, 70, 71, 72, 73, 74, 75, 76, 77, 78, 79, 80, 81] (by decide +kernel) (by decide +kernel)
set_option maxRecDepth 20000 in
theorem gX5_joins_X5_lays : GoodIn wsX5_joins (wsV RX5 169 RX5 yX5_lays wsX5_lays) := goodIn_app (goodIn_of _ (by decide +kernel)) ggX5_joins_X5_lays
set_option maxRecDepth 20000 in
theorem ggX5_joins_X5_elects : GoodIn wsX5_joins wsX5_elects := goodIn_r _ [28, 29, 5, 30, 2, 31, 1, 32, 33, 34, 35, 36, 37, 8, 38, 24, 17, 18, 19, 39, 40, 41, 42, 4, 3, 43, 44, 45, 46, 47, 48, 49, 50, 51, 52, 53, 54, 55, 56, 57, 58, 59, 60, 61, 62, 63, 64, 65, 66, 67, 68, 69, 70, 71, 72, 73, 74, 75, 76, 77, 78, 79, 80, 81] (by decide +kernel) (by decide +kernel)
set_option maxRecDepth 20000 in
theorem gX5_joins_X5_elects : GoodIn wsX5_joins (wsV RX5 172 RX5 yX5_elects wsX5_elects) := goodIn_app (goodIn_of _ (by decide +kernel)) ggX5_joins_X5_elects
theorem dX5_joins_0 : decode cX5_joins 0 = .ok (.iload_n 1, 1) := by decide +kernel
theorem dX5_joins_1 : decode cX5_joins 1 = .ok (.invokestatic 185, 3) := by decide +kernel
theorem dX5_joins_4 : decode cX5_joins 4 = .ok (.ifCond .eq 11, 3) := by decide +kernel
theorem dX5_joins_7 : decode cX5_joins 7 = .ok (.aload_n 0, 1) := by decide +kernel
theorem dX5_joins_8 : decode cX5_joins 8 = .ok (.iload_n 2, 1) := by decide +kernel
theorem dX5_joins_9 : decode cX5_joins 9 = .ok (.invokevirtual 125, 3) := by decide +kernel
theorem dX5_joins_12 : decode cX5_joins 12 = .ok (.ifCond .ne 5, 3) := by decide +kernel
theorem dX5_joins_15 : decode cX5_joins 15 = .ok (.iconst (-1), 1) := by decide +kernel
theorem dX5_joins_16 : decode cX5_joins 16 = .ok (.ireturn, 1) := by decide +kernel
theorem dX5_joins_17 : decode cX5_joins 17 = .ok (.aload_n 0, 1) := by decide +kernel
theorem dX5_joins_18 : decode cX5_joins 18 = .ok (.getfield 7, 3) := by decide +kernel
theorem dX5_joins_21 : decode cX5_joins 21 = .ok (.bipush 23, 2) := by decide +kernel
theorem dX5_joins_23 : decode cX5_joins 23 = .ok (.iaload, 1) := by decide +kernel
theorem dX5_joins_24 : decode cX5_joins 24 = .ok (.iload_n 2, 1) := by decide +kernel
theorem dX5_joins_25 : decode cX5_joins 25 = .ok (.invokestatic 85, 3) := by decide +kernel
theorem dX5_joins_28 : decode cX5_joins 28 = .ok (.ifCond .eq 6, 3) := by decide +kernel
theorem dX5_joins_31 : decode cX5_joins 31 = .ok (.bipush (-2), 2) := by decide +kernel
theorem dX5_joins_33 : decode cX5_joins 33 = .ok (.ireturn, 1) := by decide +kernel
theorem dX5_joins_34 : decode cX5_joins 34 = .ok (.aload_n 0, 1) := by decide +kernel
theorem dX5_joins_35 : decode cX5_joins 35 = .ok (.invokevirtual 169, 3) := by decide +kernel
theorem dX5_joins_38 : decode cX5_joins 38 = .ok (.aload_n 0, 1) := by decide +kernel
theorem dX5_joins_39 : decode cX5_joins 39 = .ok (.getfield 134, 3) := by decide +kernel
theorem dX5_joins_42 : decode cX5_joins 42 = .ok (.istore_n 3, 1) := by decide +kernel
theorem dX5_joins_43 : decode cX5_joins 43 = .ok (.iconst 0, 1) := by decide +kernel
theorem dX5_joins_44 : decode cX5_joins 44 = .ok (.istore 4, 2) := by decide +kernel
theorem dX5_joins_46 : decode cX5_joins 46 = .ok (.iload 4, 2) := by decide +kernel
theorem dX5_joins_48 : decode cX5_joins 48 = .ok (.bipush 20, 2) := by decide +kernel
theorem dX5_joins_50 : decode cX5_joins 50 = .ok (.if_icmp .gt 61, 3) := by decide +kernel
theorem dX5_joins_53 : decode cX5_joins 53 = .ok (.aload_n 0, 1) := by decide +kernel
theorem dX5_joins_54 : decode cX5_joins 54 = .ok (.getfield 22, 3) := by decide +kernel
theorem dX5_joins_57 : decode cX5_joins 57 = .ok (.iload_n 3, 1) := by decide +kernel
theorem dX5_joins_58 : decode cX5_joins 58 = .ok (.iload 4, 2) := by decide +kernel
theorem dX5_joins_60 : decode cX5_joins 60 = .ok (.iastore, 1) := by decide +kernel
theorem dX5_joins_61 : decode cX5_joins 61 = .ok (.aload_n 0, 1) := by decide +kernel
theorem dX5_joins_62 : decode cX5_joins 62 = .ok (.getfield 25, 3) := by decide +kernel
theorem dX5_joins_65 : decode cX5_joins 65 = .ok (.iload_n 3, 1) := by decide +kernel
theorem dX5_joins_66 : decode cX5_joins 66 = .ok (.iconst 1, 1) := by decide +kernel
theorem dX5_joins_67 : decode cX5_joins 67 = .ok (.iload_n 2, 1) := by decide +kernel
theorem dX5_joins_68 : decode cX5_joins 68 = .ok (.ishl, 1) := by decide +kernel
theorem dX5_joins_69 : decode cX5_joins 69 = .ok (.iastore, 1) := by decide +kernel
theorem dX5_joins_70 : decode cX5_joins 70 = .ok (.aload_n 0, 1) := by decide +kernel
theorem dX5_joins_71 : decode cX5_joins 71 = .ok (.iload 4, 2) := by decide +kernel
theorem dX5_joins_73 : decode cX5_joins 73 = .ok (.ifCond .ne 7, 3) := by decide +kernel
theorem dX5_joins_76 : decode cX5_joins 76 = .ok (.iload_n 3, 1) := by decide +kernel
theorem dX5_joins_77 : decode cX5_joins 77 = .ok (.goto 6, 3) := by decide +kernel
theorem dX5_joins_80 : decode cX5_joins 80 = .ok (.iload_n 3, 1) := by decide +kernel
theorem dX5_joins_81 : decode cX5_joins 81 = .ok (.iconst 1, 1) := by decide +kernel
theorem dX5_joins_82 : decode cX5_joins 82 = .ok (.iadd, 1) := by decide +kernel
theorem dX5_joins_83 : decode cX5_joins 83 = .ok (.putfield 134, 3) := by decide +kernel
theorem dX5_joins_86 : decode cX5_joins 86 = .ok (.aload_n 0, 1) := by decide +kernel
theorem dX5_joins_87 : decode cX5_joins 87 = .ok (.iload_n 1, 1) := by decide +kernel
theorem dX5_joins_88 : decode cX5_joins 88 = .ok (.invokevirtual 172, 3) := by decide +kernel
theorem dX5_joins_91 : decode cX5_joins 91 = .ok (.aload_n 0, 1) := by decide +kernel
theorem dX5_joins_92 : decode cX5_joins 92 = .ok (.getfield 141, 3) := by decide +kernel
theorem dX5_joins_95 : decode cX5_joins 95 = .ok (.iload_n 2, 1) := by decide +kernel
theorem dX5_joins_96 : decode cX5_joins 96 = .ok (.invokestatic 85, 3) := by decide +kernel
theorem dX5_joins_99 : decode cX5_joins 99 = .ok (.ifCond .eq 6, 3) := by decide +kernel
theorem dX5_joins_102 : decode cX5_joins 102 = .ok (.iload 4, 2) := by decide +kernel
theorem dX5_joins_104 : decode cX5_joins 104 = .ok (.ireturn, 1) := by decide +kernel
theorem dX5_joins_105 : decode cX5_joins 105 = .ok (.iinc 4 1, 3) := by decide +kernel
theorem dX5_joins_108 : decode cX5_joins 108 = .ok (.goto (-62), 3) := by decide +kernel
theorem dX5_joins_111 : decode cX5_joins 111 = .ok (.bipush (-4), 2) := by decide +kernel
theorem dX5_joins_113 : decode cX5_joins 113 = .ok (.ireturn, 1) := by decide +kernel
set_option maxRecDepth 20000 in
theorem ggX5_matters_X5_isLaw : GoodIn wsX5_matters wsX5_isLaw := goodIn_r _ [7, 8, 9, 6, 10] (by decide +kernel) (by decide +kernel)
set_option maxRecDepth 20000 in
theorem gX5_matters_X5_isLaw : GoodIn wsX5_matters (va_wsS RX5 185 yX5_isLaw wsX5_isLaw) := goodIn_app (goodIn_of _ (by decide +kernel)) ggX5_matters_X5_isLaw
set_option maxRecDepth 20000 in
theorem ggX5_matters_X5_membersBy : GoodIn wsX5_matters wsX5_membersBy := goodIn_r _ [14, 3, 15, 16, 17, 6, 18, 19, 1, 2, 20, 21, 22, 23, 24, 25, 26, 27, 28, 29, 30, 31, 32, 33, 34, 35, 36, 37, 38, 39, 40, 41, 42, 43, 44, 45, 46, 47, 48, 49, 50, 51, 52, 53, 54, 55, 56, 57, 58, 59, 60, 61, 62, 63, 64, 65, 66, 67, 68, 69, 70, 71, 72, 73, 74, 75, 76, 77, 78, 79, 80, 81] (by decide +kernel) (by decide +kernel)
set_option maxRecDepth 20000 in
theorem gX5_matters_X5_membersBy : GoodIn wsX5_matters (wsV RX5 176 RX5 yX5_membersBy wsX5_membersBy) := goodIn_app (goodIn_of _ (by decide +kernel)) ggX5_matters_X5_membersBy
set_option maxRecDepth 20000 in
theorem ggX5_matters_X5_elects : GoodIn wsX5_matters wsX5_elects := goodIn_r _ [25, 26, 3, 27, 1, 28, 19, 29, 30, 31, 32, 33, 34, 6, 35, 21, 36, 37, 38, 39, 40, 41, 42, 20, 2, 43, 44, 45, 46, 47, 48, 49, 50, 51, 52, 53, 54, 55, 56, 57, 58, 59, 60, 61, 62, 63, 64, 65, 66, 67, 68, 69, 70, 71, 72, 73, 74, 75, 76, 77, 78, 79, 80, 81] (by decide +kernel) (by decide +kernel)
set_option maxRecDepth 20000 in
theorem gX5_matters_X5_elects : GoodIn wsX5_matters (wsV RX5 172 RX5 yX5_elects wsX5_elects) := goodIn_app (goodIn_of _ (by decide +kernel)) ggX5_matters_X5_elects
theorem dX5_matters_0 : decode cX5_matters 0 = .ok (.iload_n 1, 1) := by decide +kernel
theorem dX5_matters_1 : decode cX5_matters 1 = .ok (.invokestatic 185, 3) := by decide +kernel
theorem dX5_matters_4 : decode cX5_matters 4 = .ok (.ifCond .ne 5, 3) := by decide +kernel
theorem dX5_matters_7 : decode cX5_matters 7 = .ok (.iconst (-1), 1) := by decide +kernel
theorem dX5_matters_8 : decode cX5_matters 8 = .ok (.ireturn, 1) := by decide +kernel
theorem dX5_matters_9 : decode cX5_matters 9 = .ok (.aload_n 0, 1) := by decide +kernel
theorem dX5_matters_10 : decode cX5_matters 10 = .ok (.iload_n 1, 1) := by decide +kernel
theorem dX5_matters_11 : decode cX5_matters 11 = .ok (.invokevirtual 176, 3) := by decide +kernel
theorem dX5_matters_14 : decode cX5_matters 14 = .ok (.istore_n 2, 1) := by decide +kernel
theorem dX5_matters_15 : decode cX5_matters 15 = .ok (.iconst 0, 1) := by decide +kernel
theorem dX5_matters_16 : decode cX5_matters 16 = .ok (.istore_n 3, 1) := by decide +kernel
theorem dX5_matters_17 : decode cX5_matters 17 = .ok (.iconst 0, 1) := by decide +kernel
theorem dX5_matters_18 : decode cX5_matters 18 = .ok (.istore 4, 2) := by decide +kernel
theorem dX5_matters_20 : decode cX5_matters 20 = .ok (.iload 4, 2) := by decide +kernel
theorem dX5_matters_22 : decode cX5_matters 22 = .ok (.aload_n 0, 1) := by decide +kernel
theorem dX5_matters_23 : decode cX5_matters 23 = .ok (.getfield 134, 3) := by decide +kernel
theorem dX5_matters_26 : decode cX5_matters 26 = .ok (.if_icmp .ge 55, 3) := by decide +kernel
theorem dX5_matters_29 : decode cX5_matters 29 = .ok (.aload_n 0, 1) := by decide +kernel
theorem dX5_matters_30 : decode cX5_matters 30 = .ok (.getfield 22, 3) := by decide +kernel
theorem dX5_matters_33 : decode cX5_matters 33 = .ok (.iload 4, 2) := by decide +kernel
theorem dX5_matters_35 : decode cX5_matters 35 = .ok (.dup2, 1) := by decide +kernel
theorem dX5_matters_36 : decode cX5_matters 36 = .ok (.iaload, 1) := by decide +kernel
theorem dX5_matters_37 : decode cX5_matters 37 = .ok (.iconst 1, 1) := by decide +kernel
theorem dX5_matters_38 : decode cX5_matters 38 = .ok (.isub, 1) := by decide +kernel
theorem dX5_matters_39 : decode cX5_matters 39 = .ok (.iastore, 1) := by decide +kernel
theorem dX5_matters_40 : decode cX5_matters 40 = .ok (.aload_n 0, 1) := by decide +kernel
theorem dX5_matters_41 : decode cX5_matters 41 = .ok (.iload_n 1, 1) := by decide +kernel
theorem dX5_matters_42 : decode cX5_matters 42 = .ok (.invokevirtual 172, 3) := by decide +kernel
theorem dX5_matters_45 : decode cX5_matters 45 = .ok (.aload_n 0, 1) := by decide +kernel
theorem dX5_matters_46 : decode cX5_matters 46 = .ok (.getfield 22, 3) := by decide +kernel
theorem dX5_matters_49 : decode cX5_matters 49 = .ok (.iload 4, 2) := by decide +kernel
theorem dX5_matters_51 : decode cX5_matters 51 = .ok (.dup2, 1) := by decide +kernel
theorem dX5_matters_52 : decode cX5_matters 52 = .ok (.iaload, 1) := by decide +kernel
theorem dX5_matters_53 : decode cX5_matters 53 = .ok (.iconst 1, 1) := by decide +kernel
theorem dX5_matters_54 : decode cX5_matters 54 = .ok (.iadd, 1) := by decide +kernel
theorem dX5_matters_55 : decode cX5_matters 55 = .ok (.iastore, 1) := by decide +kernel
theorem dX5_matters_56 : decode cX5_matters 56 = .ok (.iload_n 3, 1) := by decide +kernel
theorem dX5_matters_57 : decode cX5_matters 57 = .ok (.aload_n 0, 1) := by decide +kernel
theorem dX5_matters_58 : decode cX5_matters 58 = .ok (.getfield 141, 3) := by decide +kernel
theorem dX5_matters_61 : decode cX5_matters 61 = .ok (.iload_n 2, 1) := by decide +kernel
theorem dX5_matters_62 : decode cX5_matters 62 = .ok (.if_icmp .eq 10, 3) := by decide +kernel
theorem dX5_matters_65 : decode cX5_matters 65 = .ok (.iconst 1, 1) := by decide +kernel
theorem dX5_matters_66 : decode cX5_matters 66 = .ok (.iload 4, 2) := by decide +kernel
theorem dX5_matters_68 : decode cX5_matters 68 = .ok (.ishl, 1) := by decide +kernel
theorem dX5_matters_69 : decode cX5_matters 69 = .ok (.goto 4, 3) := by decide +kernel
theorem dX5_matters_72 : decode cX5_matters 72 = .ok (.iconst 0, 1) := by decide +kernel
theorem dX5_matters_73 : decode cX5_matters 73 = .ok (.ior, 1) := by decide +kernel
theorem dX5_matters_74 : decode cX5_matters 74 = .ok (.istore_n 3, 1) := by decide +kernel
theorem dX5_matters_75 : decode cX5_matters 75 = .ok (.iinc 4 1, 3) := by decide +kernel
theorem dX5_matters_78 : decode cX5_matters 78 = .ok (.goto (-58), 3) := by decide +kernel
theorem dX5_matters_81 : decode cX5_matters 81 = .ok (.iload_n 3, 1) := by decide +kernel
theorem dX5_matters_82 : decode cX5_matters 82 = .ok (.ireturn, 1) := by decide +kernel
set_option maxRecDepth 20000 in
theorem ggX5_rather_X5_isLaw : GoodIn wsX5_rather wsX5_isLaw := goodIn_r _ [7, 8, 9, 6, 10] (by decide +kernel) (by decide +kernel)
set_option maxRecDepth 20000 in
theorem gX5_rather_X5_isLaw : GoodIn wsX5_rather (va_wsS RX5 185 yX5_isLaw wsX5_isLaw) := goodIn_app (goodIn_of _ (by decide +kernel)) ggX5_rather_X5_isLaw
set_option maxRecDepth 20000 in
theorem ggX5_rather_X5_isBallot : GoodIn wsX5_rather wsX5_isBallot := goodIn_r _ [14, 1, 8, 9, 6, 10, 67, 68, 69, 70, 71, 72, 73, 74, 75, 76, 77, 78, 79, 80, 81, 82, 83, 84, 85] (by decide +kernel) (by decide +kernel)
set_option maxRecDepth 20000 in
theorem gX5_rather_X5_isBallot : GoodIn wsX5_rather (wsV RX5 118 RX5 yX5_isBallot wsX5_isBallot) := goodIn_app (goodIn_of _ (by decide +kernel)) ggX5_rather_X5_isBallot
set_option maxRecDepth 20000 in
theorem ggX5_rather_X5_in : GoodIn wsX5_rather wsX5_in := goodIn_r _ [10] (by decide +kernel) (by decide +kernel)
set_option maxRecDepth 20000 in
theorem gX5_rather_X5_in : GoodIn wsX5_rather (va_wsS RX5 48 yX5_in wsX5_in) := goodIn_app (goodIn_of _ (by decide +kernel)) ggX5_rather_X5_in
set_option maxRecDepth 20000 in
theorem ggX5_rather_X5_membersBy : GoodIn wsX5_rather wsX5_membersBy := goodIn_r _ [18, 3, 19, 20, 21, 6, 22, 1, 23, 24, 2, 25, 26, 27, 28, 29, 30, 31, 32, 33, 34, 35, 36, 37, 38, 39, 40, 41, 42, 43, 44, 45, 46, 47, 48, 49, 50, 51, 52, 53, 54, 55, 56, 57, 58, 59, 60, 61, 62, 63, 64, 65, 66, 67, 68, 69, 70, 71, 72, 73, 74, 75, 76, 77, 78, 79, 80, 81, 82, 83, 84, 85] (by decide +kernel) (by decide +kernel)
set_option maxRecDepth 20000 in
theorem gX5_rather_X5_membersBy : GoodIn wsX5_rather (wsV RX5 176 RX5 yX5_membersBy wsX5_membersBy) := goodIn_app (goodIn_of _ (by decide +kernel)) ggX5_rather_X5_membersBy
set_option maxRecDepth 20000 in
theorem ggX5_rather_X5_ones : GoodIn wsX5_rather wsX5_ones := goodIn_r _ [57] (by decide +kernel) (by decide +kernel)
set_option maxRecDepth 20000 in
theorem gX5_rather_X5_ones : GoodIn wsX5_rather (va_wsS RX5 128 yX5_ones wsX5_ones) := goodIn_app (goodIn_of _ (by decide +kernel)) ggX5_rather_X5_ones
set_option maxRecDepth 20000 in
theorem ggX5_rather_X5_elects : GoodIn wsX5_rather wsX5_elects := goodIn_r _ [29, 30, 3, 31, 23, 32, 1, 33, 34, 35, 36, 37, 38, 6, 39, 25, 40, 41, 42, 43, 44, 45, 46, 2, 24, 47, 48, 49, 50, 51, 52, 53, 54, 55, 56, 57, 58, 59, 60, 61, 62, 63, 64, 65, 66, 67, 68, 69, 70, 71, 72, 73, 74, 75, 76, 77, 78, 79, 80, 81, 82, 83, 84, 85] (by decide +kernel) (by decide +kernel)
set_option maxRecDepth 20000 in
theorem gX5_rather_X5_elects : GoodIn wsX5_rather (wsV RX5 172 RX5 yX5_elects wsX5_elects) := goodIn_app (goodIn_of _ (by decide +kernel)) ggX5_rather_X5_elects
theorem dX5_rather_0 : decode cX5_rather 0 = .ok (.iload_n 1, 1) := by decide +kernel
theorem dX5_rather_1 : decode cX5_rather 1 = .ok (.invokestatic 185, 3) := by decide +kernel
theorem dX5_rather_4 : decode cX5_rather 4 = .ok (.ifCond .eq 20, 3) := by decide +kernel
theorem dX5_rather_7 : decode cX5_rather 7 = .ok (.aload_n 0, 1) := by decide +kernel
theorem dX5_rather_8 : decode cX5_rather 8 = .ok (.iload_n 2, 1) := by decide +kernel
theorem dX5_rather_9 : decode cX5_rather 9 = .ok (.invokevirtual 118, 3) := by decide +kernel
theorem dX5_rather_12 : decode cX5_rather 12 = .ok (.ifCond .eq 12, 3) := by decide +kernel
theorem dX5_rather_15 : decode cX5_rather 15 = .ok (.iload_n 3, 1) := by decide +kernel
theorem dX5_rather_16 : decode cX5_rather 16 = .ok (.iconst 0, 1) := by decide +kernel
theorem dX5_rather_17 : decode cX5_rather 17 = .ok (.iconst 1, 1) := by decide +kernel
theorem dX5_rather_18 : decode cX5_rather 18 = .ok (.invokestatic 48, 3) := by decide +kernel
theorem dX5_rather_21 : decode cX5_rather 21 = .ok (.ifCond .ne 5, 3) := by decide +kernel
theorem dX5_rather_24 : decode cX5_rather 24 = .ok (.iconst (-1), 1) := by decide +kernel
theorem dX5_rather_25 : decode cX5_rather 25 = .ok (.ireturn, 1) := by decide +kernel
theorem dX5_rather_26 : decode cX5_rather 26 = .ok (.aload_n 0, 1) := by decide +kernel
theorem dX5_rather_27 : decode cX5_rather 27 = .ok (.getfield 7, 3) := by decide +kernel
theorem dX5_rather_30 : decode cX5_rather 30 = .ok (.bipush 12, 2) := by decide +kernel
theorem dX5_rather_32 : decode cX5_rather 32 = .ok (.iload_n 2, 1) := by decide +kernel
theorem dX5_rather_33 : decode cX5_rather 33 = .ok (.iadd, 1) := by decide +kernel
theorem dX5_rather_34 : decode cX5_rather 34 = .ok (.iaload, 1) := by decide +kernel
theorem dX5_rather_35 : decode cX5_rather 35 = .ok (.istore 4, 2) := by decide +kernel
theorem dX5_rather_37 : decode cX5_rather 37 = .ok (.aload_n 0, 1) := by decide +kernel
theorem dX5_rather_38 : decode cX5_rather 38 = .ok (.iload_n 1, 1) := by decide +kernel
theorem dX5_rather_39 : decode cX5_rather 39 = .ok (.invokevirtual 176, 3) := by decide +kernel
theorem dX5_rather_42 : decode cX5_rather 42 = .ok (.iload 4, 2) := by decide +kernel
theorem dX5_rather_44 : decode cX5_rather 44 = .ok (.iand, 1) := by decide +kernel
theorem dX5_rather_45 : decode cX5_rather 45 = .ok (.invokestatic 128, 3) := by decide +kernel
theorem dX5_rather_48 : decode cX5_rather 48 = .ok (.istore 5, 2) := by decide +kernel
theorem dX5_rather_50 : decode cX5_rather 50 = .ok (.bipush (-4), 2) := by decide +kernel
theorem dX5_rather_52 : decode cX5_rather 52 = .ok (.istore 6, 2) := by decide +kernel
theorem dX5_rather_54 : decode cX5_rather 54 = .ok (.iconst 1, 1) := by decide +kernel
theorem dX5_rather_55 : decode cX5_rather 55 = .ok (.istore 7, 2) := by decide +kernel
theorem dX5_rather_57 : decode cX5_rather 57 = .ok (.iload 7, 2) := by decide +kernel
theorem dX5_rather_59 : decode cX5_rather 59 = .ok (.iconst 1, 1) := by decide +kernel
theorem dX5_rather_60 : decode cX5_rather 60 = .ok (.aload_n 0, 1) := by decide +kernel
theorem dX5_rather_61 : decode cX5_rather 61 = .ok (.getfield 7, 3) := by decide +kernel
theorem dX5_rather_64 : decode cX5_rather 64 = .ok (.iconst 0, 1) := by decide +kernel
theorem dX5_rather_65 : decode cX5_rather 65 = .ok (.iaload, 1) := by decide +kernel
theorem dX5_rather_66 : decode cX5_rather 66 = .ok (.ishl, 1) := by decide +kernel
theorem dX5_rather_67 : decode cX5_rather 67 = .ok (.if_icmp .ge 66, 3) := by decide +kernel
theorem dX5_rather_70 : decode cX5_rather 70 = .ok (.aload_n 0, 1) := by decide +kernel
theorem dX5_rather_71 : decode cX5_rather 71 = .ok (.getfield 25, 3) := by decide +kernel
theorem dX5_rather_74 : decode cX5_rather 74 = .ok (.iload_n 2, 1) := by decide +kernel
theorem dX5_rather_75 : decode cX5_rather 75 = .ok (.iload 7, 2) := by decide +kernel
theorem dX5_rather_77 : decode cX5_rather 77 = .ok (.iastore, 1) := by decide +kernel
theorem dX5_rather_78 : decode cX5_rather 78 = .ok (.aload_n 0, 1) := by decide +kernel
theorem dX5_rather_79 : decode cX5_rather 79 = .ok (.iload_n 1, 1) := by decide +kernel
theorem dX5_rather_80 : decode cX5_rather 80 = .ok (.invokevirtual 172, 3) := by decide +kernel
theorem dX5_rather_83 : decode cX5_rather 83 = .ok (.aload_n 0, 1) := by decide +kernel
theorem dX5_rather_84 : decode cX5_rather 84 = .ok (.getfield 141, 3) := by decide +kernel
theorem dX5_rather_87 : decode cX5_rather 87 = .ok (.iload 4, 2) := by decide +kernel
theorem dX5_rather_89 : decode cX5_rather 89 = .ok (.iand, 1) := by decide +kernel
theorem dX5_rather_90 : decode cX5_rather 90 = .ok (.invokestatic 128, 3) := by decide +kernel
theorem dX5_rather_93 : decode cX5_rather 93 = .ok (.istore 8, 2) := by decide +kernel
theorem dX5_rather_95 : decode cX5_rather 95 = .ok (.iload 8, 2) := by decide +kernel
theorem dX5_rather_97 : decode cX5_rather 97 = .ok (.iload 5, 2) := by decide +kernel
theorem dX5_rather_99 : decode cX5_rather 99 = .ok (.if_icmp .le 8, 3) := by decide +kernel
theorem dX5_rather_102 : decode cX5_rather 102 = .ok (.iload 7, 2) := by decide +kernel
theorem dX5_rather_104 : decode cX5_rather 104 = .ok (.goto 5, 3) := by decide +kernel
theorem dX5_rather_107 : decode cX5_rather 107 = .ok (.iload 6, 2) := by decide +kernel
theorem dX5_rather_109 : decode cX5_rather 109 = .ok (.istore 6, 2) := by decide +kernel
theorem dX5_rather_111 : decode cX5_rather 111 = .ok (.iload 8, 2) := by decide +kernel
theorem dX5_rather_113 : decode cX5_rather 113 = .ok (.iload 5, 2) := by decide +kernel
theorem dX5_rather_115 : decode cX5_rather 115 = .ok (.if_icmp .le 8, 3) := by decide +kernel
theorem dX5_rather_118 : decode cX5_rather 118 = .ok (.iload 8, 2) := by decide +kernel
theorem dX5_rather_120 : decode cX5_rather 120 = .ok (.goto 5, 3) := by decide +kernel
theorem dX5_rather_123 : decode cX5_rather 123 = .ok (.iload 5, 2) := by decide +kernel
theorem dX5_rather_125 : decode cX5_rather 125 = .ok (.istore 5, 2) := by decide +kernel
theorem dX5_rather_127 : decode cX5_rather 127 = .ok (.iinc 7 1, 3) := by decide +kernel
theorem dX5_rather_130 : decode cX5_rather 130 = .ok (.goto (-73), 3) := by decide +kernel
theorem dX5_rather_133 : decode cX5_rather 133 = .ok (.iload 6, 2) := by decide +kernel
theorem dX5_rather_135 : decode cX5_rather 135 = .ok (.bipush (-4), 2) := by decide +kernel
theorem dX5_rather_137 : decode cX5_rather 137 = .ok (.if_icmp .eq 7, 3) := by decide +kernel
theorem dX5_rather_140 : decode cX5_rather 140 = .ok (.iload_n 3, 1) := by decide +kernel
theorem dX5_rather_141 : decode cX5_rather 141 = .ok (.ifCond .ne 8, 3) := by decide +kernel
theorem dX5_rather_144 : decode cX5_rather 144 = .ok (.iload 6, 2) := by decide +kernel
theorem dX5_rather_146 : decode cX5_rather 146 = .ok (.goto 5, 3) := by decide +kernel
theorem dX5_rather_149 : decode cX5_rather 149 = .ok (.iload 5, 2) := by decide +kernel
theorem dX5_rather_151 : decode cX5_rather 151 = .ok (.ireturn, 1) := by decide +kernel
set_option maxRecDepth 20000 in
theorem ggX5_decided_X5_isLaw : GoodIn wsX5_decided wsX5_isLaw := goodIn_r _ [7, 8, 9, 6, 10] (by decide +kernel) (by decide +kernel)
set_option maxRecDepth 20000 in
theorem gX5_decided_X5_isLaw : GoodIn wsX5_decided (va_wsS RX5 185 yX5_isLaw wsX5_isLaw) := goodIn_app (goodIn_of _ (by decide +kernel)) ggX5_decided_X5_isLaw
set_option maxRecDepth 20000 in
theorem ggX5_decided_X5_membersBy : GoodIn wsX5_decided wsX5_membersBy := goodIn_r _ [14, 3, 15, 16, 17, 6, 18, 1, 19, 20, 21, 2, 22, 23, 24, 25, 26, 27, 28, 29, 30, 31, 32, 33, 34, 35, 36, 37, 38, 39, 40, 41, 42, 43, 44, 45, 46, 47, 48, 49, 50, 51, 52, 53, 54, 55, 56, 57, 58, 59, 60, 61, 62, 63, 64, 65, 66, 67, 68, 69, 70, 71, 72, 73, 74, 75, 76, 77, 78, 79, 80, 81] (by decide +kernel) (by decide +kernel)
set_option maxRecDepth 20000 in
theorem gX5_decided_X5_membersBy : GoodIn wsX5_decided (wsV RX5 176 RX5 yX5_membersBy wsX5_membersBy) := goodIn_app (goodIn_of _ (by decide +kernel)) ggX5_decided_X5_membersBy
set_option maxRecDepth 20000 in
theorem ggX5_decided_X5_elects : GoodIn wsX5_decided wsX5_elects := goodIn_r _ [25, 26, 3, 27, 19, 28, 1, 29, 30, 31, 32, 33, 34, 6, 35, 2, 36, 37, 38, 39, 40, 41, 42, 21, 20, 43, 44, 45, 46, 47, 48, 49, 50, 51, 52, 53, 54, 55, 56, 57, 58, 59, 60, 61, 62, 63, 64, 65, 66, 67, 68, 69, 70, 71, 72, 73, 74, 75, 76, 77, 78, 79, 80, 81] (by decide +kernel) (by decide +kernel)
set_option maxRecDepth 20000 in
theorem gX5_decided_X5_elects : GoodIn wsX5_decided (wsV RX5 172 RX5 yX5_elects wsX5_elects) := goodIn_app (goodIn_of _ (by decide +kernel)) ggX5_decided_X5_elects
theorem dX5_decided_0 : decode cX5_decided 0 = .ok (.iload_n 1, 1) := by decide +kernel
theorem dX5_decided_1 : decode cX5_decided 1 = .ok (.invokestatic 185, 3) := by decide +kernel
theorem dX5_decided_4 : decode cX5_decided 4 = .ok (.ifCond .ne 5, 3) := by decide +kernel
theorem dX5_decided_7 : decode cX5_decided 7 = .ok (.iconst (-1), 1) := by decide +kernel
theorem dX5_decided_8 : decode cX5_decided 8 = .ok (.ireturn, 1) := by decide +kernel
theorem dX5_decided_9 : decode cX5_decided 9 = .ok (.aload_n 0, 1) := by decide +kernel
theorem dX5_decided_10 : decode cX5_decided 10 = .ok (.iload_n 1, 1) := by decide +kernel
theorem dX5_decided_11 : decode cX5_decided 11 = .ok (.invokevirtual 176, 3) := by decide +kernel
theorem dX5_decided_14 : decode cX5_decided 14 = .ok (.istore_n 2, 1) := by decide +kernel
theorem dX5_decided_15 : decode cX5_decided 15 = .ok (.aload_n 0, 1) := by decide +kernel
theorem dX5_decided_16 : decode cX5_decided 16 = .ok (.getfield 7, 3) := by decide +kernel
theorem dX5_decided_19 : decode cX5_decided 19 = .ok (.iconst 0, 1) := by decide +kernel
theorem dX5_decided_20 : decode cX5_decided 20 = .ok (.iaload, 1) := by decide +kernel
theorem dX5_decided_21 : decode cX5_decided 21 = .ok (.istore_n 3, 1) := by decide +kernel
theorem dX5_decided_22 : decode cX5_decided 22 = .ok (.iconst 0, 1) := by decide +kernel
theorem dX5_decided_23 : decode cX5_decided 23 = .ok (.istore 4, 2) := by decide +kernel
theorem dX5_decided_25 : decode cX5_decided 25 = .ok (.iload 4, 2) := by decide +kernel
theorem dX5_decided_27 : decode cX5_decided 27 = .ok (.iload_n 3, 1) := by decide +kernel
theorem dX5_decided_28 : decode cX5_decided 28 = .ok (.if_icmp .ge 30, 3) := by decide +kernel
theorem dX5_decided_31 : decode cX5_decided 31 = .ok (.aload_n 0, 1) := by decide +kernel
theorem dX5_decided_32 : decode cX5_decided 32 = .ok (.getfield 28, 3) := by decide +kernel
theorem dX5_decided_35 : decode cX5_decided 35 = .ok (.iload 4, 2) := by decide +kernel
theorem dX5_decided_37 : decode cX5_decided 37 = .ok (.aload_n 0, 1) := by decide +kernel
theorem dX5_decided_38 : decode cX5_decided 38 = .ok (.getfield 7, 3) := by decide +kernel
theorem dX5_decided_41 : decode cX5_decided 41 = .ok (.bipush 24, 2) := by decide +kernel
theorem dX5_decided_43 : decode cX5_decided 43 = .ok (.iload_n 3, 1) := by decide +kernel
theorem dX5_decided_44 : decode cX5_decided 44 = .ok (.iadd, 1) := by decide +kernel
theorem dX5_decided_45 : decode cX5_decided 45 = .ok (.iconst 1, 1) := by decide +kernel
theorem dX5_decided_46 : decode cX5_decided 46 = .ok (.isub, 1) := by decide +kernel
theorem dX5_decided_47 : decode cX5_decided 47 = .ok (.iload 4, 2) := by decide +kernel
theorem dX5_decided_49 : decode cX5_decided 49 = .ok (.isub, 1) := by decide +kernel
theorem dX5_decided_50 : decode cX5_decided 50 = .ok (.iaload, 1) := by decide +kernel
theorem dX5_decided_51 : decode cX5_decided 51 = .ok (.iastore, 1) := by decide +kernel
theorem dX5_decided_52 : decode cX5_decided 52 = .ok (.iinc 4 1, 3) := by decide +kernel
theorem dX5_decided_55 : decode cX5_decided 55 = .ok (.goto (-30), 3) := by decide +kernel
theorem dX5_decided_58 : decode cX5_decided 58 = .ok (.aload_n 0, 1) := by decide +kernel
theorem dX5_decided_59 : decode cX5_decided 59 = .ok (.iload_n 1, 1) := by decide +kernel
theorem dX5_decided_60 : decode cX5_decided 60 = .ok (.invokevirtual 172, 3) := by decide +kernel
theorem dX5_decided_63 : decode cX5_decided 63 = .ok (.aload_n 0, 1) := by decide +kernel
theorem dX5_decided_64 : decode cX5_decided 64 = .ok (.getfield 141, 3) := by decide +kernel
theorem dX5_decided_67 : decode cX5_decided 67 = .ok (.iload_n 2, 1) := by decide +kernel
theorem dX5_decided_68 : decode cX5_decided 68 = .ok (.if_icmp .eq 7, 3) := by decide +kernel
theorem dX5_decided_71 : decode cX5_decided 71 = .ok (.iconst 1, 1) := by decide +kernel
theorem dX5_decided_72 : decode cX5_decided 72 = .ok (.goto 4, 3) := by decide +kernel
theorem dX5_decided_75 : decode cX5_decided 75 = .ok (.iconst 0, 1) := by decide +kernel
theorem dX5_decided_76 : decode cX5_decided 76 = .ok (.ireturn, 1) := by decide +kernel
set_option maxRecDepth 20000 in
theorem ggX5_both_X5_isLaw : GoodIn wsX5_both wsX5_isLaw := goodIn_r _ [4, 5, 6, 3, 7] (by decide +kernel) (by decide +kernel)
set_option maxRecDepth 20000 in
theorem gX5_both_X5_isLaw : GoodIn wsX5_both (va_wsS RX5 185 yX5_isLaw wsX5_isLaw) := goodIn_app (goodIn_of _ (by decide +kernel)) ggX5_both_X5_isLaw
set_option maxRecDepth 20000 in
theorem ggX5_both_X5_membersBy : GoodIn wsX5_both wsX5_membersBy := goodIn_r _ [11, 12, 13, 14, 15, 3, 16, 17, 18, 19, 20, 21, 22, 23, 24, 25, 26, 27, 28, 29, 30, 31, 32, 33, 34, 35, 36, 37, 38, 39, 40, 41, 42, 43, 44, 45, 46, 47, 48, 49, 50, 51, 52, 53, 54, 55, 56, 57, 58, 59, 60, 61, 62, 63, 64, 65, 66, 67, 68, 69, 70, 71, 72, 73, 74, 75, 76, 77, 78, 79, 80, 81] (by decide +kernel) (by decide +kernel)
set_option maxRecDepth 20000 in
theorem gX5_both_X5_membersBy : GoodIn wsX5_both (wsV RX5 176 RX5 yX5_membersBy wsX5_membersBy) := goodIn_app (goodIn_of _ (by decide +kernel)) ggX5_both_X5_membersBy
set_option maxRecDepth 20000 in
theorem ggX5_both_X5_ones : GoodIn wsX5_both wsX5_ones := goodIn_r _ [53] (by decide +kernel) (by decide +kernel)
set_option maxRecDepth 20000 in
theorem gX5_both_X5_ones : GoodIn wsX5_both (va_wsS RX5 128 yX5_ones wsX5_ones) := goodIn_app (goodIn_of _ (by decide +kernel)) ggX5_both_X5_ones
theorem dX5_both_0 : decode cX5_both 0 = .ok (.iload_n 1, 1) := by decide +kernel
theorem dX5_both_1 : decode cX5_both 1 = .ok (.invokestatic 185, 3) := by decide +kernel
theorem dX5_both_4 : decode cX5_both 4 = .ok (.ifCond .eq 10, 3) := by decide +kernel
theorem dX5_both_7 : decode cX5_both 7 = .ok (.iload_n 2, 1) := by decide +kernel
theorem dX5_both_8 : decode cX5_both 8 = .ok (.invokestatic 185, 3) := by decide +kernel
theorem dX5_both_11 : decode cX5_both 11 = .ok (.ifCond .ne 5, 3) := by decide +kernel
theorem dX5_both_14 : decode cX5_both 14 = .ok (.iconst (-1), 1) := by decide +kernel
theorem dX5_both_15 : decode cX5_both 15 = .ok (.ireturn, 1) := by decide +kernel
theorem dX5_both_16 : decode cX5_both 16 = .ok (.aload_n 0, 1) := by decide +kernel
theorem dX5_both_17 : decode cX5_both 17 = .ok (.iload_n 1, 1) := by decide +kernel
theorem dX5_both_18 : decode cX5_both 18 = .ok (.invokevirtual 176, 3) := by decide +kernel
theorem dX5_both_21 : decode cX5_both 21 = .ok (.istore_n 3, 1) := by decide +kernel
theorem dX5_both_22 : decode cX5_both 22 = .ok (.iload_n 3, 1) := by decide +kernel
theorem dX5_both_23 : decode cX5_both 23 = .ok (.aload_n 0, 1) := by decide +kernel
theorem dX5_both_24 : decode cX5_both 24 = .ok (.iload_n 2, 1) := by decide +kernel
theorem dX5_both_25 : decode cX5_both 25 = .ok (.invokevirtual 176, 3) := by decide +kernel
theorem dX5_both_28 : decode cX5_both 28 = .ok (.iand, 1) := by decide +kernel
theorem dX5_both_29 : decode cX5_both 29 = .ok (.invokestatic 128, 3) := by decide +kernel
theorem dX5_both_32 : decode cX5_both 32 = .ok (.ireturn, 1) := by decide +kernel
set_option maxRecDepth 20000 in
theorem ggX5_count_X5_allVoters : GoodIn wsX5_count wsX5_allVoters := goodIn_r _ [8, 1, 12, 13, 14, 15, 16, 17, 18, 19, 20, 21, 22, 23, 24, 25, 26, 27, 28, 29, 30] (by decide +kernel) (by decide +kernel)
set_option maxRecDepth 20000 in
theorem gX5_count_X5_allVoters : GoodIn wsX5_count (wsV RX5 115 RX5 yX5_allVoters wsX5_allVoters) := goodIn_app (goodIn_of _ (by decide +kernel)) ggX5_count_X5_allVoters
set_option maxRecDepth 20000 in
theorem ggX5_count_X5_ones : GoodIn wsX5_count wsX5_ones := goodIn_r _ [11] (by decide +kernel) (by decide +kernel)
set_option maxRecDepth 20000 in
theorem gX5_count_X5_ones : GoodIn wsX5_count (va_wsS RX5 128 yX5_ones wsX5_ones) := goodIn_app (goodIn_of _ (by decide +kernel)) ggX5_count_X5_ones
theorem dX5_count_0 : decode cX5_count 0 = .ok (.iload_n 1, 1) := by decide +kernel
theorem dX5_count_1 : decode cX5_count 1 = .ok (.tableswitch 91 0 6 #[43, 50, 57, 62, 70, 81, 86], 43) := by decide +kernel
theorem dX5_count_44 : decode cX5_count 44 = .ok (.aload_n 0, 1) := by decide +kernel
theorem dX5_count_45 : decode cX5_count 45 = .ok (.getfield 7, 3) := by decide +kernel
theorem dX5_count_48 : decode cX5_count 48 = .ok (.iconst 0, 1) := by decide +kernel
theorem dX5_count_49 : decode cX5_count 49 = .ok (.iaload, 1) := by decide +kernel
theorem dX5_count_50 : decode cX5_count 50 = .ok (.ireturn, 1) := by decide +kernel
theorem dX5_count_51 : decode cX5_count 51 = .ok (.aload_n 0, 1) := by decide +kernel
theorem dX5_count_52 : decode cX5_count 52 = .ok (.getfield 7, 3) := by decide +kernel
theorem dX5_count_55 : decode cX5_count 55 = .ok (.iconst 1, 1) := by decide +kernel
theorem dX5_count_56 : decode cX5_count 56 = .ok (.iaload, 1) := by decide +kernel
theorem dX5_count_57 : decode cX5_count 57 = .ok (.ireturn, 1) := by decide +kernel
theorem dX5_count_58 : decode cX5_count 58 = .ok (.aload_n 0, 1) := by decide +kernel
theorem dX5_count_59 : decode cX5_count 59 = .ok (.invokevirtual 115, 3) := by decide +kernel
theorem dX5_count_62 : decode cX5_count 62 = .ok (.ireturn, 1) := by decide +kernel
theorem dX5_count_63 : decode cX5_count 63 = .ok (.aload_n 0, 1) := by decide +kernel
theorem dX5_count_64 : decode cX5_count 64 = .ok (.getfield 7, 3) := by decide +kernel
theorem dX5_count_67 : decode cX5_count 67 = .ok (.bipush 22, 2) := by decide +kernel
theorem dX5_count_69 : decode cX5_count 69 = .ok (.iaload, 1) := by decide +kernel
theorem dX5_count_70 : decode cX5_count 70 = .ok (.ireturn, 1) := by decide +kernel
theorem dX5_count_71 : decode cX5_count 71 = .ok (.aload_n 0, 1) := by decide +kernel
theorem dX5_count_72 : decode cX5_count 72 = .ok (.getfield 7, 3) := by decide +kernel
theorem dX5_count_75 : decode cX5_count 75 = .ok (.bipush 23, 2) := by decide +kernel
theorem dX5_count_77 : decode cX5_count 77 = .ok (.iaload, 1) := by decide +kernel
theorem dX5_count_78 : decode cX5_count 78 = .ok (.invokestatic 128, 3) := by decide +kernel
theorem dX5_count_81 : decode cX5_count 81 = .ok (.ireturn, 1) := by decide +kernel
theorem dX5_count_82 : decode cX5_count 82 = .ok (.aload_n 0, 1) := by decide +kernel
theorem dX5_count_83 : decode cX5_count 83 = .ok (.getfield 106, 3) := by decide +kernel
theorem dX5_count_86 : decode cX5_count 86 = .ok (.ireturn, 1) := by decide +kernel
theorem dX5_count_87 : decode cX5_count 87 = .ok (.aload_n 0, 1) := by decide +kernel
theorem dX5_count_88 : decode cX5_count 88 = .ok (.getfield 52, 3) := by decide +kernel
theorem dX5_count_91 : decode cX5_count 91 = .ok (.ireturn, 1) := by decide +kernel
theorem dX5_count_92 : decode cX5_count 92 = .ok (.iconst (-1), 1) := by decide +kernel
theorem dX5_count_93 : decode cX5_count 93 = .ok (.ireturn, 1) := by decide +kernel
end
section
theorem dJ6_bitCount_0f7a4_0 : decode cJ6_bitCount_0f7a4 0 = .ok (.iload_n 0, 1) := by decide +kernel
theorem dJ6_bitCount_0f7a4_1 : decode cJ6_bitCount_0f7a4 1 = .ok (.iload_n 0, 1) := by decide +kernel
theorem dJ6_bitCount_0f7a4_2 : decode cJ6_bitCount_0f7a4 2 = .ok (.iconst 1, 1) := by decide +kernel
theorem dJ6_bitCount_0f7a4_3 : decode cJ6_bitCount_0f7a4 3 = .ok (.iushr, 1) := by decide +kernel
theorem dJ6_bitCount_0f7a4_4 : decode cJ6_bitCount_0f7a4 4 = .ok (.ldc_w 265, 3) := by decide +kernel
theorem dJ6_bitCount_0f7a4_7 : decode cJ6_bitCount_0f7a4 7 = .ok (.iand, 1) := by decide +kernel
theorem dJ6_bitCount_0f7a4_8 : decode cJ6_bitCount_0f7a4 8 = .ok (.isub, 1) := by decide +kernel
theorem dJ6_bitCount_0f7a4_9 : decode cJ6_bitCount_0f7a4 9 = .ok (.istore_n 0, 1) := by decide +kernel
theorem dJ6_bitCount_0f7a4_10 : decode cJ6_bitCount_0f7a4 10 = .ok (.iload_n 0, 1) := by decide +kernel
theorem dJ6_bitCount_0f7a4_11 : decode cJ6_bitCount_0f7a4 11 = .ok (.ldc_w 266, 3) := by decide +kernel
theorem dJ6_bitCount_0f7a4_14 : decode cJ6_bitCount_0f7a4 14 = .ok (.iand, 1) := by decide +kernel
theorem dJ6_bitCount_0f7a4_15 : decode cJ6_bitCount_0f7a4 15 = .ok (.iload_n 0, 1) := by decide +kernel
theorem dJ6_bitCount_0f7a4_16 : decode cJ6_bitCount_0f7a4 16 = .ok (.iconst 2, 1) := by decide +kernel
theorem dJ6_bitCount_0f7a4_17 : decode cJ6_bitCount_0f7a4 17 = .ok (.iushr, 1) := by decide +kernel
theorem dJ6_bitCount_0f7a4_18 : decode cJ6_bitCount_0f7a4 18 = .ok (.ldc_w 266, 3) := by decide +kernel
theorem dJ6_bitCount_0f7a4_21 : decode cJ6_bitCount_0f7a4 21 = .ok (.iand, 1) := by decide +kernel
theorem dJ6_bitCount_0f7a4_22 : decode cJ6_bitCount_0f7a4 22 = .ok (.iadd, 1) := by decide +kernel
theorem dJ6_bitCount_0f7a4_23 : decode cJ6_bitCount_0f7a4 23 = .ok (.istore_n 0, 1) := by decide +kernel
theorem dJ6_bitCount_0f7a4_24 : decode cJ6_bitCount_0f7a4 24 = .ok (.iload_n 0, 1) := by decide +kernel
theorem dJ6_bitCount_0f7a4_25 : decode cJ6_bitCount_0f7a4 25 = .ok (.iload_n 0, 1) := by decide +kernel
theorem dJ6_bitCount_0f7a4_26 : decode cJ6_bitCount_0f7a4 26 = .ok (.iconst 4, 1) := by decide +kernel
theorem dJ6_bitCount_0f7a4_27 : decode cJ6_bitCount_0f7a4 27 = .ok (.iushr, 1) := by decide +kernel
theorem dJ6_bitCount_0f7a4_28 : decode cJ6_bitCount_0f7a4 28 = .ok (.iadd, 1) := by decide +kernel
theorem dJ6_bitCount_0f7a4_29 : decode cJ6_bitCount_0f7a4 29 = .ok (.ldc_w 267, 3) := by decide +kernel
theorem dJ6_bitCount_0f7a4_32 : decode cJ6_bitCount_0f7a4 32 = .ok (.iand, 1) := by decide +kernel
theorem dJ6_bitCount_0f7a4_33 : decode cJ6_bitCount_0f7a4 33 = .ok (.istore_n 0, 1) := by decide +kernel
theorem dJ6_bitCount_0f7a4_34 : decode cJ6_bitCount_0f7a4 34 = .ok (.iload_n 0, 1) := by decide +kernel
theorem dJ6_bitCount_0f7a4_35 : decode cJ6_bitCount_0f7a4 35 = .ok (.iload_n 0, 1) := by decide +kernel
theorem dJ6_bitCount_0f7a4_36 : decode cJ6_bitCount_0f7a4 36 = .ok (.bipush 8, 2) := by decide +kernel
theorem dJ6_bitCount_0f7a4_38 : decode cJ6_bitCount_0f7a4 38 = .ok (.iushr, 1) := by decide +kernel
theorem dJ6_bitCount_0f7a4_39 : decode cJ6_bitCount_0f7a4 39 = .ok (.iadd, 1) := by decide +kernel
theorem dJ6_bitCount_0f7a4_40 : decode cJ6_bitCount_0f7a4 40 = .ok (.istore_n 0, 1) := by decide +kernel
theorem dJ6_bitCount_0f7a4_41 : decode cJ6_bitCount_0f7a4 41 = .ok (.iload_n 0, 1) := by decide +kernel
theorem dJ6_bitCount_0f7a4_42 : decode cJ6_bitCount_0f7a4 42 = .ok (.iload_n 0, 1) := by decide +kernel
theorem dJ6_bitCount_0f7a4_43 : decode cJ6_bitCount_0f7a4 43 = .ok (.bipush 16, 2) := by decide +kernel
theorem dJ6_bitCount_0f7a4_45 : decode cJ6_bitCount_0f7a4 45 = .ok (.iushr, 1) := by decide +kernel
theorem dJ6_bitCount_0f7a4_46 : decode cJ6_bitCount_0f7a4 46 = .ok (.iadd, 1) := by decide +kernel
theorem dJ6_bitCount_0f7a4_47 : decode cJ6_bitCount_0f7a4 47 = .ok (.istore_n 0, 1) := by decide +kernel
theorem dJ6_bitCount_0f7a4_48 : decode cJ6_bitCount_0f7a4 48 = .ok (.iload_n 0, 1) := by decide +kernel
theorem dJ6_bitCount_0f7a4_49 : decode cJ6_bitCount_0f7a4 49 = .ok (.bipush 63, 2) := by decide +kernel
theorem dJ6_bitCount_0f7a4_51 : decode cJ6_bitCount_0f7a4 51 = .ok (.iand, 1) := by decide +kernel
theorem dJ6_bitCount_0f7a4_52 : decode cJ6_bitCount_0f7a4 52 = .ok (.ireturn, 1) := by decide +kernel
theorem dJ9_max_f86c9_0 : decode cJ9_max_f86c9 0 = .ok (.lload_n 0, 1) := by decide +kernel
theorem dJ9_max_f86c9_1 : decode cJ9_max_f86c9 1 = .ok (.lload_n 2, 1) := by decide +kernel
theorem dJ9_max_f86c9_2 : decode cJ9_max_f86c9 2 = .ok (.lcmp, 1) := by decide +kernel
theorem dJ9_max_f86c9_3 : decode cJ9_max_f86c9 3 = .ok (.ifCond .lt 7, 3) := by decide +kernel
theorem dJ9_max_f86c9_6 : decode cJ9_max_f86c9 6 = .ok (.lload_n 0, 1) := by decide +kernel
theorem dJ9_max_f86c9_7 : decode cJ9_max_f86c9 7 = .ok (.goto 4, 3) := by decide +kernel
theorem dJ9_max_f86c9_10 : decode cJ9_max_f86c9 10 = .ok (.lload_n 2, 1) := by decide +kernel
theorem dJ9_max_f86c9_11 : decode cJ9_max_f86c9 11 = .ok (.lreturn, 1) := by decide +kernel
theorem dJ9_min_7cf53_0 : decode cJ9_min_7cf53 0 = .ok (.iload_n 0, 1) := by decide +kernel
theorem dJ9_min_7cf53_1 : decode cJ9_min_7cf53 1 = .ok (.iload_n 1, 1) := by decide +kernel
theorem dJ9_min_7cf53_2 : decode cJ9_min_7cf53 2 = .ok (.if_icmp .gt 7, 3) := by decide +kernel
theorem dJ9_min_7cf53_5 : decode cJ9_min_7cf53 5 = .ok (.iload_n 0, 1) := by decide +kernel
theorem dJ9_min_7cf53_6 : decode cJ9_min_7cf53 6 = .ok (.goto 4, 3) := by decide +kernel
theorem dJ9_min_7cf53_9 : decode cJ9_min_7cf53 9 = .ok (.iload_n 1, 1) := by decide +kernel
theorem dJ9_min_7cf53_10 : decode cJ9_min_7cf53 10 = .ok (.ireturn, 1) := by decide +kernel
set_option maxRecDepth 20000 in
theorem ggJ0_length_8abf5_J0_coder_7d493 : GoodIn wsJ0_length_8abf5 wsJ0_coder_7d493 := goodIn_r _ [6, 7, 8] (by decide +kernel) (by decide +kernel)
set_option maxRecDepth 20000 in
theorem gJ0_length_8abf5_J0_coder_7d493 : GoodIn wsJ0_length_8abf5 (wsV RJ0 335 RJ0 yJ0_coder_7d493 wsJ0_coder_7d493) := goodIn_app (goodIn_of _ (by decide +kernel)) ggJ0_length_8abf5_J0_coder_7d493
theorem dJ0_length_8abf5_0 : decode cJ0_length_8abf5 0 = .ok (.aload_n 0, 1) := by decide +kernel
theorem dJ0_length_8abf5_1 : decode cJ0_length_8abf5 1 = .ok (.getfield 9, 3) := by decide +kernel
theorem dJ0_length_8abf5_4 : decode cJ0_length_8abf5 4 = .ok (.arraylength, 1) := by decide +kernel
theorem dJ0_length_8abf5_5 : decode cJ0_length_8abf5 5 = .ok (.aload_n 0, 1) := by decide +kernel
theorem dJ0_length_8abf5_6 : decode cJ0_length_8abf5 6 = .ok (.invokevirtual 335, 3) := by decide +kernel
theorem dJ0_length_8abf5_9 : decode cJ0_length_8abf5 9 = .ok (.ishr, 1) := by decide +kernel
theorem dJ0_length_8abf5_10 : decode cJ0_length_8abf5 10 = .ok (.ireturn, 1) := by decide +kernel
set_option maxRecDepth 20000 in
theorem ggJ0_charAt_5068e_J0_isLatin1_aae02 : GoodIn wsJ0_charAt_5068e wsJ0_isLatin1_aae02 := goodIn_r _ [6, 7, 8] (by decide +kernel) (by decide +kernel)
set_option maxRecDepth 20000 in
theorem gJ0_charAt_5068e_J0_isLatin1_aae02 : GoodIn wsJ0_charAt_5068e (wsV RJ0 492 RJ0 yJ0_isLatin1_aae02 wsJ0_isLatin1_aae02) := goodIn_app (goodIn_of _ (by decide +kernel)) ggJ0_charAt_5068e_J0_isLatin1_aae02
set_option maxRecDepth 20000 in
theorem ggJ0_charAt_5068e_J1_charAt_3b067 : GoodIn wsJ0_charAt_5068e wsJ1_charAt_3b067 := goodIn_r _ [12, 13, 14, 5, 15, 16, 17, 18, 19, 20] (by decide +kernel) (by decide +kernel)
set_option maxRecDepth 20000 in
theorem gJ0_charAt_5068e_J1_charAt_3b067 : GoodIn wsJ0_charAt_5068e (va_wsS RJ0 495 yJ1_charAt_3b067 wsJ1_charAt_3b067) := goodIn_app (goodIn_of _ (by decide +kernel)) ggJ0_charAt_5068e_J1_charAt_3b067
set_option maxRecDepth 20000 in
theorem ggJ0_charAt_5068e_J2_charAt_3b067 : GoodIn wsJ0_charAt_5068e wsJ2_charAt_3b067 := goodIn_r _ [24, 25, 26, 23, 27, 28, 29, 30, 31, 14, 5, 15, 16, 17, 18, 19, 20, 32, 33, 34, 35, 36, 37] (by decide +kernel) (by decide +kernel)
set_option maxRecDepth 20000 in
theorem gJ0_charAt_5068e_J2_charAt_3b067 : GoodIn wsJ0_charAt_5068e (va_wsS RJ0 498 yJ2_charAt_3b067 wsJ2_charAt_3b067) := goodIn_app (goodIn_of _ (by decide +kernel)) ggJ0_charAt_5068e_J2_charAt_3b067
theorem dJ0_charAt_5068e_0 : decode cJ0_charAt_5068e 0 = .ok (.aload_n 0, 1) := by decide +kernel
theorem dJ0_charAt_5068e_1 : decode cJ0_charAt_5068e 1 = .ok (.invokevirtual 492, 3) := by decide +kernel
theorem dJ0_charAt_5068e_4 : decode cJ0_charAt_5068e 4 = .ok (.ifCond .eq 12, 3) := by decide +kernel
theorem dJ0_charAt_5068e_7 : decode cJ0_charAt_5068e 7 = .ok (.aload_n 0, 1) := by decide +kernel
theorem dJ0_charAt_5068e_8 : decode cJ0_charAt_5068e 8 = .ok (.getfield 9, 3) := by decide +kernel
theorem dJ0_charAt_5068e_11 : decode cJ0_charAt_5068e 11 = .ok (.iload_n 1, 1) := by decide +kernel
theorem dJ0_charAt_5068e_12 : decode cJ0_charAt_5068e 12 = .ok (.invokestatic 495, 3) := by decide +kernel
theorem dJ0_charAt_5068e_15 : decode cJ0_charAt_5068e 15 = .ok (.ireturn, 1) := by decide +kernel
theorem dJ0_charAt_5068e_16 : decode cJ0_charAt_5068e 16 = .ok (.aload_n 0, 1) := by decide +kernel
theorem dJ0_charAt_5068e_17 : decode cJ0_charAt_5068e 17 = .ok (.getfield 9, 3) := by decide +kernel
theorem dJ0_charAt_5068e_20 : decode cJ0_charAt_5068e 20 = .ok (.iload_n 1, 1) := by decide +kernel
theorem dJ0_charAt_5068e_21 : decode cJ0_charAt_5068e 21 = .ok (.invokestatic 498, 3) := by decide +kernel
theorem dJ0_charAt_5068e_24 : decode cJ0_charAt_5068e 24 = .ok (.ireturn, 1) := by decide +kernel
theorem dJ0_coder_7d493_0 : decode cJ0_coder_7d493 0 = .ok (.getstatic 38, 3) := by decide +kernel
theorem dJ0_coder_7d493_3 : decode cJ0_coder_7d493 3 = .ok (.ifCond .eq 10, 3) := by decide +kernel
theorem dJ0_coder_7d493_6 : decode cJ0_coder_7d493 6 = .ok (.aload_n 0, 1) := by decide +kernel
theorem dJ0_coder_7d493_7 : decode cJ0_coder_7d493 7 = .ok (.getfield 15, 3) := by decide +kernel
theorem dJ0_coder_7d493_10 : decode cJ0_coder_7d493 10 = .ok (.goto 4, 3) := by decide +kernel
theorem dJ0_coder_7d493_13 : decode cJ0_coder_7d493 13 = .ok (.iconst 1, 1) := by decide +kernel
theorem dJ0_coder_7d493_14 : decode cJ0_coder_7d493 14 = .ok (.ireturn, 1) := by decide +kernel
theorem dJ0_isLatin1_aae02_0 : decode cJ0_isLatin1_aae02 0 = .ok (.getstatic 38, 3) := by decide +kernel
theorem dJ0_isLatin1_aae02_3 : decode cJ0_isLatin1_aae02 3 = .ok (.ifCond .eq 14, 3) := by decide +kernel
theorem dJ0_isLatin1_aae02_6 : decode cJ0_isLatin1_aae02 6 = .ok (.aload_n 0, 1) := by decide +kernel
theorem dJ0_isLatin1_aae02_7 : decode cJ0_isLatin1_aae02 7 = .ok (.getfield 15, 3) := by decide +kernel
theorem dJ0_isLatin1_aae02_10 : decode cJ0_isLatin1_aae02 10 = .ok (.ifCond .ne 7, 3) := by decide +kernel
theorem dJ0_isLatin1_aae02_13 : decode cJ0_isLatin1_aae02 13 = .ok (.iconst 1, 1) := by decide +kernel
theorem dJ0_isLatin1_aae02_14 : decode cJ0_isLatin1_aae02 14 = .ok (.goto 4, 3) := by decide +kernel
theorem dJ0_isLatin1_aae02_17 : decode cJ0_isLatin1_aae02 17 = .ok (.iconst 0, 1) := by decide +kernel
theorem dJ0_isLatin1_aae02_18 : decode cJ0_isLatin1_aae02 18 = .ok (.ireturn, 1) := by decide +kernel
set_option maxRecDepth 20000 in
theorem ggJ0_checkIndex_df160_J3_checkIndex_8e157 : GoodIn wsJ0_checkIndex_df160 wsJ3_checkIndex_8e157 := goodIn_r _ [5] (by decide +kernel) (by decide +kernel)
set_option maxRecDepth 20000 in
theorem gJ0_checkIndex_df160_J3_checkIndex_8e157 : GoodIn wsJ0_checkIndex_df160 (va_wsS RJ0 1059 yJ3_checkIndex_8e157 wsJ3_checkIndex_8e157) := goodIn_app (goodIn_of _ (by decide +kernel)) ggJ0_checkIndex_df160_J3_checkIndex_8e157
theorem dJ0_checkIndex_df160_0 : decode cJ0_checkIndex_df160 0 = .ok (.iload_n 0, 1) := by decide +kernel
theorem dJ0_checkIndex_df160_1 : decode cJ0_checkIndex_df160 1 = .ok (.iload_n 1, 1) := by decide +kernel
theorem dJ0_checkIndex_df160_2 : decode cJ0_checkIndex_df160 2 = .ok (.getstatic 1053, 3) := by decide +kernel
theorem dJ0_checkIndex_df160_5 : decode cJ0_checkIndex_df160 5 = .ok (.invokestatic 1059, 3) := by decide +kernel
theorem dJ0_checkIndex_df160_8 : decode cJ0_checkIndex_df160 8 = .ok (.pop, 1) := by decide +kernel
theorem dJ0_checkIndex_df160_9 : decode cJ0_checkIndex_df160 9 = .ok (.return_, 1) := by decide +kernel
set_option maxRecDepth 20000 in
theorem ggJ1_charAt_3b067_J0_checkIndex_df160 : GoodIn wsJ1_charAt_3b067 wsJ0_checkIndex_df160 := goodIn_r _ [4, 5, 6, 7, 8, 9] (by decide +kernel) (by decide +kernel)
set_option maxRecDepth 20000 in
theorem gJ1_charAt_3b067_J0_checkIndex_df160 : GoodIn wsJ1_charAt_3b067 (va_wsS RJ1 9 yJ0_checkIndex_df160 wsJ0_checkIndex_df160) := goodIn_app (goodIn_of _ (by decide +kernel)) ggJ1_charAt_3b067_J0_checkIndex_df160
theorem dJ1_charAt_3b067_0 : decode cJ1_charAt_3b067 0 = .ok (.iload_n 1, 1) := by decide +kernel
theorem dJ1_charAt_3b067_1 : decode cJ1_charAt_3b067 1 = .ok (.aload_n 0, 1) := by decide +kernel
theorem dJ1_charAt_3b067_2 : decode cJ1_charAt_3b067 2 = .ok (.arraylength, 1) := by decide +kernel
theorem dJ1_charAt_3b067_3 : decode cJ1_charAt_3b067 3 = .ok (.invokestatic 9, 3) := by decide +kernel
theorem dJ1_charAt_3b067_6 : decode cJ1_charAt_3b067 6 = .ok (.aload_n 0, 1) := by decide +kernel
theorem dJ1_charAt_3b067_7 : decode cJ1_charAt_3b067 7 = .ok (.iload_n 1, 1) := by decide +kernel
theorem dJ1_charAt_3b067_8 : decode cJ1_charAt_3b067 8 = .ok (.baload, 1) := by decide +kernel
theorem dJ1_charAt_3b067_9 : decode cJ1_charAt_3b067 9 = .ok (.sipush 255, 3) := by decide +kernel
theorem dJ1_charAt_3b067_12 : decode cJ1_charAt_3b067 12 = .ok (.iand, 1) := by decide +kernel
theorem dJ1_charAt_3b067_13 : decode cJ1_charAt_3b067 13 = .ok (.i2c, 1) := by decide +kernel
theorem dJ1_charAt_3b067_14 : decode cJ1_charAt_3b067 14 = .ok (.ireturn, 1) := by decide +kernel
set_option maxRecDepth 20000 in
theorem ggJ2_getChar_3b067_J2_length_9d52b : GoodIn wsJ2_getChar_3b067 wsJ2_length_9d52b := goodIn_r _ [7] (by decide +kernel) (by decide +kernel)
set_option maxRecDepth 20000 in
theorem gJ2_getChar_3b067_J2_length_9d52b : GoodIn wsJ2_getChar_3b067 (va_wsS RJ2 48 yJ2_length_9d52b wsJ2_length_9d52b) := goodIn_app (goodIn_of _ (by decide +kernel)) ggJ2_getChar_3b067_J2_length_9d52b
theorem dJ2_getChar_3b067_0 : decode cJ2_getChar_3b067 0 = .ok (.getstatic 44, 3) := by decide +kernel
theorem dJ2_getChar_3b067_3 : decode cJ2_getChar_3b067 3 = .ok (.ifCond .ne 25, 3) := by decide +kernel
theorem dJ2_getChar_3b067_6 : decode cJ2_getChar_3b067 6 = .ok (.iload_n 1, 1) := by decide +kernel
theorem dJ2_getChar_3b067_7 : decode cJ2_getChar_3b067 7 = .ok (.ifCond .lt 11, 3) := by decide +kernel
theorem dJ2_getChar_3b067_10 : decode cJ2_getChar_3b067 10 = .ok (.iload_n 1, 1) := by decide +kernel
theorem dJ2_getChar_3b067_11 : decode cJ2_getChar_3b067 11 = .ok (.aload_n 0, 1) := by decide +kernel
theorem dJ2_getChar_3b067_12 : decode cJ2_getChar_3b067 12 = .ok (.invokestatic 48, 3) := by decide +kernel
theorem dJ2_getChar_3b067_15 : decode cJ2_getChar_3b067 15 = .ok (.if_icmp .lt 13, 3) := by decide +kernel
theorem dJ2_getChar_3b067_18 : decode cJ2_getChar_3b067 18 = .ok (.new 52, 3) := by decide +kernel
theorem dJ2_getChar_3b067_21 : decode cJ2_getChar_3b067 21 = .ok (.dup, 1) := by decide +kernel
theorem dJ2_getChar_3b067_22 : decode cJ2_getChar_3b067 22 = .ok (.ldc 54, 2) := by decide +kernel
theorem dJ2_getChar_3b067_24 : decode cJ2_getChar_3b067 24 = .ok (.invokespecial 56, 3) := by decide +kernel
theorem dJ2_getChar_3b067_27 : decode cJ2_getChar_3b067 27 = .ok (.athrow, 1) := by decide +kernel
theorem dJ2_getChar_3b067_28 : decode cJ2_getChar_3b067 28 = .ok (.iload_n 1, 1) := by decide +kernel
theorem dJ2_getChar_3b067_29 : decode cJ2_getChar_3b067 29 = .ok (.iconst 1, 1) := by decide +kernel
theorem dJ2_getChar_3b067_30 : decode cJ2_getChar_3b067 30 = .ok (.ishl, 1) := by decide +kernel
theorem dJ2_getChar_3b067_31 : decode cJ2_getChar_3b067 31 = .ok (.istore_n 1, 1) := by decide +kernel
theorem dJ2_getChar_3b067_32 : decode cJ2_getChar_3b067 32 = .ok (.aload_n 0, 1) := by decide +kernel
theorem dJ2_getChar_3b067_33 : decode cJ2_getChar_3b067 33 = .ok (.iload_n 1, 1) := by decide +kernel
theorem dJ2_getChar_3b067_34 : decode cJ2_getChar_3b067 34 = .ok (.iinc 1 1, 3) := by decide +kernel
theorem dJ2_getChar_3b067_37 : decode cJ2_getChar_3b067 37 = .ok (.baload, 1) := by decide +kernel
theorem dJ2_getChar_3b067_38 : decode cJ2_getChar_3b067 38 = .ok (.sipush 255, 3) := by decide +kernel
theorem dJ2_getChar_3b067_41 : decode cJ2_getChar_3b067 41 = .ok (.iand, 1) := by decide +kernel
theorem dJ2_getChar_3b067_42 : decode cJ2_getChar_3b067 42 = .ok (.getstatic 59, 3) := by decide +kernel
theorem dJ2_getChar_3b067_45 : decode cJ2_getChar_3b067 45 = .ok (.ishl, 1) := by decide +kernel
theorem dJ2_getChar_3b067_46 : decode cJ2_getChar_3b067 46 = .ok (.aload_n 0, 1) := by decide +kernel
theorem dJ2_getChar_3b067_47 : decode cJ2_getChar_3b067 47 = .ok (.iload_n 1, 1) := by decide +kernel
theorem dJ2_getChar_3b067_48 : decode cJ2_getChar_3b067 48 = .ok (.baload, 1) := by decide +kernel
theorem dJ2_getChar_3b067_49 : decode cJ2_getChar_3b067 49 = .ok (.sipush 255, 3) := by decide +kernel
theorem dJ2_getChar_3b067_52 : decode cJ2_getChar_3b067 52 = .ok (.iand, 1) := by decide +kernel
theorem dJ2_getChar_3b067_53 : decode cJ2_getChar_3b067 53 = .ok (.getstatic 63, 3) := by decide +kernel
theorem dJ2_getChar_3b067_56 : decode cJ2_getChar_3b067 56 = .ok (.ishl, 1) := by decide +kernel
theorem dJ2_getChar_3b067_57 : decode cJ2_getChar_3b067 57 = .ok (.ior, 1) := by decide +kernel
theorem dJ2_getChar_3b067_58 : decode cJ2_getChar_3b067 58 = .ok (.i2c, 1) := by decide +kernel
theorem dJ2_getChar_3b067_59 : decode cJ2_getChar_3b067 59 = .ok (.ireturn, 1) := by decide +kernel
theorem dJ2_length_9d52b_0 : decode cJ2_length_9d52b 0 = .ok (.aload_n 0, 1) := by decide +kernel
theorem dJ2_length_9d52b_1 : decode cJ2_length_9d52b 1 = .ok (.arraylength, 1) := by decide +kernel
theorem dJ2_length_9d52b_2 : decode cJ2_length_9d52b 2 = .ok (.iconst 1, 1) := by decide +kernel
theorem dJ2_length_9d52b_3 : decode cJ2_length_9d52b 3 = .ok (.ishr, 1) := by decide +kernel
theorem dJ2_length_9d52b_4 : decode cJ2_length_9d52b 4 = .ok (.ireturn, 1) := by decide +kernel
set_option maxRecDepth 20000 in
theorem ggJ2_charAt_3b067_J2_checkIndex_2214a : GoodIn wsJ2_charAt_3b067 wsJ2_checkIndex_2214a := goodIn_r _ [4, 5, 6, 3, 7, 8, 9, 10, 11, 12, 13, 14, 15, 16] (by decide +kernel) (by decide +kernel)
set_option maxRecDepth 20000 in
theorem gJ2_charAt_3b067_J2_checkIndex_2214a : GoodIn wsJ2_charAt_3b067 (va_wsS RJ2 67 yJ2_checkIndex_2214a wsJ2_checkIndex_2214a) := goodIn_app (goodIn_of _ (by decide +kernel)) ggJ2_charAt_3b067_J2_checkIndex_2214a
set_option maxRecDepth 20000 in
theorem ggJ2_charAt_3b067_J2_getChar_3b067 : GoodIn wsJ2_charAt_3b067 wsJ2_getChar_3b067 := goodIn_r _ [19, 20, 21, 22, 5, 6, 3, 7] (by decide +kernel) (by decide +kernel)
set_option maxRecDepth 20000 in
theorem gJ2_charAt_3b067_J2_getChar_3b067 : GoodIn wsJ2_charAt_3b067 (va_wsS RJ2 71 yJ2_getChar_3b067 wsJ2_getChar_3b067) := goodIn_app (goodIn_of _ (by decide +kernel)) ggJ2_charAt_3b067_J2_getChar_3b067
theorem dJ2_charAt_3b067_0 : decode cJ2_charAt_3b067 0 = .ok (.iload_n 1, 1) := by decide +kernel
theorem dJ2_charAt_3b067_1 : decode cJ2_charAt_3b067 1 = .ok (.aload_n 0, 1) := by decide +kernel
theorem dJ2_charAt_3b067_2 : decode cJ2_charAt_3b067 2 = .ok (.invokestatic 67, 3) := by decide +kernel
theorem dJ2_charAt_3b067_5 : decode cJ2_charAt_3b067 5 = .ok (.aload_n 0, 1) := by decide +kernel
theorem dJ2_charAt_3b067_6 : decode cJ2_charAt_3b067 6 = .ok (.iload_n 1, 1) := by decide +kernel
theorem dJ2_charAt_3b067_7 : decode cJ2_charAt_3b067 7 = .ok (.invokestatic 71, 3) := by decide +kernel
theorem dJ2_charAt_3b067_10 : decode cJ2_charAt_3b067 10 = .ok (.ireturn, 1) := by decide +kernel
set_option maxRecDepth 20000 in
theorem ggJ2_checkIndex_2214a_J2_length_9d52b : GoodIn wsJ2_checkIndex_2214a wsJ2_length_9d52b := goodIn_r _ [4] (by decide +kernel) (by decide +kernel)
set_option maxRecDepth 20000 in
theorem gJ2_checkIndex_2214a_J2_length_9d52b : GoodIn wsJ2_checkIndex_2214a (va_wsS RJ2 48 yJ2_length_9d52b wsJ2_length_9d52b) := goodIn_app (goodIn_of _ (by decide +kernel)) ggJ2_checkIndex_2214a_J2_length_9d52b
set_option maxRecDepth 20000 in
theorem ggJ2_checkIndex_2214a_J0_checkIndex_df160 : GoodIn wsJ2_checkIndex_2214a wsJ0_checkIndex_df160 := goodIn_r _ [8, 9, 10, 11, 12, 13] (by decide +kernel) (by decide +kernel)
set_option maxRecDepth 20000 in
theorem gJ2_checkIndex_2214a_J0_checkIndex_df160 : GoodIn wsJ2_checkIndex_2214a (va_wsS RJ2 414 yJ0_checkIndex_df160 wsJ0_checkIndex_df160) := goodIn_app (goodIn_of _ (by decide +kernel)) ggJ2_checkIndex_2214a_J0_checkIndex_df160
theorem dJ2_checkIndex_2214a_0 : decode cJ2_checkIndex_2214a 0 = .ok (.iload_n 0, 1) := by decide +kernel
theorem dJ2_checkIndex_2214a_1 : decode cJ2_checkIndex_2214a 1 = .ok (.aload_n 1, 1) := by decide +kernel
theorem dJ2_checkIndex_2214a_2 : decode cJ2_checkIndex_2214a 2 = .ok (.invokestatic 48, 3) := by decide +kernel
theorem dJ2_checkIndex_2214a_5 : decode cJ2_checkIndex_2214a 5 = .ok (.invokestatic 414, 3) := by decide +kernel
theorem dJ2_checkIndex_2214a_8 : decode cJ2_checkIndex_2214a 8 = .ok (.return_, 1) := by decide +kernel
theorem dJ3_checkIndex_8e157_0 : decode cJ3_checkIndex_8e157 0 = .ok (.iload_n 0, 1) := by decide +kernel
theorem dJ3_checkIndex_8e157_1 : decode cJ3_checkIndex_8e157 1 = .ok (.ifCond .lt 8, 3) := by decide +kernel
theorem dJ3_checkIndex_8e157_4 : decode cJ3_checkIndex_8e157 4 = .ok (.iload_n 0, 1) := by decide +kernel
theorem dJ3_checkIndex_8e157_5 : decode cJ3_checkIndex_8e157 5 = .ok (.iload_n 1, 1) := by decide +kernel
theorem dJ3_checkIndex_8e157_6 : decode cJ3_checkIndex_8e157 6 = .ok (.if_icmp .lt 10, 3) := by decide +kernel
theorem dJ3_checkIndex_8e157_9 : decode cJ3_checkIndex_8e157 9 = .ok (.aload_n 2, 1) := by decide +kernel
theorem dJ3_checkIndex_8e157_10 : decode cJ3_checkIndex_8e157 10 = .ok (.iload_n 0, 1) := by decide +kernel
theorem dJ3_checkIndex_8e157_11 : decode cJ3_checkIndex_8e157 11 = .ok (.iload_n 1, 1) := by decide +kernel
theorem dJ3_checkIndex_8e157_12 : decode cJ3_checkIndex_8e157 12 = .ok (.invokestatic 95, 3) := by decide +kernel
theorem dJ3_checkIndex_8e157_15 : decode cJ3_checkIndex_8e157 15 = .ok (.athrow, 1) := by decide +kernel
theorem dJ3_checkIndex_8e157_16 : decode cJ3_checkIndex_8e157 16 = .ok (.iload_n 0, 1) := by decide +kernel
theorem dJ3_checkIndex_8e157_17 : decode cJ3_checkIndex_8e157 17 = .ok (.ireturn, 1) := by decide +kernel
end
section
def nwF : List (String × Nat × String × String × String) := [(RX4, 63, RX3, "length", "I"), (RX1, 59, RX0, "candidates", "I"), (RX4, 66, RX0, "candidates", "I"), (RX3, 32, RX0, "candidates", "I"), (RX1, 84, RX0, "ballots", "I"), (RX4, 82, RX0, "ballots", "I"), (RX3, 56, RX0, "ballots", "I"), (RX1, 35, RX0, "seats", "I"), (RX3, 67, RX0, "seats", "I"), (RX4, 105, RX0, "seats", "I"), (RX1, 69, RX0, "withdrawn", "I"), (RX4, 114, RX0, "withdrawn", "I"), (RX1, 90, RX0, "voters", "[I"), (RX4, 98, RX0, "voters", "[I"), (RX1, 87, RX0, "sets", "[I"), (RX4, 102, RX0, "sets", "[I"), (RX1, 66, RX0, "rank", "[I"), (RX3, 74, RX0, "rank", "[I"), (RX4, 130, RX2, "size", "I"), (RX4, 152, RX1, "order", "[I"), (RX4, 166, RX1, "above", "[J"), (RX4, 160, RX1, "below", "[J"), (RX4, 149, RX1, "elected", "I"), (RX4, 173, RX1, "loads", "[J"), (RX4, 176, RX1, "unit", "J")]
def nwM : List (String × Nat × MethodName) := [(RX4, 11, yX3_init), (RX4, 18, yX0_init), (RX4, 28, yX2_init), (RX2, 17, yX0_init), (RX4, 35, yX1_init), (RX4, 52, yX3_add), (RX4, 56, yX3_readInto), (RX3, 19, yX0_beginWith), (RX3, 52, yX4_isVoters), (RX3, 59, yX0_allVoters), (RX3, 63, yX0_addBallot), (RX3, 70, yX4_hasBit), (RX4, 60, yX3_clear), (RX4, 69, yX0_copyFrom), (RX4, 73, yX2_forget), (RX4, 85, yX0_allVoters), (RX4, 88, yX2_keep), (RX2, 25, yX0_copyFrom), (RX4, 91, yX0_addBallot), (RX4, 111, yX0_isWithdrawn), (RX0, 64, yX4_hasBit), (RX4, 123, yX0_placeOf), (RX4, 126, yX0_bringToFront), (RX4, 133, yX2_bringBack), (RX4, 136, yX0_supportOf), (RX4, 142, yX1_hold), (RX1, 62, yX0_supportOf), (RX1, 72, yX4_hasBit), (RX4, 186, yX0_votersWhoAgree), (RX4, 189, yX0_isOwed), (RX4, 192, yX0_approvedByThoseWhoAgree), (RX4, 195, yX0_isShort), (RX4, 202, yX0_turnRankRound)]
/-! my kit: the nest words, the world as one predicate, calls and ends over it -/
def NW (U : State) : Prop := (∀ q ∈ nwF, va_Nw (.fieldLinkNest q.1 q.2.1 q.2.2.1 q.2.2.2.1 q.2.2.2.2 "LoadCouncil") U) ∧ (∀ q ∈ nwM, va_Nw (.methodLinkNest q.1 q.2.1 q.2.2 "LoadCouncil") U)
theorem NW.warm {s U : State} (hW : s.WarmedH U.vm) (h : NW s) : NW U := ⟨fun q hq => va_Nw.warmF hW (h.1 q hq), fun q hq => va_Nw.warmM hW (h.2 q hq)⟩
abbrev tyL (cI cJ cO : ClassId) : List (ClassId × FieldType) := [(cI, .int), (cJ, .long), (cO, .object "LoadCouncil$Council")]
/-- the world: cells, apart, and what has changed since H0 -/
def Wd (D : va_G) (A : Nat → Prop) (H0 : Heap) (ws : va_W) (H : Heap) (locs : List Loc) : Prop := va_P D vwCl ws H ∧ va_D A ws ∧ va_S A H0 H locs
abbrev PcW (D : va_G) (cI cJ cO : ClassId) (av : List Value) (w : va_W) (sz : Nat) : Array Value → State → Prop := va_Pc av (fun U => U.heap.size = sz ∧ NW U ∧ va_K D vwCl (tyL cI cJ cO) U ∧ va_P D vwCl w U.heap ∧ va_D (fun _ => True) w)
abbrev QwI (D : va_G) (w' : va_W) (r : Int32) (A : Nat → Prop) : Array Value → State → Outcome → State → Prop := va_Qi (fun (x : Int32) (_ : Unit) => x = r) (fun _ t => va_P D vwCl w' t.heap ∧ va_D A w') A
abbrev QwL (D : va_G) (w' : va_W) (r : Int64) (A : Nat → Prop) : Array Value → State → Outcome → State → Prop := va_Ql (fun (x : Int64) (_ : Unit) => x = r) (fun _ t => va_P D vwCl w' t.heap ∧ va_D A w') A
abbrev QwV (D : va_G) (w' : va_W) (A : Nat → Prop) : Array Value → State → Outcome → State → Prop := va_Qv (fun (_ : Unit) => True) (fun _ t => va_P D vwCl w' t.heap ∧ va_D A w') A
abbrev CtI (l : Launch) (y : MethodName) (wc : List Cond) (rm : Room) (D : va_G) (cI cJ cO : ClassId) (av : List Value) (w w' : va_W) (r : Int32) : Prop := ∀ sz : Nat, Met l y wc rm (PcW D cI cJ cO av w sz) (QwI D w' r (va_A w sz)) 0 0 (va_A w sz)
abbrev CtL (l : Launch) (y : MethodName) (wc : List Cond) (rm : Room) (D : va_G) (cI cJ cO : ClassId) (av : List Value) (w w' : va_W) (r : Int64) : Prop := ∀ sz : Nat, Met l y wc rm (PcW D cI cJ cO av w sz) (QwL D w' r (va_A w sz)) 0 0 (va_A w sz)
abbrev CtV (l : Launch) (y : MethodName) (wc : List Cond) (rm : Room) (D : va_G) (cI cJ cO : ClassId) (av : List Value) (w w' : va_W) : Prop := ∀ sz : Nat, Met l y wc rm (PcW D cI cJ cO av w sz) (QwV D w' (va_A w sz)) 0 0 (va_A w sz)
abbrev zk_rm (f L : Nat) : Room := { frames := f, cells := 0, slots := 0, locals := L }
theorem pcw_blind {D : va_G} {cI cJ cO : ClassId} {av : List Value} {w : va_W} {sz : Nat} : FrameBlind (PcW D cI cJ cO av w sz) := fun a U g mk q => by
  obtain ⟨q0, q1, qN, qK, qP, qD⟩ := q
  exact ⟨q0, q1, ⟨fun z hz => va_Nw.same rfl rfl (qN.1 z hz), fun z hz => va_Nw.same rfl rfl (qN.2 z hz)⟩, va_K.moved (u := U) (U := U.calling g mk a) (Vm.Alike.refl U.vm) qK, qP, qD⟩
theorem P_map {D : va_G} {cl : List vw_C} {ws wc : va_W} {H : Heap} (h : va_P D cl ws H) (is : List Nat) (hs : is.map (fun i => ws[i]?) = wc.map some) : va_P D cl wc H := by
  intro k q hq
  have h1 : (is.map (fun i => ws[i]?))[k]? = some (some q) := by rw [hs, List.getElem?_map, hq]; rfl
  rw [List.getElem?_map] at h1
  cases hi : is[k]? with
  | none => rw [hi] at h1; cases h1
  | some i => rw [hi] at h1; exact h i q (Option.some.inj h1)
theorem zk_none {α : Type} {u : α} {P : Prop} (h : (none : Option α) = some u) : P := by cases h
theorem zk_ck {α : Type} {c : Prop} [Decidable c] {E : Option α} {r : α} (h : (if c then none else E) = some r) : ¬ c ∧ E = some r := by
  by_cases hc : c
  · rw [if_pos hc] at h; cases h
  · rw [if_neg hc] at h; exact ⟨hc, h⟩
theorem zk_t {α : Type} {c : Prop} [Decidable c] {E F : Option α} {r : α} (hc : c) (h : (if c then E else F) = some r) : E = some r := by rwa [if_pos hc] at h
theorem zk_f {α : Type} {c : Prop} [Decidable c] {E F : Option α} {r : α} (hc : ¬ c) (h : (if c then E else F) = some r) : F = some r := by rwa [if_neg hc] at h
theorem zk_bd {α β : Type} {f : Option α} {g : α → Option β} {r : β} (h : f.bind g = some r) : ∃ u, f = some u ∧ g u = some r := by
  cases f with
  | none => cases h
  | some u => exact ⟨u, rfl, h⟩
theorem zk_nb {v : Int32} (h : ¬ ¬ (v = 0 ∨ v = 1)) : narrow .boolean (.int v) = .int v := by
  rcases Decidable.not_not.mp h with rfl | rfl <;> rfl
theorem zk_in {i : Int32} {n : Nat} (h : ¬ (i < 0 ∨ n ≤ i.toNatClampNeg)) : vp_in i n := h
section ZKA
variable {p : Program} {l : Launch} {e : Env} {R : Room} {s : State} {m : MethodId} {args : Array Value} {below : List Frame} {meth : Method} {c : Code} {H : Heap} {locs : List Loc} {cells slots : Nat} {Q : State → Prop}
variable {cc : ByteArray} {pc : Nat} {ls : Array Slot} {rest st0 : List Value} {D : va_G} {A : Nat → Prop} {a : Nat} {cI cJ cO : ClassId} {ws wc wr w1 : va_W} {H0 : Heap} {As : List Value} {b : Nat} {av : Array Value}
theorem zk_preS (hN : NW s) (hK : va_K D vwCl (tyL cI cJ cO) s) (hw : Wd D A H0 ws H locs) (isC : List Nat) (hC : isC.map (fun i => ws[i]?) = wc.map some) (hnd : va_nd isC = true) : PreS s H (PcW D cI cJ cO As wc H.size) As :=
  ⟨pcw_blind, fun U hU hW => ⟨rfl, by rw [hU], hN.warm hW, va_K.moved hW.alike hK, by rw [hU]; exact P_map hw.1 isC hC, (hw.2.1.sub isC hnd hC).weaken (fun _ _ _ _ => trivial)⟩⟩
theorem zk_preV (hN : NW s) (hK : va_K D vwCl (tyL cI cJ cO) s) (hw : Wd D A H0 ws H locs) (isC : List Nat) (hC : isC.map (fun i => ws[i]?) = wc.map some) (hnd : va_nd isC = true) (q0 ci : Nat) {q : vw_C} {fs : List Value} (hc : vwCl[ci]? = some q) (he : ws[q0]? = some (b, .inr (ci, fs))) : PreV s H q.1 b (PcW D cI cJ cO (.ref b :: As) wc H.size) As :=
  ⟨pcw_blind, va_recv hK hw.1 hc he, fun U hU hW => ⟨rfl, by rw [hU], hN.warm hW, va_K.moved hW.alike hK, by rw [hU]; exact P_map hw.1 isC hC, (hw.2.1.sub isC hnd hC).weaken (fun _ _ _ _ => trivial)⟩⟩
theorem zk_calli {r : Int32} (hw : Wd D A H0 ws H locs) (hA : ∀ q, H0.size ≤ q → A q) (isC isR : List Nat) (hC : isC.map (fun i => ws[i]?) = wc.map some) (hR : isR.map (fun i => ws[i]?) = wr.map some) (hn : va_nd isR = true) (hdis : ∀ i ∈ isR, i ∉ isC)
    (hr : va_Run p l e R s m args below meth c H locs cells slots 0 0 (F0 m pc ls st0) rest (QwI D w1 r (va_A wc H.size) av) (va_A wc H.size))
    (kk : ∀ (H1 : Heap) (locs1 : List Loc), Wd D A H0 (wr ++ w1) H1 locs1 → W p l e R s m args below meth c H1 locs1 cells slots Q (F0 m (pc + 3) ls (.int r :: rest))) : W p l e R s m args below meth c H locs cells slots Q (F0 m pc ls st0) := by
  have hFc := va_free (wc := wc) hw.2.1 hw.2.2 hA isC hC
  refine va_calli hr hw.2.2 (fun q _ h => hFc q h) hFc (fun x u t H1 locs1 ht hvm hx hB hz1 hk1 hS => ?_)
  have hx : x = r := hx
  subst hx
  have hB : va_P D vwCl w1 t.heap ∧ va_D (va_A wc H.size) w1 := hB
  rw [ht] at hB
  obtain ⟨hP, hD⟩ := va_join hw.1 hw.2.1 isC isR hC hR hn hdis hk1 hFc hB.1 hB.2
  exact kk H1 locs1 ⟨hP, hD, hS⟩
theorem zk_calll {r : Int64} (hw : Wd D A H0 ws H locs) (hA : ∀ q, H0.size ≤ q → A q) (isC isR : List Nat) (hC : isC.map (fun i => ws[i]?) = wc.map some) (hR : isR.map (fun i => ws[i]?) = wr.map some) (hn : va_nd isR = true) (hdis : ∀ i ∈ isR, i ∉ isC)
    (hr : va_Run p l e R s m args below meth c H locs cells slots 0 0 (F0 m pc ls st0) rest (QwL D w1 r (va_A wc H.size) av) (va_A wc H.size))
    (kk : ∀ (H1 : Heap) (locs1 : List Loc), Wd D A H0 (wr ++ w1) H1 locs1 → W p l e R s m args below meth c H1 locs1 cells slots Q (F0 m (pc + 3) ls (.long r :: rest))) : W p l e R s m args below meth c H locs cells slots Q (F0 m pc ls st0) := by
  have hFc := va_free (wc := wc) hw.2.1 hw.2.2 hA isC hC
  refine va_calll hr hw.2.2 (fun q _ h => hFc q h) hFc (fun x u t H1 locs1 ht hvm hx hB hz1 hk1 hS => ?_)
  have hx : x = r := hx
  subst hx
  have hB : va_P D vwCl w1 t.heap ∧ va_D (va_A wc H.size) w1 := hB
  rw [ht] at hB
  obtain ⟨hP, hD⟩ := va_join hw.1 hw.2.1 isC isR hC hR hn hdis hk1 hFc hB.1 hB.2
  exact kk H1 locs1 ⟨hP, hD, hS⟩
theorem zk_callv (hw : Wd D A H0 ws H locs) (hA : ∀ q, H0.size ≤ q → A q) (isC isR : List Nat) (hC : isC.map (fun i => ws[i]?) = wc.map some) (hR : isR.map (fun i => ws[i]?) = wr.map some) (hn : va_nd isR = true) (hdis : ∀ i ∈ isR, i ∉ isC)
    (hr : va_Run p l e R s m args below meth c H locs cells slots 0 0 (F0 m pc ls st0) rest (QwV D w1 (va_A wc H.size) av) (va_A wc H.size))
    (kk : ∀ (H1 : Heap) (locs1 : List Loc), Wd D A H0 (wr ++ w1) H1 locs1 → W p l e R s m args below meth c H1 locs1 cells slots Q (F0 m (pc + 3) ls rest)) : W p l e R s m args below meth c H locs cells slots Q (F0 m pc ls st0) := by
  have hFc := va_free (wc := wc) hw.2.1 hw.2.2 hA isC hC
  refine va_callv hr hw.2.2 (fun q _ h => hFc q h) hFc (fun u t H1 locs1 ht hvm hx hB hz1 hk1 hS => ?_)
  have hB : va_P D vwCl w1 t.heap ∧ va_D (va_A wc H.size) w1 := hB
  rw [ht] at hB
  obtain ⟨hP, hD⟩ := va_join hw.1 hw.2.1 isC isR hC hR hn hdis hk1 hFc hB.1 hB.2
  exact kk H1 locs1 ⟨hP, hD, hS⟩
/-- ends -/
theorem zk_iret {w' : va_W} {v : Int32} {ty : FieldType} (hx : p.tables.exec = Jvm.exec) (hb : c.code = cc) (hr : meth.sig.returnType = some ty) (hlocks : meth.locks = false) (hn : narrow ty (.int v) = .int v) (hQ : Q = MQ below (QwI D w' v A) args s cells slots A) (hw : Wd D A s.heap ws H locs) (is : List Nat) (hs : is.map (fun i => ws[i]?) = w'.map some) (hnd : va_nd is = true) (hd : decode cc pc = .ok (.ireturn, 1)) : W p l e R s m args below meth c H locs cells slots Q (F0 m pc ls [.int v]) := by
  rw [hQ]
  exact W.zret hx hb hr hn (fun t ht hW => ⟨⟨v, (), rfl, rfl, by rw [ht]; exact P_map hw.1 is hs, hw.2.1.sub is hnd hs⟩, hw.2.2.F ht⟩) hw.2.2.2.2 hd hlocks
theorem zk_lret {w' : va_W} {v : Int64} (hx : p.tables.exec = Jvm.exec) (hb : c.code = cc) (hr : meth.sig.returnType = some .long) (hlocks : meth.locks = false) (hQ : Q = MQ below (QwL D w' v A) args s cells slots A) (hw : Wd D A s.heap ws H locs) (is : List Nat) (hs : is.map (fun i => ws[i]?) = w'.map some) (hnd : va_nd is = true) (hd : decode cc pc = .ok (.lreturn, 1)) : W p l e R s m args below meth c H locs cells slots Q (F0 m pc ls [.long v]) := by
  rw [hQ]
  exact W.lret hx hb hr (fun t ht hW => ⟨⟨v, (), rfl, rfl, by rw [ht]; exact P_map hw.1 is hs, hw.2.1.sub is hnd hs⟩, hw.2.2.F ht⟩) hw.2.2.2.2 hd hlocks
theorem zk_vret {w' : va_W} (hx : p.tables.exec = Jvm.exec) (hb : c.code = cc) (hr : meth.sig.returnType = none) (hlocks : meth.locks = false) (hQ : Q = MQ below (QwV D w' A) args s cells slots A) (hw : Wd D A s.heap ws H locs) (is : List Nat) (hs : is.map (fun i => ws[i]?) = w'.map some) (hnd : va_nd is = true) (hd : decode cc pc = .ok (.return_, 1)) : W p l e R s m args below meth c H locs cells slots Q (F0 m pc ls []) := by
  rw [hQ]
  exact W.vret hx hb hr (fun t ht hW => ⟨⟨(), rfl, trivial, by rw [ht]; exact P_map hw.1 is hs, hw.2.1.sub is hnd hs⟩, hw.2.2.F ht⟩) hw.2.2.2.2 hd hlocks
/-- arrays -/
theorem zk_iald (hx : p.tables.exec = Jvm.exec) (hb : c.code = cc) (hK : va_K D vwCl (tyL cI cJ cO) s) (hw : Wd D A H0 ws H locs) (q0 : Nat) {n : Nat} {f : Nat → Int32} (ha : ws[q0]? = some (a, .inl (cI, n, .inl f))) {i : Int32} (hin : vp_in i n) {j : Nat} (hj : i.toNatClampNeg = j) (hdg : decode cc pc = .ok (.iaload, 1))
    (kk : W p l e R s m args below meth c H locs cells slots Q (F0 m (pc + 1) ls (.int (f j) :: rest))) : W p l e R s m args below meth c H locs cells slots Q (F0 m pc ls (.int i :: .ref a :: rest)) := by
  subst hj
  exact va_iald hx hb hK hw.1 q0 0 ha rfl hin hdg kk
theorem zk_lald (hx : p.tables.exec = Jvm.exec) (hb : c.code = cc) (hK : va_K D vwCl (tyL cI cJ cO) s) (hw : Wd D A H0 ws H locs) (q0 : Nat) {n : Nat} {f : Nat → Int64} (ha : ws[q0]? = some (a, .inl (cJ, n, .inr (.inl f)))) {i : Int32} (hin : vp_in i n) {j : Nat} (hj : i.toNatClampNeg = j) (hdg : decode cc pc = .ok (.laload, 1))
    (kk : W p l e R s m args below meth c H locs cells slots Q (F0 m (pc + 1) ls (.long (f j) :: rest))) : W p l e R s m args below meth c H locs cells slots Q (F0 m pc ls (.int i :: .ref a :: rest)) := by
  subst hj
  exact va_lald hx hb hK hw.1 q0 1 ha rfl hin hdg kk
theorem zk_aald (hx : p.tables.exec = Jvm.exec) (hb : c.code = cc) (hK : va_K D vwCl (tyL cI cJ cO) s) (hw : Wd D A H0 ws H locs) (q0 : Nat) {n : Nat} {f : Nat → Option Nat} (ha : ws[q0]? = some (a, .inl (cO, n, .inr (.inr (.inr (.inr f)))))) {i : Int32} (hin : vp_in i n) {y : Nat} (hy : f i.toNatClampNeg = some y) (hdg : decode cc pc = .ok (.aaload, 1))
    (kk : W p l e R s m args below meth c H locs cells slots Q (F0 m (pc + 1) ls (.ref y :: rest))) : W p l e R s m args below meth c H locs cells slots Q (F0 m pc ls (.int i :: .ref a :: rest)) := by
  refine va_aldq hx hb hK hw.1 q0 2 ha rfl hin hdg ?_
  rw [hy]
  exact kk
theorem zk_iast (hx : p.tables.exec = Jvm.exec) (hb : c.code = cc) (hK : va_K D vwCl (tyL cI cJ cO) s) (hw : Wd D A H0 ws H locs) (q0 : Nat) {n : Nat} {f : Nat → Int32} (ha : ws[q0]? = some (a, .inl (cI, n, .inl f))) {i x : Int32} (hin : vp_in i n) {j : Nat} (hj : i.toNatClampNeg = j) (hdg : decode cc pc = .ok (.iastore, 1))
    (kk : ∀ (H1 : Heap) (locs1 : List Loc), Wd D A H0 (ws.set q0 (a, .inl (cI, n, .inl (upd f j x)))) H1 locs1 → W p l e R s m args below meth c H1 locs1 cells slots Q (F0 m (pc + 1) ls rest)) : W p l e R s m args below meth c H locs cells slots Q (F0 m pc ls (.int x :: .int i :: .ref a :: rest)) := by
  subst hj
  exact va_iast hx hb hK hw.1 hw.2.1 hw.2.2 q0 0 ha rfl hin hdg (fun H1 locs1 hP hD hS => kk H1 locs1 ⟨hP, hD, hS⟩)
theorem zk_last (hx : p.tables.exec = Jvm.exec) (hb : c.code = cc) (hK : va_K D vwCl (tyL cI cJ cO) s) (hw : Wd D A H0 ws H locs) (q0 : Nat) {n : Nat} {f : Nat → Int64} (ha : ws[q0]? = some (a, .inl (cJ, n, .inr (.inl f)))) {i : Int32} {x : Int64} (hin : vp_in i n) {j : Nat} (hj : i.toNatClampNeg = j) (hdg : decode cc pc = .ok (.lastore, 1))
    (kk : ∀ (H1 : Heap) (locs1 : List Loc), Wd D A H0 (ws.set q0 (a, .inl (cJ, n, .inr (.inl (vp_updL f j x))))) H1 locs1 → W p l e R s m args below meth c H1 locs1 cells slots Q (F0 m (pc + 1) ls rest)) : W p l e R s m args below meth c H locs cells slots Q (F0 m pc ls (.long x :: .int i :: .ref a :: rest)) := by
  subst hj
  exact va_last hx hb hK hw.1 hw.2.1 hw.2.2 q0 1 ha rfl hin hdg (fun H1 locs1 hP hD hS => kk H1 locs1 ⟨hP, hD, hS⟩)
theorem zk_copy {own : String} {index : Nat} (hx : p.tables.exec = Jvm.exec) (hb : c.code = cc) (hml : c.maxLocals = ls.size) (hown : s.vm.findClass own = some m.cls) (hlink : (Cond.methodLink own index arraycopyName).before args s = true) (hnat : (Cond.native arraycopyName).before args s = true) (hstat : (Cond.static arraycopyName).before args s = true) (hini : (Cond.initialized "java/lang/System").before args s = true)
    (hK : va_K D vwCl (tyL cI cJ cO) s) (hw : Wd D A H0 ws H locs) (q0 q1 : Nat) {a0 : Nat} {n0 n1 : Nat} {f g : Nat → Int32} (ha0 : ws[q0]? = some (a0, .inl (cI, n0, .inl f))) (ha1 : ws[q1]? = some (a, .inl (cI, n1, .inl g))) {n : Int32} {k : Nat} (h3 : ¬ n < 0) (hk : n.toNatClampNeg = k) (h4 : k ≤ n0) (h5 : k ≤ n1)
    (hframes : 1 ≤ R.frames) (hlocals : (rest.map fun v => v.category).sum + (nativeFrameWords "java/lang/System" "arraycopy" 5 + 11) ≤ R.locals) (hdg : decode cc pc = .ok (.invokestatic index, 3))
    (kk : ∀ (H1 : Heap) (locs1 : List Loc), Wd D A H0 (ws.set q1 (a, .inl (cI, n1, .inl (va_cpy f g 0 0 k)))) H1 locs1 → W p l e R s m args below meth c H1 locs1 cells slots Q (F0 m (pc + 3) ls rest)) : W p l e R s m args below meth c H locs cells slots Q (F0 m pc ls (.int n :: .int 0 :: .ref a :: .int 0 :: .ref a0 :: rest)) := by
  subst hk
  exact va_copyi hx hb hml hown hlink hnat hstat hini hK hw.1 hw.2.1 hw.2.2 q0 q1 0 0 (ty := .int) ha0 ha1 rfl rfl rfl (by decide) (by decide) h3 (by show 0 + _ ≤ _; omega) (by show 0 + _ ≤ _; omega) (fun i _ => rfl) hframes hlocals hdg (fun H1 locs1 hP hD hS => kk H1 locs1 ⟨hP, hD, hS⟩)
end ZKA
/-- what a method's body knows -/
def Cx (p : Program) (s : State) (m : MethodId) (meth : Method) (c : Code) (cc : ByteArray) (maxL : Nat) (ret : Option FieldType) (own : String) (wc : List Cond) (args : Array Value) (D : va_G) (cI cJ cO : ClassId) (A : Nat → Prop) : Prop :=
  p.tables.exec = Jvm.exec ∧ c.code = cc ∧ c.maxLocals = maxL ∧ meth.sig.returnType = ret ∧ (∀ w ∈ wc, w.before args s = true) ∧ s.vm.findClass own = some m.cls ∧ meth.locks = false ∧ NW s ∧ va_K D vwCl (tyL cI cJ cO) s ∧ (∀ q, s.heap.size ≤ q → A q)
theorem zk_enter {l : Launch} {y : MethodName} {wc wc' : List Cond} {rm : Room} {D : va_G} {cI cJ cO : ClassId} {av : List Value} {w : va_W} {cc : ByteArray} {maxL : Nat} {ret : Option FieldType} {own : String} {Qf : (Nat → Prop) → Array Value → State → Outcome → State → Prop} (hy : plainName y.cls = true) (hwc : wc = Cond.code y cc maxL ret :: wc') (ho : y.cls = own) (hlen : (lg_sl av).length ≤ maxL)
    (body : ∀ (p : Program) (e : Env) (s : State) (m : MethodId) (args : Array Value) (below : List Frame) (meth : Method) (c : Code) (A : Nat → Prop) (Q : State → Prop) (H : Heap) (locs : List Loc) (ls : Array Slot), Cx p s m meth c cc maxL ret own wc args D cI cJ cO A → Q = MQ below (Qf A) args s 0 0 A → Wd D A s.heap w H locs → lv_has ls maxL (lv_args 0 av) → W p l e rm s m args below meth c H locs 0 0 Q (F0 m 0 ls []))
    (sz : Nat) : Met l y wc rm (PcW D cI cJ cO av w sz) (Qf (va_A w sz)) 0 0 (va_A w sz) := by
  refine Met.ofW (cc := cc) (maxL := maxL) (ret := ret) hy hwc ?_
  intro p e s m args below meth c s₁ B hml hv
  obtain ⟨rfl, hsz, hN, hK, hP, hD0⟩ := hv
  subst hsz
  subst ho
  rw [lg_entry_eq]
  exact body p e s m _ below meth c _ _ _ _ _ ⟨B.exec, B.bytes, hml, B.returns, atoms_spec (ws := wc) B.pre, findClass_of_methodNamed B.named, B.notSynchronized, hN, hK, fun q h => Or.inr h⟩ rfl ⟨hP, hD0.self, va_S.rf⟩ (lv_entry av hlen)
theorem nwF_X4_63 {s : State} (h : NW s) : va_Nw (.fieldLinkNest RX4 63 RX3 "length" "I" "LoadCouncil") s := h.1 (RX4, 63, RX3, "length", "I") (List.mem_of_getElem? (i := 0) rfl)
theorem nwF_X1_59 {s : State} (h : NW s) : va_Nw (.fieldLinkNest RX1 59 RX0 "candidates" "I" "LoadCouncil") s := h.1 (RX1, 59, RX0, "candidates", "I") (List.mem_of_getElem? (i := 1) rfl)
theorem nwF_X4_66 {s : State} (h : NW s) : va_Nw (.fieldLinkNest RX4 66 RX0 "candidates" "I" "LoadCouncil") s := h.1 (RX4, 66, RX0, "candidates", "I") (List.mem_of_getElem? (i := 2) rfl)
theorem nwF_X3_32 {s : State} (h : NW s) : va_Nw (.fieldLinkNest RX3 32 RX0 "candidates" "I" "LoadCouncil") s := h.1 (RX3, 32, RX0, "candidates", "I") (List.mem_of_getElem? (i := 3) rfl)
theorem nwF_X1_84 {s : State} (h : NW s) : va_Nw (.fieldLinkNest RX1 84 RX0 "ballots" "I" "LoadCouncil") s := h.1 (RX1, 84, RX0, "ballots", "I") (List.mem_of_getElem? (i := 4) rfl)
theorem nwF_X4_82 {s : State} (h : NW s) : va_Nw (.fieldLinkNest RX4 82 RX0 "ballots" "I" "LoadCouncil") s := h.1 (RX4, 82, RX0, "ballots", "I") (List.mem_of_getElem? (i := 5) rfl)
theorem nwF_X3_56 {s : State} (h : NW s) : va_Nw (.fieldLinkNest RX3 56 RX0 "ballots" "I" "LoadCouncil") s := h.1 (RX3, 56, RX0, "ballots", "I") (List.mem_of_getElem? (i := 6) rfl)
theorem nwF_X1_35 {s : State} (h : NW s) : va_Nw (.fieldLinkNest RX1 35 RX0 "seats" "I" "LoadCouncil") s := h.1 (RX1, 35, RX0, "seats", "I") (List.mem_of_getElem? (i := 7) rfl)
theorem nwF_X3_67 {s : State} (h : NW s) : va_Nw (.fieldLinkNest RX3 67 RX0 "seats" "I" "LoadCouncil") s := h.1 (RX3, 67, RX0, "seats", "I") (List.mem_of_getElem? (i := 8) rfl)
theorem nwF_X4_105 {s : State} (h : NW s) : va_Nw (.fieldLinkNest RX4 105 RX0 "seats" "I" "LoadCouncil") s := h.1 (RX4, 105, RX0, "seats", "I") (List.mem_of_getElem? (i := 9) rfl)
theorem nwF_X1_69 {s : State} (h : NW s) : va_Nw (.fieldLinkNest RX1 69 RX0 "withdrawn" "I" "LoadCouncil") s := h.1 (RX1, 69, RX0, "withdrawn", "I") (List.mem_of_getElem? (i := 10) rfl)
theorem nwF_X4_114 {s : State} (h : NW s) : va_Nw (.fieldLinkNest RX4 114 RX0 "withdrawn" "I" "LoadCouncil") s := h.1 (RX4, 114, RX0, "withdrawn", "I") (List.mem_of_getElem? (i := 11) rfl)
theorem nwF_X1_90 {s : State} (h : NW s) : va_Nw (.fieldLinkNest RX1 90 RX0 "voters" "[I" "LoadCouncil") s := h.1 (RX1, 90, RX0, "voters", "[I") (List.mem_of_getElem? (i := 12) rfl)
theorem nwF_X4_98 {s : State} (h : NW s) : va_Nw (.fieldLinkNest RX4 98 RX0 "voters" "[I" "LoadCouncil") s := h.1 (RX4, 98, RX0, "voters", "[I") (List.mem_of_getElem? (i := 13) rfl)
theorem nwF_X1_87 {s : State} (h : NW s) : va_Nw (.fieldLinkNest RX1 87 RX0 "sets" "[I" "LoadCouncil") s := h.1 (RX1, 87, RX0, "sets", "[I") (List.mem_of_getElem? (i := 14) rfl)
theorem nwF_X4_102 {s : State} (h : NW s) : va_Nw (.fieldLinkNest RX4 102 RX0 "sets" "[I" "LoadCouncil") s := h.1 (RX4, 102, RX0, "sets", "[I") (List.mem_of_getElem? (i := 15) rfl)
theorem nwF_X1_66 {s : State} (h : NW s) : va_Nw (.fieldLinkNest RX1 66 RX0 "rank" "[I" "LoadCouncil") s := h.1 (RX1, 66, RX0, "rank", "[I") (List.mem_of_getElem? (i := 16) rfl)
theorem nwF_X3_74 {s : State} (h : NW s) : va_Nw (.fieldLinkNest RX3 74 RX0 "rank" "[I" "LoadCouncil") s := h.1 (RX3, 74, RX0, "rank", "[I") (List.mem_of_getElem? (i := 17) rfl)
theorem nwF_X4_130 {s : State} (h : NW s) : va_Nw (.fieldLinkNest RX4 130 RX2 "size" "I" "LoadCouncil") s := h.1 (RX4, 130, RX2, "size", "I") (List.mem_of_getElem? (i := 18) rfl)
theorem nwF_X4_152 {s : State} (h : NW s) : va_Nw (.fieldLinkNest RX4 152 RX1 "order" "[I" "LoadCouncil") s := h.1 (RX4, 152, RX1, "order", "[I") (List.mem_of_getElem? (i := 19) rfl)
theorem nwF_X4_166 {s : State} (h : NW s) : va_Nw (.fieldLinkNest RX4 166 RX1 "above" "[J" "LoadCouncil") s := h.1 (RX4, 166, RX1, "above", "[J") (List.mem_of_getElem? (i := 20) rfl)
theorem nwF_X4_160 {s : State} (h : NW s) : va_Nw (.fieldLinkNest RX4 160 RX1 "below" "[J" "LoadCouncil") s := h.1 (RX4, 160, RX1, "below", "[J") (List.mem_of_getElem? (i := 21) rfl)
theorem nwF_X4_149 {s : State} (h : NW s) : va_Nw (.fieldLinkNest RX4 149 RX1 "elected" "I" "LoadCouncil") s := h.1 (RX4, 149, RX1, "elected", "I") (List.mem_of_getElem? (i := 22) rfl)
theorem nwF_X4_173 {s : State} (h : NW s) : va_Nw (.fieldLinkNest RX4 173 RX1 "loads" "[J" "LoadCouncil") s := h.1 (RX4, 173, RX1, "loads", "[J") (List.mem_of_getElem? (i := 23) rfl)
theorem nwF_X4_176 {s : State} (h : NW s) : va_Nw (.fieldLinkNest RX4 176 RX1 "unit" "J" "LoadCouncil") s := h.1 (RX4, 176, RX1, "unit", "J") (List.mem_of_getElem? (i := 24) rfl)
theorem nwM_X4_11 {s : State} (h : NW s) : va_Nw (.methodLinkNest RX4 11 yX3_init "LoadCouncil") s := h.2 (RX4, 11, yX3_init) (List.mem_of_getElem? (i := 0) rfl)
theorem nwM_X4_18 {s : State} (h : NW s) : va_Nw (.methodLinkNest RX4 18 yX0_init "LoadCouncil") s := h.2 (RX4, 18, yX0_init) (List.mem_of_getElem? (i := 1) rfl)
theorem nwM_X4_28 {s : State} (h : NW s) : va_Nw (.methodLinkNest RX4 28 yX2_init "LoadCouncil") s := h.2 (RX4, 28, yX2_init) (List.mem_of_getElem? (i := 2) rfl)
theorem nwM_X2_17 {s : State} (h : NW s) : va_Nw (.methodLinkNest RX2 17 yX0_init "LoadCouncil") s := h.2 (RX2, 17, yX0_init) (List.mem_of_getElem? (i := 3) rfl)
theorem nwM_X4_35 {s : State} (h : NW s) : va_Nw (.methodLinkNest RX4 35 yX1_init "LoadCouncil") s := h.2 (RX4, 35, yX1_init) (List.mem_of_getElem? (i := 4) rfl)
theorem nwM_X4_52 {s : State} (h : NW s) : va_Nw (.methodLinkNest RX4 52 yX3_add "LoadCouncil") s := h.2 (RX4, 52, yX3_add) (List.mem_of_getElem? (i := 5) rfl)
theorem nwM_X4_56 {s : State} (h : NW s) : va_Nw (.methodLinkNest RX4 56 yX3_readInto "LoadCouncil") s := h.2 (RX4, 56, yX3_readInto) (List.mem_of_getElem? (i := 6) rfl)
theorem nwM_X3_19 {s : State} (h : NW s) : va_Nw (.methodLinkNest RX3 19 yX0_beginWith "LoadCouncil") s := h.2 (RX3, 19, yX0_beginWith) (List.mem_of_getElem? (i := 7) rfl)
theorem nwM_X3_52 {s : State} (h : NW s) : va_Nw (.methodLinkNest RX3 52 yX4_isVoters "LoadCouncil") s := h.2 (RX3, 52, yX4_isVoters) (List.mem_of_getElem? (i := 8) rfl)
theorem nwM_X3_59 {s : State} (h : NW s) : va_Nw (.methodLinkNest RX3 59 yX0_allVoters "LoadCouncil") s := h.2 (RX3, 59, yX0_allVoters) (List.mem_of_getElem? (i := 9) rfl)
theorem nwM_X3_63 {s : State} (h : NW s) : va_Nw (.methodLinkNest RX3 63 yX0_addBallot "LoadCouncil") s := h.2 (RX3, 63, yX0_addBallot) (List.mem_of_getElem? (i := 10) rfl)
theorem nwM_X3_70 {s : State} (h : NW s) : va_Nw (.methodLinkNest RX3 70 yX4_hasBit "LoadCouncil") s := h.2 (RX3, 70, yX4_hasBit) (List.mem_of_getElem? (i := 11) rfl)
theorem nwM_X4_60 {s : State} (h : NW s) : va_Nw (.methodLinkNest RX4 60 yX3_clear "LoadCouncil") s := h.2 (RX4, 60, yX3_clear) (List.mem_of_getElem? (i := 12) rfl)
theorem nwM_X4_69 {s : State} (h : NW s) : va_Nw (.methodLinkNest RX4 69 yX0_copyFrom "LoadCouncil") s := h.2 (RX4, 69, yX0_copyFrom) (List.mem_of_getElem? (i := 13) rfl)
theorem nwM_X4_73 {s : State} (h : NW s) : va_Nw (.methodLinkNest RX4 73 yX2_forget "LoadCouncil") s := h.2 (RX4, 73, yX2_forget) (List.mem_of_getElem? (i := 14) rfl)
theorem nwM_X4_85 {s : State} (h : NW s) : va_Nw (.methodLinkNest RX4 85 yX0_allVoters "LoadCouncil") s := h.2 (RX4, 85, yX0_allVoters) (List.mem_of_getElem? (i := 15) rfl)
theorem nwM_X4_88 {s : State} (h : NW s) : va_Nw (.methodLinkNest RX4 88 yX2_keep "LoadCouncil") s := h.2 (RX4, 88, yX2_keep) (List.mem_of_getElem? (i := 16) rfl)
theorem nwM_X2_25 {s : State} (h : NW s) : va_Nw (.methodLinkNest RX2 25 yX0_copyFrom "LoadCouncil") s := h.2 (RX2, 25, yX0_copyFrom) (List.mem_of_getElem? (i := 17) rfl)
theorem nwM_X4_91 {s : State} (h : NW s) : va_Nw (.methodLinkNest RX4 91 yX0_addBallot "LoadCouncil") s := h.2 (RX4, 91, yX0_addBallot) (List.mem_of_getElem? (i := 18) rfl)
theorem nwM_X4_111 {s : State} (h : NW s) : va_Nw (.methodLinkNest RX4 111 yX0_isWithdrawn "LoadCouncil") s := h.2 (RX4, 111, yX0_isWithdrawn) (List.mem_of_getElem? (i := 19) rfl)
theorem nwM_X0_64 {s : State} (h : NW s) : va_Nw (.methodLinkNest RX0 64 yX4_hasBit "LoadCouncil") s := h.2 (RX0, 64, yX4_hasBit) (List.mem_of_getElem? (i := 20) rfl)
theorem nwM_X4_123 {s : State} (h : NW s) : va_Nw (.methodLinkNest RX4 123 yX0_placeOf "LoadCouncil") s := h.2 (RX4, 123, yX0_placeOf) (List.mem_of_getElem? (i := 21) rfl)
theorem nwM_X4_126 {s : State} (h : NW s) : va_Nw (.methodLinkNest RX4 126 yX0_bringToFront "LoadCouncil") s := h.2 (RX4, 126, yX0_bringToFront) (List.mem_of_getElem? (i := 22) rfl)
theorem nwM_X4_133 {s : State} (h : NW s) : va_Nw (.methodLinkNest RX4 133 yX2_bringBack "LoadCouncil") s := h.2 (RX4, 133, yX2_bringBack) (List.mem_of_getElem? (i := 23) rfl)
theorem nwM_X4_136 {s : State} (h : NW s) : va_Nw (.methodLinkNest RX4 136 yX0_supportOf "LoadCouncil") s := h.2 (RX4, 136, yX0_supportOf) (List.mem_of_getElem? (i := 24) rfl)
theorem nwM_X4_142 {s : State} (h : NW s) : va_Nw (.methodLinkNest RX4 142 yX1_hold "LoadCouncil") s := h.2 (RX4, 142, yX1_hold) (List.mem_of_getElem? (i := 25) rfl)
theorem nwM_X1_62 {s : State} (h : NW s) : va_Nw (.methodLinkNest RX1 62 yX0_supportOf "LoadCouncil") s := h.2 (RX1, 62, yX0_supportOf) (List.mem_of_getElem? (i := 26) rfl)
theorem nwM_X1_72 {s : State} (h : NW s) : va_Nw (.methodLinkNest RX1 72 yX4_hasBit "LoadCouncil") s := h.2 (RX1, 72, yX4_hasBit) (List.mem_of_getElem? (i := 27) rfl)
theorem nwM_X4_186 {s : State} (h : NW s) : va_Nw (.methodLinkNest RX4 186 yX0_votersWhoAgree "LoadCouncil") s := h.2 (RX4, 186, yX0_votersWhoAgree) (List.mem_of_getElem? (i := 28) rfl)
theorem nwM_X4_189 {s : State} (h : NW s) : va_Nw (.methodLinkNest RX4 189 yX0_isOwed "LoadCouncil") s := h.2 (RX4, 189, yX0_isOwed) (List.mem_of_getElem? (i := 29) rfl)
theorem nwM_X4_192 {s : State} (h : NW s) : va_Nw (.methodLinkNest RX4 192 yX0_approvedByThoseWhoAgree "LoadCouncil") s := h.2 (RX4, 192, yX0_approvedByThoseWhoAgree) (List.mem_of_getElem? (i := 30) rfl)
theorem nwM_X4_195 {s : State} (h : NW s) : va_Nw (.methodLinkNest RX4 195 yX0_isShort "LoadCouncil") s := h.2 (RX4, 195, yX0_isShort) (List.mem_of_getElem? (i := 31) rfl)
theorem nwM_X4_202 {s : State} (h : NW s) : va_Nw (.methodLinkNest RX4 202 yX0_turnRankRound "LoadCouncil") s := h.2 (RX4, 202, yX0_turnRankRound) (List.mem_of_getElem? (i := 32) rfl)
abbrev zwC (cI : ClassId) (a : Nat → Nat) (vcandidates : Int32) (vballots : Int32) (vseats : Int32) (vwithdrawn : Int32) (vvoters : Nat → Int32) (vsets : Nat → Int32) (vrank : Nat → Int32) : va_W := [(a 0, .inr (0, [.int vcandidates, .int vballots, .int vseats, .int vwithdrawn, .ref (a 1), .ref (a 2), .ref (a 3)])), (a 1, .inl (cI, 11, .inl vvoters)), (a 2, .inl (cI, 11, .inl vsets)), (a 3, .inl (cI, 8, .inl vrank))]
abbrev zwE (cI cJ : ClassId) (a : Nat → Nat) (vorder : Nat → Int32) (vabove : Nat → Int64) (vbelow : Nat → Int64) (velected : Int32) (vset : Int32) (vsupport : Nat → Int32) (vworth : Nat → Int64) (vloads : Nat → Int64) (vunit : Int64) : va_W := [(a 0, .inr (1, [.ref (a 1), .ref (a 2), .ref (a 3), .int velected, .int vset, .ref (a 4), .ref (a 5), .ref (a 6), .long vunit])), (a 1, .inl (cI, 8, .inl vorder)), (a 2, .inl (cJ, 8, .inr (.inl vabove))), (a 3, .inl (cJ, 8, .inr (.inl vbelow))), (a 4, .inl (cI, 8, .inl vsupport)), (a 5, .inl (cJ, 8, .inr (.inl vworth))), (a 6, .inl (cJ, 11, .inr (.inl vloads)))]
abbrev zwP (cO : ClassId) (a : Nat → Nat) (vring : Nat → Option Nat) (vtop : Int32) (vsize : Int32) : va_W := [(a 0, .inr (2, [.ref (a 1), .int vtop, .int vsize])), (a 1, .inl (cO, 6, .inr (.inr (.inr (.inr vring)))))]
abbrev zwT (cI : ClassId) (a : Nat → Nat) (vletters : Nat → Int32) (vlength : Int32) : va_W := [(a 0, .inr (3, [.ref (a 1), .int vlength])), (a 1, .inl (cI, 200, .inl vletters))]
abbrev zwM (cI cJ : ClassId) (a : Nat → Nat) (vnow : Nat → Int32) (vread : Nat → Int32) (vpast : Nat → Int32) (vchanges : Int32) (vtext : Nat → Int32) (vletters : Int32) (vheads : Nat → Int32) (vsets : Nat → Int32) (vballots : Int32) (vranks : Nat → Int32) (vloads : Nat → Int64) (vbelow : Int64) (vorder : Nat → Int32) (velected : Int32) (vmembers : Int32) (vabove : Nat → Int64) (vunder : Nat → Int64) (vspot : Int32) (vvalue : Int32) : va_W := [(a 0, .inr (5, [.ref (a 1), .ref (a 2), .ref (a 3), .int vchanges, .ref (a 4), .int vletters, .ref (a 5), .ref (a 6), .int vballots, .ref (a 7), .ref (a 8), .long vbelow, .ref (a 9), .int velected, .int vmembers, .ref (a 10), .ref (a 11), .int vspot, .int vvalue])), (a 1, .inl (cI, 32, .inl vnow)), (a 2, .inl (cI, 32, .inl vread)), (a 3, .inl (cI, 192, .inl vpast)), (a 4, .inl (cI, 200, .inl vtext)), (a 5, .inl (cI, 11, .inl vheads)), (a 6, .inl (cI, 11, .inl vsets)), (a 7, .inl (cI, 8, .inl vranks)), (a 8, .inl (cJ, 11, .inr (.inl vloads))), (a 9, .inl (cI, 8, .inl vorder)), (a 10, .inl (cJ, 8, .inr (.inl vabove))), (a 11, .inl (cJ, 8, .inr (.inl vunder)))]
abbrev zwL (a : Nat → Nat) (xT xN xR xP xE : Nat) : va_W := [(a 0, .inr (4, [.ref xT, .ref xN, .ref xR, .ref xP, .ref xE]))]
end
section
def fX0_copyFrom (N : Nat) (Ccandidates : Int32) (Cballots : Int32) (Cseats : Int32) (Cwithdrawn : Int32) (Cvoters : Nat → Int32) (Csets : Nat → Int32) (Crank : Nat → Int32) (Dcandidates : Int32) (Dballots : Int32) (Dseats : Int32) (Dwithdrawn : Int32) (Dvoters : Nat → Int32) (Dsets : Nat → Int32) (Drank : Nat → Int32) : Option ((Int32) × (Int32) × (Int32) × (Int32) × (Nat → Int32) × (Nat → Int32) × (Nat → Int32)) :=
  some (Dcandidates, Dballots, Dseats, Dwithdrawn, (va_cpy Dvoters Cvoters 0 0 11), (va_cpy Dsets Csets 0 0 11), (va_cpy Drank Crank 0 0 8))
def fX0_addBallot (N : Nat) (p0 : Int32) (p1 : Int32) (Cballots : Int32) (Cvoters : Nat → Int32) (Csets : Nat → Int32) : Option ((Int32) × (Nat → Int32) × (Nat → Int32)) :=
  (if (11 : Int32) ≤ Cballots then
    some (Cballots, Cvoters, Csets)
  else
    if Cballots < 0 ∨ 11 ≤ Cballots.toNatClampNeg then none else
      some ((Cballots + (1 : Int32)), (upd Cvoters Cballots.toNatClampNeg p0), (upd Csets Cballots.toNatClampNeg p1)))
def fX0_agreesTo (N : Nat) (p0 : Int32) (p1 : Int32) (Csets : Nat → Int32) : Option (Int32) :=
  if p0 < 0 ∨ 11 ≤ p0.toNatClampNeg then none else
    (if ((Csets p0.toNatClampNeg) &&& p1) = p1 then
    some (1 : Int32)
  else
    some (0 : Int32))
def fX0_votersWhoAgree_b30 (N : Nat) (k4 : Int32 → Int32 → Int32 → Int32 → (Nat → Int32) → (Nat → Int32) → Option (Int32)) (x1 : Int32) (x2 : Int32) (x3 : Int32) (Cballots : Int32) (Cvoters : Nat → Int32) (Csets : Nat → Int32) : Option (Int32) :=
  k4 x1 x2 (x3 + (1 : Int32)) Cballots Cvoters Csets
def fX0_votersWhoAgree_b4 (N : Nat) : Nat → Int32 → Int32 → Int32 → Int32 → (Nat → Int32) → (Nat → Int32) → Option (Int32)
  | 0, _, _, _, _, _, _ => none
  | n + 1, x1, x2, x3, Cballots, Cvoters, Csets =>
    (if Cballots ≤ x3 then
      some x2
    else
      (fX0_agreesTo N x3 x1 Csets).bind fun u2 =>
        (if u2 = 0 then
        fX0_votersWhoAgree_b30 N (fun z0 z1 z2 z3 z4 z5 => fX0_votersWhoAgree_b4 N n z0 z1 z2 z3 z4 z5) x1 x2 x3 Cballots Cvoters Csets
      else
        if x3 < 0 ∨ 11 ≤ x3.toNatClampNeg then none else
          fX0_votersWhoAgree_b30 N (fun z0 z1 z2 z3 z4 z5 => fX0_votersWhoAgree_b4 N n z0 z1 z2 z3 z4 z5) x1 (x2 + (Cvoters x3.toNatClampNeg)) x3 Cballots Cvoters Csets))
def fX0_votersWhoAgree (N : Nat) (p0 : Int32) (Cballots : Int32) (Cvoters : Nat → Int32) (Csets : Nat → Int32) : Option (Int32) :=
  fX0_votersWhoAgree_b4 N N p0 (0 : Int32) (0 : Int32) Cballots Cvoters Csets
def fX0_allVoters (N : Nat) (Cballots : Int32) (Cvoters : Nat → Int32) (Csets : Nat → Int32) : Option (Int32) :=
  (fX0_votersWhoAgree N (0 : Int32) Cballots Cvoters Csets).bind fun u1 =>
    some u1
def fX4_hasBit (N : Nat) (p0 : Int32) (p1 : Int32) : Option (Int32) :=
  (if ((p0 >>> (p1 &&& 31)) &&& (1 : Int32)) = (1 : Int32) then
    some (1 : Int32)
  else
    some (0 : Int32))
def fX0_isWithdrawn (N : Nat) (p0 : Int32) (Cwithdrawn : Int32) : Option (Int32) :=
  (fX4_hasBit N Cwithdrawn p0).bind fun u1 =>
    if ¬ (u1 = 0 ∨ u1 = 1) then none else
    some u1
def fX2_keep (N : Nat) (Ptop : Int32) (Psize : Int32) (Ccandidates : Int32) (Cballots : Int32) (Cseats : Int32) (Cwithdrawn : Int32) (Cvoters : Nat → Int32) (Csets : Nat → Int32) (Crank : Nat → Int32) (Qcandidates : Int32) (Qballots : Int32) (Qseats : Int32) (Qwithdrawn : Int32) (Qvoters : Nat → Int32) (Qsets : Nat → Int32) (Qrank : Nat → Int32) : Option ((Int32) × (Int32) × (Int32) × (Int32) × (Int32) × (Int32) × (Nat → Int32) × (Nat → Int32) × (Nat → Int32)) :=
  if Ptop < 0 ∨ 6 ≤ Ptop.toNatClampNeg then none else
    (fX0_copyFrom N Qcandidates Qballots Qseats Qwithdrawn Qvoters Qsets Qrank Ccandidates Cballots Cseats Cwithdrawn Cvoters Csets Crank).bind fun u2 =>
    some (((Ptop + (1 : Int32)) - (Ptop + (1 : Int32)) / (6 : Int32) * (6 : Int32)), (if (6 : Int32) < (Psize + (1 : Int32)) then (6 : Int32) else (Psize + (1 : Int32))), u2.1, u2.2.1, u2.2.2.1, u2.2.2.2.1, u2.2.2.2.2.1, u2.2.2.2.2.2.1, u2.2.2.2.2.2.2)
def fX4_isVoters (N : Nat) (p0 : Int32) : Option (Int32) :=
  (if p0 < (1 : Int32) then
    some (0 : Int32)
  else
    (if (20 : Int32) < p0 then
      some (0 : Int32)
    else
      some (1 : Int32)))
def fX4_isSet (N : Nat) (p0 : Int32) (Ncandidates : Int32) : Option (Int32) :=
  (if p0 < (1 : Int32) then
    some (0 : Int32)
  else
    (if ((1 : Int32) <<< (Ncandidates &&& 31)) ≤ p0 then
      some (0 : Int32)
    else
      some (1 : Int32)))
def fX4_ballot (N : Nat) (p0 : Int32) (p1 : Int32) (Ptop : Int32) (Psize : Int32) (Ncandidates : Int32) (Nballots : Int32) (Nseats : Int32) (Nwithdrawn : Int32) (Nvoters : Nat → Int32) (Nsets : Nat → Int32) (Nrank : Nat → Int32) (Qcandidates : Int32) (Qballots : Int32) (Qseats : Int32) (Qwithdrawn : Int32) (Qvoters : Nat → Int32) (Qsets : Nat → Int32) (Qrank : Nat → Int32) : Option (Int32 × (Int32) × (Int32) × (Int32) × (Nat → Int32) × (Nat → Int32) × (Int32) × (Int32) × (Int32) × (Int32) × (Nat → Int32) × (Nat → Int32) × (Nat → Int32)) :=
  (fX4_isVoters N p0).bind fun u1 =>
    (if u1 = 0 then
    some ((-1 : Int32), Ptop, Psize, Nballots, Nvoters, Nsets, Qcandidates, Qballots, Qseats, Qwithdrawn, Qvoters, Qsets, Qrank)
  else
    (fX4_isSet N p1 Ncandidates).bind fun u4 =>
      (if u4 = 0 then
      some ((-1 : Int32), Ptop, Psize, Nballots, Nvoters, Nsets, Qcandidates, Qballots, Qseats, Qwithdrawn, Qvoters, Qsets, Qrank)
    else
      (if (10 : Int32) ≤ Nballots then
        some ((-3 : Int32), Ptop, Psize, Nballots, Nvoters, Nsets, Qcandidates, Qballots, Qseats, Qwithdrawn, Qvoters, Qsets, Qrank)
      else
        (fX0_allVoters N Nballots Nvoters Nsets).bind fun u8 =>
          (if (u8 + p0) ≤ (40 : Int32) then
          (fX2_keep N Ptop Psize Ncandidates Nballots Nseats Nwithdrawn Nvoters Nsets Nrank Qcandidates Qballots Qseats Qwithdrawn Qvoters Qsets Qrank).bind fun u11 =>
            (fX0_addBallot N p0 p1 Nballots Nvoters Nsets).bind fun u13 =>
            some ((u13.1 - (1 : Int32)), u11.1, u11.2.1, u13.1, u13.2.1, u13.2.2, u11.2.2.1, u11.2.2.2.1, u11.2.2.2.2.1, u11.2.2.2.2.2.1, u11.2.2.2.2.2.2.1, u11.2.2.2.2.2.2.2.1, u11.2.2.2.2.2.2.2.2)
        else
          some ((-3 : Int32), Ptop, Psize, Nballots, Nvoters, Nsets, Qcandidates, Qballots, Qseats, Qwithdrawn, Qvoters, Qsets, Qrank)))))
def fX5_in (N : Nat) (p0 : Int32) (p1 : Int32) (p2 : Int32) : Option (Int32) :=
  (if p0 < p1 then
    some (0 : Int32)
  else
    (if p2 < p0 then
      some (0 : Int32)
    else
      some (1 : Int32)))
def fX5_has (N : Nat) (p0 : Int32) (p1 : Int32) : Option (Int32) :=
  (if ((p0 >>> (p1 &&& 31)) &&& (1 : Int32)) = (1 : Int32) then
    some (1 : Int32)
  else
    some (0 : Int32))
def fX5_ones_b4 (N : Nat) : Nat → Int32 → Int32 → Int32 → Option (Int32)
  | 0, _, _, _ => none
  | n + 1, x0, x1, x2 =>
    (if (11 : Int32) ≤ x2 then
      some x1
    else
      fX5_ones_b4 N n x0 (x1 + ((x0 >>> (x2 &&& 31)) &&& (1 : Int32))) (x2 + (1 : Int32)))
def fX5_ones (N : Nat) (p0 : Int32) : Option (Int32) :=
  fX5_ones_b4 N N p0 (0 : Int32) (0 : Int32)
def fX5_adds (N : Nat) (p0 : Int32) (p1 : Int32) (Mnow : Nat → Int32) : Option ((Nat → Int32)) :=
  if ((2 : Int32) + (Mnow 1)) < 0 ∨ 32 ≤ ((2 : Int32) + (Mnow 1)).toNatClampNeg then none else
    if ((12 : Int32) + ((upd Mnow (((2 : Int32) + (Mnow 1)).toNatClampNeg) p0) 1)) < 0 ∨ 32 ≤ ((12 : Int32) + ((upd Mnow (((2 : Int32) + (Mnow 1)).toNatClampNeg) p0) 1)).toNatClampNeg then none else
    some (upd (upd (upd Mnow (((2 : Int32) + (Mnow 1)).toNatClampNeg) p0) (((12 : Int32) + ((upd Mnow (((2 : Int32) + (Mnow 1)).toNatClampNeg) p0) 1)).toNatClampNeg) p1) 1 (((upd (upd Mnow (((2 : Int32) + (Mnow 1)).toNatClampNeg) p0) (((12 : Int32) + ((upd Mnow (((2 : Int32) + (Mnow 1)).toNatClampNeg) p0) 1)).toNatClampNeg) p1) 1) + (1 : Int32)))
def fX5_isCandidate (N : Nat) (p0 : Int32) (Mnow : Nat → Int32) : Option (Int32) :=
  (fX5_in N p0 (0 : Int32) ((Mnow 0) - (1 : Int32))).bind fun u1 =>
    if ¬ (u1 = 0 ∨ u1 = 1) then none else
    some u1
def fX5_allVoters_b4 (N : Nat) : Nat → Int32 → Int32 → (Nat → Int32) → Option (Int32)
  | 0, _, _, _ => none
  | n + 1, x1, x2, Mnow =>
    (if (Mnow 1) ≤ x2 then
      some x1
    else
      if ((2 : Int32) + x2) < 0 ∨ 32 ≤ ((2 : Int32) + x2).toNatClampNeg then none else
        fX5_allVoters_b4 N n (x1 + (Mnow (((2 : Int32) + x2).toNatClampNeg))) (x2 + (1 : Int32)) Mnow)
def fX5_allVoters (N : Nat) (Mnow : Nat → Int32) : Option (Int32) :=
  fX5_allVoters_b4 N N (0 : Int32) (0 : Int32) Mnow
def fX5_write (N : Nat) (p0 : Int32) (Mtext : Nat → Int32) (Mletters : Int32) : Option (Int32 × (Nat → Int32) × (Int32)) :=
  (fX5_in N p0 (32 : Int32) (126 : Int32)).bind fun u1 =>
    (if u1 = 0 then
    some ((-1 : Int32), Mtext, Mletters)
  else
    (if Mletters = (200 : Int32) then
      some ((-3 : Int32), Mtext, Mletters)
    else
      if Mletters < 0 ∨ 200 ≤ Mletters.toNatClampNeg then none else
        some ((Mletters + (1 : Int32)), (upd Mtext Mletters.toNatClampNeg p0), (Mletters + (1 : Int32)))))
def fX5_supportOf_b36 (N : Nat) (k4 : Int32 → Int32 → Int32 → (Nat → Int32) → (Nat → Int32) → Int32 → Option (Int32)) (x1 : Int32) (x3 : Int32) (t0 : Int32) (t1 : Int32) (Mheads : Nat → Int32) (Msets : Nat → Int32) (Mballots : Int32) : Option (Int32) :=
  k4 x1 (t0 + t1) (x3 + (1 : Int32)) Mheads Msets Mballots
def fX5_supportOf_b4 (N : Nat) : Nat → Int32 → Int32 → Int32 → (Nat → Int32) → (Nat → Int32) → Int32 → Option (Int32)
  | 0, _, _, _, _, _, _ => none
  | n + 1, x1, x2, x3, Mheads, Msets, Mballots =>
    (if Mballots ≤ x3 then
      some x2
    else
      if x3 < 0 ∨ 11 ≤ x3.toNatClampNeg then none else
        (fX5_has N (Msets x3.toNatClampNeg) x1).bind fun u3 =>
        (if u3 = 0 then
        fX5_supportOf_b36 N (fun z0 z1 z2 z3 z4 z5 => fX5_supportOf_b4 N n z0 z1 z2 z3 z4 z5) x1 x3 x2 (0 : Int32) Mheads Msets Mballots
      else
        fX5_supportOf_b36 N (fun z0 z1 z2 z3 z4 z5 => fX5_supportOf_b4 N n z0 z1 z2 z3 z4 z5) x1 x3 x2 (Mheads x3.toNatClampNeg) Mheads Msets Mballots))
def fX5_supportOf (N : Nat) (p0 : Int32) (Mheads : Nat → Int32) (Msets : Nat → Int32) (Mballots : Int32) : Option (Int32) :=
  fX5_supportOf_b4 N N p0 (0 : Int32) (0 : Int32) Mheads Msets Mballots
end
section
set_option maxHeartbeats 4000000 in
set_option maxRecDepth 100000 in
theorem kX0_copyFrom (l : Launch) (D : va_G) (cI cJ cO : ClassId) (N : Nat) (aC aD : Nat → Nat) (Ccandidates : Int32) (Cballots : Int32) (Cseats : Int32) (Cwithdrawn : Int32) (Cvoters : Nat → Int32) (Csets : Nat → Int32) (Crank : Nat → Int32) (Dcandidates : Int32) (Dballots : Int32) (Dseats : Int32) (Dwithdrawn : Int32) (Dvoters : Nat → Int32) (Dsets : Nat → Int32) (Drank : Nat → Int32) (u : (Int32) × (Int32) × (Int32) × (Int32) × (Nat → Int32) × (Nat → Int32) × (Nat → Int32)) (hf : fX0_copyFrom N Ccandidates Cballots Cseats Cwithdrawn Cvoters Csets Crank Dcandidates Dballots Dseats Dwithdrawn Dvoters Dsets Drank = some u) : CtV l yX0_copyFrom wsX0_copyFrom (zk_rm 1 60) D cI cJ cO [.ref (aC 0), .ref (aD 0)] (zwC cI aC Ccandidates Cballots Cseats Cwithdrawn Cvoters Csets Crank ++ (zwC cI aD Dcandidates Dballots Dseats Dwithdrawn Dvoters Dsets Drank)) (zwC cI aC u.1 u.2.1 u.2.2.1 u.2.2.2.1 u.2.2.2.2.1 u.2.2.2.2.2.1 u.2.2.2.2.2.2 ++ (zwC cI aD Dcandidates Dballots Dseats Dwithdrawn Dvoters Dsets Drank)) := by
  refine zk_enter (cc := cX0_copyFrom) (maxL := 2) (ret := none) (own := RX0) (Qf := fun A => QwV D (zwC cI aC u.1 u.2.1 u.2.2.1 u.2.2.2.1 u.2.2.2.2.1 u.2.2.2.2.2.1 u.2.2.2.2.2.2 ++ (zwC cI aD Dcandidates Dballots Dseats Dwithdrawn Dvoters Dsets Drank)) A) (by decide) rfl rfl (Nat.le_of_ble_eq_true rfl) ?_
  intro p e s m args below meth c A Q H locs ls hC hQ hw hl
  obtain ⟨hx, hb, hml, hr, hts, hown, hlocks, hN, hK, hA⟩ := hC
  have hl : lv_has ls 2 [(0, .ref (aC 0)), (1, .ref (aD 0))] := hl
  have hiX0 : ∀ w ∈ u_ws RX0 TX0 7, w ∈ wsX0_copyFrom := by decide +kernel
  have hq0 := hts (.fieldLink RX0 21 "LoadCouncil$Council" "candidates" "I") (by decide +kernel)
  have hq1 := hts (.fieldLink RX0 25 "LoadCouncil$Council" "ballots" "I") (by decide +kernel)
  have hq2 := hts (.fieldLink RX0 28 "LoadCouncil$Council" "seats" "I") (by decide +kernel)
  have hq3 := hts (.fieldLink RX0 31 "LoadCouncil$Council" "withdrawn" "I") (by decide +kernel)
  have hq4 := hts (.fieldLink RX0 9 "LoadCouncil$Council" "voters" "[I") (by decide +kernel)
  have hq5 := hts (.methodLink RX0 34 arraycopyName) (by decide +kernel)
  have hq6 := hts (.native arraycopyName) (by decide +kernel)
  have hq7 := hts (.static arraycopyName) (by decide +kernel)
  have hq8 := hts (.initialized "java/lang/System") (by decide +kernel)
  have hq9 := hts (.fieldLink RX0 15 "LoadCouncil$Council" "sets" "[I") (by decide +kernel)
  have hq10 := hts (.fieldLink RX0 18 "LoadCouncil$Council" "rank" "[I") (by decide +kernel)
  unfold fX0_copyFrom at hf
  refine lv_aload_n hx hb dX0_copyFrom_0 rfl (lv_at hl 0 rfl) ?_
  refine lv_aload_n hx hb dX0_copyFrom_1 rfl (lv_at hl 1 rfl) ?_
  refine va_get (D := D) (ci := 0) (v := .int Dcandidates) (C := RX0) (T := TX0) (N := 7) hx hb hts hiX0 hown hK hw.1 4 rfl rfl 0 (by decide) hq0 (fun _ h9 => h9) rfl dX0_copyFrom_2 ?_
  refine va_put (D := D) (ci := 0) (v := .int Dcandidates) (C := RX0) (T := TX0) (N := 7) hx hb hts hiX0 tyX0 tyX0_ok nmX0 hown hK hw.1 hw.2.1 hw.2.2 0 rfl rfl 0 (by decide) hq0 (fun _ h9 => h9) rfl (tyX0_ok 0 (by decide)) rfl rfl (Nat.le_of_ble_eq_true rfl) dX0_copyFrom_5 (fun H locs hP hD hS => ?_)
  have hw : Wd D A s.heap (zwC cI aC Dcandidates Cballots Cseats Cwithdrawn Cvoters Csets Crank ++ (zwC cI aD Dcandidates Dballots Dseats Dwithdrawn Dvoters Dsets Drank)) H locs := ⟨hP, hD, hS⟩
  clear hP hD hS
  refine lv_aload_n hx hb dX0_copyFrom_8 rfl (lv_at hl 0 rfl) ?_
  refine lv_aload_n hx hb dX0_copyFrom_9 rfl (lv_at hl 1 rfl) ?_
  refine va_get (D := D) (ci := 0) (v := .int Dballots) (C := RX0) (T := TX0) (N := 7) hx hb hts hiX0 hown hK hw.1 4 rfl rfl 1 (by decide) hq1 (fun _ h9 => h9) rfl dX0_copyFrom_10 ?_
  refine va_put (D := D) (ci := 0) (v := .int Dballots) (C := RX0) (T := TX0) (N := 7) hx hb hts hiX0 tyX0 tyX0_ok nmX0 hown hK hw.1 hw.2.1 hw.2.2 0 rfl rfl 1 (by decide) hq1 (fun _ h9 => h9) rfl (tyX0_ok 1 (by decide)) rfl rfl (Nat.le_of_ble_eq_true rfl) dX0_copyFrom_13 (fun H locs hP hD hS => ?_)
  have hw : Wd D A s.heap (zwC cI aC Dcandidates Dballots Cseats Cwithdrawn Cvoters Csets Crank ++ (zwC cI aD Dcandidates Dballots Dseats Dwithdrawn Dvoters Dsets Drank)) H locs := ⟨hP, hD, hS⟩
  clear hP hD hS
  refine lv_aload_n hx hb dX0_copyFrom_16 rfl (lv_at hl 0 rfl) ?_
  refine lv_aload_n hx hb dX0_copyFrom_17 rfl (lv_at hl 1 rfl) ?_
  refine va_get (D := D) (ci := 0) (v := .int Dseats) (C := RX0) (T := TX0) (N := 7) hx hb hts hiX0 hown hK hw.1 4 rfl rfl 2 (by decide) hq2 (fun _ h9 => h9) rfl dX0_copyFrom_18 ?_
  refine va_put (D := D) (ci := 0) (v := .int Dseats) (C := RX0) (T := TX0) (N := 7) hx hb hts hiX0 tyX0 tyX0_ok nmX0 hown hK hw.1 hw.2.1 hw.2.2 0 rfl rfl 2 (by decide) hq2 (fun _ h9 => h9) rfl (tyX0_ok 2 (by decide)) rfl rfl (Nat.le_of_ble_eq_true rfl) dX0_copyFrom_21 (fun H locs hP hD hS => ?_)
  have hw : Wd D A s.heap (zwC cI aC Dcandidates Dballots Dseats Cwithdrawn Cvoters Csets Crank ++ (zwC cI aD Dcandidates Dballots Dseats Dwithdrawn Dvoters Dsets Drank)) H locs := ⟨hP, hD, hS⟩
  clear hP hD hS
  refine lv_aload_n hx hb dX0_copyFrom_24 rfl (lv_at hl 0 rfl) ?_
  refine lv_aload_n hx hb dX0_copyFrom_25 rfl (lv_at hl 1 rfl) ?_
  refine va_get (D := D) (ci := 0) (v := .int Dwithdrawn) (C := RX0) (T := TX0) (N := 7) hx hb hts hiX0 hown hK hw.1 4 rfl rfl 3 (by decide) hq3 (fun _ h9 => h9) rfl dX0_copyFrom_26 ?_
  refine va_put (D := D) (ci := 0) (v := .int Dwithdrawn) (C := RX0) (T := TX0) (N := 7) hx hb hts hiX0 tyX0 tyX0_ok nmX0 hown hK hw.1 hw.2.1 hw.2.2 0 rfl rfl 3 (by decide) hq3 (fun _ h9 => h9) rfl (tyX0_ok 3 (by decide)) rfl rfl (Nat.le_of_ble_eq_true rfl) dX0_copyFrom_29 (fun H locs hP hD hS => ?_)
  have hw : Wd D A s.heap (zwC cI aC Dcandidates Dballots Dseats Dwithdrawn Cvoters Csets Crank ++ (zwC cI aD Dcandidates Dballots Dseats Dwithdrawn Dvoters Dsets Drank)) H locs := ⟨hP, hD, hS⟩
  clear hP hD hS
  refine lv_aload_n hx hb dX0_copyFrom_32 rfl (lv_at hl 1 rfl) ?_
  refine va_get (D := D) (ci := 0) (v := .ref (aD 1)) (C := RX0) (T := TX0) (N := 7) hx hb hts hiX0 hown hK hw.1 4 rfl rfl 4 (by decide) hq4 (fun _ h9 => h9) rfl dX0_copyFrom_33 ?_
  refine lv_iconst (v := 0) hx hb dX0_copyFrom_36 (by decide) ?_
  refine lv_aload_n hx hb dX0_copyFrom_37 rfl (lv_at hl 0 rfl) ?_
  refine va_get (D := D) (ci := 0) (v := .ref (aC 1)) (C := RX0) (T := TX0) (N := 7) hx hb hts hiX0 hown hK hw.1 0 rfl rfl 4 (by decide) hq4 (fun _ h9 => h9) rfl dX0_copyFrom_38 ?_
  refine lv_iconst (v := 0) hx hb dX0_copyFrom_41 (by decide) ?_
  refine lv_bipush (v := 11) hx hb dX0_copyFrom_42 (by decide) ?_
  refine zk_copy hx hb (hml.trans hl.1.symm) hown hq5 hq6 hq7 hq8 hK hw 5 1 rfl rfl (k := 11) (by decide) rfl (by decide) (by decide) (Nat.le_of_ble_eq_true rfl) (by decide) dX0_copyFrom_44 (fun H locs hw => ?_)
  have hw : Wd D A s.heap (zwC cI aC Dcandidates Dballots Dseats Dwithdrawn (va_cpy Dvoters Cvoters 0 0 11) Csets Crank ++ (zwC cI aD Dcandidates Dballots Dseats Dwithdrawn Dvoters Dsets Drank)) H locs := hw
  refine lv_aload_n hx hb dX0_copyFrom_47 rfl (lv_at hl 1 rfl) ?_
  refine va_get (D := D) (ci := 0) (v := .ref (aD 2)) (C := RX0) (T := TX0) (N := 7) hx hb hts hiX0 hown hK hw.1 4 rfl rfl 5 (by decide) hq9 (fun _ h9 => h9) rfl dX0_copyFrom_48 ?_
  refine lv_iconst (v := 0) hx hb dX0_copyFrom_51 (by decide) ?_
  refine lv_aload_n hx hb dX0_copyFrom_52 rfl (lv_at hl 0 rfl) ?_
  refine va_get (D := D) (ci := 0) (v := .ref (aC 2)) (C := RX0) (T := TX0) (N := 7) hx hb hts hiX0 hown hK hw.1 0 rfl rfl 5 (by decide) hq9 (fun _ h9 => h9) rfl dX0_copyFrom_53 ?_
  refine lv_iconst (v := 0) hx hb dX0_copyFrom_56 (by decide) ?_
  refine lv_bipush (v := 11) hx hb dX0_copyFrom_57 (by decide) ?_
  refine zk_copy hx hb (hml.trans hl.1.symm) hown hq5 hq6 hq7 hq8 hK hw 6 2 rfl rfl (k := 11) (by decide) rfl (by decide) (by decide) (Nat.le_of_ble_eq_true rfl) (by decide) dX0_copyFrom_59 (fun H locs hw => ?_)
  have hw : Wd D A s.heap (zwC cI aC Dcandidates Dballots Dseats Dwithdrawn (va_cpy Dvoters Cvoters 0 0 11) (va_cpy Dsets Csets 0 0 11) Crank ++ (zwC cI aD Dcandidates Dballots Dseats Dwithdrawn Dvoters Dsets Drank)) H locs := hw
  refine lv_aload_n hx hb dX0_copyFrom_62 rfl (lv_at hl 1 rfl) ?_
  refine va_get (D := D) (ci := 0) (v := .ref (aD 3)) (C := RX0) (T := TX0) (N := 7) hx hb hts hiX0 hown hK hw.1 4 rfl rfl 6 (by decide) hq10 (fun _ h9 => h9) rfl dX0_copyFrom_63 ?_
  refine lv_iconst (v := 0) hx hb dX0_copyFrom_66 (by decide) ?_
  refine lv_aload_n hx hb dX0_copyFrom_67 rfl (lv_at hl 0 rfl) ?_
  refine va_get (D := D) (ci := 0) (v := .ref (aC 3)) (C := RX0) (T := TX0) (N := 7) hx hb hts hiX0 hown hK hw.1 0 rfl rfl 6 (by decide) hq10 (fun _ h9 => h9) rfl dX0_copyFrom_68 ?_
  refine lv_iconst (v := 0) hx hb dX0_copyFrom_71 (by decide) ?_
  refine lv_bipush (v := 8) hx hb dX0_copyFrom_72 (by decide) ?_
  refine zk_copy hx hb (hml.trans hl.1.symm) hown hq5 hq6 hq7 hq8 hK hw 7 3 rfl rfl (k := 8) (by decide) rfl (by decide) (by decide) (Nat.le_of_ble_eq_true rfl) (by decide) dX0_copyFrom_74 (fun H locs hw => ?_)
  have hw : Wd D A s.heap (zwC cI aC Dcandidates Dballots Dseats Dwithdrawn (va_cpy Dvoters Cvoters 0 0 11) (va_cpy Dsets Csets 0 0 11) (va_cpy Drank Crank 0 0 8) ++ (zwC cI aD Dcandidates Dballots Dseats Dwithdrawn Dvoters Dsets Drank)) H locs := hw
  cases hf
  exact zk_vret hx hb hr hlocks hQ hw [0, 1, 2, 3, 4, 5, 6, 7] rfl (by decide) dX0_copyFrom_77
set_option maxHeartbeats 4000000 in
set_option maxRecDepth 100000 in
theorem kX0_addBallot (l : Launch) (D : va_G) (cI cJ cO : ClassId) (N : Nat) (aC : Nat → Nat) (p0 : Int32) (p1 : Int32) (Ccandidates : Int32) (Cballots : Int32) (Cseats : Int32) (Cwithdrawn : Int32) (Cvoters : Nat → Int32) (Csets : Nat → Int32) (Crank : Nat → Int32) (u : (Int32) × (Nat → Int32) × (Nat → Int32)) (hf : fX0_addBallot N p0 p1 Cballots Cvoters Csets = some u) : CtV l yX0_addBallot wsX0_addBallot (zk_rm 0 0) D cI cJ cO [.ref (aC 0), .int p0, .int p1] (zwC cI aC Ccandidates Cballots Cseats Cwithdrawn Cvoters Csets Crank) (zwC cI aC Ccandidates u.1 Cseats Cwithdrawn u.2.1 u.2.2 Crank) := by
  refine zk_enter (cc := cX0_addBallot) (maxL := 3) (ret := none) (own := RX0) (Qf := fun A => QwV D (zwC cI aC Ccandidates u.1 Cseats Cwithdrawn u.2.1 u.2.2 Crank) A) (by decide) rfl rfl (Nat.le_of_ble_eq_true rfl) ?_
  intro p e s m args below meth c A Q H locs ls hC hQ hw hl
  obtain ⟨hx, hb, hml, hr, hts, hown, hlocks, hN, hK, hA⟩ := hC
  have hl : lv_has ls 3 [(0, .ref (aC 0)), (1, .int p0), (2, .int p1)] := hl
  have hiX0 : ∀ w ∈ u_ws RX0 TX0 7, w ∈ wsX0_addBallot := by decide +kernel
  have hq0 := hts (.fieldLink RX0 25 "LoadCouncil$Council" "ballots" "I") (by decide +kernel)
  have hq1 := hts (.fieldLink RX0 9 "LoadCouncil$Council" "voters" "[I") (by decide +kernel)
  have hq2 := hts (.fieldLink RX0 15 "LoadCouncil$Council" "sets" "[I") (by decide +kernel)
  unfold fX0_addBallot at hf
  refine lv_aload_n hx hb dX0_addBallot_0 rfl (lv_at hl 0 rfl) ?_
  refine va_get (D := D) (ci := 0) (v := .int Cballots) (C := RX0) (T := TX0) (N := 7) hx hb hts hiX0 hown hK hw.1 0 rfl rfl 1 (by decide) hq0 (fun _ h9 => h9) rfl dX0_addBallot_1 ?_
  refine lv_bipush (v := 11) hx hb dX0_addBallot_4 (by decide) ?_
  refine lv_icmp_ge (tgt := 39) hx hb dX0_addBallot_6 (by decide) (fun c1 => ?_) (fun c1 => ?_)
  · replace hf := zk_t c1 hf
    cases hf
    exact zk_vret hx hb hr hlocks hQ hw [0, 1, 2, 3] rfl (by decide) dX0_addBallot_39
  · replace hf := zk_f c1 hf
    refine lv_aload_n hx hb dX0_addBallot_9 rfl (lv_at hl 0 rfl) ?_
    refine va_get (D := D) (ci := 0) (v := .ref (aC 1)) (C := RX0) (T := TX0) (N := 7) hx hb hts hiX0 hown hK hw.1 0 rfl rfl 4 (by decide) hq1 (fun _ h9 => h9) rfl dX0_addBallot_10 ?_
    refine lv_aload_n hx hb dX0_addBallot_13 rfl (lv_at hl 0 rfl) ?_
    refine va_get (D := D) (ci := 0) (v := .int Cballots) (C := RX0) (T := TX0) (N := 7) hx hb hts hiX0 hown hK hw.1 0 rfl rfl 1 (by decide) hq0 (fun _ h9 => h9) rfl dX0_addBallot_14 ?_
    refine lv_iload_n hx hb dX0_addBallot_17 rfl (lv_at hl 1 rfl) ?_
    obtain ⟨h2, hf⟩ := zk_ck hf
    refine zk_iast hx hb hK hw 1 rfl h2 (j := Cballots.toNatClampNeg) rfl dX0_addBallot_18 (fun H locs hw => ?_)
    have hw : Wd D A s.heap (zwC cI aC Ccandidates Cballots Cseats Cwithdrawn (upd Cvoters Cballots.toNatClampNeg p0) Csets Crank) H locs := hw
    refine lv_aload_n hx hb dX0_addBallot_19 rfl (lv_at hl 0 rfl) ?_
    refine va_get (D := D) (ci := 0) (v := .ref (aC 2)) (C := RX0) (T := TX0) (N := 7) hx hb hts hiX0 hown hK hw.1 0 rfl rfl 5 (by decide) hq2 (fun _ h9 => h9) rfl dX0_addBallot_20 ?_
    refine lv_aload_n hx hb dX0_addBallot_23 rfl (lv_at hl 0 rfl) ?_
    refine va_get (D := D) (ci := 0) (v := .int Cballots) (C := RX0) (T := TX0) (N := 7) hx hb hts hiX0 hown hK hw.1 0 rfl rfl 1 (by decide) hq0 (fun _ h9 => h9) rfl dX0_addBallot_24 ?_
    refine lv_iload_n hx hb dX0_addBallot_27 rfl (lv_at hl 2 rfl) ?_
    refine zk_iast hx hb hK hw 2 rfl h2 (j := Cballots.toNatClampNeg) rfl dX0_addBallot_28 (fun H locs hw => ?_)
    have hw : Wd D A s.heap (zwC cI aC Ccandidates Cballots Cseats Cwithdrawn (upd Cvoters Cballots.toNatClampNeg p0) (upd Csets Cballots.toNatClampNeg p1) Crank) H locs := hw
    refine lv_aload_n hx hb dX0_addBallot_29 rfl (lv_at hl 0 rfl) ?_
    refine lv_dup hx hb dX0_addBallot_30 rfl ?_
    refine va_get (D := D) (ci := 0) (v := .int Cballots) (C := RX0) (T := TX0) (N := 7) hx hb hts hiX0 hown hK hw.1 0 rfl rfl 1 (by decide) hq0 (fun _ h9 => h9) rfl dX0_addBallot_31 ?_
    refine lv_iconst (v := 1) hx hb dX0_addBallot_34 (by decide) ?_
    refine lv_iadd hx hb dX0_addBallot_35 ?_
    refine va_put (D := D) (ci := 0) (v := .int (Cballots + (1 : Int32))) (C := RX0) (T := TX0) (N := 7) hx hb hts hiX0 tyX0 tyX0_ok nmX0 hown hK hw.1 hw.2.1 hw.2.2 0 rfl rfl 1 (by decide) hq0 (fun _ h9 => h9) rfl (tyX0_ok 1 (by decide)) rfl rfl (Nat.le_of_ble_eq_true rfl) dX0_addBallot_36 (fun H locs hP hD hS => ?_)
    have hw : Wd D A s.heap (zwC cI aC Ccandidates (Cballots + (1 : Int32)) Cseats Cwithdrawn (upd Cvoters Cballots.toNatClampNeg p0) (upd Csets Cballots.toNatClampNeg p1) Crank) H locs := ⟨hP, hD, hS⟩
    clear hP hD hS
    cases hf
    exact zk_vret hx hb hr hlocks hQ hw [0, 1, 2, 3] rfl (by decide) dX0_addBallot_39
set_option maxHeartbeats 4000000 in
set_option maxRecDepth 100000 in
theorem kX0_agreesTo (l : Launch) (D : va_G) (cI cJ cO : ClassId) (N : Nat) (aC : Nat → Nat) (p0 : Int32) (p1 : Int32) (Ccandidates : Int32) (Cballots : Int32) (Cseats : Int32) (Cwithdrawn : Int32) (Cvoters : Nat → Int32) (Csets : Nat → Int32) (Crank : Nat → Int32) (u : Int32) (hf : fX0_agreesTo N p0 p1 Csets = some u) : CtI l yX0_agreesTo wsX0_agreesTo (zk_rm 0 0) D cI cJ cO [.ref (aC 0), .int p0, .int p1] (zwC cI aC Ccandidates Cballots Cseats Cwithdrawn Cvoters Csets Crank) (zwC cI aC Ccandidates Cballots Cseats Cwithdrawn Cvoters Csets Crank) (u) := by
  refine zk_enter (cc := cX0_agreesTo) (maxL := 3) (ret := some .boolean) (own := RX0) (Qf := fun A => QwI D (zwC cI aC Ccandidates Cballots Cseats Cwithdrawn Cvoters Csets Crank) (u) A) (by decide) rfl rfl (Nat.le_of_ble_eq_true rfl) ?_
  intro p e s m args below meth c A Q H locs ls hC hQ hw hl
  obtain ⟨hx, hb, hml, hr, hts, hown, hlocks, hN, hK, hA⟩ := hC
  have hl : lv_has ls 3 [(0, .ref (aC 0)), (1, .int p0), (2, .int p1)] := hl
  have hiX0 : ∀ w ∈ u_ws RX0 TX0 7, w ∈ wsX0_agreesTo := by decide +kernel
  have hq0 := hts (.fieldLink RX0 15 "LoadCouncil$Council" "sets" "[I") (by decide +kernel)
  unfold fX0_agreesTo at hf
  refine lv_aload_n hx hb dX0_agreesTo_0 rfl (lv_at hl 0 rfl) ?_
  refine va_get (D := D) (ci := 0) (v := .ref (aC 2)) (C := RX0) (T := TX0) (N := 7) hx hb hts hiX0 hown hK hw.1 0 rfl rfl 5 (by decide) hq0 (fun _ h9 => h9) rfl dX0_agreesTo_1 ?_
  refine lv_iload_n hx hb dX0_agreesTo_4 rfl (lv_at hl 1 rfl) ?_
  obtain ⟨h1, hf⟩ := zk_ck hf
  refine zk_iald hx hb hK hw 2 rfl h1 (j := p0.toNatClampNeg) rfl dX0_agreesTo_5 ?_
  refine lv_iload_n hx hb dX0_agreesTo_6 rfl (lv_at hl 2 rfl) ?_
  refine lv_iand hx hb dX0_agreesTo_7 ?_
  refine lv_iload_n hx hb dX0_agreesTo_8 rfl (lv_at hl 2 rfl) ?_
  refine lv_icmp_ne (tgt := 16) hx hb dX0_agreesTo_9 (by decide) (fun c2 => ?_) (fun c2 => ?_)
  · replace hf := zk_f c2 hf
    refine lv_iconst (v := 0) hx hb dX0_agreesTo_16 (by decide) ?_
    cases hf
    exact zk_iret hx hb hr hlocks rfl hQ hw [0, 1, 2, 3] rfl (by decide) dX0_agreesTo_17
  · replace hf := zk_t c2 hf
    refine lv_iconst (v := 1) hx hb dX0_agreesTo_12 (by decide) ?_
    refine lv_goto (tgt := 17) hx hb dX0_agreesTo_13 (by decide) ?_
    cases hf
    exact zk_iret hx hb hr hlocks rfl hQ hw [0, 1, 2, 3] rfl (by decide) dX0_agreesTo_17
set_option maxHeartbeats 4000000 in
set_option maxRecDepth 100000 in
theorem kX0_votersWhoAgree (l : Launch) (D : va_G) (cI cJ cO : ClassId) (N : Nat) (aC : Nat → Nat) (p0 : Int32) (Ccandidates : Int32) (Cballots : Int32) (Cseats : Int32) (Cwithdrawn : Int32) (Cvoters : Nat → Int32) (Csets : Nat → Int32) (Crank : Nat → Int32) (u : Int32) (hf : fX0_votersWhoAgree N p0 Cballots Cvoters Csets = some u) : CtI l yX0_votersWhoAgree wsX0_votersWhoAgree (zk_rm 1 22) D cI cJ cO [.ref (aC 0), .int p0] (zwC cI aC Ccandidates Cballots Cseats Cwithdrawn Cvoters Csets Crank) (zwC cI aC Ccandidates Cballots Cseats Cwithdrawn Cvoters Csets Crank) (u) := by
  refine zk_enter (cc := cX0_votersWhoAgree) (maxL := 4) (ret := some .int) (own := RX0) (Qf := fun A => QwI D (zwC cI aC Ccandidates Cballots Cseats Cwithdrawn Cvoters Csets Crank) (u) A) (by decide) rfl rfl (Nat.le_of_ble_eq_true rfl) ?_
  intro p e s m args below meth c A Q H locs ls hC hQ hw hl
  obtain ⟨hx, hb, hml, hr, hts, hown, hlocks, hN, hK, hA⟩ := hC
  have hl : lv_has ls 4 [(0, .ref (aC 0)), (1, .int p0)] := hl
  have hiX0 : ∀ w ∈ u_ws RX0 TX0 7, w ∈ wsX0_votersWhoAgree := by decide +kernel
  have hq0 := hts (.fieldLink RX0 25 "LoadCouncil$Council" "ballots" "I") (by decide +kernel)
  have hq1 := hts (.fieldLink RX0 9 "LoadCouncil$Council" "voters" "[I") (by decide +kernel)
  have b4 : ∀ (n4 : Nat), ∀ (x1 : Int32) (x2 : Int32) (x3 : Int32), fX0_votersWhoAgree_b4 N n4 x1 x2 x3 Cballots Cvoters Csets = some u → ∀ (H : Heap) (locs : List Loc) (ls : Array Slot), Wd D A s.heap (zwC cI aC Ccandidates Cballots Cseats Cwithdrawn Cvoters Csets Crank) H locs → lv_has ls 4 [(0, .ref (aC 0)), (1, .int x1), (2, .int x2), (3, .int x3)] → W p l e (zk_rm 1 22) s m args below meth c H locs 0 0 Q (F0 m 4 ls []) := by
    intro n4
    induction n4 with
    | zero =>
      intro x1 x2 x3 hf
      exact zk_none hf
    | succ n4 ih4 =>
      have b30 : ∀ (x1 : Int32) (x2 : Int32) (x3 : Int32), fX0_votersWhoAgree_b30 N (fun z0 z1 z2 z3 z4 z5 => fX0_votersWhoAgree_b4 N n4 z0 z1 z2 z3 z4 z5) x1 x2 x3 Cballots Cvoters Csets = some u → ∀ (H : Heap) (locs : List Loc) (ls : Array Slot), Wd D A s.heap (zwC cI aC Ccandidates Cballots Cseats Cwithdrawn Cvoters Csets Crank) H locs → lv_has ls 4 [(0, .ref (aC 0)), (1, .int x1), (2, .int x2), (3, .int x3)] → W p l e (zk_rm 1 22) s m args below meth c H locs 0 0 Q (F0 m 30 ls []) := by
        intro x1 x2 x3 hf H locs ls hw hl
        unfold fX0_votersWhoAgree_b30 at hf
        refine lv_iinc (v := (x3 + (1 : Int32))) (lv' := [(3, .int (x3 + (1 : Int32))), (0, .ref (aC 0)), (1, .int x1), (2, .int x2)]) hx hb dX0_votersWhoAgree_30 hl (k := 3) rfl rfl (by decide) rfl (fun ls hl => ?_)
        refine lv_goto (tgt := 4) hx hb dX0_votersWhoAgree_33 (by decide) ?_
        exact ih4 x1 x2 (x3 + (1 : Int32)) hf H locs ls hw (lv_sub hl [1, 2, 3, 0] rfl)
      intro x1 x2 x3 hf H locs ls hw hl
      rw [fX0_votersWhoAgree_b4] at hf
      refine lv_iload_n hx hb dX0_votersWhoAgree_4 rfl (lv_at hl 3 rfl) ?_
      refine lv_aload_n hx hb dX0_votersWhoAgree_5 rfl (lv_at hl 0 rfl) ?_
      refine va_get (D := D) (ci := 0) (v := .int Cballots) (C := RX0) (T := TX0) (N := 7) hx hb hts hiX0 hown hK hw.1 0 rfl rfl 1 (by decide) hq0 (fun _ h9 => h9) rfl dX0_votersWhoAgree_6 ?_
      refine lv_icmp_ge (tgt := 36) hx hb dX0_votersWhoAgree_9 (by decide) (fun c1 => ?_) (fun c1 => ?_)
      · replace hf := zk_t c1 hf
        refine lv_iload_n hx hb dX0_votersWhoAgree_36 rfl (lv_at hl 2 rfl) ?_
        cases hf
        exact zk_iret hx hb hr hlocks rfl hQ hw [0, 1, 2, 3] rfl (by decide) dX0_votersWhoAgree_37
      · replace hf := zk_f c1 hf
        refine lv_aload_n hx hb dX0_votersWhoAgree_12 rfl (lv_at hl 0 rfl) ?_
        refine lv_iload_n hx hb dX0_votersWhoAgree_13 rfl (lv_at hl 3 rfl) ?_
        refine lv_iload_n hx hb dX0_votersWhoAgree_14 rfl (lv_at hl 1 rfl) ?_
        obtain ⟨u2, e3, hf⟩ := zk_bd hf
        refine zk_calli (wc := zwC cI aC Ccandidates Cballots Cseats Cwithdrawn Cvoters Csets Crank) (wr := []) hw hA [0, 1, 2, 3] [] rfl rfl (by decide) (by decide) (va_runV (C := RX0) (As := [.int x3, .int x1]) (rest := []) ⟨hx, hb, hml, hown, hts⟩ (kX0_agreesTo l D cI cJ cO N aC x3 x1 Ccandidates Cballots Cseats Cwithdrawn Cvoters Csets Crank u2 e3 H.size) (cwV 2 hts gX0_votersWhoAgree_X0_agreesTo rfl rfl rfl (by decide +kernel) ⟨Nat.le_of_ble_eq_true rfl, Nat.le_of_ble_eq_true rfl⟩) (zk_preV (wc := zwC cI aC Ccandidates Cballots Cseats Cwithdrawn Cvoters Csets Crank) hN hK hw [0, 1, 2, 3] rfl (by decide) 0 0 rfl rfl) rfl rfl hl.1 rfl (lv_room (Nat.le_of_ble_eq_true rfl)) dX0_votersWhoAgree_15 ⟨Nat.zero_le _, Nat.zero_le _⟩) (fun H locs hw => ?_)
        have hw : Wd D A s.heap (zwC cI aC Ccandidates Cballots Cseats Cwithdrawn Cvoters Csets Crank) H locs := hw
        refine lv_if_eq (tgt := 30) hx hb dX0_votersWhoAgree_18 (by decide) (fun c4 => ?_) (fun c4 => ?_)
        · replace hf := zk_t c4 hf
          exact b30 x1 x2 x3 hf H locs ls hw (lv_sub hl [0, 1, 2, 3] rfl)
        · replace hf := zk_f c4 hf
          refine lv_iload_n hx hb dX0_votersWhoAgree_21 rfl (lv_at hl 2 rfl) ?_
          refine lv_aload_n hx hb dX0_votersWhoAgree_22 rfl (lv_at hl 0 rfl) ?_
          refine va_get (D := D) (ci := 0) (v := .ref (aC 1)) (C := RX0) (T := TX0) (N := 7) hx hb hts hiX0 hown hK hw.1 0 rfl rfl 4 (by decide) hq1 (fun _ h9 => h9) rfl dX0_votersWhoAgree_23 ?_
          refine lv_iload_n hx hb dX0_votersWhoAgree_26 rfl (lv_at hl 3 rfl) ?_
          obtain ⟨h5, hf⟩ := zk_ck hf
          refine zk_iald hx hb hK hw 1 rfl h5 (j := x3.toNatClampNeg) rfl dX0_votersWhoAgree_27 ?_
          refine lv_iadd hx hb dX0_votersWhoAgree_28 ?_
          refine lv_istore_n (lv' := [(2, .int (x2 + (Cvoters x3.toNatClampNeg))), (0, .ref (aC 0)), (1, .int x1), (3, .int x3)]) hx hb dX0_votersWhoAgree_29 rfl hl (by decide) rfl (fun ls hl => ?_)
          exact b30 x1 (x2 + (Cvoters x3.toNatClampNeg)) x3 hf H locs ls hw (lv_sub hl [1, 2, 0, 3] rfl)
  unfold fX0_votersWhoAgree at hf
  refine lv_iconst (v := 0) hx hb dX0_votersWhoAgree_0 (by decide) ?_
  refine lv_istore_n (lv' := [(2, .int (0 : Int32)), (0, .ref (aC 0)), (1, .int p0)]) hx hb dX0_votersWhoAgree_1 rfl hl (by decide) rfl (fun ls hl => ?_)
  refine lv_iconst (v := 0) hx hb dX0_votersWhoAgree_2 (by decide) ?_
  refine lv_istore_n (lv' := [(3, .int (0 : Int32)), (2, .int (0 : Int32)), (0, .ref (aC 0)), (1, .int p0)]) hx hb dX0_votersWhoAgree_3 rfl hl (by decide) rfl (fun ls hl => ?_)
  exact b4 N p0 (0 : Int32) (0 : Int32) hf H locs ls hw (lv_sub hl [2, 3, 1, 0] rfl)
set_option maxHeartbeats 4000000 in
set_option maxRecDepth 100000 in
theorem kX0_allVoters (l : Launch) (D : va_G) (cI cJ cO : ClassId) (N : Nat) (aC : Nat → Nat) (Ccandidates : Int32) (Cballots : Int32) (Cseats : Int32) (Cwithdrawn : Int32) (Cvoters : Nat → Int32) (Csets : Nat → Int32) (Crank : Nat → Int32) (u : Int32) (hf : fX0_allVoters N Cballots Cvoters Csets = some u) : CtI l yX0_allVoters wsX0_allVoters (zk_rm 2 45) D cI cJ cO [.ref (aC 0)] (zwC cI aC Ccandidates Cballots Cseats Cwithdrawn Cvoters Csets Crank) (zwC cI aC Ccandidates Cballots Cseats Cwithdrawn Cvoters Csets Crank) (u) := by
  refine zk_enter (cc := cX0_allVoters) (maxL := 1) (ret := some .int) (own := RX0) (Qf := fun A => QwI D (zwC cI aC Ccandidates Cballots Cseats Cwithdrawn Cvoters Csets Crank) (u) A) (by decide) rfl rfl (Nat.le_of_ble_eq_true rfl) ?_
  intro p e s m args below meth c A Q H locs ls hC hQ hw hl
  obtain ⟨hx, hb, hml, hr, hts, hown, hlocks, hN, hK, hA⟩ := hC
  have hl : lv_has ls 1 [(0, .ref (aC 0))] := hl
  unfold fX0_allVoters at hf
  refine lv_aload_n hx hb dX0_allVoters_0 rfl (lv_at hl 0 rfl) ?_
  refine lv_iconst (v := 0) hx hb dX0_allVoters_1 (by decide) ?_
  obtain ⟨u1, e2, hf⟩ := zk_bd hf
  refine zk_calli (wc := zwC cI aC Ccandidates Cballots Cseats Cwithdrawn Cvoters Csets Crank) (wr := []) hw hA [0, 1, 2, 3] [] rfl rfl (by decide) (by decide) (va_runV (C := RX0) (As := [.int (0 : Int32)]) (rest := []) ⟨hx, hb, hml, hown, hts⟩ (kX0_votersWhoAgree l D cI cJ cO N aC (0 : Int32) Ccandidates Cballots Cseats Cwithdrawn Cvoters Csets Crank u1 e2 H.size) (cwV 1 hts gX0_allVoters_X0_votersWhoAgree rfl rfl rfl (by decide +kernel) ⟨Nat.le_of_ble_eq_true rfl, Nat.le_of_ble_eq_true rfl⟩) (zk_preV (wc := zwC cI aC Ccandidates Cballots Cseats Cwithdrawn Cvoters Csets Crank) hN hK hw [0, 1, 2, 3] rfl (by decide) 0 0 rfl rfl) rfl rfl hl.1 rfl (lv_room (Nat.le_of_ble_eq_true rfl)) dX0_allVoters_2 ⟨Nat.zero_le _, Nat.zero_le _⟩) (fun H locs hw => ?_)
  have hw : Wd D A s.heap (zwC cI aC Ccandidates Cballots Cseats Cwithdrawn Cvoters Csets Crank) H locs := hw
  cases hf
  exact zk_iret hx hb hr hlocks rfl hQ hw [0, 1, 2, 3] rfl (by decide) dX0_allVoters_5
set_option maxHeartbeats 4000000 in
set_option maxRecDepth 100000 in
theorem kX4_hasBit (l : Launch) (D : va_G) (cI cJ cO : ClassId) (N : Nat) (p0 : Int32) (p1 : Int32) (u : Int32) (hf : fX4_hasBit N p0 p1 = some u) : CtI l yX4_hasBit wsX4_hasBit (zk_rm 0 0) D cI cJ cO [.int p0, .int p1] ([]) ([]) (u) := by
  refine zk_enter (cc := cX4_hasBit) (maxL := 2) (ret := some .boolean) (own := RX4) (Qf := fun A => QwI D ([]) (u) A) (by decide) rfl rfl (Nat.le_of_ble_eq_true rfl) ?_
  intro p e s m args below meth c A Q H locs ls hC hQ hw hl
  obtain ⟨hx, hb, hml, hr, hts, hown, hlocks, hN, hK, hA⟩ := hC
  have hl : lv_has ls 2 [(0, .int p0), (1, .int p1)] := hl
  unfold fX4_hasBit at hf
  refine lv_iload_n hx hb dX4_hasBit_0 rfl (lv_at hl 0 rfl) ?_
  refine lv_iload_n hx hb dX4_hasBit_1 rfl (lv_at hl 1 rfl) ?_
  refine lv_ishr hx hb dX4_hasBit_2 ?_
  refine lv_iconst (v := 1) hx hb dX4_hasBit_3 (by decide) ?_
  refine lv_iand hx hb dX4_hasBit_4 ?_
  refine lv_iconst (v := 1) hx hb dX4_hasBit_5 (by decide) ?_
  refine lv_icmp_ne (tgt := 13) hx hb dX4_hasBit_6 (by decide) (fun c1 => ?_) (fun c1 => ?_)
  · replace hf := zk_f c1 hf
    refine lv_iconst (v := 0) hx hb dX4_hasBit_13 (by decide) ?_
    cases hf
    exact zk_iret hx hb hr hlocks rfl hQ hw [] rfl (by decide) dX4_hasBit_14
  · replace hf := zk_t c1 hf
    refine lv_iconst (v := 1) hx hb dX4_hasBit_9 (by decide) ?_
    refine lv_goto (tgt := 14) hx hb dX4_hasBit_10 (by decide) ?_
    cases hf
    exact zk_iret hx hb hr hlocks rfl hQ hw [] rfl (by decide) dX4_hasBit_14
set_option maxHeartbeats 4000000 in
set_option maxRecDepth 100000 in
theorem kX0_isWithdrawn (l : Launch) (D : va_G) (cI cJ cO : ClassId) (N : Nat) (aC : Nat → Nat) (p0 : Int32) (Ccandidates : Int32) (Cballots : Int32) (Cseats : Int32) (Cwithdrawn : Int32) (Cvoters : Nat → Int32) (Csets : Nat → Int32) (Crank : Nat → Int32) (u : Int32) (hf : fX0_isWithdrawn N p0 Cwithdrawn = some u) : CtI l yX0_isWithdrawn wsX0_isWithdrawn (zk_rm 1 21) D cI cJ cO [.ref (aC 0), .int p0] (zwC cI aC Ccandidates Cballots Cseats Cwithdrawn Cvoters Csets Crank) (zwC cI aC Ccandidates Cballots Cseats Cwithdrawn Cvoters Csets Crank) (u) := by
  refine zk_enter (cc := cX0_isWithdrawn) (maxL := 2) (ret := some .boolean) (own := RX0) (Qf := fun A => QwI D (zwC cI aC Ccandidates Cballots Cseats Cwithdrawn Cvoters Csets Crank) (u) A) (by decide) rfl rfl (Nat.le_of_ble_eq_true rfl) ?_
  intro p e s m args below meth c A Q H locs ls hC hQ hw hl
  obtain ⟨hx, hb, hml, hr, hts, hown, hlocks, hN, hK, hA⟩ := hC
  have hl : lv_has ls 2 [(0, .ref (aC 0)), (1, .int p0)] := hl
  have hiX0 : ∀ w ∈ u_ws RX0 TX0 7, w ∈ wsX0_isWithdrawn := by decide +kernel
  have hq0 := hts (.fieldLink RX0 31 "LoadCouncil$Council" "withdrawn" "I") (by decide +kernel)
  have hq1 := hts (.initialized RX4) (by decide +kernel)
  have hq2 := hts (.static yX4_hasBit) (by decide +kernel)
  unfold fX0_isWithdrawn at hf
  refine lv_aload_n hx hb dX0_isWithdrawn_0 rfl (lv_at hl 0 rfl) ?_
  refine va_get (D := D) (ci := 0) (v := .int Cwithdrawn) (C := RX0) (T := TX0) (N := 7) hx hb hts hiX0 hown hK hw.1 0 rfl rfl 3 (by decide) hq0 (fun _ h9 => h9) rfl dX0_isWithdrawn_1 ?_
  refine lv_iload_n hx hb dX0_isWithdrawn_4 rfl (lv_at hl 1 rfl) ?_
  obtain ⟨u1, e2, hf⟩ := zk_bd hf
  refine zk_calli (wc := []) (wr := zwC cI aC Ccandidates Cballots Cseats Cwithdrawn Cvoters Csets Crank) hw hA [] [0, 1, 2, 3] rfl rfl (by decide) (by decide) (va_runSN (As := [.int Cwithdrawn, .int p0]) (rest := []) ⟨hx, hb, hml, hown, hts⟩ (kX4_hasBit l D cI cJ cO N Cwithdrawn p0 u1 e2 H.size) ⟨va_cnB 2 hts ggX0_isWithdrawn_X4_hasBit rfl rfl rfl (nwM_X0_64 hN) hq1 (by decide +kernel) ⟨Nat.le_of_ble_eq_true rfl, Nat.le_of_ble_eq_true rfl⟩, hq2, trivial⟩ (zk_preS (wc := []) hN hK hw [] rfl (by decide)) rfl rfl hl.1 rfl (lv_room (Nat.le_of_ble_eq_true rfl)) dX0_isWithdrawn_5 ⟨Nat.zero_le _, Nat.zero_le _⟩) (fun H locs hw => ?_)
  have hw : Wd D A s.heap (zwC cI aC Ccandidates Cballots Cseats Cwithdrawn Cvoters Csets Crank) H locs := hw
  obtain ⟨h3, hf⟩ := zk_ck hf
  cases hf
  exact zk_iret hx hb hr hlocks (zk_nb h3) hQ hw [0, 1, 2, 3] rfl (by decide) dX0_isWithdrawn_8
set_option maxHeartbeats 4000000 in
set_option maxRecDepth 100000 in
theorem kX2_keep (l : Launch) (D : va_G) (cI cJ cO : ClassId) (N : Nat) (aP aC aQ : Nat → Nat) (Pring : Nat → Option Nat) (Ptop : Int32) (Psize : Int32) (Ccandidates : Int32) (Cballots : Int32) (Cseats : Int32) (Cwithdrawn : Int32) (Cvoters : Nat → Int32) (Csets : Nat → Int32) (Crank : Nat → Int32) (Qcandidates : Int32) (Qballots : Int32) (Qseats : Int32) (Qwithdrawn : Int32) (Qvoters : Nat → Int32) (Qsets : Nat → Int32) (Qrank : Nat → Int32) (hg : Pring (Ptop).toNatClampNeg = some (aQ 0)) (u : (Int32) × (Int32) × (Int32) × (Int32) × (Int32) × (Int32) × (Nat → Int32) × (Nat → Int32) × (Nat → Int32)) (hf : fX2_keep N Ptop Psize Ccandidates Cballots Cseats Cwithdrawn Cvoters Csets Crank Qcandidates Qballots Qseats Qwithdrawn Qvoters Qsets Qrank = some u) : CtV l yX2_keep wsX2_keep (zk_rm 2 81) D cI cJ cO [.ref (aP 0), .ref (aC 0)] (zwP cO aP Pring Ptop Psize ++ (zwC cI aC Ccandidates Cballots Cseats Cwithdrawn Cvoters Csets Crank ++ (zwC cI aQ Qcandidates Qballots Qseats Qwithdrawn Qvoters Qsets Qrank))) (zwP cO aP Pring u.1 u.2.1 ++ (zwC cI aC Ccandidates Cballots Cseats Cwithdrawn Cvoters Csets Crank ++ (zwC cI aQ u.2.2.1 u.2.2.2.1 u.2.2.2.2.1 u.2.2.2.2.2.1 u.2.2.2.2.2.2.1 u.2.2.2.2.2.2.2.1 u.2.2.2.2.2.2.2.2))) := by
  refine zk_enter (cc := cX2_keep) (maxL := 2) (ret := none) (own := RX2) (Qf := fun A => QwV D (zwP cO aP Pring u.1 u.2.1 ++ (zwC cI aC Ccandidates Cballots Cseats Cwithdrawn Cvoters Csets Crank ++ (zwC cI aQ u.2.2.1 u.2.2.2.1 u.2.2.2.2.1 u.2.2.2.2.2.1 u.2.2.2.2.2.2.1 u.2.2.2.2.2.2.2.1 u.2.2.2.2.2.2.2.2))) A) (by decide) rfl rfl (Nat.le_of_ble_eq_true rfl) ?_
  intro p e s m args below meth c A Q H locs ls hC hQ hw hl
  obtain ⟨hx, hb, hml, hr, hts, hown, hlocks, hN, hK, hA⟩ := hC
  have hl : lv_has ls 2 [(0, .ref (aP 0)), (1, .ref (aC 0))] := hl
  have hiX2 : ∀ w ∈ u_ws RX2 TX2 3, w ∈ wsX2_keep := by decide +kernel
  have hq0 := hts (.fieldLink RX2 11 "LoadCouncil$Past" "ring" "[LLoadCouncil$Council;") (by decide +kernel)
  have hq1 := hts (.fieldLink RX2 22 "LoadCouncil$Past" "top" "I") (by decide +kernel)
  have hq2 := hts (.initialized RX0) (by decide +kernel)
  have hq3 := hts (.instanceMethod yX0_copyFrom) (by decide +kernel)
  have hq4 := hts (.selects RX0 yX0_copyFrom yX0_copyFrom) (by decide +kernel)
  have hq5 := hts (.fieldLink RX2 18 "LoadCouncil$Past" "size" "I") (by decide +kernel)
  have hq6 := hts (.methodLink RX2 29 Lib.Math.min.name) (by decide +kernel)
  have hq7 := hts (.static Lib.Math.min.name) (by decide +kernel)
  have hq8 := hts (.initialized "java/lang/Math") (by decide +kernel)
  have hq9 := hts (.code Lib.Math.min.name Lib.Math.min.code 2 (some .int)) (by decide +kernel)
  unfold fX2_keep at hf
  refine lv_aload_n hx hb dX2_keep_0 rfl (lv_at hl 0 rfl) ?_
  refine va_get (D := D) (ci := 2) (v := .ref (aP 1)) (C := RX2) (T := TX2) (N := 3) hx hb hts hiX2 hown hK hw.1 0 rfl rfl 0 (by decide) hq0 (fun _ h9 => h9) rfl dX2_keep_1 ?_
  refine lv_aload_n hx hb dX2_keep_4 rfl (lv_at hl 0 rfl) ?_
  refine va_get (D := D) (ci := 2) (v := .int Ptop) (C := RX2) (T := TX2) (N := 3) hx hb hts hiX2 hown hK hw.1 0 rfl rfl 1 (by decide) hq1 (fun _ h9 => h9) rfl dX2_keep_5 ?_
  obtain ⟨h1, hf⟩ := zk_ck hf
  refine zk_aald hx hb hK hw 1 rfl h1 (y := aQ 0) hg dX2_keep_8 ?_
  refine lv_aload_n hx hb dX2_keep_9 rfl (lv_at hl 1 rfl) ?_
  obtain ⟨u2, e3, hf⟩ := zk_bd hf
  refine zk_callv (wc := zwC cI aQ Qcandidates Qballots Qseats Qwithdrawn Qvoters Qsets Qrank ++ (zwC cI aC Ccandidates Cballots Cseats Cwithdrawn Cvoters Csets Crank)) (wr := zwP cO aP Pring Ptop Psize) hw hA [6, 7, 8, 9, 2, 3, 4, 5] [0, 1] rfl rfl (by decide) (by decide) (va_runVN (C := RX0) (As := [.ref (aC 0)]) (rest := []) ⟨hx, hb, hml, hown, hts⟩ (kX0_copyFrom l D cI cJ cO N aQ aC Qcandidates Qballots Qseats Qwithdrawn Qvoters Qsets Qrank Ccandidates Cballots Cseats Cwithdrawn Cvoters Csets Crank u2 e3 H.size) ⟨va_cnB 1 hts ggX2_keep_X0_copyFrom rfl rfl rfl (nwM_X2_25 hN) hq2 (by decide +kernel) ⟨Nat.le_of_ble_eq_true rfl, Nat.le_of_ble_eq_true rfl⟩, hq3, hq4⟩ (zk_preV (wc := zwC cI aQ Qcandidates Qballots Qseats Qwithdrawn Qvoters Qsets Qrank ++ (zwC cI aC Ccandidates Cballots Cseats Cwithdrawn Cvoters Csets Crank)) hN hK hw [6, 7, 8, 9, 2, 3, 4, 5] rfl (by decide) 6 0 rfl rfl) rfl rfl hl.1 rfl (lv_room (Nat.le_of_ble_eq_true rfl)) dX2_keep_10 ⟨Nat.zero_le _, Nat.zero_le _⟩) (fun H locs hw => ?_)
  have hw : Wd D A s.heap (zwP cO aP Pring Ptop Psize ++ (zwC cI aQ u2.1 u2.2.1 u2.2.2.1 u2.2.2.2.1 u2.2.2.2.2.1 u2.2.2.2.2.2.1 u2.2.2.2.2.2.2 ++ (zwC cI aC Ccandidates Cballots Cseats Cwithdrawn Cvoters Csets Crank))) H locs := hw
  refine lv_aload_n hx hb dX2_keep_13 rfl (lv_at hl 0 rfl) ?_
  refine lv_aload_n hx hb dX2_keep_14 rfl (lv_at hl 0 rfl) ?_
  refine va_get (D := D) (ci := 2) (v := .int Ptop) (C := RX2) (T := TX2) (N := 3) hx hb hts hiX2 hown hK hw.1 0 rfl rfl 1 (by decide) hq1 (fun _ h9 => h9) rfl dX2_keep_15 ?_
  refine lv_iconst (v := 1) hx hb dX2_keep_18 (by decide) ?_
  refine lv_iadd hx hb dX2_keep_19 ?_
  refine lv_bipush (v := 6) hx hb dX2_keep_20 (by decide) ?_
  refine lv_irem hx hb dX2_keep_22 (by decide) ?_
  refine va_put (D := D) (ci := 2) (v := .int ((Ptop + (1 : Int32)) - (Ptop + (1 : Int32)) / (6 : Int32) * (6 : Int32))) (C := RX2) (T := TX2) (N := 3) hx hb hts hiX2 tyX2 tyX2_ok nmX2 hown hK hw.1 hw.2.1 hw.2.2 0 rfl rfl 1 (by decide) hq1 (fun _ h9 => h9) rfl (tyX2_ok 1 (by decide)) rfl rfl (Nat.le_of_ble_eq_true rfl) dX2_keep_23 (fun H locs hP hD hS => ?_)
  have hw : Wd D A s.heap (zwP cO aP Pring ((Ptop + (1 : Int32)) - (Ptop + (1 : Int32)) / (6 : Int32) * (6 : Int32)) Psize ++ (zwC cI aQ u2.1 u2.2.1 u2.2.2.1 u2.2.2.2.1 u2.2.2.2.2.1 u2.2.2.2.2.2.1 u2.2.2.2.2.2.2 ++ (zwC cI aC Ccandidates Cballots Cseats Cwithdrawn Cvoters Csets Crank))) H locs := ⟨hP, hD, hS⟩
  clear hP hD hS
  refine lv_aload_n hx hb dX2_keep_26 rfl (lv_at hl 0 rfl) ?_
  refine lv_aload_n hx hb dX2_keep_27 rfl (lv_at hl 0 rfl) ?_
  refine va_get (D := D) (ci := 2) (v := .int Psize) (C := RX2) (T := TX2) (N := 3) hx hb hts hiX2 hown hK hw.1 0 rfl rfl 2 (by decide) hq5 (fun _ h9 => h9) rfl dX2_keep_28 ?_
  refine lv_iconst (v := 1) hx hb dX2_keep_31 (by decide) ?_
  refine lv_iadd hx hb dX2_keep_32 ?_
  refine lv_bipush (v := 6) hx hb dX2_keep_33 (by decide) ?_
  refine va_mmin hx hb (hml.trans hl.1.symm) hown hq6 hq7 hq8 hq9 (Nat.le_of_ble_eq_true rfl) (Nat.le_of_ble_eq_true rfl) (Nat.zero_le _) (Nat.zero_le _) dX2_keep_35 ?_
  refine va_put (D := D) (ci := 2) (v := .int (if (6 : Int32) < (Psize + (1 : Int32)) then (6 : Int32) else (Psize + (1 : Int32)))) (C := RX2) (T := TX2) (N := 3) hx hb hts hiX2 tyX2 tyX2_ok nmX2 hown hK hw.1 hw.2.1 hw.2.2 0 rfl rfl 2 (by decide) hq5 (fun _ h9 => h9) rfl (tyX2_ok 2 (by decide)) rfl rfl (Nat.le_of_ble_eq_true rfl) dX2_keep_38 (fun H locs hP hD hS => ?_)
  have hw : Wd D A s.heap (zwP cO aP Pring ((Ptop + (1 : Int32)) - (Ptop + (1 : Int32)) / (6 : Int32) * (6 : Int32)) (if (6 : Int32) < (Psize + (1 : Int32)) then (6 : Int32) else (Psize + (1 : Int32))) ++ (zwC cI aQ u2.1 u2.2.1 u2.2.2.1 u2.2.2.2.1 u2.2.2.2.2.1 u2.2.2.2.2.2.1 u2.2.2.2.2.2.2 ++ (zwC cI aC Ccandidates Cballots Cseats Cwithdrawn Cvoters Csets Crank))) H locs := ⟨hP, hD, hS⟩
  clear hP hD hS
  cases hf
  exact zk_vret hx hb hr hlocks hQ hw [0, 1, 6, 7, 8, 9, 2, 3, 4, 5] rfl (by decide) dX2_keep_41
set_option maxHeartbeats 4000000 in
set_option maxRecDepth 100000 in
theorem kX4_isVoters (l : Launch) (D : va_G) (cI cJ cO : ClassId) (N : Nat) (p0 : Int32) (u : Int32) (hf : fX4_isVoters N p0 = some u) : CtI l yX4_isVoters wsX4_isVoters (zk_rm 0 0) D cI cJ cO [.int p0] ([]) ([]) (u) := by
  refine zk_enter (cc := cX4_isVoters) (maxL := 1) (ret := some .boolean) (own := RX4) (Qf := fun A => QwI D ([]) (u) A) (by decide) rfl rfl (Nat.le_of_ble_eq_true rfl) ?_
  intro p e s m args below meth c A Q H locs ls hC hQ hw hl
  obtain ⟨hx, hb, hml, hr, hts, hown, hlocks, hN, hK, hA⟩ := hC
  have hl : lv_has ls 1 [(0, .int p0)] := hl
  unfold fX4_isVoters at hf
  refine lv_iload_n hx hb dX4_isVoters_0 rfl (lv_at hl 0 rfl) ?_
  refine lv_iconst (v := 1) hx hb dX4_isVoters_1 (by decide) ?_
  refine lv_icmp_lt (tgt := 15) hx hb dX4_isVoters_2 (by decide) (fun c1 => ?_) (fun c1 => ?_)
  · replace hf := zk_t c1 hf
    refine lv_iconst (v := 0) hx hb dX4_isVoters_15 (by decide) ?_
    cases hf
    exact zk_iret hx hb hr hlocks rfl hQ hw [] rfl (by decide) dX4_isVoters_16
  · replace hf := zk_f c1 hf
    refine lv_iload_n hx hb dX4_isVoters_5 rfl (lv_at hl 0 rfl) ?_
    refine lv_bipush (v := 20) hx hb dX4_isVoters_6 (by decide) ?_
    refine lv_icmp_gt (tgt := 15) hx hb dX4_isVoters_8 (by decide) (fun c2 => ?_) (fun c2 => ?_)
    · replace hf := zk_t c2 hf
      refine lv_iconst (v := 0) hx hb dX4_isVoters_15 (by decide) ?_
      cases hf
      exact zk_iret hx hb hr hlocks rfl hQ hw [] rfl (by decide) dX4_isVoters_16
    · replace hf := zk_f c2 hf
      refine lv_iconst (v := 1) hx hb dX4_isVoters_11 (by decide) ?_
      refine lv_goto (tgt := 16) hx hb dX4_isVoters_12 (by decide) ?_
      cases hf
      exact zk_iret hx hb hr hlocks rfl hQ hw [] rfl (by decide) dX4_isVoters_16
set_option maxHeartbeats 4000000 in
set_option maxRecDepth 100000 in
theorem kX4_isSet (l : Launch) (D : va_G) (cI cJ cO : ClassId) (N : Nat) (aL aN : Nat → Nat) (aT aR aP aE : Nat → Nat) (p0 : Int32) (Ncandidates : Int32) (Nballots : Int32) (Nseats : Int32) (Nwithdrawn : Int32) (Nvoters : Nat → Int32) (Nsets : Nat → Int32) (Nrank : Nat → Int32) (u : Int32) (hf : fX4_isSet N p0 Ncandidates = some u) : CtI l yX4_isSet wsX4_isSet (zk_rm 0 0) D cI cJ cO [.ref (aL 0), .int p0] (zwL aL (aT 0) (aN 0) (aR 0) (aP 0) (aE 0) ++ (zwC cI aN Ncandidates Nballots Nseats Nwithdrawn Nvoters Nsets Nrank)) (zwL aL (aT 0) (aN 0) (aR 0) (aP 0) (aE 0) ++ (zwC cI aN Ncandidates Nballots Nseats Nwithdrawn Nvoters Nsets Nrank)) (u) := by
  refine zk_enter (cc := cX4_isSet) (maxL := 2) (ret := some .boolean) (own := RX4) (Qf := fun A => QwI D (zwL aL (aT 0) (aN 0) (aR 0) (aP 0) (aE 0) ++ (zwC cI aN Ncandidates Nballots Nseats Nwithdrawn Nvoters Nsets Nrank)) (u) A) (by decide) rfl rfl (Nat.le_of_ble_eq_true rfl) ?_
  intro p e s m args below meth c A Q H locs ls hC hQ hw hl
  obtain ⟨hx, hb, hml, hr, hts, hown, hlocks, hN, hK, hA⟩ := hC
  have hl : lv_has ls 2 [(0, .ref (aL 0)), (1, .int p0)] := hl
  have hiX4 : ∀ w ∈ u_ws RX4 TX4 5, w ∈ wsX4_isSet := by decide +kernel
  have hiX0 : ∀ w ∈ u_ws RX0 TX0 7, w ∈ wsX4_isSet := by decide +kernel
  have hq0 := hts (.fieldLink RX4 19 "LoadCouncil" "now" "LLoadCouncil$Council;") (by decide +kernel)
  unfold fX4_isSet at hf
  refine lv_iload_n hx hb dX4_isSet_0 rfl (lv_at hl 1 rfl) ?_
  refine lv_iconst (v := 1) hx hb dX4_isSet_1 (by decide) ?_
  refine lv_icmp_lt (tgt := 22) hx hb dX4_isSet_2 (by decide) (fun c1 => ?_) (fun c1 => ?_)
  · replace hf := zk_t c1 hf
    refine lv_iconst (v := 0) hx hb dX4_isSet_22 (by decide) ?_
    cases hf
    exact zk_iret hx hb hr hlocks rfl hQ hw [0, 1, 2, 3, 4] rfl (by decide) dX4_isSet_23
  · replace hf := zk_f c1 hf
    refine lv_iload_n hx hb dX4_isSet_5 rfl (lv_at hl 1 rfl) ?_
    refine lv_iconst (v := 1) hx hb dX4_isSet_6 (by decide) ?_
    refine lv_aload_n hx hb dX4_isSet_7 rfl (lv_at hl 0 rfl) ?_
    refine va_get (D := D) (ci := 4) (v := .ref (aN 0)) (C := RX4) (T := TX4) (N := 5) hx hb hts hiX4 hown hK hw.1 0 rfl rfl 1 (by decide) hq0 (fun _ h9 => h9) rfl dX4_isSet_8 ?_
    refine va_getN (D := D) (ci := 0) (v := .int Ncandidates) (C := RX0) (T := TX0) (N := 7) hx hb hts hiX0 hown hK hw.1 1 rfl rfl 0 (by decide) (va_Nw.use rfl (nwF_X4_66 hN)) (fun _ h9 => h9) rfl dX4_isSet_11 ?_
    refine lv_ishl hx hb dX4_isSet_14 ?_
    refine lv_icmp_ge (tgt := 22) hx hb dX4_isSet_15 (by decide) (fun c2 => ?_) (fun c2 => ?_)
    · replace hf := zk_t c2 hf
      refine lv_iconst (v := 0) hx hb dX4_isSet_22 (by decide) ?_
      cases hf
      exact zk_iret hx hb hr hlocks rfl hQ hw [0, 1, 2, 3, 4] rfl (by decide) dX4_isSet_23
    · replace hf := zk_f c2 hf
      refine lv_iconst (v := 1) hx hb dX4_isSet_18 (by decide) ?_
      refine lv_goto (tgt := 23) hx hb dX4_isSet_19 (by decide) ?_
      cases hf
      exact zk_iret hx hb hr hlocks rfl hQ hw [0, 1, 2, 3, 4] rfl (by decide) dX4_isSet_23
set_option maxHeartbeats 4000000 in
set_option maxRecDepth 100000 in
theorem kX4_ballot (l : Launch) (D : va_G) (cI cJ cO : ClassId) (N : Nat) (aL aP aN aQ : Nat → Nat) (aT aR aE : Nat → Nat) (p0 : Int32) (p1 : Int32) (Pring : Nat → Option Nat) (Ptop : Int32) (Psize : Int32) (Ncandidates : Int32) (Nballots : Int32) (Nseats : Int32) (Nwithdrawn : Int32) (Nvoters : Nat → Int32) (Nsets : Nat → Int32) (Nrank : Nat → Int32) (Qcandidates : Int32) (Qballots : Int32) (Qseats : Int32) (Qwithdrawn : Int32) (Qvoters : Nat → Int32) (Qsets : Nat → Int32) (Qrank : Nat → Int32) (hg : Pring (Ptop).toNatClampNeg = some (aQ 0)) (u : Int32 × (Int32) × (Int32) × (Int32) × (Nat → Int32) × (Nat → Int32) × (Int32) × (Int32) × (Int32) × (Int32) × (Nat → Int32) × (Nat → Int32) × (Nat → Int32)) (hf : fX4_ballot N p0 p1 Ptop Psize Ncandidates Nballots Nseats Nwithdrawn Nvoters Nsets Nrank Qcandidates Qballots Qseats Qwithdrawn Qvoters Qsets Qrank = some u) : CtI l yX4_ballot wsX4_ballot (zk_rm 3 102) D cI cJ cO [.ref (aL 0), .int p0, .int p1] (zwL aL (aT 0) (aN 0) (aR 0) (aP 0) (aE 0) ++ (zwP cO aP Pring Ptop Psize ++ (zwC cI aN Ncandidates Nballots Nseats Nwithdrawn Nvoters Nsets Nrank ++ (zwC cI aQ Qcandidates Qballots Qseats Qwithdrawn Qvoters Qsets Qrank)))) (zwL aL (aT 0) (aN 0) (aR 0) (aP 0) (aE 0) ++ (zwP cO aP Pring u.2.1 u.2.2.1 ++ (zwC cI aN Ncandidates u.2.2.2.1 Nseats Nwithdrawn u.2.2.2.2.1 u.2.2.2.2.2.1 Nrank ++ (zwC cI aQ u.2.2.2.2.2.2.1 u.2.2.2.2.2.2.2.1 u.2.2.2.2.2.2.2.2.1 u.2.2.2.2.2.2.2.2.2.1 u.2.2.2.2.2.2.2.2.2.2.1 u.2.2.2.2.2.2.2.2.2.2.2.1 u.2.2.2.2.2.2.2.2.2.2.2.2)))) (u.1) := by
  refine zk_enter (cc := cX4_ballot) (maxL := 3) (ret := some .int) (own := RX4) (Qf := fun A => QwI D (zwL aL (aT 0) (aN 0) (aR 0) (aP 0) (aE 0) ++ (zwP cO aP Pring u.2.1 u.2.2.1 ++ (zwC cI aN Ncandidates u.2.2.2.1 Nseats Nwithdrawn u.2.2.2.2.1 u.2.2.2.2.2.1 Nrank ++ (zwC cI aQ u.2.2.2.2.2.2.1 u.2.2.2.2.2.2.2.1 u.2.2.2.2.2.2.2.2.1 u.2.2.2.2.2.2.2.2.2.1 u.2.2.2.2.2.2.2.2.2.2.1 u.2.2.2.2.2.2.2.2.2.2.2.1 u.2.2.2.2.2.2.2.2.2.2.2.2)))) (u.1) A) (by decide) rfl rfl (Nat.le_of_ble_eq_true rfl) ?_
  intro p e s m args below meth c A Q H locs ls hC hQ hw hl
  obtain ⟨hx, hb, hml, hr, hts, hown, hlocks, hN, hK, hA⟩ := hC
  have hl : lv_has ls 3 [(0, .ref (aL 0)), (1, .int p0), (2, .int p1)] := hl
  have hiX4 : ∀ w ∈ u_ws RX4 TX4 5, w ∈ wsX4_ballot := by decide +kernel
  have hiX0 : ∀ w ∈ u_ws RX0 TX0 7, w ∈ wsX4_ballot := by decide +kernel
  have hq0 := hts (.fieldLink RX4 19 "LoadCouncil" "now" "LLoadCouncil$Council;") (by decide +kernel)
  have hq1 := hts (.initialized RX0) (by decide +kernel)
  have hq2 := hts (.instanceMethod yX0_allVoters) (by decide +kernel)
  have hq3 := hts (.selects RX0 yX0_allVoters yX0_allVoters) (by decide +kernel)
  have hq4 := hts (.fieldLink RX4 29 "LoadCouncil" "past" "LLoadCouncil$Past;") (by decide +kernel)
  have hq5 := hts (.initialized RX2) (by decide +kernel)
  have hq6 := hts (.instanceMethod yX2_keep) (by decide +kernel)
  have hq7 := hts (.selects RX2 yX2_keep yX2_keep) (by decide +kernel)
  have hq8 := hts (.instanceMethod yX0_addBallot) (by decide +kernel)
  have hq9 := hts (.selects RX0 yX0_addBallot yX0_addBallot) (by decide +kernel)
  unfold fX4_ballot at hf
  refine lv_iload_n hx hb dX4_ballot_0 rfl (lv_at hl 1 rfl) ?_
  obtain ⟨u1, e2, hf⟩ := zk_bd hf
  refine zk_calli (wc := []) (wr := zwL aL (aT 0) (aN 0) (aR 0) (aP 0) (aE 0) ++ (zwP cO aP Pring Ptop Psize ++ (zwC cI aN Ncandidates Nballots Nseats Nwithdrawn Nvoters Nsets Nrank ++ (zwC cI aQ Qcandidates Qballots Qseats Qwithdrawn Qvoters Qsets Qrank)))) hw hA [] [0, 1, 2, 3, 4, 5, 6, 7, 8, 9, 10] rfl rfl (by decide) (by decide) (va_runS (As := [.int p0]) (rest := []) ⟨hx, hb, hml, hown, hts⟩ (kX4_isVoters l D cI cJ cO N p0 u1 e2 H.size) (va_cwS 1 hts gX4_ballot_X4_isVoters rfl rfl rfl (by decide +kernel) ⟨Nat.le_of_ble_eq_true rfl, Nat.le_of_ble_eq_true rfl⟩) (zk_preS (wc := []) hN hK hw [] rfl (by decide)) rfl rfl hl.1 rfl (lv_room (Nat.le_of_ble_eq_true rfl)) dX4_ballot_1 ⟨Nat.zero_le _, Nat.zero_le _⟩) (fun H locs hw => ?_)
  have hw : Wd D A s.heap (zwL aL (aT 0) (aN 0) (aR 0) (aP 0) (aE 0) ++ (zwP cO aP Pring Ptop Psize ++ (zwC cI aN Ncandidates Nballots Nseats Nwithdrawn Nvoters Nsets Nrank ++ (zwC cI aQ Qcandidates Qballots Qseats Qwithdrawn Qvoters Qsets Qrank)))) H locs := hw
  refine lv_if_eq (tgt := 15) hx hb dX4_ballot_4 (by decide) (fun c3 => ?_) (fun c3 => ?_)
  · replace hf := zk_t c3 hf
    refine lv_iconst (v := (-1)) hx hb dX4_ballot_15 (by decide) ?_
    cases hf
    exact zk_iret hx hb hr hlocks rfl hQ hw [0, 1, 2, 3, 4, 5, 6, 7, 8, 9, 10] rfl (by decide) dX4_ballot_16
  · replace hf := zk_f c3 hf
    refine lv_aload_n hx hb dX4_ballot_7 rfl (lv_at hl 0 rfl) ?_
    refine lv_iload_n hx hb dX4_ballot_8 rfl (lv_at hl 2 rfl) ?_
    obtain ⟨u4, e5, hf⟩ := zk_bd hf
    refine zk_calli (wc := zwL aL (aT 0) (aN 0) (aR 0) (aP 0) (aE 0) ++ (zwC cI aN Ncandidates Nballots Nseats Nwithdrawn Nvoters Nsets Nrank)) (wr := zwP cO aP Pring Ptop Psize ++ (zwC cI aQ Qcandidates Qballots Qseats Qwithdrawn Qvoters Qsets Qrank)) hw hA [0, 3, 4, 5, 6] [1, 2, 7, 8, 9, 10] rfl rfl (by decide) (by decide) (va_runV (C := RX4) (As := [.int p1]) (rest := []) ⟨hx, hb, hml, hown, hts⟩ (kX4_isSet l D cI cJ cO N aL aN aT aR aP aE p1 Ncandidates Nballots Nseats Nwithdrawn Nvoters Nsets Nrank u4 e5 H.size) (cwV 1 hts gX4_ballot_X4_isSet rfl rfl rfl (by decide +kernel) ⟨Nat.le_of_ble_eq_true rfl, Nat.le_of_ble_eq_true rfl⟩) (zk_preV (wc := zwL aL (aT 0) (aN 0) (aR 0) (aP 0) (aE 0) ++ (zwC cI aN Ncandidates Nballots Nseats Nwithdrawn Nvoters Nsets Nrank)) hN hK hw [0, 3, 4, 5, 6] rfl (by decide) 0 4 rfl rfl) rfl rfl hl.1 rfl (lv_room (Nat.le_of_ble_eq_true rfl)) dX4_ballot_9 ⟨Nat.zero_le _, Nat.zero_le _⟩) (fun H locs hw => ?_)
    have hw : Wd D A s.heap (zwP cO aP Pring Ptop Psize ++ (zwC cI aQ Qcandidates Qballots Qseats Qwithdrawn Qvoters Qsets Qrank ++ (zwL aL (aT 0) (aN 0) (aR 0) (aP 0) (aE 0) ++ (zwC cI aN Ncandidates Nballots Nseats Nwithdrawn Nvoters Nsets Nrank)))) H locs := hw
    refine lv_if_ne (tgt := 17) hx hb dX4_ballot_12 (by decide) (fun c6 => ?_) (fun c6 => ?_)
    · replace hf := zk_f c6 hf
      refine lv_aload_n hx hb dX4_ballot_17 rfl (lv_at hl 0 rfl) ?_
      refine va_get (D := D) (ci := 4) (v := .ref (aN 0)) (C := RX4) (T := TX4) (N := 5) hx hb hts hiX4 hown hK hw.1 6 rfl rfl 1 (by decide) hq0 (fun _ h9 => h9) rfl dX4_ballot_18 ?_
      refine va_getN (D := D) (ci := 0) (v := .int Nballots) (C := RX0) (T := TX0) (N := 7) hx hb hts hiX0 hown hK hw.1 7 rfl rfl 1 (by decide) (va_Nw.use rfl (nwF_X4_82 hN)) (fun _ h9 => h9) rfl dX4_ballot_21 ?_
      refine lv_bipush (v := 10) hx hb dX4_ballot_24 (by decide) ?_
      refine lv_icmp_ge (tgt := 43) hx hb dX4_ballot_26 (by decide) (fun c7 => ?_) (fun c7 => ?_)
      · replace hf := zk_t c7 hf
        refine lv_bipush (v := (-3)) hx hb dX4_ballot_43 (by decide) ?_
        cases hf
        exact zk_iret hx hb hr hlocks rfl hQ hw [6, 0, 1, 7, 8, 9, 10, 2, 3, 4, 5] rfl (by decide) dX4_ballot_45
      · replace hf := zk_f c7 hf
        refine lv_aload_n hx hb dX4_ballot_29 rfl (lv_at hl 0 rfl) ?_
        refine va_get (D := D) (ci := 4) (v := .ref (aN 0)) (C := RX4) (T := TX4) (N := 5) hx hb hts hiX4 hown hK hw.1 6 rfl rfl 1 (by decide) hq0 (fun _ h9 => h9) rfl dX4_ballot_30 ?_
        obtain ⟨u8, e9, hf⟩ := zk_bd hf
        refine zk_calli (wc := zwC cI aN Ncandidates Nballots Nseats Nwithdrawn Nvoters Nsets Nrank) (wr := zwP cO aP Pring Ptop Psize ++ (zwC cI aQ Qcandidates Qballots Qseats Qwithdrawn Qvoters Qsets Qrank ++ (zwL aL (aT 0) (aN 0) (aR 0) (aP 0) (aE 0)))) hw hA [7, 8, 9, 10] [0, 1, 2, 3, 4, 5, 6] rfl rfl (by decide) (by decide) (va_runVN (C := RX0) (As := []) (rest := []) ⟨hx, hb, hml, hown, hts⟩ (kX0_allVoters l D cI cJ cO N aN Ncandidates Nballots Nseats Nwithdrawn Nvoters Nsets Nrank u8 e9 H.size) ⟨va_cnB 0 hts ggX4_ballot_X0_allVoters rfl rfl rfl (nwM_X4_85 hN) hq1 (by decide +kernel) ⟨Nat.le_of_ble_eq_true rfl, Nat.le_of_ble_eq_true rfl⟩, hq2, hq3⟩ (zk_preV (wc := zwC cI aN Ncandidates Nballots Nseats Nwithdrawn Nvoters Nsets Nrank) hN hK hw [7, 8, 9, 10] rfl (by decide) 7 0 rfl rfl) rfl rfl hl.1 rfl (lv_room (Nat.le_of_ble_eq_true rfl)) dX4_ballot_33 ⟨Nat.zero_le _, Nat.zero_le _⟩) (fun H locs hw => ?_)
        have hw : Wd D A s.heap (zwP cO aP Pring Ptop Psize ++ (zwC cI aQ Qcandidates Qballots Qseats Qwithdrawn Qvoters Qsets Qrank ++ (zwL aL (aT 0) (aN 0) (aR 0) (aP 0) (aE 0) ++ (zwC cI aN Ncandidates Nballots Nseats Nwithdrawn Nvoters Nsets Nrank)))) H locs := hw
        refine lv_iload_n hx hb dX4_ballot_36 rfl (lv_at hl 1 rfl) ?_
        refine lv_iadd hx hb dX4_ballot_37 ?_
        refine lv_bipush (v := 40) hx hb dX4_ballot_38 (by decide) ?_
        refine lv_icmp_le (tgt := 46) hx hb dX4_ballot_40 (by decide) (fun c10 => ?_) (fun c10 => ?_)
        · replace hf := zk_t c10 hf
          refine lv_aload_n hx hb dX4_ballot_46 rfl (lv_at hl 0 rfl) ?_
          refine va_get (D := D) (ci := 4) (v := .ref (aP 0)) (C := RX4) (T := TX4) (N := 5) hx hb hts hiX4 hown hK hw.1 6 rfl rfl 3 (by decide) hq4 (fun _ h9 => h9) rfl dX4_ballot_47 ?_
          refine lv_aload_n hx hb dX4_ballot_50 rfl (lv_at hl 0 rfl) ?_
          refine va_get (D := D) (ci := 4) (v := .ref (aN 0)) (C := RX4) (T := TX4) (N := 5) hx hb hts hiX4 hown hK hw.1 6 rfl rfl 1 (by decide) hq0 (fun _ h9 => h9) rfl dX4_ballot_51 ?_
          obtain ⟨u11, e12, hf⟩ := zk_bd hf
          refine zk_callv (wc := zwP cO aP Pring Ptop Psize ++ (zwC cI aN Ncandidates Nballots Nseats Nwithdrawn Nvoters Nsets Nrank ++ (zwC cI aQ Qcandidates Qballots Qseats Qwithdrawn Qvoters Qsets Qrank))) (wr := zwL aL (aT 0) (aN 0) (aR 0) (aP 0) (aE 0)) hw hA [0, 1, 7, 8, 9, 10, 2, 3, 4, 5] [6] rfl rfl (by decide) (by decide) (va_runVN (C := RX2) (As := [.ref (aN 0)]) (rest := []) ⟨hx, hb, hml, hown, hts⟩ (kX2_keep l D cI cJ cO N aP aN aQ Pring Ptop Psize Ncandidates Nballots Nseats Nwithdrawn Nvoters Nsets Nrank Qcandidates Qballots Qseats Qwithdrawn Qvoters Qsets Qrank hg u11 e12 H.size) ⟨va_cnB 1 hts ggX4_ballot_X2_keep rfl rfl rfl (nwM_X4_88 hN) hq5 (by decide +kernel) ⟨Nat.le_of_ble_eq_true rfl, Nat.le_of_ble_eq_true rfl⟩, hq6, hq7⟩ (zk_preV (wc := zwP cO aP Pring Ptop Psize ++ (zwC cI aN Ncandidates Nballots Nseats Nwithdrawn Nvoters Nsets Nrank ++ (zwC cI aQ Qcandidates Qballots Qseats Qwithdrawn Qvoters Qsets Qrank))) hN hK hw [0, 1, 7, 8, 9, 10, 2, 3, 4, 5] rfl (by decide) 0 2 rfl rfl) rfl rfl hl.1 rfl (lv_room (Nat.le_of_ble_eq_true rfl)) dX4_ballot_54 ⟨Nat.zero_le _, Nat.zero_le _⟩) (fun H locs hw => ?_)
          have hw : Wd D A s.heap (zwL aL (aT 0) (aN 0) (aR 0) (aP 0) (aE 0) ++ (zwP cO aP Pring u11.1 u11.2.1 ++ (zwC cI aN Ncandidates Nballots Nseats Nwithdrawn Nvoters Nsets Nrank ++ (zwC cI aQ u11.2.2.1 u11.2.2.2.1 u11.2.2.2.2.1 u11.2.2.2.2.2.1 u11.2.2.2.2.2.2.1 u11.2.2.2.2.2.2.2.1 u11.2.2.2.2.2.2.2.2)))) H locs := hw
          refine lv_aload_n hx hb dX4_ballot_57 rfl (lv_at hl 0 rfl) ?_
          refine va_get (D := D) (ci := 4) (v := .ref (aN 0)) (C := RX4) (T := TX4) (N := 5) hx hb hts hiX4 hown hK hw.1 0 rfl rfl 1 (by decide) hq0 (fun _ h9 => h9) rfl dX4_ballot_58 ?_
          refine lv_iload_n hx hb dX4_ballot_61 rfl (lv_at hl 1 rfl) ?_
          refine lv_iload_n hx hb dX4_ballot_62 rfl (lv_at hl 2 rfl) ?_
          obtain ⟨u13, e14, hf⟩ := zk_bd hf
          refine zk_callv (wc := zwC cI aN Ncandidates Nballots Nseats Nwithdrawn Nvoters Nsets Nrank) (wr := zwL aL (aT 0) (aN 0) (aR 0) (aP 0) (aE 0) ++ (zwP cO aP Pring u11.1 u11.2.1 ++ (zwC cI aQ u11.2.2.1 u11.2.2.2.1 u11.2.2.2.2.1 u11.2.2.2.2.2.1 u11.2.2.2.2.2.2.1 u11.2.2.2.2.2.2.2.1 u11.2.2.2.2.2.2.2.2))) hw hA [3, 4, 5, 6] [0, 1, 2, 7, 8, 9, 10] rfl rfl (by decide) (by decide) (va_runVN (C := RX0) (As := [.int p0, .int p1]) (rest := []) ⟨hx, hb, hml, hown, hts⟩ (kX0_addBallot l D cI cJ cO N aN p0 p1 Ncandidates Nballots Nseats Nwithdrawn Nvoters Nsets Nrank u13 e14 H.size) ⟨va_cnB 2 hts ggX4_ballot_X0_addBallot rfl rfl rfl (nwM_X4_91 hN) hq1 (by decide +kernel) ⟨Nat.le_of_ble_eq_true rfl, Nat.le_of_ble_eq_true rfl⟩, hq8, hq9⟩ (zk_preV (wc := zwC cI aN Ncandidates Nballots Nseats Nwithdrawn Nvoters Nsets Nrank) hN hK hw [3, 4, 5, 6] rfl (by decide) 3 0 rfl rfl) rfl rfl hl.1 rfl (lv_room (Nat.le_of_ble_eq_true rfl)) dX4_ballot_63 ⟨Nat.zero_le _, Nat.zero_le _⟩) (fun H locs hw => ?_)
          have hw : Wd D A s.heap (zwL aL (aT 0) (aN 0) (aR 0) (aP 0) (aE 0) ++ (zwP cO aP Pring u11.1 u11.2.1 ++ (zwC cI aQ u11.2.2.1 u11.2.2.2.1 u11.2.2.2.2.1 u11.2.2.2.2.2.1 u11.2.2.2.2.2.2.1 u11.2.2.2.2.2.2.2.1 u11.2.2.2.2.2.2.2.2 ++ (zwC cI aN Ncandidates u13.1 Nseats Nwithdrawn u13.2.1 u13.2.2 Nrank)))) H locs := hw
          refine lv_aload_n hx hb dX4_ballot_66 rfl (lv_at hl 0 rfl) ?_
          refine va_get (D := D) (ci := 4) (v := .ref (aN 0)) (C := RX4) (T := TX4) (N := 5) hx hb hts hiX4 hown hK hw.1 0 rfl rfl 1 (by decide) hq0 (fun _ h9 => h9) rfl dX4_ballot_67 ?_
          refine va_getN (D := D) (ci := 0) (v := .int u13.1) (C := RX0) (T := TX0) (N := 7) hx hb hts hiX0 hown hK hw.1 7 rfl rfl 1 (by decide) (va_Nw.use rfl (nwF_X4_82 hN)) (fun _ h9 => h9) rfl dX4_ballot_70 ?_
          refine lv_iconst (v := 1) hx hb dX4_ballot_73 (by decide) ?_
          refine lv_isub hx hb dX4_ballot_74 ?_
          cases hf
          exact zk_iret hx hb hr hlocks rfl hQ hw [0, 1, 2, 7, 8, 9, 10, 3, 4, 5, 6] rfl (by decide) dX4_ballot_75
        · replace hf := zk_f c10 hf
          refine lv_bipush (v := (-3)) hx hb dX4_ballot_43 (by decide) ?_
          cases hf
          exact zk_iret hx hb hr hlocks rfl hQ hw [6, 0, 1, 7, 8, 9, 10, 2, 3, 4, 5] rfl (by decide) dX4_ballot_45
    · replace hf := zk_t c6 hf
      refine lv_iconst (v := (-1)) hx hb dX4_ballot_15 (by decide) ?_
      cases hf
      exact zk_iret hx hb hr hlocks rfl hQ hw [6, 0, 1, 7, 8, 9, 10, 2, 3, 4, 5] rfl (by decide) dX4_ballot_16
set_option maxHeartbeats 4000000 in
set_option maxRecDepth 100000 in
theorem kX5_in (l : Launch) (D : va_G) (cI cJ cO : ClassId) (N : Nat) (p0 : Int32) (p1 : Int32) (p2 : Int32) (u : Int32) (hf : fX5_in N p0 p1 p2 = some u) : CtI l yX5_in wsX5_in (zk_rm 0 0) D cI cJ cO [.int p0, .int p1, .int p2] ([]) ([]) (u) := by
  refine zk_enter (cc := cX5_in) (maxL := 3) (ret := some .boolean) (own := RX5) (Qf := fun A => QwI D ([]) (u) A) (by decide) rfl rfl (Nat.le_of_ble_eq_true rfl) ?_
  intro p e s m args below meth c A Q H locs ls hC hQ hw hl
  obtain ⟨hx, hb, hml, hr, hts, hown, hlocks, hN, hK, hA⟩ := hC
  have hl : lv_has ls 3 [(0, .int p0), (1, .int p1), (2, .int p2)] := hl
  unfold fX5_in at hf
  refine lv_iload_n hx hb dX5_in_0 rfl (lv_at hl 0 rfl) ?_
  refine lv_iload_n hx hb dX5_in_1 rfl (lv_at hl 1 rfl) ?_
  refine lv_icmp_lt (tgt := 14) hx hb dX5_in_2 (by decide) (fun c1 => ?_) (fun c1 => ?_)
  · replace hf := zk_t c1 hf
    refine lv_iconst (v := 0) hx hb dX5_in_14 (by decide) ?_
    cases hf
    exact zk_iret hx hb hr hlocks rfl hQ hw [] rfl (by decide) dX5_in_15
  · replace hf := zk_f c1 hf
    refine lv_iload_n hx hb dX5_in_5 rfl (lv_at hl 0 rfl) ?_
    refine lv_iload_n hx hb dX5_in_6 rfl (lv_at hl 2 rfl) ?_
    refine lv_icmp_gt (tgt := 14) hx hb dX5_in_7 (by decide) (fun c2 => ?_) (fun c2 => ?_)
    · replace hf := zk_t c2 hf
      refine lv_iconst (v := 0) hx hb dX5_in_14 (by decide) ?_
      cases hf
      exact zk_iret hx hb hr hlocks rfl hQ hw [] rfl (by decide) dX5_in_15
    · replace hf := zk_f c2 hf
      refine lv_iconst (v := 1) hx hb dX5_in_10 (by decide) ?_
      refine lv_goto (tgt := 15) hx hb dX5_in_11 (by decide) ?_
      cases hf
      exact zk_iret hx hb hr hlocks rfl hQ hw [] rfl (by decide) dX5_in_15
set_option maxHeartbeats 4000000 in
set_option maxRecDepth 100000 in
theorem kX5_has (l : Launch) (D : va_G) (cI cJ cO : ClassId) (N : Nat) (p0 : Int32) (p1 : Int32) (u : Int32) (hf : fX5_has N p0 p1 = some u) : CtI l yX5_has wsX5_has (zk_rm 0 0) D cI cJ cO [.int p0, .int p1] ([]) ([]) (u) := by
  refine zk_enter (cc := cX5_has) (maxL := 2) (ret := some .boolean) (own := RX5) (Qf := fun A => QwI D ([]) (u) A) (by decide) rfl rfl (Nat.le_of_ble_eq_true rfl) ?_
  intro p e s m args below meth c A Q H locs ls hC hQ hw hl
  obtain ⟨hx, hb, hml, hr, hts, hown, hlocks, hN, hK, hA⟩ := hC
  have hl : lv_has ls 2 [(0, .int p0), (1, .int p1)] := hl
  unfold fX5_has at hf
  refine lv_iload_n hx hb dX5_has_0 rfl (lv_at hl 0 rfl) ?_
  refine lv_iload_n hx hb dX5_has_1 rfl (lv_at hl 1 rfl) ?_
  refine lv_ishr hx hb dX5_has_2 ?_
  refine lv_iconst (v := 1) hx hb dX5_has_3 (by decide) ?_
  refine lv_iand hx hb dX5_has_4 ?_
  refine lv_iconst (v := 1) hx hb dX5_has_5 (by decide) ?_
  refine lv_icmp_ne (tgt := 13) hx hb dX5_has_6 (by decide) (fun c1 => ?_) (fun c1 => ?_)
  · replace hf := zk_f c1 hf
    refine lv_iconst (v := 0) hx hb dX5_has_13 (by decide) ?_
    cases hf
    exact zk_iret hx hb hr hlocks rfl hQ hw [] rfl (by decide) dX5_has_14
  · replace hf := zk_t c1 hf
    refine lv_iconst (v := 1) hx hb dX5_has_9 (by decide) ?_
    refine lv_goto (tgt := 14) hx hb dX5_has_10 (by decide) ?_
    cases hf
    exact zk_iret hx hb hr hlocks rfl hQ hw [] rfl (by decide) dX5_has_14
set_option maxHeartbeats 4000000 in
set_option maxRecDepth 100000 in
theorem kX5_ones (l : Launch) (D : va_G) (cI cJ cO : ClassId) (N : Nat) (p0 : Int32) (u : Int32) (hf : fX5_ones N p0 = some u) : CtI l yX5_ones wsX5_ones (zk_rm 0 0) D cI cJ cO [.int p0] ([]) ([]) (u) := by
  refine zk_enter (cc := cX5_ones) (maxL := 3) (ret := some .int) (own := RX5) (Qf := fun A => QwI D ([]) (u) A) (by decide) rfl rfl (Nat.le_of_ble_eq_true rfl) ?_
  intro p e s m args below meth c A Q H locs ls hC hQ hw hl
  obtain ⟨hx, hb, hml, hr, hts, hown, hlocks, hN, hK, hA⟩ := hC
  have hl : lv_has ls 3 [(0, .int p0)] := hl
  have b4 : ∀ (n4 : Nat), ∀ (x0 : Int32) (x1 : Int32) (x2 : Int32), fX5_ones_b4 N n4 x0 x1 x2 = some u → ∀ (H : Heap) (locs : List Loc) (ls : Array Slot), Wd D A s.heap ([]) H locs → lv_has ls 3 [(0, .int x0), (1, .int x1), (2, .int x2)] → W p l e (zk_rm 0 0) s m args below meth c H locs 0 0 Q (F0 m 4 ls []) := by
    intro n4
    induction n4 with
    | zero =>
      intro x0 x1 x2 hf
      exact zk_none hf
    | succ n4 ih4 =>
      intro x0 x1 x2 hf H locs ls hw hl
      rw [fX5_ones_b4] at hf
      refine lv_iload_n hx hb dX5_ones_4 rfl (lv_at hl 2 rfl) ?_
      refine lv_bipush (v := 11) hx hb dX5_ones_5 (by decide) ?_
      refine lv_icmp_ge (tgt := 24) hx hb dX5_ones_7 (by decide) (fun c1 => ?_) (fun c1 => ?_)
      · replace hf := zk_t c1 hf
        refine lv_iload_n hx hb dX5_ones_24 rfl (lv_at hl 1 rfl) ?_
        cases hf
        exact zk_iret hx hb hr hlocks rfl hQ hw [] rfl (by decide) dX5_ones_25
      · replace hf := zk_f c1 hf
        refine lv_iload_n hx hb dX5_ones_10 rfl (lv_at hl 1 rfl) ?_
        refine lv_iload_n hx hb dX5_ones_11 rfl (lv_at hl 0 rfl) ?_
        refine lv_iload_n hx hb dX5_ones_12 rfl (lv_at hl 2 rfl) ?_
        refine lv_ishr hx hb dX5_ones_13 ?_
        refine lv_iconst (v := 1) hx hb dX5_ones_14 (by decide) ?_
        refine lv_iand hx hb dX5_ones_15 ?_
        refine lv_iadd hx hb dX5_ones_16 ?_
        refine lv_istore_n (lv' := [(1, .int (x1 + ((x0 >>> (x2 &&& 31)) &&& (1 : Int32)))), (0, .int x0), (2, .int x2)]) hx hb dX5_ones_17 rfl hl (by decide) rfl (fun ls hl => ?_)
        refine lv_iinc (v := (x2 + (1 : Int32))) (lv' := [(2, .int (x2 + (1 : Int32))), (1, .int (x1 + ((x0 >>> (x2 &&& 31)) &&& (1 : Int32)))), (0, .int x0)]) hx hb dX5_ones_18 hl (k := 2) rfl rfl (by decide) rfl (fun ls hl => ?_)
        refine lv_goto (tgt := 4) hx hb dX5_ones_21 (by decide) ?_
        exact ih4 x0 (x1 + ((x0 >>> (x2 &&& 31)) &&& (1 : Int32))) (x2 + (1 : Int32)) hf H locs ls hw (lv_sub hl [2, 1, 0] rfl)
  unfold fX5_ones at hf
  refine lv_iconst (v := 0) hx hb dX5_ones_0 (by decide) ?_
  refine lv_istore_n (lv' := [(1, .int (0 : Int32)), (0, .int p0)]) hx hb dX5_ones_1 rfl hl (by decide) rfl (fun ls hl => ?_)
  refine lv_iconst (v := 0) hx hb dX5_ones_2 (by decide) ?_
  refine lv_istore_n (lv' := [(2, .int (0 : Int32)), (1, .int (0 : Int32)), (0, .int p0)]) hx hb dX5_ones_3 rfl hl (by decide) rfl (fun ls hl => ?_)
  exact b4 N p0 (0 : Int32) (0 : Int32) hf H locs ls hw (lv_sub hl [2, 1, 0] rfl)
set_option maxHeartbeats 4000000 in
set_option maxRecDepth 100000 in
theorem kX5_adds (l : Launch) (D : va_G) (cI cJ cO : ClassId) (N : Nat) (aM : Nat → Nat) (p0 : Int32) (p1 : Int32) (Mnow : Nat → Int32) (Mread : Nat → Int32) (Mpast : Nat → Int32) (Mchanges : Int32) (Mtext : Nat → Int32) (Mletters : Int32) (Mheads : Nat → Int32) (Msets : Nat → Int32) (Mballots : Int32) (Mranks : Nat → Int32) (Mloads : Nat → Int64) (Mbelow : Int64) (Morder : Nat → Int32) (Melected : Int32) (Mmembers : Int32) (Mabove : Nat → Int64) (Munder : Nat → Int64) (Mspot : Int32) (Mvalue : Int32) (u : (Nat → Int32)) (hf : fX5_adds N p0 p1 Mnow = some u) : CtV l yX5_adds wsX5_adds (zk_rm 0 0) D cI cJ cO [.ref (aM 0), .int p0, .int p1] (zwM cI cJ aM Mnow Mread Mpast Mchanges Mtext Mletters Mheads Msets Mballots Mranks Mloads Mbelow Morder Melected Mmembers Mabove Munder Mspot Mvalue) (zwM cI cJ aM u Mread Mpast Mchanges Mtext Mletters Mheads Msets Mballots Mranks Mloads Mbelow Morder Melected Mmembers Mabove Munder Mspot Mvalue) := by
  refine zk_enter (cc := cX5_adds) (maxL := 3) (ret := none) (own := RX5) (Qf := fun A => QwV D (zwM cI cJ aM u Mread Mpast Mchanges Mtext Mletters Mheads Msets Mballots Mranks Mloads Mbelow Morder Melected Mmembers Mabove Munder Mspot Mvalue) A) (by decide) rfl rfl (Nat.le_of_ble_eq_true rfl) ?_
  intro p e s m args below meth c A Q H locs ls hC hQ hw hl
  obtain ⟨hx, hb, hml, hr, hts, hown, hlocks, hN, hK, hA⟩ := hC
  have hl : lv_has ls 3 [(0, .ref (aM 0)), (1, .int p0), (2, .int p1)] := hl
  have hiX5 : ∀ w ∈ u_ws RX5 TX5 19, w ∈ wsX5_adds := by decide +kernel
  have hq0 := hts (.fieldLink RX5 7 "LoadCouncilModel" "now" "[I") (by decide +kernel)
  unfold fX5_adds at hf
  refine lv_aload_n hx hb dX5_adds_0 rfl (lv_at hl 0 rfl) ?_
  refine va_get (D := D) (ci := 5) (v := .ref (aM 1)) (C := RX5) (T := TX5) (N := 19) hx hb hts hiX5 hown hK hw.1 0 rfl rfl 0 (by decide) hq0 (fun _ h9 => h9) rfl dX5_adds_1 ?_
  refine lv_iconst (v := 2) hx hb dX5_adds_4 (by decide) ?_
  refine lv_aload_n hx hb dX5_adds_5 rfl (lv_at hl 0 rfl) ?_
  refine va_get (D := D) (ci := 5) (v := .ref (aM 1)) (C := RX5) (T := TX5) (N := 19) hx hb hts hiX5 hown hK hw.1 0 rfl rfl 0 (by decide) hq0 (fun _ h9 => h9) rfl dX5_adds_6 ?_
  refine lv_iconst (v := 1) hx hb dX5_adds_9 (by decide) ?_
  refine zk_iald hx hb hK hw 1 rfl (zk_in (by decide)) (j := 1) rfl dX5_adds_10 ?_
  refine lv_iadd hx hb dX5_adds_11 ?_
  refine lv_iload_n hx hb dX5_adds_12 rfl (lv_at hl 1 rfl) ?_
  obtain ⟨h1, hf⟩ := zk_ck hf
  refine zk_iast hx hb hK hw 1 rfl h1 (j := ((2 : Int32) + (Mnow 1)).toNatClampNeg) rfl dX5_adds_13 (fun H locs hw => ?_)
  have hw : Wd D A s.heap (zwM cI cJ aM (upd Mnow (((2 : Int32) + (Mnow 1)).toNatClampNeg) p0) Mread Mpast Mchanges Mtext Mletters Mheads Msets Mballots Mranks Mloads Mbelow Morder Melected Mmembers Mabove Munder Mspot Mvalue) H locs := hw
  refine lv_aload_n hx hb dX5_adds_14 rfl (lv_at hl 0 rfl) ?_
  refine va_get (D := D) (ci := 5) (v := .ref (aM 1)) (C := RX5) (T := TX5) (N := 19) hx hb hts hiX5 hown hK hw.1 0 rfl rfl 0 (by decide) hq0 (fun _ h9 => h9) rfl dX5_adds_15 ?_
  refine lv_bipush (v := 12) hx hb dX5_adds_18 (by decide) ?_
  refine lv_aload_n hx hb dX5_adds_20 rfl (lv_at hl 0 rfl) ?_
  refine va_get (D := D) (ci := 5) (v := .ref (aM 1)) (C := RX5) (T := TX5) (N := 19) hx hb hts hiX5 hown hK hw.1 0 rfl rfl 0 (by decide) hq0 (fun _ h9 => h9) rfl dX5_adds_21 ?_
  refine lv_iconst (v := 1) hx hb dX5_adds_24 (by decide) ?_
  refine zk_iald hx hb hK hw 1 rfl (zk_in (by decide)) (j := 1) rfl dX5_adds_25 ?_
  refine lv_iadd hx hb dX5_adds_26 ?_
  refine lv_iload_n hx hb dX5_adds_27 rfl (lv_at hl 2 rfl) ?_
  obtain ⟨h2, hf⟩ := zk_ck hf
  refine zk_iast hx hb hK hw 1 rfl h2 (j := ((12 : Int32) + ((upd Mnow (((2 : Int32) + (Mnow 1)).toNatClampNeg) p0) 1)).toNatClampNeg) rfl dX5_adds_28 (fun H locs hw => ?_)
  have hw : Wd D A s.heap (zwM cI cJ aM (upd (upd Mnow (((2 : Int32) + (Mnow 1)).toNatClampNeg) p0) (((12 : Int32) + ((upd Mnow (((2 : Int32) + (Mnow 1)).toNatClampNeg) p0) 1)).toNatClampNeg) p1) Mread Mpast Mchanges Mtext Mletters Mheads Msets Mballots Mranks Mloads Mbelow Morder Melected Mmembers Mabove Munder Mspot Mvalue) H locs := hw
  refine lv_aload_n hx hb dX5_adds_29 rfl (lv_at hl 0 rfl) ?_
  refine va_get (D := D) (ci := 5) (v := .ref (aM 1)) (C := RX5) (T := TX5) (N := 19) hx hb hts hiX5 hown hK hw.1 0 rfl rfl 0 (by decide) hq0 (fun _ h9 => h9) rfl dX5_adds_30 ?_
  refine lv_iconst (v := 1) hx hb dX5_adds_33 (by decide) ?_
  refine lv_dup2_11 hx hb dX5_adds_34 rfl rfl ?_
  refine zk_iald hx hb hK hw 1 rfl (zk_in (by decide)) (j := 1) rfl dX5_adds_35 ?_
  refine lv_iconst (v := 1) hx hb dX5_adds_36 (by decide) ?_
  refine lv_iadd hx hb dX5_adds_37 ?_
  refine zk_iast hx hb hK hw 1 rfl (zk_in (by decide)) (j := 1) rfl dX5_adds_38 (fun H locs hw => ?_)
  have hw : Wd D A s.heap (zwM cI cJ aM (upd (upd (upd Mnow (((2 : Int32) + (Mnow 1)).toNatClampNeg) p0) (((12 : Int32) + ((upd Mnow (((2 : Int32) + (Mnow 1)).toNatClampNeg) p0) 1)).toNatClampNeg) p1) 1 (((upd (upd Mnow (((2 : Int32) + (Mnow 1)).toNatClampNeg) p0) (((12 : Int32) + ((upd Mnow (((2 : Int32) + (Mnow 1)).toNatClampNeg) p0) 1)).toNatClampNeg) p1) 1) + (1 : Int32))) Mread Mpast Mchanges Mtext Mletters Mheads Msets Mballots Mranks Mloads Mbelow Morder Melected Mmembers Mabove Munder Mspot Mvalue) H locs := hw
  cases hf
  exact zk_vret hx hb hr hlocks hQ hw [0, 1, 2, 3, 4, 5, 6, 7, 8, 9, 10, 11] rfl (by decide) dX5_adds_39
set_option maxHeartbeats 4000000 in
set_option maxRecDepth 100000 in
theorem kX5_isCandidate (l : Launch) (D : va_G) (cI cJ cO : ClassId) (N : Nat) (aM : Nat → Nat) (p0 : Int32) (Mnow : Nat → Int32) (Mread : Nat → Int32) (Mpast : Nat → Int32) (Mchanges : Int32) (Mtext : Nat → Int32) (Mletters : Int32) (Mheads : Nat → Int32) (Msets : Nat → Int32) (Mballots : Int32) (Mranks : Nat → Int32) (Mloads : Nat → Int64) (Mbelow : Int64) (Morder : Nat → Int32) (Melected : Int32) (Mmembers : Int32) (Mabove : Nat → Int64) (Munder : Nat → Int64) (Mspot : Int32) (Mvalue : Int32) (u : Int32) (hf : fX5_isCandidate N p0 Mnow = some u) : CtI l yX5_isCandidate wsX5_isCandidate (zk_rm 1 22) D cI cJ cO [.ref (aM 0), .int p0] (zwM cI cJ aM Mnow Mread Mpast Mchanges Mtext Mletters Mheads Msets Mballots Mranks Mloads Mbelow Morder Melected Mmembers Mabove Munder Mspot Mvalue) (zwM cI cJ aM Mnow Mread Mpast Mchanges Mtext Mletters Mheads Msets Mballots Mranks Mloads Mbelow Morder Melected Mmembers Mabove Munder Mspot Mvalue) (u) := by
  refine zk_enter (cc := cX5_isCandidate) (maxL := 2) (ret := some .boolean) (own := RX5) (Qf := fun A => QwI D (zwM cI cJ aM Mnow Mread Mpast Mchanges Mtext Mletters Mheads Msets Mballots Mranks Mloads Mbelow Morder Melected Mmembers Mabove Munder Mspot Mvalue) (u) A) (by decide) rfl rfl (Nat.le_of_ble_eq_true rfl) ?_
  intro p e s m args below meth c A Q H locs ls hC hQ hw hl
  obtain ⟨hx, hb, hml, hr, hts, hown, hlocks, hN, hK, hA⟩ := hC
  have hl : lv_has ls 2 [(0, .ref (aM 0)), (1, .int p0)] := hl
  have hiX5 : ∀ w ∈ u_ws RX5 TX5 19, w ∈ wsX5_isCandidate := by decide +kernel
  have hq0 := hts (.fieldLink RX5 7 "LoadCouncilModel" "now" "[I") (by decide +kernel)
  unfold fX5_isCandidate at hf
  refine lv_iload_n hx hb dX5_isCandidate_0 rfl (lv_at hl 1 rfl) ?_
  refine lv_iconst (v := 0) hx hb dX5_isCandidate_1 (by decide) ?_
  refine lv_aload_n hx hb dX5_isCandidate_2 rfl (lv_at hl 0 rfl) ?_
  refine va_get (D := D) (ci := 5) (v := .ref (aM 1)) (C := RX5) (T := TX5) (N := 19) hx hb hts hiX5 hown hK hw.1 0 rfl rfl 0 (by decide) hq0 (fun _ h9 => h9) rfl dX5_isCandidate_3 ?_
  refine lv_iconst (v := 0) hx hb dX5_isCandidate_6 (by decide) ?_
  refine zk_iald hx hb hK hw 1 rfl (zk_in (by decide)) (j := 0) rfl dX5_isCandidate_7 ?_
  refine lv_iconst (v := 1) hx hb dX5_isCandidate_8 (by decide) ?_
  refine lv_isub hx hb dX5_isCandidate_9 ?_
  obtain ⟨u1, e2, hf⟩ := zk_bd hf
  refine zk_calli (wc := []) (wr := zwM cI cJ aM Mnow Mread Mpast Mchanges Mtext Mletters Mheads Msets Mballots Mranks Mloads Mbelow Morder Melected Mmembers Mabove Munder Mspot Mvalue) hw hA [] [0, 1, 2, 3, 4, 5, 6, 7, 8, 9, 10, 11] rfl rfl (by decide) (by decide) (va_runS (As := [.int p0, .int (0 : Int32), .int ((Mnow 0) - (1 : Int32))]) (rest := []) ⟨hx, hb, hml, hown, hts⟩ (kX5_in l D cI cJ cO N p0 (0 : Int32) ((Mnow 0) - (1 : Int32)) u1 e2 H.size) (va_cwS 3 hts gX5_isCandidate_X5_in rfl rfl rfl (by decide +kernel) ⟨Nat.le_of_ble_eq_true rfl, Nat.le_of_ble_eq_true rfl⟩) (zk_preS (wc := []) hN hK hw [] rfl (by decide)) rfl rfl hl.1 rfl (lv_room (Nat.le_of_ble_eq_true rfl)) dX5_isCandidate_10 ⟨Nat.zero_le _, Nat.zero_le _⟩) (fun H locs hw => ?_)
  have hw : Wd D A s.heap (zwM cI cJ aM Mnow Mread Mpast Mchanges Mtext Mletters Mheads Msets Mballots Mranks Mloads Mbelow Morder Melected Mmembers Mabove Munder Mspot Mvalue) H locs := hw
  obtain ⟨h3, hf⟩ := zk_ck hf
  cases hf
  exact zk_iret hx hb hr hlocks (zk_nb h3) hQ hw [0, 1, 2, 3, 4, 5, 6, 7, 8, 9, 10, 11] rfl (by decide) dX5_isCandidate_13
set_option maxHeartbeats 4000000 in
set_option maxRecDepth 100000 in
theorem kX5_allVoters (l : Launch) (D : va_G) (cI cJ cO : ClassId) (N : Nat) (aM : Nat → Nat) (Mnow : Nat → Int32) (Mread : Nat → Int32) (Mpast : Nat → Int32) (Mchanges : Int32) (Mtext : Nat → Int32) (Mletters : Int32) (Mheads : Nat → Int32) (Msets : Nat → Int32) (Mballots : Int32) (Mranks : Nat → Int32) (Mloads : Nat → Int64) (Mbelow : Int64) (Morder : Nat → Int32) (Melected : Int32) (Mmembers : Int32) (Mabove : Nat → Int64) (Munder : Nat → Int64) (Mspot : Int32) (Mvalue : Int32) (u : Int32) (hf : fX5_allVoters N Mnow = some u) : CtI l yX5_allVoters wsX5_allVoters (zk_rm 0 0) D cI cJ cO [.ref (aM 0)] (zwM cI cJ aM Mnow Mread Mpast Mchanges Mtext Mletters Mheads Msets Mballots Mranks Mloads Mbelow Morder Melected Mmembers Mabove Munder Mspot Mvalue) (zwM cI cJ aM Mnow Mread Mpast Mchanges Mtext Mletters Mheads Msets Mballots Mranks Mloads Mbelow Morder Melected Mmembers Mabove Munder Mspot Mvalue) (u) := by
  refine zk_enter (cc := cX5_allVoters) (maxL := 3) (ret := some .int) (own := RX5) (Qf := fun A => QwI D (zwM cI cJ aM Mnow Mread Mpast Mchanges Mtext Mletters Mheads Msets Mballots Mranks Mloads Mbelow Morder Melected Mmembers Mabove Munder Mspot Mvalue) (u) A) (by decide) rfl rfl (Nat.le_of_ble_eq_true rfl) ?_
  intro p e s m args below meth c A Q H locs ls hC hQ hw hl
  obtain ⟨hx, hb, hml, hr, hts, hown, hlocks, hN, hK, hA⟩ := hC
  have hl : lv_has ls 3 [(0, .ref (aM 0))] := hl
  have hiX5 : ∀ w ∈ u_ws RX5 TX5 19, w ∈ wsX5_allVoters := by decide +kernel
  have hq0 := hts (.fieldLink RX5 7 "LoadCouncilModel" "now" "[I") (by decide +kernel)
  have b4 : ∀ (n4 : Nat), ∀ (x1 : Int32) (x2 : Int32), fX5_allVoters_b4 N n4 x1 x2 Mnow = some u → ∀ (H : Heap) (locs : List Loc) (ls : Array Slot), Wd D A s.heap (zwM cI cJ aM Mnow Mread Mpast Mchanges Mtext Mletters Mheads Msets Mballots Mranks Mloads Mbelow Morder Melected Mmembers Mabove Munder Mspot Mvalue) H locs → lv_has ls 3 [(0, .ref (aM 0)), (1, .int x1), (2, .int x2)] → W p l e (zk_rm 0 0) s m args below meth c H locs 0 0 Q (F0 m 4 ls []) := by
    intro n4
    induction n4 with
    | zero =>
      intro x1 x2 hf
      exact zk_none hf
    | succ n4 ih4 =>
      intro x1 x2 hf H locs ls hw hl
      rw [fX5_allVoters_b4] at hf
      refine lv_iload_n hx hb dX5_allVoters_4 rfl (lv_at hl 2 rfl) ?_
      refine lv_aload_n hx hb dX5_allVoters_5 rfl (lv_at hl 0 rfl) ?_
      refine va_get (D := D) (ci := 5) (v := .ref (aM 1)) (C := RX5) (T := TX5) (N := 19) hx hb hts hiX5 hown hK hw.1 0 rfl rfl 0 (by decide) hq0 (fun _ h9 => h9) rfl dX5_allVoters_6 ?_
      refine lv_iconst (v := 1) hx hb dX5_allVoters_9 (by decide) ?_
      refine zk_iald hx hb hK hw 1 rfl (zk_in (by decide)) (j := 1) rfl dX5_allVoters_10 ?_
      refine lv_icmp_ge (tgt := 31) hx hb dX5_allVoters_11 (by decide) (fun c1 => ?_) (fun c1 => ?_)
      · replace hf := zk_t c1 hf
        refine lv_iload_n hx hb dX5_allVoters_31 rfl (lv_at hl 1 rfl) ?_
        cases hf
        exact zk_iret hx hb hr hlocks rfl hQ hw [0, 1, 2, 3, 4, 5, 6, 7, 8, 9, 10, 11] rfl (by decide) dX5_allVoters_32
      · replace hf := zk_f c1 hf
        refine lv_iload_n hx hb dX5_allVoters_14 rfl (lv_at hl 1 rfl) ?_
        refine lv_aload_n hx hb dX5_allVoters_15 rfl (lv_at hl 0 rfl) ?_
        refine va_get (D := D) (ci := 5) (v := .ref (aM 1)) (C := RX5) (T := TX5) (N := 19) hx hb hts hiX5 hown hK hw.1 0 rfl rfl 0 (by decide) hq0 (fun _ h9 => h9) rfl dX5_allVoters_16 ?_
        refine lv_iconst (v := 2) hx hb dX5_allVoters_19 (by decide) ?_
        refine lv_iload_n hx hb dX5_allVoters_20 rfl (lv_at hl 2 rfl) ?_
        refine lv_iadd hx hb dX5_allVoters_21 ?_
        obtain ⟨h2, hf⟩ := zk_ck hf
        refine zk_iald hx hb hK hw 1 rfl h2 (j := ((2 : Int32) + x2).toNatClampNeg) rfl dX5_allVoters_22 ?_
        refine lv_iadd hx hb dX5_allVoters_23 ?_
        refine lv_istore_n (lv' := [(1, .int (x1 + (Mnow (((2 : Int32) + x2).toNatClampNeg)))), (0, .ref (aM 0)), (2, .int x2)]) hx hb dX5_allVoters_24 rfl hl (by decide) rfl (fun ls hl => ?_)
        refine lv_iinc (v := (x2 + (1 : Int32))) (lv' := [(2, .int (x2 + (1 : Int32))), (1, .int (x1 + (Mnow (((2 : Int32) + x2).toNatClampNeg)))), (0, .ref (aM 0))]) hx hb dX5_allVoters_25 hl (k := 2) rfl rfl (by decide) rfl (fun ls hl => ?_)
        refine lv_goto (tgt := 4) hx hb dX5_allVoters_28 (by decide) ?_
        exact ih4 (x1 + (Mnow (((2 : Int32) + x2).toNatClampNeg))) (x2 + (1 : Int32)) hf H locs ls hw (lv_sub hl [2, 1, 0] rfl)
  unfold fX5_allVoters at hf
  refine lv_iconst (v := 0) hx hb dX5_allVoters_0 (by decide) ?_
  refine lv_istore_n (lv' := [(1, .int (0 : Int32)), (0, .ref (aM 0))]) hx hb dX5_allVoters_1 rfl hl (by decide) rfl (fun ls hl => ?_)
  refine lv_iconst (v := 0) hx hb dX5_allVoters_2 (by decide) ?_
  refine lv_istore_n (lv' := [(2, .int (0 : Int32)), (1, .int (0 : Int32)), (0, .ref (aM 0))]) hx hb dX5_allVoters_3 rfl hl (by decide) rfl (fun ls hl => ?_)
  exact b4 N (0 : Int32) (0 : Int32) hf H locs ls hw (lv_sub hl [2, 1, 0] rfl)
set_option maxHeartbeats 4000000 in
set_option maxRecDepth 100000 in
theorem kX5_write (l : Launch) (D : va_G) (cI cJ cO : ClassId) (N : Nat) (aM : Nat → Nat) (p0 : Int32) (Mnow : Nat → Int32) (Mread : Nat → Int32) (Mpast : Nat → Int32) (Mchanges : Int32) (Mtext : Nat → Int32) (Mletters : Int32) (Mheads : Nat → Int32) (Msets : Nat → Int32) (Mballots : Int32) (Mranks : Nat → Int32) (Mloads : Nat → Int64) (Mbelow : Int64) (Morder : Nat → Int32) (Melected : Int32) (Mmembers : Int32) (Mabove : Nat → Int64) (Munder : Nat → Int64) (Mspot : Int32) (Mvalue : Int32) (u : Int32 × (Nat → Int32) × (Int32)) (hf : fX5_write N p0 Mtext Mletters = some u) : CtI l yX5_write wsX5_write (zk_rm 1 22) D cI cJ cO [.ref (aM 0), .int p0] (zwM cI cJ aM Mnow Mread Mpast Mchanges Mtext Mletters Mheads Msets Mballots Mranks Mloads Mbelow Morder Melected Mmembers Mabove Munder Mspot Mvalue) (zwM cI cJ aM Mnow Mread Mpast Mchanges u.2.1 u.2.2 Mheads Msets Mballots Mranks Mloads Mbelow Morder Melected Mmembers Mabove Munder Mspot Mvalue) (u.1) := by
  refine zk_enter (cc := cX5_write) (maxL := 2) (ret := some .int) (own := RX5) (Qf := fun A => QwI D (zwM cI cJ aM Mnow Mread Mpast Mchanges u.2.1 u.2.2 Mheads Msets Mballots Mranks Mloads Mbelow Morder Melected Mmembers Mabove Munder Mspot Mvalue) (u.1) A) (by decide) rfl rfl (Nat.le_of_ble_eq_true rfl) ?_
  intro p e s m args below meth c A Q H locs ls hC hQ hw hl
  obtain ⟨hx, hb, hml, hr, hts, hown, hlocks, hN, hK, hA⟩ := hC
  have hl : lv_has ls 2 [(0, .ref (aM 0)), (1, .int p0)] := hl
  have hiX5 : ∀ w ∈ u_ws RX5 TX5 19, w ∈ wsX5_write := by decide +kernel
  have hq0 := hts (.fieldLink RX5 52 "LoadCouncilModel" "letters" "I") (by decide +kernel)
  have hq1 := hts (.fieldLink RX5 19 "LoadCouncilModel" "text" "[I") (by decide +kernel)
  unfold fX5_write at hf
  refine lv_iload_n hx hb dX5_write_0 rfl (lv_at hl 1 rfl) ?_
  refine lv_bipush (v := 32) hx hb dX5_write_1 (by decide) ?_
  refine lv_bipush (v := 126) hx hb dX5_write_3 (by decide) ?_
  obtain ⟨u1, e2, hf⟩ := zk_bd hf
  refine zk_calli (wc := []) (wr := zwM cI cJ aM Mnow Mread Mpast Mchanges Mtext Mletters Mheads Msets Mballots Mranks Mloads Mbelow Morder Melected Mmembers Mabove Munder Mspot Mvalue) hw hA [] [0, 1, 2, 3, 4, 5, 6, 7, 8, 9, 10, 11] rfl rfl (by decide) (by decide) (va_runS (As := [.int p0, .int (32 : Int32), .int (126 : Int32)]) (rest := []) ⟨hx, hb, hml, hown, hts⟩ (kX5_in l D cI cJ cO N p0 (32 : Int32) (126 : Int32) u1 e2 H.size) (va_cwS 3 hts gX5_write_X5_in rfl rfl rfl (by decide +kernel) ⟨Nat.le_of_ble_eq_true rfl, Nat.le_of_ble_eq_true rfl⟩) (zk_preS (wc := []) hN hK hw [] rfl (by decide)) rfl rfl hl.1 rfl (lv_room (Nat.le_of_ble_eq_true rfl)) dX5_write_5 ⟨Nat.zero_le _, Nat.zero_le _⟩) (fun H locs hw => ?_)
  have hw : Wd D A s.heap (zwM cI cJ aM Mnow Mread Mpast Mchanges Mtext Mletters Mheads Msets Mballots Mranks Mloads Mbelow Morder Melected Mmembers Mabove Munder Mspot Mvalue) H locs := hw
  refine lv_if_ne (tgt := 13) hx hb dX5_write_8 (by decide) (fun c3 => ?_) (fun c3 => ?_)
  · replace hf := zk_f c3 hf
    refine lv_aload_n hx hb dX5_write_13 rfl (lv_at hl 0 rfl) ?_
    refine va_get (D := D) (ci := 5) (v := .int Mletters) (C := RX5) (T := TX5) (N := 19) hx hb hts hiX5 hown hK hw.1 0 rfl rfl 5 (by decide) hq0 (fun _ h9 => h9) rfl dX5_write_14 ?_
    refine lv_sipush (v := 200) hx hb dX5_write_17 (by decide) ?_
    refine lv_icmp_ne (tgt := 26) hx hb dX5_write_20 (by decide) (fun c4 => ?_) (fun c4 => ?_)
    · replace hf := zk_f c4 hf
      refine lv_aload_n hx hb dX5_write_26 rfl (lv_at hl 0 rfl) ?_
      refine va_get (D := D) (ci := 5) (v := .ref (aM 4)) (C := RX5) (T := TX5) (N := 19) hx hb hts hiX5 hown hK hw.1 0 rfl rfl 4 (by decide) hq1 (fun _ h9 => h9) rfl dX5_write_27 ?_
      refine lv_aload_n hx hb dX5_write_30 rfl (lv_at hl 0 rfl) ?_
      refine va_get (D := D) (ci := 5) (v := .int Mletters) (C := RX5) (T := TX5) (N := 19) hx hb hts hiX5 hown hK hw.1 0 rfl rfl 5 (by decide) hq0 (fun _ h9 => h9) rfl dX5_write_31 ?_
      refine lv_iload_n hx hb dX5_write_34 rfl (lv_at hl 1 rfl) ?_
      obtain ⟨h5, hf⟩ := zk_ck hf
      refine zk_iast hx hb hK hw 4 rfl h5 (j := Mletters.toNatClampNeg) rfl dX5_write_35 (fun H locs hw => ?_)
      have hw : Wd D A s.heap (zwM cI cJ aM Mnow Mread Mpast Mchanges (upd Mtext Mletters.toNatClampNeg p0) Mletters Mheads Msets Mballots Mranks Mloads Mbelow Morder Melected Mmembers Mabove Munder Mspot Mvalue) H locs := hw
      refine lv_aload_n hx hb dX5_write_36 rfl (lv_at hl 0 rfl) ?_
      refine lv_dup hx hb dX5_write_37 rfl ?_
      refine va_get (D := D) (ci := 5) (v := .int Mletters) (C := RX5) (T := TX5) (N := 19) hx hb hts hiX5 hown hK hw.1 0 rfl rfl 5 (by decide) hq0 (fun _ h9 => h9) rfl dX5_write_38 ?_
      refine lv_iconst (v := 1) hx hb dX5_write_41 (by decide) ?_
      refine lv_iadd hx hb dX5_write_42 ?_
      refine va_put (D := D) (ci := 5) (v := .int (Mletters + (1 : Int32))) (C := RX5) (T := TX5) (N := 19) hx hb hts hiX5 tyX5 tyX5_ok nmX5 hown hK hw.1 hw.2.1 hw.2.2 0 rfl rfl 5 (by decide) hq0 (fun _ h9 => h9) rfl (tyX5_ok 5 (by decide)) rfl rfl (Nat.le_of_ble_eq_true rfl) dX5_write_43 (fun H locs hP hD hS => ?_)
      have hw : Wd D A s.heap (zwM cI cJ aM Mnow Mread Mpast Mchanges (upd Mtext Mletters.toNatClampNeg p0) (Mletters + (1 : Int32)) Mheads Msets Mballots Mranks Mloads Mbelow Morder Melected Mmembers Mabove Munder Mspot Mvalue) H locs := ⟨hP, hD, hS⟩
      clear hP hD hS
      refine lv_aload_n hx hb dX5_write_46 rfl (lv_at hl 0 rfl) ?_
      refine va_get (D := D) (ci := 5) (v := .int (Mletters + (1 : Int32))) (C := RX5) (T := TX5) (N := 19) hx hb hts hiX5 hown hK hw.1 0 rfl rfl 5 (by decide) hq0 (fun _ h9 => h9) rfl dX5_write_47 ?_
      cases hf
      exact zk_iret hx hb hr hlocks rfl hQ hw [0, 1, 2, 3, 4, 5, 6, 7, 8, 9, 10, 11] rfl (by decide) dX5_write_50
    · replace hf := zk_t c4 hf
      refine lv_bipush (v := (-3)) hx hb dX5_write_23 (by decide) ?_
      cases hf
      exact zk_iret hx hb hr hlocks rfl hQ hw [0, 1, 2, 3, 4, 5, 6, 7, 8, 9, 10, 11] rfl (by decide) dX5_write_25
  · replace hf := zk_t c3 hf
    refine lv_iconst (v := (-1)) hx hb dX5_write_11 (by decide) ?_
    cases hf
    exact zk_iret hx hb hr hlocks rfl hQ hw [0, 1, 2, 3, 4, 5, 6, 7, 8, 9, 10, 11] rfl (by decide) dX5_write_12
set_option maxHeartbeats 4000000 in
set_option maxRecDepth 100000 in
theorem kX5_supportOf (l : Launch) (D : va_G) (cI cJ cO : ClassId) (N : Nat) (aM : Nat → Nat) (p0 : Int32) (Mnow : Nat → Int32) (Mread : Nat → Int32) (Mpast : Nat → Int32) (Mchanges : Int32) (Mtext : Nat → Int32) (Mletters : Int32) (Mheads : Nat → Int32) (Msets : Nat → Int32) (Mballots : Int32) (Mranks : Nat → Int32) (Mloads : Nat → Int64) (Mbelow : Int64) (Morder : Nat → Int32) (Melected : Int32) (Mmembers : Int32) (Mabove : Nat → Int64) (Munder : Nat → Int64) (Mspot : Int32) (Mvalue : Int32) (u : Int32) (hf : fX5_supportOf N p0 Mheads Msets Mballots = some u) : CtI l yX5_supportOf wsX5_supportOf (zk_rm 1 21) D cI cJ cO [.ref (aM 0), .int p0] (zwM cI cJ aM Mnow Mread Mpast Mchanges Mtext Mletters Mheads Msets Mballots Mranks Mloads Mbelow Morder Melected Mmembers Mabove Munder Mspot Mvalue) (zwM cI cJ aM Mnow Mread Mpast Mchanges Mtext Mletters Mheads Msets Mballots Mranks Mloads Mbelow Morder Melected Mmembers Mabove Munder Mspot Mvalue) (u) := by
  refine zk_enter (cc := cX5_supportOf) (maxL := 4) (ret := some .int) (own := RX5) (Qf := fun A => QwI D (zwM cI cJ aM Mnow Mread Mpast Mchanges Mtext Mletters Mheads Msets Mballots Mranks Mloads Mbelow Morder Melected Mmembers Mabove Munder Mspot Mvalue) (u) A) (by decide) rfl rfl (Nat.le_of_ble_eq_true rfl) ?_
  intro p e s m args below meth c A Q H locs ls hC hQ hw hl
  obtain ⟨hx, hb, hml, hr, hts, hown, hlocks, hN, hK, hA⟩ := hC
  have hl : lv_has ls 4 [(0, .ref (aM 0)), (1, .int p0)] := hl
  have hiX5 : ∀ w ∈ u_ws RX5 TX5 19, w ∈ wsX5_supportOf := by decide +kernel
  have hq0 := hts (.fieldLink RX5 134 "LoadCouncilModel" "ballots" "I") (by decide +kernel)
  have hq1 := hts (.fieldLink RX5 25 "LoadCouncilModel" "sets" "[I") (by decide +kernel)
  have hq2 := hts (.fieldLink RX5 22 "LoadCouncilModel" "heads" "[I") (by decide +kernel)
  have b4 : ∀ (n4 : Nat), ∀ (x1 : Int32) (x2 : Int32) (x3 : Int32), fX5_supportOf_b4 N n4 x1 x2 x3 Mheads Msets Mballots = some u → ∀ (H : Heap) (locs : List Loc) (ls : Array Slot), Wd D A s.heap (zwM cI cJ aM Mnow Mread Mpast Mchanges Mtext Mletters Mheads Msets Mballots Mranks Mloads Mbelow Morder Melected Mmembers Mabove Munder Mspot Mvalue) H locs → lv_has ls 4 [(0, .ref (aM 0)), (1, .int x1), (2, .int x2), (3, .int x3)] → W p l e (zk_rm 1 21) s m args below meth c H locs 0 0 Q (F0 m 4 ls []) := by
    intro n4
    induction n4 with
    | zero =>
      intro x1 x2 x3 hf
      exact zk_none hf
    | succ n4 ih4 =>
      have b36 : ∀ (x1 : Int32) (x3 : Int32) (t0 : Int32) (t1 : Int32), fX5_supportOf_b36 N (fun z0 z1 z2 z3 z4 z5 => fX5_supportOf_b4 N n4 z0 z1 z2 z3 z4 z5) x1 x3 t0 t1 Mheads Msets Mballots = some u → ∀ (H : Heap) (locs : List Loc) (ls : Array Slot), Wd D A s.heap (zwM cI cJ aM Mnow Mread Mpast Mchanges Mtext Mletters Mheads Msets Mballots Mranks Mloads Mbelow Morder Melected Mmembers Mabove Munder Mspot Mvalue) H locs → lv_has ls 4 [(0, .ref (aM 0)), (1, .int x1), (3, .int x3)] → W p l e (zk_rm 1 21) s m args below meth c H locs 0 0 Q (F0 m 36 ls [.int t1, .int t0]) := by
        intro x1 x3 t0 t1 hf H locs ls hw hl
        unfold fX5_supportOf_b36 at hf
        refine lv_iadd hx hb dX5_supportOf_36 ?_
        refine lv_istore_n (lv' := [(2, .int (t0 + t1)), (0, .ref (aM 0)), (1, .int x1), (3, .int x3)]) hx hb dX5_supportOf_37 rfl hl (by decide) rfl (fun ls hl => ?_)
        refine lv_iinc (v := (x3 + (1 : Int32))) (lv' := [(3, .int (x3 + (1 : Int32))), (2, .int (t0 + t1)), (0, .ref (aM 0)), (1, .int x1)]) hx hb dX5_supportOf_38 hl (k := 3) rfl rfl (by decide) rfl (fun ls hl => ?_)
        refine lv_goto (tgt := 4) hx hb dX5_supportOf_41 (by decide) ?_
        exact ih4 x1 (t0 + t1) (x3 + (1 : Int32)) hf H locs ls hw (lv_sub hl [2, 3, 1, 0] rfl)
      intro x1 x2 x3 hf H locs ls hw hl
      rw [fX5_supportOf_b4] at hf
      refine lv_iload_n hx hb dX5_supportOf_4 rfl (lv_at hl 3 rfl) ?_
      refine lv_aload_n hx hb dX5_supportOf_5 rfl (lv_at hl 0 rfl) ?_
      refine va_get (D := D) (ci := 5) (v := .int Mballots) (C := RX5) (T := TX5) (N := 19) hx hb hts hiX5 hown hK hw.1 0 rfl rfl 8 (by decide) hq0 (fun _ h9 => h9) rfl dX5_supportOf_6 ?_
      refine lv_icmp_ge (tgt := 44) hx hb dX5_supportOf_9 (by decide) (fun c1 => ?_) (fun c1 => ?_)
      · replace hf := zk_t c1 hf
        refine lv_iload_n hx hb dX5_supportOf_44 rfl (lv_at hl 2 rfl) ?_
        cases hf
        exact zk_iret hx hb hr hlocks rfl hQ hw [0, 1, 2, 3, 4, 5, 6, 7, 8, 9, 10, 11] rfl (by decide) dX5_supportOf_45
      · replace hf := zk_f c1 hf
        refine lv_iload_n hx hb dX5_supportOf_12 rfl (lv_at hl 2 rfl) ?_
        refine lv_aload_n hx hb dX5_supportOf_13 rfl (lv_at hl 0 rfl) ?_
        refine va_get (D := D) (ci := 5) (v := .ref (aM 6)) (C := RX5) (T := TX5) (N := 19) hx hb hts hiX5 hown hK hw.1 0 rfl rfl 7 (by decide) hq1 (fun _ h9 => h9) rfl dX5_supportOf_14 ?_
        refine lv_iload_n hx hb dX5_supportOf_17 rfl (lv_at hl 3 rfl) ?_
        obtain ⟨h2, hf⟩ := zk_ck hf
        refine zk_iald hx hb hK hw 6 rfl h2 (j := x3.toNatClampNeg) rfl dX5_supportOf_18 ?_
        refine lv_iload_n hx hb dX5_supportOf_19 rfl (lv_at hl 1 rfl) ?_
        obtain ⟨u3, e4, hf⟩ := zk_bd hf
        refine zk_calli (wc := []) (wr := zwM cI cJ aM Mnow Mread Mpast Mchanges Mtext Mletters Mheads Msets Mballots Mranks Mloads Mbelow Morder Melected Mmembers Mabove Munder Mspot Mvalue) hw hA [] [0, 1, 2, 3, 4, 5, 6, 7, 8, 9, 10, 11] rfl rfl (by decide) (by decide) (va_runS (As := [.int (Msets x3.toNatClampNeg), .int x1]) (rest := [.int x2]) ⟨hx, hb, hml, hown, hts⟩ (kX5_has l D cI cJ cO N (Msets x3.toNatClampNeg) x1 u3 e4 H.size) (va_cwS 2 hts gX5_supportOf_X5_has rfl rfl rfl (by decide +kernel) ⟨Nat.le_of_ble_eq_true rfl, Nat.le_of_ble_eq_true rfl⟩) (zk_preS (wc := []) hN hK hw [] rfl (by decide)) rfl rfl hl.1 rfl (lv_room (Nat.le_of_ble_eq_true rfl)) dX5_supportOf_20 ⟨Nat.zero_le _, Nat.zero_le _⟩) (fun H locs hw => ?_)
        have hw : Wd D A s.heap (zwM cI cJ aM Mnow Mread Mpast Mchanges Mtext Mletters Mheads Msets Mballots Mranks Mloads Mbelow Morder Melected Mmembers Mabove Munder Mspot Mvalue) H locs := hw
        refine lv_if_eq (tgt := 35) hx hb dX5_supportOf_23 (by decide) (fun c5 => ?_) (fun c5 => ?_)
        · replace hf := zk_t c5 hf
          refine lv_iconst (v := 0) hx hb dX5_supportOf_35 (by decide) ?_
          exact b36 x1 x3 x2 (0 : Int32) hf H locs ls hw (lv_sub hl [0, 1, 3] rfl)
        · replace hf := zk_f c5 hf
          refine lv_aload_n hx hb dX5_supportOf_26 rfl (lv_at hl 0 rfl) ?_
          refine va_get (D := D) (ci := 5) (v := .ref (aM 5)) (C := RX5) (T := TX5) (N := 19) hx hb hts hiX5 hown hK hw.1 0 rfl rfl 6 (by decide) hq2 (fun _ h9 => h9) rfl dX5_supportOf_27 ?_
          refine lv_iload_n hx hb dX5_supportOf_30 rfl (lv_at hl 3 rfl) ?_
          refine zk_iald hx hb hK hw 5 rfl h2 (j := x3.toNatClampNeg) rfl dX5_supportOf_31 ?_
          refine lv_goto (tgt := 36) hx hb dX5_supportOf_32 (by decide) ?_
          exact b36 x1 x3 x2 (Mheads x3.toNatClampNeg) hf H locs ls hw (lv_sub hl [0, 1, 3] rfl)
  unfold fX5_supportOf at hf
  refine lv_iconst (v := 0) hx hb dX5_supportOf_0 (by decide) ?_
  refine lv_istore_n (lv' := [(2, .int (0 : Int32)), (0, .ref (aM 0)), (1, .int p0)]) hx hb dX5_supportOf_1 rfl hl (by decide) rfl (fun ls hl => ?_)
  refine lv_iconst (v := 0) hx hb dX5_supportOf_2 (by decide) ?_
  refine lv_istore_n (lv' := [(3, .int (0 : Int32)), (2, .int (0 : Int32)), (0, .ref (aM 0)), (1, .int p0)]) hx hb dX5_supportOf_3 rfl hl (by decide) rfl (fun ls hl => ?_)
  exact b4 N p0 (0 : Int32) (0 : Int32) hf H locs ls hw (lv_sub hl [2, 3, 1, 0] rfl)
end
section
theorem zz_last : True := trivial
end
