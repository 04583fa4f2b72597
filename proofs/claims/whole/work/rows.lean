section
-- ===== PART A: goes FIRST, ahead of the names: the tables' words, and 'selects' of the private methods out of them =====
/-- a private method of a class that the tables say can be made, by its rows of tables_1 -/
def lw_okq (q : MethodName × Nat) : Prop := (q.1.cls ≠ "java/lang/invoke/MethodHandle" ∧ q.1.cls ≠ "java/lang/invoke/VarHandle") ∧ Cond.instantiable q.1.cls q.2 ∈ tables_1 ∧ Cond.privateMethod q.1 ∈ tables_1 ∧ Cond.instanceMethod q.1 ∈ tables_1
theorem lw_p0 : lw_okq (⟨"JetStarts$History", "keep", "(LJetStarts$State;)V"⟩, 3) := ⟨⟨by decide +kernel, by decide +kernel⟩, List.mem_of_getElem? (i := 179) (by decide +kernel), List.mem_of_getElem? (i := 242) (by decide +kernel), List.mem_of_getElem? (i := 243) (by decide +kernel)⟩
theorem lw_p1 : lw_okq (⟨"JetStarts$State", "copyFrom", "(LJetStarts$State;)V"⟩, 5) := ⟨⟨by decide +kernel, by decide +kernel⟩, List.mem_of_getElem? (i := 21) (by decide +kernel), List.mem_of_getElem? (i := 246) (by decide +kernel), List.mem_of_getElem? (i := 247) (by decide +kernel)⟩
theorem lw_p2 : lw_okq (⟨"JetStarts$Engine", "copyFrom", "(LJetStarts$Engine;)V"⟩, 9) := ⟨⟨by decide +kernel, by decide +kernel⟩, List.mem_of_getElem? (i := 27) (by decide +kernel), List.mem_of_getElem? (i := 250) (by decide +kernel), List.mem_of_getElem? (i := 251) (by decide +kernel)⟩
theorem lw_p3 : lw_okq (⟨"JetStarts$Attempt", "copyFrom", "(LJetStarts$Attempt;)V"⟩, 5) := ⟨⟨by decide +kernel, by decide +kernel⟩, List.mem_of_getElem? (i := 86) (by decide +kernel), List.mem_of_getElem? (i := 254) (by decide +kernel), List.mem_of_getElem? (i := 255) (by decide +kernel)⟩
theorem lw_p4 : lw_okq (⟨"JetStarts$Log", "copyFrom", "(LJetStarts$Log;)V"⟩, 2) := ⟨⟨by decide +kernel, by decide +kernel⟩, List.mem_of_getElem? (i := 114) (by decide +kernel), List.mem_of_getElem? (i := 258) (by decide +kernel), List.mem_of_getElem? (i := 259) (by decide +kernel)⟩
theorem lw_p5 : lw_okq (⟨"JetStarts$Tally", "copyFrom", "(LJetStarts$Tally;)V"⟩, 6) := ⟨⟨by decide +kernel, by decide +kernel⟩, List.mem_of_getElem? (i := 127) (by decide +kernel), List.mem_of_getElem? (i := 263) (by decide +kernel), List.mem_of_getElem? (i := 264) (by decide +kernel)⟩
theorem lw_p6 : lw_okq (⟨"JetStarts$State", "canTurnStarter", "(Z)Z"⟩, 5) := ⟨⟨by decide +kernel, by decide +kernel⟩, List.mem_of_getElem? (i := 21) (by decide +kernel), List.mem_of_getElem? (i := 272) (by decide +kernel), List.mem_of_getElem? (i := 273) (by decide +kernel)⟩
theorem lw_p7 : lw_okq (⟨"JetStarts$State", "turnStarter", "(Z)V"⟩, 5) := ⟨⟨by decide +kernel, by decide +kernel⟩, List.mem_of_getElem? (i := 21) (by decide +kernel), List.mem_of_getElem? (i := 276) (by decide +kernel), List.mem_of_getElem? (i := 277) (by decide +kernel)⟩
theorem lw_p8 : lw_okq (⟨"JetStarts$Attempt", "begin", "(I)V"⟩, 5) := ⟨⟨by decide +kernel, by decide +kernel⟩, List.mem_of_getElem? (i := 86) (by decide +kernel), List.mem_of_getElem? (i := 280) (by decide +kernel), List.mem_of_getElem? (i := 281) (by decide +kernel)⟩
theorem lw_p9 : lw_okq (⟨"JetStarts$State", "hasRoomFor", "(I)Z"⟩, 5) := ⟨⟨by decide +kernel, by decide +kernel⟩, List.mem_of_getElem? (i := 21) (by decide +kernel), List.mem_of_getElem? (i := 304) (by decide +kernel), List.mem_of_getElem? (i := 305) (by decide +kernel)⟩
theorem lw_p10 : lw_okq (⟨"JetStarts$State", "passTicks", "(I)V"⟩, 5) := ⟨⟨by decide +kernel, by decide +kernel⟩, List.mem_of_getElem? (i := 21) (by decide +kernel), List.mem_of_getElem? (i := 309) (by decide +kernel), List.mem_of_getElem? (i := 310) (by decide +kernel)⟩
theorem lw_p11 : lw_okq (⟨"JetStarts$State", "passTick", "()V"⟩, 5) := ⟨⟨by decide +kernel, by decide +kernel⟩, List.mem_of_getElem? (i := 21) (by decide +kernel), List.mem_of_getElem? (i := 313) (by decide +kernel), List.mem_of_getElem? (i := 314) (by decide +kernel)⟩
theorem lw_p12 : lw_okq (⟨"JetStarts$Engine", "passTick", "()V"⟩, 9) := ⟨⟨by decide +kernel, by decide +kernel⟩, List.mem_of_getElem? (i := 27) (by decide +kernel), List.mem_of_getElem? (i := 317) (by decide +kernel), List.mem_of_getElem? (i := 318) (by decide +kernel)⟩
theorem lw_p13 : lw_okq (⟨"JetStarts$Engine", "pushOfStarter", "()I"⟩, 9) := ⟨⟨by decide +kernel, by decide +kernel⟩, List.mem_of_getElem? (i := 27) (by decide +kernel), List.mem_of_getElem? (i := 321) (by decide +kernel), List.mem_of_getElem? (i := 322) (by decide +kernel)⟩
theorem lw_p14 : lw_okq (⟨"JetStarts$Engine", "changeFlame", "()V"⟩, 9) := ⟨⟨by decide +kernel, by decide +kernel⟩, List.mem_of_getElem? (i := 27) (by decide +kernel), List.mem_of_getElem? (i := 328) (by decide +kernel), List.mem_of_getElem? (i := 329) (by decide +kernel)⟩
theorem lw_p15 : lw_okq (⟨"JetStarts$Engine", "burn", "()I"⟩, 9) := ⟨⟨by decide +kernel, by decide +kernel⟩, List.mem_of_getElem? (i := 27) (by decide +kernel), List.mem_of_getElem? (i := 335) (by decide +kernel), List.mem_of_getElem? (i := 336) (by decide +kernel)⟩
def lw_privs_1 : List (MethodName × Nat) := [(⟨"JetStarts$History", "keep", "(LJetStarts$State;)V"⟩, 3), (⟨"JetStarts$State", "copyFrom", "(LJetStarts$State;)V"⟩, 5), (⟨"JetStarts$Engine", "copyFrom", "(LJetStarts$Engine;)V"⟩, 9), (⟨"JetStarts$Attempt", "copyFrom", "(LJetStarts$Attempt;)V"⟩, 5), (⟨"JetStarts$Log", "copyFrom", "(LJetStarts$Log;)V"⟩, 2), (⟨"JetStarts$Tally", "copyFrom", "(LJetStarts$Tally;)V"⟩, 6), (⟨"JetStarts$State", "canTurnStarter", "(Z)Z"⟩, 5), (⟨"JetStarts$State", "turnStarter", "(Z)V"⟩, 5), (⟨"JetStarts$Attempt", "begin", "(I)V"⟩, 5), (⟨"JetStarts$State", "hasRoomFor", "(I)Z"⟩, 5), (⟨"JetStarts$State", "passTicks", "(I)V"⟩, 5), (⟨"JetStarts$State", "passTick", "()V"⟩, 5), (⟨"JetStarts$Engine", "passTick", "()V"⟩, 9), (⟨"JetStarts$Engine", "pushOfStarter", "()I"⟩, 9), (⟨"JetStarts$Engine", "changeFlame", "()V"⟩, 9), (⟨"JetStarts$Engine", "burn", "()I"⟩, 9)]
theorem lw_r1 : ∀ q ∈ lw_privs_1, lw_okq q := List.forall_mem_cons.mpr ⟨lw_p0, List.forall_mem_cons.mpr ⟨lw_p1, List.forall_mem_cons.mpr ⟨lw_p2, List.forall_mem_cons.mpr ⟨lw_p3, List.forall_mem_cons.mpr ⟨lw_p4, List.forall_mem_cons.mpr ⟨lw_p5, List.forall_mem_cons.mpr ⟨lw_p6, List.forall_mem_cons.mpr ⟨lw_p7, List.forall_mem_cons.mpr ⟨lw_p8, List.forall_mem_cons.mpr ⟨lw_p9, List.forall_mem_cons.mpr ⟨lw_p10, List.forall_mem_cons.mpr ⟨lw_p11, List.forall_mem_cons.mpr ⟨lw_p12, List.forall_mem_cons.mpr ⟨lw_p13, List.forall_mem_cons.mpr ⟨lw_p14, List.forall_mem_cons.mpr ⟨lw_p15, fun _ h => absurd h List.not_mem_nil⟩⟩⟩⟩⟩⟩⟩⟩⟩⟩⟩⟩⟩⟩⟩⟩
theorem lw_p16 : lw_okq (⟨"JetStarts$Engine", "changeSpeed", "(II)V"⟩, 9) := ⟨⟨by decide +kernel, by decide +kernel⟩, List.mem_of_getElem? (i := 27) (by decide +kernel), List.mem_of_getElem? (i := 339) (by decide +kernel), List.mem_of_getElem? (i := 340) (by decide +kernel)⟩
theorem lw_p17 : lw_okq (⟨"JetStarts$Engine", "changeHeat", "(I)V"⟩, 9) := ⟨⟨by decide +kernel, by decide +kernel⟩, List.mem_of_getElem? (i := 27) (by decide +kernel), List.mem_of_getElem? (i := 343) (by decide +kernel), List.mem_of_getElem? (i := 344) (by decide +kernel)⟩
theorem lw_p18 : lw_okq (⟨"JetStarts$Engine", "runs", "()Z"⟩, 9) := ⟨⟨by decide +kernel, by decide +kernel⟩, List.mem_of_getElem? (i := 27) (by decide +kernel), List.mem_of_getElem? (i := 347) (by decide +kernel), List.mem_of_getElem? (i := 348) (by decide +kernel)⟩
theorem lw_p19 : lw_okq (⟨"JetStarts$Tally", "addTick", "(LJetStarts$Engine;Z)V"⟩, 6) := ⟨⟨by decide +kernel, by decide +kernel⟩, List.mem_of_getElem? (i := 127) (by decide +kernel), List.mem_of_getElem? (i := 351) (by decide +kernel), List.mem_of_getElem? (i := 352) (by decide +kernel)⟩
theorem lw_p20 : lw_okq (⟨"JetStarts$Engine", "isHot", "()Z"⟩, 9) := ⟨⟨by decide +kernel, by decide +kernel⟩, List.mem_of_getElem? (i := 27) (by decide +kernel), List.mem_of_getElem? (i := 355) (by decide +kernel), List.mem_of_getElem? (i := 356) (by decide +kernel)⟩
theorem lw_p21 : lw_okq (⟨"JetStarts$Attempt", "addTick", "(LJetStarts$Engine;I)V"⟩, 5) := ⟨⟨by decide +kernel, by decide +kernel⟩, List.mem_of_getElem? (i := 86) (by decide +kernel), List.mem_of_getElem? (i := 364) (by decide +kernel), List.mem_of_getElem? (i := 365) (by decide +kernel)⟩
theorem lw_p22 : lw_okq (⟨"JetStarts$State", "endAttemptIfOver", "()V"⟩, 5) := ⟨⟨by decide +kernel, by decide +kernel⟩, List.mem_of_getElem? (i := 21) (by decide +kernel), List.mem_of_getElem? (i := 369) (by decide +kernel), List.mem_of_getElem? (i := 370) (by decide +kernel)⟩
theorem lw_p23 : lw_okq (⟨"JetStarts$Attempt", "endingWith", "(LJetStarts$Engine;)I"⟩, 5) := ⟨⟨by decide +kernel, by decide +kernel⟩, List.mem_of_getElem? (i := 86) (by decide +kernel), List.mem_of_getElem? (i := 373) (by decide +kernel), List.mem_of_getElem? (i := 374) (by decide +kernel)⟩
theorem lw_p24 : lw_okq (⟨"JetStarts$Engine", "isSpent", "()Z"⟩, 9) := ⟨⟨by decide +kernel, by decide +kernel⟩, List.mem_of_getElem? (i := 27) (by decide +kernel), List.mem_of_getElem? (i := 379) (by decide +kernel), List.mem_of_getElem? (i := 380) (by decide +kernel)⟩
theorem lw_p25 : lw_okq (⟨"JetStarts$Log", "add", "(ILJetStarts$Attempt;I)V"⟩, 2) := ⟨⟨by decide +kernel, by decide +kernel⟩, List.mem_of_getElem? (i := 114) (by decide +kernel), List.mem_of_getElem? (i := 383) (by decide +kernel), List.mem_of_getElem? (i := 384) (by decide +kernel)⟩
theorem lw_p26 : lw_okq (⟨"JetStarts$Tally", "addEnding", "(I)V"⟩, 6) := ⟨⟨by decide +kernel, by decide +kernel⟩, List.mem_of_getElem? (i := 127) (by decide +kernel), List.mem_of_getElem? (i := 388) (by decide +kernel), List.mem_of_getElem? (i := 389) (by decide +kernel)⟩
theorem lw_p27 : lw_okq (⟨"JetStarts$Pad", "firstFault", "()I"⟩, 2) := ⟨⟨by decide +kernel, by decide +kernel⟩, List.mem_of_getElem? (i := 199) (by decide +kernel), List.mem_of_getElem? (i := 396) (by decide +kernel), List.mem_of_getElem? (i := 397) (by decide +kernel)⟩
theorem lw_p28 : lw_okq (⟨"JetStarts$Pad", "signAt", "(I)C"⟩, 2) := ⟨⟨by decide +kernel, by decide +kernel⟩, List.mem_of_getElem? (i := 199) (by decide +kernel), List.mem_of_getElem? (i := 400) (by decide +kernel), List.mem_of_getElem? (i := 401) (by decide +kernel)⟩
theorem lw_p29 : lw_okq (⟨"JetStarts$Pad", "beginsDeed", "(I)Z"⟩, 2) := ⟨⟨by decide +kernel, by decide +kernel⟩, List.mem_of_getElem? (i := 199) (by decide +kernel), List.mem_of_getElem? (i := 416) (by decide +kernel), List.mem_of_getElem? (i := 417) (by decide +kernel)⟩
theorem lw_p30 : lw_okq (⟨"JetStarts$Pad", "numberFrom", "(I)I"⟩, 2) := ⟨⟨by decide +kernel, by decide +kernel⟩, List.mem_of_getElem? (i := 199) (by decide +kernel), List.mem_of_getElem? (i := 421) (by decide +kernel), List.mem_of_getElem? (i := 422) (by decide +kernel)⟩
theorem lw_p31 : lw_okq (⟨"JetStarts", "doDeed", "(CI)Z"⟩, 6) := ⟨⟨by decide +kernel, by decide +kernel⟩, List.mem_of_getElem? (i := 13) (by decide +kernel), List.mem_of_getElem? (i := 425) (by decide +kernel), List.mem_of_getElem? (i := 426) (by decide +kernel)⟩
def lw_privs_2 : List (MethodName × Nat) := [(⟨"JetStarts$Engine", "changeSpeed", "(II)V"⟩, 9), (⟨"JetStarts$Engine", "changeHeat", "(I)V"⟩, 9), (⟨"JetStarts$Engine", "runs", "()Z"⟩, 9), (⟨"JetStarts$Tally", "addTick", "(LJetStarts$Engine;Z)V"⟩, 6), (⟨"JetStarts$Engine", "isHot", "()Z"⟩, 9), (⟨"JetStarts$Attempt", "addTick", "(LJetStarts$Engine;I)V"⟩, 5), (⟨"JetStarts$State", "endAttemptIfOver", "()V"⟩, 5), (⟨"JetStarts$Attempt", "endingWith", "(LJetStarts$Engine;)I"⟩, 5), (⟨"JetStarts$Engine", "isSpent", "()Z"⟩, 9), (⟨"JetStarts$Log", "add", "(ILJetStarts$Attempt;I)V"⟩, 2), (⟨"JetStarts$Tally", "addEnding", "(I)V"⟩, 6), (⟨"JetStarts$Pad", "firstFault", "()I"⟩, 2), (⟨"JetStarts$Pad", "signAt", "(I)C"⟩, 2), (⟨"JetStarts$Pad", "beginsDeed", "(I)Z"⟩, 2), (⟨"JetStarts$Pad", "numberFrom", "(I)I"⟩, 2), (⟨"JetStarts", "doDeed", "(CI)Z"⟩, 6)]
theorem lw_r2 : ∀ q ∈ lw_privs_2, lw_okq q := List.forall_mem_cons.mpr ⟨lw_p16, List.forall_mem_cons.mpr ⟨lw_p17, List.forall_mem_cons.mpr ⟨lw_p18, List.forall_mem_cons.mpr ⟨lw_p19, List.forall_mem_cons.mpr ⟨lw_p20, List.forall_mem_cons.mpr ⟨lw_p21, List.forall_mem_cons.mpr ⟨lw_p22, List.forall_mem_cons.mpr ⟨lw_p23, List.forall_mem_cons.mpr ⟨lw_p24, List.forall_mem_cons.mpr ⟨lw_p25, List.forall_mem_cons.mpr ⟨lw_p26, List.forall_mem_cons.mpr ⟨lw_p27, List.forall_mem_cons.mpr ⟨lw_p28, List.forall_mem_cons.mpr ⟨lw_p29, List.forall_mem_cons.mpr ⟨lw_p30, List.forall_mem_cons.mpr ⟨lw_p31, fun _ h => absurd h List.not_mem_nil⟩⟩⟩⟩⟩⟩⟩⟩⟩⟩⟩⟩⟩⟩⟩⟩
theorem lw_p32 : lw_okq (⟨"JetStarts$Log", "numberOf", "(II)I"⟩, 2) := ⟨⟨by decide +kernel, by decide +kernel⟩, List.mem_of_getElem? (i := 114) (by decide +kernel), List.mem_of_getElem? (i := 439) (by decide +kernel), List.mem_of_getElem? (i := 440) (by decide +kernel)⟩
theorem lw_p33 : lw_okq (⟨"JetStarts$State", "passTicksUntilRunning", "(Z)I"⟩, 5) := ⟨⟨by decide +kernel, by decide +kernel⟩, List.mem_of_getElem? (i := 21) (by decide +kernel), List.mem_of_getElem? (i := 452) (by decide +kernel), List.mem_of_getElem? (i := 453) (by decide +kernel)⟩
theorem lw_p34 : lw_okq (⟨"JetStarts$Tally", "forgetHeat", "()V"⟩, 6) := ⟨⟨by decide +kernel, by decide +kernel⟩, List.mem_of_getElem? (i := 127) (by decide +kernel), List.mem_of_getElem? (i := 463) (by decide +kernel), List.mem_of_getElem? (i := 464) (by decide +kernel)⟩
theorem lw_p35 : lw_okq (⟨"JetStarts$Pad", "append", "(JI)V"⟩, 2) := ⟨⟨by decide +kernel, by decide +kernel⟩, List.mem_of_getElem? (i := 199) (by decide +kernel), List.mem_of_getElem? (i := 485) (by decide +kernel), List.mem_of_getElem? (i := 486) (by decide +kernel)⟩
theorem lw_p36 : lw_okq (⟨"JetStarts$History", "takeLatest", "(LJetStarts$State;)V"⟩, 3) := ⟨⟨by decide +kernel, by decide +kernel⟩, List.mem_of_getElem? (i := 179) (by decide +kernel), List.mem_of_getElem? (i := 501) (by decide +kernel), List.mem_of_getElem? (i := 502) (by decide +kernel)⟩
theorem lw_p37 : lw_okq (⟨"JetStartsModel", "hold", "()V"⟩, 12) := ⟨⟨by decide +kernel, by decide +kernel⟩, List.mem_of_getElem? (i := 513) (by decide +kernel), List.mem_of_getElem? (i := 566) (by decide +kernel), List.mem_of_getElem? (i := 567) (by decide +kernel)⟩
theorem lw_p38 : lw_okq (⟨"JetStartsModel", "recorded", "(I)I"⟩, 12) := ⟨⟨by decide +kernel, by decide +kernel⟩, List.mem_of_getElem? (i := 513) (by decide +kernel), List.mem_of_getElem? (i := 570) (by decide +kernel), List.mem_of_getElem? (i := 571) (by decide +kernel)⟩
theorem lw_p39 : lw_okq (⟨"JetStartsModel", "starts", "(I)I"⟩, 12) := ⟨⟨by decide +kernel, by decide +kernel⟩, List.mem_of_getElem? (i := 513) (by decide +kernel), List.mem_of_getElem? (i := 578) (by decide +kernel), List.mem_of_getElem? (i := 579) (by decide +kernel)⟩
theorem lw_p40 : lw_okq (⟨"JetStartsModel", "sparks", "(I)I"⟩, 12) := ⟨⟨by decide +kernel, by decide +kernel⟩, List.mem_of_getElem? (i := 513) (by decide +kernel), List.mem_of_getElem? (i := 586) (by decide +kernel), List.mem_of_getElem? (i := 587) (by decide +kernel)⟩
theorem lw_p41 : lw_okq (⟨"JetStartsModel", "fuels", "(I)I"⟩, 12) := ⟨⟨by decide +kernel, by decide +kernel⟩, List.mem_of_getElem? (i := 513) (by decide +kernel), List.mem_of_getElem? (i := 594) (by decide +kernel), List.mem_of_getElem? (i := 595) (by decide +kernel)⟩
theorem lw_p42 : lw_okq (⟨"JetStartsModel", "passes", "(I)I"⟩, 12) := ⟨⟨by decide +kernel, by decide +kernel⟩, List.mem_of_getElem? (i := 513) (by decide +kernel), List.mem_of_getElem? (i := 610) (by decide +kernel), List.mem_of_getElem? (i := 611) (by decide +kernel)⟩
theorem lw_p43 : lw_okq (⟨"JetStartsModel", "ticksOnce", "()V"⟩, 12) := ⟨⟨by decide +kernel, by decide +kernel⟩, List.mem_of_getElem? (i := 513) (by decide +kernel), List.mem_of_getElem? (i := 615) (by decide +kernel), List.mem_of_getElem? (i := 616) (by decide +kernel)⟩
theorem lw_p44 : lw_okq (⟨"JetStartsModel", "pushes", "()I"⟩, 12) := ⟨⟨by decide +kernel, by decide +kernel⟩, List.mem_of_getElem? (i := 513) (by decide +kernel), List.mem_of_getElem? (i := 619) (by decide +kernel), List.mem_of_getElem? (i := 620) (by decide +kernel)⟩
theorem lw_p45 : lw_okq (⟨"JetStartsModel", "flames", "()V"⟩, 12) := ⟨⟨by decide +kernel, by decide +kernel⟩, List.mem_of_getElem? (i := 513) (by decide +kernel), List.mem_of_getElem? (i := 623) (by decide +kernel), List.mem_of_getElem? (i := 624) (by decide +kernel)⟩
theorem lw_p46 : lw_okq (⟨"JetStartsModel", "burns", "()I"⟩, 12) := ⟨⟨by decide +kernel, by decide +kernel⟩, List.mem_of_getElem? (i := 513) (by decide +kernel), List.mem_of_getElem? (i := 627) (by decide +kernel), List.mem_of_getElem? (i := 628) (by decide +kernel)⟩
theorem lw_p47 : lw_okq (⟨"JetStartsModel", "runsNow", "()Z"⟩, 12) := ⟨⟨by decide +kernel, by decide +kernel⟩, List.mem_of_getElem? (i := 513) (by decide +kernel), List.mem_of_getElem? (i := 631) (by decide +kernel), List.mem_of_getElem? (i := 632) (by decide +kernel)⟩
def lw_privs_3 : List (MethodName × Nat) := [(⟨"JetStarts$Log", "numberOf", "(II)I"⟩, 2), (⟨"JetStarts$State", "passTicksUntilRunning", "(Z)I"⟩, 5), (⟨"JetStarts$Tally", "forgetHeat", "()V"⟩, 6), (⟨"JetStarts$Pad", "append", "(JI)V"⟩, 2), (⟨"JetStarts$History", "takeLatest", "(LJetStarts$State;)V"⟩, 3), (⟨"JetStartsModel", "hold", "()V"⟩, 12), (⟨"JetStartsModel", "recorded", "(I)I"⟩, 12), (⟨"JetStartsModel", "starts", "(I)I"⟩, 12), (⟨"JetStartsModel", "sparks", "(I)I"⟩, 12), (⟨"JetStartsModel", "fuels", "(I)I"⟩, 12), (⟨"JetStartsModel", "passes", "(I)I"⟩, 12), (⟨"JetStartsModel", "ticksOnce", "()V"⟩, 12), (⟨"JetStartsModel", "pushes", "()I"⟩, 12), (⟨"JetStartsModel", "flames", "()V"⟩, 12), (⟨"JetStartsModel", "burns", "()I"⟩, 12), (⟨"JetStartsModel", "runsNow", "()Z"⟩, 12)]
theorem lw_r3 : ∀ q ∈ lw_privs_3, lw_okq q := List.forall_mem_cons.mpr ⟨lw_p32, List.forall_mem_cons.mpr ⟨lw_p33, List.forall_mem_cons.mpr ⟨lw_p34, List.forall_mem_cons.mpr ⟨lw_p35, List.forall_mem_cons.mpr ⟨lw_p36, List.forall_mem_cons.mpr ⟨lw_p37, List.forall_mem_cons.mpr ⟨lw_p38, List.forall_mem_cons.mpr ⟨lw_p39, List.forall_mem_cons.mpr ⟨lw_p40, List.forall_mem_cons.mpr ⟨lw_p41, List.forall_mem_cons.mpr ⟨lw_p42, List.forall_mem_cons.mpr ⟨lw_p43, List.forall_mem_cons.mpr ⟨lw_p44, List.forall_mem_cons.mpr ⟨lw_p45, List.forall_mem_cons.mpr ⟨lw_p46, List.forall_mem_cons.mpr ⟨lw_p47, fun _ h => absurd h List.not_mem_nil⟩⟩⟩⟩⟩⟩⟩⟩⟩⟩⟩⟩⟩⟩⟩⟩
theorem lw_p48 : lw_okq (⟨"JetStartsModel", "goesOn", "(IZ)V"⟩, 12) := ⟨⟨by decide +kernel, by decide +kernel⟩, List.mem_of_getElem? (i := 513) (by decide +kernel), List.mem_of_getElem? (i := 635) (by decide +kernel), List.mem_of_getElem? (i := 636) (by decide +kernel)⟩
theorem lw_p49 : lw_okq (⟨"JetStartsModel", "ends", "(I)V"⟩, 12) := ⟨⟨by decide +kernel, by decide +kernel⟩, List.mem_of_getElem? (i := 513) (by decide +kernel), List.mem_of_getElem? (i := 639) (by decide +kernel), List.mem_of_getElem? (i := 640) (by decide +kernel)⟩
theorem lw_p50 : lw_okq (⟨"JetStartsModel", "faultOf", "()I"⟩, 12) := ⟨⟨by decide +kernel, by decide +kernel⟩, List.mem_of_getElem? (i := 513) (by decide +kernel), List.mem_of_getElem? (i := 647) (by decide +kernel), List.mem_of_getElem? (i := 648) (by decide +kernel)⟩
theorem lw_p51 : lw_okq (⟨"JetStartsModel", "readsDeed", "()Z"⟩, 12) := ⟨⟨by decide +kernel, by decide +kernel⟩, List.mem_of_getElem? (i := 513) (by decide +kernel), List.mem_of_getElem? (i := 651) (by decide +kernel), List.mem_of_getElem? (i := 652) (by decide +kernel)⟩
theorem lw_p52 : lw_okq (⟨"JetStartsModel", "accepts", "(C)Z"⟩, 12) := ⟨⟨by decide +kernel, by decide +kernel⟩, List.mem_of_getElem? (i := 513) (by decide +kernel), List.mem_of_getElem? (i := 655) (by decide +kernel), List.mem_of_getElem? (i := 656) (by decide +kernel)⟩
theorem lw_p53 : lw_okq (⟨"JetStartsModel", "isSign", "(CC)Z"⟩, 12) := ⟨⟨by decide +kernel, by decide +kernel⟩, List.mem_of_getElem? (i := 513) (by decide +kernel), List.mem_of_getElem? (i := 659) (by decide +kernel), List.mem_of_getElem? (i := 660) (by decide +kernel)⟩
theorem lw_p54 : lw_okq (⟨"JetStartsModel", "number", "(II)Z"⟩, 12) := ⟨⟨by decide +kernel, by decide +kernel⟩, List.mem_of_getElem? (i := 513) (by decide +kernel), List.mem_of_getElem? (i := 663) (by decide +kernel), List.mem_of_getElem? (i := 664) (by decide +kernel)⟩
theorem lw_p55 : lw_okq (⟨"JetStartsModel", "does", "(I)I"⟩, 12) := ⟨⟨by decide +kernel, by decide +kernel⟩, List.mem_of_getElem? (i := 513) (by decide +kernel), List.mem_of_getElem? (i := 667) (by decide +kernel), List.mem_of_getElem? (i := 668) (by decide +kernel)⟩
theorem lw_p56 : lw_okq (⟨"JetStartsModel", "keepTrial", "()V"⟩, 12) := ⟨⟨by decide +kernel, by decide +kernel⟩, List.mem_of_getElem? (i := 513) (by decide +kernel), List.mem_of_getElem? (i := 687) (by decide +kernel), List.mem_of_getElem? (i := 688) (by decide +kernel)⟩
theorem lw_p57 : lw_okq (⟨"JetStartsModel", "runsIn", "()I"⟩, 12) := ⟨⟨by decide +kernel, by decide +kernel⟩, List.mem_of_getElem? (i := 513) (by decide +kernel), List.mem_of_getElem? (i := 691) (by decide +kernel), List.mem_of_getElem? (i := 692) (by decide +kernel)⟩
theorem lw_p58 : lw_okq (⟨"JetStartsModel", "putBack", "()V"⟩, 12) := ⟨⟨by decide +kernel, by decide +kernel⟩, List.mem_of_getElem? (i := 513) (by decide +kernel), List.mem_of_getElem? (i := 695) (by decide +kernel), List.mem_of_getElem? (i := 696) (by decide +kernel)⟩
def lw_privs_4 : List (MethodName × Nat) := [(⟨"JetStartsModel", "goesOn", "(IZ)V"⟩, 12), (⟨"JetStartsModel", "ends", "(I)V"⟩, 12), (⟨"JetStartsModel", "faultOf", "()I"⟩, 12), (⟨"JetStartsModel", "readsDeed", "()Z"⟩, 12), (⟨"JetStartsModel", "accepts", "(C)Z"⟩, 12), (⟨"JetStartsModel", "isSign", "(CC)Z"⟩, 12), (⟨"JetStartsModel", "number", "(II)Z"⟩, 12), (⟨"JetStartsModel", "does", "(I)I"⟩, 12), (⟨"JetStartsModel", "keepTrial", "()V"⟩, 12), (⟨"JetStartsModel", "runsIn", "()I"⟩, 12), (⟨"JetStartsModel", "putBack", "()V"⟩, 12)]
theorem lw_r4 : ∀ q ∈ lw_privs_4, lw_okq q := List.forall_mem_cons.mpr ⟨lw_p48, List.forall_mem_cons.mpr ⟨lw_p49, List.forall_mem_cons.mpr ⟨lw_p50, List.forall_mem_cons.mpr ⟨lw_p51, List.forall_mem_cons.mpr ⟨lw_p52, List.forall_mem_cons.mpr ⟨lw_p53, List.forall_mem_cons.mpr ⟨lw_p54, List.forall_mem_cons.mpr ⟨lw_p55, List.forall_mem_cons.mpr ⟨lw_p56, List.forall_mem_cons.mpr ⟨lw_p57, List.forall_mem_cons.mpr ⟨lw_p58, fun _ h => absurd h List.not_mem_nil⟩⟩⟩⟩⟩⟩⟩⟩⟩⟩⟩
def lw_privs : List (MethodName × Nat) := lw_privs_1 ++ (lw_privs_2 ++ (lw_privs_3 ++ (lw_privs_4)))
def lw_tbl : List Cond := k2_sels lw_privs ++ tables_1
theorem lw_privs_ok : ∀ q ∈ lw_privs, lw_okq q := by
  show ∀ q ∈ lw_privs_1 ++ (lw_privs_2 ++ (lw_privs_3 ++ (lw_privs_4))), lw_okq q
  exact List.forall_mem_append.mpr ⟨lw_r1, List.forall_mem_append.mpr ⟨lw_r2, List.forall_mem_append.mpr ⟨lw_r3, lw_r4⟩⟩⟩
-- ===== end of PART A; then your names; then what follows =====
end
section
/-! ===== BEGIN words of one list among another's, by their places ===== -/
theorem goodIn_r {big : List Cond} (ws : List Cond) (ps : List Nat) (hp : ws = ps.filterMap (fun i => big[i]?)) (h : ws.all goodWord = true) : GoodIn big ws := by
  intro w hw
  have h1 := List.all_eq_true.mp h w hw
  rw [hp] at hw
  obtain ⟨i, -, hi⟩ := List.mem_filterMap.mp hw
  have hm : w ∈ big := by first | exact List.mem_of_getElem? hi | exact List.getElem?_mem hi
  exact ⟨hm, good_of_word h1⟩
theorem goodIn_app {big a b : List Cond} (ha : GoodIn big a) (hb : GoodIn big b) : GoodIn big (a ++ b) := fun w h => (List.mem_append.mp h).elim (ha w) (hb w)
theorem goodIn_ca {big a b : List Cond} {c : Cond} (ha : GoodIn big (c :: a)) (hb : GoodIn big b) : GoodIn big (c :: (a ++ b)) := fun w h => (List.mem_cons.mp h).elim (fun e => ha w (List.mem_cons.mpr (Or.inl e))) (fun h => (List.mem_append.mp h).elim (fun h => ha w (List.mem_cons.mpr (Or.inr h))) (hb w))
theorem goodIn_sub {big ws : List Cond} (hm : ∀ w ∈ ws, w ∈ big) (h : ws.all goodWord = true) : GoodIn big ws := fun w hw => ⟨hm w hw, good_of_word (List.all_eq_true.mp h w hw)⟩
/-! ===== END ===== -/

/-! ===== BEGIN printed: names, fields, word lists, decode rows ===== -/
def RX0 : String := "JetStarts$Attempt"
def TX0 : u_T := fun k => match k with
  | 0 => ("JetStarts$Attempt", "isUnderWay", "Z", false)
  | 1 => ("JetStarts$Attempt", "ticks", "I", false)
  | 2 => ("JetStarts$Attempt", "greatestHeat", "I", false)
  | 3 => ("JetStarts$Attempt", "firstBattery", "I", false)
  | _ => ("JetStarts$Attempt", "stalledTicks", "I", false)
def tyX0 : Nat → FieldType := fun k => match k with
  | 0 => .boolean
  | 1 => .int
  | 2 => .int
  | 3 => .int
  | _ => .int
abbrev wsX00 : List Cond := u_ws RX0 TX0 5
theorem nmX0 : ∀ a, a < 5 → ∀ b, b < 5 → a ≠ b → (TX0 a).2.1 ≠ (TX0 b).2.1 := by decide +kernel
theorem tyX0_ok : ∀ k, k < 5 → parseFieldDescriptor (TX0 k).2.2.1 = some (tyX0 k) := by decide +kernel
abbrev cX0_init : ByteArray := prog_2_method_1_code
def yX0_init : MethodName := ⟨RX0, "<init>", "()V"⟩
abbrev cX0_copyFrom : ByteArray := prog_2_method_2_code
def yX0_copyFrom : MethodName := ⟨RX0, "copyFrom", "(LJetStarts$Attempt;)V"⟩
abbrev cX0_begin : ByteArray := prog_2_method_3_code
def yX0_begin : MethodName := ⟨RX0, "begin", "(I)V"⟩
abbrev cX0_addTick : ByteArray := prog_2_method_4_code
def yX0_addTick : MethodName := ⟨RX0, "addTick", "(LJetStarts$Engine;I)V"⟩
abbrev cX0_endingWith : ByteArray := prog_2_method_5_code
def yX0_endingWith : MethodName := ⟨RX0, "endingWith", "(LJetStarts$Engine;)I"⟩
def RX1 : String := "JetStarts$Engine"
def TX1 : u_T := fun k => match k with
  | 0 => ("JetStarts$Engine", "settings", "[I", true)
  | 1 => ("JetStarts$Engine", "speed", "I", false)
  | 2 => ("JetStarts$Engine", "heat", "I", false)
  | 3 => ("JetStarts$Engine", "step", "I", false)
  | 4 => ("JetStarts$Engine", "pool", "I", false)
  | 5 => ("JetStarts$Engine", "battery", "I", false)
  | 6 => ("JetStarts$Engine", "hasSpark", "Z", false)
  | 7 => ("JetStarts$Engine", "isCranking", "Z", false)
  | _ => ("JetStarts$Engine", "hasFlame", "Z", false)
def tyX1 : Nat → FieldType := fun k => match k with
  | 0 => .array .int
  | 1 => .int
  | 2 => .int
  | 3 => .int
  | 4 => .int
  | 5 => .int
  | 6 => .boolean
  | 7 => .boolean
  | _ => .boolean
abbrev wsX10 : List Cond := u_ws RX1 TX1 9
theorem nmX1 : ∀ a, a < 9 → ∀ b, b < 9 → a ≠ b → (TX1 a).2.1 ≠ (TX1 b).2.1 := by decide +kernel
theorem tyX1_ok : ∀ k, k < 9 → parseFieldDescriptor (TX1 k).2.2.1 = some (tyX1 k) := by decide +kernel
abbrev cX1_init : ByteArray := prog_3_method_1_code
def yX1_init : MethodName := ⟨RX1, "<init>", "()V"⟩
abbrev cX1_copyFrom : ByteArray := prog_3_method_2_code
def yX1_copyFrom : MethodName := ⟨RX1, "copyFrom", "(LJetStarts$Engine;)V"⟩
abbrev cX1_runs : ByteArray := prog_3_method_3_code
def yX1_runs : MethodName := ⟨RX1, "runs", "()Z"⟩
abbrev cX1_isHot : ByteArray := prog_3_method_4_code
def yX1_isHot : MethodName := ⟨RX1, "isHot", "()Z"⟩
abbrev cX1_isSpent : ByteArray := prog_3_method_5_code
def yX1_isSpent : MethodName := ⟨RX1, "isSpent", "()Z"⟩
abbrev cX1_passTick : ByteArray := prog_3_method_6_code
def yX1_passTick : MethodName := ⟨RX1, "passTick", "()V"⟩
abbrev cX1_pushOfStarter : ByteArray := prog_3_method_7_code
def yX1_pushOfStarter : MethodName := ⟨RX1, "pushOfStarter", "()I"⟩
abbrev cX1_changeFlame : ByteArray := prog_3_method_8_code
def yX1_changeFlame : MethodName := ⟨RX1, "changeFlame", "()V"⟩
abbrev cX1_burn : ByteArray := prog_3_method_9_code
def yX1_burn : MethodName := ⟨RX1, "burn", "()I"⟩
abbrev cX1_changeSpeed : ByteArray := prog_3_method_10_code
def yX1_changeSpeed : MethodName := ⟨RX1, "changeSpeed", "(II)V"⟩
abbrev cX1_changeHeat : ByteArray := prog_3_method_11_code
def yX1_changeHeat : MethodName := ⟨RX1, "changeHeat", "(I)V"⟩
def RX2 : String := "JetStarts$History"
def TX2 : u_T := fun k => match k with
  | 0 => ("JetStarts$History", "states", "[LJetStarts$State;", true)
  | 1 => ("JetStarts$History", "oldest", "I", false)
  | _ => ("JetStarts$History", "kept", "I", false)
def tyX2 : Nat → FieldType := fun k => match k with
  | 0 => .array (.object "JetStarts$State")
  | 1 => .int
  | _ => .int
abbrev wsX20 : List Cond := u_ws RX2 TX2 3
theorem nmX2 : ∀ a, a < 3 → ∀ b, b < 3 → a ≠ b → (TX2 a).2.1 ≠ (TX2 b).2.1 := by decide +kernel
theorem tyX2_ok : ∀ k, k < 3 → parseFieldDescriptor (TX2 k).2.2.1 = some (tyX2 k) := by decide +kernel
abbrev cX2_init : ByteArray := prog_4_method_1_code
def yX2_init : MethodName := ⟨RX2, "<init>", "()V"⟩
abbrev cX2_keep : ByteArray := prog_4_method_2_code
def yX2_keep : MethodName := ⟨RX2, "keep", "(LJetStarts$State;)V"⟩
abbrev cX2_takeLatest : ByteArray := prog_4_method_3_code
def yX2_takeLatest : MethodName := ⟨RX2, "takeLatest", "(LJetStarts$State;)V"⟩
def RX3 : String := "JetStarts$Log"
def TX3 : u_T := fun k => match k with
  | 0 => ("JetStarts$Log", "numbers", "[I", true)
  | _ => ("JetStarts$Log", "kept", "I", false)
def tyX3 : Nat → FieldType := fun k => match k with
  | 0 => .array .int
  | _ => .int
abbrev wsX30 : List Cond := u_ws RX3 TX3 2
theorem nmX3 : ∀ a, a < 2 → ∀ b, b < 2 → a ≠ b → (TX3 a).2.1 ≠ (TX3 b).2.1 := by decide +kernel
theorem tyX3_ok : ∀ k, k < 2 → parseFieldDescriptor (TX3 k).2.2.1 = some (tyX3 k) := by decide +kernel
abbrev cX3_init : ByteArray := prog_5_method_1_code
def yX3_init : MethodName := ⟨RX3, "<init>", "()V"⟩
abbrev cX3_copyFrom : ByteArray := prog_5_method_2_code
def yX3_copyFrom : MethodName := ⟨RX3, "copyFrom", "(LJetStarts$Log;)V"⟩
abbrev cX3_add : ByteArray := prog_5_method_3_code
def yX3_add : MethodName := ⟨RX3, "add", "(ILJetStarts$Attempt;I)V"⟩
abbrev cX3_numberOf : ByteArray := prog_5_method_4_code
def yX3_numberOf : MethodName := ⟨RX3, "numberOf", "(II)I"⟩
def RX4 : String := "JetStarts$Pad"
def TX4 : u_T := fun k => match k with
  | 0 => ("JetStarts$Pad", "signs", "[C", true)
  | _ => ("JetStarts$Pad", "length", "I", false)
def tyX4 : Nat → FieldType := fun k => match k with
  | 0 => .array .char
  | _ => .int
abbrev wsX40 : List Cond := u_ws RX4 TX4 2
theorem nmX4 : ∀ a, a < 2 → ∀ b, b < 2 → a ≠ b → (TX4 a).2.1 ≠ (TX4 b).2.1 := by decide +kernel
theorem tyX4_ok : ∀ k, k < 2 → parseFieldDescriptor (TX4 k).2.2.1 = some (tyX4 k) := by decide +kernel
abbrev cX4_init : ByteArray := prog_6_method_1_code
def yX4_init : MethodName := ⟨RX4, "<init>", "()V"⟩
abbrev cX4_charactersIn : ByteArray := prog_6_method_2_code
def yX4_charactersIn : MethodName := ⟨RX4, "charactersIn", "(J)I"⟩
abbrev cX4_append : ByteArray := prog_6_method_3_code
def yX4_append : MethodName := ⟨RX4, "append", "(JI)V"⟩
abbrev cX4_signAt : ByteArray := prog_6_method_4_code
def yX4_signAt : MethodName := ⟨RX4, "signAt", "(I)C"⟩
abbrev cX4_beginsDeed : ByteArray := prog_6_method_5_code
def yX4_beginsDeed : MethodName := ⟨RX4, "beginsDeed", "(I)Z"⟩
abbrev cX4_numberFrom : ByteArray := prog_6_method_6_code
def yX4_numberFrom : MethodName := ⟨RX4, "numberFrom", "(I)I"⟩
abbrev cX4_firstFault : ByteArray := prog_6_method_7_code
def yX4_firstFault : MethodName := ⟨RX4, "firstFault", "()I"⟩
abbrev cX4_placeBehind : ByteArray := prog_6_method_8_code
def yX4_placeBehind : MethodName := ⟨RX4, "placeBehind", "(IC)I"⟩
abbrev cX4_placeBehindDeedSign : ByteArray := prog_6_method_9_code
def yX4_placeBehindDeedSign : MethodName := ⟨RX4, "placeBehindDeedSign", "(C)I"⟩
abbrev cX4_placeBehindEnd : ByteArray := prog_6_method_10_code
def yX4_placeBehindEnd : MethodName := ⟨RX4, "placeBehindEnd", "(C)I"⟩
abbrev cX4_isDigit : ByteArray := prog_6_method_11_code
def yX4_isDigit : MethodName := ⟨RX4, "isDigit", "(C)Z"⟩
def RX5 : String := "JetStarts$State"
def TX5 : u_T := fun k => match k with
  | 0 => ("JetStarts$State", "jet", "LJetStarts$Engine;", true)
  | 1 => ("JetStarts$State", "attempt", "LJetStarts$Attempt;", true)
  | 2 => ("JetStarts$State", "log", "LJetStarts$Log;", true)
  | 3 => ("JetStarts$State", "tally", "LJetStarts$Tally;", true)
  | _ => ("JetStarts$State", "ticks", "I", false)
def tyX5 : Nat → FieldType := fun k => match k with
  | 0 => .object "JetStarts$Engine"
  | 1 => .object "JetStarts$Attempt"
  | 2 => .object "JetStarts$Log"
  | 3 => .object "JetStarts$Tally"
  | _ => .int
abbrev wsX50 : List Cond := u_ws RX5 TX5 5
theorem nmX5 : ∀ a, a < 5 → ∀ b, b < 5 → a ≠ b → (TX5 a).2.1 ≠ (TX5 b).2.1 := by decide +kernel
theorem tyX5_ok : ∀ k, k < 5 → parseFieldDescriptor (TX5 k).2.2.1 = some (tyX5 k) := by decide +kernel
abbrev cX5_init : ByteArray := prog_7_method_1_code
def yX5_init : MethodName := ⟨RX5, "<init>", "()V"⟩
abbrev cX5_copyFrom : ByteArray := prog_7_method_2_code
def yX5_copyFrom : MethodName := ⟨RX5, "copyFrom", "(LJetStarts$State;)V"⟩
abbrev cX5_hasRoomFor : ByteArray := prog_7_method_3_code
def yX5_hasRoomFor : MethodName := ⟨RX5, "hasRoomFor", "(I)Z"⟩
abbrev cX5_canTurnStarter : ByteArray := prog_7_method_4_code
def yX5_canTurnStarter : MethodName := ⟨RX5, "canTurnStarter", "(Z)Z"⟩
abbrev cX5_turnStarter : ByteArray := prog_7_method_5_code
def yX5_turnStarter : MethodName := ⟨RX5, "turnStarter", "(Z)V"⟩
abbrev cX5_passTicks : ByteArray := prog_7_method_6_code
def yX5_passTicks : MethodName := ⟨RX5, "passTicks", "(I)V"⟩
abbrev cX5_passTick : ByteArray := prog_7_method_7_code
def yX5_passTick : MethodName := ⟨RX5, "passTick", "()V"⟩
abbrev cX5_endAttemptIfOver : ByteArray := prog_7_method_8_code
def yX5_endAttemptIfOver : MethodName := ⟨RX5, "endAttemptIfOver", "()V"⟩
abbrev cX5_passTicksUntilRunning : ByteArray := prog_7_method_9_code
def yX5_passTicksUntilRunning : MethodName := ⟨RX5, "passTicksUntilRunning", "(Z)I"⟩
def RX6 : String := "JetStarts$Tally"
def TX6 : u_T := fun k => match k with
  | 0 => ("JetStarts$Tally", "endings", "[I", true)
  | 1 => ("JetStarts$Tally", "hotTicks", "I", false)
  | 2 => ("JetStarts$Tally", "runningTicks", "I", false)
  | 3 => ("JetStarts$Tally", "newFlames", "I", false)
  | 4 => ("JetStarts$Tally", "lostFlames", "I", false)
  | _ => ("JetStarts$Tally", "greatestHeat", "I", false)
def tyX6 : Nat → FieldType := fun k => match k with
  | 0 => .array .int
  | 1 => .int
  | 2 => .int
  | 3 => .int
  | 4 => .int
  | _ => .int
abbrev wsX60 : List Cond := u_ws RX6 TX6 6
theorem nmX6 : ∀ a, a < 6 → ∀ b, b < 6 → a ≠ b → (TX6 a).2.1 ≠ (TX6 b).2.1 := by decide +kernel
theorem tyX6_ok : ∀ k, k < 6 → parseFieldDescriptor (TX6 k).2.2.1 = some (tyX6 k) := by decide +kernel
abbrev cX6_init : ByteArray := prog_8_method_1_code
def yX6_init : MethodName := ⟨RX6, "<init>", "()V"⟩
abbrev cX6_copyFrom : ByteArray := prog_8_method_2_code
def yX6_copyFrom : MethodName := ⟨RX6, "copyFrom", "(LJetStarts$Tally;)V"⟩
abbrev cX6_forgetHeat : ByteArray := prog_8_method_3_code
def yX6_forgetHeat : MethodName := ⟨RX6, "forgetHeat", "()V"⟩
abbrev cX6_addTick : ByteArray := prog_8_method_4_code
def yX6_addTick : MethodName := ⟨RX6, "addTick", "(LJetStarts$Engine;Z)V"⟩
abbrev cX6_addEnding : ByteArray := prog_8_method_5_code
def yX6_addEnding : MethodName := ⟨RX6, "addEnding", "(I)V"⟩
def RX7 : String := "JetStarts"
def TX7 : u_T := fun k => match k with
  | 0 => ("JetStarts", "now", "LJetStarts$State;", true)
  | 1 => ("JetStarts", "trial", "LJetStarts$State;", true)
  | 2 => ("JetStarts", "history", "LJetStarts$History;", true)
  | 3 => ("JetStarts", "slots", "[LJetStarts$State;", true)
  | 4 => ("JetStarts", "isSaved", "[Z", true)
  | _ => ("JetStarts", "pad", "LJetStarts$Pad;", true)
def tyX7 : Nat → FieldType := fun k => match k with
  | 0 => .object "JetStarts$State"
  | 1 => .object "JetStarts$State"
  | 2 => .object "JetStarts$History"
  | 3 => .array (.object "JetStarts$State")
  | 4 => .array .boolean
  | _ => .object "JetStarts$Pad"
abbrev wsX70 : List Cond := u_ws RX7 TX7 6
theorem nmX7 : ∀ a, a < 6 → ∀ b, b < 6 → a ≠ b → (TX7 a).2.1 ≠ (TX7 b).2.1 := by decide +kernel
theorem tyX7_ok : ∀ k, k < 6 → parseFieldDescriptor (TX7 k).2.2.1 = some (tyX7 k) := by decide +kernel
abbrev cX7_init : ByteArray := prog_1_method_1_code
def yX7_init : MethodName := ⟨RX7, "<init>", "()V"⟩
abbrev cX7_set : ByteArray := prog_1_method_2_code
def yX7_set : MethodName := ⟨RX7, "set", "(II)I"⟩
abbrev cX7_starter : ByteArray := prog_1_method_3_code
def yX7_starter : MethodName := ⟨RX7, "starter", "(Z)I"⟩
abbrev cX7_spark : ByteArray := prog_1_method_4_code
def yX7_spark : MethodName := ⟨RX7, "spark", "(Z)I"⟩
abbrev cX7_fuel : ByteArray := prog_1_method_5_code
def yX7_fuel : MethodName := ⟨RX7, "fuel", "(I)I"⟩
abbrev cX7_drain : ByteArray := prog_1_method_6_code
def yX7_drain : MethodName := ⟨RX7, "drain", "()I"⟩
abbrev cX7_battery : ByteArray := prog_1_method_7_code
def yX7_battery : MethodName := ⟨RX7, "battery", "(I)I"⟩
abbrev cX7_tick : ByteArray := prog_1_method_8_code
def yX7_tick : MethodName := ⟨RX7, "tick", "(I)I"⟩
abbrev cX7_run : ByteArray := prog_1_method_9_code
def yX7_run : MethodName := ⟨RX7, "run", "()I"⟩
abbrev cX7_engine : ByteArray := prog_1_method_10_code
def yX7_engine : MethodName := ⟨RX7, "engine", "(I)I"⟩
abbrev cX7_start : ByteArray := prog_1_method_11_code
def yX7_start : MethodName := ⟨RX7, "start", "(II)I"⟩
abbrev cX7_count : ByteArray := prog_1_method_12_code
def yX7_count : MethodName := ⟨RX7, "count", "(I)I"⟩
abbrev cX7_untilRunning : ByteArray := prog_1_method_13_code
def yX7_untilRunning : MethodName := ⟨RX7, "untilRunning", "()I"⟩
abbrev cX7_ifTicked : ByteArray := prog_1_method_14_code
def yX7_ifTicked : MethodName := ⟨RX7, "ifTicked", "(II)I"⟩
abbrev cX7_bestFuel : ByteArray := prog_1_method_15_code
def yX7_bestFuel : MethodName := ⟨RX7, "bestFuel", "()I"⟩
abbrev cX7_leastBattery : ByteArray := prog_1_method_16_code
def yX7_leastBattery : MethodName := ⟨RX7, "leastBattery", "()I"⟩
abbrev cX7_put : ByteArray := prog_1_method_17_code
def yX7_put : MethodName := ⟨RX7, "put", "(J)I"⟩
abbrev cX7_wipe : ByteArray := prog_1_method_18_code
def yX7_wipe : MethodName := ⟨RX7, "wipe", "()I"⟩
abbrev cX7_fault : ByteArray := prog_1_method_19_code
def yX7_fault : MethodName := ⟨RX7, "fault", "()I"⟩
abbrev cX7_undo : ByteArray := prog_1_method_20_code
def yX7_undo : MethodName := ⟨RX7, "undo", "()I"⟩
abbrev cX7_save : ByteArray := prog_1_method_21_code
def yX7_save : MethodName := ⟨RX7, "save", "(I)I"⟩
abbrev cX7_restore : ByteArray := prog_1_method_22_code
def yX7_restore : MethodName := ⟨RX7, "restore", "(I)I"⟩
abbrev cX7_oneIf : ByteArray := prog_1_method_23_code
def yX7_oneIf : MethodName := ⟨RX7, "oneIf", "(Z)I"⟩
abbrev cX7_doDeed : ByteArray := prog_1_method_24_code
def yX7_doDeed : MethodName := ⟨RX7, "doDeed", "(CI)Z"⟩
def RX8 : String := "JetStartsModel"
def TX8 : u_T := fun k => match k with
  | 0 => ("JetStartsModel", "s", "[I", true)
  | 1 => ("JetStartsModel", "spare", "[I", true)
  | 2 => ("JetStartsModel", "trial", "[I", true)
  | 3 => ("JetStartsModel", "before", "[I", true)
  | 4 => ("JetStartsModel", "saved", "[I", true)
  | 5 => ("JetStartsModel", "isSaved", "[Z", true)
  | 6 => ("JetStartsModel", "read", "[I", true)
  | 7 => ("JetStartsModel", "pad", "[C", true)
  | 8 => ("JetStartsModel", "length", "I", false)
  | 9 => ("JetStartsModel", "states", "I", false)
  | 10 => ("JetStartsModel", "deeds", "I", false)
  | _ => ("JetStartsModel", "at", "I", false)
def tyX8 : Nat → FieldType := fun k => match k with
  | 0 => .array .int
  | 1 => .array .int
  | 2 => .array .int
  | 3 => .array .int
  | 4 => .array .int
  | 5 => .array .boolean
  | 6 => .array .int
  | 7 => .array .char
  | 8 => .int
  | 9 => .int
  | 10 => .int
  | _ => .int
abbrev wsX80 : List Cond := u_ws RX8 TX8 12
theorem nmX8 : ∀ a, a < 12 → ∀ b, b < 12 → a ≠ b → (TX8 a).2.1 ≠ (TX8 b).2.1 := by decide +kernel
theorem tyX8_ok : ∀ k, k < 12 → parseFieldDescriptor (TX8 k).2.2.1 = some (tyX8 k) := by decide +kernel
abbrev cX8_init : ByteArray := prog_10_method_1_code
def yX8_init : MethodName := ⟨RX8, "<init>", "()V"⟩
abbrev cX8_in : ByteArray := prog_10_method_2_code
def yX8_in : MethodName := ⟨RX8, "in", "(III)Z"⟩
abbrev cX8_hold : ByteArray := prog_10_method_3_code
def yX8_hold : MethodName := ⟨RX8, "hold", "()V"⟩
abbrev cX8_recorded : ByteArray := prog_10_method_4_code
def yX8_recorded : MethodName := ⟨RX8, "recorded", "(I)I"⟩
abbrev cX8_keepTrial : ByteArray := prog_10_method_5_code
def yX8_keepTrial : MethodName := ⟨RX8, "keepTrial", "()V"⟩
abbrev cX8_putBack : ByteArray := prog_10_method_6_code
def yX8_putBack : MethodName := ⟨RX8, "putBack", "()V"⟩
abbrev cX8_runsNow : ByteArray := prog_10_method_7_code
def yX8_runsNow : MethodName := ⟨RX8, "runsNow", "()Z"⟩
abbrev cX8_pushes : ByteArray := prog_10_method_8_code
def yX8_pushes : MethodName := ⟨RX8, "pushes", "()I"⟩
abbrev cX8_flames : ByteArray := prog_10_method_9_code
def yX8_flames : MethodName := ⟨RX8, "flames", "()V"⟩
abbrev cX8_burns : ByteArray := prog_10_method_10_code
def yX8_burns : MethodName := ⟨RX8, "burns", "()I"⟩
abbrev cX8_ends : ByteArray := prog_10_method_11_code
def yX8_ends : MethodName := ⟨RX8, "ends", "(I)V"⟩
abbrev cX8_goesOn : ByteArray := prog_10_method_12_code
def yX8_goesOn : MethodName := ⟨RX8, "goesOn", "(IZ)V"⟩
abbrev cX8_ticksOnce : ByteArray := prog_10_method_13_code
def yX8_ticksOnce : MethodName := ⟨RX8, "ticksOnce", "()V"⟩
abbrev cX8_starts : ByteArray := prog_10_method_14_code
def yX8_starts : MethodName := ⟨RX8, "starts", "(I)I"⟩
abbrev cX8_sparks : ByteArray := prog_10_method_15_code
def yX8_sparks : MethodName := ⟨RX8, "sparks", "(I)I"⟩
abbrev cX8_fuels : ByteArray := prog_10_method_16_code
def yX8_fuels : MethodName := ⟨RX8, "fuels", "(I)I"⟩
abbrev cX8_passes : ByteArray := prog_10_method_17_code
def yX8_passes : MethodName := ⟨RX8, "passes", "(I)I"⟩
abbrev cX8_isSetting : ByteArray := prog_10_method_18_code
def yX8_isSetting : MethodName := ⟨RX8, "isSetting", "(II)Z"⟩
abbrev cX8_set : ByteArray := prog_10_method_19_code
def yX8_set : MethodName := ⟨RX8, "set", "(II)I"⟩
abbrev cX8_starter : ByteArray := prog_10_method_20_code
def yX8_starter : MethodName := ⟨RX8, "starter", "(Z)I"⟩
abbrev cX8_spark : ByteArray := prog_10_method_21_code
def yX8_spark : MethodName := ⟨RX8, "spark", "(Z)I"⟩
abbrev cX8_fuel : ByteArray := prog_10_method_22_code
def yX8_fuel : MethodName := ⟨RX8, "fuel", "(I)I"⟩
abbrev cX8_drain : ByteArray := prog_10_method_23_code
def yX8_drain : MethodName := ⟨RX8, "drain", "()I"⟩
abbrev cX8_battery : ByteArray := prog_10_method_24_code
def yX8_battery : MethodName := ⟨RX8, "battery", "(I)I"⟩
abbrev cX8_tick : ByteArray := prog_10_method_25_code
def yX8_tick : MethodName := ⟨RX8, "tick", "(I)I"⟩
abbrev cX8_isSign : ByteArray := prog_10_method_26_code
def yX8_isSign : MethodName := ⟨RX8, "isSign", "(CC)Z"⟩
abbrev cX8_accepts : ByteArray := prog_10_method_27_code
def yX8_accepts : MethodName := ⟨RX8, "accepts", "(C)Z"⟩
abbrev cX8_number : ByteArray := prog_10_method_28_code
def yX8_number : MethodName := ⟨RX8, "number", "(II)Z"⟩
abbrev cX8_readsDeed : ByteArray := prog_10_method_29_code
def yX8_readsDeed : MethodName := ⟨RX8, "readsDeed", "()Z"⟩
abbrev cX8_faultOf : ByteArray := prog_10_method_30_code
def yX8_faultOf : MethodName := ⟨RX8, "faultOf", "()I"⟩
abbrev cX8_does : ByteArray := prog_10_method_31_code
def yX8_does : MethodName := ⟨RX8, "does", "(I)I"⟩
abbrev cX8_run : ByteArray := prog_10_method_32_code
def yX8_run : MethodName := ⟨RX8, "run", "()I"⟩
abbrev cX8_engine : ByteArray := prog_10_method_33_code
def yX8_engine : MethodName := ⟨RX8, "engine", "(I)I"⟩
abbrev cX8_start : ByteArray := prog_10_method_34_code
def yX8_start : MethodName := ⟨RX8, "start", "(II)I"⟩
abbrev cX8_count : ByteArray := prog_10_method_35_code
def yX8_count : MethodName := ⟨RX8, "count", "(I)I"⟩
abbrev cX8_runsIn : ByteArray := prog_10_method_36_code
def yX8_runsIn : MethodName := ⟨RX8, "runsIn", "()I"⟩
abbrev cX8_untilRunning : ByteArray := prog_10_method_37_code
def yX8_untilRunning : MethodName := ⟨RX8, "untilRunning", "()I"⟩
abbrev cX8_ifTicked : ByteArray := prog_10_method_38_code
def yX8_ifTicked : MethodName := ⟨RX8, "ifTicked", "(II)I"⟩
abbrev cX8_bestFuel : ByteArray := prog_10_method_39_code
def yX8_bestFuel : MethodName := ⟨RX8, "bestFuel", "()I"⟩
abbrev cX8_leastBattery : ByteArray := prog_10_method_40_code
def yX8_leastBattery : MethodName := ⟨RX8, "leastBattery", "()I"⟩
abbrev cX8_put : ByteArray := prog_10_method_41_code
def yX8_put : MethodName := ⟨RX8, "put", "(J)I"⟩
abbrev cX8_wipe : ByteArray := prog_10_method_42_code
def yX8_wipe : MethodName := ⟨RX8, "wipe", "()I"⟩
abbrev cX8_fault : ByteArray := prog_10_method_43_code
def yX8_fault : MethodName := ⟨RX8, "fault", "()I"⟩
abbrev cX8_undo : ByteArray := prog_10_method_44_code
def yX8_undo : MethodName := ⟨RX8, "undo", "()I"⟩
abbrev cX8_save : ByteArray := prog_10_method_45_code
def yX8_save : MethodName := ⟨RX8, "save", "(I)I"⟩
abbrev cX8_restore : ByteArray := prog_10_method_46_code
def yX8_restore : MethodName := ⟨RX8, "restore", "(I)I"⟩
def RJ9 : String := "java/lang/Math"
def TJ9 : u_T := fun k => match k with
  | _ => ("", "", "", false)
def tyJ9 : Nat → FieldType := fun k => match k with
  | _ => .int
abbrev wsJ90 : List Cond := u_ws RJ9 TJ9 0
theorem nmJ9 : ∀ a, a < 0 → ∀ b, b < 0 → a ≠ b → (TJ9 a).2.1 ≠ (TJ9 b).2.1 := by decide +kernel
theorem tyJ9_ok : ∀ k, k < 0 → parseFieldDescriptor (TJ9 k).2.2.1 = some (tyJ9 k) := by decide +kernel
abbrev cJ9_max_7cf53 : ByteArray := prog_11_method_65_code
def yJ9_max_7cf53 : MethodName := ⟨RJ9, "max", "(II)I"⟩
abbrev cJ9_min_7cf53 : ByteArray := prog_11_method_69_code
def yJ9_min_7cf53 : MethodName := ⟨RJ9, "min", "(II)I"⟩
def RJ10 : String := "java/lang/System"
def TJ10 : u_T := fun k => match k with
  | _ => ("", "", "", false)
def tyJ10 : Nat → FieldType := fun k => match k with
  | _ => .int
abbrev wsJ100 : List Cond := u_ws RJ10 TJ10 0
theorem nmJ10 : ∀ a, a < 0 → ∀ b, b < 0 → a ≠ b → (TJ10 a).2.1 ≠ (TJ10 b).2.1 := by decide +kernel
theorem tyJ10_ok : ∀ k, k < 0 → parseFieldDescriptor (TJ10 k).2.2.1 = some (tyJ10 k) := by decide +kernel
def RL : String := "JetStartsLaw"
abbrev cL_law : ByteArray := code
def yL_law : MethodName := ⟨RL, "law", "([I)Z"⟩
def wsX0_init : List Cond := .code yX0_init cX0_init 1 none :: ([.methodLink RX0 3 objectInit, .instanceMethod objectInit, .code objectInit ⟨#[0xb1]⟩ 1 none])
def wsX0_copyFrom : List Cond := .code yX0_copyFrom cX0_copyFrom 2 none :: ([.fieldLink RX0 9 "JetStarts$Attempt" "isUnderWay" "Z", .fieldLink RX0 15 "JetStarts$Attempt" "ticks" "I", .fieldLink RX0 19 "JetStarts$Attempt" "greatestHeat" "I", .fieldLink RX0 22 "JetStarts$Attempt" "firstBattery" "I", .fieldLink RX0 25 "JetStarts$Attempt" "stalledTicks" "I"] ++ wsX00)
def wsX0_begin : List Cond := .code yX0_begin cX0_begin 2 none :: ([.fieldLink RX0 9 "JetStarts$Attempt" "isUnderWay" "Z", .fieldLink RX0 15 "JetStarts$Attempt" "ticks" "I", .fieldLink RX0 19 "JetStarts$Attempt" "greatestHeat" "I", .fieldLink RX0 22 "JetStarts$Attempt" "firstBattery" "I", .fieldLink RX0 25 "JetStarts$Attempt" "stalledTicks" "I"] ++ wsX00)
def wsX0_addTick : List Cond := .code yX0_addTick cX0_addTick 3 none :: ([.fieldLink RX0 15 "JetStarts$Attempt" "ticks" "I", .fieldLink RX0 19 "JetStarts$Attempt" "greatestHeat" "I", .methodLink RX0 33 Lib.Math.max.name, .static Lib.Math.max.name, .initialized "java/lang/Math", .code Lib.Math.max.name Lib.Math.max.code 2 (some .int), .fieldLink RX0 25 "JetStarts$Attempt" "stalledTicks" "I"] ++ wsX00 ++ wsX10)
def wsX1_isHot : List Cond := .code yX1_isHot cX1_isHot 1 (some .boolean) :: ([.fieldLink RX1 31 "JetStarts$Engine" "heat" "I", .fieldLink RX1 9 "JetStarts$Engine" "settings" "[I"] ++ wsX10)
def wsX1_runs : List Cond := .code yX1_runs cX1_runs 1 (some .boolean) :: ([.fieldLink RX1 47 "JetStarts$Engine" "hasFlame" "Z", .fieldLink RX1 28 "JetStarts$Engine" "speed" "I"] ++ wsX10)
def wsX1_isSpent : List Cond := .code yX1_isSpent cX1_isSpent 1 (some .boolean) :: ([.fieldLink RX1 44 "JetStarts$Engine" "isCranking" "Z", .fieldLink RX1 47 "JetStarts$Engine" "hasFlame" "Z", .fieldLink RX1 28 "JetStarts$Engine" "speed" "I", .fieldLink RX1 9 "JetStarts$Engine" "settings" "[I"] ++ wsX10)
def wsX0_endingWith : List Cond := .code yX0_endingWith cX0_endingWith 2 (some .int) :: ([.fieldLink RX0 25 "JetStarts$Attempt" "stalledTicks" "I", .instanceMethod yX1_isHot, .initialized RX1, .selects RX1 yX1_isHot yX1_isHot, .code yX1_isHot cX1_isHot 1 (some .boolean), .fieldLink RX1 31 "JetStarts$Engine" "heat" "I", .fieldLink RX1 9 "JetStarts$Engine" "settings" "[I", .instanceMethod yX1_runs, .selects RX1 yX1_runs yX1_runs, .code yX1_runs cX1_runs 1 (some .boolean), .fieldLink RX1 47 "JetStarts$Engine" "hasFlame" "Z", .fieldLink RX1 28 "JetStarts$Engine" "speed" "I", .instanceMethod yX1_isSpent, .selects RX1 yX1_isSpent yX1_isSpent, .code yX1_isSpent cX1_isSpent 1 (some .boolean), .fieldLink RX1 44 "JetStarts$Engine" "isCranking" "Z"] ++ wsX10 ++ wsX00)
def wsX1_init : List Cond := .code yX1_init cX1_init 1 none :: ([.methodLink RX1 3 objectInit, .instanceMethod objectInit, .code objectInit ⟨#[0xb1]⟩ 1 none, .arrayClass .int, .fieldLink RX1 9 "JetStarts$Engine" "settings" "[I", .fieldLink RX1 15 "JetStarts$Engine" "battery" "I", .methodLink RX1 22 arraycopyName, .native arraycopyName, .static arraycopyName, .initialized "java/lang/System"] ++ wsX10)
def wsX1_copyFrom : List Cond := .code yX1_copyFrom cX1_copyFrom 2 none :: ([.fieldLink RX1 9 "JetStarts$Engine" "settings" "[I", .methodLink RX1 22 arraycopyName, .native arraycopyName, .static arraycopyName, .initialized "java/lang/System", .fieldLink RX1 28 "JetStarts$Engine" "speed" "I", .fieldLink RX1 31 "JetStarts$Engine" "heat" "I", .fieldLink RX1 34 "JetStarts$Engine" "step" "I", .fieldLink RX1 37 "JetStarts$Engine" "pool" "I", .fieldLink RX1 15 "JetStarts$Engine" "battery" "I", .fieldLink RX1 40 "JetStarts$Engine" "hasSpark" "Z", .fieldLink RX1 44 "JetStarts$Engine" "isCranking" "Z", .fieldLink RX1 47 "JetStarts$Engine" "hasFlame" "Z"] ++ wsX10)
def wsX1_pushOfStarter : List Cond := .code yX1_pushOfStarter cX1_pushOfStarter 2 (some .int) :: ([.fieldLink RX1 28 "JetStarts$Engine" "speed" "I", .fieldLink RX1 15 "JetStarts$Engine" "battery" "I", .fieldLink RX1 44 "JetStarts$Engine" "isCranking" "Z", .methodLink RX1 78 Lib.Math.max.name, .static Lib.Math.max.name, .initialized "java/lang/Math", .code Lib.Math.max.name Lib.Math.max.code 2 (some .int), .fieldLink RX1 9 "JetStarts$Engine" "settings" "[I"] ++ wsX10)
def wsX1_changeFlame : List Cond := .code yX1_changeFlame cX1_changeFlame 3 none :: ([.fieldLink RX1 9 "JetStarts$Engine" "settings" "[I", .fieldLink RX1 47 "JetStarts$Engine" "hasFlame" "Z", .fieldLink RX1 34 "JetStarts$Engine" "step" "I", .fieldLink RX1 37 "JetStarts$Engine" "pool" "I", .fieldLink RX1 28 "JetStarts$Engine" "speed" "I", .methodLink RX1 72 Lib.Math.min.name, .static Lib.Math.min.name, .initialized "java/lang/Math", .code Lib.Math.min.name Lib.Math.min.code 2 (some .int), .fieldLink RX1 40 "JetStarts$Engine" "hasSpark" "Z"] ++ wsX10)
def wsX1_burn : List Cond := .code yX1_burn cX1_burn 2 (some .int) :: ([.fieldLink RX1 47 "JetStarts$Engine" "hasFlame" "Z", .fieldLink RX1 37 "JetStarts$Engine" "pool" "I", .fieldLink RX1 34 "JetStarts$Engine" "step" "I"] ++ wsX10)
def wsX1_changeSpeed : List Cond := .code yX1_changeSpeed cX1_changeSpeed 4 none :: ([.fieldLink RX1 28 "JetStarts$Engine" "speed" "I", .fieldLink RX1 9 "JetStarts$Engine" "settings" "[I", .methodLink RX1 72 Lib.Math.min.name, .static Lib.Math.min.name, .initialized "java/lang/Math", .code Lib.Math.min.name Lib.Math.min.code 2 (some .int)] ++ wsX10)
def wsX1_changeHeat : List Cond := .code yX1_changeHeat cX1_changeHeat 4 none :: ([.fieldLink RX1 31 "JetStarts$Engine" "heat" "I", .fieldLink RX1 9 "JetStarts$Engine" "settings" "[I", .methodLink RX1 72 Lib.Math.min.name, .static Lib.Math.min.name, .initialized "java/lang/Math", .code Lib.Math.min.name Lib.Math.min.code 2 (some .int), .fieldLink RX1 28 "JetStarts$Engine" "speed" "I", .methodLink RX1 78 Lib.Math.max.name, .static Lib.Math.max.name, .code Lib.Math.max.name Lib.Math.max.code 2 (some .int)] ++ wsX10)
def wsX1_passTick_r1 : List Cond := [Cond.fieldLink RX1 15 "JetStarts$Engine" "battery" "I", Cond.methodLink RX1 72 Lib.Math.min.name, Cond.static Lib.Math.min.name, Cond.initialized "java/lang/Math", Cond.code Lib.Math.min.name Lib.Math.min.code 2 (some .int), Cond.methodLink RX1 50 yX1_pushOfStarter, Cond.instanceMethod yX1_pushOfStarter, Cond.selects RX1 yX1_pushOfStarter yX1_pushOfStarter, Cond.initialized RX1, Cond.code yX1_pushOfStarter cX1_pushOfStarter 2 (some .int), Cond.fieldLink RX1 28 "JetStarts$Engine" "speed" "I", Cond.fieldLink RX1 44 "JetStarts$Engine" "isCranking" "Z", Cond.methodLink RX1 78 Lib.Math.max.name, Cond.static Lib.Math.max.name, Cond.code Lib.Math.max.name Lib.Math.max.code 2 (some .int), Cond.fieldLink RX1 9 "JetStarts$Engine" "settings" "[I", Cond.methodLink RX1 54 yX1_changeFlame, Cond.instanceMethod yX1_changeFlame, Cond.selects RX1 yX1_changeFlame yX1_changeFlame, Cond.code yX1_changeFlame cX1_changeFlame 3 none, Cond.fieldLink RX1 47 "JetStarts$Engine" "hasFlame" "Z", Cond.fieldLink RX1 34 "JetStarts$Engine" "step" "I", Cond.fieldLink RX1 37 "JetStarts$Engine" "pool" "I", Cond.fieldLink RX1 40 "JetStarts$Engine" "hasSpark" "Z"]
def wsX1_passTick_r2 : List Cond := [Cond.methodLink RX1 57 yX1_burn, Cond.instanceMethod yX1_burn, Cond.selects RX1 yX1_burn yX1_burn, Cond.code yX1_burn cX1_burn 2 (some .int), Cond.methodLink RX1 60 yX1_changeSpeed, Cond.instanceMethod yX1_changeSpeed, Cond.selects RX1 yX1_changeSpeed yX1_changeSpeed, Cond.code yX1_changeSpeed cX1_changeSpeed 4 none, Cond.methodLink RX1 64 yX1_changeHeat, Cond.instanceMethod yX1_changeHeat, Cond.selects RX1 yX1_changeHeat yX1_changeHeat, Cond.code yX1_changeHeat cX1_changeHeat 4 none, Cond.fieldLink RX1 31 "JetStarts$Engine" "heat" "I", Cond.methodLink RX1 68 yX1_runs, Cond.instanceMethod yX1_runs, Cond.selects RX1 yX1_runs yX1_runs, Cond.code yX1_runs cX1_runs 1 (some .boolean)]
def wsX1_passTick : List Cond := .code yX1_passTick cX1_passTick 3 none :: ((wsX1_passTick_r1 ++ wsX1_passTick_r2) ++ wsX10)
def wsX3_init : List Cond := .code yX3_init cX3_init 1 none :: ([.methodLink RX3 3 objectInit, .instanceMethod objectInit, .code objectInit ⟨#[0xb1]⟩ 1 none, .arrayClass .int, .fieldLink RX3 11 "JetStarts$Log" "numbers" "[I"] ++ wsX30)
def wsX6_init : List Cond := .code yX6_init cX6_init 1 none :: ([.methodLink RX6 3 objectInit, .instanceMethod objectInit, .code objectInit ⟨#[0xb1]⟩ 1 none, .arrayClass .int, .fieldLink RX6 9 "JetStarts$Tally" "endings" "[I"] ++ wsX60)
def wsX5_init_r1 : List Cond := [Cond.methodLink RX5 3 objectInit, Cond.instanceMethod objectInit, Cond.code objectInit ⟨#[0xb1]⟩ 1 none, Cond.classLink RX5 9 RX1, Cond.instantiable RX1 9, Cond.initialized RX1, Cond.fieldLink RX5 12 "JetStarts$State" "jet" "LJetStarts$Engine;", Cond.classLink RX5 18 RX0, Cond.instantiable RX0 5, Cond.initialized RX0, Cond.fieldLink RX5 21 "JetStarts$State" "attempt" "LJetStarts$Attempt;", Cond.classLink RX5 25 RX3, Cond.instantiable RX3 2, Cond.initialized RX3, Cond.fieldLink RX5 28 "JetStarts$State" "log" "LJetStarts$Log;", Cond.classLink RX5 32 RX6, Cond.instantiable RX6 6, Cond.initialized RX6, Cond.fieldLink RX5 35 "JetStarts$State" "tally" "LJetStarts$Tally;", Cond.instanceMethod yX1_init, Cond.code yX1_init cX1_init 1 none, Cond.methodLink RX1 3 objectInit, Cond.arrayClass .int, Cond.fieldLink RX1 9 "JetStarts$Engine" "settings" "[I"]
def wsX5_init_r2 : List Cond := [Cond.fieldLink RX1 15 "JetStarts$Engine" "battery" "I", Cond.methodLink RX1 22 arraycopyName, Cond.native arraycopyName, Cond.static arraycopyName, Cond.initialized "java/lang/System", Cond.instanceMethod yX0_init, Cond.code yX0_init cX0_init 1 none, Cond.methodLink RX0 3 objectInit, Cond.instanceMethod yX3_init, Cond.code yX3_init cX3_init 1 none, Cond.methodLink RX3 3 objectInit, Cond.fieldLink RX3 11 "JetStarts$Log" "numbers" "[I", Cond.instanceMethod yX6_init, Cond.code yX6_init cX6_init 1 none, Cond.methodLink RX6 3 objectInit, Cond.fieldLink RX6 9 "JetStarts$Tally" "endings" "[I"]
def wsX5_init : List Cond := .code yX5_init cX5_init 1 none :: ((wsX5_init_r1 ++ wsX5_init_r2) ++ wsX10 ++ wsX50 ++ wsX00 ++ wsX30 ++ wsX60)
def wsX2_init_r1 : List Cond := [Cond.methodLink RX2 3 objectInit, Cond.instanceMethod objectInit, Cond.code objectInit ⟨#[0xb1]⟩ 1 none, Cond.classLink RX2 9 RX5, Cond.fieldLink RX2 11 "JetStarts$History" "states" "[LJetStarts$State;", Cond.instantiable RX5 5, Cond.initialized RX5, Cond.instanceMethod yX5_init, Cond.code yX5_init cX5_init 1 none, Cond.methodLink RX5 3 objectInit, Cond.classLink RX5 9 RX1, Cond.instantiable RX1 9, Cond.initialized RX1, Cond.fieldLink RX5 12 "JetStarts$State" "jet" "LJetStarts$Engine;", Cond.classLink RX5 18 RX0, Cond.instantiable RX0 5, Cond.initialized RX0, Cond.fieldLink RX5 21 "JetStarts$State" "attempt" "LJetStarts$Attempt;", Cond.classLink RX5 25 RX3, Cond.instantiable RX3 2, Cond.initialized RX3, Cond.fieldLink RX5 28 "JetStarts$State" "log" "LJetStarts$Log;", Cond.classLink RX5 32 RX6, Cond.instantiable RX6 6]
def wsX2_init_r2 : List Cond := [Cond.initialized RX6, Cond.fieldLink RX5 35 "JetStarts$State" "tally" "LJetStarts$Tally;", Cond.instanceMethod yX1_init, Cond.code yX1_init cX1_init 1 none, Cond.methodLink RX1 3 objectInit, Cond.arrayClass .int, Cond.fieldLink RX1 9 "JetStarts$Engine" "settings" "[I", Cond.fieldLink RX1 15 "JetStarts$Engine" "battery" "I", Cond.methodLink RX1 22 arraycopyName, Cond.native arraycopyName, Cond.static arraycopyName, Cond.initialized "java/lang/System", Cond.instanceMethod yX0_init, Cond.code yX0_init cX0_init 1 none, Cond.methodLink RX0 3 objectInit, Cond.instanceMethod yX3_init, Cond.code yX3_init cX3_init 1 none, Cond.methodLink RX3 3 objectInit, Cond.fieldLink RX3 11 "JetStarts$Log" "numbers" "[I", Cond.instanceMethod yX6_init, Cond.code yX6_init cX6_init 1 none, Cond.methodLink RX6 3 objectInit, Cond.fieldLink RX6 9 "JetStarts$Tally" "endings" "[I"]
def wsX2_init : List Cond := .code yX2_init cX2_init 2 none :: ((wsX2_init_r1 ++ wsX2_init_r2) ++ wsX20 ++ wsX50 ++ wsX10 ++ wsX00 ++ wsX30 ++ wsX60)
def wsX3_copyFrom : List Cond := .code yX3_copyFrom cX3_copyFrom 2 none :: ([.fieldLink RX3 11 "JetStarts$Log" "numbers" "[I", .methodLink RX3 15 arraycopyName, .native arraycopyName, .static arraycopyName, .initialized "java/lang/System", .fieldLink RX3 21 "JetStarts$Log" "kept" "I"] ++ wsX30)
def wsX6_copyFrom : List Cond := .code yX6_copyFrom cX6_copyFrom 2 none :: ([.fieldLink RX6 9 "JetStarts$Tally" "endings" "[I", .methodLink RX6 15 arraycopyName, .native arraycopyName, .static arraycopyName, .initialized "java/lang/System", .fieldLink RX6 21 "JetStarts$Tally" "hotTicks" "I", .fieldLink RX6 25 "JetStarts$Tally" "runningTicks" "I", .fieldLink RX6 28 "JetStarts$Tally" "newFlames" "I", .fieldLink RX6 31 "JetStarts$Tally" "lostFlames" "I", .fieldLink RX6 34 "JetStarts$Tally" "greatestHeat" "I"] ++ wsX60)
def wsX5_copyFrom_r1 : List Cond := [Cond.fieldLink RX5 12 "JetStarts$State" "jet" "LJetStarts$Engine;", Cond.fieldLink RX5 21 "JetStarts$State" "attempt" "LJetStarts$Attempt;", Cond.fieldLink RX5 28 "JetStarts$State" "log" "LJetStarts$Log;", Cond.fieldLink RX5 35 "JetStarts$State" "tally" "LJetStarts$Tally;", Cond.fieldLink RX5 52 "JetStarts$State" "ticks" "I", Cond.instanceMethod yX1_copyFrom, Cond.initialized RX1, Cond.selects RX1 yX1_copyFrom yX1_copyFrom, Cond.code yX1_copyFrom cX1_copyFrom 2 none, Cond.fieldLink RX1 9 "JetStarts$Engine" "settings" "[I", Cond.methodLink RX1 22 arraycopyName, Cond.native arraycopyName, Cond.static arraycopyName, Cond.initialized "java/lang/System", Cond.fieldLink RX1 28 "JetStarts$Engine" "speed" "I", Cond.fieldLink RX1 31 "JetStarts$Engine" "heat" "I", Cond.fieldLink RX1 34 "JetStarts$Engine" "step" "I", Cond.fieldLink RX1 37 "JetStarts$Engine" "pool" "I", Cond.fieldLink RX1 15 "JetStarts$Engine" "battery" "I", Cond.fieldLink RX1 40 "JetStarts$Engine" "hasSpark" "Z", Cond.fieldLink RX1 44 "JetStarts$Engine" "isCranking" "Z", Cond.fieldLink RX1 47 "JetStarts$Engine" "hasFlame" "Z", Cond.instanceMethod yX0_copyFrom, Cond.initialized RX0]
def wsX5_copyFrom_r2 : List Cond := [Cond.selects RX0 yX0_copyFrom yX0_copyFrom, Cond.code yX0_copyFrom cX0_copyFrom 2 none, Cond.fieldLink RX0 9 "JetStarts$Attempt" "isUnderWay" "Z", Cond.fieldLink RX0 15 "JetStarts$Attempt" "ticks" "I", Cond.fieldLink RX0 19 "JetStarts$Attempt" "greatestHeat" "I", Cond.fieldLink RX0 22 "JetStarts$Attempt" "firstBattery" "I", Cond.fieldLink RX0 25 "JetStarts$Attempt" "stalledTicks" "I", Cond.instanceMethod yX3_copyFrom, Cond.initialized RX3, Cond.selects RX3 yX3_copyFrom yX3_copyFrom, Cond.code yX3_copyFrom cX3_copyFrom 2 none, Cond.fieldLink RX3 11 "JetStarts$Log" "numbers" "[I", Cond.methodLink RX3 15 arraycopyName, Cond.fieldLink RX3 21 "JetStarts$Log" "kept" "I", Cond.instanceMethod yX6_copyFrom, Cond.initialized RX6, Cond.selects RX6 yX6_copyFrom yX6_copyFrom, Cond.code yX6_copyFrom cX6_copyFrom 2 none, Cond.fieldLink RX6 9 "JetStarts$Tally" "endings" "[I", Cond.methodLink RX6 15 arraycopyName, Cond.fieldLink RX6 21 "JetStarts$Tally" "hotTicks" "I", Cond.fieldLink RX6 25 "JetStarts$Tally" "runningTicks" "I", Cond.fieldLink RX6 28 "JetStarts$Tally" "newFlames" "I", Cond.fieldLink RX6 31 "JetStarts$Tally" "lostFlames" "I"]
def wsX5_copyFrom_r3 : List Cond := [Cond.fieldLink RX6 34 "JetStarts$Tally" "greatestHeat" "I"]
def wsX5_copyFrom : List Cond := .code yX5_copyFrom cX5_copyFrom 2 none :: ((wsX5_copyFrom_r1 ++ (wsX5_copyFrom_r2 ++ wsX5_copyFrom_r3)) ++ wsX50 ++ wsX10 ++ wsX00 ++ wsX30 ++ wsX60)
def wsX2_keep_r1 : List Cond := [Cond.fieldLink RX2 11 "JetStarts$History" "states" "[LJetStarts$State;", Cond.fieldLink RX2 18 "JetStarts$History" "oldest" "I", Cond.fieldLink RX2 22 "JetStarts$History" "kept" "I", Cond.instanceMethod yX5_copyFrom, Cond.initialized RX5, Cond.selects RX5 yX5_copyFrom yX5_copyFrom, Cond.code yX5_copyFrom cX5_copyFrom 2 none, Cond.fieldLink RX5 12 "JetStarts$State" "jet" "LJetStarts$Engine;", Cond.fieldLink RX5 21 "JetStarts$State" "attempt" "LJetStarts$Attempt;", Cond.fieldLink RX5 28 "JetStarts$State" "log" "LJetStarts$Log;", Cond.fieldLink RX5 35 "JetStarts$State" "tally" "LJetStarts$Tally;", Cond.fieldLink RX5 52 "JetStarts$State" "ticks" "I", Cond.instanceMethod yX1_copyFrom, Cond.initialized RX1, Cond.selects RX1 yX1_copyFrom yX1_copyFrom, Cond.code yX1_copyFrom cX1_copyFrom 2 none, Cond.fieldLink RX1 9 "JetStarts$Engine" "settings" "[I", Cond.methodLink RX1 22 arraycopyName, Cond.native arraycopyName, Cond.static arraycopyName, Cond.initialized "java/lang/System", Cond.fieldLink RX1 28 "JetStarts$Engine" "speed" "I", Cond.fieldLink RX1 31 "JetStarts$Engine" "heat" "I", Cond.fieldLink RX1 34 "JetStarts$Engine" "step" "I"]
def wsX2_keep_r2 : List Cond := [Cond.fieldLink RX1 37 "JetStarts$Engine" "pool" "I", Cond.fieldLink RX1 15 "JetStarts$Engine" "battery" "I", Cond.fieldLink RX1 40 "JetStarts$Engine" "hasSpark" "Z", Cond.fieldLink RX1 44 "JetStarts$Engine" "isCranking" "Z", Cond.fieldLink RX1 47 "JetStarts$Engine" "hasFlame" "Z", Cond.instanceMethod yX0_copyFrom, Cond.initialized RX0, Cond.selects RX0 yX0_copyFrom yX0_copyFrom, Cond.code yX0_copyFrom cX0_copyFrom 2 none, Cond.fieldLink RX0 9 "JetStarts$Attempt" "isUnderWay" "Z", Cond.fieldLink RX0 15 "JetStarts$Attempt" "ticks" "I", Cond.fieldLink RX0 19 "JetStarts$Attempt" "greatestHeat" "I", Cond.fieldLink RX0 22 "JetStarts$Attempt" "firstBattery" "I", Cond.fieldLink RX0 25 "JetStarts$Attempt" "stalledTicks" "I", Cond.instanceMethod yX3_copyFrom, Cond.initialized RX3, Cond.selects RX3 yX3_copyFrom yX3_copyFrom, Cond.code yX3_copyFrom cX3_copyFrom 2 none, Cond.fieldLink RX3 11 "JetStarts$Log" "numbers" "[I", Cond.methodLink RX3 15 arraycopyName, Cond.fieldLink RX3 21 "JetStarts$Log" "kept" "I", Cond.instanceMethod yX6_copyFrom, Cond.initialized RX6, Cond.selects RX6 yX6_copyFrom yX6_copyFrom]
def wsX2_keep_r3 : List Cond := [Cond.code yX6_copyFrom cX6_copyFrom 2 none, Cond.fieldLink RX6 9 "JetStarts$Tally" "endings" "[I", Cond.methodLink RX6 15 arraycopyName, Cond.fieldLink RX6 21 "JetStarts$Tally" "hotTicks" "I", Cond.fieldLink RX6 25 "JetStarts$Tally" "runningTicks" "I", Cond.fieldLink RX6 28 "JetStarts$Tally" "newFlames" "I", Cond.fieldLink RX6 31 "JetStarts$Tally" "lostFlames" "I", Cond.fieldLink RX6 34 "JetStarts$Tally" "greatestHeat" "I"]
def wsX2_keep : List Cond := .code yX2_keep cX2_keep 2 none :: ((wsX2_keep_r1 ++ (wsX2_keep_r2 ++ wsX2_keep_r3)) ++ wsX20 ++ wsX50 ++ wsX10 ++ wsX00 ++ wsX30 ++ wsX60)
def wsX2_takeLatest_r1 : List Cond := [Cond.fieldLink RX2 22 "JetStarts$History" "kept" "I", Cond.fieldLink RX2 11 "JetStarts$History" "states" "[LJetStarts$State;", Cond.fieldLink RX2 18 "JetStarts$History" "oldest" "I", Cond.instanceMethod yX5_copyFrom, Cond.initialized RX5, Cond.selects RX5 yX5_copyFrom yX5_copyFrom, Cond.code yX5_copyFrom cX5_copyFrom 2 none, Cond.fieldLink RX5 12 "JetStarts$State" "jet" "LJetStarts$Engine;", Cond.fieldLink RX5 21 "JetStarts$State" "attempt" "LJetStarts$Attempt;", Cond.fieldLink RX5 28 "JetStarts$State" "log" "LJetStarts$Log;", Cond.fieldLink RX5 35 "JetStarts$State" "tally" "LJetStarts$Tally;", Cond.fieldLink RX5 52 "JetStarts$State" "ticks" "I", Cond.instanceMethod yX1_copyFrom, Cond.initialized RX1, Cond.selects RX1 yX1_copyFrom yX1_copyFrom, Cond.code yX1_copyFrom cX1_copyFrom 2 none, Cond.fieldLink RX1 9 "JetStarts$Engine" "settings" "[I", Cond.methodLink RX1 22 arraycopyName, Cond.native arraycopyName, Cond.static arraycopyName, Cond.initialized "java/lang/System", Cond.fieldLink RX1 28 "JetStarts$Engine" "speed" "I", Cond.fieldLink RX1 31 "JetStarts$Engine" "heat" "I", Cond.fieldLink RX1 34 "JetStarts$Engine" "step" "I"]
def wsX2_takeLatest_r2 : List Cond := [Cond.fieldLink RX1 37 "JetStarts$Engine" "pool" "I", Cond.fieldLink RX1 15 "JetStarts$Engine" "battery" "I", Cond.fieldLink RX1 40 "JetStarts$Engine" "hasSpark" "Z", Cond.fieldLink RX1 44 "JetStarts$Engine" "isCranking" "Z", Cond.fieldLink RX1 47 "JetStarts$Engine" "hasFlame" "Z", Cond.instanceMethod yX0_copyFrom, Cond.initialized RX0, Cond.selects RX0 yX0_copyFrom yX0_copyFrom, Cond.code yX0_copyFrom cX0_copyFrom 2 none, Cond.fieldLink RX0 9 "JetStarts$Attempt" "isUnderWay" "Z", Cond.fieldLink RX0 15 "JetStarts$Attempt" "ticks" "I", Cond.fieldLink RX0 19 "JetStarts$Attempt" "greatestHeat" "I", Cond.fieldLink RX0 22 "JetStarts$Attempt" "firstBattery" "I", Cond.fieldLink RX0 25 "JetStarts$Attempt" "stalledTicks" "I", Cond.instanceMethod yX3_copyFrom, Cond.initialized RX3, Cond.selects RX3 yX3_copyFrom yX3_copyFrom, Cond.code yX3_copyFrom cX3_copyFrom 2 none, Cond.fieldLink RX3 11 "JetStarts$Log" "numbers" "[I", Cond.methodLink RX3 15 arraycopyName, Cond.fieldLink RX3 21 "JetStarts$Log" "kept" "I", Cond.instanceMethod yX6_copyFrom, Cond.initialized RX6, Cond.selects RX6 yX6_copyFrom yX6_copyFrom]
def wsX2_takeLatest_r3 : List Cond := [Cond.code yX6_copyFrom cX6_copyFrom 2 none, Cond.fieldLink RX6 9 "JetStarts$Tally" "endings" "[I", Cond.methodLink RX6 15 arraycopyName, Cond.fieldLink RX6 21 "JetStarts$Tally" "hotTicks" "I", Cond.fieldLink RX6 25 "JetStarts$Tally" "runningTicks" "I", Cond.fieldLink RX6 28 "JetStarts$Tally" "newFlames" "I", Cond.fieldLink RX6 31 "JetStarts$Tally" "lostFlames" "I", Cond.fieldLink RX6 34 "JetStarts$Tally" "greatestHeat" "I"]
def wsX2_takeLatest : List Cond := .code yX2_takeLatest cX2_takeLatest 2 none :: ((wsX2_takeLatest_r1 ++ (wsX2_takeLatest_r2 ++ wsX2_takeLatest_r3)) ++ wsX20 ++ wsX50 ++ wsX10 ++ wsX00 ++ wsX30 ++ wsX60)
def wsX3_add : List Cond := .code yX3_add cX3_add 5 none :: ([.fieldLink RX3 11 "JetStarts$Log" "numbers" "[I", .fieldLink RX3 21 "JetStarts$Log" "kept" "I", .methodLink RX3 36 Lib.Math.min.name, .static Lib.Math.min.name, .initialized "java/lang/Math", .code Lib.Math.min.name Lib.Math.min.code 2 (some .int)] ++ wsX30 ++ wsX00)
def wsX3_numberOf : List Cond := .code yX3_numberOf cX3_numberOf 3 (some .int) :: ([.fieldLink RX3 21 "JetStarts$Log" "kept" "I", .fieldLink RX3 11 "JetStarts$Log" "numbers" "[I"] ++ wsX30)
def wsX4_init : List Cond := .code yX4_init cX4_init 1 none :: ([.methodLink RX4 3 objectInit, .instanceMethod objectInit, .code objectInit ⟨#[0xb1]⟩ 1 none, .arrayClass .char, .fieldLink RX4 9 "JetStarts$Pad" "signs" "[C"] ++ wsX40)
def wsX4_charactersIn : List Cond := .code yX4_charactersIn cX4_charactersIn 8 (some .int) :: ([.constantLong RX4 15 (255), .constantLong RX4 17 (33), .constantLong RX4 19 (126)])
def wsX4_append : List Cond := .code yX4_append cX4_append 5 none :: ([.fieldLink RX4 21 "JetStarts$Pad" "length" "I", .fieldLink RX4 9 "JetStarts$Pad" "signs" "[C", .constantLong RX4 15 (255)] ++ wsX40)
def wsX4_signAt : List Cond := .code yX4_signAt cX4_signAt 2 (some .char) :: ([.fieldLink RX4 21 "JetStarts$Pad" "length" "I", .fieldLink RX4 9 "JetStarts$Pad" "signs" "[C"] ++ wsX40)
def wsX4_beginsDeed : List Cond := .code yX4_beginsDeed cX4_beginsDeed 2 (some .boolean) :: ([.methodLink RX4 25 yX4_signAt, .instanceMethod yX4_signAt, .selects RX4 yX4_signAt yX4_signAt, .initialized RX4, .code yX4_signAt cX4_signAt 2 (some .char), .fieldLink RX4 21 "JetStarts$Pad" "length" "I", .fieldLink RX4 9 "JetStarts$Pad" "signs" "[C"] ++ wsX40)
def wsX4_isDigit : List Cond := .code yX4_isDigit cX4_isDigit 1 (some .boolean) :: ([])
def wsX4_numberFrom : List Cond := .code yX4_numberFrom cX4_numberFrom 4 (some .int) :: ([.fieldLink RX4 21 "JetStarts$Pad" "length" "I", .methodLink RX4 25 yX4_signAt, .instanceMethod yX4_signAt, .selects RX4 yX4_signAt yX4_signAt, .initialized RX4, .code yX4_signAt cX4_signAt 2 (some .char), .fieldLink RX4 9 "JetStarts$Pad" "signs" "[C", .methodLink RX4 29 yX4_isDigit, .static yX4_isDigit, .code yX4_isDigit cX4_isDigit 1 (some .boolean)] ++ wsX40)
def wsX4_placeBehindDeedSign : List Cond := .code yX4_placeBehindDeedSign cX4_placeBehindDeedSign 1 (some .int) :: ([])
def wsX4_placeBehindEnd : List Cond := .code yX4_placeBehindEnd cX4_placeBehindEnd 1 (some .int) :: ([])
def wsX4_placeBehind : List Cond := .code yX4_placeBehind cX4_placeBehind 2 (some .int) :: ([.methodLink RX4 37 yX4_placeBehindDeedSign, .static yX4_placeBehindDeedSign, .initialized RX4, .code yX4_placeBehindDeedSign cX4_placeBehindDeedSign 1 (some .int), .methodLink RX4 29 yX4_isDigit, .static yX4_isDigit, .code yX4_isDigit cX4_isDigit 1 (some .boolean), .methodLink RX4 41 yX4_placeBehindEnd, .static yX4_placeBehindEnd, .code yX4_placeBehindEnd cX4_placeBehindEnd 1 (some .int)])
def wsX4_firstFault : List Cond := .code yX4_firstFault cX4_firstFault 3 (some .int) :: ([.fieldLink RX4 21 "JetStarts$Pad" "length" "I", .methodLink RX4 25 yX4_signAt, .instanceMethod yX4_signAt, .selects RX4 yX4_signAt yX4_signAt, .initialized RX4, .code yX4_signAt cX4_signAt 2 (some .char), .fieldLink RX4 9 "JetStarts$Pad" "signs" "[C", .methodLink RX4 33 yX4_placeBehind, .static yX4_placeBehind, .code yX4_placeBehind cX4_placeBehind 2 (some .int), .methodLink RX4 37 yX4_placeBehindDeedSign, .static yX4_placeBehindDeedSign, .code yX4_placeBehindDeedSign cX4_placeBehindDeedSign 1 (some .int), .methodLink RX4 29 yX4_isDigit, .static yX4_isDigit, .code yX4_isDigit cX4_isDigit 1 (some .boolean), .methodLink RX4 41 yX4_placeBehindEnd, .static yX4_placeBehindEnd, .code yX4_placeBehindEnd cX4_placeBehindEnd 1 (some .int)] ++ wsX40)
def wsX5_hasRoomFor : List Cond := .code yX5_hasRoomFor cX5_hasRoomFor 2 (some .boolean) :: ([.fieldLink RX5 52 "JetStarts$State" "ticks" "I", .constant RX5 56 (99999)] ++ wsX50)
def wsX5_canTurnStarter : List Cond := .code yX5_canTurnStarter cX5_canTurnStarter 2 (some .boolean) :: ([.fieldLink RX5 12 "JetStarts$State" "jet" "LJetStarts$Engine;"] ++ wsX50 ++ wsX10)
def wsX5_turnStarter : List Cond := .code yX5_turnStarter cX5_turnStarter 2 none :: ([.fieldLink RX5 12 "JetStarts$State" "jet" "LJetStarts$Engine;", .fieldLink RX5 21 "JetStarts$State" "attempt" "LJetStarts$Attempt;", .instanceMethod yX0_begin, .initialized RX0, .selects RX0 yX0_begin yX0_begin, .code yX0_begin cX0_begin 2 none, .fieldLink RX0 9 "JetStarts$Attempt" "isUnderWay" "Z", .fieldLink RX0 15 "JetStarts$Attempt" "ticks" "I", .fieldLink RX0 19 "JetStarts$Attempt" "greatestHeat" "I", .fieldLink RX0 22 "JetStarts$Attempt" "firstBattery" "I", .fieldLink RX0 25 "JetStarts$Attempt" "stalledTicks" "I"] ++ wsX50 ++ wsX10 ++ wsX00)
def wsX7_oneIf : List Cond := .code yX7_oneIf cX7_oneIf 1 (some .int) :: ([])
def wsX6_addTick : List Cond := .code yX6_addTick cX6_addTick 3 none :: ([.fieldLink RX6 21 "JetStarts$Tally" "hotTicks" "I", .fieldLink RX6 25 "JetStarts$Tally" "runningTicks" "I", .fieldLink RX6 28 "JetStarts$Tally" "newFlames" "I", .fieldLink RX6 31 "JetStarts$Tally" "lostFlames" "I", .fieldLink RX6 34 "JetStarts$Tally" "greatestHeat" "I", .methodLink RX6 57 Lib.Math.max.name, .static Lib.Math.max.name, .initialized "java/lang/Math", .code Lib.Math.max.name Lib.Math.max.code 2 (some .int), .instanceMethod yX1_isHot, .initialized RX1, .selects RX1 yX1_isHot yX1_isHot, .code yX1_isHot cX1_isHot 1 (some .boolean), .fieldLink RX1 31 "JetStarts$Engine" "heat" "I", .fieldLink RX1 9 "JetStarts$Engine" "settings" "[I", .static yX7_oneIf, .initialized RX7, .code yX7_oneIf cX7_oneIf 1 (some .int), .instanceMethod yX1_runs, .selects RX1 yX1_runs yX1_runs, .code yX1_runs cX1_runs 1 (some .boolean), .fieldLink RX1 47 "JetStarts$Engine" "hasFlame" "Z", .fieldLink RX1 28 "JetStarts$Engine" "speed" "I"] ++ wsX60 ++ wsX10)
def wsX6_addEnding : List Cond := .code yX6_addEnding cX6_addEnding 2 none :: ([.fieldLink RX6 9 "JetStarts$Tally" "endings" "[I"] ++ wsX60)
def wsX5_endAttemptIfOver_r1 : List Cond := [Cond.fieldLink RX5 21 "JetStarts$State" "attempt" "LJetStarts$Attempt;", Cond.fieldLink RX5 12 "JetStarts$State" "jet" "LJetStarts$Engine;", Cond.fieldLink RX5 28 "JetStarts$State" "log" "LJetStarts$Log;", Cond.fieldLink RX5 35 "JetStarts$State" "tally" "LJetStarts$Tally;", Cond.instanceMethod yX0_endingWith, Cond.initialized RX0, Cond.selects RX0 yX0_endingWith yX0_endingWith, Cond.code yX0_endingWith cX0_endingWith 2 (some .int), Cond.fieldLink RX0 25 "JetStarts$Attempt" "stalledTicks" "I", Cond.instanceMethod yX1_isHot, Cond.initialized RX1, Cond.selects RX1 yX1_isHot yX1_isHot, Cond.code yX1_isHot cX1_isHot 1 (some .boolean), Cond.fieldLink RX1 31 "JetStarts$Engine" "heat" "I", Cond.fieldLink RX1 9 "JetStarts$Engine" "settings" "[I", Cond.instanceMethod yX1_runs, Cond.selects RX1 yX1_runs yX1_runs, Cond.code yX1_runs cX1_runs 1 (some .boolean), Cond.fieldLink RX1 47 "JetStarts$Engine" "hasFlame" "Z", Cond.fieldLink RX1 28 "JetStarts$Engine" "speed" "I", Cond.instanceMethod yX1_isSpent, Cond.selects RX1 yX1_isSpent yX1_isSpent, Cond.code yX1_isSpent cX1_isSpent 1 (some .boolean), Cond.fieldLink RX1 44 "JetStarts$Engine" "isCranking" "Z"]
def wsX5_endAttemptIfOver_r2 : List Cond := [Cond.instanceMethod yX3_add, Cond.initialized RX3, Cond.selects RX3 yX3_add yX3_add, Cond.code yX3_add cX3_add 5 none, Cond.fieldLink RX3 11 "JetStarts$Log" "numbers" "[I", Cond.fieldLink RX3 21 "JetStarts$Log" "kept" "I", Cond.methodLink RX3 36 Lib.Math.min.name, Cond.static Lib.Math.min.name, Cond.initialized "java/lang/Math", Cond.code Lib.Math.min.name Lib.Math.min.code 2 (some .int), Cond.instanceMethod yX6_addEnding, Cond.initialized RX6, Cond.selects RX6 yX6_addEnding yX6_addEnding, Cond.code yX6_addEnding cX6_addEnding 2 none, Cond.fieldLink RX6 9 "JetStarts$Tally" "endings" "[I"]
def wsX5_endAttemptIfOver : List Cond := .code yX5_endAttemptIfOver cX5_endAttemptIfOver 2 none :: ((wsX5_endAttemptIfOver_r1 ++ wsX5_endAttemptIfOver_r2) ++ wsX50 ++ wsX10 ++ wsX00 ++ wsX30 ++ wsX60)
def wsX5_passTick_r1 : List Cond := [Cond.fieldLink RX5 12 "JetStarts$State" "jet" "LJetStarts$Engine;", Cond.fieldLink RX5 52 "JetStarts$State" "ticks" "I", Cond.fieldLink RX5 35 "JetStarts$State" "tally" "LJetStarts$Tally;", Cond.fieldLink RX5 21 "JetStarts$State" "attempt" "LJetStarts$Attempt;", Cond.instanceMethod yX1_passTick, Cond.initialized RX1, Cond.selects RX1 yX1_passTick yX1_passTick, Cond.code yX1_passTick cX1_passTick 3 none, Cond.fieldLink RX1 15 "JetStarts$Engine" "battery" "I", Cond.methodLink RX1 72 Lib.Math.min.name, Cond.static Lib.Math.min.name, Cond.initialized "java/lang/Math", Cond.code Lib.Math.min.name Lib.Math.min.code 2 (some .int), Cond.methodLink RX1 50 yX1_pushOfStarter, Cond.instanceMethod yX1_pushOfStarter, Cond.selects RX1 yX1_pushOfStarter yX1_pushOfStarter, Cond.code yX1_pushOfStarter cX1_pushOfStarter 2 (some .int), Cond.fieldLink RX1 28 "JetStarts$Engine" "speed" "I", Cond.fieldLink RX1 44 "JetStarts$Engine" "isCranking" "Z", Cond.methodLink RX1 78 Lib.Math.max.name, Cond.static Lib.Math.max.name, Cond.code Lib.Math.max.name Lib.Math.max.code 2 (some .int), Cond.fieldLink RX1 9 "JetStarts$Engine" "settings" "[I", Cond.methodLink RX1 54 yX1_changeFlame]
def wsX5_passTick_r2 : List Cond := [Cond.instanceMethod yX1_changeFlame, Cond.selects RX1 yX1_changeFlame yX1_changeFlame, Cond.code yX1_changeFlame cX1_changeFlame 3 none, Cond.fieldLink RX1 47 "JetStarts$Engine" "hasFlame" "Z", Cond.fieldLink RX1 34 "JetStarts$Engine" "step" "I", Cond.fieldLink RX1 37 "JetStarts$Engine" "pool" "I", Cond.fieldLink RX1 40 "JetStarts$Engine" "hasSpark" "Z", Cond.methodLink RX1 57 yX1_burn, Cond.instanceMethod yX1_burn, Cond.selects RX1 yX1_burn yX1_burn, Cond.code yX1_burn cX1_burn 2 (some .int), Cond.methodLink RX1 60 yX1_changeSpeed, Cond.instanceMethod yX1_changeSpeed, Cond.selects RX1 yX1_changeSpeed yX1_changeSpeed, Cond.code yX1_changeSpeed cX1_changeSpeed 4 none, Cond.methodLink RX1 64 yX1_changeHeat, Cond.instanceMethod yX1_changeHeat, Cond.selects RX1 yX1_changeHeat yX1_changeHeat, Cond.code yX1_changeHeat cX1_changeHeat 4 none, Cond.fieldLink RX1 31 "JetStarts$Engine" "heat" "I", Cond.methodLink RX1 68 yX1_runs, Cond.instanceMethod yX1_runs, Cond.selects RX1 yX1_runs yX1_runs, Cond.code yX1_runs cX1_runs 1 (some .boolean)]
def wsX5_passTick_r3 : List Cond := [Cond.instanceMethod yX6_addTick, Cond.initialized RX6, Cond.selects RX6 yX6_addTick yX6_addTick, Cond.code yX6_addTick cX6_addTick 3 none, Cond.fieldLink RX6 21 "JetStarts$Tally" "hotTicks" "I", Cond.fieldLink RX6 25 "JetStarts$Tally" "runningTicks" "I", Cond.fieldLink RX6 28 "JetStarts$Tally" "newFlames" "I", Cond.fieldLink RX6 31 "JetStarts$Tally" "lostFlames" "I", Cond.fieldLink RX6 34 "JetStarts$Tally" "greatestHeat" "I", Cond.methodLink RX6 57 Lib.Math.max.name, Cond.instanceMethod yX1_isHot, Cond.selects RX1 yX1_isHot yX1_isHot, Cond.code yX1_isHot cX1_isHot 1 (some .boolean), Cond.static yX7_oneIf, Cond.initialized RX7, Cond.code yX7_oneIf cX7_oneIf 1 (some .int), Cond.instanceMethod yX0_addTick, Cond.initialized RX0, Cond.selects RX0 yX0_addTick yX0_addTick, Cond.code yX0_addTick cX0_addTick 3 none, Cond.fieldLink RX0 15 "JetStarts$Attempt" "ticks" "I", Cond.fieldLink RX0 19 "JetStarts$Attempt" "greatestHeat" "I", Cond.methodLink RX0 33 Lib.Math.max.name, Cond.fieldLink RX0 25 "JetStarts$Attempt" "stalledTicks" "I"]
def wsX5_passTick_r4 : List Cond := [Cond.methodLink RX5 88 yX5_endAttemptIfOver, Cond.instanceMethod yX5_endAttemptIfOver, Cond.selects RX5 yX5_endAttemptIfOver yX5_endAttemptIfOver, Cond.initialized RX5, Cond.code yX5_endAttemptIfOver cX5_endAttemptIfOver 2 none, Cond.fieldLink RX5 28 "JetStarts$State" "log" "LJetStarts$Log;", Cond.instanceMethod yX0_endingWith, Cond.selects RX0 yX0_endingWith yX0_endingWith, Cond.code yX0_endingWith cX0_endingWith 2 (some .int), Cond.instanceMethod yX1_isSpent, Cond.selects RX1 yX1_isSpent yX1_isSpent, Cond.code yX1_isSpent cX1_isSpent 1 (some .boolean), Cond.instanceMethod yX3_add, Cond.initialized RX3, Cond.selects RX3 yX3_add yX3_add, Cond.code yX3_add cX3_add 5 none, Cond.fieldLink RX3 11 "JetStarts$Log" "numbers" "[I", Cond.fieldLink RX3 21 "JetStarts$Log" "kept" "I", Cond.methodLink RX3 36 Lib.Math.min.name, Cond.instanceMethod yX6_addEnding, Cond.selects RX6 yX6_addEnding yX6_addEnding, Cond.code yX6_addEnding cX6_addEnding 2 none, Cond.fieldLink RX6 9 "JetStarts$Tally" "endings" "[I"]
def wsX5_passTick : List Cond := .code yX5_passTick cX5_passTick 3 none :: ((wsX5_passTick_r1 ++ (wsX5_passTick_r2 ++ (wsX5_passTick_r3 ++ wsX5_passTick_r4))) ++ wsX50 ++ wsX10 ++ wsX00 ++ wsX60 ++ wsX30)
def wsX5_passTicks_r1 : List Cond := [Cond.methodLink RX5 74 yX5_passTick, Cond.instanceMethod yX5_passTick, Cond.selects RX5 yX5_passTick yX5_passTick, Cond.initialized RX5, Cond.code yX5_passTick cX5_passTick 3 none, Cond.fieldLink RX5 12 "JetStarts$State" "jet" "LJetStarts$Engine;", Cond.fieldLink RX5 52 "JetStarts$State" "ticks" "I", Cond.fieldLink RX5 35 "JetStarts$State" "tally" "LJetStarts$Tally;", Cond.fieldLink RX5 21 "JetStarts$State" "attempt" "LJetStarts$Attempt;", Cond.instanceMethod yX1_passTick, Cond.initialized RX1, Cond.selects RX1 yX1_passTick yX1_passTick, Cond.code yX1_passTick cX1_passTick 3 none, Cond.fieldLink RX1 15 "JetStarts$Engine" "battery" "I", Cond.methodLink RX1 72 Lib.Math.min.name, Cond.static Lib.Math.min.name, Cond.initialized "java/lang/Math", Cond.code Lib.Math.min.name Lib.Math.min.code 2 (some .int), Cond.methodLink RX1 50 yX1_pushOfStarter, Cond.instanceMethod yX1_pushOfStarter, Cond.selects RX1 yX1_pushOfStarter yX1_pushOfStarter, Cond.code yX1_pushOfStarter cX1_pushOfStarter 2 (some .int), Cond.fieldLink RX1 28 "JetStarts$Engine" "speed" "I", Cond.fieldLink RX1 44 "JetStarts$Engine" "isCranking" "Z"]
def wsX5_passTicks_r2 : List Cond := [Cond.methodLink RX1 78 Lib.Math.max.name, Cond.static Lib.Math.max.name, Cond.code Lib.Math.max.name Lib.Math.max.code 2 (some .int), Cond.fieldLink RX1 9 "JetStarts$Engine" "settings" "[I", Cond.methodLink RX1 54 yX1_changeFlame, Cond.instanceMethod yX1_changeFlame, Cond.selects RX1 yX1_changeFlame yX1_changeFlame, Cond.code yX1_changeFlame cX1_changeFlame 3 none, Cond.fieldLink RX1 47 "JetStarts$Engine" "hasFlame" "Z", Cond.fieldLink RX1 34 "JetStarts$Engine" "step" "I", Cond.fieldLink RX1 37 "JetStarts$Engine" "pool" "I", Cond.fieldLink RX1 40 "JetStarts$Engine" "hasSpark" "Z", Cond.methodLink RX1 57 yX1_burn, Cond.instanceMethod yX1_burn, Cond.selects RX1 yX1_burn yX1_burn, Cond.code yX1_burn cX1_burn 2 (some .int), Cond.methodLink RX1 60 yX1_changeSpeed, Cond.instanceMethod yX1_changeSpeed, Cond.selects RX1 yX1_changeSpeed yX1_changeSpeed, Cond.code yX1_changeSpeed cX1_changeSpeed 4 none, Cond.methodLink RX1 64 yX1_changeHeat, Cond.instanceMethod yX1_changeHeat, Cond.selects RX1 yX1_changeHeat yX1_changeHeat, Cond.code yX1_changeHeat cX1_changeHeat 4 none]
def wsX5_passTicks_r3 : List Cond := [Cond.fieldLink RX1 31 "JetStarts$Engine" "heat" "I", Cond.methodLink RX1 68 yX1_runs, Cond.instanceMethod yX1_runs, Cond.selects RX1 yX1_runs yX1_runs, Cond.code yX1_runs cX1_runs 1 (some .boolean), Cond.instanceMethod yX6_addTick, Cond.initialized RX6, Cond.selects RX6 yX6_addTick yX6_addTick, Cond.code yX6_addTick cX6_addTick 3 none, Cond.fieldLink RX6 21 "JetStarts$Tally" "hotTicks" "I", Cond.fieldLink RX6 25 "JetStarts$Tally" "runningTicks" "I", Cond.fieldLink RX6 28 "JetStarts$Tally" "newFlames" "I", Cond.fieldLink RX6 31 "JetStarts$Tally" "lostFlames" "I", Cond.fieldLink RX6 34 "JetStarts$Tally" "greatestHeat" "I", Cond.methodLink RX6 57 Lib.Math.max.name, Cond.instanceMethod yX1_isHot, Cond.selects RX1 yX1_isHot yX1_isHot, Cond.code yX1_isHot cX1_isHot 1 (some .boolean), Cond.static yX7_oneIf, Cond.initialized RX7, Cond.code yX7_oneIf cX7_oneIf 1 (some .int), Cond.instanceMethod yX0_addTick, Cond.initialized RX0, Cond.selects RX0 yX0_addTick yX0_addTick]
def wsX5_passTicks_r4 : List Cond := [Cond.code yX0_addTick cX0_addTick 3 none, Cond.fieldLink RX0 15 "JetStarts$Attempt" "ticks" "I", Cond.fieldLink RX0 19 "JetStarts$Attempt" "greatestHeat" "I", Cond.methodLink RX0 33 Lib.Math.max.name, Cond.fieldLink RX0 25 "JetStarts$Attempt" "stalledTicks" "I", Cond.methodLink RX5 88 yX5_endAttemptIfOver, Cond.instanceMethod yX5_endAttemptIfOver, Cond.selects RX5 yX5_endAttemptIfOver yX5_endAttemptIfOver, Cond.code yX5_endAttemptIfOver cX5_endAttemptIfOver 2 none, Cond.fieldLink RX5 28 "JetStarts$State" "log" "LJetStarts$Log;", Cond.instanceMethod yX0_endingWith, Cond.selects RX0 yX0_endingWith yX0_endingWith, Cond.code yX0_endingWith cX0_endingWith 2 (some .int), Cond.instanceMethod yX1_isSpent, Cond.selects RX1 yX1_isSpent yX1_isSpent, Cond.code yX1_isSpent cX1_isSpent 1 (some .boolean), Cond.instanceMethod yX3_add, Cond.initialized RX3, Cond.selects RX3 yX3_add yX3_add, Cond.code yX3_add cX3_add 5 none, Cond.fieldLink RX3 11 "JetStarts$Log" "numbers" "[I", Cond.fieldLink RX3 21 "JetStarts$Log" "kept" "I", Cond.methodLink RX3 36 Lib.Math.min.name, Cond.instanceMethod yX6_addEnding]
def wsX5_passTicks_r5 : List Cond := [Cond.selects RX6 yX6_addEnding yX6_addEnding, Cond.code yX6_addEnding cX6_addEnding 2 none, Cond.fieldLink RX6 9 "JetStarts$Tally" "endings" "[I"]
def wsX5_passTicks : List Cond := .code yX5_passTicks cX5_passTicks 3 none :: ((wsX5_passTicks_r1 ++ (wsX5_passTicks_r2 ++ (wsX5_passTicks_r3 ++ (wsX5_passTicks_r4 ++ wsX5_passTicks_r5)))) ++ wsX50 ++ wsX10 ++ wsX00 ++ wsX60 ++ wsX30)
def wsX5_passTicksUntilRunning_r1 : List Cond := [Cond.fieldLink RX5 12 "JetStarts$State" "jet" "LJetStarts$Engine;", Cond.methodLink RX5 74 yX5_passTick, Cond.instanceMethod yX5_passTick, Cond.selects RX5 yX5_passTick yX5_passTick, Cond.initialized RX5, Cond.code yX5_passTick cX5_passTick 3 none, Cond.fieldLink RX5 52 "JetStarts$State" "ticks" "I", Cond.fieldLink RX5 35 "JetStarts$State" "tally" "LJetStarts$Tally;", Cond.fieldLink RX5 21 "JetStarts$State" "attempt" "LJetStarts$Attempt;", Cond.instanceMethod yX1_passTick, Cond.initialized RX1, Cond.selects RX1 yX1_passTick yX1_passTick, Cond.code yX1_passTick cX1_passTick 3 none, Cond.fieldLink RX1 15 "JetStarts$Engine" "battery" "I", Cond.methodLink RX1 72 Lib.Math.min.name, Cond.static Lib.Math.min.name, Cond.initialized "java/lang/Math", Cond.code Lib.Math.min.name Lib.Math.min.code 2 (some .int), Cond.methodLink RX1 50 yX1_pushOfStarter, Cond.instanceMethod yX1_pushOfStarter, Cond.selects RX1 yX1_pushOfStarter yX1_pushOfStarter, Cond.code yX1_pushOfStarter cX1_pushOfStarter 2 (some .int), Cond.fieldLink RX1 28 "JetStarts$Engine" "speed" "I", Cond.fieldLink RX1 44 "JetStarts$Engine" "isCranking" "Z"]
def wsX5_passTicksUntilRunning_r2 : List Cond := [Cond.methodLink RX1 78 Lib.Math.max.name, Cond.static Lib.Math.max.name, Cond.code Lib.Math.max.name Lib.Math.max.code 2 (some .int), Cond.fieldLink RX1 9 "JetStarts$Engine" "settings" "[I", Cond.methodLink RX1 54 yX1_changeFlame, Cond.instanceMethod yX1_changeFlame, Cond.selects RX1 yX1_changeFlame yX1_changeFlame, Cond.code yX1_changeFlame cX1_changeFlame 3 none, Cond.fieldLink RX1 47 "JetStarts$Engine" "hasFlame" "Z", Cond.fieldLink RX1 34 "JetStarts$Engine" "step" "I", Cond.fieldLink RX1 37 "JetStarts$Engine" "pool" "I", Cond.fieldLink RX1 40 "JetStarts$Engine" "hasSpark" "Z", Cond.methodLink RX1 57 yX1_burn, Cond.instanceMethod yX1_burn, Cond.selects RX1 yX1_burn yX1_burn, Cond.code yX1_burn cX1_burn 2 (some .int), Cond.methodLink RX1 60 yX1_changeSpeed, Cond.instanceMethod yX1_changeSpeed, Cond.selects RX1 yX1_changeSpeed yX1_changeSpeed, Cond.code yX1_changeSpeed cX1_changeSpeed 4 none, Cond.methodLink RX1 64 yX1_changeHeat, Cond.instanceMethod yX1_changeHeat, Cond.selects RX1 yX1_changeHeat yX1_changeHeat, Cond.code yX1_changeHeat cX1_changeHeat 4 none]
def wsX5_passTicksUntilRunning_r3 : List Cond := [Cond.fieldLink RX1 31 "JetStarts$Engine" "heat" "I", Cond.methodLink RX1 68 yX1_runs, Cond.instanceMethod yX1_runs, Cond.selects RX1 yX1_runs yX1_runs, Cond.code yX1_runs cX1_runs 1 (some .boolean), Cond.instanceMethod yX6_addTick, Cond.initialized RX6, Cond.selects RX6 yX6_addTick yX6_addTick, Cond.code yX6_addTick cX6_addTick 3 none, Cond.fieldLink RX6 21 "JetStarts$Tally" "hotTicks" "I", Cond.fieldLink RX6 25 "JetStarts$Tally" "runningTicks" "I", Cond.fieldLink RX6 28 "JetStarts$Tally" "newFlames" "I", Cond.fieldLink RX6 31 "JetStarts$Tally" "lostFlames" "I", Cond.fieldLink RX6 34 "JetStarts$Tally" "greatestHeat" "I", Cond.methodLink RX6 57 Lib.Math.max.name, Cond.instanceMethod yX1_isHot, Cond.selects RX1 yX1_isHot yX1_isHot, Cond.code yX1_isHot cX1_isHot 1 (some .boolean), Cond.static yX7_oneIf, Cond.initialized RX7, Cond.code yX7_oneIf cX7_oneIf 1 (some .int), Cond.instanceMethod yX0_addTick, Cond.initialized RX0, Cond.selects RX0 yX0_addTick yX0_addTick]
def wsX5_passTicksUntilRunning_r4 : List Cond := [Cond.code yX0_addTick cX0_addTick 3 none, Cond.fieldLink RX0 15 "JetStarts$Attempt" "ticks" "I", Cond.fieldLink RX0 19 "JetStarts$Attempt" "greatestHeat" "I", Cond.methodLink RX0 33 Lib.Math.max.name, Cond.fieldLink RX0 25 "JetStarts$Attempt" "stalledTicks" "I", Cond.methodLink RX5 88 yX5_endAttemptIfOver, Cond.instanceMethod yX5_endAttemptIfOver, Cond.selects RX5 yX5_endAttemptIfOver yX5_endAttemptIfOver, Cond.code yX5_endAttemptIfOver cX5_endAttemptIfOver 2 none, Cond.fieldLink RX5 28 "JetStarts$State" "log" "LJetStarts$Log;", Cond.instanceMethod yX0_endingWith, Cond.selects RX0 yX0_endingWith yX0_endingWith, Cond.code yX0_endingWith cX0_endingWith 2 (some .int), Cond.instanceMethod yX1_isSpent, Cond.selects RX1 yX1_isSpent yX1_isSpent, Cond.code yX1_isSpent cX1_isSpent 1 (some .boolean), Cond.instanceMethod yX3_add, Cond.initialized RX3, Cond.selects RX3 yX3_add yX3_add, Cond.code yX3_add cX3_add 5 none, Cond.fieldLink RX3 11 "JetStarts$Log" "numbers" "[I", Cond.fieldLink RX3 21 "JetStarts$Log" "kept" "I", Cond.methodLink RX3 36 Lib.Math.min.name, Cond.instanceMethod yX6_addEnding]
def wsX5_passTicksUntilRunning_r5 : List Cond := [Cond.selects RX6 yX6_addEnding yX6_addEnding, Cond.code yX6_addEnding cX6_addEnding 2 none, Cond.fieldLink RX6 9 "JetStarts$Tally" "endings" "[I"]
def wsX5_passTicksUntilRunning : List Cond := .code yX5_passTicksUntilRunning cX5_passTicksUntilRunning 3 (some .int) :: ((wsX5_passTicksUntilRunning_r1 ++ (wsX5_passTicksUntilRunning_r2 ++ (wsX5_passTicksUntilRunning_r3 ++ (wsX5_passTicksUntilRunning_r4 ++ wsX5_passTicksUntilRunning_r5)))) ++ wsX50 ++ wsX10 ++ wsX00 ++ wsX60 ++ wsX30)
def wsX6_forgetHeat : List Cond := .code yX6_forgetHeat cX6_forgetHeat 1 none :: ([.fieldLink RX6 21 "JetStarts$Tally" "hotTicks" "I", .fieldLink RX6 34 "JetStarts$Tally" "greatestHeat" "I"] ++ wsX60)
def wsX7_init_r1 : List Cond := [Cond.methodLink RX7 1 objectInit, Cond.instanceMethod objectInit, Cond.code objectInit ⟨#[0xb1]⟩ 1 none, Cond.classLink RX7 7 RX5, Cond.instantiable RX5 5, Cond.initialized RX5, Cond.fieldLink RX7 10 "JetStarts" "now" "LJetStarts$State;", Cond.fieldLink RX7 16 "JetStarts" "trial" "LJetStarts$State;", Cond.classLink RX7 19 RX2, Cond.instantiable RX2 3, Cond.initialized RX2, Cond.fieldLink RX7 22 "JetStarts" "history" "LJetStarts$History;", Cond.fieldLink RX7 26 "JetStarts" "slots" "[LJetStarts$State;", Cond.arrayClass .boolean, Cond.fieldLink RX7 30 "JetStarts" "isSaved" "[Z", Cond.classLink RX7 34 RX4, Cond.instantiable RX4 2, Cond.initialized RX4, Cond.fieldLink RX7 37 "JetStarts" "pad" "LJetStarts$Pad;", Cond.instanceMethod yX5_init, Cond.code yX5_init cX5_init 1 none, Cond.methodLink RX5 3 objectInit, Cond.classLink RX5 9 RX1, Cond.instantiable RX1 9]
def wsX7_init_r2 : List Cond := [Cond.initialized RX1, Cond.fieldLink RX5 12 "JetStarts$State" "jet" "LJetStarts$Engine;", Cond.classLink RX5 18 RX0, Cond.instantiable RX0 5, Cond.initialized RX0, Cond.fieldLink RX5 21 "JetStarts$State" "attempt" "LJetStarts$Attempt;", Cond.classLink RX5 25 RX3, Cond.instantiable RX3 2, Cond.initialized RX3, Cond.fieldLink RX5 28 "JetStarts$State" "log" "LJetStarts$Log;", Cond.classLink RX5 32 RX6, Cond.instantiable RX6 6, Cond.initialized RX6, Cond.fieldLink RX5 35 "JetStarts$State" "tally" "LJetStarts$Tally;", Cond.instanceMethod yX1_init, Cond.code yX1_init cX1_init 1 none, Cond.methodLink RX1 3 objectInit, Cond.arrayClass .int, Cond.fieldLink RX1 9 "JetStarts$Engine" "settings" "[I", Cond.fieldLink RX1 15 "JetStarts$Engine" "battery" "I", Cond.methodLink RX1 22 arraycopyName, Cond.native arraycopyName, Cond.static arraycopyName, Cond.initialized "java/lang/System"]
def wsX7_init_r3 : List Cond := [Cond.instanceMethod yX0_init, Cond.code yX0_init cX0_init 1 none, Cond.methodLink RX0 3 objectInit, Cond.instanceMethod yX3_init, Cond.code yX3_init cX3_init 1 none, Cond.methodLink RX3 3 objectInit, Cond.fieldLink RX3 11 "JetStarts$Log" "numbers" "[I", Cond.instanceMethod yX6_init, Cond.code yX6_init cX6_init 1 none, Cond.methodLink RX6 3 objectInit, Cond.fieldLink RX6 9 "JetStarts$Tally" "endings" "[I", Cond.instanceMethod yX2_init, Cond.code yX2_init cX2_init 2 none, Cond.methodLink RX2 3 objectInit, Cond.classLink RX2 9 RX5, Cond.fieldLink RX2 11 "JetStarts$History" "states" "[LJetStarts$State;", Cond.instanceMethod yX4_init, Cond.code yX4_init cX4_init 1 none, Cond.methodLink RX4 3 objectInit, Cond.arrayClass .char, Cond.fieldLink RX4 9 "JetStarts$Pad" "signs" "[C"]
def wsX7_init : List Cond := .code yX7_init cX7_init 2 none :: ((wsX7_init_r1 ++ (wsX7_init_r2 ++ wsX7_init_r3)) ++ wsX50 ++ wsX70 ++ wsX20 ++ wsX40 ++ wsX10 ++ wsX00 ++ wsX30 ++ wsX60)
def wsX7_set_r1 : List Cond := [Cond.fieldLink RX7 41 "JetStarts" "LEAST_SETTINGS" "[I", Cond.fieldLink RX7 45 "JetStarts" "MOST_SETTINGS" "[I", Cond.fieldLink RX7 22 "JetStarts" "history" "LJetStarts$History;", Cond.fieldLink RX7 10 "JetStarts" "now" "LJetStarts$State;", Cond.instanceMethod yX2_keep, Cond.initialized RX2, Cond.selects RX2 yX2_keep yX2_keep, Cond.code yX2_keep cX2_keep 2 none, Cond.fieldLink RX2 11 "JetStarts$History" "states" "[LJetStarts$State;", Cond.fieldLink RX2 18 "JetStarts$History" "oldest" "I", Cond.fieldLink RX2 22 "JetStarts$History" "kept" "I", Cond.instanceMethod yX5_copyFrom, Cond.initialized RX5, Cond.selects RX5 yX5_copyFrom yX5_copyFrom, Cond.code yX5_copyFrom cX5_copyFrom 2 none, Cond.fieldLink RX5 12 "JetStarts$State" "jet" "LJetStarts$Engine;", Cond.fieldLink RX5 21 "JetStarts$State" "attempt" "LJetStarts$Attempt;", Cond.fieldLink RX5 28 "JetStarts$State" "log" "LJetStarts$Log;", Cond.fieldLink RX5 35 "JetStarts$State" "tally" "LJetStarts$Tally;", Cond.fieldLink RX5 52 "JetStarts$State" "ticks" "I", Cond.instanceMethod yX1_copyFrom, Cond.initialized RX1, Cond.selects RX1 yX1_copyFrom yX1_copyFrom, Cond.code yX1_copyFrom cX1_copyFrom 2 none]
def wsX7_set_r2 : List Cond := [Cond.fieldLink RX1 9 "JetStarts$Engine" "settings" "[I", Cond.methodLink RX1 22 arraycopyName, Cond.native arraycopyName, Cond.static arraycopyName, Cond.initialized "java/lang/System", Cond.fieldLink RX1 28 "JetStarts$Engine" "speed" "I", Cond.fieldLink RX1 31 "JetStarts$Engine" "heat" "I", Cond.fieldLink RX1 34 "JetStarts$Engine" "step" "I", Cond.fieldLink RX1 37 "JetStarts$Engine" "pool" "I", Cond.fieldLink RX1 15 "JetStarts$Engine" "battery" "I", Cond.fieldLink RX1 40 "JetStarts$Engine" "hasSpark" "Z", Cond.fieldLink RX1 44 "JetStarts$Engine" "isCranking" "Z", Cond.fieldLink RX1 47 "JetStarts$Engine" "hasFlame" "Z", Cond.instanceMethod yX0_copyFrom, Cond.initialized RX0, Cond.selects RX0 yX0_copyFrom yX0_copyFrom, Cond.code yX0_copyFrom cX0_copyFrom 2 none, Cond.fieldLink RX0 9 "JetStarts$Attempt" "isUnderWay" "Z", Cond.fieldLink RX0 15 "JetStarts$Attempt" "ticks" "I", Cond.fieldLink RX0 19 "JetStarts$Attempt" "greatestHeat" "I", Cond.fieldLink RX0 22 "JetStarts$Attempt" "firstBattery" "I", Cond.fieldLink RX0 25 "JetStarts$Attempt" "stalledTicks" "I", Cond.instanceMethod yX3_copyFrom, Cond.initialized RX3]
def wsX7_set_r3 : List Cond := [Cond.selects RX3 yX3_copyFrom yX3_copyFrom, Cond.code yX3_copyFrom cX3_copyFrom 2 none, Cond.fieldLink RX3 11 "JetStarts$Log" "numbers" "[I", Cond.methodLink RX3 15 arraycopyName, Cond.fieldLink RX3 21 "JetStarts$Log" "kept" "I", Cond.instanceMethod yX6_copyFrom, Cond.initialized RX6, Cond.selects RX6 yX6_copyFrom yX6_copyFrom, Cond.code yX6_copyFrom cX6_copyFrom 2 none, Cond.fieldLink RX6 9 "JetStarts$Tally" "endings" "[I", Cond.methodLink RX6 15 arraycopyName, Cond.fieldLink RX6 21 "JetStarts$Tally" "hotTicks" "I", Cond.fieldLink RX6 25 "JetStarts$Tally" "runningTicks" "I", Cond.fieldLink RX6 28 "JetStarts$Tally" "newFlames" "I", Cond.fieldLink RX6 31 "JetStarts$Tally" "lostFlames" "I", Cond.fieldLink RX6 34 "JetStarts$Tally" "greatestHeat" "I"]
def wsX7_set : List Cond := .code yX7_set cX7_set 4 (some .int) :: ((wsX7_set_r1 ++ (wsX7_set_r2 ++ wsX7_set_r3)) ++ wsX70 ++ wsX50 ++ wsX10 ++ wsX20 ++ wsX00 ++ wsX30 ++ wsX60)
def wsX7_starter_r1 : List Cond := [Cond.fieldLink RX7 10 "JetStarts" "now" "LJetStarts$State;", Cond.fieldLink RX7 22 "JetStarts" "history" "LJetStarts$History;", Cond.instanceMethod yX5_canTurnStarter, Cond.initialized RX5, Cond.selects RX5 yX5_canTurnStarter yX5_canTurnStarter, Cond.code yX5_canTurnStarter cX5_canTurnStarter 2 (some .boolean), Cond.fieldLink RX5 12 "JetStarts$State" "jet" "LJetStarts$Engine;", Cond.instanceMethod yX2_keep, Cond.initialized RX2, Cond.selects RX2 yX2_keep yX2_keep, Cond.code yX2_keep cX2_keep 2 none, Cond.fieldLink RX2 11 "JetStarts$History" "states" "[LJetStarts$State;", Cond.fieldLink RX2 18 "JetStarts$History" "oldest" "I", Cond.fieldLink RX2 22 "JetStarts$History" "kept" "I", Cond.instanceMethod yX5_copyFrom, Cond.selects RX5 yX5_copyFrom yX5_copyFrom, Cond.code yX5_copyFrom cX5_copyFrom 2 none, Cond.fieldLink RX5 21 "JetStarts$State" "attempt" "LJetStarts$Attempt;", Cond.fieldLink RX5 28 "JetStarts$State" "log" "LJetStarts$Log;", Cond.fieldLink RX5 35 "JetStarts$State" "tally" "LJetStarts$Tally;", Cond.fieldLink RX5 52 "JetStarts$State" "ticks" "I", Cond.instanceMethod yX1_copyFrom, Cond.initialized RX1, Cond.selects RX1 yX1_copyFrom yX1_copyFrom]
def wsX7_starter_r2 : List Cond := [Cond.code yX1_copyFrom cX1_copyFrom 2 none, Cond.fieldLink RX1 9 "JetStarts$Engine" "settings" "[I", Cond.methodLink RX1 22 arraycopyName, Cond.native arraycopyName, Cond.static arraycopyName, Cond.initialized "java/lang/System", Cond.fieldLink RX1 28 "JetStarts$Engine" "speed" "I", Cond.fieldLink RX1 31 "JetStarts$Engine" "heat" "I", Cond.fieldLink RX1 34 "JetStarts$Engine" "step" "I", Cond.fieldLink RX1 37 "JetStarts$Engine" "pool" "I", Cond.fieldLink RX1 15 "JetStarts$Engine" "battery" "I", Cond.fieldLink RX1 40 "JetStarts$Engine" "hasSpark" "Z", Cond.fieldLink RX1 44 "JetStarts$Engine" "isCranking" "Z", Cond.fieldLink RX1 47 "JetStarts$Engine" "hasFlame" "Z", Cond.instanceMethod yX0_copyFrom, Cond.initialized RX0, Cond.selects RX0 yX0_copyFrom yX0_copyFrom, Cond.code yX0_copyFrom cX0_copyFrom 2 none, Cond.fieldLink RX0 9 "JetStarts$Attempt" "isUnderWay" "Z", Cond.fieldLink RX0 15 "JetStarts$Attempt" "ticks" "I", Cond.fieldLink RX0 19 "JetStarts$Attempt" "greatestHeat" "I", Cond.fieldLink RX0 22 "JetStarts$Attempt" "firstBattery" "I", Cond.fieldLink RX0 25 "JetStarts$Attempt" "stalledTicks" "I", Cond.instanceMethod yX3_copyFrom]
def wsX7_starter_r3 : List Cond := [Cond.initialized RX3, Cond.selects RX3 yX3_copyFrom yX3_copyFrom, Cond.code yX3_copyFrom cX3_copyFrom 2 none, Cond.fieldLink RX3 11 "JetStarts$Log" "numbers" "[I", Cond.methodLink RX3 15 arraycopyName, Cond.fieldLink RX3 21 "JetStarts$Log" "kept" "I", Cond.instanceMethod yX6_copyFrom, Cond.initialized RX6, Cond.selects RX6 yX6_copyFrom yX6_copyFrom, Cond.code yX6_copyFrom cX6_copyFrom 2 none, Cond.fieldLink RX6 9 "JetStarts$Tally" "endings" "[I", Cond.methodLink RX6 15 arraycopyName, Cond.fieldLink RX6 21 "JetStarts$Tally" "hotTicks" "I", Cond.fieldLink RX6 25 "JetStarts$Tally" "runningTicks" "I", Cond.fieldLink RX6 28 "JetStarts$Tally" "newFlames" "I", Cond.fieldLink RX6 31 "JetStarts$Tally" "lostFlames" "I", Cond.fieldLink RX6 34 "JetStarts$Tally" "greatestHeat" "I", Cond.instanceMethod yX5_turnStarter, Cond.selects RX5 yX5_turnStarter yX5_turnStarter, Cond.code yX5_turnStarter cX5_turnStarter 2 none, Cond.instanceMethod yX0_begin, Cond.selects RX0 yX0_begin yX0_begin, Cond.code yX0_begin cX0_begin 2 none]
def wsX7_starter : List Cond := .code yX7_starter cX7_starter 2 (some .int) :: ((wsX7_starter_r1 ++ (wsX7_starter_r2 ++ wsX7_starter_r3)) ++ wsX70 ++ wsX50 ++ wsX10 ++ wsX20 ++ wsX00 ++ wsX30 ++ wsX60)
def wsX7_spark_r1 : List Cond := [Cond.fieldLink RX7 10 "JetStarts" "now" "LJetStarts$State;", Cond.fieldLink RX7 22 "JetStarts" "history" "LJetStarts$History;", Cond.instanceMethod yX2_keep, Cond.initialized RX2, Cond.selects RX2 yX2_keep yX2_keep, Cond.code yX2_keep cX2_keep 2 none, Cond.fieldLink RX2 11 "JetStarts$History" "states" "[LJetStarts$State;", Cond.fieldLink RX2 18 "JetStarts$History" "oldest" "I", Cond.fieldLink RX2 22 "JetStarts$History" "kept" "I", Cond.instanceMethod yX5_copyFrom, Cond.initialized RX5, Cond.selects RX5 yX5_copyFrom yX5_copyFrom, Cond.code yX5_copyFrom cX5_copyFrom 2 none, Cond.fieldLink RX5 12 "JetStarts$State" "jet" "LJetStarts$Engine;", Cond.fieldLink RX5 21 "JetStarts$State" "attempt" "LJetStarts$Attempt;", Cond.fieldLink RX5 28 "JetStarts$State" "log" "LJetStarts$Log;", Cond.fieldLink RX5 35 "JetStarts$State" "tally" "LJetStarts$Tally;", Cond.fieldLink RX5 52 "JetStarts$State" "ticks" "I", Cond.instanceMethod yX1_copyFrom, Cond.initialized RX1, Cond.selects RX1 yX1_copyFrom yX1_copyFrom, Cond.code yX1_copyFrom cX1_copyFrom 2 none, Cond.fieldLink RX1 9 "JetStarts$Engine" "settings" "[I", Cond.methodLink RX1 22 arraycopyName]
def wsX7_spark_r2 : List Cond := [Cond.native arraycopyName, Cond.static arraycopyName, Cond.initialized "java/lang/System", Cond.fieldLink RX1 28 "JetStarts$Engine" "speed" "I", Cond.fieldLink RX1 31 "JetStarts$Engine" "heat" "I", Cond.fieldLink RX1 34 "JetStarts$Engine" "step" "I", Cond.fieldLink RX1 37 "JetStarts$Engine" "pool" "I", Cond.fieldLink RX1 15 "JetStarts$Engine" "battery" "I", Cond.fieldLink RX1 40 "JetStarts$Engine" "hasSpark" "Z", Cond.fieldLink RX1 44 "JetStarts$Engine" "isCranking" "Z", Cond.fieldLink RX1 47 "JetStarts$Engine" "hasFlame" "Z", Cond.instanceMethod yX0_copyFrom, Cond.initialized RX0, Cond.selects RX0 yX0_copyFrom yX0_copyFrom, Cond.code yX0_copyFrom cX0_copyFrom 2 none, Cond.fieldLink RX0 9 "JetStarts$Attempt" "isUnderWay" "Z", Cond.fieldLink RX0 15 "JetStarts$Attempt" "ticks" "I", Cond.fieldLink RX0 19 "JetStarts$Attempt" "greatestHeat" "I", Cond.fieldLink RX0 22 "JetStarts$Attempt" "firstBattery" "I", Cond.fieldLink RX0 25 "JetStarts$Attempt" "stalledTicks" "I", Cond.instanceMethod yX3_copyFrom, Cond.initialized RX3, Cond.selects RX3 yX3_copyFrom yX3_copyFrom, Cond.code yX3_copyFrom cX3_copyFrom 2 none]
def wsX7_spark_r3 : List Cond := [Cond.fieldLink RX3 11 "JetStarts$Log" "numbers" "[I", Cond.methodLink RX3 15 arraycopyName, Cond.fieldLink RX3 21 "JetStarts$Log" "kept" "I", Cond.instanceMethod yX6_copyFrom, Cond.initialized RX6, Cond.selects RX6 yX6_copyFrom yX6_copyFrom, Cond.code yX6_copyFrom cX6_copyFrom 2 none, Cond.fieldLink RX6 9 "JetStarts$Tally" "endings" "[I", Cond.methodLink RX6 15 arraycopyName, Cond.fieldLink RX6 21 "JetStarts$Tally" "hotTicks" "I", Cond.fieldLink RX6 25 "JetStarts$Tally" "runningTicks" "I", Cond.fieldLink RX6 28 "JetStarts$Tally" "newFlames" "I", Cond.fieldLink RX6 31 "JetStarts$Tally" "lostFlames" "I", Cond.fieldLink RX6 34 "JetStarts$Tally" "greatestHeat" "I"]
def wsX7_spark : List Cond := .code yX7_spark cX7_spark 2 (some .int) :: ((wsX7_spark_r1 ++ (wsX7_spark_r2 ++ wsX7_spark_r3)) ++ wsX70 ++ wsX50 ++ wsX10 ++ wsX20 ++ wsX00 ++ wsX30 ++ wsX60)
def wsX7_fuel_r1 : List Cond := [Cond.fieldLink RX7 22 "JetStarts" "history" "LJetStarts$History;", Cond.fieldLink RX7 10 "JetStarts" "now" "LJetStarts$State;", Cond.instanceMethod yX2_keep, Cond.initialized RX2, Cond.selects RX2 yX2_keep yX2_keep, Cond.code yX2_keep cX2_keep 2 none, Cond.fieldLink RX2 11 "JetStarts$History" "states" "[LJetStarts$State;", Cond.fieldLink RX2 18 "JetStarts$History" "oldest" "I", Cond.fieldLink RX2 22 "JetStarts$History" "kept" "I", Cond.instanceMethod yX5_copyFrom, Cond.initialized RX5, Cond.selects RX5 yX5_copyFrom yX5_copyFrom, Cond.code yX5_copyFrom cX5_copyFrom 2 none, Cond.fieldLink RX5 12 "JetStarts$State" "jet" "LJetStarts$Engine;", Cond.fieldLink RX5 21 "JetStarts$State" "attempt" "LJetStarts$Attempt;", Cond.fieldLink RX5 28 "JetStarts$State" "log" "LJetStarts$Log;", Cond.fieldLink RX5 35 "JetStarts$State" "tally" "LJetStarts$Tally;", Cond.fieldLink RX5 52 "JetStarts$State" "ticks" "I", Cond.instanceMethod yX1_copyFrom, Cond.initialized RX1, Cond.selects RX1 yX1_copyFrom yX1_copyFrom, Cond.code yX1_copyFrom cX1_copyFrom 2 none, Cond.fieldLink RX1 9 "JetStarts$Engine" "settings" "[I", Cond.methodLink RX1 22 arraycopyName]
def wsX7_fuel_r2 : List Cond := [Cond.native arraycopyName, Cond.static arraycopyName, Cond.initialized "java/lang/System", Cond.fieldLink RX1 28 "JetStarts$Engine" "speed" "I", Cond.fieldLink RX1 31 "JetStarts$Engine" "heat" "I", Cond.fieldLink RX1 34 "JetStarts$Engine" "step" "I", Cond.fieldLink RX1 37 "JetStarts$Engine" "pool" "I", Cond.fieldLink RX1 15 "JetStarts$Engine" "battery" "I", Cond.fieldLink RX1 40 "JetStarts$Engine" "hasSpark" "Z", Cond.fieldLink RX1 44 "JetStarts$Engine" "isCranking" "Z", Cond.fieldLink RX1 47 "JetStarts$Engine" "hasFlame" "Z", Cond.instanceMethod yX0_copyFrom, Cond.initialized RX0, Cond.selects RX0 yX0_copyFrom yX0_copyFrom, Cond.code yX0_copyFrom cX0_copyFrom 2 none, Cond.fieldLink RX0 9 "JetStarts$Attempt" "isUnderWay" "Z", Cond.fieldLink RX0 15 "JetStarts$Attempt" "ticks" "I", Cond.fieldLink RX0 19 "JetStarts$Attempt" "greatestHeat" "I", Cond.fieldLink RX0 22 "JetStarts$Attempt" "firstBattery" "I", Cond.fieldLink RX0 25 "JetStarts$Attempt" "stalledTicks" "I", Cond.instanceMethod yX3_copyFrom, Cond.initialized RX3, Cond.selects RX3 yX3_copyFrom yX3_copyFrom, Cond.code yX3_copyFrom cX3_copyFrom 2 none]
def wsX7_fuel_r3 : List Cond := [Cond.fieldLink RX3 11 "JetStarts$Log" "numbers" "[I", Cond.methodLink RX3 15 arraycopyName, Cond.fieldLink RX3 21 "JetStarts$Log" "kept" "I", Cond.instanceMethod yX6_copyFrom, Cond.initialized RX6, Cond.selects RX6 yX6_copyFrom yX6_copyFrom, Cond.code yX6_copyFrom cX6_copyFrom 2 none, Cond.fieldLink RX6 9 "JetStarts$Tally" "endings" "[I", Cond.methodLink RX6 15 arraycopyName, Cond.fieldLink RX6 21 "JetStarts$Tally" "hotTicks" "I", Cond.fieldLink RX6 25 "JetStarts$Tally" "runningTicks" "I", Cond.fieldLink RX6 28 "JetStarts$Tally" "newFlames" "I", Cond.fieldLink RX6 31 "JetStarts$Tally" "lostFlames" "I", Cond.fieldLink RX6 34 "JetStarts$Tally" "greatestHeat" "I"]
def wsX7_fuel : List Cond := .code yX7_fuel cX7_fuel 3 (some .int) :: ((wsX7_fuel_r1 ++ (wsX7_fuel_r2 ++ wsX7_fuel_r3)) ++ wsX70 ++ wsX50 ++ wsX10 ++ wsX20 ++ wsX00 ++ wsX30 ++ wsX60)
def wsX7_drain_r1 : List Cond := [Cond.fieldLink RX7 10 "JetStarts" "now" "LJetStarts$State;", Cond.fieldLink RX7 22 "JetStarts" "history" "LJetStarts$History;", Cond.instanceMethod yX2_keep, Cond.initialized RX2, Cond.selects RX2 yX2_keep yX2_keep, Cond.code yX2_keep cX2_keep 2 none, Cond.fieldLink RX2 11 "JetStarts$History" "states" "[LJetStarts$State;", Cond.fieldLink RX2 18 "JetStarts$History" "oldest" "I", Cond.fieldLink RX2 22 "JetStarts$History" "kept" "I", Cond.instanceMethod yX5_copyFrom, Cond.initialized RX5, Cond.selects RX5 yX5_copyFrom yX5_copyFrom, Cond.code yX5_copyFrom cX5_copyFrom 2 none, Cond.fieldLink RX5 12 "JetStarts$State" "jet" "LJetStarts$Engine;", Cond.fieldLink RX5 21 "JetStarts$State" "attempt" "LJetStarts$Attempt;", Cond.fieldLink RX5 28 "JetStarts$State" "log" "LJetStarts$Log;", Cond.fieldLink RX5 35 "JetStarts$State" "tally" "LJetStarts$Tally;", Cond.fieldLink RX5 52 "JetStarts$State" "ticks" "I", Cond.instanceMethod yX1_copyFrom, Cond.initialized RX1, Cond.selects RX1 yX1_copyFrom yX1_copyFrom, Cond.code yX1_copyFrom cX1_copyFrom 2 none, Cond.fieldLink RX1 9 "JetStarts$Engine" "settings" "[I", Cond.methodLink RX1 22 arraycopyName]
def wsX7_drain_r2 : List Cond := [Cond.native arraycopyName, Cond.static arraycopyName, Cond.initialized "java/lang/System", Cond.fieldLink RX1 28 "JetStarts$Engine" "speed" "I", Cond.fieldLink RX1 31 "JetStarts$Engine" "heat" "I", Cond.fieldLink RX1 34 "JetStarts$Engine" "step" "I", Cond.fieldLink RX1 37 "JetStarts$Engine" "pool" "I", Cond.fieldLink RX1 15 "JetStarts$Engine" "battery" "I", Cond.fieldLink RX1 40 "JetStarts$Engine" "hasSpark" "Z", Cond.fieldLink RX1 44 "JetStarts$Engine" "isCranking" "Z", Cond.fieldLink RX1 47 "JetStarts$Engine" "hasFlame" "Z", Cond.instanceMethod yX0_copyFrom, Cond.initialized RX0, Cond.selects RX0 yX0_copyFrom yX0_copyFrom, Cond.code yX0_copyFrom cX0_copyFrom 2 none, Cond.fieldLink RX0 9 "JetStarts$Attempt" "isUnderWay" "Z", Cond.fieldLink RX0 15 "JetStarts$Attempt" "ticks" "I", Cond.fieldLink RX0 19 "JetStarts$Attempt" "greatestHeat" "I", Cond.fieldLink RX0 22 "JetStarts$Attempt" "firstBattery" "I", Cond.fieldLink RX0 25 "JetStarts$Attempt" "stalledTicks" "I", Cond.instanceMethod yX3_copyFrom, Cond.initialized RX3, Cond.selects RX3 yX3_copyFrom yX3_copyFrom, Cond.code yX3_copyFrom cX3_copyFrom 2 none]
def wsX7_drain_r3 : List Cond := [Cond.fieldLink RX3 11 "JetStarts$Log" "numbers" "[I", Cond.methodLink RX3 15 arraycopyName, Cond.fieldLink RX3 21 "JetStarts$Log" "kept" "I", Cond.instanceMethod yX6_copyFrom, Cond.initialized RX6, Cond.selects RX6 yX6_copyFrom yX6_copyFrom, Cond.code yX6_copyFrom cX6_copyFrom 2 none, Cond.fieldLink RX6 9 "JetStarts$Tally" "endings" "[I", Cond.methodLink RX6 15 arraycopyName, Cond.fieldLink RX6 21 "JetStarts$Tally" "hotTicks" "I", Cond.fieldLink RX6 25 "JetStarts$Tally" "runningTicks" "I", Cond.fieldLink RX6 28 "JetStarts$Tally" "newFlames" "I", Cond.fieldLink RX6 31 "JetStarts$Tally" "lostFlames" "I", Cond.fieldLink RX6 34 "JetStarts$Tally" "greatestHeat" "I"]
def wsX7_drain : List Cond := .code yX7_drain cX7_drain 2 (some .int) :: ((wsX7_drain_r1 ++ (wsX7_drain_r2 ++ wsX7_drain_r3)) ++ wsX70 ++ wsX50 ++ wsX10 ++ wsX20 ++ wsX00 ++ wsX30 ++ wsX60)
def wsX7_battery_r1 : List Cond := [Cond.fieldLink RX7 22 "JetStarts" "history" "LJetStarts$History;", Cond.fieldLink RX7 10 "JetStarts" "now" "LJetStarts$State;", Cond.instanceMethod yX2_keep, Cond.initialized RX2, Cond.selects RX2 yX2_keep yX2_keep, Cond.code yX2_keep cX2_keep 2 none, Cond.fieldLink RX2 11 "JetStarts$History" "states" "[LJetStarts$State;", Cond.fieldLink RX2 18 "JetStarts$History" "oldest" "I", Cond.fieldLink RX2 22 "JetStarts$History" "kept" "I", Cond.instanceMethod yX5_copyFrom, Cond.initialized RX5, Cond.selects RX5 yX5_copyFrom yX5_copyFrom, Cond.code yX5_copyFrom cX5_copyFrom 2 none, Cond.fieldLink RX5 12 "JetStarts$State" "jet" "LJetStarts$Engine;", Cond.fieldLink RX5 21 "JetStarts$State" "attempt" "LJetStarts$Attempt;", Cond.fieldLink RX5 28 "JetStarts$State" "log" "LJetStarts$Log;", Cond.fieldLink RX5 35 "JetStarts$State" "tally" "LJetStarts$Tally;", Cond.fieldLink RX5 52 "JetStarts$State" "ticks" "I", Cond.instanceMethod yX1_copyFrom, Cond.initialized RX1, Cond.selects RX1 yX1_copyFrom yX1_copyFrom, Cond.code yX1_copyFrom cX1_copyFrom 2 none, Cond.fieldLink RX1 9 "JetStarts$Engine" "settings" "[I", Cond.methodLink RX1 22 arraycopyName]
def wsX7_battery_r2 : List Cond := [Cond.native arraycopyName, Cond.static arraycopyName, Cond.initialized "java/lang/System", Cond.fieldLink RX1 28 "JetStarts$Engine" "speed" "I", Cond.fieldLink RX1 31 "JetStarts$Engine" "heat" "I", Cond.fieldLink RX1 34 "JetStarts$Engine" "step" "I", Cond.fieldLink RX1 37 "JetStarts$Engine" "pool" "I", Cond.fieldLink RX1 15 "JetStarts$Engine" "battery" "I", Cond.fieldLink RX1 40 "JetStarts$Engine" "hasSpark" "Z", Cond.fieldLink RX1 44 "JetStarts$Engine" "isCranking" "Z", Cond.fieldLink RX1 47 "JetStarts$Engine" "hasFlame" "Z", Cond.instanceMethod yX0_copyFrom, Cond.initialized RX0, Cond.selects RX0 yX0_copyFrom yX0_copyFrom, Cond.code yX0_copyFrom cX0_copyFrom 2 none, Cond.fieldLink RX0 9 "JetStarts$Attempt" "isUnderWay" "Z", Cond.fieldLink RX0 15 "JetStarts$Attempt" "ticks" "I", Cond.fieldLink RX0 19 "JetStarts$Attempt" "greatestHeat" "I", Cond.fieldLink RX0 22 "JetStarts$Attempt" "firstBattery" "I", Cond.fieldLink RX0 25 "JetStarts$Attempt" "stalledTicks" "I", Cond.instanceMethod yX3_copyFrom, Cond.initialized RX3, Cond.selects RX3 yX3_copyFrom yX3_copyFrom, Cond.code yX3_copyFrom cX3_copyFrom 2 none]
def wsX7_battery_r3 : List Cond := [Cond.fieldLink RX3 11 "JetStarts$Log" "numbers" "[I", Cond.methodLink RX3 15 arraycopyName, Cond.fieldLink RX3 21 "JetStarts$Log" "kept" "I", Cond.instanceMethod yX6_copyFrom, Cond.initialized RX6, Cond.selects RX6 yX6_copyFrom yX6_copyFrom, Cond.code yX6_copyFrom cX6_copyFrom 2 none, Cond.fieldLink RX6 9 "JetStarts$Tally" "endings" "[I", Cond.methodLink RX6 15 arraycopyName, Cond.fieldLink RX6 21 "JetStarts$Tally" "hotTicks" "I", Cond.fieldLink RX6 25 "JetStarts$Tally" "runningTicks" "I", Cond.fieldLink RX6 28 "JetStarts$Tally" "newFlames" "I", Cond.fieldLink RX6 31 "JetStarts$Tally" "lostFlames" "I", Cond.fieldLink RX6 34 "JetStarts$Tally" "greatestHeat" "I"]
def wsX7_battery : List Cond := .code yX7_battery cX7_battery 3 (some .int) :: ((wsX7_battery_r1 ++ (wsX7_battery_r2 ++ wsX7_battery_r3)) ++ wsX70 ++ wsX50 ++ wsX10 ++ wsX20 ++ wsX00 ++ wsX30 ++ wsX60)
def wsX7_tick_r1 : List Cond := [Cond.fieldLink RX7 10 "JetStarts" "now" "LJetStarts$State;", Cond.fieldLink RX7 22 "JetStarts" "history" "LJetStarts$History;", Cond.instanceMethod yX5_hasRoomFor, Cond.initialized RX5, Cond.selects RX5 yX5_hasRoomFor yX5_hasRoomFor, Cond.code yX5_hasRoomFor cX5_hasRoomFor 2 (some .boolean), Cond.fieldLink RX5 52 "JetStarts$State" "ticks" "I", Cond.constant RX5 56 (99999), Cond.instanceMethod yX2_keep, Cond.initialized RX2, Cond.selects RX2 yX2_keep yX2_keep, Cond.code yX2_keep cX2_keep 2 none, Cond.fieldLink RX2 11 "JetStarts$History" "states" "[LJetStarts$State;", Cond.fieldLink RX2 18 "JetStarts$History" "oldest" "I", Cond.fieldLink RX2 22 "JetStarts$History" "kept" "I", Cond.instanceMethod yX5_copyFrom, Cond.selects RX5 yX5_copyFrom yX5_copyFrom, Cond.code yX5_copyFrom cX5_copyFrom 2 none, Cond.fieldLink RX5 12 "JetStarts$State" "jet" "LJetStarts$Engine;", Cond.fieldLink RX5 21 "JetStarts$State" "attempt" "LJetStarts$Attempt;", Cond.fieldLink RX5 28 "JetStarts$State" "log" "LJetStarts$Log;", Cond.fieldLink RX5 35 "JetStarts$State" "tally" "LJetStarts$Tally;", Cond.instanceMethod yX1_copyFrom, Cond.initialized RX1]
def wsX7_tick_r2 : List Cond := [Cond.selects RX1 yX1_copyFrom yX1_copyFrom, Cond.code yX1_copyFrom cX1_copyFrom 2 none, Cond.fieldLink RX1 9 "JetStarts$Engine" "settings" "[I", Cond.methodLink RX1 22 arraycopyName, Cond.native arraycopyName, Cond.static arraycopyName, Cond.initialized "java/lang/System", Cond.fieldLink RX1 28 "JetStarts$Engine" "speed" "I", Cond.fieldLink RX1 31 "JetStarts$Engine" "heat" "I", Cond.fieldLink RX1 34 "JetStarts$Engine" "step" "I", Cond.fieldLink RX1 37 "JetStarts$Engine" "pool" "I", Cond.fieldLink RX1 15 "JetStarts$Engine" "battery" "I", Cond.fieldLink RX1 40 "JetStarts$Engine" "hasSpark" "Z", Cond.fieldLink RX1 44 "JetStarts$Engine" "isCranking" "Z", Cond.fieldLink RX1 47 "JetStarts$Engine" "hasFlame" "Z", Cond.instanceMethod yX0_copyFrom, Cond.initialized RX0, Cond.selects RX0 yX0_copyFrom yX0_copyFrom, Cond.code yX0_copyFrom cX0_copyFrom 2 none, Cond.fieldLink RX0 9 "JetStarts$Attempt" "isUnderWay" "Z", Cond.fieldLink RX0 15 "JetStarts$Attempt" "ticks" "I", Cond.fieldLink RX0 19 "JetStarts$Attempt" "greatestHeat" "I", Cond.fieldLink RX0 22 "JetStarts$Attempt" "firstBattery" "I", Cond.fieldLink RX0 25 "JetStarts$Attempt" "stalledTicks" "I"]
def wsX7_tick_r3 : List Cond := [Cond.instanceMethod yX3_copyFrom, Cond.initialized RX3, Cond.selects RX3 yX3_copyFrom yX3_copyFrom, Cond.code yX3_copyFrom cX3_copyFrom 2 none, Cond.fieldLink RX3 11 "JetStarts$Log" "numbers" "[I", Cond.methodLink RX3 15 arraycopyName, Cond.fieldLink RX3 21 "JetStarts$Log" "kept" "I", Cond.instanceMethod yX6_copyFrom, Cond.initialized RX6, Cond.selects RX6 yX6_copyFrom yX6_copyFrom, Cond.code yX6_copyFrom cX6_copyFrom 2 none, Cond.fieldLink RX6 9 "JetStarts$Tally" "endings" "[I", Cond.methodLink RX6 15 arraycopyName, Cond.fieldLink RX6 21 "JetStarts$Tally" "hotTicks" "I", Cond.fieldLink RX6 25 "JetStarts$Tally" "runningTicks" "I", Cond.fieldLink RX6 28 "JetStarts$Tally" "newFlames" "I", Cond.fieldLink RX6 31 "JetStarts$Tally" "lostFlames" "I", Cond.fieldLink RX6 34 "JetStarts$Tally" "greatestHeat" "I", Cond.instanceMethod yX5_passTicks, Cond.selects RX5 yX5_passTicks yX5_passTicks, Cond.code yX5_passTicks cX5_passTicks 3 none, Cond.methodLink RX5 74 yX5_passTick, Cond.instanceMethod yX5_passTick, Cond.selects RX5 yX5_passTick yX5_passTick]
def wsX7_tick_r4 : List Cond := [Cond.code yX5_passTick cX5_passTick 3 none, Cond.instanceMethod yX1_passTick, Cond.selects RX1 yX1_passTick yX1_passTick, Cond.code yX1_passTick cX1_passTick 3 none, Cond.methodLink RX1 72 Lib.Math.min.name, Cond.static Lib.Math.min.name, Cond.initialized "java/lang/Math", Cond.code Lib.Math.min.name Lib.Math.min.code 2 (some .int), Cond.methodLink RX1 50 yX1_pushOfStarter, Cond.instanceMethod yX1_pushOfStarter, Cond.selects RX1 yX1_pushOfStarter yX1_pushOfStarter, Cond.code yX1_pushOfStarter cX1_pushOfStarter 2 (some .int), Cond.methodLink RX1 78 Lib.Math.max.name, Cond.static Lib.Math.max.name, Cond.code Lib.Math.max.name Lib.Math.max.code 2 (some .int), Cond.methodLink RX1 54 yX1_changeFlame, Cond.instanceMethod yX1_changeFlame, Cond.selects RX1 yX1_changeFlame yX1_changeFlame, Cond.code yX1_changeFlame cX1_changeFlame 3 none, Cond.methodLink RX1 57 yX1_burn, Cond.instanceMethod yX1_burn, Cond.selects RX1 yX1_burn yX1_burn, Cond.code yX1_burn cX1_burn 2 (some .int), Cond.methodLink RX1 60 yX1_changeSpeed]
def wsX7_tick_r5 : List Cond := [Cond.instanceMethod yX1_changeSpeed, Cond.selects RX1 yX1_changeSpeed yX1_changeSpeed, Cond.code yX1_changeSpeed cX1_changeSpeed 4 none, Cond.methodLink RX1 64 yX1_changeHeat, Cond.instanceMethod yX1_changeHeat, Cond.selects RX1 yX1_changeHeat yX1_changeHeat, Cond.code yX1_changeHeat cX1_changeHeat 4 none, Cond.methodLink RX1 68 yX1_runs, Cond.instanceMethod yX1_runs, Cond.selects RX1 yX1_runs yX1_runs, Cond.code yX1_runs cX1_runs 1 (some .boolean), Cond.instanceMethod yX6_addTick, Cond.selects RX6 yX6_addTick yX6_addTick, Cond.code yX6_addTick cX6_addTick 3 none, Cond.methodLink RX6 57 Lib.Math.max.name, Cond.instanceMethod yX1_isHot, Cond.selects RX1 yX1_isHot yX1_isHot, Cond.code yX1_isHot cX1_isHot 1 (some .boolean), Cond.static yX7_oneIf, Cond.initialized RX7, Cond.code yX7_oneIf cX7_oneIf 1 (some .int), Cond.instanceMethod yX0_addTick, Cond.selects RX0 yX0_addTick yX0_addTick, Cond.code yX0_addTick cX0_addTick 3 none]
def wsX7_tick_r6 : List Cond := [Cond.methodLink RX0 33 Lib.Math.max.name, Cond.methodLink RX5 88 yX5_endAttemptIfOver, Cond.instanceMethod yX5_endAttemptIfOver, Cond.selects RX5 yX5_endAttemptIfOver yX5_endAttemptIfOver, Cond.code yX5_endAttemptIfOver cX5_endAttemptIfOver 2 none, Cond.instanceMethod yX0_endingWith, Cond.selects RX0 yX0_endingWith yX0_endingWith, Cond.code yX0_endingWith cX0_endingWith 2 (some .int), Cond.instanceMethod yX1_isSpent, Cond.selects RX1 yX1_isSpent yX1_isSpent, Cond.code yX1_isSpent cX1_isSpent 1 (some .boolean), Cond.instanceMethod yX3_add, Cond.selects RX3 yX3_add yX3_add, Cond.code yX3_add cX3_add 5 none, Cond.methodLink RX3 36 Lib.Math.min.name, Cond.instanceMethod yX6_addEnding, Cond.selects RX6 yX6_addEnding yX6_addEnding, Cond.code yX6_addEnding cX6_addEnding 2 none]
def wsX7_tick : List Cond := .code yX7_tick cX7_tick 2 (some .int) :: ((wsX7_tick_r1 ++ (wsX7_tick_r2 ++ (wsX7_tick_r3 ++ (wsX7_tick_r4 ++ (wsX7_tick_r5 ++ wsX7_tick_r6))))) ++ wsX70 ++ wsX50 ++ wsX10 ++ wsX20 ++ wsX00 ++ wsX30 ++ wsX60)
def wsX7_doDeed_r1 : List Cond := [Cond.fieldLink RX7 10 "JetStarts" "now" "LJetStarts$State;", Cond.instanceMethod yX5_canTurnStarter, Cond.initialized RX5, Cond.selects RX5 yX5_canTurnStarter yX5_canTurnStarter, Cond.code yX5_canTurnStarter cX5_canTurnStarter 2 (some .boolean), Cond.fieldLink RX5 12 "JetStarts$State" "jet" "LJetStarts$Engine;", Cond.instanceMethod yX5_turnStarter, Cond.selects RX5 yX5_turnStarter yX5_turnStarter, Cond.code yX5_turnStarter cX5_turnStarter 2 none, Cond.fieldLink RX5 21 "JetStarts$State" "attempt" "LJetStarts$Attempt;", Cond.instanceMethod yX0_begin, Cond.initialized RX0, Cond.selects RX0 yX0_begin yX0_begin, Cond.code yX0_begin cX0_begin 2 none, Cond.fieldLink RX0 9 "JetStarts$Attempt" "isUnderWay" "Z", Cond.fieldLink RX0 15 "JetStarts$Attempt" "ticks" "I", Cond.fieldLink RX0 19 "JetStarts$Attempt" "greatestHeat" "I", Cond.fieldLink RX0 22 "JetStarts$Attempt" "firstBattery" "I", Cond.fieldLink RX0 25 "JetStarts$Attempt" "stalledTicks" "I", Cond.instanceMethod yX5_hasRoomFor, Cond.selects RX5 yX5_hasRoomFor yX5_hasRoomFor, Cond.code yX5_hasRoomFor cX5_hasRoomFor 2 (some .boolean), Cond.fieldLink RX5 52 "JetStarts$State" "ticks" "I", Cond.constant RX5 56 (99999)]
def wsX7_doDeed_r2 : List Cond := [Cond.instanceMethod yX5_passTicks, Cond.selects RX5 yX5_passTicks yX5_passTicks, Cond.code yX5_passTicks cX5_passTicks 3 none, Cond.methodLink RX5 74 yX5_passTick, Cond.instanceMethod yX5_passTick, Cond.selects RX5 yX5_passTick yX5_passTick, Cond.code yX5_passTick cX5_passTick 3 none, Cond.fieldLink RX5 35 "JetStarts$State" "tally" "LJetStarts$Tally;", Cond.instanceMethod yX1_passTick, Cond.initialized RX1, Cond.selects RX1 yX1_passTick yX1_passTick, Cond.code yX1_passTick cX1_passTick 3 none, Cond.fieldLink RX1 15 "JetStarts$Engine" "battery" "I", Cond.methodLink RX1 72 Lib.Math.min.name, Cond.static Lib.Math.min.name, Cond.initialized "java/lang/Math", Cond.code Lib.Math.min.name Lib.Math.min.code 2 (some .int), Cond.methodLink RX1 50 yX1_pushOfStarter, Cond.instanceMethod yX1_pushOfStarter, Cond.selects RX1 yX1_pushOfStarter yX1_pushOfStarter, Cond.code yX1_pushOfStarter cX1_pushOfStarter 2 (some .int), Cond.fieldLink RX1 28 "JetStarts$Engine" "speed" "I", Cond.fieldLink RX1 44 "JetStarts$Engine" "isCranking" "Z", Cond.methodLink RX1 78 Lib.Math.max.name]
def wsX7_doDeed_r3 : List Cond := [Cond.static Lib.Math.max.name, Cond.code Lib.Math.max.name Lib.Math.max.code 2 (some .int), Cond.fieldLink RX1 9 "JetStarts$Engine" "settings" "[I", Cond.methodLink RX1 54 yX1_changeFlame, Cond.instanceMethod yX1_changeFlame, Cond.selects RX1 yX1_changeFlame yX1_changeFlame, Cond.code yX1_changeFlame cX1_changeFlame 3 none, Cond.fieldLink RX1 47 "JetStarts$Engine" "hasFlame" "Z", Cond.fieldLink RX1 34 "JetStarts$Engine" "step" "I", Cond.fieldLink RX1 37 "JetStarts$Engine" "pool" "I", Cond.fieldLink RX1 40 "JetStarts$Engine" "hasSpark" "Z", Cond.methodLink RX1 57 yX1_burn, Cond.instanceMethod yX1_burn, Cond.selects RX1 yX1_burn yX1_burn, Cond.code yX1_burn cX1_burn 2 (some .int), Cond.methodLink RX1 60 yX1_changeSpeed, Cond.instanceMethod yX1_changeSpeed, Cond.selects RX1 yX1_changeSpeed yX1_changeSpeed, Cond.code yX1_changeSpeed cX1_changeSpeed 4 none, Cond.methodLink RX1 64 yX1_changeHeat, Cond.instanceMethod yX1_changeHeat, Cond.selects RX1 yX1_changeHeat yX1_changeHeat, Cond.code yX1_changeHeat cX1_changeHeat 4 none, Cond.fieldLink RX1 31 "JetStarts$Engine" "heat" "I"]
def wsX7_doDeed_r4 : List Cond := [Cond.methodLink RX1 68 yX1_runs, Cond.instanceMethod yX1_runs, Cond.selects RX1 yX1_runs yX1_runs, Cond.code yX1_runs cX1_runs 1 (some .boolean), Cond.instanceMethod yX6_addTick, Cond.initialized RX6, Cond.selects RX6 yX6_addTick yX6_addTick, Cond.code yX6_addTick cX6_addTick 3 none, Cond.fieldLink RX6 21 "JetStarts$Tally" "hotTicks" "I", Cond.fieldLink RX6 25 "JetStarts$Tally" "runningTicks" "I", Cond.fieldLink RX6 28 "JetStarts$Tally" "newFlames" "I", Cond.fieldLink RX6 31 "JetStarts$Tally" "lostFlames" "I", Cond.fieldLink RX6 34 "JetStarts$Tally" "greatestHeat" "I", Cond.methodLink RX6 57 Lib.Math.max.name, Cond.instanceMethod yX1_isHot, Cond.selects RX1 yX1_isHot yX1_isHot, Cond.code yX1_isHot cX1_isHot 1 (some .boolean), Cond.static yX7_oneIf, Cond.initialized RX7, Cond.code yX7_oneIf cX7_oneIf 1 (some .int), Cond.instanceMethod yX0_addTick, Cond.selects RX0 yX0_addTick yX0_addTick, Cond.code yX0_addTick cX0_addTick 3 none, Cond.methodLink RX0 33 Lib.Math.max.name]
def wsX7_doDeed_r5 : List Cond := [Cond.methodLink RX5 88 yX5_endAttemptIfOver, Cond.instanceMethod yX5_endAttemptIfOver, Cond.selects RX5 yX5_endAttemptIfOver yX5_endAttemptIfOver, Cond.code yX5_endAttemptIfOver cX5_endAttemptIfOver 2 none, Cond.fieldLink RX5 28 "JetStarts$State" "log" "LJetStarts$Log;", Cond.instanceMethod yX0_endingWith, Cond.selects RX0 yX0_endingWith yX0_endingWith, Cond.code yX0_endingWith cX0_endingWith 2 (some .int), Cond.instanceMethod yX1_isSpent, Cond.selects RX1 yX1_isSpent yX1_isSpent, Cond.code yX1_isSpent cX1_isSpent 1 (some .boolean), Cond.instanceMethod yX3_add, Cond.initialized RX3, Cond.selects RX3 yX3_add yX3_add, Cond.code yX3_add cX3_add 5 none, Cond.fieldLink RX3 11 "JetStarts$Log" "numbers" "[I", Cond.fieldLink RX3 21 "JetStarts$Log" "kept" "I", Cond.methodLink RX3 36 Lib.Math.min.name, Cond.instanceMethod yX6_addEnding, Cond.selects RX6 yX6_addEnding yX6_addEnding, Cond.code yX6_addEnding cX6_addEnding 2 none, Cond.fieldLink RX6 9 "JetStarts$Tally" "endings" "[I"]
def wsX7_doDeed : List Cond := .code yX7_doDeed cX7_doDeed 4 (some .boolean) :: ((wsX7_doDeed_r1 ++ (wsX7_doDeed_r2 ++ (wsX7_doDeed_r3 ++ (wsX7_doDeed_r4 ++ wsX7_doDeed_r5)))) ++ wsX70 ++ wsX50 ++ wsX10 ++ wsX00 ++ wsX60 ++ wsX30)
def wsX7_run_r1 : List Cond := [Cond.fieldLink RX7 37 "JetStarts" "pad" "LJetStarts$Pad;", Cond.fieldLink RX7 22 "JetStarts" "history" "LJetStarts$History;", Cond.fieldLink RX7 10 "JetStarts" "now" "LJetStarts$State;", Cond.instanceMethod yX4_firstFault, Cond.initialized RX4, Cond.selects RX4 yX4_firstFault yX4_firstFault, Cond.code yX4_firstFault cX4_firstFault 3 (some .int), Cond.fieldLink RX4 21 "JetStarts$Pad" "length" "I", Cond.methodLink RX4 25 yX4_signAt, Cond.instanceMethod yX4_signAt, Cond.selects RX4 yX4_signAt yX4_signAt, Cond.code yX4_signAt cX4_signAt 2 (some .char), Cond.fieldLink RX4 9 "JetStarts$Pad" "signs" "[C", Cond.methodLink RX4 33 yX4_placeBehind, Cond.static yX4_placeBehind, Cond.code yX4_placeBehind cX4_placeBehind 2 (some .int), Cond.methodLink RX4 37 yX4_placeBehindDeedSign, Cond.static yX4_placeBehindDeedSign, Cond.code yX4_placeBehindDeedSign cX4_placeBehindDeedSign 1 (some .int), Cond.methodLink RX4 29 yX4_isDigit, Cond.static yX4_isDigit, Cond.code yX4_isDigit cX4_isDigit 1 (some .boolean), Cond.methodLink RX4 41 yX4_placeBehindEnd, Cond.static yX4_placeBehindEnd]
def wsX7_run_r2 : List Cond := [Cond.code yX4_placeBehindEnd cX4_placeBehindEnd 1 (some .int), Cond.instanceMethod yX2_keep, Cond.initialized RX2, Cond.selects RX2 yX2_keep yX2_keep, Cond.code yX2_keep cX2_keep 2 none, Cond.fieldLink RX2 11 "JetStarts$History" "states" "[LJetStarts$State;", Cond.fieldLink RX2 18 "JetStarts$History" "oldest" "I", Cond.fieldLink RX2 22 "JetStarts$History" "kept" "I", Cond.instanceMethod yX5_copyFrom, Cond.initialized RX5, Cond.selects RX5 yX5_copyFrom yX5_copyFrom, Cond.code yX5_copyFrom cX5_copyFrom 2 none, Cond.fieldLink RX5 12 "JetStarts$State" "jet" "LJetStarts$Engine;", Cond.fieldLink RX5 21 "JetStarts$State" "attempt" "LJetStarts$Attempt;", Cond.fieldLink RX5 28 "JetStarts$State" "log" "LJetStarts$Log;", Cond.fieldLink RX5 35 "JetStarts$State" "tally" "LJetStarts$Tally;", Cond.fieldLink RX5 52 "JetStarts$State" "ticks" "I", Cond.instanceMethod yX1_copyFrom, Cond.initialized RX1, Cond.selects RX1 yX1_copyFrom yX1_copyFrom, Cond.code yX1_copyFrom cX1_copyFrom 2 none, Cond.fieldLink RX1 9 "JetStarts$Engine" "settings" "[I", Cond.methodLink RX1 22 arraycopyName, Cond.native arraycopyName]
def wsX7_run_r3 : List Cond := [Cond.static arraycopyName, Cond.initialized "java/lang/System", Cond.fieldLink RX1 28 "JetStarts$Engine" "speed" "I", Cond.fieldLink RX1 31 "JetStarts$Engine" "heat" "I", Cond.fieldLink RX1 34 "JetStarts$Engine" "step" "I", Cond.fieldLink RX1 37 "JetStarts$Engine" "pool" "I", Cond.fieldLink RX1 15 "JetStarts$Engine" "battery" "I", Cond.fieldLink RX1 40 "JetStarts$Engine" "hasSpark" "Z", Cond.fieldLink RX1 44 "JetStarts$Engine" "isCranking" "Z", Cond.fieldLink RX1 47 "JetStarts$Engine" "hasFlame" "Z", Cond.instanceMethod yX0_copyFrom, Cond.initialized RX0, Cond.selects RX0 yX0_copyFrom yX0_copyFrom, Cond.code yX0_copyFrom cX0_copyFrom 2 none, Cond.fieldLink RX0 9 "JetStarts$Attempt" "isUnderWay" "Z", Cond.fieldLink RX0 15 "JetStarts$Attempt" "ticks" "I", Cond.fieldLink RX0 19 "JetStarts$Attempt" "greatestHeat" "I", Cond.fieldLink RX0 22 "JetStarts$Attempt" "firstBattery" "I", Cond.fieldLink RX0 25 "JetStarts$Attempt" "stalledTicks" "I", Cond.instanceMethod yX3_copyFrom, Cond.initialized RX3, Cond.selects RX3 yX3_copyFrom yX3_copyFrom, Cond.code yX3_copyFrom cX3_copyFrom 2 none, Cond.fieldLink RX3 11 "JetStarts$Log" "numbers" "[I"]
def wsX7_run_r4 : List Cond := [Cond.methodLink RX3 15 arraycopyName, Cond.fieldLink RX3 21 "JetStarts$Log" "kept" "I", Cond.instanceMethod yX6_copyFrom, Cond.initialized RX6, Cond.selects RX6 yX6_copyFrom yX6_copyFrom, Cond.code yX6_copyFrom cX6_copyFrom 2 none, Cond.fieldLink RX6 9 "JetStarts$Tally" "endings" "[I", Cond.methodLink RX6 15 arraycopyName, Cond.fieldLink RX6 21 "JetStarts$Tally" "hotTicks" "I", Cond.fieldLink RX6 25 "JetStarts$Tally" "runningTicks" "I", Cond.fieldLink RX6 28 "JetStarts$Tally" "newFlames" "I", Cond.fieldLink RX6 31 "JetStarts$Tally" "lostFlames" "I", Cond.fieldLink RX6 34 "JetStarts$Tally" "greatestHeat" "I", Cond.instanceMethod yX4_beginsDeed, Cond.selects RX4 yX4_beginsDeed yX4_beginsDeed, Cond.code yX4_beginsDeed cX4_beginsDeed 2 (some .boolean), Cond.instanceMethod yX4_numberFrom, Cond.selects RX4 yX4_numberFrom yX4_numberFrom, Cond.code yX4_numberFrom cX4_numberFrom 4 (some .int), Cond.methodLink RX7 115 yX7_doDeed, Cond.instanceMethod yX7_doDeed, Cond.selects RX7 yX7_doDeed yX7_doDeed, Cond.initialized RX7, Cond.code yX7_doDeed cX7_doDeed 4 (some .boolean)]
def wsX7_run_r5 : List Cond := [Cond.instanceMethod yX5_canTurnStarter, Cond.selects RX5 yX5_canTurnStarter yX5_canTurnStarter, Cond.code yX5_canTurnStarter cX5_canTurnStarter 2 (some .boolean), Cond.instanceMethod yX5_turnStarter, Cond.selects RX5 yX5_turnStarter yX5_turnStarter, Cond.code yX5_turnStarter cX5_turnStarter 2 none, Cond.instanceMethod yX0_begin, Cond.selects RX0 yX0_begin yX0_begin, Cond.code yX0_begin cX0_begin 2 none, Cond.instanceMethod yX5_hasRoomFor, Cond.selects RX5 yX5_hasRoomFor yX5_hasRoomFor, Cond.code yX5_hasRoomFor cX5_hasRoomFor 2 (some .boolean), Cond.constant RX5 56 (99999), Cond.instanceMethod yX5_passTicks, Cond.selects RX5 yX5_passTicks yX5_passTicks, Cond.code yX5_passTicks cX5_passTicks 3 none, Cond.methodLink RX5 74 yX5_passTick, Cond.instanceMethod yX5_passTick, Cond.selects RX5 yX5_passTick yX5_passTick, Cond.code yX5_passTick cX5_passTick 3 none, Cond.instanceMethod yX1_passTick, Cond.selects RX1 yX1_passTick yX1_passTick, Cond.code yX1_passTick cX1_passTick 3 none, Cond.methodLink RX1 72 Lib.Math.min.name]
def wsX7_run_r6 : List Cond := [Cond.static Lib.Math.min.name, Cond.initialized "java/lang/Math", Cond.code Lib.Math.min.name Lib.Math.min.code 2 (some .int), Cond.methodLink RX1 50 yX1_pushOfStarter, Cond.instanceMethod yX1_pushOfStarter, Cond.selects RX1 yX1_pushOfStarter yX1_pushOfStarter, Cond.code yX1_pushOfStarter cX1_pushOfStarter 2 (some .int), Cond.methodLink RX1 78 Lib.Math.max.name, Cond.static Lib.Math.max.name, Cond.code Lib.Math.max.name Lib.Math.max.code 2 (some .int), Cond.methodLink RX1 54 yX1_changeFlame, Cond.instanceMethod yX1_changeFlame, Cond.selects RX1 yX1_changeFlame yX1_changeFlame, Cond.code yX1_changeFlame cX1_changeFlame 3 none, Cond.methodLink RX1 57 yX1_burn, Cond.instanceMethod yX1_burn, Cond.selects RX1 yX1_burn yX1_burn, Cond.code yX1_burn cX1_burn 2 (some .int), Cond.methodLink RX1 60 yX1_changeSpeed, Cond.instanceMethod yX1_changeSpeed, Cond.selects RX1 yX1_changeSpeed yX1_changeSpeed, Cond.code yX1_changeSpeed cX1_changeSpeed 4 none, Cond.methodLink RX1 64 yX1_changeHeat, Cond.instanceMethod yX1_changeHeat]
def wsX7_run_r7 : List Cond := [Cond.selects RX1 yX1_changeHeat yX1_changeHeat, Cond.code yX1_changeHeat cX1_changeHeat 4 none, Cond.methodLink RX1 68 yX1_runs, Cond.instanceMethod yX1_runs, Cond.selects RX1 yX1_runs yX1_runs, Cond.code yX1_runs cX1_runs 1 (some .boolean), Cond.instanceMethod yX6_addTick, Cond.selects RX6 yX6_addTick yX6_addTick, Cond.code yX6_addTick cX6_addTick 3 none, Cond.methodLink RX6 57 Lib.Math.max.name, Cond.instanceMethod yX1_isHot, Cond.selects RX1 yX1_isHot yX1_isHot, Cond.code yX1_isHot cX1_isHot 1 (some .boolean), Cond.static yX7_oneIf, Cond.code yX7_oneIf cX7_oneIf 1 (some .int), Cond.instanceMethod yX0_addTick, Cond.selects RX0 yX0_addTick yX0_addTick, Cond.code yX0_addTick cX0_addTick 3 none, Cond.methodLink RX0 33 Lib.Math.max.name, Cond.methodLink RX5 88 yX5_endAttemptIfOver, Cond.instanceMethod yX5_endAttemptIfOver, Cond.selects RX5 yX5_endAttemptIfOver yX5_endAttemptIfOver, Cond.code yX5_endAttemptIfOver cX5_endAttemptIfOver 2 none, Cond.instanceMethod yX0_endingWith]
def wsX7_run_r8 : List Cond := [Cond.selects RX0 yX0_endingWith yX0_endingWith, Cond.code yX0_endingWith cX0_endingWith 2 (some .int), Cond.instanceMethod yX1_isSpent, Cond.selects RX1 yX1_isSpent yX1_isSpent, Cond.code yX1_isSpent cX1_isSpent 1 (some .boolean), Cond.instanceMethod yX3_add, Cond.selects RX3 yX3_add yX3_add, Cond.code yX3_add cX3_add 5 none, Cond.methodLink RX3 36 Lib.Math.min.name, Cond.instanceMethod yX6_addEnding, Cond.selects RX6 yX6_addEnding yX6_addEnding, Cond.code yX6_addEnding cX6_addEnding 2 none]
def wsX7_run : List Cond := .code yX7_run cX7_run 3 (some .int) :: ((wsX7_run_r1 ++ (wsX7_run_r2 ++ (wsX7_run_r3 ++ (wsX7_run_r4 ++ (wsX7_run_r5 ++ (wsX7_run_r6 ++ (wsX7_run_r7 ++ wsX7_run_r8))))))) ++ wsX70 ++ wsX40 ++ wsX20 ++ wsX50 ++ wsX10 ++ wsX00 ++ wsX30 ++ wsX60)
def wsX7_engine : List Cond := .code yX7_engine cX7_engine 3 (some .int) :: ([.fieldLink RX7 10 "JetStarts" "now" "LJetStarts$State;", .methodLink RX7 122 yX7_oneIf, .static yX7_oneIf, .initialized RX7, .code yX7_oneIf cX7_oneIf 1 (some .int), .instanceMethod yX1_runs, .initialized RX1, .selects RX1 yX1_runs yX1_runs, .code yX1_runs cX1_runs 1 (some .boolean), .fieldLink RX1 47 "JetStarts$Engine" "hasFlame" "Z", .fieldLink RX1 28 "JetStarts$Engine" "speed" "I"] ++ wsX70 ++ wsX50 ++ wsX10 ++ wsX00)
def wsX7_start : List Cond := .code yX7_start cX7_start 3 (some .int) :: ([.fieldLink RX7 10 "JetStarts" "now" "LJetStarts$State;", .instanceMethod yX3_numberOf, .initialized RX3, .selects RX3 yX3_numberOf yX3_numberOf, .code yX3_numberOf cX3_numberOf 3 (some .int), .fieldLink RX3 21 "JetStarts$Log" "kept" "I", .fieldLink RX3 11 "JetStarts$Log" "numbers" "[I"] ++ wsX70 ++ wsX50 ++ wsX30)
def wsX7_count : List Cond := .code yX7_count cX7_count 3 (some .int) :: ([.fieldLink RX7 10 "JetStarts" "now" "LJetStarts$State;", .fieldLink RX7 37 "JetStarts" "pad" "LJetStarts$Pad;", .fieldLink RX7 22 "JetStarts" "history" "LJetStarts$History;"] ++ wsX70 ++ wsX50 ++ wsX10 ++ wsX60 ++ wsX40 ++ wsX20)
def wsX7_untilRunning_r1 : List Cond := [Cond.fieldLink RX7 16 "JetStarts" "trial" "LJetStarts$State;", Cond.fieldLink RX7 10 "JetStarts" "now" "LJetStarts$State;", Cond.instanceMethod yX5_copyFrom, Cond.initialized RX5, Cond.selects RX5 yX5_copyFrom yX5_copyFrom, Cond.code yX5_copyFrom cX5_copyFrom 2 none, Cond.fieldLink RX5 12 "JetStarts$State" "jet" "LJetStarts$Engine;", Cond.fieldLink RX5 21 "JetStarts$State" "attempt" "LJetStarts$Attempt;", Cond.fieldLink RX5 28 "JetStarts$State" "log" "LJetStarts$Log;", Cond.fieldLink RX5 35 "JetStarts$State" "tally" "LJetStarts$Tally;", Cond.fieldLink RX5 52 "JetStarts$State" "ticks" "I", Cond.instanceMethod yX1_copyFrom, Cond.initialized RX1, Cond.selects RX1 yX1_copyFrom yX1_copyFrom, Cond.code yX1_copyFrom cX1_copyFrom 2 none, Cond.fieldLink RX1 9 "JetStarts$Engine" "settings" "[I", Cond.methodLink RX1 22 arraycopyName, Cond.native arraycopyName, Cond.static arraycopyName, Cond.initialized "java/lang/System", Cond.fieldLink RX1 28 "JetStarts$Engine" "speed" "I", Cond.fieldLink RX1 31 "JetStarts$Engine" "heat" "I", Cond.fieldLink RX1 34 "JetStarts$Engine" "step" "I", Cond.fieldLink RX1 37 "JetStarts$Engine" "pool" "I"]
def wsX7_untilRunning_r2 : List Cond := [Cond.fieldLink RX1 15 "JetStarts$Engine" "battery" "I", Cond.fieldLink RX1 40 "JetStarts$Engine" "hasSpark" "Z", Cond.fieldLink RX1 44 "JetStarts$Engine" "isCranking" "Z", Cond.fieldLink RX1 47 "JetStarts$Engine" "hasFlame" "Z", Cond.instanceMethod yX0_copyFrom, Cond.initialized RX0, Cond.selects RX0 yX0_copyFrom yX0_copyFrom, Cond.code yX0_copyFrom cX0_copyFrom 2 none, Cond.fieldLink RX0 9 "JetStarts$Attempt" "isUnderWay" "Z", Cond.fieldLink RX0 15 "JetStarts$Attempt" "ticks" "I", Cond.fieldLink RX0 19 "JetStarts$Attempt" "greatestHeat" "I", Cond.fieldLink RX0 22 "JetStarts$Attempt" "firstBattery" "I", Cond.fieldLink RX0 25 "JetStarts$Attempt" "stalledTicks" "I", Cond.instanceMethod yX3_copyFrom, Cond.initialized RX3, Cond.selects RX3 yX3_copyFrom yX3_copyFrom, Cond.code yX3_copyFrom cX3_copyFrom 2 none, Cond.fieldLink RX3 11 "JetStarts$Log" "numbers" "[I", Cond.methodLink RX3 15 arraycopyName, Cond.fieldLink RX3 21 "JetStarts$Log" "kept" "I", Cond.instanceMethod yX6_copyFrom, Cond.initialized RX6, Cond.selects RX6 yX6_copyFrom yX6_copyFrom, Cond.code yX6_copyFrom cX6_copyFrom 2 none]
def wsX7_untilRunning_r3 : List Cond := [Cond.fieldLink RX6 9 "JetStarts$Tally" "endings" "[I", Cond.methodLink RX6 15 arraycopyName, Cond.fieldLink RX6 21 "JetStarts$Tally" "hotTicks" "I", Cond.fieldLink RX6 25 "JetStarts$Tally" "runningTicks" "I", Cond.fieldLink RX6 28 "JetStarts$Tally" "newFlames" "I", Cond.fieldLink RX6 31 "JetStarts$Tally" "lostFlames" "I", Cond.fieldLink RX6 34 "JetStarts$Tally" "greatestHeat" "I", Cond.instanceMethod yX5_passTicksUntilRunning, Cond.selects RX5 yX5_passTicksUntilRunning yX5_passTicksUntilRunning, Cond.code yX5_passTicksUntilRunning cX5_passTicksUntilRunning 3 (some .int), Cond.methodLink RX5 74 yX5_passTick, Cond.instanceMethod yX5_passTick, Cond.selects RX5 yX5_passTick yX5_passTick, Cond.code yX5_passTick cX5_passTick 3 none, Cond.instanceMethod yX1_passTick, Cond.selects RX1 yX1_passTick yX1_passTick, Cond.code yX1_passTick cX1_passTick 3 none, Cond.methodLink RX1 72 Lib.Math.min.name, Cond.static Lib.Math.min.name, Cond.initialized "java/lang/Math", Cond.code Lib.Math.min.name Lib.Math.min.code 2 (some .int), Cond.methodLink RX1 50 yX1_pushOfStarter, Cond.instanceMethod yX1_pushOfStarter, Cond.selects RX1 yX1_pushOfStarter yX1_pushOfStarter]
def wsX7_untilRunning_r4 : List Cond := [Cond.code yX1_pushOfStarter cX1_pushOfStarter 2 (some .int), Cond.methodLink RX1 78 Lib.Math.max.name, Cond.static Lib.Math.max.name, Cond.code Lib.Math.max.name Lib.Math.max.code 2 (some .int), Cond.methodLink RX1 54 yX1_changeFlame, Cond.instanceMethod yX1_changeFlame, Cond.selects RX1 yX1_changeFlame yX1_changeFlame, Cond.code yX1_changeFlame cX1_changeFlame 3 none, Cond.methodLink RX1 57 yX1_burn, Cond.instanceMethod yX1_burn, Cond.selects RX1 yX1_burn yX1_burn, Cond.code yX1_burn cX1_burn 2 (some .int), Cond.methodLink RX1 60 yX1_changeSpeed, Cond.instanceMethod yX1_changeSpeed, Cond.selects RX1 yX1_changeSpeed yX1_changeSpeed, Cond.code yX1_changeSpeed cX1_changeSpeed 4 none, Cond.methodLink RX1 64 yX1_changeHeat, Cond.instanceMethod yX1_changeHeat, Cond.selects RX1 yX1_changeHeat yX1_changeHeat, Cond.code yX1_changeHeat cX1_changeHeat 4 none, Cond.methodLink RX1 68 yX1_runs, Cond.instanceMethod yX1_runs, Cond.selects RX1 yX1_runs yX1_runs, Cond.code yX1_runs cX1_runs 1 (some .boolean)]
def wsX7_untilRunning_r5 : List Cond := [Cond.instanceMethod yX6_addTick, Cond.selects RX6 yX6_addTick yX6_addTick, Cond.code yX6_addTick cX6_addTick 3 none, Cond.methodLink RX6 57 Lib.Math.max.name, Cond.instanceMethod yX1_isHot, Cond.selects RX1 yX1_isHot yX1_isHot, Cond.code yX1_isHot cX1_isHot 1 (some .boolean), Cond.static yX7_oneIf, Cond.initialized RX7, Cond.code yX7_oneIf cX7_oneIf 1 (some .int), Cond.instanceMethod yX0_addTick, Cond.selects RX0 yX0_addTick yX0_addTick, Cond.code yX0_addTick cX0_addTick 3 none, Cond.methodLink RX0 33 Lib.Math.max.name, Cond.methodLink RX5 88 yX5_endAttemptIfOver, Cond.instanceMethod yX5_endAttemptIfOver, Cond.selects RX5 yX5_endAttemptIfOver yX5_endAttemptIfOver, Cond.code yX5_endAttemptIfOver cX5_endAttemptIfOver 2 none, Cond.instanceMethod yX0_endingWith, Cond.selects RX0 yX0_endingWith yX0_endingWith, Cond.code yX0_endingWith cX0_endingWith 2 (some .int), Cond.instanceMethod yX1_isSpent, Cond.selects RX1 yX1_isSpent yX1_isSpent, Cond.code yX1_isSpent cX1_isSpent 1 (some .boolean)]
def wsX7_untilRunning_r6 : List Cond := [Cond.instanceMethod yX3_add, Cond.selects RX3 yX3_add yX3_add, Cond.code yX3_add cX3_add 5 none, Cond.methodLink RX3 36 Lib.Math.min.name, Cond.instanceMethod yX6_addEnding, Cond.selects RX6 yX6_addEnding yX6_addEnding, Cond.code yX6_addEnding cX6_addEnding 2 none]
def wsX7_untilRunning : List Cond := .code yX7_untilRunning cX7_untilRunning 1 (some .int) :: ((wsX7_untilRunning_r1 ++ (wsX7_untilRunning_r2 ++ (wsX7_untilRunning_r3 ++ (wsX7_untilRunning_r4 ++ (wsX7_untilRunning_r5 ++ wsX7_untilRunning_r6))))) ++ wsX70 ++ wsX50 ++ wsX10 ++ wsX00 ++ wsX30 ++ wsX60)
def wsX7_ifTicked_r1 : List Cond := [Cond.fieldLink RX7 16 "JetStarts" "trial" "LJetStarts$State;", Cond.fieldLink RX7 10 "JetStarts" "now" "LJetStarts$State;", Cond.instanceMethod yX5_copyFrom, Cond.initialized RX5, Cond.selects RX5 yX5_copyFrom yX5_copyFrom, Cond.code yX5_copyFrom cX5_copyFrom 2 none, Cond.fieldLink RX5 12 "JetStarts$State" "jet" "LJetStarts$Engine;", Cond.fieldLink RX5 21 "JetStarts$State" "attempt" "LJetStarts$Attempt;", Cond.fieldLink RX5 28 "JetStarts$State" "log" "LJetStarts$Log;", Cond.fieldLink RX5 35 "JetStarts$State" "tally" "LJetStarts$Tally;", Cond.fieldLink RX5 52 "JetStarts$State" "ticks" "I", Cond.instanceMethod yX1_copyFrom, Cond.initialized RX1, Cond.selects RX1 yX1_copyFrom yX1_copyFrom, Cond.code yX1_copyFrom cX1_copyFrom 2 none, Cond.fieldLink RX1 9 "JetStarts$Engine" "settings" "[I", Cond.methodLink RX1 22 arraycopyName, Cond.native arraycopyName, Cond.static arraycopyName, Cond.initialized "java/lang/System", Cond.fieldLink RX1 28 "JetStarts$Engine" "speed" "I", Cond.fieldLink RX1 31 "JetStarts$Engine" "heat" "I", Cond.fieldLink RX1 34 "JetStarts$Engine" "step" "I", Cond.fieldLink RX1 37 "JetStarts$Engine" "pool" "I"]
def wsX7_ifTicked_r2 : List Cond := [Cond.fieldLink RX1 15 "JetStarts$Engine" "battery" "I", Cond.fieldLink RX1 40 "JetStarts$Engine" "hasSpark" "Z", Cond.fieldLink RX1 44 "JetStarts$Engine" "isCranking" "Z", Cond.fieldLink RX1 47 "JetStarts$Engine" "hasFlame" "Z", Cond.instanceMethod yX0_copyFrom, Cond.initialized RX0, Cond.selects RX0 yX0_copyFrom yX0_copyFrom, Cond.code yX0_copyFrom cX0_copyFrom 2 none, Cond.fieldLink RX0 9 "JetStarts$Attempt" "isUnderWay" "Z", Cond.fieldLink RX0 15 "JetStarts$Attempt" "ticks" "I", Cond.fieldLink RX0 19 "JetStarts$Attempt" "greatestHeat" "I", Cond.fieldLink RX0 22 "JetStarts$Attempt" "firstBattery" "I", Cond.fieldLink RX0 25 "JetStarts$Attempt" "stalledTicks" "I", Cond.instanceMethod yX3_copyFrom, Cond.initialized RX3, Cond.selects RX3 yX3_copyFrom yX3_copyFrom, Cond.code yX3_copyFrom cX3_copyFrom 2 none, Cond.fieldLink RX3 11 "JetStarts$Log" "numbers" "[I", Cond.methodLink RX3 15 arraycopyName, Cond.fieldLink RX3 21 "JetStarts$Log" "kept" "I", Cond.instanceMethod yX6_copyFrom, Cond.initialized RX6, Cond.selects RX6 yX6_copyFrom yX6_copyFrom, Cond.code yX6_copyFrom cX6_copyFrom 2 none]
def wsX7_ifTicked_r3 : List Cond := [Cond.fieldLink RX6 9 "JetStarts$Tally" "endings" "[I", Cond.methodLink RX6 15 arraycopyName, Cond.fieldLink RX6 21 "JetStarts$Tally" "hotTicks" "I", Cond.fieldLink RX6 25 "JetStarts$Tally" "runningTicks" "I", Cond.fieldLink RX6 28 "JetStarts$Tally" "newFlames" "I", Cond.fieldLink RX6 31 "JetStarts$Tally" "lostFlames" "I", Cond.fieldLink RX6 34 "JetStarts$Tally" "greatestHeat" "I", Cond.instanceMethod yX6_forgetHeat, Cond.selects RX6 yX6_forgetHeat yX6_forgetHeat, Cond.code yX6_forgetHeat cX6_forgetHeat 1 none, Cond.instanceMethod yX5_passTicks, Cond.selects RX5 yX5_passTicks yX5_passTicks, Cond.code yX5_passTicks cX5_passTicks 3 none, Cond.methodLink RX5 74 yX5_passTick, Cond.instanceMethod yX5_passTick, Cond.selects RX5 yX5_passTick yX5_passTick, Cond.code yX5_passTick cX5_passTick 3 none, Cond.instanceMethod yX1_passTick, Cond.selects RX1 yX1_passTick yX1_passTick, Cond.code yX1_passTick cX1_passTick 3 none, Cond.methodLink RX1 72 Lib.Math.min.name, Cond.static Lib.Math.min.name, Cond.initialized "java/lang/Math", Cond.code Lib.Math.min.name Lib.Math.min.code 2 (some .int)]
def wsX7_ifTicked_r4 : List Cond := [Cond.methodLink RX1 50 yX1_pushOfStarter, Cond.instanceMethod yX1_pushOfStarter, Cond.selects RX1 yX1_pushOfStarter yX1_pushOfStarter, Cond.code yX1_pushOfStarter cX1_pushOfStarter 2 (some .int), Cond.methodLink RX1 78 Lib.Math.max.name, Cond.static Lib.Math.max.name, Cond.code Lib.Math.max.name Lib.Math.max.code 2 (some .int), Cond.methodLink RX1 54 yX1_changeFlame, Cond.instanceMethod yX1_changeFlame, Cond.selects RX1 yX1_changeFlame yX1_changeFlame, Cond.code yX1_changeFlame cX1_changeFlame 3 none, Cond.methodLink RX1 57 yX1_burn, Cond.instanceMethod yX1_burn, Cond.selects RX1 yX1_burn yX1_burn, Cond.code yX1_burn cX1_burn 2 (some .int), Cond.methodLink RX1 60 yX1_changeSpeed, Cond.instanceMethod yX1_changeSpeed, Cond.selects RX1 yX1_changeSpeed yX1_changeSpeed, Cond.code yX1_changeSpeed cX1_changeSpeed 4 none, Cond.methodLink RX1 64 yX1_changeHeat, Cond.instanceMethod yX1_changeHeat, Cond.selects RX1 yX1_changeHeat yX1_changeHeat, Cond.code yX1_changeHeat cX1_changeHeat 4 none, Cond.methodLink RX1 68 yX1_runs]
def wsX7_ifTicked_r5 : List Cond := [Cond.instanceMethod yX1_runs, Cond.selects RX1 yX1_runs yX1_runs, Cond.code yX1_runs cX1_runs 1 (some .boolean), Cond.instanceMethod yX6_addTick, Cond.selects RX6 yX6_addTick yX6_addTick, Cond.code yX6_addTick cX6_addTick 3 none, Cond.methodLink RX6 57 Lib.Math.max.name, Cond.instanceMethod yX1_isHot, Cond.selects RX1 yX1_isHot yX1_isHot, Cond.code yX1_isHot cX1_isHot 1 (some .boolean), Cond.static yX7_oneIf, Cond.initialized RX7, Cond.code yX7_oneIf cX7_oneIf 1 (some .int), Cond.instanceMethod yX0_addTick, Cond.selects RX0 yX0_addTick yX0_addTick, Cond.code yX0_addTick cX0_addTick 3 none, Cond.methodLink RX0 33 Lib.Math.max.name, Cond.methodLink RX5 88 yX5_endAttemptIfOver, Cond.instanceMethod yX5_endAttemptIfOver, Cond.selects RX5 yX5_endAttemptIfOver yX5_endAttemptIfOver, Cond.code yX5_endAttemptIfOver cX5_endAttemptIfOver 2 none, Cond.instanceMethod yX0_endingWith, Cond.selects RX0 yX0_endingWith yX0_endingWith, Cond.code yX0_endingWith cX0_endingWith 2 (some .int)]
def wsX7_ifTicked_r6 : List Cond := [Cond.instanceMethod yX1_isSpent, Cond.selects RX1 yX1_isSpent yX1_isSpent, Cond.code yX1_isSpent cX1_isSpent 1 (some .boolean), Cond.instanceMethod yX3_add, Cond.selects RX3 yX3_add yX3_add, Cond.code yX3_add cX3_add 5 none, Cond.methodLink RX3 36 Lib.Math.min.name, Cond.instanceMethod yX6_addEnding, Cond.selects RX6 yX6_addEnding yX6_addEnding, Cond.code yX6_addEnding cX6_addEnding 2 none]
def wsX7_ifTicked : List Cond := .code yX7_ifTicked cX7_ifTicked 3 (some .int) :: ((wsX7_ifTicked_r1 ++ (wsX7_ifTicked_r2 ++ (wsX7_ifTicked_r3 ++ (wsX7_ifTicked_r4 ++ (wsX7_ifTicked_r5 ++ wsX7_ifTicked_r6))))) ++ wsX70 ++ wsX50 ++ wsX10 ++ wsX60 ++ wsX00 ++ wsX30)
def wsX7_bestFuel_r1 : List Cond := [Cond.fieldLink RX7 16 "JetStarts" "trial" "LJetStarts$State;", Cond.fieldLink RX7 10 "JetStarts" "now" "LJetStarts$State;", Cond.instanceMethod yX5_copyFrom, Cond.initialized RX5, Cond.selects RX5 yX5_copyFrom yX5_copyFrom, Cond.code yX5_copyFrom cX5_copyFrom 2 none, Cond.fieldLink RX5 12 "JetStarts$State" "jet" "LJetStarts$Engine;", Cond.fieldLink RX5 21 "JetStarts$State" "attempt" "LJetStarts$Attempt;", Cond.fieldLink RX5 28 "JetStarts$State" "log" "LJetStarts$Log;", Cond.fieldLink RX5 35 "JetStarts$State" "tally" "LJetStarts$Tally;", Cond.fieldLink RX5 52 "JetStarts$State" "ticks" "I", Cond.instanceMethod yX1_copyFrom, Cond.initialized RX1, Cond.selects RX1 yX1_copyFrom yX1_copyFrom, Cond.code yX1_copyFrom cX1_copyFrom 2 none, Cond.fieldLink RX1 9 "JetStarts$Engine" "settings" "[I", Cond.methodLink RX1 22 arraycopyName, Cond.native arraycopyName, Cond.static arraycopyName, Cond.initialized "java/lang/System", Cond.fieldLink RX1 28 "JetStarts$Engine" "speed" "I", Cond.fieldLink RX1 31 "JetStarts$Engine" "heat" "I", Cond.fieldLink RX1 34 "JetStarts$Engine" "step" "I", Cond.fieldLink RX1 37 "JetStarts$Engine" "pool" "I"]
def wsX7_bestFuel_r2 : List Cond := [Cond.fieldLink RX1 15 "JetStarts$Engine" "battery" "I", Cond.fieldLink RX1 40 "JetStarts$Engine" "hasSpark" "Z", Cond.fieldLink RX1 44 "JetStarts$Engine" "isCranking" "Z", Cond.fieldLink RX1 47 "JetStarts$Engine" "hasFlame" "Z", Cond.instanceMethod yX0_copyFrom, Cond.initialized RX0, Cond.selects RX0 yX0_copyFrom yX0_copyFrom, Cond.code yX0_copyFrom cX0_copyFrom 2 none, Cond.fieldLink RX0 9 "JetStarts$Attempt" "isUnderWay" "Z", Cond.fieldLink RX0 15 "JetStarts$Attempt" "ticks" "I", Cond.fieldLink RX0 19 "JetStarts$Attempt" "greatestHeat" "I", Cond.fieldLink RX0 22 "JetStarts$Attempt" "firstBattery" "I", Cond.fieldLink RX0 25 "JetStarts$Attempt" "stalledTicks" "I", Cond.instanceMethod yX3_copyFrom, Cond.initialized RX3, Cond.selects RX3 yX3_copyFrom yX3_copyFrom, Cond.code yX3_copyFrom cX3_copyFrom 2 none, Cond.fieldLink RX3 11 "JetStarts$Log" "numbers" "[I", Cond.methodLink RX3 15 arraycopyName, Cond.fieldLink RX3 21 "JetStarts$Log" "kept" "I", Cond.instanceMethod yX6_copyFrom, Cond.initialized RX6, Cond.selects RX6 yX6_copyFrom yX6_copyFrom, Cond.code yX6_copyFrom cX6_copyFrom 2 none]
def wsX7_bestFuel_r3 : List Cond := [Cond.fieldLink RX6 9 "JetStarts$Tally" "endings" "[I", Cond.methodLink RX6 15 arraycopyName, Cond.fieldLink RX6 21 "JetStarts$Tally" "hotTicks" "I", Cond.fieldLink RX6 25 "JetStarts$Tally" "runningTicks" "I", Cond.fieldLink RX6 28 "JetStarts$Tally" "newFlames" "I", Cond.fieldLink RX6 31 "JetStarts$Tally" "lostFlames" "I", Cond.fieldLink RX6 34 "JetStarts$Tally" "greatestHeat" "I", Cond.instanceMethod yX5_passTicksUntilRunning, Cond.selects RX5 yX5_passTicksUntilRunning yX5_passTicksUntilRunning, Cond.code yX5_passTicksUntilRunning cX5_passTicksUntilRunning 3 (some .int), Cond.methodLink RX5 74 yX5_passTick, Cond.instanceMethod yX5_passTick, Cond.selects RX5 yX5_passTick yX5_passTick, Cond.code yX5_passTick cX5_passTick 3 none, Cond.instanceMethod yX1_passTick, Cond.selects RX1 yX1_passTick yX1_passTick, Cond.code yX1_passTick cX1_passTick 3 none, Cond.methodLink RX1 72 Lib.Math.min.name, Cond.static Lib.Math.min.name, Cond.initialized "java/lang/Math", Cond.code Lib.Math.min.name Lib.Math.min.code 2 (some .int), Cond.methodLink RX1 50 yX1_pushOfStarter, Cond.instanceMethod yX1_pushOfStarter, Cond.selects RX1 yX1_pushOfStarter yX1_pushOfStarter]
def wsX7_bestFuel_r4 : List Cond := [Cond.code yX1_pushOfStarter cX1_pushOfStarter 2 (some .int), Cond.methodLink RX1 78 Lib.Math.max.name, Cond.static Lib.Math.max.name, Cond.code Lib.Math.max.name Lib.Math.max.code 2 (some .int), Cond.methodLink RX1 54 yX1_changeFlame, Cond.instanceMethod yX1_changeFlame, Cond.selects RX1 yX1_changeFlame yX1_changeFlame, Cond.code yX1_changeFlame cX1_changeFlame 3 none, Cond.methodLink RX1 57 yX1_burn, Cond.instanceMethod yX1_burn, Cond.selects RX1 yX1_burn yX1_burn, Cond.code yX1_burn cX1_burn 2 (some .int), Cond.methodLink RX1 60 yX1_changeSpeed, Cond.instanceMethod yX1_changeSpeed, Cond.selects RX1 yX1_changeSpeed yX1_changeSpeed, Cond.code yX1_changeSpeed cX1_changeSpeed 4 none, Cond.methodLink RX1 64 yX1_changeHeat, Cond.instanceMethod yX1_changeHeat, Cond.selects RX1 yX1_changeHeat yX1_changeHeat, Cond.code yX1_changeHeat cX1_changeHeat 4 none, Cond.methodLink RX1 68 yX1_runs, Cond.instanceMethod yX1_runs, Cond.selects RX1 yX1_runs yX1_runs, Cond.code yX1_runs cX1_runs 1 (some .boolean)]
def wsX7_bestFuel_r5 : List Cond := [Cond.instanceMethod yX6_addTick, Cond.selects RX6 yX6_addTick yX6_addTick, Cond.code yX6_addTick cX6_addTick 3 none, Cond.methodLink RX6 57 Lib.Math.max.name, Cond.instanceMethod yX1_isHot, Cond.selects RX1 yX1_isHot yX1_isHot, Cond.code yX1_isHot cX1_isHot 1 (some .boolean), Cond.static yX7_oneIf, Cond.initialized RX7, Cond.code yX7_oneIf cX7_oneIf 1 (some .int), Cond.instanceMethod yX0_addTick, Cond.selects RX0 yX0_addTick yX0_addTick, Cond.code yX0_addTick cX0_addTick 3 none, Cond.methodLink RX0 33 Lib.Math.max.name, Cond.methodLink RX5 88 yX5_endAttemptIfOver, Cond.instanceMethod yX5_endAttemptIfOver, Cond.selects RX5 yX5_endAttemptIfOver yX5_endAttemptIfOver, Cond.code yX5_endAttemptIfOver cX5_endAttemptIfOver 2 none, Cond.instanceMethod yX0_endingWith, Cond.selects RX0 yX0_endingWith yX0_endingWith, Cond.code yX0_endingWith cX0_endingWith 2 (some .int), Cond.instanceMethod yX1_isSpent, Cond.selects RX1 yX1_isSpent yX1_isSpent, Cond.code yX1_isSpent cX1_isSpent 1 (some .boolean)]
def wsX7_bestFuel_r6 : List Cond := [Cond.instanceMethod yX3_add, Cond.selects RX3 yX3_add yX3_add, Cond.code yX3_add cX3_add 5 none, Cond.methodLink RX3 36 Lib.Math.min.name, Cond.instanceMethod yX6_addEnding, Cond.selects RX6 yX6_addEnding yX6_addEnding, Cond.code yX6_addEnding cX6_addEnding 2 none]
def wsX7_bestFuel : List Cond := .code yX7_bestFuel cX7_bestFuel 5 (some .int) :: ((wsX7_bestFuel_r1 ++ (wsX7_bestFuel_r2 ++ (wsX7_bestFuel_r3 ++ (wsX7_bestFuel_r4 ++ (wsX7_bestFuel_r5 ++ wsX7_bestFuel_r6))))) ++ wsX70 ++ wsX50 ++ wsX10 ++ wsX00 ++ wsX30 ++ wsX60)
def wsX7_leastBattery_r1 : List Cond := [Cond.fieldLink RX7 16 "JetStarts" "trial" "LJetStarts$State;", Cond.fieldLink RX7 10 "JetStarts" "now" "LJetStarts$State;", Cond.instanceMethod yX5_copyFrom, Cond.initialized RX5, Cond.selects RX5 yX5_copyFrom yX5_copyFrom, Cond.code yX5_copyFrom cX5_copyFrom 2 none, Cond.fieldLink RX5 12 "JetStarts$State" "jet" "LJetStarts$Engine;", Cond.fieldLink RX5 21 "JetStarts$State" "attempt" "LJetStarts$Attempt;", Cond.fieldLink RX5 28 "JetStarts$State" "log" "LJetStarts$Log;", Cond.fieldLink RX5 35 "JetStarts$State" "tally" "LJetStarts$Tally;", Cond.fieldLink RX5 52 "JetStarts$State" "ticks" "I", Cond.instanceMethod yX1_copyFrom, Cond.initialized RX1, Cond.selects RX1 yX1_copyFrom yX1_copyFrom, Cond.code yX1_copyFrom cX1_copyFrom 2 none, Cond.fieldLink RX1 9 "JetStarts$Engine" "settings" "[I", Cond.methodLink RX1 22 arraycopyName, Cond.native arraycopyName, Cond.static arraycopyName, Cond.initialized "java/lang/System", Cond.fieldLink RX1 28 "JetStarts$Engine" "speed" "I", Cond.fieldLink RX1 31 "JetStarts$Engine" "heat" "I", Cond.fieldLink RX1 34 "JetStarts$Engine" "step" "I", Cond.fieldLink RX1 37 "JetStarts$Engine" "pool" "I"]
def wsX7_leastBattery_r2 : List Cond := [Cond.fieldLink RX1 15 "JetStarts$Engine" "battery" "I", Cond.fieldLink RX1 40 "JetStarts$Engine" "hasSpark" "Z", Cond.fieldLink RX1 44 "JetStarts$Engine" "isCranking" "Z", Cond.fieldLink RX1 47 "JetStarts$Engine" "hasFlame" "Z", Cond.instanceMethod yX0_copyFrom, Cond.initialized RX0, Cond.selects RX0 yX0_copyFrom yX0_copyFrom, Cond.code yX0_copyFrom cX0_copyFrom 2 none, Cond.fieldLink RX0 9 "JetStarts$Attempt" "isUnderWay" "Z", Cond.fieldLink RX0 15 "JetStarts$Attempt" "ticks" "I", Cond.fieldLink RX0 19 "JetStarts$Attempt" "greatestHeat" "I", Cond.fieldLink RX0 22 "JetStarts$Attempt" "firstBattery" "I", Cond.fieldLink RX0 25 "JetStarts$Attempt" "stalledTicks" "I", Cond.instanceMethod yX3_copyFrom, Cond.initialized RX3, Cond.selects RX3 yX3_copyFrom yX3_copyFrom, Cond.code yX3_copyFrom cX3_copyFrom 2 none, Cond.fieldLink RX3 11 "JetStarts$Log" "numbers" "[I", Cond.methodLink RX3 15 arraycopyName, Cond.fieldLink RX3 21 "JetStarts$Log" "kept" "I", Cond.instanceMethod yX6_copyFrom, Cond.initialized RX6, Cond.selects RX6 yX6_copyFrom yX6_copyFrom, Cond.code yX6_copyFrom cX6_copyFrom 2 none]
def wsX7_leastBattery_r3 : List Cond := [Cond.fieldLink RX6 9 "JetStarts$Tally" "endings" "[I", Cond.methodLink RX6 15 arraycopyName, Cond.fieldLink RX6 21 "JetStarts$Tally" "hotTicks" "I", Cond.fieldLink RX6 25 "JetStarts$Tally" "runningTicks" "I", Cond.fieldLink RX6 28 "JetStarts$Tally" "newFlames" "I", Cond.fieldLink RX6 31 "JetStarts$Tally" "lostFlames" "I", Cond.fieldLink RX6 34 "JetStarts$Tally" "greatestHeat" "I", Cond.instanceMethod yX5_passTicksUntilRunning, Cond.selects RX5 yX5_passTicksUntilRunning yX5_passTicksUntilRunning, Cond.code yX5_passTicksUntilRunning cX5_passTicksUntilRunning 3 (some .int), Cond.methodLink RX5 74 yX5_passTick, Cond.instanceMethod yX5_passTick, Cond.selects RX5 yX5_passTick yX5_passTick, Cond.code yX5_passTick cX5_passTick 3 none, Cond.instanceMethod yX1_passTick, Cond.selects RX1 yX1_passTick yX1_passTick, Cond.code yX1_passTick cX1_passTick 3 none, Cond.methodLink RX1 72 Lib.Math.min.name, Cond.static Lib.Math.min.name, Cond.initialized "java/lang/Math", Cond.code Lib.Math.min.name Lib.Math.min.code 2 (some .int), Cond.methodLink RX1 50 yX1_pushOfStarter, Cond.instanceMethod yX1_pushOfStarter, Cond.selects RX1 yX1_pushOfStarter yX1_pushOfStarter]
def wsX7_leastBattery_r4 : List Cond := [Cond.code yX1_pushOfStarter cX1_pushOfStarter 2 (some .int), Cond.methodLink RX1 78 Lib.Math.max.name, Cond.static Lib.Math.max.name, Cond.code Lib.Math.max.name Lib.Math.max.code 2 (some .int), Cond.methodLink RX1 54 yX1_changeFlame, Cond.instanceMethod yX1_changeFlame, Cond.selects RX1 yX1_changeFlame yX1_changeFlame, Cond.code yX1_changeFlame cX1_changeFlame 3 none, Cond.methodLink RX1 57 yX1_burn, Cond.instanceMethod yX1_burn, Cond.selects RX1 yX1_burn yX1_burn, Cond.code yX1_burn cX1_burn 2 (some .int), Cond.methodLink RX1 60 yX1_changeSpeed, Cond.instanceMethod yX1_changeSpeed, Cond.selects RX1 yX1_changeSpeed yX1_changeSpeed, Cond.code yX1_changeSpeed cX1_changeSpeed 4 none, Cond.methodLink RX1 64 yX1_changeHeat, Cond.instanceMethod yX1_changeHeat, Cond.selects RX1 yX1_changeHeat yX1_changeHeat, Cond.code yX1_changeHeat cX1_changeHeat 4 none, Cond.methodLink RX1 68 yX1_runs, Cond.instanceMethod yX1_runs, Cond.selects RX1 yX1_runs yX1_runs, Cond.code yX1_runs cX1_runs 1 (some .boolean)]
def wsX7_leastBattery_r5 : List Cond := [Cond.instanceMethod yX6_addTick, Cond.selects RX6 yX6_addTick yX6_addTick, Cond.code yX6_addTick cX6_addTick 3 none, Cond.methodLink RX6 57 Lib.Math.max.name, Cond.instanceMethod yX1_isHot, Cond.selects RX1 yX1_isHot yX1_isHot, Cond.code yX1_isHot cX1_isHot 1 (some .boolean), Cond.static yX7_oneIf, Cond.initialized RX7, Cond.code yX7_oneIf cX7_oneIf 1 (some .int), Cond.instanceMethod yX0_addTick, Cond.selects RX0 yX0_addTick yX0_addTick, Cond.code yX0_addTick cX0_addTick 3 none, Cond.methodLink RX0 33 Lib.Math.max.name, Cond.methodLink RX5 88 yX5_endAttemptIfOver, Cond.instanceMethod yX5_endAttemptIfOver, Cond.selects RX5 yX5_endAttemptIfOver yX5_endAttemptIfOver, Cond.code yX5_endAttemptIfOver cX5_endAttemptIfOver 2 none, Cond.instanceMethod yX0_endingWith, Cond.selects RX0 yX0_endingWith yX0_endingWith, Cond.code yX0_endingWith cX0_endingWith 2 (some .int), Cond.instanceMethod yX1_isSpent, Cond.selects RX1 yX1_isSpent yX1_isSpent, Cond.code yX1_isSpent cX1_isSpent 1 (some .boolean)]
def wsX7_leastBattery_r6 : List Cond := [Cond.instanceMethod yX3_add, Cond.selects RX3 yX3_add yX3_add, Cond.code yX3_add cX3_add 5 none, Cond.methodLink RX3 36 Lib.Math.min.name, Cond.instanceMethod yX6_addEnding, Cond.selects RX6 yX6_addEnding yX6_addEnding, Cond.code yX6_addEnding cX6_addEnding 2 none]
def wsX7_leastBattery : List Cond := .code yX7_leastBattery cX7_leastBattery 2 (some .int) :: ((wsX7_leastBattery_r1 ++ (wsX7_leastBattery_r2 ++ (wsX7_leastBattery_r3 ++ (wsX7_leastBattery_r4 ++ (wsX7_leastBattery_r5 ++ wsX7_leastBattery_r6))))) ++ wsX70 ++ wsX50 ++ wsX10 ++ wsX00 ++ wsX30 ++ wsX60)
def wsX7_put : List Cond := .code yX7_put cX7_put 4 (some .int) :: ([.fieldLink RX7 37 "JetStarts" "pad" "LJetStarts$Pad;", .static yX4_charactersIn, .initialized RX4, .code yX4_charactersIn cX4_charactersIn 8 (some .int), .constantLong RX4 15 (255), .constantLong RX4 17 (33), .constantLong RX4 19 (126), .instanceMethod yX4_append, .selects RX4 yX4_append yX4_append, .code yX4_append cX4_append 5 none, .fieldLink RX4 21 "JetStarts$Pad" "length" "I", .fieldLink RX4 9 "JetStarts$Pad" "signs" "[C"] ++ wsX70 ++ wsX40)
def wsX7_wipe : List Cond := .code yX7_wipe cX7_wipe 2 (some .int) :: ([.fieldLink RX7 37 "JetStarts" "pad" "LJetStarts$Pad;"] ++ wsX70 ++ wsX40)
def wsX7_fault : List Cond := .code yX7_fault cX7_fault 1 (some .int) :: ([.fieldLink RX7 37 "JetStarts" "pad" "LJetStarts$Pad;", .instanceMethod yX4_firstFault, .initialized RX4, .selects RX4 yX4_firstFault yX4_firstFault, .code yX4_firstFault cX4_firstFault 3 (some .int), .fieldLink RX4 21 "JetStarts$Pad" "length" "I", .methodLink RX4 25 yX4_signAt, .instanceMethod yX4_signAt, .selects RX4 yX4_signAt yX4_signAt, .code yX4_signAt cX4_signAt 2 (some .char), .fieldLink RX4 9 "JetStarts$Pad" "signs" "[C", .methodLink RX4 33 yX4_placeBehind, .static yX4_placeBehind, .code yX4_placeBehind cX4_placeBehind 2 (some .int), .methodLink RX4 37 yX4_placeBehindDeedSign, .static yX4_placeBehindDeedSign, .code yX4_placeBehindDeedSign cX4_placeBehindDeedSign 1 (some .int), .methodLink RX4 29 yX4_isDigit, .static yX4_isDigit, .code yX4_isDigit cX4_isDigit 1 (some .boolean), .methodLink RX4 41 yX4_placeBehindEnd, .static yX4_placeBehindEnd, .code yX4_placeBehindEnd cX4_placeBehindEnd 1 (some .int)] ++ wsX70 ++ wsX40)
def wsX7_undo_r1 : List Cond := [Cond.fieldLink RX7 22 "JetStarts" "history" "LJetStarts$History;", Cond.fieldLink RX7 10 "JetStarts" "now" "LJetStarts$State;", Cond.instanceMethod yX2_takeLatest, Cond.initialized RX2, Cond.selects RX2 yX2_takeLatest yX2_takeLatest, Cond.code yX2_takeLatest cX2_takeLatest 2 none, Cond.fieldLink RX2 22 "JetStarts$History" "kept" "I", Cond.fieldLink RX2 11 "JetStarts$History" "states" "[LJetStarts$State;", Cond.fieldLink RX2 18 "JetStarts$History" "oldest" "I", Cond.instanceMethod yX5_copyFrom, Cond.initialized RX5, Cond.selects RX5 yX5_copyFrom yX5_copyFrom, Cond.code yX5_copyFrom cX5_copyFrom 2 none, Cond.fieldLink RX5 12 "JetStarts$State" "jet" "LJetStarts$Engine;", Cond.fieldLink RX5 21 "JetStarts$State" "attempt" "LJetStarts$Attempt;", Cond.fieldLink RX5 28 "JetStarts$State" "log" "LJetStarts$Log;", Cond.fieldLink RX5 35 "JetStarts$State" "tally" "LJetStarts$Tally;", Cond.fieldLink RX5 52 "JetStarts$State" "ticks" "I", Cond.instanceMethod yX1_copyFrom, Cond.initialized RX1, Cond.selects RX1 yX1_copyFrom yX1_copyFrom, Cond.code yX1_copyFrom cX1_copyFrom 2 none, Cond.fieldLink RX1 9 "JetStarts$Engine" "settings" "[I", Cond.methodLink RX1 22 arraycopyName]
def wsX7_undo_r2 : List Cond := [Cond.native arraycopyName, Cond.static arraycopyName, Cond.initialized "java/lang/System", Cond.fieldLink RX1 28 "JetStarts$Engine" "speed" "I", Cond.fieldLink RX1 31 "JetStarts$Engine" "heat" "I", Cond.fieldLink RX1 34 "JetStarts$Engine" "step" "I", Cond.fieldLink RX1 37 "JetStarts$Engine" "pool" "I", Cond.fieldLink RX1 15 "JetStarts$Engine" "battery" "I", Cond.fieldLink RX1 40 "JetStarts$Engine" "hasSpark" "Z", Cond.fieldLink RX1 44 "JetStarts$Engine" "isCranking" "Z", Cond.fieldLink RX1 47 "JetStarts$Engine" "hasFlame" "Z", Cond.instanceMethod yX0_copyFrom, Cond.initialized RX0, Cond.selects RX0 yX0_copyFrom yX0_copyFrom, Cond.code yX0_copyFrom cX0_copyFrom 2 none, Cond.fieldLink RX0 9 "JetStarts$Attempt" "isUnderWay" "Z", Cond.fieldLink RX0 15 "JetStarts$Attempt" "ticks" "I", Cond.fieldLink RX0 19 "JetStarts$Attempt" "greatestHeat" "I", Cond.fieldLink RX0 22 "JetStarts$Attempt" "firstBattery" "I", Cond.fieldLink RX0 25 "JetStarts$Attempt" "stalledTicks" "I", Cond.instanceMethod yX3_copyFrom, Cond.initialized RX3, Cond.selects RX3 yX3_copyFrom yX3_copyFrom, Cond.code yX3_copyFrom cX3_copyFrom 2 none]
def wsX7_undo_r3 : List Cond := [Cond.fieldLink RX3 11 "JetStarts$Log" "numbers" "[I", Cond.methodLink RX3 15 arraycopyName, Cond.fieldLink RX3 21 "JetStarts$Log" "kept" "I", Cond.instanceMethod yX6_copyFrom, Cond.initialized RX6, Cond.selects RX6 yX6_copyFrom yX6_copyFrom, Cond.code yX6_copyFrom cX6_copyFrom 2 none, Cond.fieldLink RX6 9 "JetStarts$Tally" "endings" "[I", Cond.methodLink RX6 15 arraycopyName, Cond.fieldLink RX6 21 "JetStarts$Tally" "hotTicks" "I", Cond.fieldLink RX6 25 "JetStarts$Tally" "runningTicks" "I", Cond.fieldLink RX6 28 "JetStarts$Tally" "newFlames" "I", Cond.fieldLink RX6 31 "JetStarts$Tally" "lostFlames" "I", Cond.fieldLink RX6 34 "JetStarts$Tally" "greatestHeat" "I"]
def wsX7_undo : List Cond := .code yX7_undo cX7_undo 1 (some .int) :: ((wsX7_undo_r1 ++ (wsX7_undo_r2 ++ wsX7_undo_r3)) ++ wsX70 ++ wsX20 ++ wsX50 ++ wsX10 ++ wsX00 ++ wsX30 ++ wsX60)
def wsX7_save_r1 : List Cond := [Cond.fieldLink RX7 26 "JetStarts" "slots" "[LJetStarts$State;", Cond.fieldLink RX7 10 "JetStarts" "now" "LJetStarts$State;", Cond.fieldLink RX7 30 "JetStarts" "isSaved" "[Z", Cond.instanceMethod yX5_copyFrom, Cond.initialized RX5, Cond.selects RX5 yX5_copyFrom yX5_copyFrom, Cond.code yX5_copyFrom cX5_copyFrom 2 none, Cond.fieldLink RX5 12 "JetStarts$State" "jet" "LJetStarts$Engine;", Cond.fieldLink RX5 21 "JetStarts$State" "attempt" "LJetStarts$Attempt;", Cond.fieldLink RX5 28 "JetStarts$State" "log" "LJetStarts$Log;", Cond.fieldLink RX5 35 "JetStarts$State" "tally" "LJetStarts$Tally;", Cond.fieldLink RX5 52 "JetStarts$State" "ticks" "I", Cond.instanceMethod yX1_copyFrom, Cond.initialized RX1, Cond.selects RX1 yX1_copyFrom yX1_copyFrom, Cond.code yX1_copyFrom cX1_copyFrom 2 none, Cond.fieldLink RX1 9 "JetStarts$Engine" "settings" "[I", Cond.methodLink RX1 22 arraycopyName, Cond.native arraycopyName, Cond.static arraycopyName, Cond.initialized "java/lang/System", Cond.fieldLink RX1 28 "JetStarts$Engine" "speed" "I", Cond.fieldLink RX1 31 "JetStarts$Engine" "heat" "I", Cond.fieldLink RX1 34 "JetStarts$Engine" "step" "I"]
def wsX7_save_r2 : List Cond := [Cond.fieldLink RX1 37 "JetStarts$Engine" "pool" "I", Cond.fieldLink RX1 15 "JetStarts$Engine" "battery" "I", Cond.fieldLink RX1 40 "JetStarts$Engine" "hasSpark" "Z", Cond.fieldLink RX1 44 "JetStarts$Engine" "isCranking" "Z", Cond.fieldLink RX1 47 "JetStarts$Engine" "hasFlame" "Z", Cond.instanceMethod yX0_copyFrom, Cond.initialized RX0, Cond.selects RX0 yX0_copyFrom yX0_copyFrom, Cond.code yX0_copyFrom cX0_copyFrom 2 none, Cond.fieldLink RX0 9 "JetStarts$Attempt" "isUnderWay" "Z", Cond.fieldLink RX0 15 "JetStarts$Attempt" "ticks" "I", Cond.fieldLink RX0 19 "JetStarts$Attempt" "greatestHeat" "I", Cond.fieldLink RX0 22 "JetStarts$Attempt" "firstBattery" "I", Cond.fieldLink RX0 25 "JetStarts$Attempt" "stalledTicks" "I", Cond.instanceMethod yX3_copyFrom, Cond.initialized RX3, Cond.selects RX3 yX3_copyFrom yX3_copyFrom, Cond.code yX3_copyFrom cX3_copyFrom 2 none, Cond.fieldLink RX3 11 "JetStarts$Log" "numbers" "[I", Cond.methodLink RX3 15 arraycopyName, Cond.fieldLink RX3 21 "JetStarts$Log" "kept" "I", Cond.instanceMethod yX6_copyFrom, Cond.initialized RX6, Cond.selects RX6 yX6_copyFrom yX6_copyFrom]
def wsX7_save_r3 : List Cond := [Cond.code yX6_copyFrom cX6_copyFrom 2 none, Cond.fieldLink RX6 9 "JetStarts$Tally" "endings" "[I", Cond.methodLink RX6 15 arraycopyName, Cond.fieldLink RX6 21 "JetStarts$Tally" "hotTicks" "I", Cond.fieldLink RX6 25 "JetStarts$Tally" "runningTicks" "I", Cond.fieldLink RX6 28 "JetStarts$Tally" "newFlames" "I", Cond.fieldLink RX6 31 "JetStarts$Tally" "lostFlames" "I", Cond.fieldLink RX6 34 "JetStarts$Tally" "greatestHeat" "I"]
def wsX7_save : List Cond := .code yX7_save cX7_save 2 (some .int) :: ((wsX7_save_r1 ++ (wsX7_save_r2 ++ wsX7_save_r3)) ++ wsX70 ++ wsX50 ++ wsX10 ++ wsX00 ++ wsX30 ++ wsX60)
def wsX7_restore_r1 : List Cond := [Cond.fieldLink RX7 30 "JetStarts" "isSaved" "[Z", Cond.fieldLink RX7 22 "JetStarts" "history" "LJetStarts$History;", Cond.fieldLink RX7 10 "JetStarts" "now" "LJetStarts$State;", Cond.fieldLink RX7 26 "JetStarts" "slots" "[LJetStarts$State;", Cond.instanceMethod yX2_keep, Cond.initialized RX2, Cond.selects RX2 yX2_keep yX2_keep, Cond.code yX2_keep cX2_keep 2 none, Cond.fieldLink RX2 11 "JetStarts$History" "states" "[LJetStarts$State;", Cond.fieldLink RX2 18 "JetStarts$History" "oldest" "I", Cond.fieldLink RX2 22 "JetStarts$History" "kept" "I", Cond.instanceMethod yX5_copyFrom, Cond.initialized RX5, Cond.selects RX5 yX5_copyFrom yX5_copyFrom, Cond.code yX5_copyFrom cX5_copyFrom 2 none, Cond.fieldLink RX5 12 "JetStarts$State" "jet" "LJetStarts$Engine;", Cond.fieldLink RX5 21 "JetStarts$State" "attempt" "LJetStarts$Attempt;", Cond.fieldLink RX5 28 "JetStarts$State" "log" "LJetStarts$Log;", Cond.fieldLink RX5 35 "JetStarts$State" "tally" "LJetStarts$Tally;", Cond.fieldLink RX5 52 "JetStarts$State" "ticks" "I", Cond.instanceMethod yX1_copyFrom, Cond.initialized RX1, Cond.selects RX1 yX1_copyFrom yX1_copyFrom, Cond.code yX1_copyFrom cX1_copyFrom 2 none]
def wsX7_restore_r2 : List Cond := [Cond.fieldLink RX1 9 "JetStarts$Engine" "settings" "[I", Cond.methodLink RX1 22 arraycopyName, Cond.native arraycopyName, Cond.static arraycopyName, Cond.initialized "java/lang/System", Cond.fieldLink RX1 28 "JetStarts$Engine" "speed" "I", Cond.fieldLink RX1 31 "JetStarts$Engine" "heat" "I", Cond.fieldLink RX1 34 "JetStarts$Engine" "step" "I", Cond.fieldLink RX1 37 "JetStarts$Engine" "pool" "I", Cond.fieldLink RX1 15 "JetStarts$Engine" "battery" "I", Cond.fieldLink RX1 40 "JetStarts$Engine" "hasSpark" "Z", Cond.fieldLink RX1 44 "JetStarts$Engine" "isCranking" "Z", Cond.fieldLink RX1 47 "JetStarts$Engine" "hasFlame" "Z", Cond.instanceMethod yX0_copyFrom, Cond.initialized RX0, Cond.selects RX0 yX0_copyFrom yX0_copyFrom, Cond.code yX0_copyFrom cX0_copyFrom 2 none, Cond.fieldLink RX0 9 "JetStarts$Attempt" "isUnderWay" "Z", Cond.fieldLink RX0 15 "JetStarts$Attempt" "ticks" "I", Cond.fieldLink RX0 19 "JetStarts$Attempt" "greatestHeat" "I", Cond.fieldLink RX0 22 "JetStarts$Attempt" "firstBattery" "I", Cond.fieldLink RX0 25 "JetStarts$Attempt" "stalledTicks" "I", Cond.instanceMethod yX3_copyFrom, Cond.initialized RX3]
def wsX7_restore_r3 : List Cond := [Cond.selects RX3 yX3_copyFrom yX3_copyFrom, Cond.code yX3_copyFrom cX3_copyFrom 2 none, Cond.fieldLink RX3 11 "JetStarts$Log" "numbers" "[I", Cond.methodLink RX3 15 arraycopyName, Cond.fieldLink RX3 21 "JetStarts$Log" "kept" "I", Cond.instanceMethod yX6_copyFrom, Cond.initialized RX6, Cond.selects RX6 yX6_copyFrom yX6_copyFrom, Cond.code yX6_copyFrom cX6_copyFrom 2 none, Cond.fieldLink RX6 9 "JetStarts$Tally" "endings" "[I", Cond.methodLink RX6 15 arraycopyName, Cond.fieldLink RX6 21 "JetStarts$Tally" "hotTicks" "I", Cond.fieldLink RX6 25 "JetStarts$Tally" "runningTicks" "I", Cond.fieldLink RX6 28 "JetStarts$Tally" "newFlames" "I", Cond.fieldLink RX6 31 "JetStarts$Tally" "lostFlames" "I", Cond.fieldLink RX6 34 "JetStarts$Tally" "greatestHeat" "I"]
def wsX7_restore : List Cond := .code yX7_restore cX7_restore 2 (some .int) :: ((wsX7_restore_r1 ++ (wsX7_restore_r2 ++ wsX7_restore_r3)) ++ wsX70 ++ wsX50 ++ wsX20 ++ wsX10 ++ wsX00 ++ wsX30 ++ wsX60)
def wsX8_init : List Cond := .code yX8_init cX8_init 1 none :: ([.methodLink RX8 1 objectInit, .instanceMethod objectInit, .code objectInit ⟨#[0xb1]⟩ 1 none, .arrayClass .int, .fieldLink RX8 7 "JetStartsModel" "s" "[I", .fieldLink RX8 13 "JetStartsModel" "spare" "[I", .fieldLink RX8 16 "JetStartsModel" "trial" "[I", .fieldLink RX8 19 "JetStartsModel" "before" "[I", .fieldLink RX8 22 "JetStartsModel" "saved" "[I", .arrayClass .boolean, .fieldLink RX8 25 "JetStartsModel" "isSaved" "[Z", .fieldLink RX8 29 "JetStartsModel" "read" "[I", .arrayClass .char, .fieldLink RX8 32 "JetStartsModel" "pad" "[C"] ++ wsX80)
def wsX8_in : List Cond := .code yX8_in cX8_in 3 (some .boolean) :: ([])
def wsX8_hold : List Cond := .code yX8_hold cX8_hold 2 none :: ([.fieldLink RX8 13 "JetStartsModel" "spare" "[I", .fieldLink RX8 7 "JetStartsModel" "s" "[I"] ++ wsX80)
def wsX8_recorded : List Cond := .code yX8_recorded cX8_recorded 3 (some .int) :: ([.fieldLink RX8 36 "JetStartsModel" "states" "I", .fieldLink RX8 19 "JetStartsModel" "before" "[I", .fieldLink RX8 13 "JetStartsModel" "spare" "[I"] ++ wsX80)
def wsX8_keepTrial : List Cond := .code yX8_keepTrial cX8_keepTrial 2 none :: ([.fieldLink RX8 16 "JetStartsModel" "trial" "[I", .fieldLink RX8 7 "JetStartsModel" "s" "[I"] ++ wsX80)
def wsX8_putBack : List Cond := .code yX8_putBack cX8_putBack 2 none :: ([.fieldLink RX8 7 "JetStartsModel" "s" "[I", .fieldLink RX8 16 "JetStartsModel" "trial" "[I"] ++ wsX80)
def wsX8_runsNow : List Cond := .code yX8_runsNow cX8_runsNow 1 (some .boolean) :: ([.fieldLink RX8 7 "JetStartsModel" "s" "[I"] ++ wsX80)
def wsX8_pushes : List Cond := .code yX8_pushes cX8_pushes 1 (some .int) :: ([.fieldLink RX8 7 "JetStartsModel" "s" "[I"] ++ wsX80)
def wsX8_flames : List Cond := .code yX8_flames cX8_flames 1 none :: ([.fieldLink RX8 7 "JetStartsModel" "s" "[I", .methodLink RX8 40 yX8_in, .static yX8_in, .initialized RX8, .code yX8_in cX8_in 3 (some .boolean)] ++ wsX80)
def wsX8_burns : List Cond := .code yX8_burns cX8_burns 2 (some .int) :: ([.fieldLink RX8 7 "JetStartsModel" "s" "[I"] ++ wsX80)
def wsX8_ends : List Cond := .code yX8_ends cX8_ends 3 none :: ([.fieldLink RX8 7 "JetStartsModel" "s" "[I"] ++ wsX80)
def wsX8_goesOn : List Cond := .code yX8_goesOn cX8_goesOn 3 none :: ([.fieldLink RX8 7 "JetStartsModel" "s" "[I", .methodLink RX8 44 yX8_ends, .instanceMethod yX8_ends, .selects RX8 yX8_ends yX8_ends, .initialized RX8, .code yX8_ends cX8_ends 3 none, .methodLink RX8 48 yX8_runsNow, .instanceMethod yX8_runsNow, .selects RX8 yX8_runsNow yX8_runsNow, .code yX8_runsNow cX8_runsNow 1 (some .boolean)] ++ wsX80)
def wsX8_ticksOnce_r1 : List Cond := [Cond.fieldLink RX8 7 "JetStartsModel" "s" "[I", Cond.methodLink RX8 52 yX8_pushes, Cond.instanceMethod yX8_pushes, Cond.selects RX8 yX8_pushes yX8_pushes, Cond.initialized RX8, Cond.code yX8_pushes cX8_pushes 1 (some .int), Cond.methodLink RX8 56 yX8_flames, Cond.instanceMethod yX8_flames, Cond.selects RX8 yX8_flames yX8_flames, Cond.code yX8_flames cX8_flames 1 none, Cond.methodLink RX8 40 yX8_in, Cond.static yX8_in, Cond.code yX8_in cX8_in 3 (some .boolean), Cond.methodLink RX8 59 yX8_burns, Cond.instanceMethod yX8_burns, Cond.selects RX8 yX8_burns yX8_burns, Cond.code yX8_burns cX8_burns 2 (some .int), Cond.methodLink RX8 48 yX8_runsNow, Cond.instanceMethod yX8_runsNow, Cond.selects RX8 yX8_runsNow yX8_runsNow, Cond.code yX8_runsNow cX8_runsNow 1 (some .boolean), Cond.methodLink RX8 62 yX8_goesOn, Cond.instanceMethod yX8_goesOn, Cond.selects RX8 yX8_goesOn yX8_goesOn]
def wsX8_ticksOnce_r2 : List Cond := [Cond.code yX8_goesOn cX8_goesOn 3 none, Cond.methodLink RX8 44 yX8_ends, Cond.instanceMethod yX8_ends, Cond.selects RX8 yX8_ends yX8_ends, Cond.code yX8_ends cX8_ends 3 none]
def wsX8_ticksOnce : List Cond := .code yX8_ticksOnce cX8_ticksOnce 9 none :: ((wsX8_ticksOnce_r1 ++ wsX8_ticksOnce_r2) ++ wsX80)
def wsX8_starts : List Cond := .code yX8_starts cX8_starts 2 (some .int) :: ([.fieldLink RX8 7 "JetStartsModel" "s" "[I"] ++ wsX80)
def wsX8_sparks : List Cond := .code yX8_sparks cX8_sparks 2 (some .int) :: ([.fieldLink RX8 7 "JetStartsModel" "s" "[I"] ++ wsX80)
def wsX8_fuels : List Cond := .code yX8_fuels cX8_fuels 3 (some .int) :: ([.fieldLink RX8 7 "JetStartsModel" "s" "[I", .methodLink RX8 40 yX8_in, .static yX8_in, .initialized RX8, .code yX8_in cX8_in 3 (some .boolean)] ++ wsX80)
def wsX8_passes_r1 : List Cond := [Cond.fieldLink RX8 7 "JetStartsModel" "s" "[I", Cond.constant RX8 66 (99999), Cond.methodLink RX8 40 yX8_in, Cond.static yX8_in, Cond.initialized RX8, Cond.code yX8_in cX8_in 3 (some .boolean), Cond.methodLink RX8 67 yX8_ticksOnce, Cond.instanceMethod yX8_ticksOnce, Cond.selects RX8 yX8_ticksOnce yX8_ticksOnce, Cond.code yX8_ticksOnce cX8_ticksOnce 9 none, Cond.methodLink RX8 52 yX8_pushes, Cond.instanceMethod yX8_pushes, Cond.selects RX8 yX8_pushes yX8_pushes, Cond.code yX8_pushes cX8_pushes 1 (some .int), Cond.methodLink RX8 56 yX8_flames, Cond.instanceMethod yX8_flames, Cond.selects RX8 yX8_flames yX8_flames, Cond.code yX8_flames cX8_flames 1 none, Cond.methodLink RX8 59 yX8_burns, Cond.instanceMethod yX8_burns, Cond.selects RX8 yX8_burns yX8_burns, Cond.code yX8_burns cX8_burns 2 (some .int), Cond.methodLink RX8 48 yX8_runsNow, Cond.instanceMethod yX8_runsNow]
def wsX8_passes_r2 : List Cond := [Cond.selects RX8 yX8_runsNow yX8_runsNow, Cond.code yX8_runsNow cX8_runsNow 1 (some .boolean), Cond.methodLink RX8 62 yX8_goesOn, Cond.instanceMethod yX8_goesOn, Cond.selects RX8 yX8_goesOn yX8_goesOn, Cond.code yX8_goesOn cX8_goesOn 3 none, Cond.methodLink RX8 44 yX8_ends, Cond.instanceMethod yX8_ends, Cond.selects RX8 yX8_ends yX8_ends, Cond.code yX8_ends cX8_ends 3 none]
def wsX8_passes : List Cond := .code yX8_passes cX8_passes 3 (some .int) :: ((wsX8_passes_r1 ++ wsX8_passes_r2) ++ wsX80)
def wsX8_isSetting : List Cond := .code yX8_isSetting cX8_isSetting 2 (some .boolean) :: ([.methodLink RX8 40 yX8_in, .static yX8_in, .initialized RX8, .code yX8_in cX8_in 3 (some .boolean)])
def wsX8_set : List Cond := .code yX8_set cX8_set 4 (some .int) :: ([.fieldLink RX8 7 "JetStartsModel" "s" "[I", .methodLink RX8 70 yX8_isSetting, .static yX8_isSetting, .initialized RX8, .code yX8_isSetting cX8_isSetting 2 (some .boolean), .methodLink RX8 40 yX8_in, .static yX8_in, .code yX8_in cX8_in 3 (some .boolean), .methodLink RX8 74 yX8_hold, .instanceMethod yX8_hold, .selects RX8 yX8_hold yX8_hold, .code yX8_hold cX8_hold 2 none, .fieldLink RX8 13 "JetStartsModel" "spare" "[I", .methodLink RX8 77 yX8_recorded, .instanceMethod yX8_recorded, .selects RX8 yX8_recorded yX8_recorded, .code yX8_recorded cX8_recorded 3 (some .int), .fieldLink RX8 36 "JetStartsModel" "states" "I", .fieldLink RX8 19 "JetStartsModel" "before" "[I"] ++ wsX80)
def wsX8_starter : List Cond := .code yX8_starter cX8_starter 2 (some .int) :: ([.methodLink RX8 74 yX8_hold, .instanceMethod yX8_hold, .selects RX8 yX8_hold yX8_hold, .initialized RX8, .code yX8_hold cX8_hold 2 none, .fieldLink RX8 13 "JetStartsModel" "spare" "[I", .fieldLink RX8 7 "JetStartsModel" "s" "[I", .methodLink RX8 81 yX8_starts, .instanceMethod yX8_starts, .selects RX8 yX8_starts yX8_starts, .code yX8_starts cX8_starts 2 (some .int), .methodLink RX8 77 yX8_recorded, .instanceMethod yX8_recorded, .selects RX8 yX8_recorded yX8_recorded, .code yX8_recorded cX8_recorded 3 (some .int), .fieldLink RX8 36 "JetStartsModel" "states" "I", .fieldLink RX8 19 "JetStartsModel" "before" "[I"] ++ wsX80)
def wsX8_spark : List Cond := .code yX8_spark cX8_spark 2 (some .int) :: ([.methodLink RX8 74 yX8_hold, .instanceMethod yX8_hold, .selects RX8 yX8_hold yX8_hold, .initialized RX8, .code yX8_hold cX8_hold 2 none, .fieldLink RX8 13 "JetStartsModel" "spare" "[I", .fieldLink RX8 7 "JetStartsModel" "s" "[I", .methodLink RX8 84 yX8_sparks, .instanceMethod yX8_sparks, .selects RX8 yX8_sparks yX8_sparks, .code yX8_sparks cX8_sparks 2 (some .int), .methodLink RX8 77 yX8_recorded, .instanceMethod yX8_recorded, .selects RX8 yX8_recorded yX8_recorded, .code yX8_recorded cX8_recorded 3 (some .int), .fieldLink RX8 36 "JetStartsModel" "states" "I", .fieldLink RX8 19 "JetStartsModel" "before" "[I"] ++ wsX80)
def wsX8_fuel : List Cond := .code yX8_fuel cX8_fuel 2 (some .int) :: ([.methodLink RX8 74 yX8_hold, .instanceMethod yX8_hold, .selects RX8 yX8_hold yX8_hold, .initialized RX8, .code yX8_hold cX8_hold 2 none, .fieldLink RX8 13 "JetStartsModel" "spare" "[I", .fieldLink RX8 7 "JetStartsModel" "s" "[I", .methodLink RX8 87 yX8_fuels, .instanceMethod yX8_fuels, .selects RX8 yX8_fuels yX8_fuels, .code yX8_fuels cX8_fuels 3 (some .int), .methodLink RX8 40 yX8_in, .static yX8_in, .code yX8_in cX8_in 3 (some .boolean), .methodLink RX8 77 yX8_recorded, .instanceMethod yX8_recorded, .selects RX8 yX8_recorded yX8_recorded, .code yX8_recorded cX8_recorded 3 (some .int), .fieldLink RX8 36 "JetStartsModel" "states" "I", .fieldLink RX8 19 "JetStartsModel" "before" "[I"] ++ wsX80)
def wsX8_drain : List Cond := .code yX8_drain cX8_drain 2 (some .int) :: ([.fieldLink RX8 7 "JetStartsModel" "s" "[I", .methodLink RX8 74 yX8_hold, .instanceMethod yX8_hold, .selects RX8 yX8_hold yX8_hold, .initialized RX8, .code yX8_hold cX8_hold 2 none, .fieldLink RX8 13 "JetStartsModel" "spare" "[I", .methodLink RX8 77 yX8_recorded, .instanceMethod yX8_recorded, .selects RX8 yX8_recorded yX8_recorded, .code yX8_recorded cX8_recorded 3 (some .int), .fieldLink RX8 36 "JetStartsModel" "states" "I", .fieldLink RX8 19 "JetStartsModel" "before" "[I"] ++ wsX80)
def wsX8_battery : List Cond := .code yX8_battery cX8_battery 3 (some .int) :: ([.fieldLink RX8 7 "JetStartsModel" "s" "[I", .methodLink RX8 40 yX8_in, .static yX8_in, .initialized RX8, .code yX8_in cX8_in 3 (some .boolean), .methodLink RX8 74 yX8_hold, .instanceMethod yX8_hold, .selects RX8 yX8_hold yX8_hold, .code yX8_hold cX8_hold 2 none, .fieldLink RX8 13 "JetStartsModel" "spare" "[I", .methodLink RX8 77 yX8_recorded, .instanceMethod yX8_recorded, .selects RX8 yX8_recorded yX8_recorded, .code yX8_recorded cX8_recorded 3 (some .int), .fieldLink RX8 36 "JetStartsModel" "states" "I", .fieldLink RX8 19 "JetStartsModel" "before" "[I"] ++ wsX80)
def wsX8_tick_r1 : List Cond := [Cond.methodLink RX8 74 yX8_hold, Cond.instanceMethod yX8_hold, Cond.selects RX8 yX8_hold yX8_hold, Cond.initialized RX8, Cond.code yX8_hold cX8_hold 2 none, Cond.fieldLink RX8 13 "JetStartsModel" "spare" "[I", Cond.fieldLink RX8 7 "JetStartsModel" "s" "[I", Cond.methodLink RX8 90 yX8_passes, Cond.instanceMethod yX8_passes, Cond.selects RX8 yX8_passes yX8_passes, Cond.code yX8_passes cX8_passes 3 (some .int), Cond.constant RX8 66 (99999), Cond.methodLink RX8 40 yX8_in, Cond.static yX8_in, Cond.code yX8_in cX8_in 3 (some .boolean), Cond.methodLink RX8 67 yX8_ticksOnce, Cond.instanceMethod yX8_ticksOnce, Cond.selects RX8 yX8_ticksOnce yX8_ticksOnce, Cond.code yX8_ticksOnce cX8_ticksOnce 9 none, Cond.methodLink RX8 52 yX8_pushes, Cond.instanceMethod yX8_pushes, Cond.selects RX8 yX8_pushes yX8_pushes, Cond.code yX8_pushes cX8_pushes 1 (some .int), Cond.methodLink RX8 56 yX8_flames]
def wsX8_tick_r2 : List Cond := [Cond.instanceMethod yX8_flames, Cond.selects RX8 yX8_flames yX8_flames, Cond.code yX8_flames cX8_flames 1 none, Cond.methodLink RX8 59 yX8_burns, Cond.instanceMethod yX8_burns, Cond.selects RX8 yX8_burns yX8_burns, Cond.code yX8_burns cX8_burns 2 (some .int), Cond.methodLink RX8 48 yX8_runsNow, Cond.instanceMethod yX8_runsNow, Cond.selects RX8 yX8_runsNow yX8_runsNow, Cond.code yX8_runsNow cX8_runsNow 1 (some .boolean), Cond.methodLink RX8 62 yX8_goesOn, Cond.instanceMethod yX8_goesOn, Cond.selects RX8 yX8_goesOn yX8_goesOn, Cond.code yX8_goesOn cX8_goesOn 3 none, Cond.methodLink RX8 44 yX8_ends, Cond.instanceMethod yX8_ends, Cond.selects RX8 yX8_ends yX8_ends, Cond.code yX8_ends cX8_ends 3 none, Cond.methodLink RX8 77 yX8_recorded, Cond.instanceMethod yX8_recorded, Cond.selects RX8 yX8_recorded yX8_recorded, Cond.code yX8_recorded cX8_recorded 3 (some .int), Cond.fieldLink RX8 36 "JetStartsModel" "states" "I"]
def wsX8_tick_r3 : List Cond := [Cond.fieldLink RX8 19 "JetStartsModel" "before" "[I"]
def wsX8_tick : List Cond := .code yX8_tick cX8_tick 2 (some .int) :: ((wsX8_tick_r1 ++ (wsX8_tick_r2 ++ wsX8_tick_r3)) ++ wsX80)
def wsX8_isSign : List Cond := .code yX8_isSign cX8_isSign 3 (some .boolean) :: ([.fieldLink RX8 93 "JetStartsModel" "at" "I", .fieldLink RX8 96 "JetStartsModel" "length" "I", .fieldLink RX8 32 "JetStartsModel" "pad" "[C"] ++ wsX80)
def wsX8_accepts : List Cond := .code yX8_accepts cX8_accepts 3 (some .boolean) :: ([.fieldLink RX8 93 "JetStartsModel" "at" "I", .methodLink RX8 99 yX8_isSign, .instanceMethod yX8_isSign, .selects RX8 yX8_isSign yX8_isSign, .initialized RX8, .code yX8_isSign cX8_isSign 3 (some .boolean), .fieldLink RX8 96 "JetStartsModel" "length" "I", .fieldLink RX8 32 "JetStartsModel" "pad" "[C"] ++ wsX80)
def wsX8_number : List Cond := .code yX8_number cX8_number 4 (some .boolean) :: ([.fieldLink RX8 103 "JetStartsModel" "deeds" "I", .fieldLink RX8 29 "JetStartsModel" "read" "[I", .fieldLink RX8 32 "JetStartsModel" "pad" "[C", .fieldLink RX8 93 "JetStartsModel" "at" "I", .methodLink RX8 99 yX8_isSign, .instanceMethod yX8_isSign, .selects RX8 yX8_isSign yX8_isSign, .initialized RX8, .code yX8_isSign cX8_isSign 3 (some .boolean), .fieldLink RX8 96 "JetStartsModel" "length" "I"] ++ wsX80)
def wsX8_readsDeed : List Cond := .code yX8_readsDeed cX8_readsDeed 2 (some .boolean) :: ([.fieldLink RX8 29 "JetStartsModel" "read" "[I", .fieldLink RX8 103 "JetStartsModel" "deeds" "I", .fieldLink RX8 93 "JetStartsModel" "at" "I", .fieldLink RX8 96 "JetStartsModel" "length" "I", .fieldLink RX8 32 "JetStartsModel" "pad" "[C", .methodLink RX8 106 yX8_accepts, .instanceMethod yX8_accepts, .selects RX8 yX8_accepts yX8_accepts, .initialized RX8, .code yX8_accepts cX8_accepts 3 (some .boolean), .methodLink RX8 99 yX8_isSign, .instanceMethod yX8_isSign, .selects RX8 yX8_isSign yX8_isSign, .code yX8_isSign cX8_isSign 3 (some .boolean), .methodLink RX8 110 yX8_number, .instanceMethod yX8_number, .selects RX8 yX8_number yX8_number, .code yX8_number cX8_number 4 (some .boolean)] ++ wsX80)
def wsX8_faultOf : List Cond := .code yX8_faultOf cX8_faultOf 2 (some .int) :: ([.fieldLink RX8 93 "JetStartsModel" "at" "I", .fieldLink RX8 103 "JetStartsModel" "deeds" "I", .fieldLink RX8 96 "JetStartsModel" "length" "I", .methodLink RX8 113 yX8_readsDeed, .instanceMethod yX8_readsDeed, .selects RX8 yX8_readsDeed yX8_readsDeed, .initialized RX8, .code yX8_readsDeed cX8_readsDeed 2 (some .boolean), .fieldLink RX8 29 "JetStartsModel" "read" "[I", .fieldLink RX8 32 "JetStartsModel" "pad" "[C", .methodLink RX8 106 yX8_accepts, .instanceMethod yX8_accepts, .selects RX8 yX8_accepts yX8_accepts, .code yX8_accepts cX8_accepts 3 (some .boolean), .methodLink RX8 99 yX8_isSign, .instanceMethod yX8_isSign, .selects RX8 yX8_isSign yX8_isSign, .code yX8_isSign cX8_isSign 3 (some .boolean), .methodLink RX8 110 yX8_number, .instanceMethod yX8_number, .selects RX8 yX8_number yX8_number, .code yX8_number cX8_number 4 (some .boolean)] ++ wsX80)
def wsX8_does_r1 : List Cond := [Cond.fieldLink RX8 29 "JetStartsModel" "read" "[I", Cond.fieldLink RX8 7 "JetStartsModel" "s" "[I", Cond.methodLink RX8 81 yX8_starts, Cond.instanceMethod yX8_starts, Cond.selects RX8 yX8_starts yX8_starts, Cond.initialized RX8, Cond.code yX8_starts cX8_starts 2 (some .int), Cond.methodLink RX8 84 yX8_sparks, Cond.instanceMethod yX8_sparks, Cond.selects RX8 yX8_sparks yX8_sparks, Cond.code yX8_sparks cX8_sparks 2 (some .int), Cond.methodLink RX8 87 yX8_fuels, Cond.instanceMethod yX8_fuels, Cond.selects RX8 yX8_fuels yX8_fuels, Cond.code yX8_fuels cX8_fuels 3 (some .int), Cond.methodLink RX8 40 yX8_in, Cond.static yX8_in, Cond.code yX8_in cX8_in 3 (some .boolean), Cond.methodLink RX8 90 yX8_passes, Cond.instanceMethod yX8_passes, Cond.selects RX8 yX8_passes yX8_passes, Cond.code yX8_passes cX8_passes 3 (some .int), Cond.constant RX8 66 (99999), Cond.methodLink RX8 67 yX8_ticksOnce]
def wsX8_does_r2 : List Cond := [Cond.instanceMethod yX8_ticksOnce, Cond.selects RX8 yX8_ticksOnce yX8_ticksOnce, Cond.code yX8_ticksOnce cX8_ticksOnce 9 none, Cond.methodLink RX8 52 yX8_pushes, Cond.instanceMethod yX8_pushes, Cond.selects RX8 yX8_pushes yX8_pushes, Cond.code yX8_pushes cX8_pushes 1 (some .int), Cond.methodLink RX8 56 yX8_flames, Cond.instanceMethod yX8_flames, Cond.selects RX8 yX8_flames yX8_flames, Cond.code yX8_flames cX8_flames 1 none, Cond.methodLink RX8 59 yX8_burns, Cond.instanceMethod yX8_burns, Cond.selects RX8 yX8_burns yX8_burns, Cond.code yX8_burns cX8_burns 2 (some .int), Cond.methodLink RX8 48 yX8_runsNow, Cond.instanceMethod yX8_runsNow, Cond.selects RX8 yX8_runsNow yX8_runsNow, Cond.code yX8_runsNow cX8_runsNow 1 (some .boolean), Cond.methodLink RX8 62 yX8_goesOn, Cond.instanceMethod yX8_goesOn, Cond.selects RX8 yX8_goesOn yX8_goesOn, Cond.code yX8_goesOn cX8_goesOn 3 none, Cond.methodLink RX8 44 yX8_ends]
def wsX8_does_r3 : List Cond := [Cond.instanceMethod yX8_ends, Cond.selects RX8 yX8_ends yX8_ends, Cond.code yX8_ends cX8_ends 3 none]
def wsX8_does : List Cond := .code yX8_does cX8_does 2 (some .int) :: ((wsX8_does_r1 ++ (wsX8_does_r2 ++ wsX8_does_r3)) ++ wsX80)
def wsX8_run_r1 : List Cond := [Cond.fieldLink RX8 103 "JetStartsModel" "deeds" "I", Cond.fieldLink RX8 96 "JetStartsModel" "length" "I", Cond.methodLink RX8 116 yX8_faultOf, Cond.instanceMethod yX8_faultOf, Cond.selects RX8 yX8_faultOf yX8_faultOf, Cond.initialized RX8, Cond.code yX8_faultOf cX8_faultOf 2 (some .int), Cond.fieldLink RX8 93 "JetStartsModel" "at" "I", Cond.methodLink RX8 113 yX8_readsDeed, Cond.instanceMethod yX8_readsDeed, Cond.selects RX8 yX8_readsDeed yX8_readsDeed, Cond.code yX8_readsDeed cX8_readsDeed 2 (some .boolean), Cond.fieldLink RX8 29 "JetStartsModel" "read" "[I", Cond.fieldLink RX8 32 "JetStartsModel" "pad" "[C", Cond.methodLink RX8 106 yX8_accepts, Cond.instanceMethod yX8_accepts, Cond.selects RX8 yX8_accepts yX8_accepts, Cond.code yX8_accepts cX8_accepts 3 (some .boolean), Cond.methodLink RX8 99 yX8_isSign, Cond.instanceMethod yX8_isSign, Cond.selects RX8 yX8_isSign yX8_isSign, Cond.code yX8_isSign cX8_isSign 3 (some .boolean), Cond.methodLink RX8 110 yX8_number, Cond.instanceMethod yX8_number]
def wsX8_run_r2 : List Cond := [Cond.selects RX8 yX8_number yX8_number, Cond.code yX8_number cX8_number 4 (some .boolean), Cond.methodLink RX8 74 yX8_hold, Cond.instanceMethod yX8_hold, Cond.selects RX8 yX8_hold yX8_hold, Cond.code yX8_hold cX8_hold 2 none, Cond.fieldLink RX8 13 "JetStartsModel" "spare" "[I", Cond.fieldLink RX8 7 "JetStartsModel" "s" "[I", Cond.methodLink RX8 119 yX8_does, Cond.instanceMethod yX8_does, Cond.selects RX8 yX8_does yX8_does, Cond.code yX8_does cX8_does 2 (some .int), Cond.methodLink RX8 81 yX8_starts, Cond.instanceMethod yX8_starts, Cond.selects RX8 yX8_starts yX8_starts, Cond.code yX8_starts cX8_starts 2 (some .int), Cond.methodLink RX8 84 yX8_sparks, Cond.instanceMethod yX8_sparks, Cond.selects RX8 yX8_sparks yX8_sparks, Cond.code yX8_sparks cX8_sparks 2 (some .int), Cond.methodLink RX8 87 yX8_fuels, Cond.instanceMethod yX8_fuels, Cond.selects RX8 yX8_fuels yX8_fuels, Cond.code yX8_fuels cX8_fuels 3 (some .int)]
def wsX8_run_r3 : List Cond := [Cond.methodLink RX8 40 yX8_in, Cond.static yX8_in, Cond.code yX8_in cX8_in 3 (some .boolean), Cond.methodLink RX8 90 yX8_passes, Cond.instanceMethod yX8_passes, Cond.selects RX8 yX8_passes yX8_passes, Cond.code yX8_passes cX8_passes 3 (some .int), Cond.constant RX8 66 (99999), Cond.methodLink RX8 67 yX8_ticksOnce, Cond.instanceMethod yX8_ticksOnce, Cond.selects RX8 yX8_ticksOnce yX8_ticksOnce, Cond.code yX8_ticksOnce cX8_ticksOnce 9 none, Cond.methodLink RX8 52 yX8_pushes, Cond.instanceMethod yX8_pushes, Cond.selects RX8 yX8_pushes yX8_pushes, Cond.code yX8_pushes cX8_pushes 1 (some .int), Cond.methodLink RX8 56 yX8_flames, Cond.instanceMethod yX8_flames, Cond.selects RX8 yX8_flames yX8_flames, Cond.code yX8_flames cX8_flames 1 none, Cond.methodLink RX8 59 yX8_burns, Cond.instanceMethod yX8_burns, Cond.selects RX8 yX8_burns yX8_burns, Cond.code yX8_burns cX8_burns 2 (some .int)]
def wsX8_run_r4 : List Cond := [Cond.methodLink RX8 48 yX8_runsNow, Cond.instanceMethod yX8_runsNow, Cond.selects RX8 yX8_runsNow yX8_runsNow, Cond.code yX8_runsNow cX8_runsNow 1 (some .boolean), Cond.methodLink RX8 62 yX8_goesOn, Cond.instanceMethod yX8_goesOn, Cond.selects RX8 yX8_goesOn yX8_goesOn, Cond.code yX8_goesOn cX8_goesOn 3 none, Cond.methodLink RX8 44 yX8_ends, Cond.instanceMethod yX8_ends, Cond.selects RX8 yX8_ends yX8_ends, Cond.code yX8_ends cX8_ends 3 none, Cond.methodLink RX8 77 yX8_recorded, Cond.instanceMethod yX8_recorded, Cond.selects RX8 yX8_recorded yX8_recorded, Cond.code yX8_recorded cX8_recorded 3 (some .int), Cond.fieldLink RX8 36 "JetStartsModel" "states" "I", Cond.fieldLink RX8 19 "JetStartsModel" "before" "[I"]
def wsX8_run : List Cond := .code yX8_run cX8_run 3 (some .int) :: ((wsX8_run_r1 ++ (wsX8_run_r2 ++ (wsX8_run_r3 ++ wsX8_run_r4))) ++ wsX80)
def wsX8_engine : List Cond := .code yX8_engine cX8_engine 2 (some .int) :: ([.fieldLink RX8 7 "JetStartsModel" "s" "[I", .methodLink RX8 40 yX8_in, .static yX8_in, .initialized RX8, .code yX8_in cX8_in 3 (some .boolean), .methodLink RX8 48 yX8_runsNow, .instanceMethod yX8_runsNow, .selects RX8 yX8_runsNow yX8_runsNow, .code yX8_runsNow cX8_runsNow 1 (some .boolean)] ++ wsX80)
def wsX8_start : List Cond := .code yX8_start cX8_start 3 (some .int) :: ([.fieldLink RX8 7 "JetStartsModel" "s" "[I", .methodLink RX8 40 yX8_in, .static yX8_in, .initialized RX8, .code yX8_in cX8_in 3 (some .boolean)] ++ wsX80)
def wsX8_count : List Cond := .code yX8_count cX8_count 2 (some .int) :: ([.fieldLink RX8 7 "JetStartsModel" "s" "[I", .fieldLink RX8 96 "JetStartsModel" "length" "I", .fieldLink RX8 36 "JetStartsModel" "states" "I", .methodLink RX8 40 yX8_in, .static yX8_in, .initialized RX8, .code yX8_in cX8_in 3 (some .boolean)] ++ wsX80)
def wsX8_runsIn_r1 : List Cond := [Cond.methodLink RX8 48 yX8_runsNow, Cond.instanceMethod yX8_runsNow, Cond.selects RX8 yX8_runsNow yX8_runsNow, Cond.initialized RX8, Cond.code yX8_runsNow cX8_runsNow 1 (some .boolean), Cond.fieldLink RX8 7 "JetStartsModel" "s" "[I", Cond.methodLink RX8 67 yX8_ticksOnce, Cond.instanceMethod yX8_ticksOnce, Cond.selects RX8 yX8_ticksOnce yX8_ticksOnce, Cond.code yX8_ticksOnce cX8_ticksOnce 9 none, Cond.methodLink RX8 52 yX8_pushes, Cond.instanceMethod yX8_pushes, Cond.selects RX8 yX8_pushes yX8_pushes, Cond.code yX8_pushes cX8_pushes 1 (some .int), Cond.methodLink RX8 56 yX8_flames, Cond.instanceMethod yX8_flames, Cond.selects RX8 yX8_flames yX8_flames, Cond.code yX8_flames cX8_flames 1 none, Cond.methodLink RX8 40 yX8_in, Cond.static yX8_in, Cond.code yX8_in cX8_in 3 (some .boolean), Cond.methodLink RX8 59 yX8_burns, Cond.instanceMethod yX8_burns, Cond.selects RX8 yX8_burns yX8_burns]
def wsX8_runsIn_r2 : List Cond := [Cond.code yX8_burns cX8_burns 2 (some .int), Cond.methodLink RX8 62 yX8_goesOn, Cond.instanceMethod yX8_goesOn, Cond.selects RX8 yX8_goesOn yX8_goesOn, Cond.code yX8_goesOn cX8_goesOn 3 none, Cond.methodLink RX8 44 yX8_ends, Cond.instanceMethod yX8_ends, Cond.selects RX8 yX8_ends yX8_ends, Cond.code yX8_ends cX8_ends 3 none]
def wsX8_runsIn : List Cond := .code yX8_runsIn cX8_runsIn 2 (some .int) :: ((wsX8_runsIn_r1 ++ wsX8_runsIn_r2) ++ wsX80)
def wsX8_untilRunning_r1 : List Cond := [Cond.methodLink RX8 122 yX8_keepTrial, Cond.instanceMethod yX8_keepTrial, Cond.selects RX8 yX8_keepTrial yX8_keepTrial, Cond.initialized RX8, Cond.code yX8_keepTrial cX8_keepTrial 2 none, Cond.fieldLink RX8 16 "JetStartsModel" "trial" "[I", Cond.fieldLink RX8 7 "JetStartsModel" "s" "[I", Cond.methodLink RX8 125 yX8_runsIn, Cond.instanceMethod yX8_runsIn, Cond.selects RX8 yX8_runsIn yX8_runsIn, Cond.code yX8_runsIn cX8_runsIn 2 (some .int), Cond.methodLink RX8 48 yX8_runsNow, Cond.instanceMethod yX8_runsNow, Cond.selects RX8 yX8_runsNow yX8_runsNow, Cond.code yX8_runsNow cX8_runsNow 1 (some .boolean), Cond.methodLink RX8 67 yX8_ticksOnce, Cond.instanceMethod yX8_ticksOnce, Cond.selects RX8 yX8_ticksOnce yX8_ticksOnce, Cond.code yX8_ticksOnce cX8_ticksOnce 9 none, Cond.methodLink RX8 52 yX8_pushes, Cond.instanceMethod yX8_pushes, Cond.selects RX8 yX8_pushes yX8_pushes, Cond.code yX8_pushes cX8_pushes 1 (some .int), Cond.methodLink RX8 56 yX8_flames]
def wsX8_untilRunning_r2 : List Cond := [Cond.instanceMethod yX8_flames, Cond.selects RX8 yX8_flames yX8_flames, Cond.code yX8_flames cX8_flames 1 none, Cond.methodLink RX8 40 yX8_in, Cond.static yX8_in, Cond.code yX8_in cX8_in 3 (some .boolean), Cond.methodLink RX8 59 yX8_burns, Cond.instanceMethod yX8_burns, Cond.selects RX8 yX8_burns yX8_burns, Cond.code yX8_burns cX8_burns 2 (some .int), Cond.methodLink RX8 62 yX8_goesOn, Cond.instanceMethod yX8_goesOn, Cond.selects RX8 yX8_goesOn yX8_goesOn, Cond.code yX8_goesOn cX8_goesOn 3 none, Cond.methodLink RX8 44 yX8_ends, Cond.instanceMethod yX8_ends, Cond.selects RX8 yX8_ends yX8_ends, Cond.code yX8_ends cX8_ends 3 none, Cond.methodLink RX8 128 yX8_putBack, Cond.instanceMethod yX8_putBack, Cond.selects RX8 yX8_putBack yX8_putBack, Cond.code yX8_putBack cX8_putBack 2 none]
def wsX8_untilRunning : List Cond := .code yX8_untilRunning cX8_untilRunning 2 (some .int) :: ((wsX8_untilRunning_r1 ++ wsX8_untilRunning_r2) ++ wsX80)
def wsX8_ifTicked_r1 : List Cond := [Cond.fieldLink RX8 7 "JetStartsModel" "s" "[I", Cond.fieldLink RX8 16 "JetStartsModel" "trial" "[I", Cond.methodLink RX8 40 yX8_in, Cond.static yX8_in, Cond.initialized RX8, Cond.code yX8_in cX8_in 3 (some .boolean), Cond.methodLink RX8 122 yX8_keepTrial, Cond.instanceMethod yX8_keepTrial, Cond.selects RX8 yX8_keepTrial yX8_keepTrial, Cond.code yX8_keepTrial cX8_keepTrial 2 none, Cond.methodLink RX8 67 yX8_ticksOnce, Cond.instanceMethod yX8_ticksOnce, Cond.selects RX8 yX8_ticksOnce yX8_ticksOnce, Cond.code yX8_ticksOnce cX8_ticksOnce 9 none, Cond.methodLink RX8 52 yX8_pushes, Cond.instanceMethod yX8_pushes, Cond.selects RX8 yX8_pushes yX8_pushes, Cond.code yX8_pushes cX8_pushes 1 (some .int), Cond.methodLink RX8 56 yX8_flames, Cond.instanceMethod yX8_flames, Cond.selects RX8 yX8_flames yX8_flames, Cond.code yX8_flames cX8_flames 1 none, Cond.methodLink RX8 59 yX8_burns, Cond.instanceMethod yX8_burns]
def wsX8_ifTicked_r2 : List Cond := [Cond.selects RX8 yX8_burns yX8_burns, Cond.code yX8_burns cX8_burns 2 (some .int), Cond.methodLink RX8 48 yX8_runsNow, Cond.instanceMethod yX8_runsNow, Cond.selects RX8 yX8_runsNow yX8_runsNow, Cond.code yX8_runsNow cX8_runsNow 1 (some .boolean), Cond.methodLink RX8 62 yX8_goesOn, Cond.instanceMethod yX8_goesOn, Cond.selects RX8 yX8_goesOn yX8_goesOn, Cond.code yX8_goesOn cX8_goesOn 3 none, Cond.methodLink RX8 44 yX8_ends, Cond.instanceMethod yX8_ends, Cond.selects RX8 yX8_ends yX8_ends, Cond.code yX8_ends cX8_ends 3 none, Cond.methodLink RX8 128 yX8_putBack, Cond.instanceMethod yX8_putBack, Cond.selects RX8 yX8_putBack yX8_putBack, Cond.code yX8_putBack cX8_putBack 2 none]
def wsX8_ifTicked : List Cond := .code yX8_ifTicked cX8_ifTicked 5 (some .int) :: ((wsX8_ifTicked_r1 ++ wsX8_ifTicked_r2) ++ wsX80)
def wsX8_bestFuel_r1 : List Cond := [Cond.fieldLink RX8 7 "JetStartsModel" "s" "[I", Cond.fieldLink RX8 16 "JetStartsModel" "trial" "[I", Cond.methodLink RX8 122 yX8_keepTrial, Cond.instanceMethod yX8_keepTrial, Cond.selects RX8 yX8_keepTrial yX8_keepTrial, Cond.initialized RX8, Cond.code yX8_keepTrial cX8_keepTrial 2 none, Cond.methodLink RX8 125 yX8_runsIn, Cond.instanceMethod yX8_runsIn, Cond.selects RX8 yX8_runsIn yX8_runsIn, Cond.code yX8_runsIn cX8_runsIn 2 (some .int), Cond.methodLink RX8 48 yX8_runsNow, Cond.instanceMethod yX8_runsNow, Cond.selects RX8 yX8_runsNow yX8_runsNow, Cond.code yX8_runsNow cX8_runsNow 1 (some .boolean), Cond.methodLink RX8 67 yX8_ticksOnce, Cond.instanceMethod yX8_ticksOnce, Cond.selects RX8 yX8_ticksOnce yX8_ticksOnce, Cond.code yX8_ticksOnce cX8_ticksOnce 9 none, Cond.methodLink RX8 52 yX8_pushes, Cond.instanceMethod yX8_pushes, Cond.selects RX8 yX8_pushes yX8_pushes, Cond.code yX8_pushes cX8_pushes 1 (some .int), Cond.methodLink RX8 56 yX8_flames]
def wsX8_bestFuel_r2 : List Cond := [Cond.instanceMethod yX8_flames, Cond.selects RX8 yX8_flames yX8_flames, Cond.code yX8_flames cX8_flames 1 none, Cond.methodLink RX8 40 yX8_in, Cond.static yX8_in, Cond.code yX8_in cX8_in 3 (some .boolean), Cond.methodLink RX8 59 yX8_burns, Cond.instanceMethod yX8_burns, Cond.selects RX8 yX8_burns yX8_burns, Cond.code yX8_burns cX8_burns 2 (some .int), Cond.methodLink RX8 62 yX8_goesOn, Cond.instanceMethod yX8_goesOn, Cond.selects RX8 yX8_goesOn yX8_goesOn, Cond.code yX8_goesOn cX8_goesOn 3 none, Cond.methodLink RX8 44 yX8_ends, Cond.instanceMethod yX8_ends, Cond.selects RX8 yX8_ends yX8_ends, Cond.code yX8_ends cX8_ends 3 none, Cond.methodLink RX8 128 yX8_putBack, Cond.instanceMethod yX8_putBack, Cond.selects RX8 yX8_putBack yX8_putBack, Cond.code yX8_putBack cX8_putBack 2 none]
def wsX8_bestFuel : List Cond := .code yX8_bestFuel cX8_bestFuel 6 (some .int) :: ((wsX8_bestFuel_r1 ++ wsX8_bestFuel_r2) ++ wsX80)
def wsX8_leastBattery_r1 : List Cond := [Cond.fieldLink RX8 7 "JetStartsModel" "s" "[I", Cond.methodLink RX8 122 yX8_keepTrial, Cond.instanceMethod yX8_keepTrial, Cond.selects RX8 yX8_keepTrial yX8_keepTrial, Cond.initialized RX8, Cond.code yX8_keepTrial cX8_keepTrial 2 none, Cond.fieldLink RX8 16 "JetStartsModel" "trial" "[I", Cond.methodLink RX8 125 yX8_runsIn, Cond.instanceMethod yX8_runsIn, Cond.selects RX8 yX8_runsIn yX8_runsIn, Cond.code yX8_runsIn cX8_runsIn 2 (some .int), Cond.methodLink RX8 48 yX8_runsNow, Cond.instanceMethod yX8_runsNow, Cond.selects RX8 yX8_runsNow yX8_runsNow, Cond.code yX8_runsNow cX8_runsNow 1 (some .boolean), Cond.methodLink RX8 67 yX8_ticksOnce, Cond.instanceMethod yX8_ticksOnce, Cond.selects RX8 yX8_ticksOnce yX8_ticksOnce, Cond.code yX8_ticksOnce cX8_ticksOnce 9 none, Cond.methodLink RX8 52 yX8_pushes, Cond.instanceMethod yX8_pushes, Cond.selects RX8 yX8_pushes yX8_pushes, Cond.code yX8_pushes cX8_pushes 1 (some .int), Cond.methodLink RX8 56 yX8_flames]
def wsX8_leastBattery_r2 : List Cond := [Cond.instanceMethod yX8_flames, Cond.selects RX8 yX8_flames yX8_flames, Cond.code yX8_flames cX8_flames 1 none, Cond.methodLink RX8 40 yX8_in, Cond.static yX8_in, Cond.code yX8_in cX8_in 3 (some .boolean), Cond.methodLink RX8 59 yX8_burns, Cond.instanceMethod yX8_burns, Cond.selects RX8 yX8_burns yX8_burns, Cond.code yX8_burns cX8_burns 2 (some .int), Cond.methodLink RX8 62 yX8_goesOn, Cond.instanceMethod yX8_goesOn, Cond.selects RX8 yX8_goesOn yX8_goesOn, Cond.code yX8_goesOn cX8_goesOn 3 none, Cond.methodLink RX8 44 yX8_ends, Cond.instanceMethod yX8_ends, Cond.selects RX8 yX8_ends yX8_ends, Cond.code yX8_ends cX8_ends 3 none, Cond.methodLink RX8 128 yX8_putBack, Cond.instanceMethod yX8_putBack, Cond.selects RX8 yX8_putBack yX8_putBack, Cond.code yX8_putBack cX8_putBack 2 none]
def wsX8_leastBattery : List Cond := .code yX8_leastBattery cX8_leastBattery 3 (some .int) :: ((wsX8_leastBattery_r1 ++ wsX8_leastBattery_r2) ++ wsX80)
def wsX8_put : List Cond := .code yX8_put cX8_put 8 (some .int) :: ([.constantLong RX8 131 (255), .constantLong RX8 133 (33), .constantLong RX8 135 (126), .fieldLink RX8 96 "JetStartsModel" "length" "I", .fieldLink RX8 32 "JetStartsModel" "pad" "[C"] ++ wsX80)
def wsX8_wipe : List Cond := .code yX8_wipe cX8_wipe 2 (some .int) :: ([.fieldLink RX8 96 "JetStartsModel" "length" "I"] ++ wsX80)
def wsX8_fault_r1 : List Cond := [Cond.methodLink RX8 116 yX8_faultOf, Cond.instanceMethod yX8_faultOf, Cond.selects RX8 yX8_faultOf yX8_faultOf, Cond.initialized RX8, Cond.code yX8_faultOf cX8_faultOf 2 (some .int), Cond.fieldLink RX8 93 "JetStartsModel" "at" "I", Cond.fieldLink RX8 103 "JetStartsModel" "deeds" "I", Cond.fieldLink RX8 96 "JetStartsModel" "length" "I", Cond.methodLink RX8 113 yX8_readsDeed, Cond.instanceMethod yX8_readsDeed, Cond.selects RX8 yX8_readsDeed yX8_readsDeed, Cond.code yX8_readsDeed cX8_readsDeed 2 (some .boolean), Cond.fieldLink RX8 29 "JetStartsModel" "read" "[I", Cond.fieldLink RX8 32 "JetStartsModel" "pad" "[C", Cond.methodLink RX8 106 yX8_accepts, Cond.instanceMethod yX8_accepts, Cond.selects RX8 yX8_accepts yX8_accepts, Cond.code yX8_accepts cX8_accepts 3 (some .boolean), Cond.methodLink RX8 99 yX8_isSign, Cond.instanceMethod yX8_isSign, Cond.selects RX8 yX8_isSign yX8_isSign, Cond.code yX8_isSign cX8_isSign 3 (some .boolean), Cond.methodLink RX8 110 yX8_number, Cond.instanceMethod yX8_number]
def wsX8_fault_r2 : List Cond := [Cond.selects RX8 yX8_number yX8_number, Cond.code yX8_number cX8_number 4 (some .boolean)]
def wsX8_fault : List Cond := .code yX8_fault cX8_fault 2 (some .int) :: ((wsX8_fault_r1 ++ wsX8_fault_r2) ++ wsX80)
def wsX8_undo : List Cond := .code yX8_undo cX8_undo 2 (some .int) :: ([.fieldLink RX8 36 "JetStartsModel" "states" "I", .fieldLink RX8 7 "JetStartsModel" "s" "[I", .fieldLink RX8 19 "JetStartsModel" "before" "[I"] ++ wsX80)
def wsX8_save : List Cond := .code yX8_save cX8_save 3 (some .int) :: ([.fieldLink RX8 22 "JetStartsModel" "saved" "[I", .fieldLink RX8 7 "JetStartsModel" "s" "[I", .fieldLink RX8 25 "JetStartsModel" "isSaved" "[Z", .methodLink RX8 40 yX8_in, .static yX8_in, .initialized RX8, .code yX8_in cX8_in 3 (some .boolean)] ++ wsX80)
def wsX8_restore : List Cond := .code yX8_restore cX8_restore 3 (some .int) :: ([.fieldLink RX8 25 "JetStartsModel" "isSaved" "[Z", .fieldLink RX8 7 "JetStartsModel" "s" "[I", .fieldLink RX8 22 "JetStartsModel" "saved" "[I", .methodLink RX8 40 yX8_in, .static yX8_in, .initialized RX8, .code yX8_in cX8_in 3 (some .boolean), .methodLink RX8 74 yX8_hold, .instanceMethod yX8_hold, .selects RX8 yX8_hold yX8_hold, .code yX8_hold cX8_hold 2 none, .fieldLink RX8 13 "JetStartsModel" "spare" "[I", .methodLink RX8 77 yX8_recorded, .instanceMethod yX8_recorded, .selects RX8 yX8_recorded yX8_recorded, .code yX8_recorded cX8_recorded 3 (some .int), .fieldLink RX8 36 "JetStartsModel" "states" "I", .fieldLink RX8 19 "JetStartsModel" "before" "[I"] ++ wsX80)
def wsJ9_max_7cf53 : List Cond := .code yJ9_max_7cf53 cJ9_max_7cf53 2 (some .int) :: ([])
def wsJ9_min_7cf53 : List Cond := .code yJ9_min_7cf53 cJ9_min_7cf53 2 (some .int) :: ([])
def wsL_law_r1 : List Cond := [Cond.classLink RL 7 RX7, Cond.instantiable RX7 6, Cond.initialized RX7, Cond.classLink RL 10 RX8, Cond.instantiable RX8 12, Cond.initialized RX8, Cond.constantLong RL 77 (4294967295), Cond.methodLink RL 9 yX7_init, Cond.instanceMethod yX7_init, Cond.code yX7_init cX7_init 2 none, Cond.methodLink RX7 1 objectInit, Cond.instanceMethod objectInit, Cond.code objectInit ⟨#[0xb1]⟩ 1 none, Cond.classLink RX7 7 RX5, Cond.instantiable RX5 5, Cond.initialized RX5, Cond.fieldLink RX7 10 "JetStarts" "now" "LJetStarts$State;", Cond.fieldLink RX7 16 "JetStarts" "trial" "LJetStarts$State;", Cond.classLink RX7 19 RX2, Cond.instantiable RX2 3, Cond.initialized RX2, Cond.fieldLink RX7 22 "JetStarts" "history" "LJetStarts$History;", Cond.fieldLink RX7 26 "JetStarts" "slots" "[LJetStarts$State;", Cond.arrayClass .boolean]
def wsL_law_r2 : List Cond := [Cond.fieldLink RX7 30 "JetStarts" "isSaved" "[Z", Cond.classLink RX7 34 RX4, Cond.instantiable RX4 2, Cond.initialized RX4, Cond.fieldLink RX7 37 "JetStarts" "pad" "LJetStarts$Pad;", Cond.instanceMethod yX5_init, Cond.code yX5_init cX5_init 1 none, Cond.methodLink RX5 3 objectInit, Cond.classLink RX5 9 RX1, Cond.instantiable RX1 9, Cond.initialized RX1, Cond.fieldLink RX5 12 "JetStarts$State" "jet" "LJetStarts$Engine;", Cond.classLink RX5 18 RX0, Cond.instantiable RX0 5, Cond.initialized RX0, Cond.fieldLink RX5 21 "JetStarts$State" "attempt" "LJetStarts$Attempt;", Cond.classLink RX5 25 RX3, Cond.instantiable RX3 2, Cond.initialized RX3, Cond.fieldLink RX5 28 "JetStarts$State" "log" "LJetStarts$Log;", Cond.classLink RX5 32 RX6, Cond.instantiable RX6 6, Cond.initialized RX6, Cond.fieldLink RX5 35 "JetStarts$State" "tally" "LJetStarts$Tally;"]
def wsL_law_r3 : List Cond := [Cond.instanceMethod yX1_init, Cond.code yX1_init cX1_init 1 none, Cond.methodLink RX1 3 objectInit, Cond.arrayClass .int, Cond.fieldLink RX1 9 "JetStarts$Engine" "settings" "[I", Cond.fieldLink RX1 15 "JetStarts$Engine" "battery" "I", Cond.methodLink RX1 22 arraycopyName, Cond.native arraycopyName, Cond.static arraycopyName, Cond.initialized "java/lang/System", Cond.instanceMethod yX0_init, Cond.code yX0_init cX0_init 1 none, Cond.methodLink RX0 3 objectInit, Cond.instanceMethod yX3_init, Cond.code yX3_init cX3_init 1 none, Cond.methodLink RX3 3 objectInit, Cond.fieldLink RX3 11 "JetStarts$Log" "numbers" "[I", Cond.instanceMethod yX6_init, Cond.code yX6_init cX6_init 1 none, Cond.methodLink RX6 3 objectInit, Cond.fieldLink RX6 9 "JetStarts$Tally" "endings" "[I", Cond.instanceMethod yX2_init, Cond.code yX2_init cX2_init 2 none, Cond.methodLink RX2 3 objectInit]
def wsL_law_r4 : List Cond := [Cond.classLink RX2 9 RX5, Cond.fieldLink RX2 11 "JetStarts$History" "states" "[LJetStarts$State;", Cond.instanceMethod yX4_init, Cond.code yX4_init cX4_init 1 none, Cond.methodLink RX4 3 objectInit, Cond.arrayClass .char, Cond.fieldLink RX4 9 "JetStarts$Pad" "signs" "[C", Cond.methodLink RL 12 yX8_init, Cond.instanceMethod yX8_init, Cond.code yX8_init cX8_init 1 none, Cond.methodLink RX8 1 objectInit, Cond.fieldLink RX8 7 "JetStartsModel" "s" "[I", Cond.fieldLink RX8 13 "JetStartsModel" "spare" "[I", Cond.fieldLink RX8 16 "JetStartsModel" "trial" "[I", Cond.fieldLink RX8 19 "JetStartsModel" "before" "[I", Cond.fieldLink RX8 22 "JetStartsModel" "saved" "[I", Cond.fieldLink RX8 25 "JetStartsModel" "isSaved" "[Z", Cond.fieldLink RX8 29 "JetStartsModel" "read" "[I", Cond.fieldLink RX8 32 "JetStartsModel" "pad" "[C", Cond.methodLink RL 13 yX7_set, Cond.instanceMethod yX7_set, Cond.selects RX7 yX7_set yX7_set, Cond.code yX7_set cX7_set 4 (some .int), Cond.fieldLink RX7 41 "JetStarts" "LEAST_SETTINGS" "[I"]
def wsL_law_r5 : List Cond := [Cond.fieldLink RX7 45 "JetStarts" "MOST_SETTINGS" "[I", Cond.instanceMethod yX2_keep, Cond.selects RX2 yX2_keep yX2_keep, Cond.code yX2_keep cX2_keep 2 none, Cond.fieldLink RX2 18 "JetStarts$History" "oldest" "I", Cond.fieldLink RX2 22 "JetStarts$History" "kept" "I", Cond.instanceMethod yX5_copyFrom, Cond.selects RX5 yX5_copyFrom yX5_copyFrom, Cond.code yX5_copyFrom cX5_copyFrom 2 none, Cond.fieldLink RX5 52 "JetStarts$State" "ticks" "I", Cond.instanceMethod yX1_copyFrom, Cond.selects RX1 yX1_copyFrom yX1_copyFrom, Cond.code yX1_copyFrom cX1_copyFrom 2 none, Cond.fieldLink RX1 28 "JetStarts$Engine" "speed" "I", Cond.fieldLink RX1 31 "JetStarts$Engine" "heat" "I", Cond.fieldLink RX1 34 "JetStarts$Engine" "step" "I", Cond.fieldLink RX1 37 "JetStarts$Engine" "pool" "I", Cond.fieldLink RX1 40 "JetStarts$Engine" "hasSpark" "Z", Cond.fieldLink RX1 44 "JetStarts$Engine" "isCranking" "Z", Cond.fieldLink RX1 47 "JetStarts$Engine" "hasFlame" "Z", Cond.instanceMethod yX0_copyFrom, Cond.selects RX0 yX0_copyFrom yX0_copyFrom, Cond.code yX0_copyFrom cX0_copyFrom 2 none, Cond.fieldLink RX0 9 "JetStarts$Attempt" "isUnderWay" "Z"]
def wsL_law_r6 : List Cond := [Cond.fieldLink RX0 15 "JetStarts$Attempt" "ticks" "I", Cond.fieldLink RX0 19 "JetStarts$Attempt" "greatestHeat" "I", Cond.fieldLink RX0 22 "JetStarts$Attempt" "firstBattery" "I", Cond.fieldLink RX0 25 "JetStarts$Attempt" "stalledTicks" "I", Cond.instanceMethod yX3_copyFrom, Cond.selects RX3 yX3_copyFrom yX3_copyFrom, Cond.code yX3_copyFrom cX3_copyFrom 2 none, Cond.methodLink RX3 15 arraycopyName, Cond.fieldLink RX3 21 "JetStarts$Log" "kept" "I", Cond.instanceMethod yX6_copyFrom, Cond.selects RX6 yX6_copyFrom yX6_copyFrom, Cond.code yX6_copyFrom cX6_copyFrom 2 none, Cond.methodLink RX6 15 arraycopyName, Cond.fieldLink RX6 21 "JetStarts$Tally" "hotTicks" "I", Cond.fieldLink RX6 25 "JetStarts$Tally" "runningTicks" "I", Cond.fieldLink RX6 28 "JetStarts$Tally" "newFlames" "I", Cond.fieldLink RX6 31 "JetStarts$Tally" "lostFlames" "I", Cond.fieldLink RX6 34 "JetStarts$Tally" "greatestHeat" "I", Cond.methodLink RL 17 yX8_set, Cond.instanceMethod yX8_set, Cond.selects RX8 yX8_set yX8_set, Cond.code yX8_set cX8_set 4 (some .int), Cond.methodLink RX8 70 yX8_isSetting, Cond.static yX8_isSetting]
def wsL_law_r7 : List Cond := [Cond.code yX8_isSetting cX8_isSetting 2 (some .boolean), Cond.methodLink RX8 40 yX8_in, Cond.static yX8_in, Cond.code yX8_in cX8_in 3 (some .boolean), Cond.methodLink RX8 74 yX8_hold, Cond.instanceMethod yX8_hold, Cond.selects RX8 yX8_hold yX8_hold, Cond.code yX8_hold cX8_hold 2 none, Cond.methodLink RX8 77 yX8_recorded, Cond.instanceMethod yX8_recorded, Cond.selects RX8 yX8_recorded yX8_recorded, Cond.code yX8_recorded cX8_recorded 3 (some .int), Cond.fieldLink RX8 36 "JetStartsModel" "states" "I", Cond.methodLink RL 18 yX7_starter, Cond.instanceMethod yX7_starter, Cond.selects RX7 yX7_starter yX7_starter, Cond.code yX7_starter cX7_starter 2 (some .int), Cond.instanceMethod yX5_canTurnStarter, Cond.selects RX5 yX5_canTurnStarter yX5_canTurnStarter, Cond.code yX5_canTurnStarter cX5_canTurnStarter 2 (some .boolean), Cond.instanceMethod yX5_turnStarter, Cond.selects RX5 yX5_turnStarter yX5_turnStarter, Cond.code yX5_turnStarter cX5_turnStarter 2 none, Cond.instanceMethod yX0_begin]
def wsL_law_r8 : List Cond := [Cond.selects RX0 yX0_begin yX0_begin, Cond.code yX0_begin cX0_begin 2 none, Cond.methodLink RL 22 yX8_starter, Cond.instanceMethod yX8_starter, Cond.selects RX8 yX8_starter yX8_starter, Cond.code yX8_starter cX8_starter 2 (some .int), Cond.methodLink RX8 81 yX8_starts, Cond.instanceMethod yX8_starts, Cond.selects RX8 yX8_starts yX8_starts, Cond.code yX8_starts cX8_starts 2 (some .int), Cond.methodLink RL 23 yX7_spark, Cond.instanceMethod yX7_spark, Cond.selects RX7 yX7_spark yX7_spark, Cond.code yX7_spark cX7_spark 2 (some .int), Cond.methodLink RL 26 yX8_spark, Cond.instanceMethod yX8_spark, Cond.selects RX8 yX8_spark yX8_spark, Cond.code yX8_spark cX8_spark 2 (some .int), Cond.methodLink RX8 84 yX8_sparks, Cond.instanceMethod yX8_sparks, Cond.selects RX8 yX8_sparks yX8_sparks, Cond.code yX8_sparks cX8_sparks 2 (some .int), Cond.methodLink RL 27 yX7_fuel, Cond.instanceMethod yX7_fuel]
def wsL_law_r9 : List Cond := [Cond.selects RX7 yX7_fuel yX7_fuel, Cond.code yX7_fuel cX7_fuel 3 (some .int), Cond.methodLink RL 31 yX8_fuel, Cond.instanceMethod yX8_fuel, Cond.selects RX8 yX8_fuel yX8_fuel, Cond.code yX8_fuel cX8_fuel 2 (some .int), Cond.methodLink RX8 87 yX8_fuels, Cond.instanceMethod yX8_fuels, Cond.selects RX8 yX8_fuels yX8_fuels, Cond.code yX8_fuels cX8_fuels 3 (some .int), Cond.methodLink RL 32 yX7_drain, Cond.instanceMethod yX7_drain, Cond.selects RX7 yX7_drain yX7_drain, Cond.code yX7_drain cX7_drain 2 (some .int), Cond.methodLink RL 36 yX8_drain, Cond.instanceMethod yX8_drain, Cond.selects RX8 yX8_drain yX8_drain, Cond.code yX8_drain cX8_drain 2 (some .int), Cond.methodLink RL 37 yX7_battery, Cond.instanceMethod yX7_battery, Cond.selects RX7 yX7_battery yX7_battery, Cond.code yX7_battery cX7_battery 3 (some .int), Cond.methodLink RL 40 yX8_battery, Cond.instanceMethod yX8_battery]
def wsL_law_r10 : List Cond := [Cond.selects RX8 yX8_battery yX8_battery, Cond.code yX8_battery cX8_battery 3 (some .int), Cond.methodLink RL 41 yX7_tick, Cond.instanceMethod yX7_tick, Cond.selects RX7 yX7_tick yX7_tick, Cond.code yX7_tick cX7_tick 2 (some .int), Cond.instanceMethod yX5_hasRoomFor, Cond.selects RX5 yX5_hasRoomFor yX5_hasRoomFor, Cond.code yX5_hasRoomFor cX5_hasRoomFor 2 (some .boolean), Cond.constant RX5 56 (99999), Cond.instanceMethod yX5_passTicks, Cond.selects RX5 yX5_passTicks yX5_passTicks, Cond.code yX5_passTicks cX5_passTicks 3 none, Cond.methodLink RX5 74 yX5_passTick, Cond.instanceMethod yX5_passTick, Cond.selects RX5 yX5_passTick yX5_passTick, Cond.code yX5_passTick cX5_passTick 3 none, Cond.instanceMethod yX1_passTick, Cond.selects RX1 yX1_passTick yX1_passTick, Cond.code yX1_passTick cX1_passTick 3 none, Cond.methodLink RX1 72 Lib.Math.min.name, Cond.static Lib.Math.min.name, Cond.initialized "java/lang/Math", Cond.code Lib.Math.min.name Lib.Math.min.code 2 (some .int)]
def wsL_law_r11 : List Cond := [Cond.methodLink RX1 50 yX1_pushOfStarter, Cond.instanceMethod yX1_pushOfStarter, Cond.selects RX1 yX1_pushOfStarter yX1_pushOfStarter, Cond.code yX1_pushOfStarter cX1_pushOfStarter 2 (some .int), Cond.methodLink RX1 78 Lib.Math.max.name, Cond.static Lib.Math.max.name, Cond.code Lib.Math.max.name Lib.Math.max.code 2 (some .int), Cond.methodLink RX1 54 yX1_changeFlame, Cond.instanceMethod yX1_changeFlame, Cond.selects RX1 yX1_changeFlame yX1_changeFlame, Cond.code yX1_changeFlame cX1_changeFlame 3 none, Cond.methodLink RX1 57 yX1_burn, Cond.instanceMethod yX1_burn, Cond.selects RX1 yX1_burn yX1_burn, Cond.code yX1_burn cX1_burn 2 (some .int), Cond.methodLink RX1 60 yX1_changeSpeed, Cond.instanceMethod yX1_changeSpeed, Cond.selects RX1 yX1_changeSpeed yX1_changeSpeed, Cond.code yX1_changeSpeed cX1_changeSpeed 4 none, Cond.methodLink RX1 64 yX1_changeHeat, Cond.instanceMethod yX1_changeHeat, Cond.selects RX1 yX1_changeHeat yX1_changeHeat, Cond.code yX1_changeHeat cX1_changeHeat 4 none, Cond.methodLink RX1 68 yX1_runs]
def wsL_law_r12 : List Cond := [Cond.instanceMethod yX1_runs, Cond.selects RX1 yX1_runs yX1_runs, Cond.code yX1_runs cX1_runs 1 (some .boolean), Cond.instanceMethod yX6_addTick, Cond.selects RX6 yX6_addTick yX6_addTick, Cond.code yX6_addTick cX6_addTick 3 none, Cond.methodLink RX6 57 Lib.Math.max.name, Cond.instanceMethod yX1_isHot, Cond.selects RX1 yX1_isHot yX1_isHot, Cond.code yX1_isHot cX1_isHot 1 (some .boolean), Cond.static yX7_oneIf, Cond.code yX7_oneIf cX7_oneIf 1 (some .int), Cond.instanceMethod yX0_addTick, Cond.selects RX0 yX0_addTick yX0_addTick, Cond.code yX0_addTick cX0_addTick 3 none, Cond.methodLink RX0 33 Lib.Math.max.name, Cond.methodLink RX5 88 yX5_endAttemptIfOver, Cond.instanceMethod yX5_endAttemptIfOver, Cond.selects RX5 yX5_endAttemptIfOver yX5_endAttemptIfOver, Cond.code yX5_endAttemptIfOver cX5_endAttemptIfOver 2 none, Cond.instanceMethod yX0_endingWith, Cond.selects RX0 yX0_endingWith yX0_endingWith, Cond.code yX0_endingWith cX0_endingWith 2 (some .int), Cond.instanceMethod yX1_isSpent]
def wsL_law_r13 : List Cond := [Cond.selects RX1 yX1_isSpent yX1_isSpent, Cond.code yX1_isSpent cX1_isSpent 1 (some .boolean), Cond.instanceMethod yX3_add, Cond.selects RX3 yX3_add yX3_add, Cond.code yX3_add cX3_add 5 none, Cond.methodLink RX3 36 Lib.Math.min.name, Cond.instanceMethod yX6_addEnding, Cond.selects RX6 yX6_addEnding yX6_addEnding, Cond.code yX6_addEnding cX6_addEnding 2 none, Cond.methodLink RL 44 yX8_tick, Cond.instanceMethod yX8_tick, Cond.selects RX8 yX8_tick yX8_tick, Cond.code yX8_tick cX8_tick 2 (some .int), Cond.methodLink RX8 90 yX8_passes, Cond.instanceMethod yX8_passes, Cond.selects RX8 yX8_passes yX8_passes, Cond.code yX8_passes cX8_passes 3 (some .int), Cond.constant RX8 66 (99999), Cond.methodLink RX8 67 yX8_ticksOnce, Cond.instanceMethod yX8_ticksOnce, Cond.selects RX8 yX8_ticksOnce yX8_ticksOnce, Cond.code yX8_ticksOnce cX8_ticksOnce 9 none, Cond.methodLink RX8 52 yX8_pushes, Cond.instanceMethod yX8_pushes]
def wsL_law_r14 : List Cond := [Cond.selects RX8 yX8_pushes yX8_pushes, Cond.code yX8_pushes cX8_pushes 1 (some .int), Cond.methodLink RX8 56 yX8_flames, Cond.instanceMethod yX8_flames, Cond.selects RX8 yX8_flames yX8_flames, Cond.code yX8_flames cX8_flames 1 none, Cond.methodLink RX8 59 yX8_burns, Cond.instanceMethod yX8_burns, Cond.selects RX8 yX8_burns yX8_burns, Cond.code yX8_burns cX8_burns 2 (some .int), Cond.methodLink RX8 48 yX8_runsNow, Cond.instanceMethod yX8_runsNow, Cond.selects RX8 yX8_runsNow yX8_runsNow, Cond.code yX8_runsNow cX8_runsNow 1 (some .boolean), Cond.methodLink RX8 62 yX8_goesOn, Cond.instanceMethod yX8_goesOn, Cond.selects RX8 yX8_goesOn yX8_goesOn, Cond.code yX8_goesOn cX8_goesOn 3 none, Cond.methodLink RX8 44 yX8_ends, Cond.instanceMethod yX8_ends, Cond.selects RX8 yX8_ends yX8_ends, Cond.code yX8_ends cX8_ends 3 none, Cond.methodLink RL 45 yX7_run, Cond.instanceMethod yX7_run]
def wsL_law_r15 : List Cond := [Cond.selects RX7 yX7_run yX7_run, Cond.code yX7_run cX7_run 3 (some .int), Cond.instanceMethod yX4_firstFault, Cond.selects RX4 yX4_firstFault yX4_firstFault, Cond.code yX4_firstFault cX4_firstFault 3 (some .int), Cond.fieldLink RX4 21 "JetStarts$Pad" "length" "I", Cond.methodLink RX4 25 yX4_signAt, Cond.instanceMethod yX4_signAt, Cond.selects RX4 yX4_signAt yX4_signAt, Cond.code yX4_signAt cX4_signAt 2 (some .char), Cond.methodLink RX4 33 yX4_placeBehind, Cond.static yX4_placeBehind, Cond.code yX4_placeBehind cX4_placeBehind 2 (some .int), Cond.methodLink RX4 37 yX4_placeBehindDeedSign, Cond.static yX4_placeBehindDeedSign, Cond.code yX4_placeBehindDeedSign cX4_placeBehindDeedSign 1 (some .int), Cond.methodLink RX4 29 yX4_isDigit, Cond.static yX4_isDigit, Cond.code yX4_isDigit cX4_isDigit 1 (some .boolean), Cond.methodLink RX4 41 yX4_placeBehindEnd, Cond.static yX4_placeBehindEnd, Cond.code yX4_placeBehindEnd cX4_placeBehindEnd 1 (some .int), Cond.instanceMethod yX4_beginsDeed, Cond.selects RX4 yX4_beginsDeed yX4_beginsDeed]
def wsL_law_r16 : List Cond := [Cond.code yX4_beginsDeed cX4_beginsDeed 2 (some .boolean), Cond.instanceMethod yX4_numberFrom, Cond.selects RX4 yX4_numberFrom yX4_numberFrom, Cond.code yX4_numberFrom cX4_numberFrom 4 (some .int), Cond.methodLink RX7 115 yX7_doDeed, Cond.instanceMethod yX7_doDeed, Cond.selects RX7 yX7_doDeed yX7_doDeed, Cond.code yX7_doDeed cX7_doDeed 4 (some .boolean), Cond.methodLink RL 48 yX8_run, Cond.instanceMethod yX8_run, Cond.selects RX8 yX8_run yX8_run, Cond.code yX8_run cX8_run 3 (some .int), Cond.fieldLink RX8 103 "JetStartsModel" "deeds" "I", Cond.fieldLink RX8 96 "JetStartsModel" "length" "I", Cond.methodLink RX8 116 yX8_faultOf, Cond.instanceMethod yX8_faultOf, Cond.selects RX8 yX8_faultOf yX8_faultOf, Cond.code yX8_faultOf cX8_faultOf 2 (some .int), Cond.fieldLink RX8 93 "JetStartsModel" "at" "I", Cond.methodLink RX8 113 yX8_readsDeed, Cond.instanceMethod yX8_readsDeed, Cond.selects RX8 yX8_readsDeed yX8_readsDeed, Cond.code yX8_readsDeed cX8_readsDeed 2 (some .boolean), Cond.methodLink RX8 106 yX8_accepts]
def wsL_law_r17 : List Cond := [Cond.instanceMethod yX8_accepts, Cond.selects RX8 yX8_accepts yX8_accepts, Cond.code yX8_accepts cX8_accepts 3 (some .boolean), Cond.methodLink RX8 99 yX8_isSign, Cond.instanceMethod yX8_isSign, Cond.selects RX8 yX8_isSign yX8_isSign, Cond.code yX8_isSign cX8_isSign 3 (some .boolean), Cond.methodLink RX8 110 yX8_number, Cond.instanceMethod yX8_number, Cond.selects RX8 yX8_number yX8_number, Cond.code yX8_number cX8_number 4 (some .boolean), Cond.methodLink RX8 119 yX8_does, Cond.instanceMethod yX8_does, Cond.selects RX8 yX8_does yX8_does, Cond.code yX8_does cX8_does 2 (some .int), Cond.methodLink RL 49 yX7_engine, Cond.instanceMethod yX7_engine, Cond.selects RX7 yX7_engine yX7_engine, Cond.code yX7_engine cX7_engine 3 (some .int), Cond.methodLink RX7 122 yX7_oneIf, Cond.methodLink RL 52 yX8_engine, Cond.instanceMethod yX8_engine, Cond.selects RX8 yX8_engine yX8_engine, Cond.code yX8_engine cX8_engine 2 (some .int)]
def wsL_law_r18 : List Cond := [Cond.methodLink RL 53 yX7_start, Cond.instanceMethod yX7_start, Cond.selects RX7 yX7_start yX7_start, Cond.code yX7_start cX7_start 3 (some .int), Cond.instanceMethod yX3_numberOf, Cond.selects RX3 yX3_numberOf yX3_numberOf, Cond.code yX3_numberOf cX3_numberOf 3 (some .int), Cond.methodLink RL 56 yX8_start, Cond.instanceMethod yX8_start, Cond.selects RX8 yX8_start yX8_start, Cond.code yX8_start cX8_start 3 (some .int), Cond.methodLink RL 57 yX7_count, Cond.instanceMethod yX7_count, Cond.selects RX7 yX7_count yX7_count, Cond.code yX7_count cX7_count 3 (some .int), Cond.methodLink RL 60 yX8_count, Cond.instanceMethod yX8_count, Cond.selects RX8 yX8_count yX8_count, Cond.code yX8_count cX8_count 2 (some .int), Cond.methodLink RL 61 yX7_untilRunning, Cond.instanceMethod yX7_untilRunning, Cond.selects RX7 yX7_untilRunning yX7_untilRunning, Cond.code yX7_untilRunning cX7_untilRunning 1 (some .int), Cond.instanceMethod yX5_passTicksUntilRunning]
def wsL_law_r19 : List Cond := [Cond.selects RX5 yX5_passTicksUntilRunning yX5_passTicksUntilRunning, Cond.code yX5_passTicksUntilRunning cX5_passTicksUntilRunning 3 (some .int), Cond.methodLink RL 64 yX8_untilRunning, Cond.instanceMethod yX8_untilRunning, Cond.selects RX8 yX8_untilRunning yX8_untilRunning, Cond.code yX8_untilRunning cX8_untilRunning 2 (some .int), Cond.methodLink RX8 122 yX8_keepTrial, Cond.instanceMethod yX8_keepTrial, Cond.selects RX8 yX8_keepTrial yX8_keepTrial, Cond.code yX8_keepTrial cX8_keepTrial 2 none, Cond.methodLink RX8 125 yX8_runsIn, Cond.instanceMethod yX8_runsIn, Cond.selects RX8 yX8_runsIn yX8_runsIn, Cond.code yX8_runsIn cX8_runsIn 2 (some .int), Cond.methodLink RX8 128 yX8_putBack, Cond.instanceMethod yX8_putBack, Cond.selects RX8 yX8_putBack yX8_putBack, Cond.code yX8_putBack cX8_putBack 2 none, Cond.methodLink RL 65 yX7_ifTicked, Cond.instanceMethod yX7_ifTicked, Cond.selects RX7 yX7_ifTicked yX7_ifTicked, Cond.code yX7_ifTicked cX7_ifTicked 3 (some .int), Cond.instanceMethod yX6_forgetHeat, Cond.selects RX6 yX6_forgetHeat yX6_forgetHeat]
def wsL_law_r20 : List Cond := [Cond.code yX6_forgetHeat cX6_forgetHeat 1 none, Cond.methodLink RL 68 yX8_ifTicked, Cond.instanceMethod yX8_ifTicked, Cond.selects RX8 yX8_ifTicked yX8_ifTicked, Cond.code yX8_ifTicked cX8_ifTicked 5 (some .int), Cond.methodLink RL 69 yX7_bestFuel, Cond.instanceMethod yX7_bestFuel, Cond.selects RX7 yX7_bestFuel yX7_bestFuel, Cond.code yX7_bestFuel cX7_bestFuel 5 (some .int), Cond.methodLink RL 72 yX8_bestFuel, Cond.instanceMethod yX8_bestFuel, Cond.selects RX8 yX8_bestFuel yX8_bestFuel, Cond.code yX8_bestFuel cX8_bestFuel 6 (some .int), Cond.methodLink RL 73 yX7_leastBattery, Cond.instanceMethod yX7_leastBattery, Cond.selects RX7 yX7_leastBattery yX7_leastBattery, Cond.code yX7_leastBattery cX7_leastBattery 2 (some .int), Cond.methodLink RL 76 yX8_leastBattery, Cond.instanceMethod yX8_leastBattery, Cond.selects RX8 yX8_leastBattery yX8_leastBattery, Cond.code yX8_leastBattery cX8_leastBattery 3 (some .int), Cond.methodLink RL 79 yX7_put, Cond.instanceMethod yX7_put, Cond.selects RX7 yX7_put yX7_put]
def wsL_law_r21 : List Cond := [Cond.code yX7_put cX7_put 4 (some .int), Cond.static yX4_charactersIn, Cond.code yX4_charactersIn cX4_charactersIn 8 (some .int), Cond.constantLong RX4 15 (255), Cond.constantLong RX4 17 (33), Cond.constantLong RX4 19 (126), Cond.instanceMethod yX4_append, Cond.selects RX4 yX4_append yX4_append, Cond.code yX4_append cX4_append 5 none, Cond.methodLink RL 83 yX8_put, Cond.instanceMethod yX8_put, Cond.selects RX8 yX8_put yX8_put, Cond.code yX8_put cX8_put 8 (some .int), Cond.constantLong RX8 131 (255), Cond.constantLong RX8 133 (33), Cond.constantLong RX8 135 (126), Cond.methodLink RL 84 yX7_wipe, Cond.instanceMethod yX7_wipe, Cond.selects RX7 yX7_wipe yX7_wipe, Cond.code yX7_wipe cX7_wipe 2 (some .int), Cond.methodLink RL 87 yX8_wipe, Cond.instanceMethod yX8_wipe, Cond.selects RX8 yX8_wipe yX8_wipe, Cond.code yX8_wipe cX8_wipe 2 (some .int)]
def wsL_law_r22 : List Cond := [Cond.methodLink RL 88 yX7_fault, Cond.instanceMethod yX7_fault, Cond.selects RX7 yX7_fault yX7_fault, Cond.code yX7_fault cX7_fault 1 (some .int), Cond.methodLink RL 91 yX8_fault, Cond.instanceMethod yX8_fault, Cond.selects RX8 yX8_fault yX8_fault, Cond.code yX8_fault cX8_fault 2 (some .int), Cond.methodLink RL 92 yX7_undo, Cond.instanceMethod yX7_undo, Cond.selects RX7 yX7_undo yX7_undo, Cond.code yX7_undo cX7_undo 1 (some .int), Cond.instanceMethod yX2_takeLatest, Cond.selects RX2 yX2_takeLatest yX2_takeLatest, Cond.code yX2_takeLatest cX2_takeLatest 2 none, Cond.methodLink RL 95 yX8_undo, Cond.instanceMethod yX8_undo, Cond.selects RX8 yX8_undo yX8_undo, Cond.code yX8_undo cX8_undo 2 (some .int), Cond.methodLink RL 96 yX7_save, Cond.instanceMethod yX7_save, Cond.selects RX7 yX7_save yX7_save, Cond.code yX7_save cX7_save 2 (some .int), Cond.methodLink RL 99 yX8_save]
def wsL_law_r23 : List Cond := [Cond.instanceMethod yX8_save, Cond.selects RX8 yX8_save yX8_save, Cond.code yX8_save cX8_save 3 (some .int), Cond.methodLink RL 100 yX7_restore, Cond.instanceMethod yX7_restore, Cond.selects RX7 yX7_restore yX7_restore, Cond.code yX7_restore cX7_restore 2 (some .int), Cond.methodLink RL 103 yX8_restore, Cond.instanceMethod yX8_restore, Cond.selects RX8 yX8_restore yX8_restore, Cond.code yX8_restore cX8_restore 3 (some .int)]
def wsL_law : List Cond := (wsL_law_r1 ++ (wsL_law_r2 ++ (wsL_law_r3 ++ (wsL_law_r4 ++ (wsL_law_r5 ++ (wsL_law_r6 ++ (wsL_law_r7 ++ (wsL_law_r8 ++ (wsL_law_r9 ++ (wsL_law_r10 ++ (wsL_law_r11 ++ (wsL_law_r12 ++ (wsL_law_r13 ++ (wsL_law_r14 ++ (wsL_law_r15 ++ (wsL_law_r16 ++ (wsL_law_r17 ++ (wsL_law_r18 ++ (wsL_law_r19 ++ (wsL_law_r20 ++ (wsL_law_r21 ++ (wsL_law_r22 ++ wsL_law_r23)))))))))))))))))))))) ++ wsX70 ++ wsX80 ++ wsX50 ++ wsX20 ++ wsX40 ++ wsX10 ++ wsX00 ++ wsX30 ++ wsX60 ++ ([] : List Cond)
abbrev vwCl : List vw_C := [(RX0, TX0, 5), (RX1, TX1, 9), (RX2, TX2, 3), (RX3, TX3, 2), (RX4, TX4, 2), (RX5, TX5, 5), (RX6, TX6, 6), (RX7, TX7, 6), (RX8, TX8, 12)]
end
section
theorem dX0_init_0 : decode cX0_init 0 = .ok (.aload_n 0, 1) := by decide +kernel
theorem dX0_init_1 : decode cX0_init 1 = .ok (.invokespecial 3, 3) := by decide +kernel
theorem dX0_init_4 : decode cX0_init 4 = .ok (.return_, 1) := by decide +kernel
theorem dX0_copyFrom_0 : decode cX0_copyFrom 0 = .ok (.aload_n 0, 1) := by decide +kernel
theorem dX0_copyFrom_1 : decode cX0_copyFrom 1 = .ok (.aload_n 1, 1) := by decide +kernel
theorem dX0_copyFrom_2 : decode cX0_copyFrom 2 = .ok (.getfield 9, 3) := by decide +kernel
theorem dX0_copyFrom_5 : decode cX0_copyFrom 5 = .ok (.putfield 9, 3) := by decide +kernel
theorem dX0_copyFrom_8 : decode cX0_copyFrom 8 = .ok (.aload_n 0, 1) := by decide +kernel
theorem dX0_copyFrom_9 : decode cX0_copyFrom 9 = .ok (.aload_n 1, 1) := by decide +kernel
theorem dX0_copyFrom_10 : decode cX0_copyFrom 10 = .ok (.getfield 15, 3) := by decide +kernel
theorem dX0_copyFrom_13 : decode cX0_copyFrom 13 = .ok (.putfield 15, 3) := by decide +kernel
theorem dX0_copyFrom_16 : decode cX0_copyFrom 16 = .ok (.aload_n 0, 1) := by decide +kernel
theorem dX0_copyFrom_17 : decode cX0_copyFrom 17 = .ok (.aload_n 1, 1) := by decide +kernel
theorem dX0_copyFrom_18 : decode cX0_copyFrom 18 = .ok (.getfield 19, 3) := by decide +kernel
theorem dX0_copyFrom_21 : decode cX0_copyFrom 21 = .ok (.putfield 19, 3) := by decide +kernel
theorem dX0_copyFrom_24 : decode cX0_copyFrom 24 = .ok (.aload_n 0, 1) := by decide +kernel
theorem dX0_copyFrom_25 : decode cX0_copyFrom 25 = .ok (.aload_n 1, 1) := by decide +kernel
theorem dX0_copyFrom_26 : decode cX0_copyFrom 26 = .ok (.getfield 22, 3) := by decide +kernel
theorem dX0_copyFrom_29 : decode cX0_copyFrom 29 = .ok (.putfield 22, 3) := by decide +kernel
theorem dX0_copyFrom_32 : decode cX0_copyFrom 32 = .ok (.aload_n 0, 1) := by decide +kernel
theorem dX0_copyFrom_33 : decode cX0_copyFrom 33 = .ok (.aload_n 1, 1) := by decide +kernel
theorem dX0_copyFrom_34 : decode cX0_copyFrom 34 = .ok (.getfield 25, 3) := by decide +kernel
theorem dX0_copyFrom_37 : decode cX0_copyFrom 37 = .ok (.putfield 25, 3) := by decide +kernel
theorem dX0_copyFrom_40 : decode cX0_copyFrom 40 = .ok (.return_, 1) := by decide +kernel
theorem dX0_begin_0 : decode cX0_begin 0 = .ok (.aload_n 0, 1) := by decide +kernel
theorem dX0_begin_1 : decode cX0_begin 1 = .ok (.iconst 1, 1) := by decide +kernel
theorem dX0_begin_2 : decode cX0_begin 2 = .ok (.putfield 9, 3) := by decide +kernel
theorem dX0_begin_5 : decode cX0_begin 5 = .ok (.aload_n 0, 1) := by decide +kernel
theorem dX0_begin_6 : decode cX0_begin 6 = .ok (.iconst 0, 1) := by decide +kernel
theorem dX0_begin_7 : decode cX0_begin 7 = .ok (.putfield 15, 3) := by decide +kernel
theorem dX0_begin_10 : decode cX0_begin 10 = .ok (.aload_n 0, 1) := by decide +kernel
theorem dX0_begin_11 : decode cX0_begin 11 = .ok (.iconst 0, 1) := by decide +kernel
theorem dX0_begin_12 : decode cX0_begin 12 = .ok (.putfield 19, 3) := by decide +kernel
theorem dX0_begin_15 : decode cX0_begin 15 = .ok (.aload_n 0, 1) := by decide +kernel
theorem dX0_begin_16 : decode cX0_begin 16 = .ok (.iload_n 1, 1) := by decide +kernel
theorem dX0_begin_17 : decode cX0_begin 17 = .ok (.putfield 22, 3) := by decide +kernel
theorem dX0_begin_20 : decode cX0_begin 20 = .ok (.aload_n 0, 1) := by decide +kernel
theorem dX0_begin_21 : decode cX0_begin 21 = .ok (.iconst 0, 1) := by decide +kernel
theorem dX0_begin_22 : decode cX0_begin 22 = .ok (.putfield 25, 3) := by decide +kernel
theorem dX0_begin_25 : decode cX0_begin 25 = .ok (.return_, 1) := by decide +kernel
theorem dX0_addTick_0 : decode cX0_addTick 0 = .ok (.aload_n 0, 1) := by decide +kernel
theorem dX0_addTick_1 : decode cX0_addTick 1 = .ok (.dup, 1) := by decide +kernel
theorem dX0_addTick_2 : decode cX0_addTick 2 = .ok (.getfield 15, 3) := by decide +kernel
theorem dX0_addTick_5 : decode cX0_addTick 5 = .ok (.iconst 1, 1) := by decide +kernel
theorem dX0_addTick_6 : decode cX0_addTick 6 = .ok (.iadd, 1) := by decide +kernel
theorem dX0_addTick_7 : decode cX0_addTick 7 = .ok (.putfield 15, 3) := by decide +kernel
theorem dX0_addTick_10 : decode cX0_addTick 10 = .ok (.aload_n 0, 1) := by decide +kernel
theorem dX0_addTick_11 : decode cX0_addTick 11 = .ok (.aload_n 0, 1) := by decide +kernel
theorem dX0_addTick_12 : decode cX0_addTick 12 = .ok (.getfield 19, 3) := by decide +kernel
theorem dX0_addTick_15 : decode cX0_addTick 15 = .ok (.aload_n 1, 1) := by decide +kernel
theorem dX0_addTick_16 : decode cX0_addTick 16 = .ok (.getfield 28, 3) := by decide +kernel
theorem dX0_addTick_19 : decode cX0_addTick 19 = .ok (.invokestatic 33, 3) := by decide +kernel
theorem dX0_addTick_22 : decode cX0_addTick 22 = .ok (.putfield 19, 3) := by decide +kernel
theorem dX0_addTick_25 : decode cX0_addTick 25 = .ok (.aload_n 0, 1) := by decide +kernel
theorem dX0_addTick_26 : decode cX0_addTick 26 = .ok (.aload_n 1, 1) := by decide +kernel
theorem dX0_addTick_27 : decode cX0_addTick 27 = .ok (.getfield 39, 3) := by decide +kernel
theorem dX0_addTick_30 : decode cX0_addTick 30 = .ok (.iload_n 2, 1) := by decide +kernel
theorem dX0_addTick_31 : decode cX0_addTick 31 = .ok (.if_icmp .le 7, 3) := by decide +kernel
theorem dX0_addTick_34 : decode cX0_addTick 34 = .ok (.iconst 0, 1) := by decide +kernel
theorem dX0_addTick_35 : decode cX0_addTick 35 = .ok (.goto 9, 3) := by decide +kernel
theorem dX0_addTick_38 : decode cX0_addTick 38 = .ok (.aload_n 0, 1) := by decide +kernel
theorem dX0_addTick_39 : decode cX0_addTick 39 = .ok (.getfield 25, 3) := by decide +kernel
theorem dX0_addTick_42 : decode cX0_addTick 42 = .ok (.iconst 1, 1) := by decide +kernel
theorem dX0_addTick_43 : decode cX0_addTick 43 = .ok (.iadd, 1) := by decide +kernel
theorem dX0_addTick_44 : decode cX0_addTick 44 = .ok (.putfield 25, 3) := by decide +kernel
theorem dX0_addTick_47 : decode cX0_addTick 47 = .ok (.return_, 1) := by decide +kernel
set_option maxRecDepth 20000 in
theorem ggX0_endingWith_X1_isHot : GoodIn wsX0_endingWith wsX1_isHot := goodIn_r _ [5, 6, 7, 17, 18, 19, 20, 21, 22, 23, 24, 25] (by decide +kernel) (by decide +kernel)
set_option maxRecDepth 20000 in
theorem gX0_endingWith_X1_isHot_n42 : GoodIn wsX0_endingWith (wsX1_isHot) := ggX0_endingWith_X1_isHot
set_option maxRecDepth 20000 in
theorem ggX0_endingWith_X1_runs : GoodIn wsX0_endingWith wsX1_runs := goodIn_r _ [10, 11, 12, 17, 18, 19, 20, 21, 22, 23, 24, 25] (by decide +kernel) (by decide +kernel)
set_option maxRecDepth 20000 in
theorem gX0_endingWith_X1_runs_n46 : GoodIn wsX0_endingWith (wsX1_runs) := ggX0_endingWith_X1_runs
set_option maxRecDepth 20000 in
theorem ggX0_endingWith_X1_isSpent : GoodIn wsX0_endingWith wsX1_isSpent := goodIn_r _ [15, 16, 11, 12, 7, 17, 18, 19, 20, 21, 22, 23, 24, 25] (by decide +kernel) (by decide +kernel)
set_option maxRecDepth 20000 in
theorem gX0_endingWith_X1_isSpent_n56 : GoodIn wsX0_endingWith (wsX1_isSpent) := ggX0_endingWith_X1_isSpent
theorem dX0_endingWith_0 : decode cX0_endingWith 0 = .ok (.aload_n 1, 1) := by decide +kernel
theorem dX0_endingWith_1 : decode cX0_endingWith 1 = .ok (.invokevirtual 42, 3) := by decide +kernel
theorem dX0_endingWith_4 : decode cX0_endingWith 4 = .ok (.ifCond .eq 5, 3) := by decide +kernel
theorem dX0_endingWith_7 : decode cX0_endingWith 7 = .ok (.iconst 1, 1) := by decide +kernel
theorem dX0_endingWith_8 : decode cX0_endingWith 8 = .ok (.ireturn, 1) := by decide +kernel
theorem dX0_endingWith_9 : decode cX0_endingWith 9 = .ok (.aload_n 1, 1) := by decide +kernel
theorem dX0_endingWith_10 : decode cX0_endingWith 10 = .ok (.invokevirtual 46, 3) := by decide +kernel
theorem dX0_endingWith_13 : decode cX0_endingWith 13 = .ok (.ifCond .eq 5, 3) := by decide +kernel
theorem dX0_endingWith_16 : decode cX0_endingWith 16 = .ok (.iconst 0, 1) := by decide +kernel
theorem dX0_endingWith_17 : decode cX0_endingWith 17 = .ok (.ireturn, 1) := by decide +kernel
theorem dX0_endingWith_18 : decode cX0_endingWith 18 = .ok (.aload_n 1, 1) := by decide +kernel
theorem dX0_endingWith_19 : decode cX0_endingWith 19 = .ok (.getfield 49, 3) := by decide +kernel
theorem dX0_endingWith_22 : decode cX0_endingWith 22 = .ok (.ifCond .eq 19, 3) := by decide +kernel
theorem dX0_endingWith_25 : decode cX0_endingWith 25 = .ok (.aload_n 0, 1) := by decide +kernel
theorem dX0_endingWith_26 : decode cX0_endingWith 26 = .ok (.getfield 25, 3) := by decide +kernel
theorem dX0_endingWith_29 : decode cX0_endingWith 29 = .ok (.aload_n 1, 1) := by decide +kernel
theorem dX0_endingWith_30 : decode cX0_endingWith 30 = .ok (.getfield 52, 3) := by decide +kernel
theorem dX0_endingWith_33 : decode cX0_endingWith 33 = .ok (.bipush 6, 2) := by decide +kernel
theorem dX0_endingWith_35 : decode cX0_endingWith 35 = .ok (.iaload, 1) := by decide +kernel
theorem dX0_endingWith_36 : decode cX0_endingWith 36 = .ok (.if_icmp .lt 5, 3) := by decide +kernel
theorem dX0_endingWith_39 : decode cX0_endingWith 39 = .ok (.iconst 2, 1) := by decide +kernel
theorem dX0_endingWith_40 : decode cX0_endingWith 40 = .ok (.ireturn, 1) := by decide +kernel
theorem dX0_endingWith_41 : decode cX0_endingWith 41 = .ok (.aload_n 1, 1) := by decide +kernel
theorem dX0_endingWith_42 : decode cX0_endingWith 42 = .ok (.invokevirtual 56, 3) := by decide +kernel
theorem dX0_endingWith_45 : decode cX0_endingWith 45 = .ok (.ifCond .eq 7, 3) := by decide +kernel
theorem dX0_endingWith_48 : decode cX0_endingWith 48 = .ok (.iconst 3, 1) := by decide +kernel
theorem dX0_endingWith_49 : decode cX0_endingWith 49 = .ok (.goto 4, 3) := by decide +kernel
theorem dX0_endingWith_52 : decode cX0_endingWith 52 = .ok (.iconst (-1), 1) := by decide +kernel
theorem dX0_endingWith_53 : decode cX0_endingWith 53 = .ok (.ireturn, 1) := by decide +kernel
theorem dX1_init_0 : decode cX1_init 0 = .ok (.aload_n 0, 1) := by decide +kernel
theorem dX1_init_1 : decode cX1_init 1 = .ok (.invokespecial 3, 3) := by decide +kernel
theorem dX1_init_4 : decode cX1_init 4 = .ok (.aload_n 0, 1) := by decide +kernel
theorem dX1_init_5 : decode cX1_init 5 = .ok (.bipush 7, 2) := by decide +kernel
theorem dX1_init_7 : decode cX1_init 7 = .ok (.newarray .int, 2) := by decide +kernel
theorem dX1_init_9 : decode cX1_init 9 = .ok (.putfield 9, 3) := by decide +kernel
theorem dX1_init_12 : decode cX1_init 12 = .ok (.aload_n 0, 1) := by decide +kernel
theorem dX1_init_13 : decode cX1_init 13 = .ok (.sipush 1000, 3) := by decide +kernel
theorem dX1_init_16 : decode cX1_init 16 = .ok (.putfield 15, 3) := by decide +kernel
theorem dX1_init_19 : decode cX1_init 19 = .ok (.getstatic 19, 3) := by decide +kernel
theorem dX1_init_22 : decode cX1_init 22 = .ok (.iconst 0, 1) := by decide +kernel
theorem dX1_init_23 : decode cX1_init 23 = .ok (.aload_n 0, 1) := by decide +kernel
theorem dX1_init_24 : decode cX1_init 24 = .ok (.getfield 9, 3) := by decide +kernel
theorem dX1_init_27 : decode cX1_init 27 = .ok (.iconst 0, 1) := by decide +kernel
theorem dX1_init_28 : decode cX1_init 28 = .ok (.bipush 7, 2) := by decide +kernel
theorem dX1_init_30 : decode cX1_init 30 = .ok (.invokestatic 22, 3) := by decide +kernel
theorem dX1_init_33 : decode cX1_init 33 = .ok (.return_, 1) := by decide +kernel
theorem dX1_copyFrom_0 : decode cX1_copyFrom 0 = .ok (.aload_n 1, 1) := by decide +kernel
theorem dX1_copyFrom_1 : decode cX1_copyFrom 1 = .ok (.getfield 9, 3) := by decide +kernel
theorem dX1_copyFrom_4 : decode cX1_copyFrom 4 = .ok (.iconst 0, 1) := by decide +kernel
theorem dX1_copyFrom_5 : decode cX1_copyFrom 5 = .ok (.aload_n 0, 1) := by decide +kernel
theorem dX1_copyFrom_6 : decode cX1_copyFrom 6 = .ok (.getfield 9, 3) := by decide +kernel
theorem dX1_copyFrom_9 : decode cX1_copyFrom 9 = .ok (.iconst 0, 1) := by decide +kernel
theorem dX1_copyFrom_10 : decode cX1_copyFrom 10 = .ok (.bipush 7, 2) := by decide +kernel
theorem dX1_copyFrom_12 : decode cX1_copyFrom 12 = .ok (.invokestatic 22, 3) := by decide +kernel
theorem dX1_copyFrom_15 : decode cX1_copyFrom 15 = .ok (.aload_n 0, 1) := by decide +kernel
theorem dX1_copyFrom_16 : decode cX1_copyFrom 16 = .ok (.aload_n 1, 1) := by decide +kernel
theorem dX1_copyFrom_17 : decode cX1_copyFrom 17 = .ok (.getfield 28, 3) := by decide +kernel
theorem dX1_copyFrom_20 : decode cX1_copyFrom 20 = .ok (.putfield 28, 3) := by decide +kernel
theorem dX1_copyFrom_23 : decode cX1_copyFrom 23 = .ok (.aload_n 0, 1) := by decide +kernel
theorem dX1_copyFrom_24 : decode cX1_copyFrom 24 = .ok (.aload_n 1, 1) := by decide +kernel
theorem dX1_copyFrom_25 : decode cX1_copyFrom 25 = .ok (.getfield 31, 3) := by decide +kernel
theorem dX1_copyFrom_28 : decode cX1_copyFrom 28 = .ok (.putfield 31, 3) := by decide +kernel
theorem dX1_copyFrom_31 : decode cX1_copyFrom 31 = .ok (.aload_n 0, 1) := by decide +kernel
theorem dX1_copyFrom_32 : decode cX1_copyFrom 32 = .ok (.aload_n 1, 1) := by decide +kernel
theorem dX1_copyFrom_33 : decode cX1_copyFrom 33 = .ok (.getfield 34, 3) := by decide +kernel
theorem dX1_copyFrom_36 : decode cX1_copyFrom 36 = .ok (.putfield 34, 3) := by decide +kernel
theorem dX1_copyFrom_39 : decode cX1_copyFrom 39 = .ok (.aload_n 0, 1) := by decide +kernel
theorem dX1_copyFrom_40 : decode cX1_copyFrom 40 = .ok (.aload_n 1, 1) := by decide +kernel
theorem dX1_copyFrom_41 : decode cX1_copyFrom 41 = .ok (.getfield 37, 3) := by decide +kernel
theorem dX1_copyFrom_44 : decode cX1_copyFrom 44 = .ok (.putfield 37, 3) := by decide +kernel
theorem dX1_copyFrom_47 : decode cX1_copyFrom 47 = .ok (.aload_n 0, 1) := by decide +kernel
theorem dX1_copyFrom_48 : decode cX1_copyFrom 48 = .ok (.aload_n 1, 1) := by decide +kernel
theorem dX1_copyFrom_49 : decode cX1_copyFrom 49 = .ok (.getfield 15, 3) := by decide +kernel
theorem dX1_copyFrom_52 : decode cX1_copyFrom 52 = .ok (.putfield 15, 3) := by decide +kernel
theorem dX1_copyFrom_55 : decode cX1_copyFrom 55 = .ok (.aload_n 0, 1) := by decide +kernel
theorem dX1_copyFrom_56 : decode cX1_copyFrom 56 = .ok (.aload_n 1, 1) := by decide +kernel
theorem dX1_copyFrom_57 : decode cX1_copyFrom 57 = .ok (.getfield 40, 3) := by decide +kernel
theorem dX1_copyFrom_60 : decode cX1_copyFrom 60 = .ok (.putfield 40, 3) := by decide +kernel
theorem dX1_copyFrom_63 : decode cX1_copyFrom 63 = .ok (.aload_n 0, 1) := by decide +kernel
theorem dX1_copyFrom_64 : decode cX1_copyFrom 64 = .ok (.aload_n 1, 1) := by decide +kernel
theorem dX1_copyFrom_65 : decode cX1_copyFrom 65 = .ok (.getfield 44, 3) := by decide +kernel
theorem dX1_copyFrom_68 : decode cX1_copyFrom 68 = .ok (.putfield 44, 3) := by decide +kernel
theorem dX1_copyFrom_71 : decode cX1_copyFrom 71 = .ok (.aload_n 0, 1) := by decide +kernel
theorem dX1_copyFrom_72 : decode cX1_copyFrom 72 = .ok (.aload_n 1, 1) := by decide +kernel
theorem dX1_copyFrom_73 : decode cX1_copyFrom 73 = .ok (.getfield 47, 3) := by decide +kernel
theorem dX1_copyFrom_76 : decode cX1_copyFrom 76 = .ok (.putfield 47, 3) := by decide +kernel
theorem dX1_copyFrom_79 : decode cX1_copyFrom 79 = .ok (.return_, 1) := by decide +kernel
theorem dX1_runs_0 : decode cX1_runs 0 = .ok (.aload_n 0, 1) := by decide +kernel
theorem dX1_runs_1 : decode cX1_runs 1 = .ok (.getfield 47, 3) := by decide +kernel
theorem dX1_runs_4 : decode cX1_runs 4 = .ok (.ifCond .eq 17, 3) := by decide +kernel
theorem dX1_runs_7 : decode cX1_runs 7 = .ok (.aload_n 0, 1) := by decide +kernel
theorem dX1_runs_8 : decode cX1_runs 8 = .ok (.getfield 28, 3) := by decide +kernel
theorem dX1_runs_11 : decode cX1_runs 11 = .ok (.sipush 600, 3) := by decide +kernel
theorem dX1_runs_14 : decode cX1_runs 14 = .ok (.if_icmp .lt 7, 3) := by decide +kernel
theorem dX1_runs_17 : decode cX1_runs 17 = .ok (.iconst 1, 1) := by decide +kernel
theorem dX1_runs_18 : decode cX1_runs 18 = .ok (.goto 4, 3) := by decide +kernel
theorem dX1_runs_21 : decode cX1_runs 21 = .ok (.iconst 0, 1) := by decide +kernel
theorem dX1_runs_22 : decode cX1_runs 22 = .ok (.ireturn, 1) := by decide +kernel
theorem dX1_isHot_0 : decode cX1_isHot 0 = .ok (.aload_n 0, 1) := by decide +kernel
theorem dX1_isHot_1 : decode cX1_isHot 1 = .ok (.getfield 31, 3) := by decide +kernel
theorem dX1_isHot_4 : decode cX1_isHot 4 = .ok (.aload_n 0, 1) := by decide +kernel
theorem dX1_isHot_5 : decode cX1_isHot 5 = .ok (.getfield 9, 3) := by decide +kernel
theorem dX1_isHot_8 : decode cX1_isHot 8 = .ok (.iconst 4, 1) := by decide +kernel
theorem dX1_isHot_9 : decode cX1_isHot 9 = .ok (.iaload, 1) := by decide +kernel
theorem dX1_isHot_10 : decode cX1_isHot 10 = .ok (.if_icmp .le 7, 3) := by decide +kernel
theorem dX1_isHot_13 : decode cX1_isHot 13 = .ok (.iconst 1, 1) := by decide +kernel
theorem dX1_isHot_14 : decode cX1_isHot 14 = .ok (.goto 4, 3) := by decide +kernel
theorem dX1_isHot_17 : decode cX1_isHot 17 = .ok (.iconst 0, 1) := by decide +kernel
theorem dX1_isHot_18 : decode cX1_isHot 18 = .ok (.ireturn, 1) := by decide +kernel
theorem dX1_isSpent_0 : decode cX1_isSpent 0 = .ok (.aload_n 0, 1) := by decide +kernel
theorem dX1_isSpent_1 : decode cX1_isSpent 1 = .ok (.getfield 44, 3) := by decide +kernel
theorem dX1_isSpent_4 : decode cX1_isSpent 4 = .ok (.ifCond .ne 27, 3) := by decide +kernel
theorem dX1_isSpent_7 : decode cX1_isSpent 7 = .ok (.aload_n 0, 1) := by decide +kernel
theorem dX1_isSpent_8 : decode cX1_isSpent 8 = .ok (.getfield 47, 3) := by decide +kernel
theorem dX1_isSpent_11 : decode cX1_isSpent 11 = .ok (.ifCond .ne 20, 3) := by decide +kernel
theorem dX1_isSpent_14 : decode cX1_isSpent 14 = .ok (.aload_n 0, 1) := by decide +kernel
theorem dX1_isSpent_15 : decode cX1_isSpent 15 = .ok (.getfield 28, 3) := by decide +kernel
theorem dX1_isSpent_18 : decode cX1_isSpent 18 = .ok (.aload_n 0, 1) := by decide +kernel
theorem dX1_isSpent_19 : decode cX1_isSpent 19 = .ok (.getfield 9, 3) := by decide +kernel
theorem dX1_isSpent_22 : decode cX1_isSpent 22 = .ok (.iconst 5, 1) := by decide +kernel
theorem dX1_isSpent_23 : decode cX1_isSpent 23 = .ok (.iaload, 1) := by decide +kernel
theorem dX1_isSpent_24 : decode cX1_isSpent 24 = .ok (.if_icmp .ge 7, 3) := by decide +kernel
theorem dX1_isSpent_27 : decode cX1_isSpent 27 = .ok (.iconst 1, 1) := by decide +kernel
theorem dX1_isSpent_28 : decode cX1_isSpent 28 = .ok (.goto 4, 3) := by decide +kernel
theorem dX1_isSpent_31 : decode cX1_isSpent 31 = .ok (.iconst 0, 1) := by decide +kernel
theorem dX1_isSpent_32 : decode cX1_isSpent 32 = .ok (.ireturn, 1) := by decide +kernel
set_option maxRecDepth 20000 in
theorem ggX1_passTick_X1_pushOfStarter : GoodIn wsX1_passTick wsX1_pushOfStarter := goodIn_r _ [10, 11, 1, 12, 13, 14, 4, 15, 16, 42, 43, 44, 45, 46, 47, 48, 49, 50] (by decide +kernel) (by decide +kernel)
set_option maxRecDepth 20000 in
theorem gX1_passTick_X1_pushOfStarter : GoodIn wsX1_passTick (wsV RX1 50 RX1 yX1_pushOfStarter wsX1_pushOfStarter) := goodIn_app (goodIn_of _ (by decide +kernel)) ggX1_passTick_X1_pushOfStarter
set_option maxRecDepth 20000 in
theorem ggX1_passTick_X1_changeFlame : GoodIn wsX1_passTick wsX1_changeFlame := goodIn_r _ [20, 16, 21, 22, 23, 11, 2, 3, 4, 5, 24, 42, 43, 44, 45, 46, 47, 48, 49, 50] (by decide +kernel) (by decide +kernel)
set_option maxRecDepth 20000 in
theorem gX1_passTick_X1_changeFlame : GoodIn wsX1_passTick (wsV RX1 54 RX1 yX1_changeFlame wsX1_changeFlame) := goodIn_app (goodIn_of _ (by decide +kernel)) ggX1_passTick_X1_changeFlame
set_option maxRecDepth 20000 in
theorem ggX1_passTick_X1_burn : GoodIn wsX1_passTick wsX1_burn := goodIn_r _ [28, 21, 23, 22, 42, 43, 44, 45, 46, 47, 48, 49, 50] (by decide +kernel) (by decide +kernel)
set_option maxRecDepth 20000 in
theorem gX1_passTick_X1_burn : GoodIn wsX1_passTick (wsV RX1 57 RX1 yX1_burn wsX1_burn) := goodIn_app (goodIn_of _ (by decide +kernel)) ggX1_passTick_X1_burn
set_option maxRecDepth 20000 in
theorem ggX1_passTick_X1_changeSpeed : GoodIn wsX1_passTick wsX1_changeSpeed := goodIn_r _ [32, 11, 16, 2, 3, 4, 5, 42, 43, 44, 45, 46, 47, 48, 49, 50] (by decide +kernel) (by decide +kernel)
set_option maxRecDepth 20000 in
theorem gX1_passTick_X1_changeSpeed : GoodIn wsX1_passTick (wsV RX1 60 RX1 yX1_changeSpeed wsX1_changeSpeed) := goodIn_app (goodIn_of _ (by decide +kernel)) ggX1_passTick_X1_changeSpeed
set_option maxRecDepth 20000 in
theorem ggX1_passTick_X1_changeHeat : GoodIn wsX1_passTick wsX1_changeHeat := goodIn_r _ [36, 37, 16, 2, 3, 4, 5, 11, 13, 14, 15, 42, 43, 44, 45, 46, 47, 48, 49, 50] (by decide +kernel) (by decide +kernel)
set_option maxRecDepth 20000 in
theorem gX1_passTick_X1_changeHeat : GoodIn wsX1_passTick (wsV RX1 64 RX1 yX1_changeHeat wsX1_changeHeat) := goodIn_app (goodIn_of _ (by decide +kernel)) ggX1_passTick_X1_changeHeat
set_option maxRecDepth 20000 in
theorem ggX1_passTick_X1_runs : GoodIn wsX1_passTick wsX1_runs := goodIn_r _ [41, 21, 11, 42, 43, 44, 45, 46, 47, 48, 49, 50] (by decide +kernel) (by decide +kernel)
set_option maxRecDepth 20000 in
theorem gX1_passTick_X1_runs : GoodIn wsX1_passTick (wsV RX1 68 RX1 yX1_runs wsX1_runs) := goodIn_app (goodIn_of _ (by decide +kernel)) ggX1_passTick_X1_runs
theorem dX1_passTick_0 : decode cX1_passTick 0 = .ok (.aload_n 0, 1) := by decide +kernel
theorem dX1_passTick_1 : decode cX1_passTick 1 = .ok (.invokevirtual 50, 3) := by decide +kernel
theorem dX1_passTick_4 : decode cX1_passTick 4 = .ok (.istore_n 1, 1) := by decide +kernel
theorem dX1_passTick_5 : decode cX1_passTick 5 = .ok (.aload_n 0, 1) := by decide +kernel
theorem dX1_passTick_6 : decode cX1_passTick 6 = .ok (.invokevirtual 54, 3) := by decide +kernel
theorem dX1_passTick_9 : decode cX1_passTick 9 = .ok (.aload_n 0, 1) := by decide +kernel
theorem dX1_passTick_10 : decode cX1_passTick 10 = .ok (.invokevirtual 57, 3) := by decide +kernel
theorem dX1_passTick_13 : decode cX1_passTick 13 = .ok (.istore_n 2, 1) := by decide +kernel
theorem dX1_passTick_14 : decode cX1_passTick 14 = .ok (.aload_n 0, 1) := by decide +kernel
theorem dX1_passTick_15 : decode cX1_passTick 15 = .ok (.iload_n 1, 1) := by decide +kernel
theorem dX1_passTick_16 : decode cX1_passTick 16 = .ok (.iload_n 2, 1) := by decide +kernel
theorem dX1_passTick_17 : decode cX1_passTick 17 = .ok (.invokevirtual 60, 3) := by decide +kernel
theorem dX1_passTick_20 : decode cX1_passTick 20 = .ok (.aload_n 0, 1) := by decide +kernel
theorem dX1_passTick_21 : decode cX1_passTick 21 = .ok (.iload_n 2, 1) := by decide +kernel
theorem dX1_passTick_22 : decode cX1_passTick 22 = .ok (.invokevirtual 64, 3) := by decide +kernel
theorem dX1_passTick_25 : decode cX1_passTick 25 = .ok (.aload_n 0, 1) := by decide +kernel
theorem dX1_passTick_26 : decode cX1_passTick 26 = .ok (.invokevirtual 68, 3) := by decide +kernel
theorem dX1_passTick_29 : decode cX1_passTick 29 = .ok (.ifCond .eq 19, 3) := by decide +kernel
theorem dX1_passTick_32 : decode cX1_passTick 32 = .ok (.aload_n 0, 1) := by decide +kernel
theorem dX1_passTick_33 : decode cX1_passTick 33 = .ok (.aload_n 0, 1) := by decide +kernel
theorem dX1_passTick_34 : decode cX1_passTick 34 = .ok (.getfield 15, 3) := by decide +kernel
theorem dX1_passTick_37 : decode cX1_passTick 37 = .ok (.iconst 3, 1) := by decide +kernel
theorem dX1_passTick_38 : decode cX1_passTick 38 = .ok (.iadd, 1) := by decide +kernel
theorem dX1_passTick_39 : decode cX1_passTick 39 = .ok (.sipush 1000, 3) := by decide +kernel
theorem dX1_passTick_42 : decode cX1_passTick 42 = .ok (.invokestatic 72, 3) := by decide +kernel
theorem dX1_passTick_45 : decode cX1_passTick 45 = .ok (.putfield 15, 3) := by decide +kernel
theorem dX1_passTick_48 : decode cX1_passTick 48 = .ok (.return_, 1) := by decide +kernel
theorem dX1_pushOfStarter_0 : decode cX1_pushOfStarter 0 = .ok (.aload_n 0, 1) := by decide +kernel
theorem dX1_pushOfStarter_1 : decode cX1_pushOfStarter 1 = .ok (.getfield 28, 3) := by decide +kernel
theorem dX1_pushOfStarter_4 : decode cX1_pushOfStarter 4 = .ok (.sipush 500, 3) := by decide +kernel
theorem dX1_pushOfStarter_7 : decode cX1_pushOfStarter 7 = .ok (.if_icmp .ge 10, 3) := by decide +kernel
theorem dX1_pushOfStarter_10 : decode cX1_pushOfStarter 10 = .ok (.aload_n 0, 1) := by decide +kernel
theorem dX1_pushOfStarter_11 : decode cX1_pushOfStarter 11 = .ok (.getfield 15, 3) := by decide +kernel
theorem dX1_pushOfStarter_14 : decode cX1_pushOfStarter 14 = .ok (.ifCond .ne 8, 3) := by decide +kernel
theorem dX1_pushOfStarter_17 : decode cX1_pushOfStarter 17 = .ok (.aload_n 0, 1) := by decide +kernel
theorem dX1_pushOfStarter_18 : decode cX1_pushOfStarter 18 = .ok (.iconst 0, 1) := by decide +kernel
theorem dX1_pushOfStarter_19 : decode cX1_pushOfStarter 19 = .ok (.putfield 44, 3) := by decide +kernel
theorem dX1_pushOfStarter_22 : decode cX1_pushOfStarter 22 = .ok (.aload_n 0, 1) := by decide +kernel
theorem dX1_pushOfStarter_23 : decode cX1_pushOfStarter 23 = .ok (.getfield 44, 3) := by decide +kernel
theorem dX1_pushOfStarter_26 : decode cX1_pushOfStarter 26 = .ok (.ifCond .ne 5, 3) := by decide +kernel
theorem dX1_pushOfStarter_29 : decode cX1_pushOfStarter 29 = .ok (.iconst 0, 1) := by decide +kernel
theorem dX1_pushOfStarter_30 : decode cX1_pushOfStarter 30 = .ok (.ireturn, 1) := by decide +kernel
theorem dX1_pushOfStarter_31 : decode cX1_pushOfStarter 31 = .ok (.aload_n 0, 1) := by decide +kernel
theorem dX1_pushOfStarter_32 : decode cX1_pushOfStarter 32 = .ok (.aload_n 0, 1) := by decide +kernel
theorem dX1_pushOfStarter_33 : decode cX1_pushOfStarter 33 = .ok (.getfield 15, 3) := by decide +kernel
theorem dX1_pushOfStarter_36 : decode cX1_pushOfStarter 36 = .ok (.bipush 6, 2) := by decide +kernel
theorem dX1_pushOfStarter_38 : decode cX1_pushOfStarter 38 = .ok (.isub, 1) := by decide +kernel
theorem dX1_pushOfStarter_39 : decode cX1_pushOfStarter 39 = .ok (.iconst 0, 1) := by decide +kernel
theorem dX1_pushOfStarter_40 : decode cX1_pushOfStarter 40 = .ok (.invokestatic 78, 3) := by decide +kernel
theorem dX1_pushOfStarter_43 : decode cX1_pushOfStarter 43 = .ok (.putfield 15, 3) := by decide +kernel
theorem dX1_pushOfStarter_46 : decode cX1_pushOfStarter 46 = .ok (.aload_n 0, 1) := by decide +kernel
theorem dX1_pushOfStarter_47 : decode cX1_pushOfStarter 47 = .ok (.getfield 9, 3) := by decide +kernel
theorem dX1_pushOfStarter_50 : decode cX1_pushOfStarter 50 = .ok (.iconst 0, 1) := by decide +kernel
theorem dX1_pushOfStarter_51 : decode cX1_pushOfStarter 51 = .ok (.iaload, 1) := by decide +kernel
theorem dX1_pushOfStarter_52 : decode cX1_pushOfStarter 52 = .ok (.istore_n 1, 1) := by decide +kernel
theorem dX1_pushOfStarter_53 : decode cX1_pushOfStarter 53 = .ok (.aload_n 0, 1) := by decide +kernel
theorem dX1_pushOfStarter_54 : decode cX1_pushOfStarter 54 = .ok (.getfield 15, 3) := by decide +kernel
theorem dX1_pushOfStarter_57 : decode cX1_pushOfStarter 57 = .ok (.sipush 200, 3) := by decide +kernel
theorem dX1_pushOfStarter_60 : decode cX1_pushOfStarter 60 = .ok (.if_icmp .lt 7, 3) := by decide +kernel
theorem dX1_pushOfStarter_63 : decode cX1_pushOfStarter 63 = .ok (.iload_n 1, 1) := by decide +kernel
theorem dX1_pushOfStarter_64 : decode cX1_pushOfStarter 64 = .ok (.goto 13, 3) := by decide +kernel
theorem dX1_pushOfStarter_67 : decode cX1_pushOfStarter 67 = .ok (.iload_n 1, 1) := by decide +kernel
theorem dX1_pushOfStarter_68 : decode cX1_pushOfStarter 68 = .ok (.aload_n 0, 1) := by decide +kernel
theorem dX1_pushOfStarter_69 : decode cX1_pushOfStarter 69 = .ok (.getfield 15, 3) := by decide +kernel
theorem dX1_pushOfStarter_72 : decode cX1_pushOfStarter 72 = .ok (.imul, 1) := by decide +kernel
theorem dX1_pushOfStarter_73 : decode cX1_pushOfStarter 73 = .ok (.sipush 200, 3) := by decide +kernel
theorem dX1_pushOfStarter_76 : decode cX1_pushOfStarter 76 = .ok (.idiv, 1) := by decide +kernel
theorem dX1_pushOfStarter_77 : decode cX1_pushOfStarter 77 = .ok (.ireturn, 1) := by decide +kernel
theorem dX1_changeFlame_0 : decode cX1_changeFlame 0 = .ok (.aload_n 0, 1) := by decide +kernel
theorem dX1_changeFlame_1 : decode cX1_changeFlame 1 = .ok (.getfield 9, 3) := by decide +kernel
theorem dX1_changeFlame_4 : decode cX1_changeFlame 4 = .ok (.iconst 5, 1) := by decide +kernel
theorem dX1_changeFlame_5 : decode cX1_changeFlame 5 = .ok (.iaload, 1) := by decide +kernel
theorem dX1_changeFlame_6 : decode cX1_changeFlame 6 = .ok (.istore_n 1, 1) := by decide +kernel
theorem dX1_changeFlame_7 : decode cX1_changeFlame 7 = .ok (.aload_n 0, 1) := by decide +kernel
theorem dX1_changeFlame_8 : decode cX1_changeFlame 8 = .ok (.getfield 47, 3) := by decide +kernel
theorem dX1_changeFlame_11 : decode cX1_changeFlame 11 = .ok (.ifCond .eq 49, 3) := by decide +kernel
theorem dX1_changeFlame_14 : decode cX1_changeFlame 14 = .ok (.aload_n 0, 1) := by decide +kernel
theorem dX1_changeFlame_15 : decode cX1_changeFlame 15 = .ok (.getfield 34, 3) := by decide +kernel
theorem dX1_changeFlame_18 : decode cX1_changeFlame 18 = .ok (.ifCond .ne 14, 3) := by decide +kernel
theorem dX1_changeFlame_21 : decode cX1_changeFlame 21 = .ok (.aload_n 0, 1) := by decide +kernel
theorem dX1_changeFlame_22 : decode cX1_changeFlame 22 = .ok (.getfield 37, 3) := by decide +kernel
theorem dX1_changeFlame_25 : decode cX1_changeFlame 25 = .ok (.ifCond .ne 7, 3) := by decide +kernel
theorem dX1_changeFlame_28 : decode cX1_changeFlame 28 = .ok (.iconst 1, 1) := by decide +kernel
theorem dX1_changeFlame_29 : decode cX1_changeFlame 29 = .ok (.goto 4, 3) := by decide +kernel
theorem dX1_changeFlame_32 : decode cX1_changeFlame 32 = .ok (.iconst 0, 1) := by decide +kernel
theorem dX1_changeFlame_33 : decode cX1_changeFlame 33 = .ok (.istore_n 2, 1) := by decide +kernel
theorem dX1_changeFlame_34 : decode cX1_changeFlame 34 = .ok (.aload_n 0, 1) := by decide +kernel
theorem dX1_changeFlame_35 : decode cX1_changeFlame 35 = .ok (.iload_n 2, 1) := by decide +kernel
theorem dX1_changeFlame_36 : decode cX1_changeFlame 36 = .ok (.ifCond .ne 17, 3) := by decide +kernel
theorem dX1_changeFlame_39 : decode cX1_changeFlame 39 = .ok (.aload_n 0, 1) := by decide +kernel
theorem dX1_changeFlame_40 : decode cX1_changeFlame 40 = .ok (.getfield 28, 3) := by decide +kernel
theorem dX1_changeFlame_43 : decode cX1_changeFlame 43 = .ok (.iload_n 1, 1) := by decide +kernel
theorem dX1_changeFlame_44 : decode cX1_changeFlame 44 = .ok (.iconst 2, 1) := by decide +kernel
theorem dX1_changeFlame_45 : decode cX1_changeFlame 45 = .ok (.idiv, 1) := by decide +kernel
theorem dX1_changeFlame_46 : decode cX1_changeFlame 46 = .ok (.if_icmp .lt 7, 3) := by decide +kernel
theorem dX1_changeFlame_49 : decode cX1_changeFlame 49 = .ok (.iconst 1, 1) := by decide +kernel
theorem dX1_changeFlame_50 : decode cX1_changeFlame 50 = .ok (.goto 4, 3) := by decide +kernel
theorem dX1_changeFlame_53 : decode cX1_changeFlame 53 = .ok (.iconst 0, 1) := by decide +kernel
theorem dX1_changeFlame_54 : decode cX1_changeFlame 54 = .ok (.putfield 47, 3) := by decide +kernel
theorem dX1_changeFlame_57 : decode cX1_changeFlame 57 = .ok (.goto 62, 3) := by decide +kernel
theorem dX1_changeFlame_60 : decode cX1_changeFlame 60 = .ok (.aload_n 0, 1) := by decide +kernel
theorem dX1_changeFlame_61 : decode cX1_changeFlame 61 = .ok (.aload_n 0, 1) := by decide +kernel
theorem dX1_changeFlame_62 : decode cX1_changeFlame 62 = .ok (.getfield 37, 3) := by decide +kernel
theorem dX1_changeFlame_65 : decode cX1_changeFlame 65 = .ok (.aload_n 0, 1) := by decide +kernel
theorem dX1_changeFlame_66 : decode cX1_changeFlame 66 = .ok (.getfield 34, 3) := by decide +kernel
theorem dX1_changeFlame_69 : decode cX1_changeFlame 69 = .ok (.iadd, 1) := by decide +kernel
theorem dX1_changeFlame_70 : decode cX1_changeFlame 70 = .ok (.bipush 100, 2) := by decide +kernel
theorem dX1_changeFlame_72 : decode cX1_changeFlame 72 = .ok (.invokestatic 72, 3) := by decide +kernel
theorem dX1_changeFlame_75 : decode cX1_changeFlame 75 = .ok (.putfield 37, 3) := by decide +kernel
theorem dX1_changeFlame_78 : decode cX1_changeFlame 78 = .ok (.aload_n 0, 1) := by decide +kernel
theorem dX1_changeFlame_79 : decode cX1_changeFlame 79 = .ok (.aload_n 0, 1) := by decide +kernel
theorem dX1_changeFlame_80 : decode cX1_changeFlame 80 = .ok (.getfield 40, 3) := by decide +kernel
theorem dX1_changeFlame_83 : decode cX1_changeFlame 83 = .ok (.ifCond .eq 32, 3) := by decide +kernel
theorem dX1_changeFlame_86 : decode cX1_changeFlame 86 = .ok (.aload_n 0, 1) := by decide +kernel
theorem dX1_changeFlame_87 : decode cX1_changeFlame 87 = .ok (.getfield 37, 3) := by decide +kernel
theorem dX1_changeFlame_90 : decode cX1_changeFlame 90 = .ok (.ifCond .le 25, 3) := by decide +kernel
theorem dX1_changeFlame_93 : decode cX1_changeFlame 93 = .ok (.aload_n 0, 1) := by decide +kernel
theorem dX1_changeFlame_94 : decode cX1_changeFlame 94 = .ok (.getfield 28, 3) := by decide +kernel
theorem dX1_changeFlame_97 : decode cX1_changeFlame 97 = .ok (.iload_n 1, 1) := by decide +kernel
theorem dX1_changeFlame_98 : decode cX1_changeFlame 98 = .ok (.if_icmp .lt 17, 3) := by decide +kernel
theorem dX1_changeFlame_101 : decode cX1_changeFlame 101 = .ok (.aload_n 0, 1) := by decide +kernel
theorem dX1_changeFlame_102 : decode cX1_changeFlame 102 = .ok (.getfield 28, 3) := by decide +kernel
theorem dX1_changeFlame_105 : decode cX1_changeFlame 105 = .ok (.sipush 700, 3) := by decide +kernel
theorem dX1_changeFlame_108 : decode cX1_changeFlame 108 = .ok (.if_icmp .gt 7, 3) := by decide +kernel
theorem dX1_changeFlame_111 : decode cX1_changeFlame 111 = .ok (.iconst 1, 1) := by decide +kernel
theorem dX1_changeFlame_112 : decode cX1_changeFlame 112 = .ok (.goto 4, 3) := by decide +kernel
theorem dX1_changeFlame_115 : decode cX1_changeFlame 115 = .ok (.iconst 0, 1) := by decide +kernel
theorem dX1_changeFlame_116 : decode cX1_changeFlame 116 = .ok (.putfield 47, 3) := by decide +kernel
theorem dX1_changeFlame_119 : decode cX1_changeFlame 119 = .ok (.return_, 1) := by decide +kernel
theorem dX1_burn_0 : decode cX1_burn 0 = .ok (.aload_n 0, 1) := by decide +kernel
theorem dX1_burn_1 : decode cX1_burn 1 = .ok (.getfield 47, 3) := by decide +kernel
theorem dX1_burn_4 : decode cX1_burn 4 = .ok (.ifCond .ne 5, 3) := by decide +kernel
theorem dX1_burn_7 : decode cX1_burn 7 = .ok (.iconst 0, 1) := by decide +kernel
theorem dX1_burn_8 : decode cX1_burn 8 = .ok (.ireturn, 1) := by decide +kernel
theorem dX1_burn_9 : decode cX1_burn 9 = .ok (.aload_n 0, 1) := by decide +kernel
theorem dX1_burn_10 : decode cX1_burn 10 = .ok (.getfield 37, 3) := by decide +kernel
theorem dX1_burn_13 : decode cX1_burn 13 = .ok (.iconst 3, 1) := by decide +kernel
theorem dX1_burn_14 : decode cX1_burn 14 = .ok (.iadd, 1) := by decide +kernel
theorem dX1_burn_15 : decode cX1_burn 15 = .ok (.iconst 4, 1) := by decide +kernel
theorem dX1_burn_16 : decode cX1_burn 16 = .ok (.idiv, 1) := by decide +kernel
theorem dX1_burn_17 : decode cX1_burn 17 = .ok (.istore_n 1, 1) := by decide +kernel
theorem dX1_burn_18 : decode cX1_burn 18 = .ok (.aload_n 0, 1) := by decide +kernel
theorem dX1_burn_19 : decode cX1_burn 19 = .ok (.dup, 1) := by decide +kernel
theorem dX1_burn_20 : decode cX1_burn 20 = .ok (.getfield 37, 3) := by decide +kernel
theorem dX1_burn_23 : decode cX1_burn 23 = .ok (.iload_n 1, 1) := by decide +kernel
theorem dX1_burn_24 : decode cX1_burn 24 = .ok (.isub, 1) := by decide +kernel
theorem dX1_burn_25 : decode cX1_burn 25 = .ok (.putfield 37, 3) := by decide +kernel
theorem dX1_burn_28 : decode cX1_burn 28 = .ok (.aload_n 0, 1) := by decide +kernel
theorem dX1_burn_29 : decode cX1_burn 29 = .ok (.getfield 34, 3) := by decide +kernel
theorem dX1_burn_32 : decode cX1_burn 32 = .ok (.iload_n 1, 1) := by decide +kernel
theorem dX1_burn_33 : decode cX1_burn 33 = .ok (.iadd, 1) := by decide +kernel
theorem dX1_burn_34 : decode cX1_burn 34 = .ok (.ireturn, 1) := by decide +kernel
theorem dX1_changeSpeed_0 : decode cX1_changeSpeed 0 = .ok (.aload_n 0, 1) := by decide +kernel
theorem dX1_changeSpeed_1 : decode cX1_changeSpeed 1 = .ok (.getfield 28, 3) := by decide +kernel
theorem dX1_changeSpeed_4 : decode cX1_changeSpeed 4 = .ok (.iload_n 1, 1) := by decide +kernel
theorem dX1_changeSpeed_5 : decode cX1_changeSpeed 5 = .ok (.iadd, 1) := by decide +kernel
theorem dX1_changeSpeed_6 : decode cX1_changeSpeed 6 = .ok (.iload_n 2, 1) := by decide +kernel
theorem dX1_changeSpeed_7 : decode cX1_changeSpeed 7 = .ok (.aload_n 0, 1) := by decide +kernel
theorem dX1_changeSpeed_8 : decode cX1_changeSpeed 8 = .ok (.getfield 28, 3) := by decide +kernel
theorem dX1_changeSpeed_11 : decode cX1_changeSpeed 11 = .ok (.bipush 100, 2) := by decide +kernel
theorem dX1_changeSpeed_13 : decode cX1_changeSpeed 13 = .ok (.iadd, 1) := by decide +kernel
theorem dX1_changeSpeed_14 : decode cX1_changeSpeed 14 = .ok (.imul, 1) := by decide +kernel
theorem dX1_changeSpeed_15 : decode cX1_changeSpeed 15 = .ok (.sipush 160, 3) := by decide +kernel
theorem dX1_changeSpeed_18 : decode cX1_changeSpeed 18 = .ok (.idiv, 1) := by decide +kernel
theorem dX1_changeSpeed_19 : decode cX1_changeSpeed 19 = .ok (.iadd, 1) := by decide +kernel
theorem dX1_changeSpeed_20 : decode cX1_changeSpeed 20 = .ok (.istore_n 3, 1) := by decide +kernel
theorem dX1_changeSpeed_21 : decode cX1_changeSpeed 21 = .ok (.aload_n 0, 1) := by decide +kernel
theorem dX1_changeSpeed_22 : decode cX1_changeSpeed 22 = .ok (.iload_n 3, 1) := by decide +kernel
theorem dX1_changeSpeed_23 : decode cX1_changeSpeed 23 = .ok (.iload_n 3, 1) := by decide +kernel
theorem dX1_changeSpeed_24 : decode cX1_changeSpeed 24 = .ok (.aload_n 0, 1) := by decide +kernel
theorem dX1_changeSpeed_25 : decode cX1_changeSpeed 25 = .ok (.getfield 9, 3) := by decide +kernel
theorem dX1_changeSpeed_28 : decode cX1_changeSpeed 28 = .ok (.iconst 1, 1) := by decide +kernel
theorem dX1_changeSpeed_29 : decode cX1_changeSpeed 29 = .ok (.iaload, 1) := by decide +kernel
theorem dX1_changeSpeed_30 : decode cX1_changeSpeed 30 = .ok (.imul, 1) := by decide +kernel
theorem dX1_changeSpeed_31 : decode cX1_changeSpeed 31 = .ok (.bipush 100, 2) := by decide +kernel
theorem dX1_changeSpeed_33 : decode cX1_changeSpeed 33 = .ok (.idiv, 1) := by decide +kernel
theorem dX1_changeSpeed_34 : decode cX1_changeSpeed 34 = .ok (.isub, 1) := by decide +kernel
theorem dX1_changeSpeed_35 : decode cX1_changeSpeed 35 = .ok (.sipush 1100, 3) := by decide +kernel
theorem dX1_changeSpeed_38 : decode cX1_changeSpeed 38 = .ok (.invokestatic 72, 3) := by decide +kernel
theorem dX1_changeSpeed_41 : decode cX1_changeSpeed 41 = .ok (.putfield 28, 3) := by decide +kernel
theorem dX1_changeSpeed_44 : decode cX1_changeSpeed 44 = .ok (.return_, 1) := by decide +kernel
theorem dX1_changeHeat_0 : decode cX1_changeHeat 0 = .ok (.aload_n 0, 1) := by decide +kernel
theorem dX1_changeHeat_1 : decode cX1_changeHeat 1 = .ok (.getfield 31, 3) := by decide +kernel
theorem dX1_changeHeat_4 : decode cX1_changeHeat 4 = .ok (.iload_n 1, 1) := by decide +kernel
theorem dX1_changeHeat_5 : decode cX1_changeHeat 5 = .ok (.aload_n 0, 1) := by decide +kernel
theorem dX1_changeHeat_6 : decode cX1_changeHeat 6 = .ok (.getfield 9, 3) := by decide +kernel
theorem dX1_changeHeat_9 : decode cX1_changeHeat 9 = .ok (.iconst 2, 1) := by decide +kernel
theorem dX1_changeHeat_10 : decode cX1_changeHeat 10 = .ok (.iaload, 1) := by decide +kernel
theorem dX1_changeHeat_11 : decode cX1_changeHeat 11 = .ok (.imul, 1) := by decide +kernel
theorem dX1_changeHeat_12 : decode cX1_changeHeat 12 = .ok (.iadd, 1) := by decide +kernel
theorem dX1_changeHeat_13 : decode cX1_changeHeat 13 = .ok (.sipush 2000, 3) := by decide +kernel
theorem dX1_changeHeat_16 : decode cX1_changeHeat 16 = .ok (.invokestatic 72, 3) := by decide +kernel
theorem dX1_changeHeat_19 : decode cX1_changeHeat 19 = .ok (.istore_n 2, 1) := by decide +kernel
theorem dX1_changeHeat_20 : decode cX1_changeHeat 20 = .ok (.iload_n 2, 1) := by decide +kernel
theorem dX1_changeHeat_21 : decode cX1_changeHeat 21 = .ok (.aload_n 0, 1) := by decide +kernel
theorem dX1_changeHeat_22 : decode cX1_changeHeat 22 = .ok (.getfield 9, 3) := by decide +kernel
theorem dX1_changeHeat_25 : decode cX1_changeHeat 25 = .ok (.iconst 3, 1) := by decide +kernel
theorem dX1_changeHeat_26 : decode cX1_changeHeat 26 = .ok (.iaload, 1) := by decide +kernel
theorem dX1_changeHeat_27 : decode cX1_changeHeat 27 = .ok (.imul, 1) := by decide +kernel
theorem dX1_changeHeat_28 : decode cX1_changeHeat 28 = .ok (.aload_n 0, 1) := by decide +kernel
theorem dX1_changeHeat_29 : decode cX1_changeHeat 29 = .ok (.getfield 28, 3) := by decide +kernel
theorem dX1_changeHeat_32 : decode cX1_changeHeat 32 = .ok (.sipush 200, 3) := by decide +kernel
theorem dX1_changeHeat_35 : decode cX1_changeHeat 35 = .ok (.iadd, 1) := by decide +kernel
theorem dX1_changeHeat_36 : decode cX1_changeHeat 36 = .ok (.imul, 1) := by decide +kernel
theorem dX1_changeHeat_37 : decode cX1_changeHeat 37 = .ok (.sipush 20000, 3) := by decide +kernel
theorem dX1_changeHeat_40 : decode cX1_changeHeat 40 = .ok (.idiv, 1) := by decide +kernel
theorem dX1_changeHeat_41 : decode cX1_changeHeat 41 = .ok (.istore_n 3, 1) := by decide +kernel
theorem dX1_changeHeat_42 : decode cX1_changeHeat 42 = .ok (.aload_n 0, 1) := by decide +kernel
theorem dX1_changeHeat_43 : decode cX1_changeHeat 43 = .ok (.iload_n 2, 1) := by decide +kernel
theorem dX1_changeHeat_44 : decode cX1_changeHeat 44 = .ok (.iload_n 3, 1) := by decide +kernel
theorem dX1_changeHeat_45 : decode cX1_changeHeat 45 = .ok (.isub, 1) := by decide +kernel
theorem dX1_changeHeat_46 : decode cX1_changeHeat 46 = .ok (.iconst 0, 1) := by decide +kernel
theorem dX1_changeHeat_47 : decode cX1_changeHeat 47 = .ok (.invokestatic 78, 3) := by decide +kernel
theorem dX1_changeHeat_50 : decode cX1_changeHeat 50 = .ok (.putfield 31, 3) := by decide +kernel
theorem dX1_changeHeat_53 : decode cX1_changeHeat 53 = .ok (.return_, 1) := by decide +kernel
set_option maxRecDepth 20000 in
theorem ggX2_init_X5_init : GoodIn wsX2_init wsX5_init := goodIn_r _ [9, 10, 2, 3, 11, 12, 13, 14, 15, 16, 17, 18, 19, 20, 21, 22, 23, 24, 25, 26, 27, 28, 29, 30, 31, 32, 33, 34, 35, 36, 37, 38, 39, 40, 41, 42, 43, 44, 45, 46, 47, 56, 57, 58, 59, 60, 61, 62, 63, 64, 51, 52, 53, 54, 55, 65, 66, 67, 68, 69, 70, 71, 72, 73, 74, 75, 76, 77] (by decide +kernel) (by decide +kernel)
set_option maxRecDepth 20000 in
theorem gX2_init_X5_init_n17 : GoodIn wsX2_init (wsX5_init) := ggX2_init_X5_init
theorem dX2_init_0 : decode cX2_init 0 = .ok (.aload_n 0, 1) := by decide +kernel
theorem dX2_init_1 : decode cX2_init 1 = .ok (.invokespecial 3, 3) := by decide +kernel
theorem dX2_init_4 : decode cX2_init 4 = .ok (.aload_n 0, 1) := by decide +kernel
theorem dX2_init_5 : decode cX2_init 5 = .ok (.bipush 6, 2) := by decide +kernel
theorem dX2_init_7 : decode cX2_init 7 = .ok (.anewarray 9, 3) := by decide +kernel
theorem dX2_init_10 : decode cX2_init 10 = .ok (.putfield 11, 3) := by decide +kernel
theorem dX2_init_13 : decode cX2_init 13 = .ok (.iconst 0, 1) := by decide +kernel
theorem dX2_init_14 : decode cX2_init 14 = .ok (.istore_n 1, 1) := by decide +kernel
theorem dX2_init_15 : decode cX2_init 15 = .ok (.iload_n 1, 1) := by decide +kernel
theorem dX2_init_16 : decode cX2_init 16 = .ok (.bipush 6, 2) := by decide +kernel
theorem dX2_init_18 : decode cX2_init 18 = .ok (.if_icmp .ge 22, 3) := by decide +kernel
theorem dX2_init_21 : decode cX2_init 21 = .ok (.aload_n 0, 1) := by decide +kernel
theorem dX2_init_22 : decode cX2_init 22 = .ok (.getfield 11, 3) := by decide +kernel
theorem dX2_init_25 : decode cX2_init 25 = .ok (.iload_n 1, 1) := by decide +kernel
theorem dX2_init_26 : decode cX2_init 26 = .ok (.new 9, 3) := by decide +kernel
theorem dX2_init_29 : decode cX2_init 29 = .ok (.dup, 1) := by decide +kernel
theorem dX2_init_30 : decode cX2_init 30 = .ok (.invokespecial 17, 3) := by decide +kernel
theorem dX2_init_33 : decode cX2_init 33 = .ok (.aastore, 1) := by decide +kernel
theorem dX2_init_34 : decode cX2_init 34 = .ok (.iinc 1 1, 3) := by decide +kernel
theorem dX2_init_37 : decode cX2_init 37 = .ok (.goto (-22), 3) := by decide +kernel
theorem dX2_init_40 : decode cX2_init 40 = .ok (.return_, 1) := by decide +kernel
set_option maxRecDepth 20000 in
theorem ggX2_keep_X5_copyFrom : GoodIn wsX2_keep wsX5_copyFrom := goodIn_r _ [7, 8, 9, 10, 11, 12, 13, 14, 15, 16, 17, 18, 19, 20, 21, 22, 23, 24, 25, 26, 27, 28, 29, 30, 31, 32, 33, 34, 35, 36, 37, 38, 39, 40, 41, 42, 43, 44, 45, 46, 47, 48, 49, 50, 51, 52, 53, 54, 55, 56, 60, 61, 62, 63, 64, 65, 66, 67, 68, 69, 70, 71, 72, 73, 74, 75, 76, 77, 78, 79, 80, 81, 82, 83, 84, 85, 86] (by decide +kernel) (by decide +kernel)
set_option maxRecDepth 20000 in
theorem gX2_keep_X5_copyFrom_n25 : GoodIn wsX2_keep (wsX5_copyFrom) := ggX2_keep_X5_copyFrom
theorem dX2_keep_0 : decode cX2_keep 0 = .ok (.aload_n 0, 1) := by decide +kernel
theorem dX2_keep_1 : decode cX2_keep 1 = .ok (.getfield 11, 3) := by decide +kernel
theorem dX2_keep_4 : decode cX2_keep 4 = .ok (.aload_n 0, 1) := by decide +kernel
theorem dX2_keep_5 : decode cX2_keep 5 = .ok (.getfield 18, 3) := by decide +kernel
theorem dX2_keep_8 : decode cX2_keep 8 = .ok (.aload_n 0, 1) := by decide +kernel
theorem dX2_keep_9 : decode cX2_keep 9 = .ok (.getfield 22, 3) := by decide +kernel
theorem dX2_keep_12 : decode cX2_keep 12 = .ok (.iadd, 1) := by decide +kernel
theorem dX2_keep_13 : decode cX2_keep 13 = .ok (.bipush 6, 2) := by decide +kernel
theorem dX2_keep_15 : decode cX2_keep 15 = .ok (.irem, 1) := by decide +kernel
theorem dX2_keep_16 : decode cX2_keep 16 = .ok (.aaload, 1) := by decide +kernel
theorem dX2_keep_17 : decode cX2_keep 17 = .ok (.aload_n 1, 1) := by decide +kernel
theorem dX2_keep_18 : decode cX2_keep 18 = .ok (.invokevirtual 25, 3) := by decide +kernel
theorem dX2_keep_21 : decode cX2_keep 21 = .ok (.aload_n 0, 1) := by decide +kernel
theorem dX2_keep_22 : decode cX2_keep 22 = .ok (.getfield 22, 3) := by decide +kernel
theorem dX2_keep_25 : decode cX2_keep 25 = .ok (.bipush 6, 2) := by decide +kernel
theorem dX2_keep_27 : decode cX2_keep 27 = .ok (.if_icmp .ge 16, 3) := by decide +kernel
theorem dX2_keep_30 : decode cX2_keep 30 = .ok (.aload_n 0, 1) := by decide +kernel
theorem dX2_keep_31 : decode cX2_keep 31 = .ok (.dup, 1) := by decide +kernel
theorem dX2_keep_32 : decode cX2_keep 32 = .ok (.getfield 22, 3) := by decide +kernel
theorem dX2_keep_35 : decode cX2_keep 35 = .ok (.iconst 1, 1) := by decide +kernel
theorem dX2_keep_36 : decode cX2_keep 36 = .ok (.iadd, 1) := by decide +kernel
theorem dX2_keep_37 : decode cX2_keep 37 = .ok (.putfield 22, 3) := by decide +kernel
theorem dX2_keep_40 : decode cX2_keep 40 = .ok (.goto 16, 3) := by decide +kernel
theorem dX2_keep_43 : decode cX2_keep 43 = .ok (.aload_n 0, 1) := by decide +kernel
theorem dX2_keep_44 : decode cX2_keep 44 = .ok (.aload_n 0, 1) := by decide +kernel
theorem dX2_keep_45 : decode cX2_keep 45 = .ok (.getfield 18, 3) := by decide +kernel
theorem dX2_keep_48 : decode cX2_keep 48 = .ok (.iconst 1, 1) := by decide +kernel
theorem dX2_keep_49 : decode cX2_keep 49 = .ok (.iadd, 1) := by decide +kernel
theorem dX2_keep_50 : decode cX2_keep 50 = .ok (.bipush 6, 2) := by decide +kernel
theorem dX2_keep_52 : decode cX2_keep 52 = .ok (.irem, 1) := by decide +kernel
theorem dX2_keep_53 : decode cX2_keep 53 = .ok (.putfield 18, 3) := by decide +kernel
theorem dX2_keep_56 : decode cX2_keep 56 = .ok (.return_, 1) := by decide +kernel
set_option maxRecDepth 20000 in
theorem ggX2_takeLatest_X5_copyFrom : GoodIn wsX2_takeLatest wsX5_copyFrom := goodIn_r _ [7, 8, 9, 10, 11, 12, 13, 14, 15, 16, 17, 18, 19, 20, 21, 22, 23, 24, 25, 26, 27, 28, 29, 30, 31, 32, 33, 34, 35, 36, 37, 38, 39, 40, 41, 42, 43, 44, 45, 46, 47, 48, 49, 50, 51, 52, 53, 54, 55, 56, 60, 61, 62, 63, 64, 65, 66, 67, 68, 69, 70, 71, 72, 73, 74, 75, 76, 77, 78, 79, 80, 81, 82, 83, 84, 85, 86] (by decide +kernel) (by decide +kernel)
set_option maxRecDepth 20000 in
theorem gX2_takeLatest_X5_copyFrom_n25 : GoodIn wsX2_takeLatest (wsX5_copyFrom) := ggX2_takeLatest_X5_copyFrom
theorem dX2_takeLatest_0 : decode cX2_takeLatest 0 = .ok (.aload_n 0, 1) := by decide +kernel
theorem dX2_takeLatest_1 : decode cX2_takeLatest 1 = .ok (.getfield 22, 3) := by decide +kernel
theorem dX2_takeLatest_4 : decode cX2_takeLatest 4 = .ok (.ifCond .le 34, 3) := by decide +kernel
theorem dX2_takeLatest_7 : decode cX2_takeLatest 7 = .ok (.aload_n 0, 1) := by decide +kernel
theorem dX2_takeLatest_8 : decode cX2_takeLatest 8 = .ok (.dup, 1) := by decide +kernel
theorem dX2_takeLatest_9 : decode cX2_takeLatest 9 = .ok (.getfield 22, 3) := by decide +kernel
theorem dX2_takeLatest_12 : decode cX2_takeLatest 12 = .ok (.iconst 1, 1) := by decide +kernel
theorem dX2_takeLatest_13 : decode cX2_takeLatest 13 = .ok (.isub, 1) := by decide +kernel
theorem dX2_takeLatest_14 : decode cX2_takeLatest 14 = .ok (.putfield 22, 3) := by decide +kernel
theorem dX2_takeLatest_17 : decode cX2_takeLatest 17 = .ok (.aload_n 1, 1) := by decide +kernel
theorem dX2_takeLatest_18 : decode cX2_takeLatest 18 = .ok (.aload_n 0, 1) := by decide +kernel
theorem dX2_takeLatest_19 : decode cX2_takeLatest 19 = .ok (.getfield 11, 3) := by decide +kernel
theorem dX2_takeLatest_22 : decode cX2_takeLatest 22 = .ok (.aload_n 0, 1) := by decide +kernel
theorem dX2_takeLatest_23 : decode cX2_takeLatest 23 = .ok (.getfield 18, 3) := by decide +kernel
theorem dX2_takeLatest_26 : decode cX2_takeLatest 26 = .ok (.aload_n 0, 1) := by decide +kernel
theorem dX2_takeLatest_27 : decode cX2_takeLatest 27 = .ok (.getfield 22, 3) := by decide +kernel
theorem dX2_takeLatest_30 : decode cX2_takeLatest 30 = .ok (.iadd, 1) := by decide +kernel
theorem dX2_takeLatest_31 : decode cX2_takeLatest 31 = .ok (.bipush 6, 2) := by decide +kernel
theorem dX2_takeLatest_33 : decode cX2_takeLatest 33 = .ok (.irem, 1) := by decide +kernel
theorem dX2_takeLatest_34 : decode cX2_takeLatest 34 = .ok (.aaload, 1) := by decide +kernel
theorem dX2_takeLatest_35 : decode cX2_takeLatest 35 = .ok (.invokevirtual 25, 3) := by decide +kernel
theorem dX2_takeLatest_38 : decode cX2_takeLatest 38 = .ok (.return_, 1) := by decide +kernel
theorem dX3_init_0 : decode cX3_init 0 = .ok (.aload_n 0, 1) := by decide +kernel
theorem dX3_init_1 : decode cX3_init 1 = .ok (.invokespecial 3, 3) := by decide +kernel
theorem dX3_init_4 : decode cX3_init 4 = .ok (.aload_n 0, 1) := by decide +kernel
theorem dX3_init_5 : decode cX3_init 5 = .ok (.bipush 40, 2) := by decide +kernel
theorem dX3_init_7 : decode cX3_init 7 = .ok (.newarray .int, 2) := by decide +kernel
theorem dX3_init_9 : decode cX3_init 9 = .ok (.putfield 11, 3) := by decide +kernel
theorem dX3_init_12 : decode cX3_init 12 = .ok (.return_, 1) := by decide +kernel
theorem dX3_copyFrom_0 : decode cX3_copyFrom 0 = .ok (.aload_n 1, 1) := by decide +kernel
theorem dX3_copyFrom_1 : decode cX3_copyFrom 1 = .ok (.getfield 11, 3) := by decide +kernel
theorem dX3_copyFrom_4 : decode cX3_copyFrom 4 = .ok (.iconst 0, 1) := by decide +kernel
theorem dX3_copyFrom_5 : decode cX3_copyFrom 5 = .ok (.aload_n 0, 1) := by decide +kernel
theorem dX3_copyFrom_6 : decode cX3_copyFrom 6 = .ok (.getfield 11, 3) := by decide +kernel
theorem dX3_copyFrom_9 : decode cX3_copyFrom 9 = .ok (.iconst 0, 1) := by decide +kernel
theorem dX3_copyFrom_10 : decode cX3_copyFrom 10 = .ok (.bipush 40, 2) := by decide +kernel
theorem dX3_copyFrom_12 : decode cX3_copyFrom 12 = .ok (.invokestatic 15, 3) := by decide +kernel
theorem dX3_copyFrom_15 : decode cX3_copyFrom 15 = .ok (.aload_n 0, 1) := by decide +kernel
theorem dX3_copyFrom_16 : decode cX3_copyFrom 16 = .ok (.aload_n 1, 1) := by decide +kernel
theorem dX3_copyFrom_17 : decode cX3_copyFrom 17 = .ok (.getfield 21, 3) := by decide +kernel
theorem dX3_copyFrom_20 : decode cX3_copyFrom 20 = .ok (.putfield 21, 3) := by decide +kernel
theorem dX3_copyFrom_23 : decode cX3_copyFrom 23 = .ok (.return_, 1) := by decide +kernel
theorem dX3_add_0 : decode cX3_add 0 = .ok (.bipush 39, 2) := by decide +kernel
theorem dX3_add_2 : decode cX3_add 2 = .ok (.istore 4, 2) := by decide +kernel
theorem dX3_add_4 : decode cX3_add 4 = .ok (.iload 4, 2) := by decide +kernel
theorem dX3_add_6 : decode cX3_add 6 = .ok (.iconst 4, 1) := by decide +kernel
theorem dX3_add_7 : decode cX3_add 7 = .ok (.if_icmp .lt 25, 3) := by decide +kernel
theorem dX3_add_10 : decode cX3_add 10 = .ok (.aload_n 0, 1) := by decide +kernel
theorem dX3_add_11 : decode cX3_add 11 = .ok (.getfield 11, 3) := by decide +kernel
theorem dX3_add_14 : decode cX3_add 14 = .ok (.iload 4, 2) := by decide +kernel
theorem dX3_add_16 : decode cX3_add 16 = .ok (.aload_n 0, 1) := by decide +kernel
theorem dX3_add_17 : decode cX3_add 17 = .ok (.getfield 11, 3) := by decide +kernel
theorem dX3_add_20 : decode cX3_add 20 = .ok (.iload 4, 2) := by decide +kernel
theorem dX3_add_22 : decode cX3_add 22 = .ok (.iconst 4, 1) := by decide +kernel
theorem dX3_add_23 : decode cX3_add 23 = .ok (.isub, 1) := by decide +kernel
theorem dX3_add_24 : decode cX3_add 24 = .ok (.iaload, 1) := by decide +kernel
theorem dX3_add_25 : decode cX3_add 25 = .ok (.iastore, 1) := by decide +kernel
theorem dX3_add_26 : decode cX3_add 26 = .ok (.iinc 4 (-1), 3) := by decide +kernel
theorem dX3_add_29 : decode cX3_add 29 = .ok (.goto (-25), 3) := by decide +kernel
theorem dX3_add_32 : decode cX3_add 32 = .ok (.aload_n 0, 1) := by decide +kernel
theorem dX3_add_33 : decode cX3_add 33 = .ok (.getfield 11, 3) := by decide +kernel
theorem dX3_add_36 : decode cX3_add 36 = .ok (.iconst 0, 1) := by decide +kernel
theorem dX3_add_37 : decode cX3_add 37 = .ok (.iload_n 1, 1) := by decide +kernel
theorem dX3_add_38 : decode cX3_add 38 = .ok (.iastore, 1) := by decide +kernel
theorem dX3_add_39 : decode cX3_add 39 = .ok (.aload_n 0, 1) := by decide +kernel
theorem dX3_add_40 : decode cX3_add 40 = .ok (.getfield 11, 3) := by decide +kernel
theorem dX3_add_43 : decode cX3_add 43 = .ok (.iconst 1, 1) := by decide +kernel
theorem dX3_add_44 : decode cX3_add 44 = .ok (.aload_n 2, 1) := by decide +kernel
theorem dX3_add_45 : decode cX3_add 45 = .ok (.getfield 25, 3) := by decide +kernel
theorem dX3_add_48 : decode cX3_add 48 = .ok (.iastore, 1) := by decide +kernel
theorem dX3_add_49 : decode cX3_add 49 = .ok (.aload_n 0, 1) := by decide +kernel
theorem dX3_add_50 : decode cX3_add 50 = .ok (.getfield 11, 3) := by decide +kernel
theorem dX3_add_53 : decode cX3_add 53 = .ok (.iconst 2, 1) := by decide +kernel
theorem dX3_add_54 : decode cX3_add 54 = .ok (.aload_n 2, 1) := by decide +kernel
theorem dX3_add_55 : decode cX3_add 55 = .ok (.getfield 30, 3) := by decide +kernel
theorem dX3_add_58 : decode cX3_add 58 = .ok (.iastore, 1) := by decide +kernel
theorem dX3_add_59 : decode cX3_add 59 = .ok (.aload_n 0, 1) := by decide +kernel
theorem dX3_add_60 : decode cX3_add 60 = .ok (.getfield 11, 3) := by decide +kernel
theorem dX3_add_63 : decode cX3_add 63 = .ok (.iconst 3, 1) := by decide +kernel
theorem dX3_add_64 : decode cX3_add 64 = .ok (.aload_n 2, 1) := by decide +kernel
theorem dX3_add_65 : decode cX3_add 65 = .ok (.getfield 33, 3) := by decide +kernel
theorem dX3_add_68 : decode cX3_add 68 = .ok (.iload_n 3, 1) := by decide +kernel
theorem dX3_add_69 : decode cX3_add 69 = .ok (.isub, 1) := by decide +kernel
theorem dX3_add_70 : decode cX3_add 70 = .ok (.sipush 2000, 3) := by decide +kernel
theorem dX3_add_73 : decode cX3_add 73 = .ok (.iadd, 1) := by decide +kernel
theorem dX3_add_74 : decode cX3_add 74 = .ok (.iastore, 1) := by decide +kernel
theorem dX3_add_75 : decode cX3_add 75 = .ok (.aload_n 0, 1) := by decide +kernel
theorem dX3_add_76 : decode cX3_add 76 = .ok (.aload_n 0, 1) := by decide +kernel
theorem dX3_add_77 : decode cX3_add 77 = .ok (.getfield 21, 3) := by decide +kernel
theorem dX3_add_80 : decode cX3_add 80 = .ok (.iconst 1, 1) := by decide +kernel
theorem dX3_add_81 : decode cX3_add 81 = .ok (.iadd, 1) := by decide +kernel
theorem dX3_add_82 : decode cX3_add 82 = .ok (.bipush 10, 2) := by decide +kernel
theorem dX3_add_84 : decode cX3_add 84 = .ok (.invokestatic 36, 3) := by decide +kernel
theorem dX3_add_87 : decode cX3_add 87 = .ok (.putfield 21, 3) := by decide +kernel
theorem dX3_add_90 : decode cX3_add 90 = .ok (.return_, 1) := by decide +kernel
theorem dX3_numberOf_0 : decode cX3_numberOf 0 = .ok (.iload_n 1, 1) := by decide +kernel
theorem dX3_numberOf_1 : decode cX3_numberOf 1 = .ok (.ifCond .lt 20, 3) := by decide +kernel
theorem dX3_numberOf_4 : decode cX3_numberOf 4 = .ok (.iload_n 1, 1) := by decide +kernel
theorem dX3_numberOf_5 : decode cX3_numberOf 5 = .ok (.aload_n 0, 1) := by decide +kernel
theorem dX3_numberOf_6 : decode cX3_numberOf 6 = .ok (.getfield 21, 3) := by decide +kernel
theorem dX3_numberOf_9 : decode cX3_numberOf 9 = .ok (.if_icmp .ge 12, 3) := by decide +kernel
theorem dX3_numberOf_12 : decode cX3_numberOf 12 = .ok (.iload_n 2, 1) := by decide +kernel
theorem dX3_numberOf_13 : decode cX3_numberOf 13 = .ok (.ifCond .lt 8, 3) := by decide +kernel
theorem dX3_numberOf_16 : decode cX3_numberOf 16 = .ok (.iload_n 2, 1) := by decide +kernel
theorem dX3_numberOf_17 : decode cX3_numberOf 17 = .ok (.iconst 4, 1) := by decide +kernel
theorem dX3_numberOf_18 : decode cX3_numberOf 18 = .ok (.if_icmp .lt 6, 3) := by decide +kernel
theorem dX3_numberOf_21 : decode cX3_numberOf 21 = .ok (.bipush (-6), 2) := by decide +kernel
theorem dX3_numberOf_23 : decode cX3_numberOf 23 = .ok (.ireturn, 1) := by decide +kernel
theorem dX3_numberOf_24 : decode cX3_numberOf 24 = .ok (.aload_n 0, 1) := by decide +kernel
theorem dX3_numberOf_25 : decode cX3_numberOf 25 = .ok (.getfield 11, 3) := by decide +kernel
theorem dX3_numberOf_28 : decode cX3_numberOf 28 = .ok (.iload_n 1, 1) := by decide +kernel
theorem dX3_numberOf_29 : decode cX3_numberOf 29 = .ok (.iconst 4, 1) := by decide +kernel
theorem dX3_numberOf_30 : decode cX3_numberOf 30 = .ok (.imul, 1) := by decide +kernel
theorem dX3_numberOf_31 : decode cX3_numberOf 31 = .ok (.iload_n 2, 1) := by decide +kernel
theorem dX3_numberOf_32 : decode cX3_numberOf 32 = .ok (.iadd, 1) := by decide +kernel
theorem dX3_numberOf_33 : decode cX3_numberOf 33 = .ok (.iaload, 1) := by decide +kernel
theorem dX3_numberOf_34 : decode cX3_numberOf 34 = .ok (.ireturn, 1) := by decide +kernel
theorem dX4_init_0 : decode cX4_init 0 = .ok (.aload_n 0, 1) := by decide +kernel
theorem dX4_init_1 : decode cX4_init 1 = .ok (.invokespecial 3, 3) := by decide +kernel
theorem dX4_init_4 : decode cX4_init 4 = .ok (.aload_n 0, 1) := by decide +kernel
theorem dX4_init_5 : decode cX4_init 5 = .ok (.bipush 60, 2) := by decide +kernel
theorem dX4_init_7 : decode cX4_init 7 = .ok (.newarray .char, 2) := by decide +kernel
theorem dX4_init_9 : decode cX4_init 9 = .ok (.putfield 9, 3) := by decide +kernel
theorem dX4_init_12 : decode cX4_init 12 = .ok (.return_, 1) := by decide +kernel
theorem dX4_charactersIn_0 : decode cX4_charactersIn 0 = .ok (.iconst 0, 1) := by decide +kernel
theorem dX4_charactersIn_1 : decode cX4_charactersIn 1 = .ok (.istore_n 2, 1) := by decide +kernel
theorem dX4_charactersIn_2 : decode cX4_charactersIn 2 = .ok (.lload_n 0, 1) := by decide +kernel
theorem dX4_charactersIn_3 : decode cX4_charactersIn 3 = .ok (.lstore_n 3, 1) := by decide +kernel
theorem dX4_charactersIn_4 : decode cX4_charactersIn 4 = .ok (.iconst 0, 1) := by decide +kernel
theorem dX4_charactersIn_5 : decode cX4_charactersIn 5 = .ok (.istore 5, 2) := by decide +kernel
theorem dX4_charactersIn_7 : decode cX4_charactersIn 7 = .ok (.iload 5, 2) := by decide +kernel
theorem dX4_charactersIn_9 : decode cX4_charactersIn 9 = .ok (.bipush 8, 2) := by decide +kernel
theorem dX4_charactersIn_11 : decode cX4_charactersIn 11 = .ok (.if_icmp .ge 50, 3) := by decide +kernel
theorem dX4_charactersIn_14 : decode cX4_charactersIn 14 = .ok (.lload_n 3, 1) := by decide +kernel
theorem dX4_charactersIn_15 : decode cX4_charactersIn 15 = .ok (.lconst 0, 1) := by decide +kernel
theorem dX4_charactersIn_16 : decode cX4_charactersIn 16 = .ok (.lcmp, 1) := by decide +kernel
theorem dX4_charactersIn_17 : decode cX4_charactersIn 17 = .ok (.ifCond .eq 44, 3) := by decide +kernel
theorem dX4_charactersIn_20 : decode cX4_charactersIn 20 = .ok (.lload_n 3, 1) := by decide +kernel
theorem dX4_charactersIn_21 : decode cX4_charactersIn 21 = .ok (.ldc2_w 15, 3) := by decide +kernel
theorem dX4_charactersIn_24 : decode cX4_charactersIn 24 = .ok (.land, 1) := by decide +kernel
theorem dX4_charactersIn_25 : decode cX4_charactersIn 25 = .ok (.lstore 6, 2) := by decide +kernel
theorem dX4_charactersIn_27 : decode cX4_charactersIn 27 = .ok (.lload 6, 2) := by decide +kernel
theorem dX4_charactersIn_29 : decode cX4_charactersIn 29 = .ok (.ldc2_w 17, 3) := by decide +kernel
theorem dX4_charactersIn_32 : decode cX4_charactersIn 32 = .ok (.lcmp, 1) := by decide +kernel
theorem dX4_charactersIn_33 : decode cX4_charactersIn 33 = .ok (.ifCond .lt 12, 3) := by decide +kernel
theorem dX4_charactersIn_36 : decode cX4_charactersIn 36 = .ok (.lload 6, 2) := by decide +kernel
theorem dX4_charactersIn_38 : decode cX4_charactersIn 38 = .ok (.ldc2_w 19, 3) := by decide +kernel
theorem dX4_charactersIn_41 : decode cX4_charactersIn 41 = .ok (.lcmp, 1) := by decide +kernel
theorem dX4_charactersIn_42 : decode cX4_charactersIn 42 = .ok (.ifCond .le 5, 3) := by decide +kernel
theorem dX4_charactersIn_45 : decode cX4_charactersIn 45 = .ok (.iconst 0, 1) := by decide +kernel
theorem dX4_charactersIn_46 : decode cX4_charactersIn 46 = .ok (.ireturn, 1) := by decide +kernel
theorem dX4_charactersIn_47 : decode cX4_charactersIn 47 = .ok (.iinc 2 1, 3) := by decide +kernel
theorem dX4_charactersIn_50 : decode cX4_charactersIn 50 = .ok (.lload_n 3, 1) := by decide +kernel
theorem dX4_charactersIn_51 : decode cX4_charactersIn 51 = .ok (.bipush 8, 2) := by decide +kernel
theorem dX4_charactersIn_53 : decode cX4_charactersIn 53 = .ok (.lushr, 1) := by decide +kernel
theorem dX4_charactersIn_54 : decode cX4_charactersIn 54 = .ok (.lstore_n 3, 1) := by decide +kernel
theorem dX4_charactersIn_55 : decode cX4_charactersIn 55 = .ok (.iinc 5 1, 3) := by decide +kernel
theorem dX4_charactersIn_58 : decode cX4_charactersIn 58 = .ok (.goto (-51), 3) := by decide +kernel
theorem dX4_charactersIn_61 : decode cX4_charactersIn 61 = .ok (.iload_n 2, 1) := by decide +kernel
theorem dX4_charactersIn_62 : decode cX4_charactersIn 62 = .ok (.ireturn, 1) := by decide +kernel
theorem dX4_append_0 : decode cX4_append 0 = .ok (.iload_n 3, 1) := by decide +kernel
theorem dX4_append_1 : decode cX4_append 1 = .ok (.iconst 1, 1) := by decide +kernel
theorem dX4_append_2 : decode cX4_append 2 = .ok (.isub, 1) := by decide +kernel
theorem dX4_append_3 : decode cX4_append 3 = .ok (.istore 4, 2) := by decide +kernel
theorem dX4_append_5 : decode cX4_append 5 = .ok (.iload 4, 2) := by decide +kernel
theorem dX4_append_7 : decode cX4_append 7 = .ok (.ifCond .lt 50, 3) := by decide +kernel
theorem dX4_append_10 : decode cX4_append 10 = .ok (.aload_n 0, 1) := by decide +kernel
theorem dX4_append_11 : decode cX4_append 11 = .ok (.getfield 21, 3) := by decide +kernel
theorem dX4_append_14 : decode cX4_append 14 = .ok (.bipush 60, 2) := by decide +kernel
theorem dX4_append_16 : decode cX4_append 16 = .ok (.if_icmp .ge 41, 3) := by decide +kernel
theorem dX4_append_19 : decode cX4_append 19 = .ok (.aload_n 0, 1) := by decide +kernel
theorem dX4_append_20 : decode cX4_append 20 = .ok (.getfield 9, 3) := by decide +kernel
theorem dX4_append_23 : decode cX4_append 23 = .ok (.aload_n 0, 1) := by decide +kernel
theorem dX4_append_24 : decode cX4_append 24 = .ok (.getfield 21, 3) := by decide +kernel
theorem dX4_append_27 : decode cX4_append 27 = .ok (.lload_n 1, 1) := by decide +kernel
theorem dX4_append_28 : decode cX4_append 28 = .ok (.bipush 8, 2) := by decide +kernel
theorem dX4_append_30 : decode cX4_append 30 = .ok (.iload 4, 2) := by decide +kernel
theorem dX4_append_32 : decode cX4_append 32 = .ok (.imul, 1) := by decide +kernel
theorem dX4_append_33 : decode cX4_append 33 = .ok (.lushr, 1) := by decide +kernel
theorem dX4_append_34 : decode cX4_append 34 = .ok (.ldc2_w 15, 3) := by decide +kernel
theorem dX4_append_37 : decode cX4_append 37 = .ok (.land, 1) := by decide +kernel
theorem dX4_append_38 : decode cX4_append 38 = .ok (.l2i, 1) := by decide +kernel
theorem dX4_append_39 : decode cX4_append 39 = .ok (.i2c, 1) := by decide +kernel
theorem dX4_append_40 : decode cX4_append 40 = .ok (.castore, 1) := by decide +kernel
theorem dX4_append_41 : decode cX4_append 41 = .ok (.aload_n 0, 1) := by decide +kernel
theorem dX4_append_42 : decode cX4_append 42 = .ok (.dup, 1) := by decide +kernel
theorem dX4_append_43 : decode cX4_append 43 = .ok (.getfield 21, 3) := by decide +kernel
theorem dX4_append_46 : decode cX4_append 46 = .ok (.iconst 1, 1) := by decide +kernel
theorem dX4_append_47 : decode cX4_append 47 = .ok (.iadd, 1) := by decide +kernel
theorem dX4_append_48 : decode cX4_append 48 = .ok (.putfield 21, 3) := by decide +kernel
theorem dX4_append_51 : decode cX4_append 51 = .ok (.iinc 4 (-1), 3) := by decide +kernel
theorem dX4_append_54 : decode cX4_append 54 = .ok (.goto (-49), 3) := by decide +kernel
theorem dX4_append_57 : decode cX4_append 57 = .ok (.return_, 1) := by decide +kernel
theorem dX4_signAt_0 : decode cX4_signAt 0 = .ok (.iload_n 1, 1) := by decide +kernel
theorem dX4_signAt_1 : decode cX4_signAt 1 = .ok (.ifCond .lt 20, 3) := by decide +kernel
theorem dX4_signAt_4 : decode cX4_signAt 4 = .ok (.iload_n 1, 1) := by decide +kernel
theorem dX4_signAt_5 : decode cX4_signAt 5 = .ok (.aload_n 0, 1) := by decide +kernel
theorem dX4_signAt_6 : decode cX4_signAt 6 = .ok (.getfield 21, 3) := by decide +kernel
theorem dX4_signAt_9 : decode cX4_signAt 9 = .ok (.if_icmp .ge 12, 3) := by decide +kernel
theorem dX4_signAt_12 : decode cX4_signAt 12 = .ok (.aload_n 0, 1) := by decide +kernel
theorem dX4_signAt_13 : decode cX4_signAt 13 = .ok (.getfield 9, 3) := by decide +kernel
theorem dX4_signAt_16 : decode cX4_signAt 16 = .ok (.iload_n 1, 1) := by decide +kernel
theorem dX4_signAt_17 : decode cX4_signAt 17 = .ok (.caload, 1) := by decide +kernel
theorem dX4_signAt_18 : decode cX4_signAt 18 = .ok (.goto 4, 3) := by decide +kernel
theorem dX4_signAt_21 : decode cX4_signAt 21 = .ok (.iconst 0, 1) := by decide +kernel
theorem dX4_signAt_22 : decode cX4_signAt 22 = .ok (.ireturn, 1) := by decide +kernel
set_option maxRecDepth 20000 in
theorem ggX4_beginsDeed_X4_signAt : GoodIn wsX4_beginsDeed wsX4_signAt := goodIn_r _ [5, 6, 7, 8, 9] (by decide +kernel) (by decide +kernel)
set_option maxRecDepth 20000 in
theorem gX4_beginsDeed_X4_signAt : GoodIn wsX4_beginsDeed (wsV RX4 25 RX4 yX4_signAt wsX4_signAt) := goodIn_app (goodIn_of _ (by decide +kernel)) ggX4_beginsDeed_X4_signAt
theorem dX4_beginsDeed_0 : decode cX4_beginsDeed 0 = .ok (.iload_n 1, 1) := by decide +kernel
theorem dX4_beginsDeed_1 : decode cX4_beginsDeed 1 = .ok (.ifCond .eq 15, 3) := by decide +kernel
theorem dX4_beginsDeed_4 : decode cX4_beginsDeed 4 = .ok (.aload_n 0, 1) := by decide +kernel
theorem dX4_beginsDeed_5 : decode cX4_beginsDeed 5 = .ok (.iload_n 1, 1) := by decide +kernel
theorem dX4_beginsDeed_6 : decode cX4_beginsDeed 6 = .ok (.iconst 1, 1) := by decide +kernel
theorem dX4_beginsDeed_7 : decode cX4_beginsDeed 7 = .ok (.isub, 1) := by decide +kernel
theorem dX4_beginsDeed_8 : decode cX4_beginsDeed 8 = .ok (.invokevirtual 25, 3) := by decide +kernel
theorem dX4_beginsDeed_11 : decode cX4_beginsDeed 11 = .ok (.bipush 59, 2) := by decide +kernel
theorem dX4_beginsDeed_13 : decode cX4_beginsDeed 13 = .ok (.if_icmp .ne 7, 3) := by decide +kernel
theorem dX4_beginsDeed_16 : decode cX4_beginsDeed 16 = .ok (.iconst 1, 1) := by decide +kernel
theorem dX4_beginsDeed_17 : decode cX4_beginsDeed 17 = .ok (.goto 4, 3) := by decide +kernel
theorem dX4_beginsDeed_20 : decode cX4_beginsDeed 20 = .ok (.iconst 0, 1) := by decide +kernel
theorem dX4_beginsDeed_21 : decode cX4_beginsDeed 21 = .ok (.ireturn, 1) := by decide +kernel
set_option maxRecDepth 20000 in
theorem ggX4_numberFrom_X4_signAt : GoodIn wsX4_numberFrom wsX4_signAt := goodIn_r _ [6, 1, 7, 11, 12] (by decide +kernel) (by decide +kernel)
set_option maxRecDepth 20000 in
theorem gX4_numberFrom_X4_signAt : GoodIn wsX4_numberFrom (wsV RX4 25 RX4 yX4_signAt wsX4_signAt) := goodIn_app (goodIn_of _ (by decide +kernel)) ggX4_numberFrom_X4_signAt
set_option maxRecDepth 20000 in
theorem ggX4_numberFrom_X4_isDigit : GoodIn wsX4_numberFrom wsX4_isDigit := goodIn_r _ [10] (by decide +kernel) (by decide +kernel)
set_option maxRecDepth 20000 in
theorem gX4_numberFrom_X4_isDigit : GoodIn wsX4_numberFrom (va_wsS RX4 29 yX4_isDigit wsX4_isDigit) := goodIn_app (goodIn_of _ (by decide +kernel)) ggX4_numberFrom_X4_isDigit
theorem dX4_numberFrom_0 : decode cX4_numberFrom 0 = .ok (.iconst 0, 1) := by decide +kernel
theorem dX4_numberFrom_1 : decode cX4_numberFrom 1 = .ok (.istore_n 2, 1) := by decide +kernel
theorem dX4_numberFrom_2 : decode cX4_numberFrom 2 = .ok (.iload_n 1, 1) := by decide +kernel
theorem dX4_numberFrom_3 : decode cX4_numberFrom 3 = .ok (.istore_n 3, 1) := by decide +kernel
theorem dX4_numberFrom_4 : decode cX4_numberFrom 4 = .ok (.iload_n 3, 1) := by decide +kernel
theorem dX4_numberFrom_5 : decode cX4_numberFrom 5 = .ok (.aload_n 0, 1) := by decide +kernel
theorem dX4_numberFrom_6 : decode cX4_numberFrom 6 = .ok (.getfield 21, 3) := by decide +kernel
theorem dX4_numberFrom_9 : decode cX4_numberFrom 9 = .ok (.if_icmp .ge 34, 3) := by decide +kernel
theorem dX4_numberFrom_12 : decode cX4_numberFrom 12 = .ok (.aload_n 0, 1) := by decide +kernel
theorem dX4_numberFrom_13 : decode cX4_numberFrom 13 = .ok (.iload_n 3, 1) := by decide +kernel
theorem dX4_numberFrom_14 : decode cX4_numberFrom 14 = .ok (.invokevirtual 25, 3) := by decide +kernel
theorem dX4_numberFrom_17 : decode cX4_numberFrom 17 = .ok (.invokestatic 29, 3) := by decide +kernel
theorem dX4_numberFrom_20 : decode cX4_numberFrom 20 = .ok (.ifCond .eq 23, 3) := by decide +kernel
theorem dX4_numberFrom_23 : decode cX4_numberFrom 23 = .ok (.iload_n 2, 1) := by decide +kernel
theorem dX4_numberFrom_24 : decode cX4_numberFrom 24 = .ok (.bipush 10, 2) := by decide +kernel
theorem dX4_numberFrom_26 : decode cX4_numberFrom 26 = .ok (.imul, 1) := by decide +kernel
theorem dX4_numberFrom_27 : decode cX4_numberFrom 27 = .ok (.aload_n 0, 1) := by decide +kernel
theorem dX4_numberFrom_28 : decode cX4_numberFrom 28 = .ok (.iload_n 3, 1) := by decide +kernel
theorem dX4_numberFrom_29 : decode cX4_numberFrom 29 = .ok (.invokevirtual 25, 3) := by decide +kernel
theorem dX4_numberFrom_32 : decode cX4_numberFrom 32 = .ok (.iadd, 1) := by decide +kernel
theorem dX4_numberFrom_33 : decode cX4_numberFrom 33 = .ok (.bipush 48, 2) := by decide +kernel
theorem dX4_numberFrom_35 : decode cX4_numberFrom 35 = .ok (.isub, 1) := by decide +kernel
theorem dX4_numberFrom_36 : decode cX4_numberFrom 36 = .ok (.istore_n 2, 1) := by decide +kernel
theorem dX4_numberFrom_37 : decode cX4_numberFrom 37 = .ok (.iinc 3 1, 3) := by decide +kernel
theorem dX4_numberFrom_40 : decode cX4_numberFrom 40 = .ok (.goto (-36), 3) := by decide +kernel
theorem dX4_numberFrom_43 : decode cX4_numberFrom 43 = .ok (.iload_n 2, 1) := by decide +kernel
theorem dX4_numberFrom_44 : decode cX4_numberFrom 44 = .ok (.ireturn, 1) := by decide +kernel
set_option maxRecDepth 20000 in
theorem ggX4_firstFault_X4_signAt : GoodIn wsX4_firstFault wsX4_signAt := goodIn_r _ [6, 1, 7, 20, 21] (by decide +kernel) (by decide +kernel)
set_option maxRecDepth 20000 in
theorem gX4_firstFault_X4_signAt : GoodIn wsX4_firstFault (wsV RX4 25 RX4 yX4_signAt wsX4_signAt) := goodIn_app (goodIn_of _ (by decide +kernel)) ggX4_firstFault_X4_signAt
set_option maxRecDepth 20000 in
theorem ggX4_firstFault_X4_placeBehind : GoodIn wsX4_firstFault wsX4_placeBehind := goodIn_r _ [10, 11, 12, 5, 13, 14, 15, 16, 17, 18, 19] (by decide +kernel) (by decide +kernel)
set_option maxRecDepth 20000 in
theorem gX4_firstFault_X4_placeBehind : GoodIn wsX4_firstFault (va_wsS RX4 33 yX4_placeBehind wsX4_placeBehind) := goodIn_app (goodIn_of _ (by decide +kernel)) ggX4_firstFault_X4_placeBehind
theorem dX4_firstFault_0 : decode cX4_firstFault 0 = .ok (.iconst 0, 1) := by decide +kernel
theorem dX4_firstFault_1 : decode cX4_firstFault 1 = .ok (.istore_n 1, 1) := by decide +kernel
theorem dX4_firstFault_2 : decode cX4_firstFault 2 = .ok (.iconst 0, 1) := by decide +kernel
theorem dX4_firstFault_3 : decode cX4_firstFault 3 = .ok (.istore_n 2, 1) := by decide +kernel
theorem dX4_firstFault_4 : decode cX4_firstFault 4 = .ok (.iload_n 2, 1) := by decide +kernel
theorem dX4_firstFault_5 : decode cX4_firstFault 5 = .ok (.aload_n 0, 1) := by decide +kernel
theorem dX4_firstFault_6 : decode cX4_firstFault 6 = .ok (.getfield 21, 3) := by decide +kernel
theorem dX4_firstFault_9 : decode cX4_firstFault 9 = .ok (.if_icmp .ge 26, 3) := by decide +kernel
theorem dX4_firstFault_12 : decode cX4_firstFault 12 = .ok (.iload_n 1, 1) := by decide +kernel
theorem dX4_firstFault_13 : decode cX4_firstFault 13 = .ok (.aload_n 0, 1) := by decide +kernel
theorem dX4_firstFault_14 : decode cX4_firstFault 14 = .ok (.iload_n 2, 1) := by decide +kernel
theorem dX4_firstFault_15 : decode cX4_firstFault 15 = .ok (.invokevirtual 25, 3) := by decide +kernel
theorem dX4_firstFault_18 : decode cX4_firstFault 18 = .ok (.invokestatic 33, 3) := by decide +kernel
theorem dX4_firstFault_21 : decode cX4_firstFault 21 = .ok (.istore_n 1, 1) := by decide +kernel
theorem dX4_firstFault_22 : decode cX4_firstFault 22 = .ok (.iload_n 1, 1) := by decide +kernel
theorem dX4_firstFault_23 : decode cX4_firstFault 23 = .ok (.iconst (-1), 1) := by decide +kernel
theorem dX4_firstFault_24 : decode cX4_firstFault 24 = .ok (.if_icmp .ne 5, 3) := by decide +kernel
theorem dX4_firstFault_27 : decode cX4_firstFault 27 = .ok (.iload_n 2, 1) := by decide +kernel
theorem dX4_firstFault_28 : decode cX4_firstFault 28 = .ok (.ireturn, 1) := by decide +kernel
theorem dX4_firstFault_29 : decode cX4_firstFault 29 = .ok (.iinc 2 1, 3) := by decide +kernel
theorem dX4_firstFault_32 : decode cX4_firstFault 32 = .ok (.goto (-28), 3) := by decide +kernel
theorem dX4_firstFault_35 : decode cX4_firstFault 35 = .ok (.iload_n 1, 1) := by decide +kernel
theorem dX4_firstFault_36 : decode cX4_firstFault 36 = .ok (.iconst 1, 1) := by decide +kernel
theorem dX4_firstFault_37 : decode cX4_firstFault 37 = .ok (.if_icmp .eq 13, 3) := by decide +kernel
theorem dX4_firstFault_40 : decode cX4_firstFault 40 = .ok (.iload_n 1, 1) := by decide +kernel
theorem dX4_firstFault_41 : decode cX4_firstFault 41 = .ok (.iconst 3, 1) := by decide +kernel
theorem dX4_firstFault_42 : decode cX4_firstFault 42 = .ok (.if_icmp .eq 8, 3) := by decide +kernel
theorem dX4_firstFault_45 : decode cX4_firstFault 45 = .ok (.iload_n 1, 1) := by decide +kernel
theorem dX4_firstFault_46 : decode cX4_firstFault 46 = .ok (.iconst 5, 1) := by decide +kernel
theorem dX4_firstFault_47 : decode cX4_firstFault 47 = .ok (.if_icmp .ne 7, 3) := by decide +kernel
theorem dX4_firstFault_50 : decode cX4_firstFault 50 = .ok (.iconst 1, 1) := by decide +kernel
theorem dX4_firstFault_51 : decode cX4_firstFault 51 = .ok (.goto 4, 3) := by decide +kernel
theorem dX4_firstFault_54 : decode cX4_firstFault 54 = .ok (.iconst 0, 1) := by decide +kernel
theorem dX4_firstFault_55 : decode cX4_firstFault 55 = .ok (.istore_n 2, 1) := by decide +kernel
theorem dX4_firstFault_56 : decode cX4_firstFault 56 = .ok (.iload_n 2, 1) := by decide +kernel
theorem dX4_firstFault_57 : decode cX4_firstFault 57 = .ok (.ifCond .eq 8, 3) := by decide +kernel
theorem dX4_firstFault_60 : decode cX4_firstFault 60 = .ok (.bipush (-6), 2) := by decide +kernel
theorem dX4_firstFault_62 : decode cX4_firstFault 62 = .ok (.goto 7, 3) := by decide +kernel
theorem dX4_firstFault_65 : decode cX4_firstFault 65 = .ok (.aload_n 0, 1) := by decide +kernel
theorem dX4_firstFault_66 : decode cX4_firstFault 66 = .ok (.getfield 21, 3) := by decide +kernel
theorem dX4_firstFault_69 : decode cX4_firstFault 69 = .ok (.ireturn, 1) := by decide +kernel
set_option maxRecDepth 20000 in
theorem ggX4_placeBehind_X4_placeBehindDeedSign : GoodIn wsX4_placeBehind wsX4_placeBehindDeedSign := goodIn_r _ [4] (by decide +kernel) (by decide +kernel)
set_option maxRecDepth 20000 in
theorem gX4_placeBehind_X4_placeBehindDeedSign : GoodIn wsX4_placeBehind (va_wsS RX4 37 yX4_placeBehindDeedSign wsX4_placeBehindDeedSign) := goodIn_app (goodIn_of _ (by decide +kernel)) ggX4_placeBehind_X4_placeBehindDeedSign
set_option maxRecDepth 20000 in
theorem ggX4_placeBehind_X4_isDigit : GoodIn wsX4_placeBehind wsX4_isDigit := goodIn_r _ [7] (by decide +kernel) (by decide +kernel)
set_option maxRecDepth 20000 in
theorem gX4_placeBehind_X4_isDigit : GoodIn wsX4_placeBehind (va_wsS RX4 29 yX4_isDigit wsX4_isDigit) := goodIn_app (goodIn_of _ (by decide +kernel)) ggX4_placeBehind_X4_isDigit
set_option maxRecDepth 20000 in
theorem ggX4_placeBehind_X4_placeBehindEnd : GoodIn wsX4_placeBehind wsX4_placeBehindEnd := goodIn_r _ [10] (by decide +kernel) (by decide +kernel)
set_option maxRecDepth 20000 in
theorem gX4_placeBehind_X4_placeBehindEnd : GoodIn wsX4_placeBehind (va_wsS RX4 41 yX4_placeBehindEnd wsX4_placeBehindEnd) := goodIn_app (goodIn_of _ (by decide +kernel)) ggX4_placeBehind_X4_placeBehindEnd
theorem dX4_placeBehind_0 : decode cX4_placeBehind 0 = .ok (.iload_n 0, 1) := by decide +kernel
theorem dX4_placeBehind_1 : decode cX4_placeBehind 1 = .ok (.tableswitch 117 0 5 #[39, 117, 44, 86, 67, 101], 39) := by decide +kernel
theorem dX4_placeBehind_40 : decode cX4_placeBehind 40 = .ok (.iload_n 1, 1) := by decide +kernel
end
section
theorem dX4_placeBehind_41 : decode cX4_placeBehind 41 = .ok (.invokestatic 37, 3) := by decide +kernel
theorem dX4_placeBehind_44 : decode cX4_placeBehind 44 = .ok (.ireturn, 1) := by decide +kernel
theorem dX4_placeBehind_45 : decode cX4_placeBehind 45 = .ok (.iload_n 1, 1) := by decide +kernel
theorem dX4_placeBehind_46 : decode cX4_placeBehind 46 = .ok (.invokestatic 29, 3) := by decide +kernel
theorem dX4_placeBehind_49 : decode cX4_placeBehind 49 = .ok (.ifCond .ne 7, 3) := by decide +kernel
theorem dX4_placeBehind_52 : decode cX4_placeBehind 52 = .ok (.iconst (-1), 1) := by decide +kernel
theorem dX4_placeBehind_53 : decode cX4_placeBehind 53 = .ok (.goto 14, 3) := by decide +kernel
theorem dX4_placeBehind_56 : decode cX4_placeBehind 56 = .ok (.iload_n 1, 1) := by decide +kernel
theorem dX4_placeBehind_57 : decode cX4_placeBehind 57 = .ok (.bipush 49, 2) := by decide +kernel
theorem dX4_placeBehind_59 : decode cX4_placeBehind 59 = .ok (.if_icmp .ne 7, 3) := by decide +kernel
theorem dX4_placeBehind_62 : decode cX4_placeBehind 62 = .ok (.iconst 3, 1) := by decide +kernel
theorem dX4_placeBehind_63 : decode cX4_placeBehind 63 = .ok (.goto 4, 3) := by decide +kernel
theorem dX4_placeBehind_66 : decode cX4_placeBehind 66 = .ok (.iconst 1, 1) := by decide +kernel
theorem dX4_placeBehind_67 : decode cX4_placeBehind 67 = .ok (.ireturn, 1) := by decide +kernel
theorem dX4_placeBehind_68 : decode cX4_placeBehind 68 = .ok (.iload_n 1, 1) := by decide +kernel
theorem dX4_placeBehind_69 : decode cX4_placeBehind 69 = .ok (.invokestatic 29, 3) := by decide +kernel
theorem dX4_placeBehind_72 : decode cX4_placeBehind 72 = .ok (.ifCond .eq 13, 3) := by decide +kernel
theorem dX4_placeBehind_75 : decode cX4_placeBehind 75 = .ok (.iload_n 1, 1) := by decide +kernel
theorem dX4_placeBehind_76 : decode cX4_placeBehind 76 = .ok (.bipush 48, 2) := by decide +kernel
theorem dX4_placeBehind_78 : decode cX4_placeBehind 78 = .ok (.if_icmp .eq 7, 3) := by decide +kernel
theorem dX4_placeBehind_81 : decode cX4_placeBehind 81 = .ok (.iconst 5, 1) := by decide +kernel
theorem dX4_placeBehind_82 : decode cX4_placeBehind 82 = .ok (.goto 4, 3) := by decide +kernel
theorem dX4_placeBehind_85 : decode cX4_placeBehind 85 = .ok (.iconst (-1), 1) := by decide +kernel
theorem dX4_placeBehind_86 : decode cX4_placeBehind 86 = .ok (.ireturn, 1) := by decide +kernel
theorem dX4_placeBehind_87 : decode cX4_placeBehind 87 = .ok (.iload_n 1, 1) := by decide +kernel
theorem dX4_placeBehind_88 : decode cX4_placeBehind 88 = .ok (.bipush 48, 2) := by decide +kernel
theorem dX4_placeBehind_90 : decode cX4_placeBehind 90 = .ok (.if_icmp .ne 7, 3) := by decide +kernel
theorem dX4_placeBehind_93 : decode cX4_placeBehind 93 = .ok (.iconst 1, 1) := by decide +kernel
theorem dX4_placeBehind_94 : decode cX4_placeBehind 94 = .ok (.goto 7, 3) := by decide +kernel
theorem dX4_placeBehind_97 : decode cX4_placeBehind 97 = .ok (.iload_n 1, 1) := by decide +kernel
theorem dX4_placeBehind_98 : decode cX4_placeBehind 98 = .ok (.invokestatic 41, 3) := by decide +kernel
theorem dX4_placeBehind_101 : decode cX4_placeBehind 101 = .ok (.ireturn, 1) := by decide +kernel
theorem dX4_placeBehind_102 : decode cX4_placeBehind 102 = .ok (.iload_n 1, 1) := by decide +kernel
theorem dX4_placeBehind_103 : decode cX4_placeBehind 103 = .ok (.invokestatic 29, 3) := by decide +kernel
theorem dX4_placeBehind_106 : decode cX4_placeBehind 106 = .ok (.ifCond .eq 7, 3) := by decide +kernel
theorem dX4_placeBehind_109 : decode cX4_placeBehind 109 = .ok (.iconst 1, 1) := by decide +kernel
theorem dX4_placeBehind_110 : decode cX4_placeBehind 110 = .ok (.goto 7, 3) := by decide +kernel
theorem dX4_placeBehind_113 : decode cX4_placeBehind 113 = .ok (.iload_n 1, 1) := by decide +kernel
theorem dX4_placeBehind_114 : decode cX4_placeBehind 114 = .ok (.invokestatic 41, 3) := by decide +kernel
theorem dX4_placeBehind_117 : decode cX4_placeBehind 117 = .ok (.ireturn, 1) := by decide +kernel
theorem dX4_placeBehind_118 : decode cX4_placeBehind 118 = .ok (.iload_n 1, 1) := by decide +kernel
theorem dX4_placeBehind_119 : decode cX4_placeBehind 119 = .ok (.invokestatic 41, 3) := by decide +kernel
theorem dX4_placeBehind_122 : decode cX4_placeBehind 122 = .ok (.ireturn, 1) := by decide +kernel
theorem dX4_placeBehindDeedSign_0 : decode cX4_placeBehindDeedSign 0 = .ok (.iload_n 0, 1) := by decide +kernel
theorem dX4_placeBehindDeedSign_1 : decode cX4_placeBehindDeedSign 1 = .ok (.lookupswitch 49 #[(46, 47), (99, 43), (102, 45), (115, 43)], 43) := by decide +kernel
theorem dX4_placeBehindDeedSign_44 : decode cX4_placeBehindDeedSign 44 = .ok (.iconst 1, 1) := by decide +kernel
theorem dX4_placeBehindDeedSign_45 : decode cX4_placeBehindDeedSign 45 = .ok (.ireturn, 1) := by decide +kernel
theorem dX4_placeBehindDeedSign_46 : decode cX4_placeBehindDeedSign 46 = .ok (.iconst 2, 1) := by decide +kernel
theorem dX4_placeBehindDeedSign_47 : decode cX4_placeBehindDeedSign 47 = .ok (.ireturn, 1) := by decide +kernel
theorem dX4_placeBehindDeedSign_48 : decode cX4_placeBehindDeedSign 48 = .ok (.iconst 4, 1) := by decide +kernel
theorem dX4_placeBehindDeedSign_49 : decode cX4_placeBehindDeedSign 49 = .ok (.ireturn, 1) := by decide +kernel
theorem dX4_placeBehindDeedSign_50 : decode cX4_placeBehindDeedSign 50 = .ok (.iconst (-1), 1) := by decide +kernel
theorem dX4_placeBehindDeedSign_51 : decode cX4_placeBehindDeedSign 51 = .ok (.ireturn, 1) := by decide +kernel
theorem dX4_placeBehindEnd_0 : decode cX4_placeBehindEnd 0 = .ok (.iload_n 0, 1) := by decide +kernel
theorem dX4_placeBehindEnd_1 : decode cX4_placeBehindEnd 1 = .ok (.bipush 59, 2) := by decide +kernel
theorem dX4_placeBehindEnd_3 : decode cX4_placeBehindEnd 3 = .ok (.if_icmp .ne 7, 3) := by decide +kernel
theorem dX4_placeBehindEnd_6 : decode cX4_placeBehindEnd 6 = .ok (.iconst 0, 1) := by decide +kernel
theorem dX4_placeBehindEnd_7 : decode cX4_placeBehindEnd 7 = .ok (.goto 4, 3) := by decide +kernel
theorem dX4_placeBehindEnd_10 : decode cX4_placeBehindEnd 10 = .ok (.iconst (-1), 1) := by decide +kernel
theorem dX4_placeBehindEnd_11 : decode cX4_placeBehindEnd 11 = .ok (.ireturn, 1) := by decide +kernel
theorem dX4_isDigit_0 : decode cX4_isDigit 0 = .ok (.iload_n 0, 1) := by decide +kernel
theorem dX4_isDigit_1 : decode cX4_isDigit 1 = .ok (.bipush 48, 2) := by decide +kernel
theorem dX4_isDigit_3 : decode cX4_isDigit 3 = .ok (.if_icmp .lt 13, 3) := by decide +kernel
theorem dX4_isDigit_6 : decode cX4_isDigit 6 = .ok (.iload_n 0, 1) := by decide +kernel
theorem dX4_isDigit_7 : decode cX4_isDigit 7 = .ok (.bipush 57, 2) := by decide +kernel
theorem dX4_isDigit_9 : decode cX4_isDigit 9 = .ok (.if_icmp .gt 7, 3) := by decide +kernel
theorem dX4_isDigit_12 : decode cX4_isDigit 12 = .ok (.iconst 1, 1) := by decide +kernel
theorem dX4_isDigit_13 : decode cX4_isDigit 13 = .ok (.goto 4, 3) := by decide +kernel
theorem dX4_isDigit_16 : decode cX4_isDigit 16 = .ok (.iconst 0, 1) := by decide +kernel
theorem dX4_isDigit_17 : decode cX4_isDigit 17 = .ok (.ireturn, 1) := by decide +kernel
set_option maxRecDepth 20000 in
theorem ggX5_init_X1_init : GoodIn wsX5_init wsX1_init := goodIn_r _ [21, 22, 2, 3, 23, 24, 25, 26, 27, 28, 29, 41, 42, 43, 44, 45, 46, 47, 48, 49] (by decide +kernel) (by decide +kernel)
set_option maxRecDepth 20000 in
theorem gX5_init_X1_init_n11 : GoodIn wsX5_init (wsX1_init) := ggX5_init_X1_init
set_option maxRecDepth 20000 in
theorem ggX5_init_X0_init : GoodIn wsX5_init wsX0_init := goodIn_r _ [31, 32, 2, 3] (by decide +kernel) (by decide +kernel)
set_option maxRecDepth 20000 in
theorem gX5_init_X0_init_n20 : GoodIn wsX5_init (wsX0_init) := ggX5_init_X0_init
set_option maxRecDepth 20000 in
theorem ggX5_init_X3_init : GoodIn wsX5_init wsX3_init := goodIn_r _ [34, 35, 2, 3, 23, 36, 60, 61] (by decide +kernel) (by decide +kernel)
set_option maxRecDepth 20000 in
theorem gX5_init_X3_init_n27 : GoodIn wsX5_init (wsX3_init) := ggX5_init_X3_init
set_option maxRecDepth 20000 in
theorem ggX5_init_X6_init : GoodIn wsX5_init wsX6_init := goodIn_r _ [38, 39, 2, 3, 23, 40, 62, 63, 64, 65, 66, 67] (by decide +kernel) (by decide +kernel)
set_option maxRecDepth 20000 in
theorem gX5_init_X6_init_n34 : GoodIn wsX5_init (wsX6_init) := ggX5_init_X6_init
theorem dX5_init_0 : decode cX5_init 0 = .ok (.aload_n 0, 1) := by decide +kernel
theorem dX5_init_1 : decode cX5_init 1 = .ok (.invokespecial 3, 3) := by decide +kernel
theorem dX5_init_4 : decode cX5_init 4 = .ok (.aload_n 0, 1) := by decide +kernel
theorem dX5_init_5 : decode cX5_init 5 = .ok (.new 9, 3) := by decide +kernel
theorem dX5_init_8 : decode cX5_init 8 = .ok (.dup, 1) := by decide +kernel
theorem dX5_init_9 : decode cX5_init 9 = .ok (.invokespecial 11, 3) := by decide +kernel
theorem dX5_init_12 : decode cX5_init 12 = .ok (.putfield 12, 3) := by decide +kernel
theorem dX5_init_15 : decode cX5_init 15 = .ok (.aload_n 0, 1) := by decide +kernel
theorem dX5_init_16 : decode cX5_init 16 = .ok (.new 18, 3) := by decide +kernel
theorem dX5_init_19 : decode cX5_init 19 = .ok (.dup, 1) := by decide +kernel
theorem dX5_init_20 : decode cX5_init 20 = .ok (.invokespecial 20, 3) := by decide +kernel
theorem dX5_init_23 : decode cX5_init 23 = .ok (.putfield 21, 3) := by decide +kernel
theorem dX5_init_26 : decode cX5_init 26 = .ok (.aload_n 0, 1) := by decide +kernel
theorem dX5_init_27 : decode cX5_init 27 = .ok (.new 25, 3) := by decide +kernel
theorem dX5_init_30 : decode cX5_init 30 = .ok (.dup, 1) := by decide +kernel
theorem dX5_init_31 : decode cX5_init 31 = .ok (.invokespecial 27, 3) := by decide +kernel
theorem dX5_init_34 : decode cX5_init 34 = .ok (.putfield 28, 3) := by decide +kernel
theorem dX5_init_37 : decode cX5_init 37 = .ok (.aload_n 0, 1) := by decide +kernel
theorem dX5_init_38 : decode cX5_init 38 = .ok (.new 32, 3) := by decide +kernel
theorem dX5_init_41 : decode cX5_init 41 = .ok (.dup, 1) := by decide +kernel
theorem dX5_init_42 : decode cX5_init 42 = .ok (.invokespecial 34, 3) := by decide +kernel
theorem dX5_init_45 : decode cX5_init 45 = .ok (.putfield 35, 3) := by decide +kernel
theorem dX5_init_48 : decode cX5_init 48 = .ok (.return_, 1) := by decide +kernel
set_option maxRecDepth 20000 in
theorem ggX5_copyFrom_X1_copyFrom : GoodIn wsX5_copyFrom wsX1_copyFrom := goodIn_r _ [9, 10, 11, 12, 13, 14, 15, 16, 17, 18, 19, 20, 21, 22, 55, 56, 57, 58, 59, 60, 61, 62, 63] (by decide +kernel) (by decide +kernel)
set_option maxRecDepth 20000 in
theorem gX5_copyFrom_X1_copyFrom_n39 : GoodIn wsX5_copyFrom (wsX1_copyFrom) := ggX5_copyFrom_X1_copyFrom
set_option maxRecDepth 20000 in
theorem ggX5_copyFrom_X0_copyFrom : GoodIn wsX5_copyFrom wsX0_copyFrom := goodIn_r _ [26, 27, 28, 29, 30, 31, 64, 65, 66, 67, 68] (by decide +kernel) (by decide +kernel)
set_option maxRecDepth 20000 in
theorem gX5_copyFrom_X0_copyFrom_n43 : GoodIn wsX5_copyFrom (wsX0_copyFrom) := ggX5_copyFrom_X0_copyFrom
set_option maxRecDepth 20000 in
theorem ggX5_copyFrom_X3_copyFrom : GoodIn wsX5_copyFrom wsX3_copyFrom := goodIn_r _ [35, 36, 37, 12, 13, 14, 38, 69, 70] (by decide +kernel) (by decide +kernel)
set_option maxRecDepth 20000 in
theorem gX5_copyFrom_X3_copyFrom_n46 : GoodIn wsX5_copyFrom (wsX3_copyFrom) := ggX5_copyFrom_X3_copyFrom
set_option maxRecDepth 20000 in
theorem ggX5_copyFrom_X6_copyFrom : GoodIn wsX5_copyFrom wsX6_copyFrom := goodIn_r _ [42, 43, 44, 12, 13, 14, 45, 46, 47, 48, 49, 71, 72, 73, 74, 75, 76] (by decide +kernel) (by decide +kernel)
set_option maxRecDepth 20000 in
theorem gX5_copyFrom_X6_copyFrom_n49 : GoodIn wsX5_copyFrom (wsX6_copyFrom) := ggX5_copyFrom_X6_copyFrom
theorem dX5_copyFrom_0 : decode cX5_copyFrom 0 = .ok (.aload_n 0, 1) := by decide +kernel
theorem dX5_copyFrom_1 : decode cX5_copyFrom 1 = .ok (.getfield 12, 3) := by decide +kernel
theorem dX5_copyFrom_4 : decode cX5_copyFrom 4 = .ok (.aload_n 1, 1) := by decide +kernel
theorem dX5_copyFrom_5 : decode cX5_copyFrom 5 = .ok (.getfield 12, 3) := by decide +kernel
theorem dX5_copyFrom_8 : decode cX5_copyFrom 8 = .ok (.invokevirtual 39, 3) := by decide +kernel
theorem dX5_copyFrom_11 : decode cX5_copyFrom 11 = .ok (.aload_n 0, 1) := by decide +kernel
theorem dX5_copyFrom_12 : decode cX5_copyFrom 12 = .ok (.getfield 21, 3) := by decide +kernel
theorem dX5_copyFrom_15 : decode cX5_copyFrom 15 = .ok (.aload_n 1, 1) := by decide +kernel
theorem dX5_copyFrom_16 : decode cX5_copyFrom 16 = .ok (.getfield 21, 3) := by decide +kernel
theorem dX5_copyFrom_19 : decode cX5_copyFrom 19 = .ok (.invokevirtual 43, 3) := by decide +kernel
theorem dX5_copyFrom_22 : decode cX5_copyFrom 22 = .ok (.aload_n 0, 1) := by decide +kernel
theorem dX5_copyFrom_23 : decode cX5_copyFrom 23 = .ok (.getfield 28, 3) := by decide +kernel
theorem dX5_copyFrom_26 : decode cX5_copyFrom 26 = .ok (.aload_n 1, 1) := by decide +kernel
theorem dX5_copyFrom_27 : decode cX5_copyFrom 27 = .ok (.getfield 28, 3) := by decide +kernel
theorem dX5_copyFrom_30 : decode cX5_copyFrom 30 = .ok (.invokevirtual 46, 3) := by decide +kernel
theorem dX5_copyFrom_33 : decode cX5_copyFrom 33 = .ok (.aload_n 0, 1) := by decide +kernel
theorem dX5_copyFrom_34 : decode cX5_copyFrom 34 = .ok (.getfield 35, 3) := by decide +kernel
theorem dX5_copyFrom_37 : decode cX5_copyFrom 37 = .ok (.aload_n 1, 1) := by decide +kernel
theorem dX5_copyFrom_38 : decode cX5_copyFrom 38 = .ok (.getfield 35, 3) := by decide +kernel
theorem dX5_copyFrom_41 : decode cX5_copyFrom 41 = .ok (.invokevirtual 49, 3) := by decide +kernel
theorem dX5_copyFrom_44 : decode cX5_copyFrom 44 = .ok (.aload_n 0, 1) := by decide +kernel
theorem dX5_copyFrom_45 : decode cX5_copyFrom 45 = .ok (.aload_n 1, 1) := by decide +kernel
theorem dX5_copyFrom_46 : decode cX5_copyFrom 46 = .ok (.getfield 52, 3) := by decide +kernel
theorem dX5_copyFrom_49 : decode cX5_copyFrom 49 = .ok (.putfield 52, 3) := by decide +kernel
theorem dX5_copyFrom_52 : decode cX5_copyFrom 52 = .ok (.return_, 1) := by decide +kernel
theorem dX5_hasRoomFor_0 : decode cX5_hasRoomFor 0 = .ok (.aload_n 0, 1) := by decide +kernel
theorem dX5_hasRoomFor_1 : decode cX5_hasRoomFor 1 = .ok (.getfield 52, 3) := by decide +kernel
theorem dX5_hasRoomFor_4 : decode cX5_hasRoomFor 4 = .ok (.iload_n 1, 1) := by decide +kernel
theorem dX5_hasRoomFor_5 : decode cX5_hasRoomFor 5 = .ok (.iadd, 1) := by decide +kernel
theorem dX5_hasRoomFor_6 : decode cX5_hasRoomFor 6 = .ok (.ldc 56, 2) := by decide +kernel
theorem dX5_hasRoomFor_8 : decode cX5_hasRoomFor 8 = .ok (.if_icmp .gt 7, 3) := by decide +kernel
theorem dX5_hasRoomFor_11 : decode cX5_hasRoomFor 11 = .ok (.iconst 1, 1) := by decide +kernel
theorem dX5_hasRoomFor_12 : decode cX5_hasRoomFor 12 = .ok (.goto 4, 3) := by decide +kernel
theorem dX5_hasRoomFor_15 : decode cX5_hasRoomFor 15 = .ok (.iconst 0, 1) := by decide +kernel
theorem dX5_hasRoomFor_16 : decode cX5_hasRoomFor 16 = .ok (.ireturn, 1) := by decide +kernel
theorem dX5_canTurnStarter_0 : decode cX5_canTurnStarter 0 = .ok (.aload_n 0, 1) := by decide +kernel
theorem dX5_canTurnStarter_1 : decode cX5_canTurnStarter 1 = .ok (.getfield 12, 3) := by decide +kernel
theorem dX5_canTurnStarter_4 : decode cX5_canTurnStarter 4 = .ok (.getfield 57, 3) := by decide +kernel
theorem dX5_canTurnStarter_7 : decode cX5_canTurnStarter 7 = .ok (.iload_n 1, 1) := by decide +kernel
theorem dX5_canTurnStarter_8 : decode cX5_canTurnStarter 8 = .ok (.if_icmp .ne 5, 3) := by decide +kernel
theorem dX5_canTurnStarter_11 : decode cX5_canTurnStarter 11 = .ok (.iconst 0, 1) := by decide +kernel
theorem dX5_canTurnStarter_12 : decode cX5_canTurnStarter 12 = .ok (.ireturn, 1) := by decide +kernel
theorem dX5_canTurnStarter_13 : decode cX5_canTurnStarter 13 = .ok (.iload_n 1, 1) := by decide +kernel
theorem dX5_canTurnStarter_14 : decode cX5_canTurnStarter 14 = .ok (.ifCond .eq 26, 3) := by decide +kernel
theorem dX5_canTurnStarter_17 : decode cX5_canTurnStarter 17 = .ok (.aload_n 0, 1) := by decide +kernel
theorem dX5_canTurnStarter_18 : decode cX5_canTurnStarter 18 = .ok (.getfield 12, 3) := by decide +kernel
theorem dX5_canTurnStarter_21 : decode cX5_canTurnStarter 21 = .ok (.getfield 61, 3) := by decide +kernel
theorem dX5_canTurnStarter_24 : decode cX5_canTurnStarter 24 = .ok (.ifCond .le 20, 3) := by decide +kernel
theorem dX5_canTurnStarter_27 : decode cX5_canTurnStarter 27 = .ok (.aload_n 0, 1) := by decide +kernel
theorem dX5_canTurnStarter_28 : decode cX5_canTurnStarter 28 = .ok (.getfield 12, 3) := by decide +kernel
theorem dX5_canTurnStarter_31 : decode cX5_canTurnStarter 31 = .ok (.getfield 64, 3) := by decide +kernel
theorem dX5_canTurnStarter_34 : decode cX5_canTurnStarter 34 = .ok (.sipush 500, 3) := by decide +kernel
theorem dX5_canTurnStarter_37 : decode cX5_canTurnStarter 37 = .ok (.if_icmp .ge 7, 3) := by decide +kernel
theorem dX5_canTurnStarter_40 : decode cX5_canTurnStarter 40 = .ok (.iconst 1, 1) := by decide +kernel
theorem dX5_canTurnStarter_41 : decode cX5_canTurnStarter 41 = .ok (.goto 4, 3) := by decide +kernel
theorem dX5_canTurnStarter_44 : decode cX5_canTurnStarter 44 = .ok (.iconst 0, 1) := by decide +kernel
theorem dX5_canTurnStarter_45 : decode cX5_canTurnStarter 45 = .ok (.ireturn, 1) := by decide +kernel
set_option maxRecDepth 20000 in
theorem ggX5_turnStarter_X0_begin : GoodIn wsX5_turnStarter wsX0_begin := goodIn_r _ [6, 7, 8, 9, 10, 11, 26, 27, 28, 29, 30] (by decide +kernel) (by decide +kernel)
set_option maxRecDepth 20000 in
theorem gX5_turnStarter_X0_begin_n70 : GoodIn wsX5_turnStarter (wsX0_begin) := ggX5_turnStarter_X0_begin
theorem dX5_turnStarter_0 : decode cX5_turnStarter 0 = .ok (.aload_n 0, 1) := by decide +kernel
theorem dX5_turnStarter_1 : decode cX5_turnStarter 1 = .ok (.getfield 12, 3) := by decide +kernel
theorem dX5_turnStarter_4 : decode cX5_turnStarter 4 = .ok (.iload_n 1, 1) := by decide +kernel
theorem dX5_turnStarter_5 : decode cX5_turnStarter 5 = .ok (.putfield 57, 3) := by decide +kernel
theorem dX5_turnStarter_8 : decode cX5_turnStarter 8 = .ok (.iload_n 1, 1) := by decide +kernel
theorem dX5_turnStarter_9 : decode cX5_turnStarter 9 = .ok (.ifCond .eq 27, 3) := by decide +kernel
theorem dX5_turnStarter_12 : decode cX5_turnStarter 12 = .ok (.aload_n 0, 1) := by decide +kernel
theorem dX5_turnStarter_13 : decode cX5_turnStarter 13 = .ok (.getfield 21, 3) := by decide +kernel
theorem dX5_turnStarter_16 : decode cX5_turnStarter 16 = .ok (.getfield 67, 3) := by decide +kernel
theorem dX5_turnStarter_19 : decode cX5_turnStarter 19 = .ok (.ifCond .ne 17, 3) := by decide +kernel
theorem dX5_turnStarter_22 : decode cX5_turnStarter 22 = .ok (.aload_n 0, 1) := by decide +kernel
theorem dX5_turnStarter_23 : decode cX5_turnStarter 23 = .ok (.getfield 21, 3) := by decide +kernel
theorem dX5_turnStarter_26 : decode cX5_turnStarter 26 = .ok (.aload_n 0, 1) := by decide +kernel
theorem dX5_turnStarter_27 : decode cX5_turnStarter 27 = .ok (.getfield 12, 3) := by decide +kernel
theorem dX5_turnStarter_30 : decode cX5_turnStarter 30 = .ok (.getfield 61, 3) := by decide +kernel
theorem dX5_turnStarter_33 : decode cX5_turnStarter 33 = .ok (.invokevirtual 70, 3) := by decide +kernel
theorem dX5_turnStarter_36 : decode cX5_turnStarter 36 = .ok (.return_, 1) := by decide +kernel
set_option maxRecDepth 20000 in
theorem ggX5_passTicks_X5_passTick : GoodIn wsX5_passTicks wsX5_passTick := goodIn_r _ [5, 6, 7, 8, 9, 10, 11, 12, 13, 14, 15, 16, 17, 18, 19, 20, 21, 22, 23, 24, 25, 26, 27, 28, 29, 30, 31, 32, 33, 34, 35, 36, 37, 38, 39, 40, 41, 42, 43, 44, 45, 46, 47, 48, 49, 50, 51, 52, 53, 54, 55, 56, 57, 58, 59, 60, 61, 62, 63, 64, 65, 66, 67, 68, 69, 70, 71, 72, 73, 74, 75, 76, 77, 78, 79, 80, 4, 81, 82, 83, 84, 85, 86, 87, 88, 89, 90, 91, 92, 93, 94, 95, 96, 97, 98, 99, 100, 101, 102, 103, 104, 105, 106, 107, 108, 109, 110, 111, 112, 113, 114, 115, 116, 117, 118, 119, 120, 121, 122, 123, 124, 125, 126] (by decide +kernel) (by decide +kernel)
set_option maxRecDepth 20000 in
theorem gX5_passTicks_X5_passTick : GoodIn wsX5_passTicks (wsV RX5 74 RX5 yX5_passTick wsX5_passTick) := goodIn_app (goodIn_of _ (by decide +kernel)) ggX5_passTicks_X5_passTick
theorem dX5_passTicks_0 : decode cX5_passTicks 0 = .ok (.iconst 0, 1) := by decide +kernel
theorem dX5_passTicks_1 : decode cX5_passTicks 1 = .ok (.istore_n 2, 1) := by decide +kernel
theorem dX5_passTicks_2 : decode cX5_passTicks 2 = .ok (.iload_n 2, 1) := by decide +kernel
theorem dX5_passTicks_3 : decode cX5_passTicks 3 = .ok (.iload_n 1, 1) := by decide +kernel
theorem dX5_passTicks_4 : decode cX5_passTicks 4 = .ok (.if_icmp .ge 13, 3) := by decide +kernel
theorem dX5_passTicks_7 : decode cX5_passTicks 7 = .ok (.aload_n 0, 1) := by decide +kernel
theorem dX5_passTicks_8 : decode cX5_passTicks 8 = .ok (.invokevirtual 74, 3) := by decide +kernel
theorem dX5_passTicks_11 : decode cX5_passTicks 11 = .ok (.iinc 2 1, 3) := by decide +kernel
theorem dX5_passTicks_14 : decode cX5_passTicks 14 = .ok (.goto (-12), 3) := by decide +kernel
theorem dX5_passTicks_17 : decode cX5_passTicks 17 = .ok (.return_, 1) := by decide +kernel
set_option maxRecDepth 20000 in
theorem ggX5_passTick_X1_passTick : GoodIn wsX5_passTick wsX1_passTick := goodIn_r _ [8, 9, 10, 11, 12, 13, 14, 15, 16, 6, 17, 18, 19, 20, 21, 22, 23, 24, 25, 26, 27, 28, 29, 30, 31, 32, 33, 34, 35, 36, 37, 38, 39, 40, 41, 42, 43, 44, 45, 46, 47, 48, 101, 102, 103, 104, 105, 106, 107, 108, 109] (by decide +kernel) (by decide +kernel)
set_option maxRecDepth 20000 in
theorem gX5_passTick_X1_passTick_n80 : GoodIn wsX5_passTick (wsX1_passTick) := ggX5_passTick_X1_passTick
set_option maxRecDepth 20000 in
theorem ggX5_passTick_X6_addTick : GoodIn wsX5_passTick wsX6_addTick := goodIn_r _ [52, 53, 54, 55, 56, 57, 58, 21, 12, 22, 59, 6, 60, 61, 44, 23, 62, 63, 64, 46, 47, 48, 28, 18, 115, 116, 117, 118, 119, 120, 101, 102, 103, 104, 105, 106, 107, 108, 109] (by decide +kernel) (by decide +kernel)
set_option maxRecDepth 20000 in
theorem gX5_passTick_X6_addTick_n81 : GoodIn wsX5_passTick (wsX6_addTick) := ggX5_passTick_X6_addTick
set_option maxRecDepth 20000 in
theorem ggX5_passTick_X0_addTick : GoodIn wsX5_passTick wsX0_addTick := goodIn_r _ [68, 69, 70, 71, 21, 12, 22, 72, 110, 111, 112, 113, 114, 101, 102, 103, 104, 105, 106, 107, 108, 109] (by decide +kernel) (by decide +kernel)
set_option maxRecDepth 20000 in
theorem gX5_passTick_X0_addTick_n85 : GoodIn wsX5_passTick (wsX0_addTick) := ggX5_passTick_X0_addTick
set_option maxRecDepth 20000 in
theorem ggX5_passTick_X5_endAttemptIfOver : GoodIn wsX5_passTick wsX5_endAttemptIfOver := goodIn_r _ [77, 4, 1, 78, 3, 79, 66, 80, 81, 72, 59, 6, 60, 61, 44, 23, 46, 47, 48, 28, 18, 82, 83, 84, 19, 85, 86, 87, 88, 89, 90, 91, 11, 12, 13, 92, 50, 93, 94, 95, 96, 97, 98, 99, 100, 101, 102, 103, 104, 105, 106, 107, 108, 109, 110, 111, 112, 113, 114, 121, 122, 115, 116, 117, 118, 119, 120] (by decide +kernel) (by decide +kernel)
set_option maxRecDepth 20000 in
theorem gX5_passTick_X5_endAttemptIfOver : GoodIn wsX5_passTick (wsV RX5 88 RX5 yX5_endAttemptIfOver wsX5_endAttemptIfOver) := goodIn_app (goodIn_of _ (by decide +kernel)) ggX5_passTick_X5_endAttemptIfOver
theorem dX5_passTick_0 : decode cX5_passTick 0 = .ok (.aload_n 0, 1) := by decide +kernel
theorem dX5_passTick_1 : decode cX5_passTick 1 = .ok (.getfield 12, 3) := by decide +kernel
theorem dX5_passTick_4 : decode cX5_passTick 4 = .ok (.getfield 64, 3) := by decide +kernel
theorem dX5_passTick_7 : decode cX5_passTick 7 = .ok (.istore_n 1, 1) := by decide +kernel
theorem dX5_passTick_8 : decode cX5_passTick 8 = .ok (.aload_n 0, 1) := by decide +kernel
theorem dX5_passTick_9 : decode cX5_passTick 9 = .ok (.getfield 12, 3) := by decide +kernel
theorem dX5_passTick_12 : decode cX5_passTick 12 = .ok (.getfield 77, 3) := by decide +kernel
theorem dX5_passTick_15 : decode cX5_passTick 15 = .ok (.istore_n 2, 1) := by decide +kernel
theorem dX5_passTick_16 : decode cX5_passTick 16 = .ok (.aload_n 0, 1) := by decide +kernel
theorem dX5_passTick_17 : decode cX5_passTick 17 = .ok (.dup, 1) := by decide +kernel
theorem dX5_passTick_18 : decode cX5_passTick 18 = .ok (.getfield 52, 3) := by decide +kernel
theorem dX5_passTick_21 : decode cX5_passTick 21 = .ok (.iconst 1, 1) := by decide +kernel
theorem dX5_passTick_22 : decode cX5_passTick 22 = .ok (.iadd, 1) := by decide +kernel
theorem dX5_passTick_23 : decode cX5_passTick 23 = .ok (.putfield 52, 3) := by decide +kernel
theorem dX5_passTick_26 : decode cX5_passTick 26 = .ok (.aload_n 0, 1) := by decide +kernel
theorem dX5_passTick_27 : decode cX5_passTick 27 = .ok (.getfield 12, 3) := by decide +kernel
theorem dX5_passTick_30 : decode cX5_passTick 30 = .ok (.invokevirtual 80, 3) := by decide +kernel
theorem dX5_passTick_33 : decode cX5_passTick 33 = .ok (.aload_n 0, 1) := by decide +kernel
theorem dX5_passTick_34 : decode cX5_passTick 34 = .ok (.getfield 35, 3) := by decide +kernel
theorem dX5_passTick_37 : decode cX5_passTick 37 = .ok (.aload_n 0, 1) := by decide +kernel
theorem dX5_passTick_38 : decode cX5_passTick 38 = .ok (.getfield 12, 3) := by decide +kernel
theorem dX5_passTick_41 : decode cX5_passTick 41 = .ok (.iload_n 2, 1) := by decide +kernel
theorem dX5_passTick_42 : decode cX5_passTick 42 = .ok (.invokevirtual 81, 3) := by decide +kernel
theorem dX5_passTick_45 : decode cX5_passTick 45 = .ok (.aload_n 0, 1) := by decide +kernel
theorem dX5_passTick_46 : decode cX5_passTick 46 = .ok (.getfield 21, 3) := by decide +kernel
theorem dX5_passTick_49 : decode cX5_passTick 49 = .ok (.getfield 67, 3) := by decide +kernel
theorem dX5_passTick_52 : decode cX5_passTick 52 = .ok (.ifCond .eq 19, 3) := by decide +kernel
theorem dX5_passTick_55 : decode cX5_passTick 55 = .ok (.aload_n 0, 1) := by decide +kernel
theorem dX5_passTick_56 : decode cX5_passTick 56 = .ok (.getfield 21, 3) := by decide +kernel
theorem dX5_passTick_59 : decode cX5_passTick 59 = .ok (.aload_n 0, 1) := by decide +kernel
theorem dX5_passTick_60 : decode cX5_passTick 60 = .ok (.getfield 12, 3) := by decide +kernel
theorem dX5_passTick_63 : decode cX5_passTick 63 = .ok (.iload_n 1, 1) := by decide +kernel
theorem dX5_passTick_64 : decode cX5_passTick 64 = .ok (.invokevirtual 85, 3) := by decide +kernel
theorem dX5_passTick_67 : decode cX5_passTick 67 = .ok (.aload_n 0, 1) := by decide +kernel
theorem dX5_passTick_68 : decode cX5_passTick 68 = .ok (.invokevirtual 88, 3) := by decide +kernel
theorem dX5_passTick_71 : decode cX5_passTick 71 = .ok (.return_, 1) := by decide +kernel
set_option maxRecDepth 20000 in
theorem ggX5_endAttemptIfOver_X0_endingWith : GoodIn wsX5_endAttemptIfOver wsX0_endingWith := goodIn_r _ [8, 9, 10, 11, 12, 13, 14, 15, 16, 17, 18, 19, 20, 21, 22, 23, 24, 45, 46, 47, 48, 49, 50, 51, 52, 53, 54, 55, 56, 57, 58] (by decide +kernel) (by decide +kernel)
set_option maxRecDepth 20000 in
theorem gX5_endAttemptIfOver_X0_endingWith_n91 : GoodIn wsX5_endAttemptIfOver (wsX0_endingWith) := ggX5_endAttemptIfOver_X0_endingWith
set_option maxRecDepth 20000 in
theorem ggX5_endAttemptIfOver_X3_add : GoodIn wsX5_endAttemptIfOver wsX3_add := goodIn_r _ [28, 29, 30, 31, 32, 33, 34, 59, 60, 54, 55, 56, 57, 58] (by decide +kernel) (by decide +kernel)
set_option maxRecDepth 20000 in
theorem gX5_endAttemptIfOver_X3_add_n95 : GoodIn wsX5_endAttemptIfOver (wsX3_add) := ggX5_endAttemptIfOver_X3_add
set_option maxRecDepth 20000 in
theorem ggX5_endAttemptIfOver_X6_addEnding : GoodIn wsX5_endAttemptIfOver wsX6_addEnding := goodIn_r _ [38, 39, 61, 62, 63, 64, 65, 66] (by decide +kernel) (by decide +kernel)
set_option maxRecDepth 20000 in
theorem gX5_endAttemptIfOver_X6_addEnding_n99 : GoodIn wsX5_endAttemptIfOver (wsX6_addEnding) := ggX5_endAttemptIfOver_X6_addEnding
theorem dX5_endAttemptIfOver_0 : decode cX5_endAttemptIfOver 0 = .ok (.aload_n 0, 1) := by decide +kernel
theorem dX5_endAttemptIfOver_1 : decode cX5_endAttemptIfOver 1 = .ok (.getfield 21, 3) := by decide +kernel
theorem dX5_endAttemptIfOver_4 : decode cX5_endAttemptIfOver 4 = .ok (.aload_n 0, 1) := by decide +kernel
theorem dX5_endAttemptIfOver_5 : decode cX5_endAttemptIfOver 5 = .ok (.getfield 12, 3) := by decide +kernel
theorem dX5_endAttemptIfOver_8 : decode cX5_endAttemptIfOver 8 = .ok (.invokevirtual 91, 3) := by decide +kernel
theorem dX5_endAttemptIfOver_11 : decode cX5_endAttemptIfOver 11 = .ok (.istore_n 1, 1) := by decide +kernel
theorem dX5_endAttemptIfOver_12 : decode cX5_endAttemptIfOver 12 = .ok (.iload_n 1, 1) := by decide +kernel
theorem dX5_endAttemptIfOver_13 : decode cX5_endAttemptIfOver 13 = .ok (.iconst (-1), 1) := by decide +kernel
theorem dX5_endAttemptIfOver_14 : decode cX5_endAttemptIfOver 14 = .ok (.if_icmp .ne 4, 3) := by decide +kernel
theorem dX5_endAttemptIfOver_17 : decode cX5_endAttemptIfOver 17 = .ok (.return_, 1) := by decide +kernel
theorem dX5_endAttemptIfOver_18 : decode cX5_endAttemptIfOver 18 = .ok (.aload_n 0, 1) := by decide +kernel
theorem dX5_endAttemptIfOver_19 : decode cX5_endAttemptIfOver 19 = .ok (.getfield 28, 3) := by decide +kernel
theorem dX5_endAttemptIfOver_22 : decode cX5_endAttemptIfOver 22 = .ok (.iload_n 1, 1) := by decide +kernel
theorem dX5_endAttemptIfOver_23 : decode cX5_endAttemptIfOver 23 = .ok (.aload_n 0, 1) := by decide +kernel
theorem dX5_endAttemptIfOver_24 : decode cX5_endAttemptIfOver 24 = .ok (.getfield 21, 3) := by decide +kernel
theorem dX5_endAttemptIfOver_27 : decode cX5_endAttemptIfOver 27 = .ok (.aload_n 0, 1) := by decide +kernel
theorem dX5_endAttemptIfOver_28 : decode cX5_endAttemptIfOver 28 = .ok (.getfield 12, 3) := by decide +kernel
theorem dX5_endAttemptIfOver_31 : decode cX5_endAttemptIfOver 31 = .ok (.getfield 61, 3) := by decide +kernel
theorem dX5_endAttemptIfOver_34 : decode cX5_endAttemptIfOver 34 = .ok (.invokevirtual 95, 3) := by decide +kernel
theorem dX5_endAttemptIfOver_37 : decode cX5_endAttemptIfOver 37 = .ok (.aload_n 0, 1) := by decide +kernel
theorem dX5_endAttemptIfOver_38 : decode cX5_endAttemptIfOver 38 = .ok (.getfield 35, 3) := by decide +kernel
theorem dX5_endAttemptIfOver_41 : decode cX5_endAttemptIfOver 41 = .ok (.iload_n 1, 1) := by decide +kernel
theorem dX5_endAttemptIfOver_42 : decode cX5_endAttemptIfOver 42 = .ok (.invokevirtual 99, 3) := by decide +kernel
theorem dX5_endAttemptIfOver_45 : decode cX5_endAttemptIfOver 45 = .ok (.aload_n 0, 1) := by decide +kernel
theorem dX5_endAttemptIfOver_46 : decode cX5_endAttemptIfOver 46 = .ok (.getfield 21, 3) := by decide +kernel
theorem dX5_endAttemptIfOver_49 : decode cX5_endAttemptIfOver 49 = .ok (.iconst 0, 1) := by decide +kernel
theorem dX5_endAttemptIfOver_50 : decode cX5_endAttemptIfOver 50 = .ok (.putfield 67, 3) := by decide +kernel
theorem dX5_endAttemptIfOver_53 : decode cX5_endAttemptIfOver 53 = .ok (.iload_n 1, 1) := by decide +kernel
theorem dX5_endAttemptIfOver_54 : decode cX5_endAttemptIfOver 54 = .ok (.ifCond .eq 11, 3) := by decide +kernel
theorem dX5_endAttemptIfOver_57 : decode cX5_endAttemptIfOver 57 = .ok (.aload_n 0, 1) := by decide +kernel
theorem dX5_endAttemptIfOver_58 : decode cX5_endAttemptIfOver 58 = .ok (.getfield 12, 3) := by decide +kernel
theorem dX5_endAttemptIfOver_61 : decode cX5_endAttemptIfOver 61 = .ok (.iconst 0, 1) := by decide +kernel
theorem dX5_endAttemptIfOver_62 : decode cX5_endAttemptIfOver 62 = .ok (.putfield 57, 3) := by decide +kernel
theorem dX5_endAttemptIfOver_65 : decode cX5_endAttemptIfOver 65 = .ok (.return_, 1) := by decide +kernel
set_option maxRecDepth 20000 in
theorem ggX5_passTicksUntilRunning_X5_passTick : GoodIn wsX5_passTicksUntilRunning wsX5_passTick := goodIn_r _ [6, 1, 7, 8, 9, 10, 11, 12, 13, 14, 15, 16, 17, 18, 19, 20, 21, 22, 23, 24, 25, 26, 27, 28, 29, 30, 31, 32, 33, 34, 35, 36, 37, 38, 39, 40, 41, 42, 43, 44, 45, 46, 47, 48, 49, 50, 51, 52, 53, 54, 55, 56, 57, 58, 59, 60, 61, 62, 63, 64, 65, 66, 67, 68, 69, 70, 71, 72, 73, 74, 75, 76, 77, 78, 79, 80, 5, 81, 82, 83, 84, 85, 86, 87, 88, 89, 90, 91, 92, 93, 94, 95, 96, 97, 98, 99, 100, 101, 102, 103, 104, 105, 106, 107, 108, 109, 110, 111, 112, 113, 114, 115, 116, 117, 118, 119, 120, 121, 122, 123, 124, 125, 126] (by decide +kernel) (by decide +kernel)
set_option maxRecDepth 20000 in
theorem gX5_passTicksUntilRunning_X5_passTick : GoodIn wsX5_passTicksUntilRunning (wsV RX5 74 RX5 yX5_passTick wsX5_passTick) := goodIn_app (goodIn_of _ (by decide +kernel)) ggX5_passTicksUntilRunning_X5_passTick
set_option maxRecDepth 20000 in
theorem ggX5_passTicksUntilRunning_X1_isHot : GoodIn wsX5_passTicksUntilRunning wsX1_isHot := goodIn_r _ [66, 49, 28, 105, 106, 107, 108, 109, 110, 111, 112, 113] (by decide +kernel) (by decide +kernel)
set_option maxRecDepth 20000 in
theorem gX5_passTicksUntilRunning_X1_isHot_n102 : GoodIn wsX5_passTicksUntilRunning (wsX1_isHot) := ggX5_passTicksUntilRunning_X1_isHot
set_option maxRecDepth 20000 in
theorem ggX5_passTicksUntilRunning_X1_runs : GoodIn wsX5_passTicksUntilRunning wsX1_runs := goodIn_r _ [53, 33, 23, 105, 106, 107, 108, 109, 110, 111, 112, 113] (by decide +kernel) (by decide +kernel)
set_option maxRecDepth 20000 in
theorem gX5_passTicksUntilRunning_X1_runs_n106 : GoodIn wsX5_passTicksUntilRunning (wsX1_runs) := ggX5_passTicksUntilRunning_X1_runs
set_option maxRecDepth 20000 in
theorem ggX5_passTicksUntilRunning_X1_isSpent : GoodIn wsX5_passTicksUntilRunning wsX1_isSpent := goodIn_r _ [88, 24, 33, 23, 28, 105, 106, 107, 108, 109, 110, 111, 112, 113] (by decide +kernel) (by decide +kernel)
set_option maxRecDepth 20000 in
theorem gX5_passTicksUntilRunning_X1_isSpent_n109 : GoodIn wsX5_passTicksUntilRunning (wsX1_isSpent) := ggX5_passTicksUntilRunning_X1_isSpent
theorem dX5_passTicksUntilRunning_0 : decode cX5_passTicksUntilRunning 0 = .ok (.iconst 0, 1) := by decide +kernel
theorem dX5_passTicksUntilRunning_1 : decode cX5_passTicksUntilRunning 1 = .ok (.istore_n 2, 1) := by decide +kernel
theorem dX5_passTicksUntilRunning_2 : decode cX5_passTicksUntilRunning 2 = .ok (.iload_n 2, 1) := by decide +kernel
theorem dX5_passTicksUntilRunning_3 : decode cX5_passTicksUntilRunning 3 = .ok (.sipush 300, 3) := by decide +kernel
theorem dX5_passTicksUntilRunning_6 : decode cX5_passTicksUntilRunning 6 = .ok (.if_icmp .gt 59, 3) := by decide +kernel
theorem dX5_passTicksUntilRunning_9 : decode cX5_passTicksUntilRunning 9 = .ok (.iload_n 2, 1) := by decide +kernel
theorem dX5_passTicksUntilRunning_10 : decode cX5_passTicksUntilRunning 10 = .ok (.ifCond .le 24, 3) := by decide +kernel
theorem dX5_passTicksUntilRunning_13 : decode cX5_passTicksUntilRunning 13 = .ok (.aload_n 0, 1) := by decide +kernel
theorem dX5_passTicksUntilRunning_14 : decode cX5_passTicksUntilRunning 14 = .ok (.invokevirtual 74, 3) := by decide +kernel
theorem dX5_passTicksUntilRunning_17 : decode cX5_passTicksUntilRunning 17 = .ok (.iload_n 1, 1) := by decide +kernel
theorem dX5_passTicksUntilRunning_18 : decode cX5_passTicksUntilRunning 18 = .ok (.ifCond .ne 16, 3) := by decide +kernel
theorem dX5_passTicksUntilRunning_21 : decode cX5_passTicksUntilRunning 21 = .ok (.aload_n 0, 1) := by decide +kernel
theorem dX5_passTicksUntilRunning_22 : decode cX5_passTicksUntilRunning 22 = .ok (.getfield 12, 3) := by decide +kernel
theorem dX5_passTicksUntilRunning_25 : decode cX5_passTicksUntilRunning 25 = .ok (.invokevirtual 102, 3) := by decide +kernel
theorem dX5_passTicksUntilRunning_28 : decode cX5_passTicksUntilRunning 28 = .ok (.ifCond .eq 6, 3) := by decide +kernel
theorem dX5_passTicksUntilRunning_31 : decode cX5_passTicksUntilRunning 31 = .ok (.bipush (-6), 2) := by decide +kernel
theorem dX5_passTicksUntilRunning_33 : decode cX5_passTicksUntilRunning 33 = .ok (.ireturn, 1) := by decide +kernel
theorem dX5_passTicksUntilRunning_34 : decode cX5_passTicksUntilRunning 34 = .ok (.aload_n 0, 1) := by decide +kernel
theorem dX5_passTicksUntilRunning_35 : decode cX5_passTicksUntilRunning 35 = .ok (.getfield 12, 3) := by decide +kernel
theorem dX5_passTicksUntilRunning_38 : decode cX5_passTicksUntilRunning 38 = .ok (.invokevirtual 106, 3) := by decide +kernel
theorem dX5_passTicksUntilRunning_41 : decode cX5_passTicksUntilRunning 41 = .ok (.ifCond .eq 5, 3) := by decide +kernel
theorem dX5_passTicksUntilRunning_44 : decode cX5_passTicksUntilRunning 44 = .ok (.iload_n 2, 1) := by decide +kernel
theorem dX5_passTicksUntilRunning_45 : decode cX5_passTicksUntilRunning 45 = .ok (.ireturn, 1) := by decide +kernel
theorem dX5_passTicksUntilRunning_46 : decode cX5_passTicksUntilRunning 46 = .ok (.aload_n 0, 1) := by decide +kernel
theorem dX5_passTicksUntilRunning_47 : decode cX5_passTicksUntilRunning 47 = .ok (.getfield 12, 3) := by decide +kernel
theorem dX5_passTicksUntilRunning_50 : decode cX5_passTicksUntilRunning 50 = .ok (.invokevirtual 109, 3) := by decide +kernel
theorem dX5_passTicksUntilRunning_53 : decode cX5_passTicksUntilRunning 53 = .ok (.ifCond .eq 6, 3) := by decide +kernel
theorem dX5_passTicksUntilRunning_56 : decode cX5_passTicksUntilRunning 56 = .ok (.bipush (-6), 2) := by decide +kernel
theorem dX5_passTicksUntilRunning_58 : decode cX5_passTicksUntilRunning 58 = .ok (.ireturn, 1) := by decide +kernel
theorem dX5_passTicksUntilRunning_59 : decode cX5_passTicksUntilRunning 59 = .ok (.iinc 2 1, 3) := by decide +kernel
theorem dX5_passTicksUntilRunning_62 : decode cX5_passTicksUntilRunning 62 = .ok (.goto (-60), 3) := by decide +kernel
theorem dX5_passTicksUntilRunning_65 : decode cX5_passTicksUntilRunning 65 = .ok (.bipush (-6), 2) := by decide +kernel
theorem dX5_passTicksUntilRunning_67 : decode cX5_passTicksUntilRunning 67 = .ok (.ireturn, 1) := by decide +kernel
theorem dX6_init_0 : decode cX6_init 0 = .ok (.aload_n 0, 1) := by decide +kernel
theorem dX6_init_1 : decode cX6_init 1 = .ok (.invokespecial 3, 3) := by decide +kernel
theorem dX6_init_4 : decode cX6_init 4 = .ok (.aload_n 0, 1) := by decide +kernel
theorem dX6_init_5 : decode cX6_init 5 = .ok (.iconst 4, 1) := by decide +kernel
theorem dX6_init_6 : decode cX6_init 6 = .ok (.newarray .int, 2) := by decide +kernel
theorem dX6_init_8 : decode cX6_init 8 = .ok (.putfield 9, 3) := by decide +kernel
theorem dX6_init_11 : decode cX6_init 11 = .ok (.return_, 1) := by decide +kernel
theorem dX6_copyFrom_0 : decode cX6_copyFrom 0 = .ok (.aload_n 1, 1) := by decide +kernel
theorem dX6_copyFrom_1 : decode cX6_copyFrom 1 = .ok (.getfield 9, 3) := by decide +kernel
theorem dX6_copyFrom_4 : decode cX6_copyFrom 4 = .ok (.iconst 0, 1) := by decide +kernel
theorem dX6_copyFrom_5 : decode cX6_copyFrom 5 = .ok (.aload_n 0, 1) := by decide +kernel
theorem dX6_copyFrom_6 : decode cX6_copyFrom 6 = .ok (.getfield 9, 3) := by decide +kernel
theorem dX6_copyFrom_9 : decode cX6_copyFrom 9 = .ok (.iconst 0, 1) := by decide +kernel
theorem dX6_copyFrom_10 : decode cX6_copyFrom 10 = .ok (.iconst 4, 1) := by decide +kernel
theorem dX6_copyFrom_11 : decode cX6_copyFrom 11 = .ok (.invokestatic 15, 3) := by decide +kernel
theorem dX6_copyFrom_14 : decode cX6_copyFrom 14 = .ok (.aload_n 0, 1) := by decide +kernel
theorem dX6_copyFrom_15 : decode cX6_copyFrom 15 = .ok (.aload_n 1, 1) := by decide +kernel
theorem dX6_copyFrom_16 : decode cX6_copyFrom 16 = .ok (.getfield 21, 3) := by decide +kernel
theorem dX6_copyFrom_19 : decode cX6_copyFrom 19 = .ok (.putfield 21, 3) := by decide +kernel
theorem dX6_copyFrom_22 : decode cX6_copyFrom 22 = .ok (.aload_n 0, 1) := by decide +kernel
theorem dX6_copyFrom_23 : decode cX6_copyFrom 23 = .ok (.aload_n 1, 1) := by decide +kernel
theorem dX6_copyFrom_24 : decode cX6_copyFrom 24 = .ok (.getfield 25, 3) := by decide +kernel
theorem dX6_copyFrom_27 : decode cX6_copyFrom 27 = .ok (.putfield 25, 3) := by decide +kernel
theorem dX6_copyFrom_30 : decode cX6_copyFrom 30 = .ok (.aload_n 0, 1) := by decide +kernel
theorem dX6_copyFrom_31 : decode cX6_copyFrom 31 = .ok (.aload_n 1, 1) := by decide +kernel
theorem dX6_copyFrom_32 : decode cX6_copyFrom 32 = .ok (.getfield 28, 3) := by decide +kernel
theorem dX6_copyFrom_35 : decode cX6_copyFrom 35 = .ok (.putfield 28, 3) := by decide +kernel
theorem dX6_copyFrom_38 : decode cX6_copyFrom 38 = .ok (.aload_n 0, 1) := by decide +kernel
theorem dX6_copyFrom_39 : decode cX6_copyFrom 39 = .ok (.aload_n 1, 1) := by decide +kernel
theorem dX6_copyFrom_40 : decode cX6_copyFrom 40 = .ok (.getfield 31, 3) := by decide +kernel
theorem dX6_copyFrom_43 : decode cX6_copyFrom 43 = .ok (.putfield 31, 3) := by decide +kernel
theorem dX6_copyFrom_46 : decode cX6_copyFrom 46 = .ok (.aload_n 0, 1) := by decide +kernel
theorem dX6_copyFrom_47 : decode cX6_copyFrom 47 = .ok (.aload_n 1, 1) := by decide +kernel
theorem dX6_copyFrom_48 : decode cX6_copyFrom 48 = .ok (.getfield 34, 3) := by decide +kernel
theorem dX6_copyFrom_51 : decode cX6_copyFrom 51 = .ok (.putfield 34, 3) := by decide +kernel
theorem dX6_copyFrom_54 : decode cX6_copyFrom 54 = .ok (.return_, 1) := by decide +kernel
theorem dX6_forgetHeat_0 : decode cX6_forgetHeat 0 = .ok (.aload_n 0, 1) := by decide +kernel
theorem dX6_forgetHeat_1 : decode cX6_forgetHeat 1 = .ok (.iconst 0, 1) := by decide +kernel
theorem dX6_forgetHeat_2 : decode cX6_forgetHeat 2 = .ok (.putfield 21, 3) := by decide +kernel
theorem dX6_forgetHeat_5 : decode cX6_forgetHeat 5 = .ok (.aload_n 0, 1) := by decide +kernel
theorem dX6_forgetHeat_6 : decode cX6_forgetHeat 6 = .ok (.iconst 0, 1) := by decide +kernel
theorem dX6_forgetHeat_7 : decode cX6_forgetHeat 7 = .ok (.putfield 34, 3) := by decide +kernel
theorem dX6_forgetHeat_10 : decode cX6_forgetHeat 10 = .ok (.return_, 1) := by decide +kernel
set_option maxRecDepth 20000 in
theorem ggX6_addTick_X1_isHot : GoodIn wsX6_addTick wsX1_isHot := goodIn_r _ [13, 14, 15, 30, 31, 32, 33, 34, 35, 36, 37, 38] (by decide +kernel) (by decide +kernel)
set_option maxRecDepth 20000 in
theorem gX6_addTick_X1_isHot_n37 : GoodIn wsX6_addTick (wsX1_isHot) := ggX6_addTick_X1_isHot
set_option maxRecDepth 20000 in
theorem ggX6_addTick_X7_oneIf : GoodIn wsX6_addTick wsX7_oneIf := goodIn_r _ [18] (by decide +kernel) (by decide +kernel)
set_option maxRecDepth 20000 in
theorem gX6_addTick_X7_oneIf_n43 : GoodIn wsX6_addTick (wsX7_oneIf) := ggX6_addTick_X7_oneIf
set_option maxRecDepth 20000 in
theorem ggX6_addTick_X1_runs : GoodIn wsX6_addTick wsX1_runs := goodIn_r _ [21, 22, 23, 30, 31, 32, 33, 34, 35, 36, 37, 38] (by decide +kernel) (by decide +kernel)
set_option maxRecDepth 20000 in
theorem gX6_addTick_X1_runs_n47 : GoodIn wsX6_addTick (wsX1_runs) := ggX6_addTick_X1_runs
theorem dX6_addTick_0 : decode cX6_addTick 0 = .ok (.aload_n 0, 1) := by decide +kernel
theorem dX6_addTick_1 : decode cX6_addTick 1 = .ok (.dup, 1) := by decide +kernel
theorem dX6_addTick_2 : decode cX6_addTick 2 = .ok (.getfield 21, 3) := by decide +kernel
theorem dX6_addTick_5 : decode cX6_addTick 5 = .ok (.aload_n 1, 1) := by decide +kernel
theorem dX6_addTick_6 : decode cX6_addTick 6 = .ok (.invokevirtual 37, 3) := by decide +kernel
theorem dX6_addTick_9 : decode cX6_addTick 9 = .ok (.invokestatic 43, 3) := by decide +kernel
theorem dX6_addTick_12 : decode cX6_addTick 12 = .ok (.iadd, 1) := by decide +kernel
theorem dX6_addTick_13 : decode cX6_addTick 13 = .ok (.putfield 21, 3) := by decide +kernel
theorem dX6_addTick_16 : decode cX6_addTick 16 = .ok (.aload_n 0, 1) := by decide +kernel
theorem dX6_addTick_17 : decode cX6_addTick 17 = .ok (.dup, 1) := by decide +kernel
theorem dX6_addTick_18 : decode cX6_addTick 18 = .ok (.getfield 25, 3) := by decide +kernel
theorem dX6_addTick_21 : decode cX6_addTick 21 = .ok (.aload_n 1, 1) := by decide +kernel
theorem dX6_addTick_22 : decode cX6_addTick 22 = .ok (.invokevirtual 47, 3) := by decide +kernel
theorem dX6_addTick_25 : decode cX6_addTick 25 = .ok (.invokestatic 43, 3) := by decide +kernel
theorem dX6_addTick_28 : decode cX6_addTick 28 = .ok (.iadd, 1) := by decide +kernel
theorem dX6_addTick_29 : decode cX6_addTick 29 = .ok (.putfield 25, 3) := by decide +kernel
theorem dX6_addTick_32 : decode cX6_addTick 32 = .ok (.aload_n 0, 1) := by decide +kernel
theorem dX6_addTick_33 : decode cX6_addTick 33 = .ok (.dup, 1) := by decide +kernel
theorem dX6_addTick_34 : decode cX6_addTick 34 = .ok (.getfield 28, 3) := by decide +kernel
theorem dX6_addTick_37 : decode cX6_addTick 37 = .ok (.iload_n 2, 1) := by decide +kernel
theorem dX6_addTick_38 : decode cX6_addTick 38 = .ok (.ifCond .ne 14, 3) := by decide +kernel
theorem dX6_addTick_41 : decode cX6_addTick 41 = .ok (.aload_n 1, 1) := by decide +kernel
theorem dX6_addTick_42 : decode cX6_addTick 42 = .ok (.getfield 50, 3) := by decide +kernel
theorem dX6_addTick_45 : decode cX6_addTick 45 = .ok (.ifCond .eq 7, 3) := by decide +kernel
theorem dX6_addTick_48 : decode cX6_addTick 48 = .ok (.iconst 1, 1) := by decide +kernel
theorem dX6_addTick_49 : decode cX6_addTick 49 = .ok (.goto 4, 3) := by decide +kernel
theorem dX6_addTick_52 : decode cX6_addTick 52 = .ok (.iconst 0, 1) := by decide +kernel
theorem dX6_addTick_53 : decode cX6_addTick 53 = .ok (.invokestatic 43, 3) := by decide +kernel
theorem dX6_addTick_56 : decode cX6_addTick 56 = .ok (.iadd, 1) := by decide +kernel
theorem dX6_addTick_57 : decode cX6_addTick 57 = .ok (.putfield 28, 3) := by decide +kernel
theorem dX6_addTick_60 : decode cX6_addTick 60 = .ok (.aload_n 0, 1) := by decide +kernel
theorem dX6_addTick_61 : decode cX6_addTick 61 = .ok (.dup, 1) := by decide +kernel
theorem dX6_addTick_62 : decode cX6_addTick 62 = .ok (.getfield 31, 3) := by decide +kernel
theorem dX6_addTick_65 : decode cX6_addTick 65 = .ok (.iload_n 2, 1) := by decide +kernel
theorem dX6_addTick_66 : decode cX6_addTick 66 = .ok (.ifCond .eq 14, 3) := by decide +kernel
theorem dX6_addTick_69 : decode cX6_addTick 69 = .ok (.aload_n 1, 1) := by decide +kernel
theorem dX6_addTick_70 : decode cX6_addTick 70 = .ok (.getfield 50, 3) := by decide +kernel
theorem dX6_addTick_73 : decode cX6_addTick 73 = .ok (.ifCond .ne 7, 3) := by decide +kernel
theorem dX6_addTick_76 : decode cX6_addTick 76 = .ok (.iconst 1, 1) := by decide +kernel
theorem dX6_addTick_77 : decode cX6_addTick 77 = .ok (.goto 4, 3) := by decide +kernel
theorem dX6_addTick_80 : decode cX6_addTick 80 = .ok (.iconst 0, 1) := by decide +kernel
theorem dX6_addTick_81 : decode cX6_addTick 81 = .ok (.invokestatic 43, 3) := by decide +kernel
theorem dX6_addTick_84 : decode cX6_addTick 84 = .ok (.iadd, 1) := by decide +kernel
theorem dX6_addTick_85 : decode cX6_addTick 85 = .ok (.putfield 31, 3) := by decide +kernel
theorem dX6_addTick_88 : decode cX6_addTick 88 = .ok (.aload_n 0, 1) := by decide +kernel
theorem dX6_addTick_89 : decode cX6_addTick 89 = .ok (.aload_n 0, 1) := by decide +kernel
theorem dX6_addTick_90 : decode cX6_addTick 90 = .ok (.getfield 34, 3) := by decide +kernel
theorem dX6_addTick_93 : decode cX6_addTick 93 = .ok (.aload_n 1, 1) := by decide +kernel
theorem dX6_addTick_94 : decode cX6_addTick 94 = .ok (.getfield 54, 3) := by decide +kernel
theorem dX6_addTick_97 : decode cX6_addTick 97 = .ok (.invokestatic 57, 3) := by decide +kernel
theorem dX6_addTick_100 : decode cX6_addTick 100 = .ok (.putfield 34, 3) := by decide +kernel
theorem dX6_addTick_103 : decode cX6_addTick 103 = .ok (.return_, 1) := by decide +kernel
theorem dX6_addEnding_0 : decode cX6_addEnding 0 = .ok (.iload_n 1, 1) := by decide +kernel
theorem dX6_addEnding_1 : decode cX6_addEnding 1 = .ok (.ifCond .lt 18, 3) := by decide +kernel
theorem dX6_addEnding_4 : decode cX6_addEnding 4 = .ok (.iload_n 1, 1) := by decide +kernel
theorem dX6_addEnding_5 : decode cX6_addEnding 5 = .ok (.iconst 4, 1) := by decide +kernel
theorem dX6_addEnding_6 : decode cX6_addEnding 6 = .ok (.if_icmp .ge 13, 3) := by decide +kernel
theorem dX6_addEnding_9 : decode cX6_addEnding 9 = .ok (.aload_n 0, 1) := by decide +kernel
theorem dX6_addEnding_10 : decode cX6_addEnding 10 = .ok (.getfield 9, 3) := by decide +kernel
theorem dX6_addEnding_13 : decode cX6_addEnding 13 = .ok (.iload_n 1, 1) := by decide +kernel
theorem dX6_addEnding_14 : decode cX6_addEnding 14 = .ok (.dup2, 1) := by decide +kernel
theorem dX6_addEnding_15 : decode cX6_addEnding 15 = .ok (.iaload, 1) := by decide +kernel
theorem dX6_addEnding_16 : decode cX6_addEnding 16 = .ok (.iconst 1, 1) := by decide +kernel
theorem dX6_addEnding_17 : decode cX6_addEnding 17 = .ok (.iadd, 1) := by decide +kernel
theorem dX6_addEnding_18 : decode cX6_addEnding 18 = .ok (.iastore, 1) := by decide +kernel
theorem dX6_addEnding_19 : decode cX6_addEnding 19 = .ok (.return_, 1) := by decide +kernel
set_option maxRecDepth 20000 in
theorem ggX7_init_X5_init : GoodIn wsX7_init wsX5_init := goodIn_r _ [21, 22, 2, 3, 23, 24, 25, 26, 27, 28, 29, 30, 31, 32, 33, 34, 35, 36, 37, 38, 39, 40, 41, 42, 43, 44, 45, 46, 47, 48, 49, 50, 51, 52, 53, 54, 55, 56, 57, 58, 59, 86, 87, 88, 89, 90, 91, 92, 93, 94, 70, 71, 72, 73, 74, 95, 96, 97, 98, 99, 100, 101, 102, 103, 104, 105, 106, 107] (by decide +kernel) (by decide +kernel)
set_option maxRecDepth 20000 in
theorem gX7_init_X5_init_n9 : GoodIn wsX7_init (wsX5_init) := ggX7_init_X5_init
set_option maxRecDepth 20000 in
theorem ggX7_init_X2_init : GoodIn wsX7_init wsX2_init := goodIn_r _ [61, 62, 2, 3, 63, 64, 5, 6, 20, 21, 22, 23, 24, 25, 26, 27, 28, 29, 30, 31, 32, 33, 34, 35, 36, 37, 38, 39, 40, 41, 42, 43, 44, 45, 46, 47, 48, 49, 50, 51, 52, 53, 54, 55, 56, 57, 58, 59, 81, 82, 83, 70, 71, 72, 73, 74, 86, 87, 88, 89, 90, 91, 92, 93, 94, 95, 96, 97, 98, 99, 100, 101, 102, 103, 104, 105, 106, 107] (by decide +kernel) (by decide +kernel)
set_option maxRecDepth 20000 in
theorem gX7_init_X2_init_n21 : GoodIn wsX7_init (wsX2_init) := ggX7_init_X2_init
set_option maxRecDepth 20000 in
theorem ggX7_init_X4_init : GoodIn wsX7_init wsX4_init := goodIn_r _ [66, 67, 2, 3, 68, 69, 84, 85] (by decide +kernel) (by decide +kernel)
set_option maxRecDepth 20000 in
theorem gX7_init_X4_init_n36 : GoodIn wsX7_init (wsX4_init) := ggX7_init_X4_init
theorem dX7_init_0 : decode cX7_init 0 = .ok (.aload_n 0, 1) := by decide +kernel
theorem dX7_init_1 : decode cX7_init 1 = .ok (.invokespecial 1, 3) := by decide +kernel
theorem dX7_init_4 : decode cX7_init 4 = .ok (.aload_n 0, 1) := by decide +kernel
theorem dX7_init_5 : decode cX7_init 5 = .ok (.new 7, 3) := by decide +kernel
theorem dX7_init_8 : decode cX7_init 8 = .ok (.dup, 1) := by decide +kernel
theorem dX7_init_9 : decode cX7_init 9 = .ok (.invokespecial 9, 3) := by decide +kernel
theorem dX7_init_12 : decode cX7_init 12 = .ok (.putfield 10, 3) := by decide +kernel
theorem dX7_init_15 : decode cX7_init 15 = .ok (.aload_n 0, 1) := by decide +kernel
theorem dX7_init_16 : decode cX7_init 16 = .ok (.new 7, 3) := by decide +kernel
theorem dX7_init_19 : decode cX7_init 19 = .ok (.dup, 1) := by decide +kernel
theorem dX7_init_20 : decode cX7_init 20 = .ok (.invokespecial 9, 3) := by decide +kernel
theorem dX7_init_23 : decode cX7_init 23 = .ok (.putfield 16, 3) := by decide +kernel
theorem dX7_init_26 : decode cX7_init 26 = .ok (.aload_n 0, 1) := by decide +kernel
theorem dX7_init_27 : decode cX7_init 27 = .ok (.new 19, 3) := by decide +kernel
theorem dX7_init_30 : decode cX7_init 30 = .ok (.dup, 1) := by decide +kernel
theorem dX7_init_31 : decode cX7_init 31 = .ok (.invokespecial 21, 3) := by decide +kernel
theorem dX7_init_34 : decode cX7_init 34 = .ok (.putfield 22, 3) := by decide +kernel
theorem dX7_init_37 : decode cX7_init 37 = .ok (.aload_n 0, 1) := by decide +kernel
theorem dX7_init_38 : decode cX7_init 38 = .ok (.iconst 2, 1) := by decide +kernel
theorem dX7_init_39 : decode cX7_init 39 = .ok (.anewarray 7, 3) := by decide +kernel
theorem dX7_init_42 : decode cX7_init 42 = .ok (.putfield 26, 3) := by decide +kernel
theorem dX7_init_45 : decode cX7_init 45 = .ok (.aload_n 0, 1) := by decide +kernel
theorem dX7_init_46 : decode cX7_init 46 = .ok (.iconst 2, 1) := by decide +kernel
theorem dX7_init_47 : decode cX7_init 47 = .ok (.newarray .boolean, 2) := by decide +kernel
theorem dX7_init_49 : decode cX7_init 49 = .ok (.putfield 30, 3) := by decide +kernel
theorem dX7_init_52 : decode cX7_init 52 = .ok (.aload_n 0, 1) := by decide +kernel
theorem dX7_init_53 : decode cX7_init 53 = .ok (.new 34, 3) := by decide +kernel
theorem dX7_init_56 : decode cX7_init 56 = .ok (.dup, 1) := by decide +kernel
theorem dX7_init_57 : decode cX7_init 57 = .ok (.invokespecial 36, 3) := by decide +kernel
theorem dX7_init_60 : decode cX7_init 60 = .ok (.putfield 37, 3) := by decide +kernel
theorem dX7_init_63 : decode cX7_init 63 = .ok (.iconst 0, 1) := by decide +kernel
theorem dX7_init_64 : decode cX7_init 64 = .ok (.istore_n 1, 1) := by decide +kernel
theorem dX7_init_65 : decode cX7_init 65 = .ok (.iload_n 1, 1) := by decide +kernel
theorem dX7_init_66 : decode cX7_init 66 = .ok (.iconst 2, 1) := by decide +kernel
theorem dX7_init_67 : decode cX7_init 67 = .ok (.if_icmp .ge 22, 3) := by decide +kernel
theorem dX7_init_70 : decode cX7_init 70 = .ok (.aload_n 0, 1) := by decide +kernel
theorem dX7_init_71 : decode cX7_init 71 = .ok (.getfield 26, 3) := by decide +kernel
theorem dX7_init_74 : decode cX7_init 74 = .ok (.iload_n 1, 1) := by decide +kernel
theorem dX7_init_75 : decode cX7_init 75 = .ok (.new 7, 3) := by decide +kernel
theorem dX7_init_78 : decode cX7_init 78 = .ok (.dup, 1) := by decide +kernel
theorem dX7_init_79 : decode cX7_init 79 = .ok (.invokespecial 9, 3) := by decide +kernel
theorem dX7_init_82 : decode cX7_init 82 = .ok (.aastore, 1) := by decide +kernel
theorem dX7_init_83 : decode cX7_init 83 = .ok (.iinc 1 1, 3) := by decide +kernel
theorem dX7_init_86 : decode cX7_init 86 = .ok (.goto (-21), 3) := by decide +kernel
theorem dX7_init_89 : decode cX7_init 89 = .ok (.return_, 1) := by decide +kernel
set_option maxRecDepth 20000 in
theorem ggX7_set_X2_keep : GoodIn wsX7_set wsX2_keep := goodIn_r _ [8, 9, 10, 11, 12, 13, 14, 15, 16, 17, 18, 19, 20, 21, 22, 23, 24, 25, 26, 27, 28, 29, 30, 31, 32, 33, 34, 35, 36, 37, 38, 39, 40, 41, 42, 43, 44, 45, 46, 47, 48, 49, 50, 51, 52, 53, 54, 55, 56, 57, 58, 59, 60, 61, 62, 63, 64, 85, 86, 87, 71, 72, 73, 74, 75, 76, 77, 78, 79, 80, 81, 82, 83, 84, 88, 89, 90, 91, 92, 93, 94, 95, 96, 97, 98, 99, 100] (by decide +kernel) (by decide +kernel)
set_option maxRecDepth 20000 in
theorem gX7_set_X2_keep_n48 : GoodIn wsX7_set (wsX2_keep) := ggX7_set_X2_keep
theorem dX7_set_0 : decode cX7_set 0 = .ok (.iload_n 1, 1) := by decide +kernel
theorem dX7_set_1 : decode cX7_set 1 = .ok (.ifCond .lt 9, 3) := by decide +kernel
theorem dX7_set_4 : decode cX7_set 4 = .ok (.iload_n 1, 1) := by decide +kernel
theorem dX7_set_5 : decode cX7_set 5 = .ok (.bipush 7, 2) := by decide +kernel
theorem dX7_set_7 : decode cX7_set 7 = .ok (.if_icmp .lt 6, 3) := by decide +kernel
theorem dX7_set_10 : decode cX7_set 10 = .ok (.bipush (-2), 2) := by decide +kernel
theorem dX7_set_12 : decode cX7_set 12 = .ok (.ireturn, 1) := by decide +kernel
theorem dX7_set_13 : decode cX7_set 13 = .ok (.iload_n 2, 1) := by decide +kernel
theorem dX7_set_14 : decode cX7_set 14 = .ok (.getstatic 41, 3) := by decide +kernel
theorem dX7_set_17 : decode cX7_set 17 = .ok (.iload_n 1, 1) := by decide +kernel
theorem dX7_set_18 : decode cX7_set 18 = .ok (.iaload, 1) := by decide +kernel
theorem dX7_set_19 : decode cX7_set 19 = .ok (.if_icmp .lt 12, 3) := by decide +kernel
theorem dX7_set_22 : decode cX7_set 22 = .ok (.iload_n 2, 1) := by decide +kernel
theorem dX7_set_23 : decode cX7_set 23 = .ok (.getstatic 45, 3) := by decide +kernel
theorem dX7_set_26 : decode cX7_set 26 = .ok (.iload_n 1, 1) := by decide +kernel
theorem dX7_set_27 : decode cX7_set 27 = .ok (.iaload, 1) := by decide +kernel
theorem dX7_set_28 : decode cX7_set 28 = .ok (.if_icmp .le 6, 3) := by decide +kernel
theorem dX7_set_31 : decode cX7_set 31 = .ok (.bipush (-2), 2) := by decide +kernel
theorem dX7_set_33 : decode cX7_set 33 = .ok (.ireturn, 1) := by decide +kernel
theorem dX7_set_34 : decode cX7_set 34 = .ok (.aload_n 0, 1) := by decide +kernel
theorem dX7_set_35 : decode cX7_set 35 = .ok (.getfield 22, 3) := by decide +kernel
theorem dX7_set_38 : decode cX7_set 38 = .ok (.aload_n 0, 1) := by decide +kernel
theorem dX7_set_39 : decode cX7_set 39 = .ok (.getfield 10, 3) := by decide +kernel
theorem dX7_set_42 : decode cX7_set 42 = .ok (.invokevirtual 48, 3) := by decide +kernel
theorem dX7_set_45 : decode cX7_set 45 = .ok (.aload_n 0, 1) := by decide +kernel
theorem dX7_set_46 : decode cX7_set 46 = .ok (.getfield 10, 3) := by decide +kernel
theorem dX7_set_49 : decode cX7_set 49 = .ok (.getfield 52, 3) := by decide +kernel
theorem dX7_set_52 : decode cX7_set 52 = .ok (.getfield 56, 3) := by decide +kernel
theorem dX7_set_55 : decode cX7_set 55 = .ok (.iload_n 1, 1) := by decide +kernel
theorem dX7_set_56 : decode cX7_set 56 = .ok (.iaload, 1) := by decide +kernel
theorem dX7_set_57 : decode cX7_set 57 = .ok (.istore_n 3, 1) := by decide +kernel
theorem dX7_set_58 : decode cX7_set 58 = .ok (.aload_n 0, 1) := by decide +kernel
theorem dX7_set_59 : decode cX7_set 59 = .ok (.getfield 10, 3) := by decide +kernel
theorem dX7_set_62 : decode cX7_set 62 = .ok (.getfield 52, 3) := by decide +kernel
theorem dX7_set_65 : decode cX7_set 65 = .ok (.getfield 56, 3) := by decide +kernel
theorem dX7_set_68 : decode cX7_set 68 = .ok (.iload_n 1, 1) := by decide +kernel
theorem dX7_set_69 : decode cX7_set 69 = .ok (.iload_n 2, 1) := by decide +kernel
theorem dX7_set_70 : decode cX7_set 70 = .ok (.iastore, 1) := by decide +kernel
theorem dX7_set_71 : decode cX7_set 71 = .ok (.iload_n 3, 1) := by decide +kernel
theorem dX7_set_72 : decode cX7_set 72 = .ok (.ireturn, 1) := by decide +kernel
set_option maxRecDepth 20000 in
theorem ggX7_starter_X5_canTurnStarter : GoodIn wsX7_starter wsX5_canTurnStarter := goodIn_r _ [6, 7, 78, 79, 80, 81, 82, 83, 84, 85, 86, 87, 88, 89, 90, 91] (by decide +kernel) (by decide +kernel)
set_option maxRecDepth 20000 in
theorem gX7_starter_X5_canTurnStarter_n61 : GoodIn wsX7_starter (wsX5_canTurnStarter) := ggX7_starter_X5_canTurnStarter
set_option maxRecDepth 20000 in
theorem ggX7_starter_X2_keep : GoodIn wsX7_starter wsX2_keep := goodIn_r _ [11, 12, 13, 14, 15, 4, 16, 17, 7, 18, 19, 20, 21, 22, 23, 24, 25, 26, 27, 28, 29, 30, 31, 32, 33, 34, 35, 36, 37, 38, 39, 40, 41, 42, 43, 44, 45, 46, 47, 48, 49, 50, 51, 52, 53, 54, 55, 56, 57, 58, 59, 60, 61, 62, 63, 64, 65, 92, 93, 94, 78, 79, 80, 81, 82, 83, 84, 85, 86, 87, 88, 89, 90, 91, 95, 96, 97, 98, 99, 100, 101, 102, 103, 104, 105, 106, 107] (by decide +kernel) (by decide +kernel)
set_option maxRecDepth 20000 in
theorem gX7_starter_X2_keep_n48 : GoodIn wsX7_starter (wsX2_keep) := ggX7_starter_X2_keep
set_option maxRecDepth 20000 in
theorem ggX7_starter_X5_turnStarter : GoodIn wsX7_starter wsX5_turnStarter := goodIn_r _ [68, 7, 18, 69, 40, 70, 71, 43, 44, 45, 46, 47, 78, 79, 80, 81, 82, 83, 84, 85, 86, 87, 88, 89, 90, 91, 95, 96, 97, 98, 99] (by decide +kernel) (by decide +kernel)
set_option maxRecDepth 20000 in
theorem gX7_starter_X5_turnStarter_n65 : GoodIn wsX7_starter (wsX5_turnStarter) := ggX7_starter_X5_turnStarter
theorem dX7_starter_0 : decode cX7_starter 0 = .ok (.aload_n 0, 1) := by decide +kernel
theorem dX7_starter_1 : decode cX7_starter 1 = .ok (.getfield 10, 3) := by decide +kernel
theorem dX7_starter_4 : decode cX7_starter 4 = .ok (.iload_n 1, 1) := by decide +kernel
theorem dX7_starter_5 : decode cX7_starter 5 = .ok (.invokevirtual 61, 3) := by decide +kernel
theorem dX7_starter_8 : decode cX7_starter 8 = .ok (.ifCond .ne 6, 3) := by decide +kernel
theorem dX7_starter_11 : decode cX7_starter 11 = .ok (.bipush (-5), 2) := by decide +kernel
theorem dX7_starter_13 : decode cX7_starter 13 = .ok (.ireturn, 1) := by decide +kernel
theorem dX7_starter_14 : decode cX7_starter 14 = .ok (.aload_n 0, 1) := by decide +kernel
theorem dX7_starter_15 : decode cX7_starter 15 = .ok (.getfield 22, 3) := by decide +kernel
theorem dX7_starter_18 : decode cX7_starter 18 = .ok (.aload_n 0, 1) := by decide +kernel
theorem dX7_starter_19 : decode cX7_starter 19 = .ok (.getfield 10, 3) := by decide +kernel
theorem dX7_starter_22 : decode cX7_starter 22 = .ok (.invokevirtual 48, 3) := by decide +kernel
theorem dX7_starter_25 : decode cX7_starter 25 = .ok (.aload_n 0, 1) := by decide +kernel
theorem dX7_starter_26 : decode cX7_starter 26 = .ok (.getfield 10, 3) := by decide +kernel
theorem dX7_starter_29 : decode cX7_starter 29 = .ok (.iload_n 1, 1) := by decide +kernel
theorem dX7_starter_30 : decode cX7_starter 30 = .ok (.invokevirtual 65, 3) := by decide +kernel
theorem dX7_starter_33 : decode cX7_starter 33 = .ok (.aload_n 0, 1) := by decide +kernel
theorem dX7_starter_34 : decode cX7_starter 34 = .ok (.getfield 10, 3) := by decide +kernel
theorem dX7_starter_37 : decode cX7_starter 37 = .ok (.getfield 52, 3) := by decide +kernel
theorem dX7_starter_40 : decode cX7_starter 40 = .ok (.getfield 69, 3) := by decide +kernel
theorem dX7_starter_43 : decode cX7_starter 43 = .ok (.ireturn, 1) := by decide +kernel
set_option maxRecDepth 20000 in
theorem ggX7_spark_X2_keep : GoodIn wsX7_spark wsX2_keep := goodIn_r _ [6, 7, 8, 9, 10, 11, 12, 13, 14, 15, 16, 17, 18, 19, 20, 21, 22, 23, 24, 25, 26, 27, 28, 29, 30, 31, 32, 33, 34, 35, 36, 37, 38, 39, 40, 41, 42, 43, 44, 45, 46, 47, 48, 49, 50, 51, 52, 53, 54, 55, 56, 57, 58, 59, 60, 61, 62, 83, 84, 85, 69, 70, 71, 72, 73, 74, 75, 76, 77, 78, 79, 80, 81, 82, 86, 87, 88, 89, 90, 91, 92, 93, 94, 95, 96, 97, 98] (by decide +kernel) (by decide +kernel)
set_option maxRecDepth 20000 in
theorem gX7_spark_X2_keep_n48 : GoodIn wsX7_spark (wsX2_keep) := ggX7_spark_X2_keep
theorem dX7_spark_0 : decode cX7_spark 0 = .ok (.aload_n 0, 1) := by decide +kernel
theorem dX7_spark_1 : decode cX7_spark 1 = .ok (.getfield 10, 3) := by decide +kernel
theorem dX7_spark_4 : decode cX7_spark 4 = .ok (.getfield 52, 3) := by decide +kernel
theorem dX7_spark_7 : decode cX7_spark 7 = .ok (.getfield 73, 3) := by decide +kernel
theorem dX7_spark_10 : decode cX7_spark 10 = .ok (.iload_n 1, 1) := by decide +kernel
theorem dX7_spark_11 : decode cX7_spark 11 = .ok (.if_icmp .ne 6, 3) := by decide +kernel
theorem dX7_spark_14 : decode cX7_spark 14 = .ok (.bipush (-5), 2) := by decide +kernel
theorem dX7_spark_16 : decode cX7_spark 16 = .ok (.ireturn, 1) := by decide +kernel
theorem dX7_spark_17 : decode cX7_spark 17 = .ok (.aload_n 0, 1) := by decide +kernel
theorem dX7_spark_18 : decode cX7_spark 18 = .ok (.getfield 22, 3) := by decide +kernel
theorem dX7_spark_21 : decode cX7_spark 21 = .ok (.aload_n 0, 1) := by decide +kernel
theorem dX7_spark_22 : decode cX7_spark 22 = .ok (.getfield 10, 3) := by decide +kernel
theorem dX7_spark_25 : decode cX7_spark 25 = .ok (.invokevirtual 48, 3) := by decide +kernel
theorem dX7_spark_28 : decode cX7_spark 28 = .ok (.aload_n 0, 1) := by decide +kernel
theorem dX7_spark_29 : decode cX7_spark 29 = .ok (.getfield 10, 3) := by decide +kernel
theorem dX7_spark_32 : decode cX7_spark 32 = .ok (.getfield 52, 3) := by decide +kernel
theorem dX7_spark_35 : decode cX7_spark 35 = .ok (.iload_n 1, 1) := by decide +kernel
theorem dX7_spark_36 : decode cX7_spark 36 = .ok (.putfield 73, 3) := by decide +kernel
theorem dX7_spark_39 : decode cX7_spark 39 = .ok (.aload_n 0, 1) := by decide +kernel
theorem dX7_spark_40 : decode cX7_spark 40 = .ok (.getfield 10, 3) := by decide +kernel
theorem dX7_spark_43 : decode cX7_spark 43 = .ok (.getfield 52, 3) := by decide +kernel
theorem dX7_spark_46 : decode cX7_spark 46 = .ok (.getfield 77, 3) := by decide +kernel
theorem dX7_spark_49 : decode cX7_spark 49 = .ok (.ireturn, 1) := by decide +kernel
set_option maxRecDepth 20000 in
theorem ggX7_fuel_X2_keep : GoodIn wsX7_fuel wsX2_keep := goodIn_r _ [6, 7, 8, 9, 10, 11, 12, 13, 14, 15, 16, 17, 18, 19, 20, 21, 22, 23, 24, 25, 26, 27, 28, 29, 30, 31, 32, 33, 34, 35, 36, 37, 38, 39, 40, 41, 42, 43, 44, 45, 46, 47, 48, 49, 50, 51, 52, 53, 54, 55, 56, 57, 58, 59, 60, 61, 62, 83, 84, 85, 69, 70, 71, 72, 73, 74, 75, 76, 77, 78, 79, 80, 81, 82, 86, 87, 88, 89, 90, 91, 92, 93, 94, 95, 96, 97, 98] (by decide +kernel) (by decide +kernel)
set_option maxRecDepth 20000 in
theorem gX7_fuel_X2_keep_n48 : GoodIn wsX7_fuel (wsX2_keep) := ggX7_fuel_X2_keep
theorem dX7_fuel_0 : decode cX7_fuel 0 = .ok (.iload_n 1, 1) := by decide +kernel
theorem dX7_fuel_1 : decode cX7_fuel 1 = .ok (.ifCond .lt 9, 3) := by decide +kernel
theorem dX7_fuel_4 : decode cX7_fuel 4 = .ok (.iload_n 1, 1) := by decide +kernel
theorem dX7_fuel_5 : decode cX7_fuel 5 = .ok (.bipush 10, 2) := by decide +kernel
theorem dX7_fuel_7 : decode cX7_fuel 7 = .ok (.if_icmp .le 6, 3) := by decide +kernel
theorem dX7_fuel_10 : decode cX7_fuel 10 = .ok (.bipush (-2), 2) := by decide +kernel
theorem dX7_fuel_12 : decode cX7_fuel 12 = .ok (.ireturn, 1) := by decide +kernel
theorem dX7_fuel_13 : decode cX7_fuel 13 = .ok (.aload_n 0, 1) := by decide +kernel
theorem dX7_fuel_14 : decode cX7_fuel 14 = .ok (.getfield 22, 3) := by decide +kernel
theorem dX7_fuel_17 : decode cX7_fuel 17 = .ok (.aload_n 0, 1) := by decide +kernel
theorem dX7_fuel_18 : decode cX7_fuel 18 = .ok (.getfield 10, 3) := by decide +kernel
theorem dX7_fuel_21 : decode cX7_fuel 21 = .ok (.invokevirtual 48, 3) := by decide +kernel
theorem dX7_fuel_24 : decode cX7_fuel 24 = .ok (.aload_n 0, 1) := by decide +kernel
theorem dX7_fuel_25 : decode cX7_fuel 25 = .ok (.getfield 10, 3) := by decide +kernel
theorem dX7_fuel_28 : decode cX7_fuel 28 = .ok (.getfield 52, 3) := by decide +kernel
theorem dX7_fuel_31 : decode cX7_fuel 31 = .ok (.getfield 80, 3) := by decide +kernel
theorem dX7_fuel_34 : decode cX7_fuel 34 = .ok (.istore_n 2, 1) := by decide +kernel
theorem dX7_fuel_35 : decode cX7_fuel 35 = .ok (.aload_n 0, 1) := by decide +kernel
theorem dX7_fuel_36 : decode cX7_fuel 36 = .ok (.getfield 10, 3) := by decide +kernel
theorem dX7_fuel_39 : decode cX7_fuel 39 = .ok (.getfield 52, 3) := by decide +kernel
theorem dX7_fuel_42 : decode cX7_fuel 42 = .ok (.iload_n 1, 1) := by decide +kernel
theorem dX7_fuel_43 : decode cX7_fuel 43 = .ok (.putfield 80, 3) := by decide +kernel
theorem dX7_fuel_46 : decode cX7_fuel 46 = .ok (.iload_n 2, 1) := by decide +kernel
theorem dX7_fuel_47 : decode cX7_fuel 47 = .ok (.ireturn, 1) := by decide +kernel
set_option maxRecDepth 20000 in
theorem ggX7_drain_X2_keep : GoodIn wsX7_drain wsX2_keep := goodIn_r _ [6, 7, 8, 9, 10, 11, 12, 13, 14, 15, 16, 17, 18, 19, 20, 21, 22, 23, 24, 25, 26, 27, 28, 29, 30, 31, 32, 33, 34, 35, 36, 37, 38, 39, 40, 41, 42, 43, 44, 45, 46, 47, 48, 49, 50, 51, 52, 53, 54, 55, 56, 57, 58, 59, 60, 61, 62, 83, 84, 85, 69, 70, 71, 72, 73, 74, 75, 76, 77, 78, 79, 80, 81, 82, 86, 87, 88, 89, 90, 91, 92, 93, 94, 95, 96, 97, 98] (by decide +kernel) (by decide +kernel)
set_option maxRecDepth 20000 in
theorem gX7_drain_X2_keep_n48 : GoodIn wsX7_drain (wsX2_keep) := ggX7_drain_X2_keep
theorem dX7_drain_0 : decode cX7_drain 0 = .ok (.aload_n 0, 1) := by decide +kernel
theorem dX7_drain_1 : decode cX7_drain 1 = .ok (.getfield 10, 3) := by decide +kernel
theorem dX7_drain_4 : decode cX7_drain 4 = .ok (.getfield 52, 3) := by decide +kernel
theorem dX7_drain_7 : decode cX7_drain 7 = .ok (.getfield 83, 3) := by decide +kernel
theorem dX7_drain_10 : decode cX7_drain 10 = .ok (.ifCond .eq 6, 3) := by decide +kernel
theorem dX7_drain_13 : decode cX7_drain 13 = .ok (.bipush (-5), 2) := by decide +kernel
theorem dX7_drain_15 : decode cX7_drain 15 = .ok (.ireturn, 1) := by decide +kernel
theorem dX7_drain_16 : decode cX7_drain 16 = .ok (.aload_n 0, 1) := by decide +kernel
theorem dX7_drain_17 : decode cX7_drain 17 = .ok (.getfield 22, 3) := by decide +kernel
theorem dX7_drain_20 : decode cX7_drain 20 = .ok (.aload_n 0, 1) := by decide +kernel
theorem dX7_drain_21 : decode cX7_drain 21 = .ok (.getfield 10, 3) := by decide +kernel
theorem dX7_drain_24 : decode cX7_drain 24 = .ok (.invokevirtual 48, 3) := by decide +kernel
theorem dX7_drain_27 : decode cX7_drain 27 = .ok (.aload_n 0, 1) := by decide +kernel
theorem dX7_drain_28 : decode cX7_drain 28 = .ok (.getfield 10, 3) := by decide +kernel
theorem dX7_drain_31 : decode cX7_drain 31 = .ok (.getfield 52, 3) := by decide +kernel
theorem dX7_drain_34 : decode cX7_drain 34 = .ok (.getfield 77, 3) := by decide +kernel
theorem dX7_drain_37 : decode cX7_drain 37 = .ok (.istore_n 1, 1) := by decide +kernel
theorem dX7_drain_38 : decode cX7_drain 38 = .ok (.aload_n 0, 1) := by decide +kernel
theorem dX7_drain_39 : decode cX7_drain 39 = .ok (.getfield 10, 3) := by decide +kernel
theorem dX7_drain_42 : decode cX7_drain 42 = .ok (.getfield 52, 3) := by decide +kernel
theorem dX7_drain_45 : decode cX7_drain 45 = .ok (.iconst 0, 1) := by decide +kernel
theorem dX7_drain_46 : decode cX7_drain 46 = .ok (.putfield 77, 3) := by decide +kernel
theorem dX7_drain_49 : decode cX7_drain 49 = .ok (.iload_n 1, 1) := by decide +kernel
theorem dX7_drain_50 : decode cX7_drain 50 = .ok (.ireturn, 1) := by decide +kernel
set_option maxRecDepth 20000 in
theorem ggX7_battery_X2_keep : GoodIn wsX7_battery wsX2_keep := goodIn_r _ [6, 7, 8, 9, 10, 11, 12, 13, 14, 15, 16, 17, 18, 19, 20, 21, 22, 23, 24, 25, 26, 27, 28, 29, 30, 31, 32, 33, 34, 35, 36, 37, 38, 39, 40, 41, 42, 43, 44, 45, 46, 47, 48, 49, 50, 51, 52, 53, 54, 55, 56, 57, 58, 59, 60, 61, 62, 83, 84, 85, 69, 70, 71, 72, 73, 74, 75, 76, 77, 78, 79, 80, 81, 82, 86, 87, 88, 89, 90, 91, 92, 93, 94, 95, 96, 97, 98] (by decide +kernel) (by decide +kernel)
set_option maxRecDepth 20000 in
theorem gX7_battery_X2_keep_n48 : GoodIn wsX7_battery (wsX2_keep) := ggX7_battery_X2_keep
theorem dX7_battery_0 : decode cX7_battery 0 = .ok (.iload_n 1, 1) := by decide +kernel
theorem dX7_battery_1 : decode cX7_battery 1 = .ok (.ifCond .lt 10, 3) := by decide +kernel
theorem dX7_battery_4 : decode cX7_battery 4 = .ok (.iload_n 1, 1) := by decide +kernel
theorem dX7_battery_5 : decode cX7_battery 5 = .ok (.sipush 1000, 3) := by decide +kernel
theorem dX7_battery_8 : decode cX7_battery 8 = .ok (.if_icmp .le 6, 3) := by decide +kernel
theorem dX7_battery_11 : decode cX7_battery 11 = .ok (.bipush (-2), 2) := by decide +kernel
theorem dX7_battery_13 : decode cX7_battery 13 = .ok (.ireturn, 1) := by decide +kernel
theorem dX7_battery_14 : decode cX7_battery 14 = .ok (.aload_n 0, 1) := by decide +kernel
theorem dX7_battery_15 : decode cX7_battery 15 = .ok (.getfield 22, 3) := by decide +kernel
theorem dX7_battery_18 : decode cX7_battery 18 = .ok (.aload_n 0, 1) := by decide +kernel
theorem dX7_battery_19 : decode cX7_battery 19 = .ok (.getfield 10, 3) := by decide +kernel
theorem dX7_battery_22 : decode cX7_battery 22 = .ok (.invokevirtual 48, 3) := by decide +kernel
theorem dX7_battery_25 : decode cX7_battery 25 = .ok (.aload_n 0, 1) := by decide +kernel
theorem dX7_battery_26 : decode cX7_battery 26 = .ok (.getfield 10, 3) := by decide +kernel
theorem dX7_battery_29 : decode cX7_battery 29 = .ok (.getfield 52, 3) := by decide +kernel
theorem dX7_battery_32 : decode cX7_battery 32 = .ok (.getfield 69, 3) := by decide +kernel
theorem dX7_battery_35 : decode cX7_battery 35 = .ok (.istore_n 2, 1) := by decide +kernel
theorem dX7_battery_36 : decode cX7_battery 36 = .ok (.aload_n 0, 1) := by decide +kernel
theorem dX7_battery_37 : decode cX7_battery 37 = .ok (.getfield 10, 3) := by decide +kernel
theorem dX7_battery_40 : decode cX7_battery 40 = .ok (.getfield 52, 3) := by decide +kernel
theorem dX7_battery_43 : decode cX7_battery 43 = .ok (.iload_n 1, 1) := by decide +kernel
theorem dX7_battery_44 : decode cX7_battery 44 = .ok (.putfield 69, 3) := by decide +kernel
theorem dX7_battery_47 : decode cX7_battery 47 = .ok (.iload_n 2, 1) := by decide +kernel
theorem dX7_battery_48 : decode cX7_battery 48 = .ok (.ireturn, 1) := by decide +kernel
set_option maxRecDepth 20000 in
theorem ggX7_tick_X5_hasRoomFor : GoodIn wsX7_tick wsX5_hasRoomFor := goodIn_r _ [6, 7, 8, 145, 146, 147, 148, 149] (by decide +kernel) (by decide +kernel)
set_option maxRecDepth 20000 in
theorem gX7_tick_X5_hasRoomFor_n86 : GoodIn wsX7_tick (wsX5_hasRoomFor) := ggX7_tick_X5_hasRoomFor
set_option maxRecDepth 20000 in
theorem ggX7_tick_X2_keep : GoodIn wsX7_tick wsX2_keep := goodIn_r _ [12, 13, 14, 15, 16, 4, 17, 18, 19, 20, 21, 22, 7, 23, 24, 25, 26, 27, 28, 29, 30, 31, 32, 33, 34, 35, 36, 37, 38, 39, 40, 41, 42, 43, 44, 45, 46, 47, 48, 49, 50, 51, 52, 53, 54, 55, 56, 57, 58, 59, 60, 61, 62, 63, 64, 65, 66, 159, 160, 161, 145, 146, 147, 148, 149, 150, 151, 152, 153, 154, 155, 156, 157, 158, 162, 163, 164, 165, 166, 167, 168, 169, 170, 171, 172, 173, 174] (by decide +kernel) (by decide +kernel)
set_option maxRecDepth 20000 in
theorem gX7_tick_X2_keep_n48 : GoodIn wsX7_tick (wsX2_keep) := ggX7_tick_X2_keep
set_option maxRecDepth 20000 in
theorem ggX7_tick_X5_passTicks : GoodIn wsX7_tick wsX5_passTicks := goodIn_r _ [69, 70, 71, 72, 4, 73, 19, 7, 22, 20, 74, 24, 75, 76, 36, 77, 78, 79, 80, 81, 82, 83, 84, 32, 38, 85, 86, 87, 27, 88, 89, 90, 91, 39, 34, 35, 37, 92, 93, 94, 95, 96, 97, 98, 99, 100, 101, 102, 103, 33, 104, 105, 106, 107, 108, 57, 109, 110, 62, 63, 64, 65, 66, 111, 112, 113, 114, 115, 116, 117, 118, 41, 119, 120, 45, 46, 121, 48, 122, 123, 124, 125, 21, 126, 127, 128, 129, 130, 131, 132, 50, 133, 134, 53, 55, 135, 136, 137, 138, 60, 145, 146, 147, 148, 149, 150, 151, 152, 153, 154, 155, 156, 157, 158, 162, 163, 164, 165, 166, 169, 170, 171, 172, 173, 174, 167, 168] (by decide +kernel) (by decide +kernel)
set_option maxRecDepth 20000 in
theorem gX7_tick_X5_passTicks_n90 : GoodIn wsX7_tick (wsX5_passTicks) := ggX7_tick_X5_passTicks
theorem dX7_tick_0 : decode cX7_tick 0 = .ok (.iload_n 1, 1) := by decide +kernel
theorem dX7_tick_1 : decode cX7_tick 1 = .ok (.iconst 1, 1) := by decide +kernel
theorem dX7_tick_2 : decode cX7_tick 2 = .ok (.if_icmp .lt 9, 3) := by decide +kernel
theorem dX7_tick_5 : decode cX7_tick 5 = .ok (.iload_n 1, 1) := by decide +kernel
theorem dX7_tick_6 : decode cX7_tick 6 = .ok (.bipush 99, 2) := by decide +kernel
theorem dX7_tick_8 : decode cX7_tick 8 = .ok (.if_icmp .le 6, 3) := by decide +kernel
theorem dX7_tick_11 : decode cX7_tick 11 = .ok (.bipush (-2), 2) := by decide +kernel
theorem dX7_tick_13 : decode cX7_tick 13 = .ok (.ireturn, 1) := by decide +kernel
theorem dX7_tick_14 : decode cX7_tick 14 = .ok (.aload_n 0, 1) := by decide +kernel
theorem dX7_tick_15 : decode cX7_tick 15 = .ok (.getfield 10, 3) := by decide +kernel
theorem dX7_tick_18 : decode cX7_tick 18 = .ok (.iload_n 1, 1) := by decide +kernel
theorem dX7_tick_19 : decode cX7_tick 19 = .ok (.invokevirtual 86, 3) := by decide +kernel
theorem dX7_tick_22 : decode cX7_tick 22 = .ok (.ifCond .ne 6, 3) := by decide +kernel
theorem dX7_tick_25 : decode cX7_tick 25 = .ok (.bipush (-4), 2) := by decide +kernel
theorem dX7_tick_27 : decode cX7_tick 27 = .ok (.ireturn, 1) := by decide +kernel
theorem dX7_tick_28 : decode cX7_tick 28 = .ok (.aload_n 0, 1) := by decide +kernel
theorem dX7_tick_29 : decode cX7_tick 29 = .ok (.getfield 22, 3) := by decide +kernel
theorem dX7_tick_32 : decode cX7_tick 32 = .ok (.aload_n 0, 1) := by decide +kernel
theorem dX7_tick_33 : decode cX7_tick 33 = .ok (.getfield 10, 3) := by decide +kernel
theorem dX7_tick_36 : decode cX7_tick 36 = .ok (.invokevirtual 48, 3) := by decide +kernel
theorem dX7_tick_39 : decode cX7_tick 39 = .ok (.aload_n 0, 1) := by decide +kernel
theorem dX7_tick_40 : decode cX7_tick 40 = .ok (.getfield 10, 3) := by decide +kernel
theorem dX7_tick_43 : decode cX7_tick 43 = .ok (.iload_n 1, 1) := by decide +kernel
theorem dX7_tick_44 : decode cX7_tick 44 = .ok (.invokevirtual 90, 3) := by decide +kernel
theorem dX7_tick_47 : decode cX7_tick 47 = .ok (.aload_n 0, 1) := by decide +kernel
theorem dX7_tick_48 : decode cX7_tick 48 = .ok (.getfield 10, 3) := by decide +kernel
theorem dX7_tick_51 : decode cX7_tick 51 = .ok (.getfield 52, 3) := by decide +kernel
theorem dX7_tick_54 : decode cX7_tick 54 = .ok (.getfield 94, 3) := by decide +kernel
theorem dX7_tick_57 : decode cX7_tick 57 = .ok (.ireturn, 1) := by decide +kernel
set_option maxRecDepth 20000 in
theorem ggX7_run_X4_firstFault : GoodIn wsX7_run wsX4_firstFault := goodIn_r _ [7, 8, 9, 10, 11, 5, 12, 13, 14, 15, 16, 17, 18, 19, 20, 21, 22, 23, 24, 25, 187, 188] (by decide +kernel) (by decide +kernel)
set_option maxRecDepth 20000 in
theorem gX7_run_X4_firstFault_n97 : GoodIn wsX7_run (wsX4_firstFault) := ggX7_run_X4_firstFault
set_option maxRecDepth 20000 in
theorem ggX7_run_X2_keep : GoodIn wsX7_run wsX2_keep := goodIn_r _ [29, 30, 31, 32, 33, 34, 35, 36, 37, 38, 39, 40, 41, 42, 43, 44, 45, 46, 47, 48, 49, 50, 51, 52, 53, 54, 55, 56, 57, 58, 59, 60, 61, 62, 63, 64, 65, 66, 67, 68, 69, 70, 71, 72, 73, 74, 75, 76, 77, 78, 79, 80, 81, 82, 83, 84, 85, 189, 190, 191, 192, 193, 194, 195, 196, 197, 198, 199, 200, 201, 202, 203, 204, 205, 206, 207, 208, 209, 210, 211, 212, 213, 214, 215, 216, 217, 218] (by decide +kernel) (by decide +kernel)
set_option maxRecDepth 20000 in
theorem gX7_run_X2_keep_n48 : GoodIn wsX7_run (wsX2_keep) := ggX7_run_X2_keep
set_option maxRecDepth 20000 in
theorem ggX7_run_X4_beginsDeed : GoodIn wsX7_run wsX4_beginsDeed := goodIn_r _ [88, 9, 10, 11, 5, 12, 8, 13, 187, 188] (by decide +kernel) (by decide +kernel)
set_option maxRecDepth 20000 in
theorem gX7_run_X4_beginsDeed_n104 : GoodIn wsX7_run (wsX4_beginsDeed) := ggX7_run_X4_beginsDeed
set_option maxRecDepth 20000 in
theorem ggX7_run_X4_signAt : GoodIn wsX7_run wsX4_signAt := goodIn_r _ [12, 8, 13, 187, 188] (by decide +kernel) (by decide +kernel)
set_option maxRecDepth 20000 in
theorem gX7_run_X4_signAt_n107 : GoodIn wsX7_run (wsX4_signAt) := ggX7_run_X4_signAt
set_option maxRecDepth 20000 in
theorem ggX7_run_X4_numberFrom : GoodIn wsX7_run wsX4_numberFrom := goodIn_r _ [91, 8, 9, 10, 11, 5, 12, 13, 20, 21, 22, 187, 188] (by decide +kernel) (by decide +kernel)
set_option maxRecDepth 20000 in
theorem gX7_run_X4_numberFrom_n111 : GoodIn wsX7_run (wsX4_numberFrom) := ggX7_run_X4_numberFrom
set_option maxRecDepth 20000 in
theorem ggX7_run_X7_doDeed : GoodIn wsX7_run wsX7_doDeed := goodIn_r _ [96, 3, 97, 34, 98, 99, 37, 100, 101, 102, 38, 103, 60, 104, 105, 63, 64, 65, 66, 67, 106, 107, 108, 41, 109, 110, 111, 112, 113, 114, 115, 116, 40, 117, 43, 118, 119, 55, 120, 121, 122, 123, 124, 125, 126, 127, 51, 57, 128, 129, 130, 46, 131, 132, 133, 134, 58, 53, 54, 56, 135, 136, 137, 138, 139, 140, 141, 142, 143, 144, 145, 146, 52, 147, 148, 149, 150, 151, 76, 152, 153, 81, 82, 83, 84, 85, 154, 155, 156, 157, 158, 95, 159, 160, 161, 162, 163, 164, 165, 166, 167, 39, 168, 169, 170, 171, 172, 173, 174, 69, 175, 176, 72, 74, 177, 178, 179, 180, 79, 181, 182, 183, 184, 185, 186, 192, 193, 194, 195, 196, 197, 198, 199, 200, 201, 202, 203, 204, 205, 206, 207, 208, 209, 210, 213, 214, 215, 216, 217, 218, 211, 212] (by decide +kernel) (by decide +kernel)
set_option maxRecDepth 20000 in
theorem gX7_run_X7_doDeed : GoodIn wsX7_run (wsV RX7 115 RX7 yX7_doDeed wsX7_doDeed) := goodIn_app (goodIn_of _ (by decide +kernel)) ggX7_run_X7_doDeed
theorem dX7_run_0 : decode cX7_run 0 = .ok (.aload_n 0, 1) := by decide +kernel
theorem dX7_run_1 : decode cX7_run 1 = .ok (.getfield 37, 3) := by decide +kernel
theorem dX7_run_4 : decode cX7_run 4 = .ok (.invokevirtual 97, 3) := by decide +kernel
theorem dX7_run_7 : decode cX7_run 7 = .ok (.bipush (-6), 2) := by decide +kernel
theorem dX7_run_9 : decode cX7_run 9 = .ok (.if_icmp .eq 6, 3) := by decide +kernel
theorem dX7_run_12 : decode cX7_run 12 = .ok (.bipush (-3), 2) := by decide +kernel
theorem dX7_run_14 : decode cX7_run 14 = .ok (.ireturn, 1) := by decide +kernel
theorem dX7_run_15 : decode cX7_run 15 = .ok (.aload_n 0, 1) := by decide +kernel
theorem dX7_run_16 : decode cX7_run 16 = .ok (.getfield 22, 3) := by decide +kernel
theorem dX7_run_19 : decode cX7_run 19 = .ok (.aload_n 0, 1) := by decide +kernel
theorem dX7_run_20 : decode cX7_run 20 = .ok (.getfield 10, 3) := by decide +kernel
theorem dX7_run_23 : decode cX7_run 23 = .ok (.invokevirtual 48, 3) := by decide +kernel
theorem dX7_run_26 : decode cX7_run 26 = .ok (.iconst 0, 1) := by decide +kernel
theorem dX7_run_27 : decode cX7_run 27 = .ok (.istore_n 1, 1) := by decide +kernel
theorem dX7_run_28 : decode cX7_run 28 = .ok (.iconst 0, 1) := by decide +kernel
theorem dX7_run_29 : decode cX7_run 29 = .ok (.istore_n 2, 1) := by decide +kernel
theorem dX7_run_30 : decode cX7_run 30 = .ok (.iload_n 2, 1) := by decide +kernel
theorem dX7_run_31 : decode cX7_run 31 = .ok (.aload_n 0, 1) := by decide +kernel
theorem dX7_run_32 : decode cX7_run 32 = .ok (.getfield 37, 3) := by decide +kernel
theorem dX7_run_35 : decode cX7_run 35 = .ok (.getfield 101, 3) := by decide +kernel
theorem dX7_run_38 : decode cX7_run 38 = .ok (.if_icmp .ge 48, 3) := by decide +kernel
theorem dX7_run_41 : decode cX7_run 41 = .ok (.aload_n 0, 1) := by decide +kernel
theorem dX7_run_42 : decode cX7_run 42 = .ok (.getfield 37, 3) := by decide +kernel
theorem dX7_run_45 : decode cX7_run 45 = .ok (.iload_n 2, 1) := by decide +kernel
theorem dX7_run_46 : decode cX7_run 46 = .ok (.invokevirtual 104, 3) := by decide +kernel
theorem dX7_run_49 : decode cX7_run 49 = .ok (.ifCond .eq 31, 3) := by decide +kernel
theorem dX7_run_52 : decode cX7_run 52 = .ok (.aload_n 0, 1) := by decide +kernel
theorem dX7_run_53 : decode cX7_run 53 = .ok (.aload_n 0, 1) := by decide +kernel
theorem dX7_run_54 : decode cX7_run 54 = .ok (.getfield 37, 3) := by decide +kernel
theorem dX7_run_57 : decode cX7_run 57 = .ok (.iload_n 2, 1) := by decide +kernel
theorem dX7_run_58 : decode cX7_run 58 = .ok (.invokevirtual 107, 3) := by decide +kernel
theorem dX7_run_61 : decode cX7_run 61 = .ok (.aload_n 0, 1) := by decide +kernel
theorem dX7_run_62 : decode cX7_run 62 = .ok (.getfield 37, 3) := by decide +kernel
theorem dX7_run_65 : decode cX7_run 65 = .ok (.iload_n 2, 1) := by decide +kernel
theorem dX7_run_66 : decode cX7_run 66 = .ok (.iconst 1, 1) := by decide +kernel
theorem dX7_run_67 : decode cX7_run 67 = .ok (.iadd, 1) := by decide +kernel
theorem dX7_run_68 : decode cX7_run 68 = .ok (.invokevirtual 111, 3) := by decide +kernel
theorem dX7_run_71 : decode cX7_run 71 = .ok (.invokevirtual 115, 3) := by decide +kernel
theorem dX7_run_74 : decode cX7_run 74 = .ok (.ifCond .eq 6, 3) := by decide +kernel
theorem dX7_run_77 : decode cX7_run 77 = .ok (.iinc 1 1, 3) := by decide +kernel
theorem dX7_run_80 : decode cX7_run 80 = .ok (.iinc 2 1, 3) := by decide +kernel
theorem dX7_run_83 : decode cX7_run 83 = .ok (.goto (-53), 3) := by decide +kernel
theorem dX7_run_86 : decode cX7_run 86 = .ok (.aload_n 0, 1) := by decide +kernel
theorem dX7_run_87 : decode cX7_run 87 = .ok (.getfield 37, 3) := by decide +kernel
theorem dX7_run_90 : decode cX7_run 90 = .ok (.iconst 0, 1) := by decide +kernel
theorem dX7_run_91 : decode cX7_run 91 = .ok (.putfield 101, 3) := by decide +kernel
theorem dX7_run_94 : decode cX7_run 94 = .ok (.iload_n 1, 1) := by decide +kernel
theorem dX7_run_95 : decode cX7_run 95 = .ok (.ireturn, 1) := by decide +kernel
set_option maxRecDepth 20000 in
theorem ggX7_engine_X7_oneIf : GoodIn wsX7_engine wsX7_oneIf := goodIn_r _ [5] (by decide +kernel) (by decide +kernel)
set_option maxRecDepth 20000 in
theorem gX7_engine_X7_oneIf : GoodIn wsX7_engine (va_wsS RX7 122 yX7_oneIf wsX7_oneIf) := goodIn_app (goodIn_of _ (by decide +kernel)) ggX7_engine_X7_oneIf
set_option maxRecDepth 20000 in
theorem ggX7_engine_X1_runs : GoodIn wsX7_engine wsX1_runs := goodIn_r _ [9, 10, 11, 23, 24, 25, 26, 27, 28, 29, 30, 31] (by decide +kernel) (by decide +kernel)
set_option maxRecDepth 20000 in
theorem gX7_engine_X1_runs_n129 : GoodIn wsX7_engine (wsX1_runs) := ggX7_engine_X1_runs
end
section
theorem dX7_engine_0 : decode cX7_engine 0 = .ok (.aload_n 0, 1) := by decide +kernel
theorem dX7_engine_1 : decode cX7_engine 1 = .ok (.getfield 10, 3) := by decide +kernel
theorem dX7_engine_4 : decode cX7_engine 4 = .ok (.getfield 52, 3) := by decide +kernel
theorem dX7_engine_7 : decode cX7_engine 7 = .ok (.astore_n 2, 1) := by decide +kernel
theorem dX7_engine_8 : decode cX7_engine 8 = .ok (.iload_n 1, 1) := by decide +kernel
theorem dX7_engine_9 : decode cX7_engine 9 = .ok (.tableswitch 158 0 10 #[59, 64, 69, 74, 79, 87, 95, 103, 108, 116, 130], 59) := by decide +kernel
theorem dX7_engine_68 : decode cX7_engine 68 = .ok (.aload_n 2, 1) := by decide +kernel
theorem dX7_engine_69 : decode cX7_engine 69 = .ok (.getfield 94, 3) := by decide +kernel
theorem dX7_engine_72 : decode cX7_engine 72 = .ok (.ireturn, 1) := by decide +kernel
theorem dX7_engine_73 : decode cX7_engine 73 = .ok (.aload_n 2, 1) := by decide +kernel
theorem dX7_engine_74 : decode cX7_engine 74 = .ok (.getfield 119, 3) := by decide +kernel
theorem dX7_engine_77 : decode cX7_engine 77 = .ok (.ireturn, 1) := by decide +kernel
theorem dX7_engine_78 : decode cX7_engine 78 = .ok (.aload_n 2, 1) := by decide +kernel
theorem dX7_engine_79 : decode cX7_engine 79 = .ok (.getfield 80, 3) := by decide +kernel
theorem dX7_engine_82 : decode cX7_engine 82 = .ok (.ireturn, 1) := by decide +kernel
theorem dX7_engine_83 : decode cX7_engine 83 = .ok (.aload_n 2, 1) := by decide +kernel
theorem dX7_engine_84 : decode cX7_engine 84 = .ok (.getfield 77, 3) := by decide +kernel
theorem dX7_engine_87 : decode cX7_engine 87 = .ok (.ireturn, 1) := by decide +kernel
theorem dX7_engine_88 : decode cX7_engine 88 = .ok (.aload_n 2, 1) := by decide +kernel
theorem dX7_engine_89 : decode cX7_engine 89 = .ok (.getfield 73, 3) := by decide +kernel
theorem dX7_engine_92 : decode cX7_engine 92 = .ok (.invokestatic 122, 3) := by decide +kernel
theorem dX7_engine_95 : decode cX7_engine 95 = .ok (.ireturn, 1) := by decide +kernel
theorem dX7_engine_96 : decode cX7_engine 96 = .ok (.aload_n 2, 1) := by decide +kernel
theorem dX7_engine_97 : decode cX7_engine 97 = .ok (.getfield 126, 3) := by decide +kernel
theorem dX7_engine_100 : decode cX7_engine 100 = .ok (.invokestatic 122, 3) := by decide +kernel
theorem dX7_engine_103 : decode cX7_engine 103 = .ok (.ireturn, 1) := by decide +kernel
theorem dX7_engine_104 : decode cX7_engine 104 = .ok (.aload_n 2, 1) := by decide +kernel
theorem dX7_engine_105 : decode cX7_engine 105 = .ok (.getfield 83, 3) := by decide +kernel
theorem dX7_engine_108 : decode cX7_engine 108 = .ok (.invokestatic 122, 3) := by decide +kernel
theorem dX7_engine_111 : decode cX7_engine 111 = .ok (.ireturn, 1) := by decide +kernel
theorem dX7_engine_112 : decode cX7_engine 112 = .ok (.aload_n 2, 1) := by decide +kernel
theorem dX7_engine_113 : decode cX7_engine 113 = .ok (.getfield 69, 3) := by decide +kernel
theorem dX7_engine_116 : decode cX7_engine 116 = .ok (.ireturn, 1) := by decide +kernel
theorem dX7_engine_117 : decode cX7_engine 117 = .ok (.aload_n 2, 1) := by decide +kernel
theorem dX7_engine_118 : decode cX7_engine 118 = .ok (.invokevirtual 129, 3) := by decide +kernel
theorem dX7_engine_121 : decode cX7_engine 121 = .ok (.invokestatic 122, 3) := by decide +kernel
theorem dX7_engine_124 : decode cX7_engine 124 = .ok (.ireturn, 1) := by decide +kernel
theorem dX7_engine_125 : decode cX7_engine 125 = .ok (.aload_n 0, 1) := by decide +kernel
theorem dX7_engine_126 : decode cX7_engine 126 = .ok (.getfield 10, 3) := by decide +kernel
theorem dX7_engine_129 : decode cX7_engine 129 = .ok (.getfield 133, 3) := by decide +kernel
theorem dX7_engine_132 : decode cX7_engine 132 = .ok (.getfield 137, 3) := by decide +kernel
theorem dX7_engine_135 : decode cX7_engine 135 = .ok (.invokestatic 122, 3) := by decide +kernel
theorem dX7_engine_138 : decode cX7_engine 138 = .ok (.ireturn, 1) := by decide +kernel
theorem dX7_engine_139 : decode cX7_engine 139 = .ok (.aload_n 0, 1) := by decide +kernel
theorem dX7_engine_140 : decode cX7_engine 140 = .ok (.getfield 10, 3) := by decide +kernel
theorem dX7_engine_143 : decode cX7_engine 143 = .ok (.getfield 133, 3) := by decide +kernel
theorem dX7_engine_146 : decode cX7_engine 146 = .ok (.getfield 137, 3) := by decide +kernel
theorem dX7_engine_149 : decode cX7_engine 149 = .ok (.ifCond .eq 16, 3) := by decide +kernel
theorem dX7_engine_152 : decode cX7_engine 152 = .ok (.aload_n 0, 1) := by decide +kernel
theorem dX7_engine_153 : decode cX7_engine 153 = .ok (.getfield 10, 3) := by decide +kernel
theorem dX7_engine_156 : decode cX7_engine 156 = .ok (.getfield 133, 3) := by decide +kernel
theorem dX7_engine_159 : decode cX7_engine 159 = .ok (.getfield 142, 3) := by decide +kernel
theorem dX7_engine_162 : decode cX7_engine 162 = .ok (.goto 4, 3) := by decide +kernel
theorem dX7_engine_165 : decode cX7_engine 165 = .ok (.iconst 0, 1) := by decide +kernel
theorem dX7_engine_166 : decode cX7_engine 166 = .ok (.ireturn, 1) := by decide +kernel
theorem dX7_engine_167 : decode cX7_engine 167 = .ok (.bipush (-2), 2) := by decide +kernel
theorem dX7_engine_169 : decode cX7_engine 169 = .ok (.ireturn, 1) := by decide +kernel
set_option maxRecDepth 20000 in
theorem ggX7_start_X3_numberOf : GoodIn wsX7_start wsX3_numberOf := goodIn_r _ [5, 6, 7, 19, 20] (by decide +kernel) (by decide +kernel)
set_option maxRecDepth 20000 in
theorem gX7_start_X3_numberOf_n151 : GoodIn wsX7_start (wsX3_numberOf) := ggX7_start_X3_numberOf
theorem dX7_start_0 : decode cX7_start 0 = .ok (.iload_n 1, 1) := by decide +kernel
theorem dX7_start_1 : decode cX7_start 1 = .ok (.ifCond .lt 12, 3) := by decide +kernel
theorem dX7_start_4 : decode cX7_start 4 = .ok (.iload_n 2, 1) := by decide +kernel
theorem dX7_start_5 : decode cX7_start 5 = .ok (.ifCond .lt 8, 3) := by decide +kernel
theorem dX7_start_8 : decode cX7_start 8 = .ok (.iload_n 2, 1) := by decide +kernel
theorem dX7_start_9 : decode cX7_start 9 = .ok (.iconst 4, 1) := by decide +kernel
theorem dX7_start_10 : decode cX7_start 10 = .ok (.if_icmp .lt 6, 3) := by decide +kernel
theorem dX7_start_13 : decode cX7_start 13 = .ok (.bipush (-2), 2) := by decide +kernel
theorem dX7_start_15 : decode cX7_start 15 = .ok (.ireturn, 1) := by decide +kernel
theorem dX7_start_16 : decode cX7_start 16 = .ok (.aload_n 0, 1) := by decide +kernel
theorem dX7_start_17 : decode cX7_start 17 = .ok (.getfield 10, 3) := by decide +kernel
theorem dX7_start_20 : decode cX7_start 20 = .ok (.getfield 147, 3) := by decide +kernel
theorem dX7_start_23 : decode cX7_start 23 = .ok (.iload_n 1, 1) := by decide +kernel
theorem dX7_start_24 : decode cX7_start 24 = .ok (.iload_n 2, 1) := by decide +kernel
theorem dX7_start_25 : decode cX7_start 25 = .ok (.invokevirtual 151, 3) := by decide +kernel
theorem dX7_start_28 : decode cX7_start 28 = .ok (.ireturn, 1) := by decide +kernel
theorem dX7_count_0 : decode cX7_count 0 = .ok (.iload_n 1, 1) := by decide +kernel
theorem dX7_count_1 : decode cX7_count 1 = .ok (.ifCond .lt 22, 3) := by decide +kernel
theorem dX7_count_4 : decode cX7_count 4 = .ok (.iload_n 1, 1) := by decide +kernel
theorem dX7_count_5 : decode cX7_count 5 = .ok (.bipush 7, 2) := by decide +kernel
theorem dX7_count_7 : decode cX7_count 7 = .ok (.if_icmp .ge 16, 3) := by decide +kernel
theorem dX7_count_10 : decode cX7_count 10 = .ok (.aload_n 0, 1) := by decide +kernel
theorem dX7_count_11 : decode cX7_count 11 = .ok (.getfield 10, 3) := by decide +kernel
theorem dX7_count_14 : decode cX7_count 14 = .ok (.getfield 52, 3) := by decide +kernel
theorem dX7_count_17 : decode cX7_count 17 = .ok (.getfield 56, 3) := by decide +kernel
theorem dX7_count_20 : decode cX7_count 20 = .ok (.iload_n 1, 1) := by decide +kernel
theorem dX7_count_21 : decode cX7_count 21 = .ok (.iaload, 1) := by decide +kernel
theorem dX7_count_22 : decode cX7_count 22 = .ok (.ireturn, 1) := by decide +kernel
theorem dX7_count_23 : decode cX7_count 23 = .ok (.aload_n 0, 1) := by decide +kernel
theorem dX7_count_24 : decode cX7_count 24 = .ok (.getfield 10, 3) := by decide +kernel
theorem dX7_count_27 : decode cX7_count 27 = .ok (.getfield 155, 3) := by decide +kernel
theorem dX7_count_30 : decode cX7_count 30 = .ok (.astore_n 2, 1) := by decide +kernel
theorem dX7_count_31 : decode cX7_count 31 = .ok (.iload_n 1, 1) := by decide +kernel
theorem dX7_count_32 : decode cX7_count 32 = .ok (.tableswitch 141 7 18 #[64, 72, 79, 86, 93, 100, 105, 110, 115, 120, 125, 133], 64) := by decide +kernel
theorem dX7_count_96 : decode cX7_count 96 = .ok (.aload_n 0, 1) := by decide +kernel
theorem dX7_count_97 : decode cX7_count 97 = .ok (.getfield 10, 3) := by decide +kernel
theorem dX7_count_100 : decode cX7_count 100 = .ok (.getfield 159, 3) := by decide +kernel
theorem dX7_count_103 : decode cX7_count 103 = .ok (.ireturn, 1) := by decide +kernel
theorem dX7_count_104 : decode cX7_count 104 = .ok (.aload_n 2, 1) := by decide +kernel
theorem dX7_count_105 : decode cX7_count 105 = .ok (.getfield 162, 3) := by decide +kernel
theorem dX7_count_108 : decode cX7_count 108 = .ok (.iconst 0, 1) := by decide +kernel
theorem dX7_count_109 : decode cX7_count 109 = .ok (.iaload, 1) := by decide +kernel
theorem dX7_count_110 : decode cX7_count 110 = .ok (.ireturn, 1) := by decide +kernel
theorem dX7_count_111 : decode cX7_count 111 = .ok (.aload_n 2, 1) := by decide +kernel
theorem dX7_count_112 : decode cX7_count 112 = .ok (.getfield 162, 3) := by decide +kernel
theorem dX7_count_115 : decode cX7_count 115 = .ok (.iconst 1, 1) := by decide +kernel
theorem dX7_count_116 : decode cX7_count 116 = .ok (.iaload, 1) := by decide +kernel
theorem dX7_count_117 : decode cX7_count 117 = .ok (.ireturn, 1) := by decide +kernel
theorem dX7_count_118 : decode cX7_count 118 = .ok (.aload_n 2, 1) := by decide +kernel
theorem dX7_count_119 : decode cX7_count 119 = .ok (.getfield 162, 3) := by decide +kernel
theorem dX7_count_122 : decode cX7_count 122 = .ok (.iconst 2, 1) := by decide +kernel
theorem dX7_count_123 : decode cX7_count 123 = .ok (.iaload, 1) := by decide +kernel
theorem dX7_count_124 : decode cX7_count 124 = .ok (.ireturn, 1) := by decide +kernel
theorem dX7_count_125 : decode cX7_count 125 = .ok (.aload_n 2, 1) := by decide +kernel
theorem dX7_count_126 : decode cX7_count 126 = .ok (.getfield 162, 3) := by decide +kernel
theorem dX7_count_129 : decode cX7_count 129 = .ok (.iconst 3, 1) := by decide +kernel
theorem dX7_count_130 : decode cX7_count 130 = .ok (.iaload, 1) := by decide +kernel
theorem dX7_count_131 : decode cX7_count 131 = .ok (.ireturn, 1) := by decide +kernel
theorem dX7_count_132 : decode cX7_count 132 = .ok (.aload_n 2, 1) := by decide +kernel
theorem dX7_count_133 : decode cX7_count 133 = .ok (.getfield 167, 3) := by decide +kernel
theorem dX7_count_136 : decode cX7_count 136 = .ok (.ireturn, 1) := by decide +kernel
theorem dX7_count_137 : decode cX7_count 137 = .ok (.aload_n 2, 1) := by decide +kernel
theorem dX7_count_138 : decode cX7_count 138 = .ok (.getfield 170, 3) := by decide +kernel
theorem dX7_count_141 : decode cX7_count 141 = .ok (.ireturn, 1) := by decide +kernel
theorem dX7_count_142 : decode cX7_count 142 = .ok (.aload_n 2, 1) := by decide +kernel
theorem dX7_count_143 : decode cX7_count 143 = .ok (.getfield 173, 3) := by decide +kernel
theorem dX7_count_146 : decode cX7_count 146 = .ok (.ireturn, 1) := by decide +kernel
theorem dX7_count_147 : decode cX7_count 147 = .ok (.aload_n 2, 1) := by decide +kernel
theorem dX7_count_148 : decode cX7_count 148 = .ok (.getfield 176, 3) := by decide +kernel
theorem dX7_count_151 : decode cX7_count 151 = .ok (.ireturn, 1) := by decide +kernel
theorem dX7_count_152 : decode cX7_count 152 = .ok (.aload_n 2, 1) := by decide +kernel
theorem dX7_count_153 : decode cX7_count 153 = .ok (.getfield 179, 3) := by decide +kernel
theorem dX7_count_156 : decode cX7_count 156 = .ok (.ireturn, 1) := by decide +kernel
theorem dX7_count_157 : decode cX7_count 157 = .ok (.aload_n 0, 1) := by decide +kernel
theorem dX7_count_158 : decode cX7_count 158 = .ok (.getfield 37, 3) := by decide +kernel
theorem dX7_count_161 : decode cX7_count 161 = .ok (.getfield 101, 3) := by decide +kernel
theorem dX7_count_164 : decode cX7_count 164 = .ok (.ireturn, 1) := by decide +kernel
theorem dX7_count_165 : decode cX7_count 165 = .ok (.aload_n 0, 1) := by decide +kernel
theorem dX7_count_166 : decode cX7_count 166 = .ok (.getfield 22, 3) := by decide +kernel
theorem dX7_count_169 : decode cX7_count 169 = .ok (.getfield 182, 3) := by decide +kernel
theorem dX7_count_172 : decode cX7_count 172 = .ok (.ireturn, 1) := by decide +kernel
theorem dX7_count_173 : decode cX7_count 173 = .ok (.bipush (-2), 2) := by decide +kernel
theorem dX7_count_175 : decode cX7_count 175 = .ok (.ireturn, 1) := by decide +kernel
set_option maxRecDepth 20000 in
theorem ggX7_untilRunning_X5_copyFrom : GoodIn wsX7_untilRunning wsX5_copyFrom := goodIn_r _ [6, 7, 8, 9, 10, 11, 12, 13, 14, 15, 16, 17, 18, 19, 20, 21, 22, 23, 24, 25, 26, 27, 28, 29, 30, 31, 32, 33, 34, 35, 36, 37, 38, 39, 40, 41, 42, 43, 44, 45, 46, 47, 48, 49, 50, 51, 52, 53, 54, 55, 134, 135, 136, 137, 138, 139, 140, 141, 142, 143, 144, 145, 146, 147, 148, 149, 150, 151, 152, 153, 154, 155, 156, 157, 158, 159, 160] (by decide +kernel) (by decide +kernel)
set_option maxRecDepth 20000 in
theorem gX7_untilRunning_X5_copyFrom_n185 : GoodIn wsX7_untilRunning (wsX5_copyFrom) := ggX7_untilRunning_X5_copyFrom
set_option maxRecDepth 20000 in
theorem ggX7_untilRunning_X5_passTicksUntilRunning : GoodIn wsX7_untilRunning wsX5_passTicksUntilRunning := goodIn_r _ [58, 7, 59, 60, 61, 4, 62, 11, 10, 8, 63, 13, 64, 65, 25, 66, 67, 68, 69, 70, 71, 72, 73, 21, 27, 74, 75, 76, 16, 77, 78, 79, 80, 28, 23, 24, 26, 81, 82, 83, 84, 85, 86, 87, 88, 89, 90, 91, 92, 22, 93, 94, 95, 96, 97, 46, 98, 99, 51, 52, 53, 54, 55, 100, 101, 102, 103, 104, 105, 106, 107, 30, 108, 109, 34, 35, 110, 37, 111, 112, 113, 114, 9, 115, 116, 117, 118, 119, 120, 121, 39, 122, 123, 42, 44, 124, 125, 126, 127, 49, 134, 135, 136, 137, 138, 139, 140, 141, 142, 143, 144, 145, 146, 147, 148, 149, 150, 151, 152, 155, 156, 157, 158, 159, 160, 153, 154] (by decide +kernel) (by decide +kernel)
set_option maxRecDepth 20000 in
theorem gX7_untilRunning_X5_passTicksUntilRunning_n188 : GoodIn wsX7_untilRunning (wsX5_passTicksUntilRunning) := ggX7_untilRunning_X5_passTicksUntilRunning
theorem dX7_untilRunning_0 : decode cX7_untilRunning 0 = .ok (.aload_n 0, 1) := by decide +kernel
theorem dX7_untilRunning_1 : decode cX7_untilRunning 1 = .ok (.getfield 16, 3) := by decide +kernel
theorem dX7_untilRunning_4 : decode cX7_untilRunning 4 = .ok (.aload_n 0, 1) := by decide +kernel
theorem dX7_untilRunning_5 : decode cX7_untilRunning 5 = .ok (.getfield 10, 3) := by decide +kernel
theorem dX7_untilRunning_8 : decode cX7_untilRunning 8 = .ok (.invokevirtual 185, 3) := by decide +kernel
theorem dX7_untilRunning_11 : decode cX7_untilRunning 11 = .ok (.aload_n 0, 1) := by decide +kernel
theorem dX7_untilRunning_12 : decode cX7_untilRunning 12 = .ok (.getfield 16, 3) := by decide +kernel
theorem dX7_untilRunning_15 : decode cX7_untilRunning 15 = .ok (.iconst 1, 1) := by decide +kernel
theorem dX7_untilRunning_16 : decode cX7_untilRunning 16 = .ok (.invokevirtual 188, 3) := by decide +kernel
theorem dX7_untilRunning_19 : decode cX7_untilRunning 19 = .ok (.ireturn, 1) := by decide +kernel
set_option maxRecDepth 20000 in
theorem ggX7_ifTicked_X5_copyFrom : GoodIn wsX7_ifTicked wsX5_copyFrom := goodIn_r _ [6, 7, 8, 9, 10, 11, 12, 13, 14, 15, 16, 17, 18, 19, 20, 21, 22, 23, 24, 25, 26, 27, 28, 29, 30, 31, 32, 33, 34, 35, 36, 37, 38, 39, 40, 41, 42, 43, 44, 45, 46, 47, 48, 49, 50, 51, 52, 53, 54, 55, 137, 138, 139, 140, 141, 142, 143, 144, 145, 146, 147, 148, 149, 150, 157, 158, 159, 160, 161, 162, 163, 151, 152, 153, 154, 155, 156] (by decide +kernel) (by decide +kernel)
set_option maxRecDepth 20000 in
theorem gX7_ifTicked_X5_copyFrom_n185 : GoodIn wsX7_ifTicked (wsX5_copyFrom) := ggX7_ifTicked_X5_copyFrom
set_option maxRecDepth 20000 in
theorem ggX7_ifTicked_X6_forgetHeat : GoodIn wsX7_ifTicked wsX6_forgetHeat := goodIn_r _ [58, 51, 55, 151, 152, 153, 154, 155, 156] (by decide +kernel) (by decide +kernel)
set_option maxRecDepth 20000 in
theorem gX7_ifTicked_X6_forgetHeat_n191 : GoodIn wsX7_ifTicked (wsX6_forgetHeat) := ggX7_ifTicked_X6_forgetHeat
set_option maxRecDepth 20000 in
theorem ggX7_ifTicked_X5_passTicks : GoodIn wsX7_ifTicked wsX5_passTicks := goodIn_r _ [61, 62, 63, 64, 4, 65, 7, 11, 10, 8, 66, 13, 67, 68, 25, 69, 70, 71, 72, 73, 74, 75, 76, 21, 27, 77, 78, 79, 16, 80, 81, 82, 83, 28, 23, 24, 26, 84, 85, 86, 87, 88, 89, 90, 91, 92, 93, 94, 95, 22, 96, 97, 98, 99, 100, 46, 101, 102, 51, 52, 53, 54, 55, 103, 104, 105, 106, 107, 108, 109, 110, 30, 111, 112, 34, 35, 113, 37, 114, 115, 116, 117, 9, 118, 119, 120, 121, 122, 123, 124, 39, 125, 126, 42, 44, 127, 128, 129, 130, 49, 137, 138, 139, 140, 141, 142, 143, 144, 145, 146, 147, 148, 149, 150, 157, 158, 159, 160, 161, 151, 152, 153, 154, 155, 156, 162, 163] (by decide +kernel) (by decide +kernel)
set_option maxRecDepth 20000 in
theorem gX7_ifTicked_X5_passTicks_n90 : GoodIn wsX7_ifTicked (wsX5_passTicks) := ggX7_ifTicked_X5_passTicks
theorem dX7_ifTicked_0 : decode cX7_ifTicked 0 = .ok (.iload_n 1, 1) := by decide +kernel
theorem dX7_ifTicked_1 : decode cX7_ifTicked 1 = .ok (.iconst 1, 1) := by decide +kernel
theorem dX7_ifTicked_2 : decode cX7_ifTicked 2 = .ok (.if_icmp .lt 19, 3) := by decide +kernel
theorem dX7_ifTicked_5 : decode cX7_ifTicked 5 = .ok (.iload_n 1, 1) := by decide +kernel
theorem dX7_ifTicked_6 : decode cX7_ifTicked 6 = .ok (.sipush 300, 3) := by decide +kernel
theorem dX7_ifTicked_9 : decode cX7_ifTicked 9 = .ok (.if_icmp .gt 12, 3) := by decide +kernel
theorem dX7_ifTicked_12 : decode cX7_ifTicked 12 = .ok (.iload_n 2, 1) := by decide +kernel
theorem dX7_ifTicked_13 : decode cX7_ifTicked 13 = .ok (.ifCond .lt 8, 3) := by decide +kernel
theorem dX7_ifTicked_16 : decode cX7_ifTicked 16 = .ok (.iload_n 2, 1) := by decide +kernel
theorem dX7_ifTicked_17 : decode cX7_ifTicked 17 = .ok (.iconst 4, 1) := by decide +kernel
theorem dX7_ifTicked_18 : decode cX7_ifTicked 18 = .ok (.if_icmp .le 6, 3) := by decide +kernel
theorem dX7_ifTicked_21 : decode cX7_ifTicked 21 = .ok (.bipush (-2), 2) := by decide +kernel
theorem dX7_ifTicked_23 : decode cX7_ifTicked 23 = .ok (.ireturn, 1) := by decide +kernel
theorem dX7_ifTicked_24 : decode cX7_ifTicked 24 = .ok (.aload_n 0, 1) := by decide +kernel
theorem dX7_ifTicked_25 : decode cX7_ifTicked 25 = .ok (.getfield 16, 3) := by decide +kernel
theorem dX7_ifTicked_28 : decode cX7_ifTicked 28 = .ok (.aload_n 0, 1) := by decide +kernel
theorem dX7_ifTicked_29 : decode cX7_ifTicked 29 = .ok (.getfield 10, 3) := by decide +kernel
theorem dX7_ifTicked_32 : decode cX7_ifTicked 32 = .ok (.invokevirtual 185, 3) := by decide +kernel
theorem dX7_ifTicked_35 : decode cX7_ifTicked 35 = .ok (.aload_n 0, 1) := by decide +kernel
theorem dX7_ifTicked_36 : decode cX7_ifTicked 36 = .ok (.getfield 16, 3) := by decide +kernel
theorem dX7_ifTicked_39 : decode cX7_ifTicked 39 = .ok (.getfield 155, 3) := by decide +kernel
theorem dX7_ifTicked_42 : decode cX7_ifTicked 42 = .ok (.invokevirtual 191, 3) := by decide +kernel
theorem dX7_ifTicked_45 : decode cX7_ifTicked 45 = .ok (.aload_n 0, 1) := by decide +kernel
theorem dX7_ifTicked_46 : decode cX7_ifTicked 46 = .ok (.getfield 16, 3) := by decide +kernel
theorem dX7_ifTicked_49 : decode cX7_ifTicked 49 = .ok (.iload_n 1, 1) := by decide +kernel
theorem dX7_ifTicked_50 : decode cX7_ifTicked 50 = .ok (.invokevirtual 90, 3) := by decide +kernel
theorem dX7_ifTicked_53 : decode cX7_ifTicked 53 = .ok (.iload_n 2, 1) := by decide +kernel
theorem dX7_ifTicked_54 : decode cX7_ifTicked 54 = .ok (.tableswitch 74 0 3 #[30, 41, 52, 63], 30) := by decide +kernel
theorem dX7_ifTicked_84 : decode cX7_ifTicked 84 = .ok (.aload_n 0, 1) := by decide +kernel
theorem dX7_ifTicked_85 : decode cX7_ifTicked 85 = .ok (.getfield 16, 3) := by decide +kernel
theorem dX7_ifTicked_88 : decode cX7_ifTicked 88 = .ok (.getfield 52, 3) := by decide +kernel
theorem dX7_ifTicked_91 : decode cX7_ifTicked 91 = .ok (.getfield 94, 3) := by decide +kernel
theorem dX7_ifTicked_94 : decode cX7_ifTicked 94 = .ok (.ireturn, 1) := by decide +kernel
theorem dX7_ifTicked_95 : decode cX7_ifTicked 95 = .ok (.aload_n 0, 1) := by decide +kernel
theorem dX7_ifTicked_96 : decode cX7_ifTicked 96 = .ok (.getfield 16, 3) := by decide +kernel
theorem dX7_ifTicked_99 : decode cX7_ifTicked 99 = .ok (.getfield 52, 3) := by decide +kernel
theorem dX7_ifTicked_102 : decode cX7_ifTicked 102 = .ok (.getfield 119, 3) := by decide +kernel
theorem dX7_ifTicked_105 : decode cX7_ifTicked 105 = .ok (.ireturn, 1) := by decide +kernel
theorem dX7_ifTicked_106 : decode cX7_ifTicked 106 = .ok (.aload_n 0, 1) := by decide +kernel
theorem dX7_ifTicked_107 : decode cX7_ifTicked 107 = .ok (.getfield 16, 3) := by decide +kernel
theorem dX7_ifTicked_110 : decode cX7_ifTicked 110 = .ok (.getfield 52, 3) := by decide +kernel
theorem dX7_ifTicked_113 : decode cX7_ifTicked 113 = .ok (.getfield 69, 3) := by decide +kernel
theorem dX7_ifTicked_116 : decode cX7_ifTicked 116 = .ok (.ireturn, 1) := by decide +kernel
theorem dX7_ifTicked_117 : decode cX7_ifTicked 117 = .ok (.aload_n 0, 1) := by decide +kernel
theorem dX7_ifTicked_118 : decode cX7_ifTicked 118 = .ok (.getfield 16, 3) := by decide +kernel
theorem dX7_ifTicked_121 : decode cX7_ifTicked 121 = .ok (.getfield 155, 3) := by decide +kernel
theorem dX7_ifTicked_124 : decode cX7_ifTicked 124 = .ok (.getfield 167, 3) := by decide +kernel
theorem dX7_ifTicked_127 : decode cX7_ifTicked 127 = .ok (.ireturn, 1) := by decide +kernel
theorem dX7_ifTicked_128 : decode cX7_ifTicked 128 = .ok (.aload_n 0, 1) := by decide +kernel
theorem dX7_ifTicked_129 : decode cX7_ifTicked 129 = .ok (.getfield 16, 3) := by decide +kernel
theorem dX7_ifTicked_132 : decode cX7_ifTicked 132 = .ok (.getfield 155, 3) := by decide +kernel
theorem dX7_ifTicked_135 : decode cX7_ifTicked 135 = .ok (.getfield 179, 3) := by decide +kernel
theorem dX7_ifTicked_138 : decode cX7_ifTicked 138 = .ok (.ireturn, 1) := by decide +kernel
set_option maxRecDepth 20000 in
theorem ggX7_bestFuel_X5_copyFrom : GoodIn wsX7_bestFuel wsX5_copyFrom := goodIn_r _ [6, 7, 8, 9, 10, 11, 12, 13, 14, 15, 16, 17, 18, 19, 20, 21, 22, 23, 24, 25, 26, 27, 28, 29, 30, 31, 32, 33, 34, 35, 36, 37, 38, 39, 40, 41, 42, 43, 44, 45, 46, 47, 48, 49, 50, 51, 52, 53, 54, 55, 134, 135, 136, 137, 138, 139, 140, 141, 142, 143, 144, 145, 146, 147, 148, 149, 150, 151, 152, 153, 154, 155, 156, 157, 158, 159, 160] (by decide +kernel) (by decide +kernel)
set_option maxRecDepth 20000 in
theorem gX7_bestFuel_X5_copyFrom_n185 : GoodIn wsX7_bestFuel (wsX5_copyFrom) := ggX7_bestFuel_X5_copyFrom
set_option maxRecDepth 20000 in
theorem ggX7_bestFuel_X5_passTicksUntilRunning : GoodIn wsX7_bestFuel wsX5_passTicksUntilRunning := goodIn_r _ [58, 7, 59, 60, 61, 4, 62, 11, 10, 8, 63, 13, 64, 65, 25, 66, 67, 68, 69, 70, 71, 72, 73, 21, 27, 74, 75, 76, 16, 77, 78, 79, 80, 28, 23, 24, 26, 81, 82, 83, 84, 85, 86, 87, 88, 89, 90, 91, 92, 22, 93, 94, 95, 96, 97, 46, 98, 99, 51, 52, 53, 54, 55, 100, 101, 102, 103, 104, 105, 106, 107, 30, 108, 109, 34, 35, 110, 37, 111, 112, 113, 114, 9, 115, 116, 117, 118, 119, 120, 121, 39, 122, 123, 42, 44, 124, 125, 126, 127, 49, 134, 135, 136, 137, 138, 139, 140, 141, 142, 143, 144, 145, 146, 147, 148, 149, 150, 151, 152, 155, 156, 157, 158, 159, 160, 153, 154] (by decide +kernel) (by decide +kernel)
set_option maxRecDepth 20000 in
theorem gX7_bestFuel_X5_passTicksUntilRunning_n188 : GoodIn wsX7_bestFuel (wsX5_passTicksUntilRunning) := ggX7_bestFuel_X5_passTicksUntilRunning
theorem dX7_bestFuel_0 : decode cX7_bestFuel 0 = .ok (.bipush (-6), 2) := by decide +kernel
theorem dX7_bestFuel_2 : decode cX7_bestFuel 2 = .ok (.istore_n 1, 1) := by decide +kernel
theorem dX7_bestFuel_3 : decode cX7_bestFuel 3 = .ok (.sipush 301, 3) := by decide +kernel
theorem dX7_bestFuel_6 : decode cX7_bestFuel 6 = .ok (.istore_n 2, 1) := by decide +kernel
theorem dX7_bestFuel_7 : decode cX7_bestFuel 7 = .ok (.iconst 0, 1) := by decide +kernel
theorem dX7_bestFuel_8 : decode cX7_bestFuel 8 = .ok (.istore_n 3, 1) := by decide +kernel
theorem dX7_bestFuel_9 : decode cX7_bestFuel 9 = .ok (.iload_n 3, 1) := by decide +kernel
theorem dX7_bestFuel_10 : decode cX7_bestFuel 10 = .ok (.bipush 10, 2) := by decide +kernel
theorem dX7_bestFuel_12 : decode cX7_bestFuel 12 = .ok (.if_icmp .gt 59, 3) := by decide +kernel
theorem dX7_bestFuel_15 : decode cX7_bestFuel 15 = .ok (.aload_n 0, 1) := by decide +kernel
theorem dX7_bestFuel_16 : decode cX7_bestFuel 16 = .ok (.getfield 16, 3) := by decide +kernel
theorem dX7_bestFuel_19 : decode cX7_bestFuel 19 = .ok (.aload_n 0, 1) := by decide +kernel
theorem dX7_bestFuel_20 : decode cX7_bestFuel 20 = .ok (.getfield 10, 3) := by decide +kernel
theorem dX7_bestFuel_23 : decode cX7_bestFuel 23 = .ok (.invokevirtual 185, 3) := by decide +kernel
theorem dX7_bestFuel_26 : decode cX7_bestFuel 26 = .ok (.aload_n 0, 1) := by decide +kernel
theorem dX7_bestFuel_27 : decode cX7_bestFuel 27 = .ok (.getfield 16, 3) := by decide +kernel
theorem dX7_bestFuel_30 : decode cX7_bestFuel 30 = .ok (.getfield 52, 3) := by decide +kernel
theorem dX7_bestFuel_33 : decode cX7_bestFuel 33 = .ok (.iload_n 3, 1) := by decide +kernel
theorem dX7_bestFuel_34 : decode cX7_bestFuel 34 = .ok (.putfield 80, 3) := by decide +kernel
theorem dX7_bestFuel_37 : decode cX7_bestFuel 37 = .ok (.aload_n 0, 1) := by decide +kernel
theorem dX7_bestFuel_38 : decode cX7_bestFuel 38 = .ok (.getfield 16, 3) := by decide +kernel
theorem dX7_bestFuel_41 : decode cX7_bestFuel 41 = .ok (.iconst 0, 1) := by decide +kernel
theorem dX7_bestFuel_42 : decode cX7_bestFuel 42 = .ok (.invokevirtual 188, 3) := by decide +kernel
theorem dX7_bestFuel_45 : decode cX7_bestFuel 45 = .ok (.istore 4, 2) := by decide +kernel
theorem dX7_bestFuel_47 : decode cX7_bestFuel 47 = .ok (.iload 4, 2) := by decide +kernel
theorem dX7_bestFuel_49 : decode cX7_bestFuel 49 = .ok (.bipush (-6), 2) := by decide +kernel
theorem dX7_bestFuel_51 : decode cX7_bestFuel 51 = .ok (.if_icmp .eq 14, 3) := by decide +kernel
theorem dX7_bestFuel_54 : decode cX7_bestFuel 54 = .ok (.iload 4, 2) := by decide +kernel
theorem dX7_bestFuel_56 : decode cX7_bestFuel 56 = .ok (.iload_n 2, 1) := by decide +kernel
theorem dX7_bestFuel_57 : decode cX7_bestFuel 57 = .ok (.if_icmp .ge 8, 3) := by decide +kernel
theorem dX7_bestFuel_60 : decode cX7_bestFuel 60 = .ok (.iload 4, 2) := by decide +kernel
theorem dX7_bestFuel_62 : decode cX7_bestFuel 62 = .ok (.istore_n 2, 1) := by decide +kernel
theorem dX7_bestFuel_63 : decode cX7_bestFuel 63 = .ok (.iload_n 3, 1) := by decide +kernel
theorem dX7_bestFuel_64 : decode cX7_bestFuel 64 = .ok (.istore_n 1, 1) := by decide +kernel
theorem dX7_bestFuel_65 : decode cX7_bestFuel 65 = .ok (.iinc 3 1, 3) := by decide +kernel
theorem dX7_bestFuel_68 : decode cX7_bestFuel 68 = .ok (.goto (-59), 3) := by decide +kernel
theorem dX7_bestFuel_71 : decode cX7_bestFuel 71 = .ok (.iload_n 1, 1) := by decide +kernel
theorem dX7_bestFuel_72 : decode cX7_bestFuel 72 = .ok (.ireturn, 1) := by decide +kernel
set_option maxRecDepth 20000 in
theorem ggX7_leastBattery_X5_copyFrom : GoodIn wsX7_leastBattery wsX5_copyFrom := goodIn_r _ [6, 7, 8, 9, 10, 11, 12, 13, 14, 15, 16, 17, 18, 19, 20, 21, 22, 23, 24, 25, 26, 27, 28, 29, 30, 31, 32, 33, 34, 35, 36, 37, 38, 39, 40, 41, 42, 43, 44, 45, 46, 47, 48, 49, 50, 51, 52, 53, 54, 55, 134, 135, 136, 137, 138, 139, 140, 141, 142, 143, 144, 145, 146, 147, 148, 149, 150, 151, 152, 153, 154, 155, 156, 157, 158, 159, 160] (by decide +kernel) (by decide +kernel)
set_option maxRecDepth 20000 in
theorem gX7_leastBattery_X5_copyFrom_n185 : GoodIn wsX7_leastBattery (wsX5_copyFrom) := ggX7_leastBattery_X5_copyFrom
set_option maxRecDepth 20000 in
theorem ggX7_leastBattery_X5_passTicksUntilRunning : GoodIn wsX7_leastBattery wsX5_passTicksUntilRunning := goodIn_r _ [58, 7, 59, 60, 61, 4, 62, 11, 10, 8, 63, 13, 64, 65, 25, 66, 67, 68, 69, 70, 71, 72, 73, 21, 27, 74, 75, 76, 16, 77, 78, 79, 80, 28, 23, 24, 26, 81, 82, 83, 84, 85, 86, 87, 88, 89, 90, 91, 92, 22, 93, 94, 95, 96, 97, 46, 98, 99, 51, 52, 53, 54, 55, 100, 101, 102, 103, 104, 105, 106, 107, 30, 108, 109, 34, 35, 110, 37, 111, 112, 113, 114, 9, 115, 116, 117, 118, 119, 120, 121, 39, 122, 123, 42, 44, 124, 125, 126, 127, 49, 134, 135, 136, 137, 138, 139, 140, 141, 142, 143, 144, 145, 146, 147, 148, 149, 150, 151, 152, 155, 156, 157, 158, 159, 160, 153, 154] (by decide +kernel) (by decide +kernel)
set_option maxRecDepth 20000 in
theorem gX7_leastBattery_X5_passTicksUntilRunning_n188 : GoodIn wsX7_leastBattery (wsX5_passTicksUntilRunning) := ggX7_leastBattery_X5_passTicksUntilRunning
theorem dX7_leastBattery_0 : decode cX7_leastBattery 0 = .ok (.iconst 0, 1) := by decide +kernel
theorem dX7_leastBattery_1 : decode cX7_leastBattery 1 = .ok (.istore_n 1, 1) := by decide +kernel
theorem dX7_leastBattery_2 : decode cX7_leastBattery 2 = .ok (.iload_n 1, 1) := by decide +kernel
theorem dX7_leastBattery_3 : decode cX7_leastBattery 3 = .ok (.sipush 1000, 3) := by decide +kernel
theorem dX7_leastBattery_6 : decode cX7_leastBattery 6 = .ok (.if_icmp .gt 46, 3) := by decide +kernel
theorem dX7_leastBattery_9 : decode cX7_leastBattery 9 = .ok (.aload_n 0, 1) := by decide +kernel
theorem dX7_leastBattery_10 : decode cX7_leastBattery 10 = .ok (.getfield 16, 3) := by decide +kernel
theorem dX7_leastBattery_13 : decode cX7_leastBattery 13 = .ok (.aload_n 0, 1) := by decide +kernel
theorem dX7_leastBattery_14 : decode cX7_leastBattery 14 = .ok (.getfield 10, 3) := by decide +kernel
theorem dX7_leastBattery_17 : decode cX7_leastBattery 17 = .ok (.invokevirtual 185, 3) := by decide +kernel
theorem dX7_leastBattery_20 : decode cX7_leastBattery 20 = .ok (.aload_n 0, 1) := by decide +kernel
theorem dX7_leastBattery_21 : decode cX7_leastBattery 21 = .ok (.getfield 16, 3) := by decide +kernel
theorem dX7_leastBattery_24 : decode cX7_leastBattery 24 = .ok (.getfield 52, 3) := by decide +kernel
theorem dX7_leastBattery_27 : decode cX7_leastBattery 27 = .ok (.iload_n 1, 1) := by decide +kernel
theorem dX7_leastBattery_28 : decode cX7_leastBattery 28 = .ok (.putfield 69, 3) := by decide +kernel
theorem dX7_leastBattery_31 : decode cX7_leastBattery 31 = .ok (.aload_n 0, 1) := by decide +kernel
theorem dX7_leastBattery_32 : decode cX7_leastBattery 32 = .ok (.getfield 16, 3) := by decide +kernel
theorem dX7_leastBattery_35 : decode cX7_leastBattery 35 = .ok (.iconst 1, 1) := by decide +kernel
theorem dX7_leastBattery_36 : decode cX7_leastBattery 36 = .ok (.invokevirtual 188, 3) := by decide +kernel
theorem dX7_leastBattery_39 : decode cX7_leastBattery 39 = .ok (.bipush (-6), 2) := by decide +kernel
theorem dX7_leastBattery_41 : decode cX7_leastBattery 41 = .ok (.if_icmp .eq 5, 3) := by decide +kernel
theorem dX7_leastBattery_44 : decode cX7_leastBattery 44 = .ok (.iload_n 1, 1) := by decide +kernel
theorem dX7_leastBattery_45 : decode cX7_leastBattery 45 = .ok (.ireturn, 1) := by decide +kernel
theorem dX7_leastBattery_46 : decode cX7_leastBattery 46 = .ok (.iinc 1 10, 3) := by decide +kernel
theorem dX7_leastBattery_49 : decode cX7_leastBattery 49 = .ok (.goto (-47), 3) := by decide +kernel
theorem dX7_leastBattery_52 : decode cX7_leastBattery 52 = .ok (.bipush (-6), 2) := by decide +kernel
theorem dX7_leastBattery_54 : decode cX7_leastBattery 54 = .ok (.ireturn, 1) := by decide +kernel
set_option maxRecDepth 20000 in
theorem ggX7_put_X4_charactersIn : GoodIn wsX7_put wsX4_charactersIn := goodIn_r _ [4, 5, 6, 7] (by decide +kernel) (by decide +kernel)
set_option maxRecDepth 20000 in
theorem gX7_put_X4_charactersIn_n194 : GoodIn wsX7_put (wsX4_charactersIn) := ggX7_put_X4_charactersIn
set_option maxRecDepth 20000 in
theorem ggX7_put_X4_append : GoodIn wsX7_put wsX4_append := goodIn_r _ [10, 11, 12, 5, 19, 20] (by decide +kernel) (by decide +kernel)
set_option maxRecDepth 20000 in
theorem gX7_put_X4_append_n198 : GoodIn wsX7_put (wsX4_append) := ggX7_put_X4_append
theorem dX7_put_0 : decode cX7_put 0 = .ok (.lload_n 1, 1) := by decide +kernel
theorem dX7_put_1 : decode cX7_put 1 = .ok (.invokestatic 194, 3) := by decide +kernel
theorem dX7_put_4 : decode cX7_put 4 = .ok (.istore_n 3, 1) := by decide +kernel
theorem dX7_put_5 : decode cX7_put 5 = .ok (.iload_n 3, 1) := by decide +kernel
theorem dX7_put_6 : decode cX7_put 6 = .ok (.ifCond .ne 6, 3) := by decide +kernel
theorem dX7_put_9 : decode cX7_put 9 = .ok (.bipush (-2), 2) := by decide +kernel
theorem dX7_put_11 : decode cX7_put 11 = .ok (.ireturn, 1) := by decide +kernel
theorem dX7_put_12 : decode cX7_put 12 = .ok (.aload_n 0, 1) := by decide +kernel
theorem dX7_put_13 : decode cX7_put 13 = .ok (.getfield 37, 3) := by decide +kernel
theorem dX7_put_16 : decode cX7_put 16 = .ok (.getfield 101, 3) := by decide +kernel
theorem dX7_put_19 : decode cX7_put 19 = .ok (.iload_n 3, 1) := by decide +kernel
theorem dX7_put_20 : decode cX7_put 20 = .ok (.iadd, 1) := by decide +kernel
theorem dX7_put_21 : decode cX7_put 21 = .ok (.bipush 60, 2) := by decide +kernel
theorem dX7_put_23 : decode cX7_put 23 = .ok (.if_icmp .le 6, 3) := by decide +kernel
theorem dX7_put_26 : decode cX7_put 26 = .ok (.bipush (-4), 2) := by decide +kernel
theorem dX7_put_28 : decode cX7_put 28 = .ok (.ireturn, 1) := by decide +kernel
theorem dX7_put_29 : decode cX7_put 29 = .ok (.aload_n 0, 1) := by decide +kernel
theorem dX7_put_30 : decode cX7_put 30 = .ok (.getfield 37, 3) := by decide +kernel
theorem dX7_put_33 : decode cX7_put 33 = .ok (.lload_n 1, 1) := by decide +kernel
theorem dX7_put_34 : decode cX7_put 34 = .ok (.iload_n 3, 1) := by decide +kernel
theorem dX7_put_35 : decode cX7_put 35 = .ok (.invokevirtual 198, 3) := by decide +kernel
theorem dX7_put_38 : decode cX7_put 38 = .ok (.aload_n 0, 1) := by decide +kernel
theorem dX7_put_39 : decode cX7_put 39 = .ok (.getfield 37, 3) := by decide +kernel
theorem dX7_put_42 : decode cX7_put 42 = .ok (.getfield 101, 3) := by decide +kernel
theorem dX7_put_45 : decode cX7_put 45 = .ok (.ireturn, 1) := by decide +kernel
theorem dX7_wipe_0 : decode cX7_wipe 0 = .ok (.aload_n 0, 1) := by decide +kernel
theorem dX7_wipe_1 : decode cX7_wipe 1 = .ok (.getfield 37, 3) := by decide +kernel
theorem dX7_wipe_4 : decode cX7_wipe 4 = .ok (.getfield 101, 3) := by decide +kernel
theorem dX7_wipe_7 : decode cX7_wipe 7 = .ok (.istore_n 1, 1) := by decide +kernel
theorem dX7_wipe_8 : decode cX7_wipe 8 = .ok (.aload_n 0, 1) := by decide +kernel
theorem dX7_wipe_9 : decode cX7_wipe 9 = .ok (.getfield 37, 3) := by decide +kernel
theorem dX7_wipe_12 : decode cX7_wipe 12 = .ok (.iconst 0, 1) := by decide +kernel
theorem dX7_wipe_13 : decode cX7_wipe 13 = .ok (.putfield 101, 3) := by decide +kernel
theorem dX7_wipe_16 : decode cX7_wipe 16 = .ok (.iload_n 1, 1) := by decide +kernel
theorem dX7_wipe_17 : decode cX7_wipe 17 = .ok (.ireturn, 1) := by decide +kernel
set_option maxRecDepth 20000 in
theorem ggX7_fault_X4_firstFault : GoodIn wsX7_fault wsX4_firstFault := goodIn_r _ [5, 6, 7, 8, 9, 3, 10, 11, 12, 13, 14, 15, 16, 17, 18, 19, 20, 21, 22, 23, 30, 31] (by decide +kernel) (by decide +kernel)
set_option maxRecDepth 20000 in
theorem gX7_fault_X4_firstFault_n97 : GoodIn wsX7_fault (wsX4_firstFault) := ggX7_fault_X4_firstFault
theorem dX7_fault_0 : decode cX7_fault 0 = .ok (.aload_n 0, 1) := by decide +kernel
theorem dX7_fault_1 : decode cX7_fault 1 = .ok (.getfield 37, 3) := by decide +kernel
theorem dX7_fault_4 : decode cX7_fault 4 = .ok (.invokevirtual 97, 3) := by decide +kernel
theorem dX7_fault_7 : decode cX7_fault 7 = .ok (.ireturn, 1) := by decide +kernel
set_option maxRecDepth 20000 in
theorem ggX7_undo_X2_takeLatest : GoodIn wsX7_undo wsX2_takeLatest := goodIn_r _ [6, 7, 8, 9, 10, 11, 12, 13, 14, 15, 16, 17, 18, 19, 20, 21, 22, 23, 24, 25, 26, 27, 28, 29, 30, 31, 32, 33, 34, 35, 36, 37, 38, 39, 40, 41, 42, 43, 44, 45, 46, 47, 48, 49, 50, 51, 52, 53, 54, 55, 56, 57, 58, 59, 60, 61, 62, 69, 70, 71, 72, 73, 74, 75, 76, 77, 78, 79, 80, 81, 82, 83, 84, 85, 86, 87, 88, 89, 90, 91, 92, 93, 94, 95, 96, 97, 98] (by decide +kernel) (by decide +kernel)
set_option maxRecDepth 20000 in
theorem gX7_undo_X2_takeLatest_n202 : GoodIn wsX7_undo (wsX2_takeLatest) := ggX7_undo_X2_takeLatest
theorem dX7_undo_0 : decode cX7_undo 0 = .ok (.aload_n 0, 1) := by decide +kernel
theorem dX7_undo_1 : decode cX7_undo 1 = .ok (.getfield 22, 3) := by decide +kernel
theorem dX7_undo_4 : decode cX7_undo 4 = .ok (.getfield 182, 3) := by decide +kernel
theorem dX7_undo_7 : decode cX7_undo 7 = .ok (.ifCond .ne 6, 3) := by decide +kernel
theorem dX7_undo_10 : decode cX7_undo 10 = .ok (.bipush (-5), 2) := by decide +kernel
theorem dX7_undo_12 : decode cX7_undo 12 = .ok (.ireturn, 1) := by decide +kernel
theorem dX7_undo_13 : decode cX7_undo 13 = .ok (.aload_n 0, 1) := by decide +kernel
theorem dX7_undo_14 : decode cX7_undo 14 = .ok (.getfield 22, 3) := by decide +kernel
theorem dX7_undo_17 : decode cX7_undo 17 = .ok (.aload_n 0, 1) := by decide +kernel
theorem dX7_undo_18 : decode cX7_undo 18 = .ok (.getfield 10, 3) := by decide +kernel
theorem dX7_undo_21 : decode cX7_undo 21 = .ok (.invokevirtual 202, 3) := by decide +kernel
theorem dX7_undo_24 : decode cX7_undo 24 = .ok (.aload_n 0, 1) := by decide +kernel
theorem dX7_undo_25 : decode cX7_undo 25 = .ok (.getfield 22, 3) := by decide +kernel
theorem dX7_undo_28 : decode cX7_undo 28 = .ok (.getfield 182, 3) := by decide +kernel
theorem dX7_undo_31 : decode cX7_undo 31 = .ok (.ireturn, 1) := by decide +kernel
set_option maxRecDepth 20000 in
theorem ggX7_save_X5_copyFrom : GoodIn wsX7_save wsX5_copyFrom := goodIn_r _ [7, 8, 9, 10, 11, 12, 13, 14, 15, 16, 17, 18, 19, 20, 21, 22, 23, 24, 25, 26, 27, 28, 29, 30, 31, 32, 33, 34, 35, 36, 37, 38, 39, 40, 41, 42, 43, 44, 45, 46, 47, 48, 49, 50, 51, 52, 53, 54, 55, 56, 63, 64, 65, 66, 67, 68, 69, 70, 71, 72, 73, 74, 75, 76, 77, 78, 79, 80, 81, 82, 83, 84, 85, 86, 87, 88, 89] (by decide +kernel) (by decide +kernel)
set_option maxRecDepth 20000 in
theorem gX7_save_X5_copyFrom_n185 : GoodIn wsX7_save (wsX5_copyFrom) := ggX7_save_X5_copyFrom
theorem dX7_save_0 : decode cX7_save 0 = .ok (.iload_n 1, 1) := by decide +kernel
theorem dX7_save_1 : decode cX7_save 1 = .ok (.ifCond .lt 8, 3) := by decide +kernel
theorem dX7_save_4 : decode cX7_save 4 = .ok (.iload_n 1, 1) := by decide +kernel
theorem dX7_save_5 : decode cX7_save 5 = .ok (.iconst 2, 1) := by decide +kernel
theorem dX7_save_6 : decode cX7_save 6 = .ok (.if_icmp .lt 6, 3) := by decide +kernel
theorem dX7_save_9 : decode cX7_save 9 = .ok (.bipush (-2), 2) := by decide +kernel
theorem dX7_save_11 : decode cX7_save 11 = .ok (.ireturn, 1) := by decide +kernel
theorem dX7_save_12 : decode cX7_save 12 = .ok (.aload_n 0, 1) := by decide +kernel
theorem dX7_save_13 : decode cX7_save 13 = .ok (.getfield 26, 3) := by decide +kernel
theorem dX7_save_16 : decode cX7_save 16 = .ok (.iload_n 1, 1) := by decide +kernel
theorem dX7_save_17 : decode cX7_save 17 = .ok (.aaload, 1) := by decide +kernel
theorem dX7_save_18 : decode cX7_save 18 = .ok (.aload_n 0, 1) := by decide +kernel
theorem dX7_save_19 : decode cX7_save 19 = .ok (.getfield 10, 3) := by decide +kernel
theorem dX7_save_22 : decode cX7_save 22 = .ok (.invokevirtual 185, 3) := by decide +kernel
theorem dX7_save_25 : decode cX7_save 25 = .ok (.aload_n 0, 1) := by decide +kernel
theorem dX7_save_26 : decode cX7_save 26 = .ok (.getfield 30, 3) := by decide +kernel
theorem dX7_save_29 : decode cX7_save 29 = .ok (.iload_n 1, 1) := by decide +kernel
theorem dX7_save_30 : decode cX7_save 30 = .ok (.iconst 1, 1) := by decide +kernel
theorem dX7_save_31 : decode cX7_save 31 = .ok (.bastore, 1) := by decide +kernel
theorem dX7_save_32 : decode cX7_save 32 = .ok (.aload_n 0, 1) := by decide +kernel
theorem dX7_save_33 : decode cX7_save 33 = .ok (.getfield 10, 3) := by decide +kernel
theorem dX7_save_36 : decode cX7_save 36 = .ok (.getfield 159, 3) := by decide +kernel
theorem dX7_save_39 : decode cX7_save 39 = .ok (.ireturn, 1) := by decide +kernel
set_option maxRecDepth 20000 in
theorem ggX7_restore_X2_keep : GoodIn wsX7_restore wsX2_keep := goodIn_r _ [8, 9, 10, 11, 12, 13, 14, 15, 16, 17, 18, 19, 20, 21, 22, 23, 24, 25, 26, 27, 28, 29, 30, 31, 32, 33, 34, 35, 36, 37, 38, 39, 40, 41, 42, 43, 44, 45, 46, 47, 48, 49, 50, 51, 52, 53, 54, 55, 56, 57, 58, 59, 60, 61, 62, 63, 64, 76, 77, 78, 71, 72, 73, 74, 75, 79, 80, 81, 82, 83, 84, 85, 86, 87, 88, 89, 90, 91, 92, 93, 94, 95, 96, 97, 98, 99, 100] (by decide +kernel) (by decide +kernel)
set_option maxRecDepth 20000 in
theorem gX7_restore_X2_keep_n48 : GoodIn wsX7_restore (wsX2_keep) := ggX7_restore_X2_keep
set_option maxRecDepth 20000 in
theorem ggX7_restore_X5_copyFrom : GoodIn wsX7_restore wsX5_copyFrom := goodIn_r _ [15, 16, 17, 18, 19, 20, 21, 22, 23, 24, 25, 26, 27, 28, 29, 30, 31, 32, 33, 34, 35, 36, 37, 38, 39, 40, 41, 42, 43, 44, 45, 46, 47, 48, 49, 50, 51, 52, 53, 54, 55, 56, 57, 58, 59, 60, 61, 62, 63, 64, 71, 72, 73, 74, 75, 79, 80, 81, 82, 83, 84, 85, 86, 87, 88, 89, 90, 91, 92, 93, 94, 95, 96, 97, 98, 99, 100] (by decide +kernel) (by decide +kernel)
set_option maxRecDepth 20000 in
theorem gX7_restore_X5_copyFrom_n185 : GoodIn wsX7_restore (wsX5_copyFrom) := ggX7_restore_X5_copyFrom
theorem dX7_restore_0 : decode cX7_restore 0 = .ok (.iload_n 1, 1) := by decide +kernel
theorem dX7_restore_1 : decode cX7_restore 1 = .ok (.ifCond .lt 8, 3) := by decide +kernel
theorem dX7_restore_4 : decode cX7_restore 4 = .ok (.iload_n 1, 1) := by decide +kernel
theorem dX7_restore_5 : decode cX7_restore 5 = .ok (.iconst 2, 1) := by decide +kernel
theorem dX7_restore_6 : decode cX7_restore 6 = .ok (.if_icmp .lt 6, 3) := by decide +kernel
theorem dX7_restore_9 : decode cX7_restore 9 = .ok (.bipush (-2), 2) := by decide +kernel
theorem dX7_restore_11 : decode cX7_restore 11 = .ok (.ireturn, 1) := by decide +kernel
theorem dX7_restore_12 : decode cX7_restore 12 = .ok (.aload_n 0, 1) := by decide +kernel
theorem dX7_restore_13 : decode cX7_restore 13 = .ok (.getfield 30, 3) := by decide +kernel
theorem dX7_restore_16 : decode cX7_restore 16 = .ok (.iload_n 1, 1) := by decide +kernel
theorem dX7_restore_17 : decode cX7_restore 17 = .ok (.baload, 1) := by decide +kernel
theorem dX7_restore_18 : decode cX7_restore 18 = .ok (.ifCond .ne 6, 3) := by decide +kernel
theorem dX7_restore_21 : decode cX7_restore 21 = .ok (.bipush (-5), 2) := by decide +kernel
theorem dX7_restore_23 : decode cX7_restore 23 = .ok (.ireturn, 1) := by decide +kernel
theorem dX7_restore_24 : decode cX7_restore 24 = .ok (.aload_n 0, 1) := by decide +kernel
theorem dX7_restore_25 : decode cX7_restore 25 = .ok (.getfield 22, 3) := by decide +kernel
theorem dX7_restore_28 : decode cX7_restore 28 = .ok (.aload_n 0, 1) := by decide +kernel
theorem dX7_restore_29 : decode cX7_restore 29 = .ok (.getfield 10, 3) := by decide +kernel
theorem dX7_restore_32 : decode cX7_restore 32 = .ok (.invokevirtual 48, 3) := by decide +kernel
theorem dX7_restore_35 : decode cX7_restore 35 = .ok (.aload_n 0, 1) := by decide +kernel
theorem dX7_restore_36 : decode cX7_restore 36 = .ok (.getfield 10, 3) := by decide +kernel
theorem dX7_restore_39 : decode cX7_restore 39 = .ok (.aload_n 0, 1) := by decide +kernel
theorem dX7_restore_40 : decode cX7_restore 40 = .ok (.getfield 26, 3) := by decide +kernel
theorem dX7_restore_43 : decode cX7_restore 43 = .ok (.iload_n 1, 1) := by decide +kernel
theorem dX7_restore_44 : decode cX7_restore 44 = .ok (.aaload, 1) := by decide +kernel
theorem dX7_restore_45 : decode cX7_restore 45 = .ok (.invokevirtual 185, 3) := by decide +kernel
theorem dX7_restore_48 : decode cX7_restore 48 = .ok (.aload_n 0, 1) := by decide +kernel
theorem dX7_restore_49 : decode cX7_restore 49 = .ok (.getfield 10, 3) := by decide +kernel
theorem dX7_restore_52 : decode cX7_restore 52 = .ok (.getfield 159, 3) := by decide +kernel
theorem dX7_restore_55 : decode cX7_restore 55 = .ok (.ireturn, 1) := by decide +kernel
theorem dX7_oneIf_0 : decode cX7_oneIf 0 = .ok (.iload_n 0, 1) := by decide +kernel
theorem dX7_oneIf_1 : decode cX7_oneIf 1 = .ok (.ifCond .eq 7, 3) := by decide +kernel
theorem dX7_oneIf_4 : decode cX7_oneIf 4 = .ok (.iconst 1, 1) := by decide +kernel
theorem dX7_oneIf_5 : decode cX7_oneIf 5 = .ok (.goto 4, 3) := by decide +kernel
theorem dX7_oneIf_8 : decode cX7_oneIf 8 = .ok (.iconst 0, 1) := by decide +kernel
theorem dX7_oneIf_9 : decode cX7_oneIf 9 = .ok (.ireturn, 1) := by decide +kernel
set_option maxRecDepth 20000 in
theorem ggX7_doDeed_X5_canTurnStarter : GoodIn wsX7_doDeed wsX5_canTurnStarter := goodIn_r _ [5, 6, 125, 126, 127, 128, 129, 130, 131, 132, 133, 134, 135, 136, 137, 138] (by decide +kernel) (by decide +kernel)
set_option maxRecDepth 20000 in
theorem gX7_doDeed_X5_canTurnStarter_n61 : GoodIn wsX7_doDeed (wsX5_canTurnStarter) := ggX7_doDeed_X5_canTurnStarter
set_option maxRecDepth 20000 in
theorem ggX7_doDeed_X5_turnStarter : GoodIn wsX7_doDeed wsX5_turnStarter := goodIn_r _ [9, 6, 10, 11, 12, 13, 14, 15, 16, 17, 18, 19, 125, 126, 127, 128, 129, 130, 131, 132, 133, 134, 135, 136, 137, 138, 139, 140, 141, 142, 143] (by decide +kernel) (by decide +kernel)
set_option maxRecDepth 20000 in
theorem gX7_doDeed_X5_turnStarter_n65 : GoodIn wsX7_doDeed (wsX5_turnStarter) := ggX7_doDeed_X5_turnStarter
set_option maxRecDepth 20000 in
theorem ggX7_doDeed_X5_hasRoomFor : GoodIn wsX7_doDeed wsX5_hasRoomFor := goodIn_r _ [22, 23, 24, 125, 126, 127, 128, 129] (by decide +kernel) (by decide +kernel)
set_option maxRecDepth 20000 in
theorem gX7_doDeed_X5_hasRoomFor_n86 : GoodIn wsX7_doDeed (wsX5_hasRoomFor) := ggX7_doDeed_X5_hasRoomFor
set_option maxRecDepth 20000 in
theorem ggX7_doDeed_X5_passTicks : GoodIn wsX7_doDeed wsX5_passTicks := goodIn_r _ [27, 28, 29, 30, 3, 31, 6, 23, 32, 10, 33, 34, 35, 36, 37, 38, 39, 40, 41, 42, 43, 44, 45, 46, 47, 48, 49, 50, 51, 52, 53, 54, 55, 56, 57, 58, 59, 60, 61, 62, 63, 64, 65, 66, 67, 68, 69, 70, 71, 72, 73, 74, 75, 76, 77, 78, 79, 80, 81, 82, 83, 84, 85, 86, 87, 88, 89, 90, 91, 92, 93, 12, 94, 95, 16, 17, 96, 19, 97, 98, 99, 100, 101, 102, 103, 104, 105, 106, 107, 108, 109, 110, 111, 112, 113, 114, 115, 116, 117, 118, 125, 126, 127, 128, 129, 130, 131, 132, 133, 134, 135, 136, 137, 138, 139, 140, 141, 142, 143, 144, 145, 146, 147, 148, 149, 150, 151] (by decide +kernel) (by decide +kernel)
set_option maxRecDepth 20000 in
theorem gX7_doDeed_X5_passTicks_n90 : GoodIn wsX7_doDeed (wsX5_passTicks) := ggX7_doDeed_X5_passTicks
theorem dX7_doDeed_0 : decode cX7_doDeed 0 = .ok (.iload_n 1, 1) := by decide +kernel
theorem dX7_doDeed_1 : decode cX7_doDeed 1 = .ok (.lookupswitch 120 #[(99, 35), (102, 107), (115, 77)], 35) := by decide +kernel
theorem dX7_doDeed_36 : decode cX7_doDeed 36 = .ok (.aload_n 0, 1) := by decide +kernel
theorem dX7_doDeed_37 : decode cX7_doDeed 37 = .ok (.getfield 10, 3) := by decide +kernel
theorem dX7_doDeed_40 : decode cX7_doDeed 40 = .ok (.getfield 52, 3) := by decide +kernel
theorem dX7_doDeed_43 : decode cX7_doDeed 43 = .ok (.getfield 126, 3) := by decide +kernel
theorem dX7_doDeed_46 : decode cX7_doDeed 46 = .ok (.ifCond .ne 7, 3) := by decide +kernel
theorem dX7_doDeed_49 : decode cX7_doDeed 49 = .ok (.iconst 1, 1) := by decide +kernel
theorem dX7_doDeed_50 : decode cX7_doDeed 50 = .ok (.goto 4, 3) := by decide +kernel
theorem dX7_doDeed_53 : decode cX7_doDeed 53 = .ok (.iconst 0, 1) := by decide +kernel
theorem dX7_doDeed_54 : decode cX7_doDeed 54 = .ok (.istore_n 3, 1) := by decide +kernel
theorem dX7_doDeed_55 : decode cX7_doDeed 55 = .ok (.aload_n 0, 1) := by decide +kernel
theorem dX7_doDeed_56 : decode cX7_doDeed 56 = .ok (.getfield 10, 3) := by decide +kernel
theorem dX7_doDeed_59 : decode cX7_doDeed 59 = .ok (.iload_n 3, 1) := by decide +kernel
theorem dX7_doDeed_60 : decode cX7_doDeed 60 = .ok (.invokevirtual 61, 3) := by decide +kernel
theorem dX7_doDeed_63 : decode cX7_doDeed 63 = .ok (.ifCond .ne 5, 3) := by decide +kernel
theorem dX7_doDeed_66 : decode cX7_doDeed 66 = .ok (.iconst 0, 1) := by decide +kernel
theorem dX7_doDeed_67 : decode cX7_doDeed 67 = .ok (.ireturn, 1) := by decide +kernel
theorem dX7_doDeed_68 : decode cX7_doDeed 68 = .ok (.aload_n 0, 1) := by decide +kernel
theorem dX7_doDeed_69 : decode cX7_doDeed 69 = .ok (.getfield 10, 3) := by decide +kernel
theorem dX7_doDeed_72 : decode cX7_doDeed 72 = .ok (.iload_n 3, 1) := by decide +kernel
theorem dX7_doDeed_73 : decode cX7_doDeed 73 = .ok (.invokevirtual 65, 3) := by decide +kernel
theorem dX7_doDeed_76 : decode cX7_doDeed 76 = .ok (.iconst 1, 1) := by decide +kernel
theorem dX7_doDeed_77 : decode cX7_doDeed 77 = .ok (.ireturn, 1) := by decide +kernel
theorem dX7_doDeed_78 : decode cX7_doDeed 78 = .ok (.aload_n 0, 1) := by decide +kernel
theorem dX7_doDeed_79 : decode cX7_doDeed 79 = .ok (.getfield 10, 3) := by decide +kernel
theorem dX7_doDeed_82 : decode cX7_doDeed 82 = .ok (.getfield 52, 3) := by decide +kernel
theorem dX7_doDeed_85 : decode cX7_doDeed 85 = .ok (.aload_n 0, 1) := by decide +kernel
theorem dX7_doDeed_86 : decode cX7_doDeed 86 = .ok (.getfield 10, 3) := by decide +kernel
theorem dX7_doDeed_89 : decode cX7_doDeed 89 = .ok (.getfield 52, 3) := by decide +kernel
theorem dX7_doDeed_92 : decode cX7_doDeed 92 = .ok (.getfield 73, 3) := by decide +kernel
theorem dX7_doDeed_95 : decode cX7_doDeed 95 = .ok (.ifCond .ne 7, 3) := by decide +kernel
theorem dX7_doDeed_98 : decode cX7_doDeed 98 = .ok (.iconst 1, 1) := by decide +kernel
theorem dX7_doDeed_99 : decode cX7_doDeed 99 = .ok (.goto 4, 3) := by decide +kernel
theorem dX7_doDeed_102 : decode cX7_doDeed 102 = .ok (.iconst 0, 1) := by decide +kernel
theorem dX7_doDeed_103 : decode cX7_doDeed 103 = .ok (.putfield 73, 3) := by decide +kernel
theorem dX7_doDeed_106 : decode cX7_doDeed 106 = .ok (.iconst 1, 1) := by decide +kernel
theorem dX7_doDeed_107 : decode cX7_doDeed 107 = .ok (.ireturn, 1) := by decide +kernel
theorem dX7_doDeed_108 : decode cX7_doDeed 108 = .ok (.aload_n 0, 1) := by decide +kernel
theorem dX7_doDeed_109 : decode cX7_doDeed 109 = .ok (.getfield 10, 3) := by decide +kernel
theorem dX7_doDeed_112 : decode cX7_doDeed 112 = .ok (.getfield 52, 3) := by decide +kernel
theorem dX7_doDeed_115 : decode cX7_doDeed 115 = .ok (.iload_n 2, 1) := by decide +kernel
theorem dX7_doDeed_116 : decode cX7_doDeed 116 = .ok (.putfield 80, 3) := by decide +kernel
theorem dX7_doDeed_119 : decode cX7_doDeed 119 = .ok (.iconst 1, 1) := by decide +kernel
theorem dX7_doDeed_120 : decode cX7_doDeed 120 = .ok (.ireturn, 1) := by decide +kernel
theorem dX7_doDeed_121 : decode cX7_doDeed 121 = .ok (.aload_n 0, 1) := by decide +kernel
theorem dX7_doDeed_122 : decode cX7_doDeed 122 = .ok (.getfield 10, 3) := by decide +kernel
theorem dX7_doDeed_125 : decode cX7_doDeed 125 = .ok (.iload_n 2, 1) := by decide +kernel
theorem dX7_doDeed_126 : decode cX7_doDeed 126 = .ok (.invokevirtual 86, 3) := by decide +kernel
theorem dX7_doDeed_129 : decode cX7_doDeed 129 = .ok (.ifCond .ne 5, 3) := by decide +kernel
theorem dX7_doDeed_132 : decode cX7_doDeed 132 = .ok (.iconst 0, 1) := by decide +kernel
theorem dX7_doDeed_133 : decode cX7_doDeed 133 = .ok (.ireturn, 1) := by decide +kernel
theorem dX7_doDeed_134 : decode cX7_doDeed 134 = .ok (.aload_n 0, 1) := by decide +kernel
theorem dX7_doDeed_135 : decode cX7_doDeed 135 = .ok (.getfield 10, 3) := by decide +kernel
theorem dX7_doDeed_138 : decode cX7_doDeed 138 = .ok (.iload_n 2, 1) := by decide +kernel
theorem dX7_doDeed_139 : decode cX7_doDeed 139 = .ok (.invokevirtual 90, 3) := by decide +kernel
theorem dX7_doDeed_142 : decode cX7_doDeed 142 = .ok (.iconst 1, 1) := by decide +kernel
theorem dX7_doDeed_143 : decode cX7_doDeed 143 = .ok (.ireturn, 1) := by decide +kernel
theorem dX8_init_0 : decode cX8_init 0 = .ok (.aload_n 0, 1) := by decide +kernel
theorem dX8_init_1 : decode cX8_init 1 = .ok (.invokespecial 1, 3) := by decide +kernel
theorem dX8_init_4 : decode cX8_init 4 = .ok (.aload_n 0, 1) := by decide +kernel
theorem dX8_init_5 : decode cX8_init 5 = .ok (.bipush 71, 2) := by decide +kernel
theorem dX8_init_7 : decode cX8_init 7 = .ok (.newarray .int, 2) := by decide +kernel
theorem dX8_init_9 : decode cX8_init 9 = .ok (.putfield 7, 3) := by decide +kernel
theorem dX8_init_12 : decode cX8_init 12 = .ok (.aload_n 0, 1) := by decide +kernel
theorem dX8_init_13 : decode cX8_init 13 = .ok (.bipush 71, 2) := by decide +kernel
theorem dX8_init_15 : decode cX8_init 15 = .ok (.newarray .int, 2) := by decide +kernel
theorem dX8_init_17 : decode cX8_init 17 = .ok (.putfield 13, 3) := by decide +kernel
theorem dX8_init_20 : decode cX8_init 20 = .ok (.aload_n 0, 1) := by decide +kernel
theorem dX8_init_21 : decode cX8_init 21 = .ok (.bipush 71, 2) := by decide +kernel
theorem dX8_init_23 : decode cX8_init 23 = .ok (.newarray .int, 2) := by decide +kernel
theorem dX8_init_25 : decode cX8_init 25 = .ok (.putfield 16, 3) := by decide +kernel
theorem dX8_init_28 : decode cX8_init 28 = .ok (.aload_n 0, 1) := by decide +kernel
theorem dX8_init_29 : decode cX8_init 29 = .ok (.sipush 426, 3) := by decide +kernel
theorem dX8_init_32 : decode cX8_init 32 = .ok (.newarray .int, 2) := by decide +kernel
theorem dX8_init_34 : decode cX8_init 34 = .ok (.putfield 19, 3) := by decide +kernel
theorem dX8_init_37 : decode cX8_init 37 = .ok (.aload_n 0, 1) := by decide +kernel
theorem dX8_init_38 : decode cX8_init 38 = .ok (.sipush 142, 3) := by decide +kernel
theorem dX8_init_41 : decode cX8_init 41 = .ok (.newarray .int, 2) := by decide +kernel
theorem dX8_init_43 : decode cX8_init 43 = .ok (.putfield 22, 3) := by decide +kernel
theorem dX8_init_46 : decode cX8_init 46 = .ok (.aload_n 0, 1) := by decide +kernel
theorem dX8_init_47 : decode cX8_init 47 = .ok (.iconst 2, 1) := by decide +kernel
theorem dX8_init_48 : decode cX8_init 48 = .ok (.newarray .boolean, 2) := by decide +kernel
theorem dX8_init_50 : decode cX8_init 50 = .ok (.putfield 25, 3) := by decide +kernel
theorem dX8_init_53 : decode cX8_init 53 = .ok (.aload_n 0, 1) := by decide +kernel
theorem dX8_init_54 : decode cX8_init 54 = .ok (.bipush 62, 2) := by decide +kernel
theorem dX8_init_56 : decode cX8_init 56 = .ok (.newarray .int, 2) := by decide +kernel
theorem dX8_init_58 : decode cX8_init 58 = .ok (.putfield 29, 3) := by decide +kernel
theorem dX8_init_61 : decode cX8_init 61 = .ok (.aload_n 0, 1) := by decide +kernel
theorem dX8_init_62 : decode cX8_init 62 = .ok (.bipush 60, 2) := by decide +kernel
theorem dX8_init_64 : decode cX8_init 64 = .ok (.newarray .char, 2) := by decide +kernel
theorem dX8_init_66 : decode cX8_init 66 = .ok (.putfield 32, 3) := by decide +kernel
theorem dX8_init_69 : decode cX8_init 69 = .ok (.aload_n 0, 1) := by decide +kernel
theorem dX8_init_70 : decode cX8_init 70 = .ok (.getfield 7, 3) := by decide +kernel
theorem dX8_init_73 : decode cX8_init 73 = .ok (.iconst 0, 1) := by decide +kernel
theorem dX8_init_74 : decode cX8_init 74 = .ok (.bipush 14, 2) := by decide +kernel
theorem dX8_init_76 : decode cX8_init 76 = .ok (.iastore, 1) := by decide +kernel
theorem dX8_init_77 : decode cX8_init 77 = .ok (.aload_n 0, 1) := by decide +kernel
theorem dX8_init_78 : decode cX8_init 78 = .ok (.getfield 7, 3) := by decide +kernel
theorem dX8_init_81 : decode cX8_init 81 = .ok (.iconst 1, 1) := by decide +kernel
theorem dX8_init_82 : decode cX8_init 82 = .ok (.iconst 4, 1) := by decide +kernel
theorem dX8_init_83 : decode cX8_init 83 = .ok (.iastore, 1) := by decide +kernel
theorem dX8_init_84 : decode cX8_init 84 = .ok (.aload_n 0, 1) := by decide +kernel
theorem dX8_init_85 : decode cX8_init 85 = .ok (.getfield 7, 3) := by decide +kernel
theorem dX8_init_88 : decode cX8_init 88 = .ok (.iconst 2, 1) := by decide +kernel
theorem dX8_init_89 : decode cX8_init 89 = .ok (.bipush 12, 2) := by decide +kernel
theorem dX8_init_91 : decode cX8_init 91 = .ok (.iastore, 1) := by decide +kernel
theorem dX8_init_92 : decode cX8_init 92 = .ok (.aload_n 0, 1) := by decide +kernel
theorem dX8_init_93 : decode cX8_init 93 = .ok (.getfield 7, 3) := by decide +kernel
theorem dX8_init_96 : decode cX8_init 96 = .ok (.iconst 3, 1) := by decide +kernel
theorem dX8_init_97 : decode cX8_init 97 = .ok (.bipush 8, 2) := by decide +kernel
theorem dX8_init_99 : decode cX8_init 99 = .ok (.iastore, 1) := by decide +kernel
theorem dX8_init_100 : decode cX8_init 100 = .ok (.aload_n 0, 1) := by decide +kernel
theorem dX8_init_101 : decode cX8_init 101 = .ok (.getfield 7, 3) := by decide +kernel
theorem dX8_init_104 : decode cX8_init 104 = .ok (.iconst 4, 1) := by decide +kernel
theorem dX8_init_105 : decode cX8_init 105 = .ok (.sipush 900, 3) := by decide +kernel
theorem dX8_init_108 : decode cX8_init 108 = .ok (.iastore, 1) := by decide +kernel
theorem dX8_init_109 : decode cX8_init 109 = .ok (.aload_n 0, 1) := by decide +kernel
theorem dX8_init_110 : decode cX8_init 110 = .ok (.getfield 7, 3) := by decide +kernel
theorem dX8_init_113 : decode cX8_init 113 = .ok (.iconst 5, 1) := by decide +kernel
theorem dX8_init_114 : decode cX8_init 114 = .ok (.bipush 120, 2) := by decide +kernel
theorem dX8_init_116 : decode cX8_init 116 = .ok (.iastore, 1) := by decide +kernel
theorem dX8_init_117 : decode cX8_init 117 = .ok (.aload_n 0, 1) := by decide +kernel
theorem dX8_init_118 : decode cX8_init 118 = .ok (.getfield 7, 3) := by decide +kernel
theorem dX8_init_121 : decode cX8_init 121 = .ok (.bipush 6, 2) := by decide +kernel
theorem dX8_init_123 : decode cX8_init 123 = .ok (.bipush 12, 2) := by decide +kernel
theorem dX8_init_125 : decode cX8_init 125 = .ok (.iastore, 1) := by decide +kernel
theorem dX8_init_126 : decode cX8_init 126 = .ok (.aload_n 0, 1) := by decide +kernel
theorem dX8_init_127 : decode cX8_init 127 = .ok (.getfield 7, 3) := by decide +kernel
theorem dX8_init_130 : decode cX8_init 130 = .ok (.bipush 24, 2) := by decide +kernel
theorem dX8_init_132 : decode cX8_init 132 = .ok (.sipush 1000, 3) := by decide +kernel
theorem dX8_init_135 : decode cX8_init 135 = .ok (.iastore, 1) := by decide +kernel
theorem dX8_init_136 : decode cX8_init 136 = .ok (.return_, 1) := by decide +kernel
theorem dX8_in_0 : decode cX8_in 0 = .ok (.iload_n 0, 1) := by decide +kernel
theorem dX8_in_1 : decode cX8_in 1 = .ok (.iload_n 1, 1) := by decide +kernel
theorem dX8_in_2 : decode cX8_in 2 = .ok (.if_icmp .lt 12, 3) := by decide +kernel
theorem dX8_in_5 : decode cX8_in 5 = .ok (.iload_n 0, 1) := by decide +kernel
theorem dX8_in_6 : decode cX8_in 6 = .ok (.iload_n 2, 1) := by decide +kernel
theorem dX8_in_7 : decode cX8_in 7 = .ok (.if_icmp .gt 7, 3) := by decide +kernel
theorem dX8_in_10 : decode cX8_in 10 = .ok (.iconst 1, 1) := by decide +kernel
theorem dX8_in_11 : decode cX8_in 11 = .ok (.goto 4, 3) := by decide +kernel
theorem dX8_in_14 : decode cX8_in 14 = .ok (.iconst 0, 1) := by decide +kernel
theorem dX8_in_15 : decode cX8_in 15 = .ok (.ireturn, 1) := by decide +kernel
theorem dX8_hold_0 : decode cX8_hold 0 = .ok (.iconst 0, 1) := by decide +kernel
theorem dX8_hold_1 : decode cX8_hold 1 = .ok (.istore_n 1, 1) := by decide +kernel
theorem dX8_hold_2 : decode cX8_hold 2 = .ok (.iload_n 1, 1) := by decide +kernel
theorem dX8_hold_3 : decode cX8_hold 3 = .ok (.bipush 71, 2) := by decide +kernel
theorem dX8_hold_5 : decode cX8_hold 5 = .ok (.if_icmp .ge 21, 3) := by decide +kernel
theorem dX8_hold_8 : decode cX8_hold 8 = .ok (.aload_n 0, 1) := by decide +kernel
theorem dX8_hold_9 : decode cX8_hold 9 = .ok (.getfield 13, 3) := by decide +kernel
theorem dX8_hold_12 : decode cX8_hold 12 = .ok (.iload_n 1, 1) := by decide +kernel
theorem dX8_hold_13 : decode cX8_hold 13 = .ok (.aload_n 0, 1) := by decide +kernel
theorem dX8_hold_14 : decode cX8_hold 14 = .ok (.getfield 7, 3) := by decide +kernel
theorem dX8_hold_17 : decode cX8_hold 17 = .ok (.iload_n 1, 1) := by decide +kernel
theorem dX8_hold_18 : decode cX8_hold 18 = .ok (.iaload, 1) := by decide +kernel
theorem dX8_hold_19 : decode cX8_hold 19 = .ok (.iastore, 1) := by decide +kernel
theorem dX8_hold_20 : decode cX8_hold 20 = .ok (.iinc 1 1, 3) := by decide +kernel
theorem dX8_hold_23 : decode cX8_hold 23 = .ok (.goto (-21), 3) := by decide +kernel
theorem dX8_hold_26 : decode cX8_hold 26 = .ok (.return_, 1) := by decide +kernel
theorem dX8_recorded_0 : decode cX8_recorded 0 = .ok (.iload_n 1, 1) := by decide +kernel
theorem dX8_recorded_1 : decode cX8_recorded 1 = .ok (.ifCond .lt 96, 3) := by decide +kernel
theorem dX8_recorded_4 : decode cX8_recorded 4 = .ok (.aload_n 0, 1) := by decide +kernel
theorem dX8_recorded_5 : decode cX8_recorded 5 = .ok (.getfield 36, 3) := by decide +kernel
theorem dX8_recorded_8 : decode cX8_recorded 8 = .ok (.bipush 6, 2) := by decide +kernel
theorem dX8_recorded_10 : decode cX8_recorded 10 = .ok (.if_icmp .ne 43, 3) := by decide +kernel
theorem dX8_recorded_13 : decode cX8_recorded 13 = .ok (.iconst 0, 1) := by decide +kernel
theorem dX8_recorded_14 : decode cX8_recorded 14 = .ok (.istore_n 2, 1) := by decide +kernel
theorem dX8_recorded_15 : decode cX8_recorded 15 = .ok (.iload_n 2, 1) := by decide +kernel
theorem dX8_recorded_16 : decode cX8_recorded 16 = .ok (.sipush 355, 3) := by decide +kernel
theorem dX8_recorded_19 : decode cX8_recorded 19 = .ok (.if_icmp .ge 24, 3) := by decide +kernel
theorem dX8_recorded_22 : decode cX8_recorded 22 = .ok (.aload_n 0, 1) := by decide +kernel
theorem dX8_recorded_23 : decode cX8_recorded 23 = .ok (.getfield 19, 3) := by decide +kernel
theorem dX8_recorded_26 : decode cX8_recorded 26 = .ok (.iload_n 2, 1) := by decide +kernel
theorem dX8_recorded_27 : decode cX8_recorded 27 = .ok (.aload_n 0, 1) := by decide +kernel
theorem dX8_recorded_28 : decode cX8_recorded 28 = .ok (.getfield 19, 3) := by decide +kernel
theorem dX8_recorded_31 : decode cX8_recorded 31 = .ok (.bipush 71, 2) := by decide +kernel
theorem dX8_recorded_33 : decode cX8_recorded 33 = .ok (.iload_n 2, 1) := by decide +kernel
theorem dX8_recorded_34 : decode cX8_recorded 34 = .ok (.iadd, 1) := by decide +kernel
theorem dX8_recorded_35 : decode cX8_recorded 35 = .ok (.iaload, 1) := by decide +kernel
theorem dX8_recorded_36 : decode cX8_recorded 36 = .ok (.iastore, 1) := by decide +kernel
theorem dX8_recorded_37 : decode cX8_recorded 37 = .ok (.iinc 2 1, 3) := by decide +kernel
theorem dX8_recorded_40 : decode cX8_recorded 40 = .ok (.goto (-25), 3) := by decide +kernel
theorem dX8_recorded_43 : decode cX8_recorded 43 = .ok (.aload_n 0, 1) := by decide +kernel
theorem dX8_recorded_44 : decode cX8_recorded 44 = .ok (.dup, 1) := by decide +kernel
theorem dX8_recorded_45 : decode cX8_recorded 45 = .ok (.getfield 36, 3) := by decide +kernel
theorem dX8_recorded_48 : decode cX8_recorded 48 = .ok (.iconst 1, 1) := by decide +kernel
theorem dX8_recorded_49 : decode cX8_recorded 49 = .ok (.isub, 1) := by decide +kernel
theorem dX8_recorded_50 : decode cX8_recorded 50 = .ok (.putfield 36, 3) := by decide +kernel
theorem dX8_recorded_53 : decode cX8_recorded 53 = .ok (.iconst 0, 1) := by decide +kernel
theorem dX8_recorded_54 : decode cX8_recorded 54 = .ok (.istore_n 2, 1) := by decide +kernel
theorem dX8_recorded_55 : decode cX8_recorded 55 = .ok (.iload_n 2, 1) := by decide +kernel
theorem dX8_recorded_56 : decode cX8_recorded 56 = .ok (.bipush 71, 2) := by decide +kernel
theorem dX8_recorded_58 : decode cX8_recorded 58 = .ok (.if_icmp .ge 29, 3) := by decide +kernel
theorem dX8_recorded_61 : decode cX8_recorded 61 = .ok (.aload_n 0, 1) := by decide +kernel
theorem dX8_recorded_62 : decode cX8_recorded 62 = .ok (.getfield 19, 3) := by decide +kernel
theorem dX8_recorded_65 : decode cX8_recorded 65 = .ok (.bipush 71, 2) := by decide +kernel
theorem dX8_recorded_67 : decode cX8_recorded 67 = .ok (.aload_n 0, 1) := by decide +kernel
theorem dX8_recorded_68 : decode cX8_recorded 68 = .ok (.getfield 36, 3) := by decide +kernel
theorem dX8_recorded_71 : decode cX8_recorded 71 = .ok (.imul, 1) := by decide +kernel
theorem dX8_recorded_72 : decode cX8_recorded 72 = .ok (.iload_n 2, 1) := by decide +kernel
theorem dX8_recorded_73 : decode cX8_recorded 73 = .ok (.iadd, 1) := by decide +kernel
theorem dX8_recorded_74 : decode cX8_recorded 74 = .ok (.aload_n 0, 1) := by decide +kernel
theorem dX8_recorded_75 : decode cX8_recorded 75 = .ok (.getfield 13, 3) := by decide +kernel
theorem dX8_recorded_78 : decode cX8_recorded 78 = .ok (.iload_n 2, 1) := by decide +kernel
theorem dX8_recorded_79 : decode cX8_recorded 79 = .ok (.iaload, 1) := by decide +kernel
theorem dX8_recorded_80 : decode cX8_recorded 80 = .ok (.iastore, 1) := by decide +kernel
theorem dX8_recorded_81 : decode cX8_recorded 81 = .ok (.iinc 2 1, 3) := by decide +kernel
theorem dX8_recorded_84 : decode cX8_recorded 84 = .ok (.goto (-29), 3) := by decide +kernel
theorem dX8_recorded_87 : decode cX8_recorded 87 = .ok (.aload_n 0, 1) := by decide +kernel
theorem dX8_recorded_88 : decode cX8_recorded 88 = .ok (.dup, 1) := by decide +kernel
theorem dX8_recorded_89 : decode cX8_recorded 89 = .ok (.getfield 36, 3) := by decide +kernel
theorem dX8_recorded_92 : decode cX8_recorded 92 = .ok (.iconst 1, 1) := by decide +kernel
theorem dX8_recorded_93 : decode cX8_recorded 93 = .ok (.iadd, 1) := by decide +kernel
theorem dX8_recorded_94 : decode cX8_recorded 94 = .ok (.putfield 36, 3) := by decide +kernel
theorem dX8_recorded_97 : decode cX8_recorded 97 = .ok (.iload_n 1, 1) := by decide +kernel
theorem dX8_recorded_98 : decode cX8_recorded 98 = .ok (.ireturn, 1) := by decide +kernel
theorem dX8_keepTrial_0 : decode cX8_keepTrial 0 = .ok (.iconst 0, 1) := by decide +kernel
theorem dX8_keepTrial_1 : decode cX8_keepTrial 1 = .ok (.istore_n 1, 1) := by decide +kernel
theorem dX8_keepTrial_2 : decode cX8_keepTrial 2 = .ok (.iload_n 1, 1) := by decide +kernel
theorem dX8_keepTrial_3 : decode cX8_keepTrial 3 = .ok (.bipush 71, 2) := by decide +kernel
theorem dX8_keepTrial_5 : decode cX8_keepTrial 5 = .ok (.if_icmp .ge 21, 3) := by decide +kernel
theorem dX8_keepTrial_8 : decode cX8_keepTrial 8 = .ok (.aload_n 0, 1) := by decide +kernel
theorem dX8_keepTrial_9 : decode cX8_keepTrial 9 = .ok (.getfield 16, 3) := by decide +kernel
theorem dX8_keepTrial_12 : decode cX8_keepTrial 12 = .ok (.iload_n 1, 1) := by decide +kernel
theorem dX8_keepTrial_13 : decode cX8_keepTrial 13 = .ok (.aload_n 0, 1) := by decide +kernel
theorem dX8_keepTrial_14 : decode cX8_keepTrial 14 = .ok (.getfield 7, 3) := by decide +kernel
theorem dX8_keepTrial_17 : decode cX8_keepTrial 17 = .ok (.iload_n 1, 1) := by decide +kernel
theorem dX8_keepTrial_18 : decode cX8_keepTrial 18 = .ok (.iaload, 1) := by decide +kernel
theorem dX8_keepTrial_19 : decode cX8_keepTrial 19 = .ok (.iastore, 1) := by decide +kernel
theorem dX8_keepTrial_20 : decode cX8_keepTrial 20 = .ok (.iinc 1 1, 3) := by decide +kernel
theorem dX8_keepTrial_23 : decode cX8_keepTrial 23 = .ok (.goto (-21), 3) := by decide +kernel
theorem dX8_keepTrial_26 : decode cX8_keepTrial 26 = .ok (.return_, 1) := by decide +kernel
theorem dX8_putBack_0 : decode cX8_putBack 0 = .ok (.iconst 0, 1) := by decide +kernel
theorem dX8_putBack_1 : decode cX8_putBack 1 = .ok (.istore_n 1, 1) := by decide +kernel
theorem dX8_putBack_2 : decode cX8_putBack 2 = .ok (.iload_n 1, 1) := by decide +kernel
theorem dX8_putBack_3 : decode cX8_putBack 3 = .ok (.bipush 71, 2) := by decide +kernel
theorem dX8_putBack_5 : decode cX8_putBack 5 = .ok (.if_icmp .ge 21, 3) := by decide +kernel
theorem dX8_putBack_8 : decode cX8_putBack 8 = .ok (.aload_n 0, 1) := by decide +kernel
theorem dX8_putBack_9 : decode cX8_putBack 9 = .ok (.getfield 7, 3) := by decide +kernel
theorem dX8_putBack_12 : decode cX8_putBack 12 = .ok (.iload_n 1, 1) := by decide +kernel
theorem dX8_putBack_13 : decode cX8_putBack 13 = .ok (.aload_n 0, 1) := by decide +kernel
theorem dX8_putBack_14 : decode cX8_putBack 14 = .ok (.getfield 16, 3) := by decide +kernel
theorem dX8_putBack_17 : decode cX8_putBack 17 = .ok (.iload_n 1, 1) := by decide +kernel
theorem dX8_putBack_18 : decode cX8_putBack 18 = .ok (.iaload, 1) := by decide +kernel
theorem dX8_putBack_19 : decode cX8_putBack 19 = .ok (.iastore, 1) := by decide +kernel
theorem dX8_putBack_20 : decode cX8_putBack 20 = .ok (.iinc 1 1, 3) := by decide +kernel
theorem dX8_putBack_23 : decode cX8_putBack 23 = .ok (.goto (-21), 3) := by decide +kernel
theorem dX8_putBack_26 : decode cX8_putBack 26 = .ok (.return_, 1) := by decide +kernel
theorem dX8_runsNow_0 : decode cX8_runsNow 0 = .ok (.aload_n 0, 1) := by decide +kernel
theorem dX8_runsNow_1 : decode cX8_runsNow 1 = .ok (.getfield 7, 3) := by decide +kernel
theorem dX8_runsNow_4 : decode cX8_runsNow 4 = .ok (.bipush 23, 2) := by decide +kernel
theorem dX8_runsNow_6 : decode cX8_runsNow 6 = .ok (.iaload, 1) := by decide +kernel
theorem dX8_runsNow_7 : decode cX8_runsNow 7 = .ok (.iconst 1, 1) := by decide +kernel
theorem dX8_runsNow_8 : decode cX8_runsNow 8 = .ok (.if_icmp .ne 20, 3) := by decide +kernel
theorem dX8_runsNow_11 : decode cX8_runsNow 11 = .ok (.aload_n 0, 1) := by decide +kernel
theorem dX8_runsNow_12 : decode cX8_runsNow 12 = .ok (.getfield 7, 3) := by decide +kernel
theorem dX8_runsNow_15 : decode cX8_runsNow 15 = .ok (.bipush 17, 2) := by decide +kernel
theorem dX8_runsNow_17 : decode cX8_runsNow 17 = .ok (.iaload, 1) := by decide +kernel
theorem dX8_runsNow_18 : decode cX8_runsNow 18 = .ok (.sipush 600, 3) := by decide +kernel
theorem dX8_runsNow_21 : decode cX8_runsNow 21 = .ok (.if_icmp .lt 7, 3) := by decide +kernel
theorem dX8_runsNow_24 : decode cX8_runsNow 24 = .ok (.iconst 1, 1) := by decide +kernel
theorem dX8_runsNow_25 : decode cX8_runsNow 25 = .ok (.goto 4, 3) := by decide +kernel
theorem dX8_runsNow_28 : decode cX8_runsNow 28 = .ok (.iconst 0, 1) := by decide +kernel
theorem dX8_runsNow_29 : decode cX8_runsNow 29 = .ok (.ireturn, 1) := by decide +kernel
theorem dX8_pushes_0 : decode cX8_pushes 0 = .ok (.aload_n 0, 1) := by decide +kernel
theorem dX8_pushes_1 : decode cX8_pushes 1 = .ok (.getfield 7, 3) := by decide +kernel
theorem dX8_pushes_4 : decode cX8_pushes 4 = .ok (.bipush 17, 2) := by decide +kernel
theorem dX8_pushes_6 : decode cX8_pushes 6 = .ok (.iaload, 1) := by decide +kernel
theorem dX8_pushes_7 : decode cX8_pushes 7 = .ok (.sipush 500, 3) := by decide +kernel
theorem dX8_pushes_10 : decode cX8_pushes 10 = .ok (.if_icmp .ge 13, 3) := by decide +kernel
theorem dX8_pushes_13 : decode cX8_pushes 13 = .ok (.aload_n 0, 1) := by decide +kernel
theorem dX8_pushes_14 : decode cX8_pushes 14 = .ok (.getfield 7, 3) := by decide +kernel
theorem dX8_pushes_17 : decode cX8_pushes 17 = .ok (.bipush 24, 2) := by decide +kernel
theorem dX8_pushes_19 : decode cX8_pushes 19 = .ok (.iaload, 1) := by decide +kernel
theorem dX8_pushes_20 : decode cX8_pushes 20 = .ok (.ifCond .ne 11, 3) := by decide +kernel
theorem dX8_pushes_23 : decode cX8_pushes 23 = .ok (.aload_n 0, 1) := by decide +kernel
theorem dX8_pushes_24 : decode cX8_pushes 24 = .ok (.getfield 7, 3) := by decide +kernel
theorem dX8_pushes_27 : decode cX8_pushes 27 = .ok (.bipush 22, 2) := by decide +kernel
theorem dX8_pushes_29 : decode cX8_pushes 29 = .ok (.iconst 0, 1) := by decide +kernel
theorem dX8_pushes_30 : decode cX8_pushes 30 = .ok (.iastore, 1) := by decide +kernel
theorem dX8_pushes_31 : decode cX8_pushes 31 = .ok (.aload_n 0, 1) := by decide +kernel
theorem dX8_pushes_32 : decode cX8_pushes 32 = .ok (.getfield 7, 3) := by decide +kernel
theorem dX8_pushes_35 : decode cX8_pushes 35 = .ok (.bipush 22, 2) := by decide +kernel
theorem dX8_pushes_37 : decode cX8_pushes 37 = .ok (.iaload, 1) := by decide +kernel
theorem dX8_pushes_38 : decode cX8_pushes 38 = .ok (.ifCond .ne 5, 3) := by decide +kernel
theorem dX8_pushes_41 : decode cX8_pushes 41 = .ok (.iconst 0, 1) := by decide +kernel
theorem dX8_pushes_42 : decode cX8_pushes 42 = .ok (.ireturn, 1) := by decide +kernel
theorem dX8_pushes_43 : decode cX8_pushes 43 = .ok (.aload_n 0, 1) := by decide +kernel
theorem dX8_pushes_44 : decode cX8_pushes 44 = .ok (.getfield 7, 3) := by decide +kernel
theorem dX8_pushes_47 : decode cX8_pushes 47 = .ok (.bipush 24, 2) := by decide +kernel
theorem dX8_pushes_49 : decode cX8_pushes 49 = .ok (.aload_n 0, 1) := by decide +kernel
theorem dX8_pushes_50 : decode cX8_pushes 50 = .ok (.getfield 7, 3) := by decide +kernel
theorem dX8_pushes_53 : decode cX8_pushes 53 = .ok (.bipush 24, 2) := by decide +kernel
theorem dX8_pushes_55 : decode cX8_pushes 55 = .ok (.iaload, 1) := by decide +kernel
theorem dX8_pushes_56 : decode cX8_pushes 56 = .ok (.bipush 6, 2) := by decide +kernel
theorem dX8_pushes_58 : decode cX8_pushes 58 = .ok (.if_icmp .ge 7, 3) := by decide +kernel
theorem dX8_pushes_61 : decode cX8_pushes 61 = .ok (.iconst 0, 1) := by decide +kernel
theorem dX8_pushes_62 : decode cX8_pushes 62 = .ok (.goto 13, 3) := by decide +kernel
theorem dX8_pushes_65 : decode cX8_pushes 65 = .ok (.aload_n 0, 1) := by decide +kernel
theorem dX8_pushes_66 : decode cX8_pushes 66 = .ok (.getfield 7, 3) := by decide +kernel
theorem dX8_pushes_69 : decode cX8_pushes 69 = .ok (.bipush 24, 2) := by decide +kernel
theorem dX8_pushes_71 : decode cX8_pushes 71 = .ok (.iaload, 1) := by decide +kernel
theorem dX8_pushes_72 : decode cX8_pushes 72 = .ok (.bipush 6, 2) := by decide +kernel
theorem dX8_pushes_74 : decode cX8_pushes 74 = .ok (.isub, 1) := by decide +kernel
theorem dX8_pushes_75 : decode cX8_pushes 75 = .ok (.iastore, 1) := by decide +kernel
theorem dX8_pushes_76 : decode cX8_pushes 76 = .ok (.aload_n 0, 1) := by decide +kernel
theorem dX8_pushes_77 : decode cX8_pushes 77 = .ok (.getfield 7, 3) := by decide +kernel
theorem dX8_pushes_80 : decode cX8_pushes 80 = .ok (.bipush 24, 2) := by decide +kernel
theorem dX8_pushes_82 : decode cX8_pushes 82 = .ok (.iaload, 1) := by decide +kernel
theorem dX8_pushes_83 : decode cX8_pushes 83 = .ok (.sipush 200, 3) := by decide +kernel
theorem dX8_pushes_86 : decode cX8_pushes 86 = .ok (.if_icmp .lt 12, 3) := by decide +kernel
theorem dX8_pushes_89 : decode cX8_pushes 89 = .ok (.aload_n 0, 1) := by decide +kernel
theorem dX8_pushes_90 : decode cX8_pushes 90 = .ok (.getfield 7, 3) := by decide +kernel
theorem dX8_pushes_93 : decode cX8_pushes 93 = .ok (.iconst 0, 1) := by decide +kernel
theorem dX8_pushes_94 : decode cX8_pushes 94 = .ok (.iaload, 1) := by decide +kernel
theorem dX8_pushes_95 : decode cX8_pushes 95 = .ok (.goto 21, 3) := by decide +kernel
theorem dX8_pushes_98 : decode cX8_pushes 98 = .ok (.aload_n 0, 1) := by decide +kernel
theorem dX8_pushes_99 : decode cX8_pushes 99 = .ok (.getfield 7, 3) := by decide +kernel
theorem dX8_pushes_102 : decode cX8_pushes 102 = .ok (.iconst 0, 1) := by decide +kernel
theorem dX8_pushes_103 : decode cX8_pushes 103 = .ok (.iaload, 1) := by decide +kernel
theorem dX8_pushes_104 : decode cX8_pushes 104 = .ok (.aload_n 0, 1) := by decide +kernel
theorem dX8_pushes_105 : decode cX8_pushes 105 = .ok (.getfield 7, 3) := by decide +kernel
theorem dX8_pushes_108 : decode cX8_pushes 108 = .ok (.bipush 24, 2) := by decide +kernel
theorem dX8_pushes_110 : decode cX8_pushes 110 = .ok (.iaload, 1) := by decide +kernel
theorem dX8_pushes_111 : decode cX8_pushes 111 = .ok (.imul, 1) := by decide +kernel
theorem dX8_pushes_112 : decode cX8_pushes 112 = .ok (.sipush 200, 3) := by decide +kernel
theorem dX8_pushes_115 : decode cX8_pushes 115 = .ok (.idiv, 1) := by decide +kernel
theorem dX8_pushes_116 : decode cX8_pushes 116 = .ok (.ireturn, 1) := by decide +kernel
set_option maxRecDepth 20000 in
theorem ggX8_flames_X8_in : GoodIn wsX8_flames wsX8_in := goodIn_r _ [5] (by decide +kernel) (by decide +kernel)
set_option maxRecDepth 20000 in
theorem gX8_flames_X8_in : GoodIn wsX8_flames (va_wsS RX8 40 yX8_in wsX8_in) := goodIn_app (goodIn_of _ (by decide +kernel)) ggX8_flames_X8_in
theorem dX8_flames_0 : decode cX8_flames 0 = .ok (.aload_n 0, 1) := by decide +kernel
theorem dX8_flames_1 : decode cX8_flames 1 = .ok (.getfield 7, 3) := by decide +kernel
theorem dX8_flames_4 : decode cX8_flames 4 = .ok (.bipush 23, 2) := by decide +kernel
theorem dX8_flames_6 : decode cX8_flames 6 = .ok (.iaload, 1) := by decide +kernel
theorem dX8_flames_7 : decode cX8_flames 7 = .ok (.ifCond .ne 125, 3) := by decide +kernel
theorem dX8_flames_10 : decode cX8_flames 10 = .ok (.aload_n 0, 1) := by decide +kernel
theorem dX8_flames_11 : decode cX8_flames 11 = .ok (.getfield 7, 3) := by decide +kernel
theorem dX8_flames_14 : decode cX8_flames 14 = .ok (.bipush 20, 2) := by decide +kernel
theorem dX8_flames_16 : decode cX8_flames 16 = .ok (.aload_n 0, 1) := by decide +kernel
theorem dX8_flames_17 : decode cX8_flames 17 = .ok (.getfield 7, 3) := by decide +kernel
theorem dX8_flames_20 : decode cX8_flames 20 = .ok (.bipush 20, 2) := by decide +kernel
theorem dX8_flames_22 : decode cX8_flames 22 = .ok (.iaload, 1) := by decide +kernel
theorem dX8_flames_23 : decode cX8_flames 23 = .ok (.aload_n 0, 1) := by decide +kernel
theorem dX8_flames_24 : decode cX8_flames 24 = .ok (.getfield 7, 3) := by decide +kernel
theorem dX8_flames_27 : decode cX8_flames 27 = .ok (.bipush 19, 2) := by decide +kernel
theorem dX8_flames_29 : decode cX8_flames 29 = .ok (.iaload, 1) := by decide +kernel
theorem dX8_flames_30 : decode cX8_flames 30 = .ok (.iadd, 1) := by decide +kernel
theorem dX8_flames_31 : decode cX8_flames 31 = .ok (.bipush 100, 2) := by decide +kernel
theorem dX8_flames_33 : decode cX8_flames 33 = .ok (.if_icmp .le 8, 3) := by decide +kernel
theorem dX8_flames_36 : decode cX8_flames 36 = .ok (.bipush 100, 2) := by decide +kernel
theorem dX8_flames_38 : decode cX8_flames 38 = .ok (.goto 18, 3) := by decide +kernel
theorem dX8_flames_41 : decode cX8_flames 41 = .ok (.aload_n 0, 1) := by decide +kernel
theorem dX8_flames_42 : decode cX8_flames 42 = .ok (.getfield 7, 3) := by decide +kernel
theorem dX8_flames_45 : decode cX8_flames 45 = .ok (.bipush 20, 2) := by decide +kernel
theorem dX8_flames_47 : decode cX8_flames 47 = .ok (.iaload, 1) := by decide +kernel
theorem dX8_flames_48 : decode cX8_flames 48 = .ok (.aload_n 0, 1) := by decide +kernel
theorem dX8_flames_49 : decode cX8_flames 49 = .ok (.getfield 7, 3) := by decide +kernel
theorem dX8_flames_52 : decode cX8_flames 52 = .ok (.bipush 19, 2) := by decide +kernel
theorem dX8_flames_54 : decode cX8_flames 54 = .ok (.iaload, 1) := by decide +kernel
theorem dX8_flames_55 : decode cX8_flames 55 = .ok (.iadd, 1) := by decide +kernel
theorem dX8_flames_56 : decode cX8_flames 56 = .ok (.iastore, 1) := by decide +kernel
theorem dX8_flames_57 : decode cX8_flames 57 = .ok (.aload_n 0, 1) := by decide +kernel
theorem dX8_flames_58 : decode cX8_flames 58 = .ok (.getfield 7, 3) := by decide +kernel
theorem dX8_flames_61 : decode cX8_flames 61 = .ok (.bipush 23, 2) := by decide +kernel
theorem dX8_flames_63 : decode cX8_flames 63 = .ok (.aload_n 0, 1) := by decide +kernel
theorem dX8_flames_64 : decode cX8_flames 64 = .ok (.getfield 7, 3) := by decide +kernel
theorem dX8_flames_67 : decode cX8_flames 67 = .ok (.bipush 21, 2) := by decide +kernel
theorem dX8_flames_69 : decode cX8_flames 69 = .ok (.iaload, 1) := by decide +kernel
theorem dX8_flames_70 : decode cX8_flames 70 = .ok (.iconst 1, 1) := by decide +kernel
theorem dX8_flames_71 : decode cX8_flames 71 = .ok (.if_icmp .ne 39, 3) := by decide +kernel
theorem dX8_flames_74 : decode cX8_flames 74 = .ok (.aload_n 0, 1) := by decide +kernel
theorem dX8_flames_75 : decode cX8_flames 75 = .ok (.getfield 7, 3) := by decide +kernel
theorem dX8_flames_78 : decode cX8_flames 78 = .ok (.bipush 20, 2) := by decide +kernel
theorem dX8_flames_80 : decode cX8_flames 80 = .ok (.iaload, 1) := by decide +kernel
theorem dX8_flames_81 : decode cX8_flames 81 = .ok (.ifCond .le 29, 3) := by decide +kernel
theorem dX8_flames_84 : decode cX8_flames 84 = .ok (.aload_n 0, 1) := by decide +kernel
theorem dX8_flames_85 : decode cX8_flames 85 = .ok (.getfield 7, 3) := by decide +kernel
theorem dX8_flames_88 : decode cX8_flames 88 = .ok (.bipush 17, 2) := by decide +kernel
theorem dX8_flames_90 : decode cX8_flames 90 = .ok (.iaload, 1) := by decide +kernel
theorem dX8_flames_91 : decode cX8_flames 91 = .ok (.aload_n 0, 1) := by decide +kernel
theorem dX8_flames_92 : decode cX8_flames 92 = .ok (.getfield 7, 3) := by decide +kernel
theorem dX8_flames_95 : decode cX8_flames 95 = .ok (.iconst 5, 1) := by decide +kernel
theorem dX8_flames_96 : decode cX8_flames 96 = .ok (.iaload, 1) := by decide +kernel
end
section
/-! blocks of cells, and contracts over them: a method's world is a list of blocks, each a list of cells -/
def jtys (y : Nat → ClassId) : List (ClassId × FieldType) := [(y 0, .int), (y 1, .boolean), (y 2, .char), (y 3, .object "JetStarts$State")]
def jNestOk : Cond → Bool
  | .fieldLinkNest _ _ _ _ _ _ => true
  | .methodLinkNest _ _ _ _ => true
  | _ => false
def jNests : List Cond := [
  .methodLinkNest RX7 9 yX5_init RX7,
  .methodLinkNest RX5 11 yX1_init RX7,
  .fieldLinkNest RX1 19 "JetStarts" "FIRST_SETTINGS" "[I" RX7,
  .fieldLinkNest RX7 56 "JetStarts$Engine" "settings" "[I" RX7,
  .fieldLinkNest RX0 52 "JetStarts$Engine" "settings" "[I" RX7,
  .fieldLinkNest RX0 39 "JetStarts$Engine" "speed" "I" RX7,
  .fieldLinkNest RX5 64 "JetStarts$Engine" "speed" "I" RX7,
  .fieldLinkNest RX7 94 "JetStarts$Engine" "speed" "I" RX7,
  .fieldLinkNest RX0 28 "JetStarts$Engine" "heat" "I" RX7,
  .fieldLinkNest RX6 54 "JetStarts$Engine" "heat" "I" RX7,
  .fieldLinkNest RX7 119 "JetStarts$Engine" "heat" "I" RX7,
  .fieldLinkNest RX7 80 "JetStarts$Engine" "step" "I" RX7,
  .fieldLinkNest RX7 77 "JetStarts$Engine" "pool" "I" RX7,
  .fieldLinkNest RX7 69 "JetStarts$Engine" "battery" "I" RX7,
  .fieldLinkNest RX5 61 "JetStarts$Engine" "battery" "I" RX7,
  .fieldLinkNest RX7 73 "JetStarts$Engine" "hasSpark" "Z" RX7,
  .fieldLinkNest RX5 57 "JetStarts$Engine" "isCranking" "Z" RX7,
  .fieldLinkNest RX7 126 "JetStarts$Engine" "isCranking" "Z" RX7,
  .fieldLinkNest RX6 50 "JetStarts$Engine" "hasFlame" "Z" RX7,
  .fieldLinkNest RX0 49 "JetStarts$Engine" "hasFlame" "Z" RX7,
  .fieldLinkNest RX7 83 "JetStarts$Engine" "hasFlame" "Z" RX7,
  .fieldLinkNest RX5 77 "JetStarts$Engine" "hasFlame" "Z" RX7,
  .methodLinkNest RX5 20 yX0_init RX7,
  .fieldLinkNest RX5 67 "JetStarts$Attempt" "isUnderWay" "Z" RX7,
  .fieldLinkNest RX7 137 "JetStarts$Attempt" "isUnderWay" "Z" RX7,
  .fieldLinkNest RX3 25 "JetStarts$Attempt" "ticks" "I" RX7,
  .fieldLinkNest RX3 30 "JetStarts$Attempt" "greatestHeat" "I" RX7,
  .fieldLinkNest RX3 33 "JetStarts$Attempt" "firstBattery" "I" RX7,
  .fieldLinkNest RX7 142 "JetStarts$Attempt" "stalledTicks" "I" RX7,
  .methodLinkNest RX5 27 yX3_init RX7,
  .methodLinkNest RX5 34 yX6_init RX7,
  .fieldLinkNest RX7 162 "JetStarts$Tally" "endings" "[I" RX7,
  .fieldLinkNest RX7 167 "JetStarts$Tally" "hotTicks" "I" RX7,
  .fieldLinkNest RX7 170 "JetStarts$Tally" "runningTicks" "I" RX7,
  .fieldLinkNest RX7 173 "JetStarts$Tally" "newFlames" "I" RX7,
  .fieldLinkNest RX7 176 "JetStarts$Tally" "lostFlames" "I" RX7,
  .fieldLinkNest RX7 179 "JetStarts$Tally" "greatestHeat" "I" RX7,
  .fieldLinkNest RX7 52 "JetStarts$State" "jet" "LJetStarts$Engine;" RX7,
  .fieldLinkNest RX7 133 "JetStarts$State" "attempt" "LJetStarts$Attempt;" RX7,
  .fieldLinkNest RX7 147 "JetStarts$State" "log" "LJetStarts$Log;" RX7,
  .fieldLinkNest RX7 155 "JetStarts$State" "tally" "LJetStarts$Tally;" RX7,
  .fieldLinkNest RX7 159 "JetStarts$State" "ticks" "I" RX7,
  .methodLinkNest RX7 21 yX2_init RX7,
  .methodLinkNest RX2 17 yX5_init RX7,
  .fieldLinkNest RX7 182 "JetStarts$History" "kept" "I" RX7,
  .methodLinkNest RX7 36 yX4_init RX7,
  .fieldLinkNest RX7 101 "JetStarts$Pad" "length" "I" RX7,
  .methodLinkNest RX7 48 yX2_keep RX7,
  .methodLinkNest RX2 25 yX5_copyFrom RX7,
  .methodLinkNest RX5 39 yX1_copyFrom RX7,
  .methodLinkNest RX5 43 yX0_copyFrom RX7,
  .methodLinkNest RX5 46 yX3_copyFrom RX7,
  .methodLinkNest RX5 49 yX6_copyFrom RX7,
  .methodLinkNest RX7 61 yX5_canTurnStarter RX7,
  .methodLinkNest RX7 65 yX5_turnStarter RX7,
  .methodLinkNest RX5 70 yX0_begin RX7,
  .methodLinkNest RX7 86 yX5_hasRoomFor RX7,
  .methodLinkNest RX7 90 yX5_passTicks RX7,
  .methodLinkNest RX5 80 yX1_passTick RX7,
  .methodLinkNest RX5 81 yX6_addTick RX7,
  .methodLinkNest RX6 37 yX1_isHot RX7,
  .methodLinkNest RX6 43 yX7_oneIf RX7,
  .methodLinkNest RX6 47 yX1_runs RX7,
  .methodLinkNest RX5 85 yX0_addTick RX7,
  .methodLinkNest RX5 91 yX0_endingWith RX7,
  .methodLinkNest RX0 42 yX1_isHot RX7,
  .methodLinkNest RX0 46 yX1_runs RX7,
  .methodLinkNest RX0 56 yX1_isSpent RX7,
  .methodLinkNest RX5 95 yX3_add RX7,
  .methodLinkNest RX5 99 yX6_addEnding RX7,
  .methodLinkNest RX7 97 yX4_firstFault RX7,
  .methodLinkNest RX7 104 yX4_beginsDeed RX7,
  .methodLinkNest RX7 107 yX4_signAt RX7,
  .methodLinkNest RX7 111 yX4_numberFrom RX7,
  .methodLinkNest RX7 129 yX1_runs RX7,
  .methodLinkNest RX7 151 yX3_numberOf RX7,
  .methodLinkNest RX7 185 yX5_copyFrom RX7,
  .methodLinkNest RX7 188 yX5_passTicksUntilRunning RX7,
  .methodLinkNest RX5 102 yX1_isHot RX7,
  .methodLinkNest RX5 106 yX1_runs RX7,
  .methodLinkNest RX5 109 yX1_isSpent RX7,
  .methodLinkNest RX7 191 yX6_forgetHeat RX7,
  .methodLinkNest RX7 194 yX4_charactersIn RX7,
  .methodLinkNest RX7 198 yX4_append RX7,
  .methodLinkNest RX7 202 yX2_takeLatest RX7]
theorem jNests_ok : jNests.all jNestOk = true := by decide +kernel
def jN (U : State) : Prop := ∀ w ∈ jNests, va_Nw w U
theorem jN.warm {s U : State} (hW : s.WarmedH U.vm) (h : jN s) : jN U := by
  intro w hw
  have h1 := List.all_eq_true.mp jNests_ok w hw
  have h2 := h w hw
  cases w <;> first | exact va_Nw.warmF hW h2 | exact va_Nw.warmM hW h2 | cases h1
theorem jN.same {u U : State} (e : u.vm = U.vm) (h : jN u) : jN U := by
  intro w hw
  have h1 := List.all_eq_true.mp jNests_ok w hw
  have h2 := h w hw
  cases w <;> first | exact va_Nw.same rfl e h2 | cases h1
/-- what a method stands on beside its words: the classes' places, the arrays' classes, the nest's links -/
def jE (D : va_G) (y : Nat → ClassId) (U : State) : Prop := va_K D vwCl (jtys y) U ∧ jN U
theorem jE.warm {D : va_G} {y : Nat → ClassId} {s U : State} (hW : s.WarmedH U.vm) (h : jE D y s) : jE D y U := ⟨va_K.moved hW.alike h.1, h.2.warm hW⟩
theorem jE.calling {D : va_G} {y : Nat → ClassId} {U : State} (g : JFrame) (mk : MethodId) (a : Array Value) (h : jE D y U) : jE D y (U.calling g mk a) := ⟨va_K.moved (u := U) (U := U.calling g mk a) (Vm.Alike.refl U.vm) h.1, jN.same (u := U) (U := U.calling g mk a) rfl h.2⟩
/-! cells and addresses -/
theorem jP_iff {D : va_G} {cl : List vw_C} {ws : va_W} {H : Heap} : va_P D cl ws H ↔ ∀ q ∈ ws, va_at D cl q H :=
  ⟨fun h q hq => by obtain ⟨k, hk⟩ := List.getElem?_of_mem hq; exact h k q hk, fun h _ q hk => h q (List.mem_of_getElem? hk)⟩
theorem jD_iff {A : Nat → Prop} {ws : va_W} : va_D A ws ↔ (ws.map Prod.fst).Pairwise (fun a b => a ≠ b) ∧ ∀ a ∈ ws.map Prod.fst, A a := by
  constructor
  · intro h
    refine ⟨?_, ?_⟩
    · rw [List.pairwise_map, List.pairwise_iff_getElem]
      intro i j hi hj hij e
      have := h.1 i j ws[i] ws[j] (List.getElem?_eq_getElem hi) (List.getElem?_eq_getElem hj) e
      omega
    · intro a ha
      obtain ⟨q, hq, rfl⟩ := List.mem_map.mp ha
      obtain ⟨k, hk⟩ := List.getElem?_of_mem hq
      exact h.2 k q hk
  · rintro ⟨h1, h2⟩
    rw [List.pairwise_map, List.pairwise_iff_getElem] at h1
    refine ⟨?_, ?_⟩
    · intro i j p q hi hj e
      obtain ⟨li, ei⟩ := List.getElem?_eq_some_iff.mp hi
      obtain ⟨lj, ej⟩ := List.getElem?_eq_some_iff.mp hj
      subst ei; subst ej
      rcases Nat.lt_trichotomy i j with g | g | g
      · exact absurd e (h1 i j li lj g)
      · exact g
      · exact absurd e.symm (h1 j i lj li g)
    · intro k q hk
      exact h2 q.1 (List.mem_map.mpr ⟨q, List.mem_of_getElem? hk, rfl⟩)
theorem jD_re {A : Nat → Prop} {ws ws' : va_W} (h : va_D A ws) (e : ws'.map Prod.fst = ws.map Prod.fst) : va_D A ws' := by
  rw [jD_iff] at h ⊢
  rw [e]
  exact h
theorem jFst (bs : List va_W) : bs.flatten.map Prod.fst = (bs.map (List.map Prod.fst)).flatten := List.map_flatten
theorem jD_reB {A : Nat → Prop} {bs bs' : List va_W} (h : va_D A bs.flatten) (e : bs'.map (List.map Prod.fst) = bs.map (List.map Prod.fst)) : va_D A bs'.flatten :=
  jD_re h (by rw [jFst, jFst, e])
theorem jB {D : va_G} {cl : List vw_C} {bs : List va_W} {H : Heap} (h : va_P D cl bs.flatten H) {k : Nat} {w : va_W} (hk : bs[k]? = some w) : va_P D cl w H :=
  jP_iff.mpr fun q hq => jP_iff.mp h q (List.mem_flatten.mpr ⟨w, List.mem_of_getElem? hk, hq⟩)
/-- two blocks are apart -/
theorem jApart {A : Nat → Prop} {bs : List va_W} (h : va_D A bs.flatten) {i j : Nat} {u w : va_W} (hi : bs[i]? = some u) (hj : bs[j]? = some w) (hij : i ≠ j) {p q : Nat × va_E} (hp : p ∈ u) (hq : q ∈ w) : p.1 ≠ q.1 := by
  have h1 := (jD_iff.mp h).1
  rw [List.pairwise_map, List.pairwise_flatten] at h1
  have h2 := List.pairwise_iff_getElem.mp h1.2
  obtain ⟨li, ei⟩ := List.getElem?_eq_some_iff.mp hi
  obtain ⟨lj, ej⟩ := List.getElem?_eq_some_iff.mp hj
  subst ei; subst ej
  rcases Nat.lt_or_gt_of_ne hij with g | g
  · exact h2 i j li lj g p hp q hq
  · exact fun e => h2 j i lj li g q hq p hp e.symm
def jOff : List va_W → Nat → Nat
  | [], _ => 0
  | _, 0 => 0
  | w :: bs, k + 1 => w.length + jOff bs k
theorem jOff_get {w : va_W} {x : Nat × va_E} {i : Nat} : ∀ {bs : List va_W} {k : Nat}, bs[k]? = some w → w[i]? = some x → bs.flatten[jOff bs k + i]? = some x
  | [], k, h, _ => by simp at h
  | u :: bs, 0, h, hx => by
    simp only [List.getElem?_cons_zero, Option.some.injEq] at h
    subst h
    have hl := (List.getElem?_eq_some_iff.mp hx).1
    simp only [jOff, List.flatten_cons, Nat.zero_add]
    rw [List.getElem?_append_left hl]
    exact hx
  | u :: bs, k + 1, h, hx => by
    simp only [List.getElem?_cons_succ] at h
    have ih := jOff_get (bs := bs) (k := k) h hx
    simp only [jOff, List.flatten_cons]
    rw [List.getElem?_append_right (by omega)]
    rw [← ih]
    congr 1
    omega
theorem jOff_set {w : va_W} {x : Nat × va_E} {i : Nat} (hi : i < w.length) : ∀ {bs : List va_W} {k : Nat}, bs[k]? = some w → bs.flatten.set (jOff bs k + i) x = (bs.set k (w.set i x)).flatten
  | [], k, h => by simp at h
  | u :: bs, 0, h => by
    simp only [List.getElem?_cons_zero, Option.some.injEq] at h
    subst h
    simp only [jOff, List.flatten_cons, Nat.zero_add, List.set_cons_zero]
    rw [List.set_append_left _ _ hi]
  | u :: bs, k + 1, h => by
    simp only [List.getElem?_cons_succ] at h
    have ih := jOff_set (x := x) hi (bs := bs) (k := k) h
    simp only [jOff, List.flatten_cons, List.set_cons_succ]
    rw [List.set_append_right _ _ (by omega), ← ih]
    congr 2
    omega
def jPutA : List Nat → List va_W → List va_W → List va_W
  | [], _, bs => bs
  | i :: is, cs, bs => match cs with
    | [] => bs
    | x :: xs => jPutA is xs (bs.set i x)
def jPut (bs : List va_W) (is : List Nat) (cs : List va_W) : List va_W := jPutA is cs bs
theorem jPut_get {k : Nat} {w : va_W} : ∀ {is : List Nat} {bs cs : List va_W}, is.length = cs.length → (jPut bs is cs)[k]? = some w → (w ∈ cs) ∨ (bs[k]? = some w ∧ k ∉ is)
  | [], bs, cs, _, h => Or.inr ⟨h, List.not_mem_nil⟩
  | i :: is, bs, [], hl, _ => by simp at hl
  | i :: is, bs, x :: xs, hl, h => by
    have h' : (jPut (bs.set i x) is xs)[k]? = some w := h
    rcases jPut_get (by simpa using hl) h' with g | ⟨g, g2⟩
    · exact Or.inl (List.mem_cons_of_mem _ g)
    · by_cases e : i = k
      · subst e
        have hlen := (List.getElem?_eq_some_iff.mp g).1
        rw [List.getElem?_set_self (by simpa using hlen)] at g
        cases g
        exact Or.inl List.mem_cons_self
      · rw [List.getElem?_set_ne e] at g
        exact Or.inr ⟨g, fun z => (List.mem_cons.mp z).elim (fun z => e z.symm) g2⟩
theorem jPut_fst (F : va_W → List Nat) : ∀ {is : List Nat} {bs cs : List va_W}, is.map (fun i => (bs.map F)[i]?) = cs.map (fun x => some (F x)) → (jPut bs is cs).map F = bs.map F
  | [], bs, cs, _ => rfl
  | i :: is, bs, [], h => by simp at h
  | i :: is, bs, x :: xs, h => by
    simp only [List.map_cons, List.cons.injEq] at h
    have e : (bs.set i x).map F = bs.map F := by
      apply List.ext_getElem?
      intro k
      rw [List.map_set]
      by_cases g : i = k
      · subst g
        have hlen := (List.getElem?_eq_some_iff.mp h.1).1
        rw [List.getElem?_set_self hlen, h.1]
      · rw [List.getElem?_set_ne g]
    show (jPut (bs.set i x) is xs).map F = bs.map F
    rw [jPut_fst F (is := is) (bs := bs.set i x) (cs := xs) (by rw [e]; exact h.2), e]
theorem jSubP {D : va_G} {cl : List vw_C} {bs cs : List va_W} {H : Heap} (h : va_P D cl bs.flatten H) {is : List Nat} (hC : is.map (fun i => bs[i]?) = cs.map some) : va_P D cl cs.flatten H := by
  refine jP_iff.mpr fun q hq => ?_
  obtain ⟨w, hw, hqw⟩ := List.mem_flatten.mp hq
  have : some w ∈ cs.map some := List.mem_map.mpr ⟨w, hw, rfl⟩
  rw [← hC] at this
  obtain ⟨i, -, hi⟩ := List.mem_map.mp this
  exact jP_iff.mp (jB h hi) q hqw
theorem jSubD {A : Nat → Prop} {bs : List va_W} (h : va_D A bs.flatten) : ∀ {is : List Nat} {cs : List va_W}, is.map (fun i => bs[i]?) = cs.map some → va_nd is = true → va_D A cs.flatten := by
  intro is cs hC hn
  rw [jD_iff]
  have hh := jD_iff.mp h
  have h1 := hh.1
  rw [List.pairwise_map, List.pairwise_flatten] at h1
  have get : ∀ (j : Nat) (w : va_W), cs[j]? = some w → ∃ i, is[j]? = some i ∧ bs[i]? = some w := by
    intro j w hj
    have e := congrArg (fun l => l[j]?) hC
    simp only [List.getElem?_map, hj, Option.map_some] at e
    cases hi : is[j]? with
    | none => rw [hi] at e; simp at e
    | some i => rw [hi] at e; simp at e; exact ⟨i, rfl, e⟩
  refine ⟨?_, ?_⟩
  · rw [List.pairwise_map, List.pairwise_flatten]
    refine ⟨fun w hw => ?_, ?_⟩
    · obtain ⟨j, hj⟩ := List.getElem?_of_mem hw
      obtain ⟨i, -, hi⟩ := get j w hj
      exact h1.1 w (List.mem_of_getElem? hi)
    · rw [List.pairwise_iff_getElem]
      intro j k hj hk hjk p hp q hq
      obtain ⟨i1, a1, b1⟩ := get j cs[j] (List.getElem?_eq_getElem hj)
      obtain ⟨i2, a2, b2⟩ := get k cs[k] (List.getElem?_eq_getElem hk)
      have hne : i1 ≠ i2 := fun e => by
        subst e
        have := va_nd_inj is hn j k i1 a1 a2
        omega
      exact jApart h b1 b2 hne hp hq
  · intro a ha
    obtain ⟨q, hq, rfl⟩ := List.mem_map.mp ha
    obtain ⟨w, hw, hqw⟩ := List.mem_flatten.mp hq
    obtain ⟨j, hj⟩ := List.getElem?_of_mem hw
    obtain ⟨i, -, hi⟩ := get j w hj
    exact hh.2 q.1 (List.mem_map.mpr ⟨q, List.mem_flatten.mpr ⟨w, List.mem_of_getElem? hi, hqw⟩, rfl⟩)
theorem jHC {bs cs cs' : List va_W} {is : List Nat} (hC : is.map (fun i => bs[i]?) = cs.map some) (hf : cs'.map (List.map Prod.fst) = cs.map (List.map Prod.fst)) : is.map (fun i => (bs.map (List.map Prod.fst))[i]?) = cs'.map (fun x => some (List.map Prod.fst x)) := by
  have e1 : is.map (fun i => (bs.map (List.map Prod.fst))[i]?) = (is.map (fun i => bs[i]?)).map (Option.map (List.map Prod.fst)) := by
    rw [List.map_map]
    exact List.map_congr_left fun i _ => by simp [List.getElem?_map]
  have e2 : cs'.map (fun x => some (List.map Prod.fst x)) = (cs'.map (List.map Prod.fst)).map some := by
    rw [List.map_map]; rfl
  rw [e1, hC, e2, hf, List.map_map, List.map_map]
  rfl
theorem jJoin {A0 : Nat → Prop} {D : va_G} {bs cs cs' : List va_W} {H H1 : Heap} (hP : va_P D vwCl bs.flatten H) (hD : va_D A0 bs.flatten) {is : List Nat} (hC : is.map (fun i => bs[i]?) = cs.map some) (hf : cs'.map (List.map Prod.fst) = cs.map (List.map Prod.fst)) (hP1 : va_P D vwCl cs'.flatten H1) (hk : ∀ q, q < H.size → ¬ va_A cs.flatten H.size q → H1[q]? = H[q]?) : va_P D vwCl (jPut bs is cs').flatten H1 ∧ va_D A0 (jPut bs is cs').flatten := by
  have hHC := jHC hC hf
  have hlen : is.length = cs'.length := by
    have := congrArg List.length hHC
    simpa using this
  refine ⟨jP_iff.mpr fun q hq => ?_, jD_reB hD (jPut_fst _ hHC)⟩
  obtain ⟨w, hw, hqw⟩ := List.mem_flatten.mp hq
  obtain ⟨k, hk2⟩ := List.getElem?_of_mem hw
  rcases jPut_get hlen hk2 with g | ⟨g, g2⟩
  · exact jP_iff.mp hP1 q (List.mem_flatten.mpr ⟨w, g, hqw⟩)
  · have h0 := jP_iff.mp (jB hP g) q hqw
    refine h0.kept (hk q.1 h0.lt ?_)
    rintro (⟨k3, e, he⟩ | h)
    · obtain ⟨w3, hw3, hqw3⟩ := List.mem_flatten.mp (List.mem_of_getElem? he)
      have : some w3 ∈ cs.map some := List.mem_map.mpr ⟨w3, hw3, rfl⟩
      rw [← hC] at this
      obtain ⟨i, hi1, hi2⟩ := List.mem_map.mp this
      exact jApart hD g hi2 (fun e => g2 (e ▸ hi1)) hqw hqw3 rfl
    · exact absurd h0.lt (Nat.not_lt.mpr h)
theorem jFree {A0 : Nat → Prop} {bs cs : List va_W} {H0 H : Heap} {locs : List Loc} (hD : va_D A0 bs.flatten) (hS : va_S A0 H0 H locs) (hA : ∀ q, H0.size ≤ q → A0 q) {is : List Nat} (hC : is.map (fun i => bs[i]?) = cs.map some) : ∀ q, va_A cs.flatten H.size q → A0 q := by
  rintro q (⟨k, e, he⟩ | h)
  · obtain ⟨w3, hw3, hqw3⟩ := List.mem_flatten.mp (List.mem_of_getElem? he)
    have : some w3 ∈ cs.map some := List.mem_map.mpr ⟨w3, hw3, rfl⟩
    rw [← hC] at this
    obtain ⟨i, -, hi⟩ := List.mem_map.mp this
    exact (jD_iff.mp hD).2 q (List.mem_map.mpr ⟨(q, e), List.mem_flatten.mpr ⟨w3, List.mem_of_getElem? hi, hqw3⟩, rfl⟩)
  · exact hA q (Nat.le_trans hS.1 h)
/-! an array's cell speaks of its own places alone -/
theorem jArrV {cI : ClassId} {n : Nat} {f g : Nat → Value} (h : ∀ j, j < n → f j = g j) : arrV cI n f = arrV cI n g := by
  unfold arrV
  congr 1
  congr 1
  funext j
  exact h j.val j.isLt
theorem jAt_congr {D : va_G} {cl : List vw_C} {a n : Nat} {cA : ClassId} {f g : Nat → Int32} {H : Heap} (h : va_at D cl (a, .inl (cA, n, .inl f)) H) (e : ∀ j, j < n → f j = g j) : va_at D cl (a, .inl (cA, n, .inl g)) H := by
  show H[a]? = some (vp_cell cA (n, .inl g))
  have h' : H[a]? = some (vp_cell cA (n, .inl f)) := h
  rw [h', vp_cell_i, vp_cell_i, jArrV (fun j hj => by rw [e j hj])]
theorem jCongr {D : va_G} {cl : List vw_C} {bs : List va_W} {H : Heap} (h : va_P D cl bs.flatten H) {k i : Nat} {w : va_W} {a n : Nat} {cA : ClassId} {f g : Nat → Int32} (hk : bs[k]? = some w) (hi : w[i]? = some (a, .inl (cA, n, .inl f))) (e : ∀ j, j < n → f j = g j) : va_P D cl (bs.set k (w.set i (a, .inl (cA, n, .inl g)))).flatten H := by
  have hl := (List.getElem?_eq_some_iff.mp hi).1
  rw [← jOff_set hl hk]
  intro k2 q hq
  by_cases g2 : jOff bs k + i = k2
  · subst g2
    have hlen := (List.getElem?_eq_some_iff.mp hq).1
    rw [List.getElem?_set_self (by simpa using hlen)] at hq
    cases hq
    exact jAt_congr (h _ _ (jOff_get hk hi)) e
  · rw [List.getElem?_set_ne g2] at hq
    exact h k2 q hq
end
section
/-! contracts over blocks: jI a method that answers an int (or boolean, char), jV one that answers nothing; neither makes a cell -/
def fstS : Nat → Int32 := fun j => match j with
  | 0 => 14
  | 1 => 4
  | 2 => 12
  | 3 => 8
  | 4 => 900
  | 5 => 120
  | _ => 12
def lstS : Nat → Int32 := fun j => match j with
  | 0 => 1
  | 1 => 1
  | 2 => 1
  | 3 => 1
  | 4 => 300
  | 5 => 20
  | _ => 2
def mstS : Nat → Int32 := fun j => match j with
  | 0 => 40
  | 1 => 20
  | 2 => 40
  | 3 => 40
  | 4 => 1500
  | 5 => 400
  | _ => 40
/-- a static row of seven numbers of the class -/
def jZ1 (nm : String) (f : Nat → Int32) (A : Nat → Prop) (U : State) (H : Heap) : Prop := ∃ t : Nat, va_Z "JetStarts" nm "[I" (.ref t) A U H ∧ va_T .int t 7 (fun j => .int (f j)) A U H
theorem jZ1.step {nm : String} {f : Nat → Int32} {A B : Nat → Prop} {s U : State} {H0 H : Heap} (h : jZ1 nm f A s H0) (hvm : s.vm.Alike U.vm) (hk : ∀ a : Nat, a < H0.size → ¬ A a → H[a]? = H0[a]?) (hAB : ∀ q, B q → A q) : jZ1 nm f B U H := by
  obtain ⟨t, h1, h2⟩ := h
  exact ⟨t, ((va_Z.moved hvm h1).kept hk).narrow hAB, ((va_T.moved hvm h2).kept hk).narrow hAB⟩
def jZ (A : Nat → Prop) (U : State) (H : Heap) : Prop := jZ1 "FIRST_SETTINGS" fstS A U H ∧ jZ1 "LEAST_SETTINGS" lstS A U H ∧ jZ1 "MOST_SETTINGS" mstS A U H
theorem jZ.step {A B : Nat → Prop} {s U : State} {H0 H : Heap} (h : jZ A s H0) (hvm : s.vm.Alike U.vm) (hk : ∀ a : Nat, a < H0.size → ¬ A a → H[a]? = H0[a]?) (hAB : ∀ q, B q → A q) : jZ B U H := ⟨h.1.step hvm hk hAB, h.2.1.step hvm hk hAB, h.2.2.step hvm hk hAB⟩
def jPre (D : va_G) (y : Nat → ClassId) (As : List Value) (cs : List va_W) (sz : Nat) : Array Value → State → Prop := fun a U => a = As.toArray ∧ U.heap.size = sz ∧ va_P D vwCl cs.flatten U.heap ∧ jE D y U ∧ va_D (fun _ => True) cs.flatten ∧ jZ (va_A cs.flatten sz) U U.heap
theorem jPre.blind {D : va_G} {y : Nat → ClassId} {As : List Value} {cs : List va_W} {sz : Nat} : FrameBlind (jPre D y As cs sz) := fun a _ g mk q => ⟨q.1, q.2.1, q.2.2.1, q.2.2.2.1.calling g mk a, q.2.2.2.2.1, q.2.2.2.2.2.step (Vm.Alike.refl _) (fun _ _ _ => rfl) (fun _ h => h)⟩
theorem jPre.here {D : va_G} {y : Nat → ClassId} {As : List Value} {cs : List va_W} {A : Nat → Prop} {s : State} {H : Heap} {locs : List Loc} (hE : jE D y s) (hZ : jZ A s s.heap) (hS : va_S A s.heap H locs) (hF : ∀ q, va_A cs.flatten H.size q → A q) (hP : va_P D vwCl cs.flatten H) (hD : va_D A cs.flatten) : ∀ U : State, U.heap = H → s.WarmedH U.vm → jPre D y As cs H.size As.toArray U := fun _ hU hW => ⟨rfl, by rw [hU], by rw [hU]; exact hP, hE.warm hW, hD.weaken (fun _ _ _ _ => trivial), hZ.step hW.alike (fun a h1 h2 => by rw [hU]; exact hS.2.1 a h1 h2) hF⟩
def jI (l : Launch) (D : va_G) (y : Nat → ClassId) (nm : MethodName) (ws : List Cond) (rm : Room) (As : List Value) (cs : List va_W) (r : Int32) (cs' : List va_W) : Prop := ∀ sz : Nat, Met l nm ws rm (jPre D y As cs sz) (va_Qi (fun (x : Int32) (_ : Unit) => x = r) (fun _ t => va_P D vwCl cs'.flatten t.heap) (va_A cs.flatten sz)) 0 0 (va_A cs.flatten sz)
def jV (l : Launch) (D : va_G) (y : Nat → ClassId) (nm : MethodName) (ws : List Cond) (rm : Room) (As : List Value) (cs : List va_W) (cs' : List va_W) : Prop := ∀ sz : Nat, Met l nm ws rm (jPre D y As cs sz) (va_Qv (fun (_ : Unit) => True) (fun _ t => va_P D vwCl cs'.flatten t.heap) (va_A cs.flatten sz)) 0 0 (va_A cs.flatten sz)
def jQi (D : va_G) (below : List Frame) (As : List Value) (s : State) (A : Nat → Prop) (r : Int32) (cs' : List va_W) : State → Prop := MQ below (va_Qi (fun (x : Int32) (_ : Unit) => x = r) (fun _ t => va_P D vwCl cs'.flatten t.heap) A) As.toArray s 0 0 A
def jQv (D : va_G) (below : List Frame) (As : List Value) (s : State) (A : Nat → Prop) (cs' : List va_W) : State → Prop := MQ below (va_Qv (fun (_ : Unit) => True) (fun _ t => va_P D vwCl cs'.flatten t.heap) A) As.toArray s 0 0 A
theorem jI.pack {l : Launch} {D : va_G} {y : Nat → ClassId} {nm : MethodName} {ws : List Cond} {rm : Room} {As : List Value} {cs cs' : List va_W} {r : Int32} {w w' : va_W} (h : jI l D y nm ws rm As cs r cs') (e : cs.flatten = w) (e' : cs'.flatten = w') : jI l D y nm ws rm As [w] r [w'] := by
  intro sz
  have h1 : [w].flatten = cs.flatten := by simp [e]
  have h2 : [w'].flatten = cs'.flatten := by simp [e']
  have := h sz
  unfold jPre at this ⊢
  rw [h1, h2]
  exact this
theorem jV.pack {l : Launch} {D : va_G} {y : Nat → ClassId} {nm : MethodName} {ws : List Cond} {rm : Room} {As : List Value} {cs cs' : List va_W} {w w' : va_W} (h : jV l D y nm ws rm As cs cs') (e : cs.flatten = w) (e' : cs'.flatten = w') : jV l D y nm ws rm As [w] [w'] := by
  intro sz
  have h1 : [w].flatten = cs.flatten := by simp [e]
  have h2 : [w'].flatten = cs'.flatten := by simp [e']
  have := h sz
  unfold jPre at this ⊢
  rw [h1, h2]
  exact this
/-- blocks that make the same cells -/
theorem jI.like {l : Launch} {D : va_G} {y : Nat → ClassId} {nm : MethodName} {ws : List Cond} {rm : Room} {As : List Value} {cs cs' ds ds' : List va_W} {r : Int32} (h : jI l D y nm ws rm As cs r cs') (e : cs.flatten = ds.flatten) (e' : cs'.flatten = ds'.flatten) : jI l D y nm ws rm As ds r ds' := by
  intro sz
  have := h sz
  unfold jPre at this ⊢
  rw [← e, ← e']
  exact this
theorem jV.like {l : Launch} {D : va_G} {y : Nat → ClassId} {nm : MethodName} {ws : List Cond} {rm : Room} {As : List Value} {cs cs' ds ds' : List va_W} (h : jV l D y nm ws rm As cs cs') (e : cs.flatten = ds.flatten) (e' : cs'.flatten = ds'.flatten) : jV l D y nm ws rm As ds ds' := by
  intro sz
  have := h sz
  unfold jPre at this ⊢
  rw [← e, ← e']
  exact this
theorem jI_of {l : Launch} {D : va_G} {y : Nat → ClassId} {nm : MethodName} {ws ws' : List Cond} {rm : Room} {As : List Value} {cs cs' : List va_W} {r : Int32} {cc : ByteArray} {maxL : Nat} {ty : FieldType} (hy : plainName nm.cls = true) (hw : ws = Cond.code nm cc maxL (some ty) :: ws') (hn : (lg_sl As).length ≤ maxL)
    (body : ∀ (p : Program) (e : Env) (s : State) (m : MethodId) (below : List Frame) (meth : Method) (c : Code) (A : Nat → Prop) (ls : Array Slot), p.tables.exec = Jvm.exec → c.code = cc → meth.sig.returnType = some ty → meth.locks = false → c.maxLocals = maxL → s.vm.findClass nm.cls = some m.cls → (∀ w ∈ ws, w.before As.toArray s = true) → jE D y s → jZ A s s.heap → (∀ q : Nat, s.heap.size ≤ q → A q) → va_P D vwCl cs.flatten s.heap → va_D A cs.flatten → va_S A s.heap s.heap [] → lv_has ls maxL (lv_args 0 As) → W p l e rm s m As.toArray below meth c s.heap [] 0 0 (jQi D below As s A r cs') (F0 m 0 ls [])) : jI l D y nm ws rm As cs r cs' := by
  intro sz
  refine Met.ofW (cc := cc) (maxL := maxL) (ret := some ty) hy hw ?_
  intro p e s m args below meth c s₁ B hml hv
  obtain ⟨rfl, hsz, hP, hE, hD0, hZ⟩ := hv
  subst hsz
  rw [lg_entry_eq]
  exact body p e s m below meth c _ _ B.exec B.bytes B.returns B.notSynchronized hml (findClass_of_methodNamed B.named) (atoms_spec (ws := ws) B.pre) hE hZ (fun q h => Or.inr h) hP hD0.self va_S.rf (lv_entry As hn)
theorem jV_of {l : Launch} {D : va_G} {y : Nat → ClassId} {nm : MethodName} {ws ws' : List Cond} {rm : Room} {As : List Value} {cs cs' : List va_W} {cc : ByteArray} {maxL : Nat} (hy : plainName nm.cls = true) (hw : ws = Cond.code nm cc maxL none :: ws') (hn : (lg_sl As).length ≤ maxL)
    (body : ∀ (p : Program) (e : Env) (s : State) (m : MethodId) (below : List Frame) (meth : Method) (c : Code) (A : Nat → Prop) (ls : Array Slot), p.tables.exec = Jvm.exec → c.code = cc → meth.sig.returnType = none → meth.locks = false → c.maxLocals = maxL → s.vm.findClass nm.cls = some m.cls → (∀ w ∈ ws, w.before As.toArray s = true) → jE D y s → jZ A s s.heap → (∀ q : Nat, s.heap.size ≤ q → A q) → va_P D vwCl cs.flatten s.heap → va_D A cs.flatten → va_S A s.heap s.heap [] → lv_has ls maxL (lv_args 0 As) → W p l e rm s m As.toArray below meth c s.heap [] 0 0 (jQv D below As s A cs') (F0 m 0 ls [])) : jV l D y nm ws rm As cs cs' := by
  intro sz
  refine Met.ofW (cc := cc) (maxL := maxL) (ret := none) hy hw ?_
  intro p e s m args below meth c s₁ B hml hv
  obtain ⟨rfl, hsz, hP, hE, hD0, hZ⟩ := hv
  subst hsz
  rw [lg_entry_eq]
  exact body p e s m below meth c _ _ B.exec B.bytes B.returns B.notSynchronized hml (findClass_of_methodNamed B.named) (atoms_spec (ws := ws) B.pre) hE hZ (fun q h => Or.inr h) hP hD0.self va_S.rf (lv_entry As hn)
section JW
variable {p : Program} {l : Launch} {e : Env} {R : Room} {s : State} {m : MethodId} {args : Array Value} {below : List Frame} {meth : Method} {c : Code} {H : Heap} {locs : List Loc} {cells slots : Nat} {Q : State → Prop}
variable {cc : ByteArray} {pc : Nat} {ls : Array Slot} {rest : List Value} {A : Nat → Prop} {D : va_G} {y : Nat → ClassId} {bs : List va_W} {Ts : List Cond} {own : String}
theorem jI_ret {As : List Value} {r v : Int32} {cs' : List va_W} {ty : FieldType} (hx : p.tables.exec = Jvm.exec) (hb : c.code = cc) (hr : meth.sig.returnType = some ty) (hlocks : meth.locks = false) (hP : va_P D vwCl bs.flatten H) (hS : va_S A s.heap H locs) (hdg : decode cc pc = .ok (.ireturn, 1)) (hn : narrow ty (.int v) = .int v) (hv : v = r) (hw : bs = cs') : W p l e R s m As.toArray below meth c H locs 0 0 (jQi D below As s A r cs') (F0 m pc ls [.int v]) := by
  subst hv; subst hw
  exact W.zret hx hb hr hn (fun t ht hW => ⟨⟨_, (), rfl, rfl, by show va_P D vwCl bs.flatten t.heap; rw [ht]; exact hP⟩, hS.F ht⟩) hS.2.2 hdg hlocks
theorem jV_ret {As : List Value} {cs' : List va_W} (hx : p.tables.exec = Jvm.exec) (hb : c.code = cc) (hr : meth.sig.returnType = none) (hlocks : meth.locks = false) (hP : va_P D vwCl bs.flatten H) (hS : va_S A s.heap H locs) (hdg : decode cc pc = .ok (.return_, 1)) (hw : bs = cs') : W p l e R s m As.toArray below meth c H locs 0 0 (jQv D below As s A cs') (F0 m pc ls []) := by
  subst hw
  exact W.vret hx hb hr (fun t ht hW => ⟨⟨(), rfl, trivial, by show va_P D vwCl bs.flatten t.heap; rw [ht]; exact hP⟩, hS.F ht⟩) hS.2.2 hdg hlocks
/-- a place where paths meet, or a loop's head -/
theorem jCut (S : Heap → List Loc → JFrame → Prop) {H0 : Heap} {locs0 : List Loc} {g0 : JFrame} (J : ∀ H locs g, S H locs g → W p l e R s m args below meth c H locs cells slots Q g) (K : (∀ H locs g, S H locs g → W p l e R s m args below meth c H locs cells slots Q g) → W p l e R s m args below meth c H0 locs0 cells slots Q g0) : W p l e R s m args below meth c H0 locs0 cells slots Q g0 := K J
theorem jLoop (S : Nat → Heap → List Loc → JFrame → Prop) (n : Nat) {H0 : Heap} {locs0 : List Loc} {g0 : JFrame} (J : ∀ n : Nat, (∀ k : Nat, k < n → ∀ H locs g, S k H locs g → W p l e R s m args below meth c H locs cells slots Q g) → ∀ H locs g, S n H locs g → W p l e R s m args below meth c H locs cells slots Q g) (h0 : S n H0 locs0 g0) : W p l e R s m args below meth c H0 locs0 cells slots Q g0 := by
  have K : ∀ n : Nat, ∀ H locs g, S n H locs g → W p l e R s m args below meth c H locs cells slots Q g := by
    intro n
    induction n using Nat.strongRecOn with
    | ind n ih => exact J n ih
  exact K n _ _ _ h0
/-! fields -/
theorem jget {C ref : String} {T : u_T} {N ci index kb q0 a : Nat} {w : va_W} {fs : List Value} {v : Value} (hx : p.tables.exec = Jvm.exec) (hb : c.code = cc) (hts : ∀ w ∈ Ts, w.before args s = true) (hown : s.vm.findClass own = some m.cls) (hE : jE D y s) (hP : va_P D vwCl bs.flatten H) (hin : ∀ w ∈ u_ws C T N, w ∈ Ts) (hc : vwCl[ci]? = some (C, T, N)) (hw : bs[kb]? = some w) (he : w[q0]? = some (a, .inr (ci, fs))) (k : Nat) (hk : k < N) (hlink : Cond.fieldLink own index ref (T k).2.1 (T k).2.2.1 ∈ Ts) (hsame : (T k).1 = ref) (hv : fs[k]? = some v) (hdg : decode cc pc = .ok (.getfield index, 3))
    (kk : W p l e R s m args below meth c H locs cells slots Q (F0 m (pc + 3) ls (v :: rest))) : W p l e R s m args below meth c H locs cells slots Q (F0 m pc ls (.ref a :: rest)) :=
  va_get hx hb hts hin hown hE.1 (jB hP hw) q0 he hc k hk (hts _ hlink) (fun _ h => by rw [← hsame]; exact h) hv hdg kk
theorem jgetN {C ref host : String} {T : u_T} {N ci index kb q0 a : Nat} {w : va_W} {fs : List Value} {v : Value} (hx : p.tables.exec = Jvm.exec) (hb : c.code = cc) (hts : ∀ w ∈ Ts, w.before args s = true) (hown : s.vm.findClass own = some m.cls) (hE : jE D y s) (hP : va_P D vwCl bs.flatten H) (hin : ∀ w ∈ u_ws C T N, w ∈ Ts) (hc : vwCl[ci]? = some (C, T, N)) (hw : bs[kb]? = some w) (he : w[q0]? = some (a, .inr (ci, fs))) (k : Nat) (hk : k < N) (hlink : Cond.fieldLinkNest own index ref (T k).2.1 (T k).2.2.1 host ∈ jNests) (hsame : (T k).1 = ref) (hv : fs[k]? = some v) (hdg : decode cc pc = .ok (.getfield index, 3))
    (kk : W p l e R s m args below meth c H locs cells slots Q (F0 m (pc + 3) ls (v :: rest))) : W p l e R s m args below meth c H locs cells slots Q (F0 m pc ls (.ref a :: rest)) :=
  va_getN hx hb hts hin hown hE.1 (jB hP hw) q0 he hc k hk (va_Nw.use rfl (hE.2 _ hlink)) (fun _ h => by rw [← hsame]; exact h) hv hdg kk
theorem jput {C ref : String} {T : u_T} {N ci index kb q0 a : Nat} {w : va_W} {fs : List Value} {v : Value} {ty : FieldType} {bs' : List va_W} (hx : p.tables.exec = Jvm.exec) (hb : c.code = cc) (hts : ∀ w ∈ Ts, w.before args s = true) (hown : s.vm.findClass own = some m.cls) (hE : jE D y s) (hP : va_P D vwCl bs.flatten H) (hD : va_D A bs.flatten) (hS : va_S A s.heap H locs) (hin : ∀ w ∈ u_ws C T N, w ∈ Ts) (ty0 : Nat → FieldType) (hty : ∀ k, k < N → parseFieldDescriptor (T k).2.2.1 = some (ty0 k)) (hnm : ∀ a, a < N → ∀ b, b < N → a ≠ b → (T a).2.1 ≠ (T b).2.1) (hc : vwCl[ci]? = some (C, T, N)) (hw : bs[kb]? = some w) (he : w[q0]? = some (a, .inr (ci, fs))) (k : Nat) (hk : k < N) (hlink : Cond.fieldLink own index ref (T k).2.1 (T k).2.2.1 ∈ Ts) (hsame : (T k).1 = ref) (hfin : (T k).2.2.2 = false) (hd : ty0 k = ty) (hn : narrow ty v = v) (hfit : fits ty v = true) (hl : k < fs.length) (hb' : bs.set kb (w.set q0 (a, .inr (ci, fs.set k v))) = bs') (hdg : decode cc pc = .ok (.putfield index, 3))
    (kk : ∀ (H1 : Heap) (locs1 : List Loc), va_P D vwCl bs'.flatten H1 → va_D A bs'.flatten → va_S A s.heap H1 locs1 → W p l e R s m args below meth c H1 locs1 cells slots Q (F0 m (pc + 3) ls rest)) : W p l e R s m args below meth c H locs cells slots Q (F0 m pc ls (v :: .ref a :: rest)) := by
  have hl2 := (List.getElem?_eq_some_iff.mp he).1
  refine va_put hx hb hts hin ty0 hty hnm hown hE.1 hP hD hS (jOff bs kb + q0) (jOff_get hw he) hc k hk (hts _ hlink) (fun _ h => by rw [← hsame]; exact h) hfin (hty k hk) (by rw [hd]; exact hn) (by rw [hd]; exact hfit) hl hdg (fun H1 locs1 g1 g2 g3 => ?_)
  rw [jOff_set hl2 hw, hb'] at g1 g2
  exact kk H1 locs1 g1 g2 g3
theorem jputN {C ref host : String} {T : u_T} {N ci index kb q0 a : Nat} {w : va_W} {fs : List Value} {v : Value} {ty : FieldType} {bs' : List va_W} (hx : p.tables.exec = Jvm.exec) (hb : c.code = cc) (hts : ∀ w ∈ Ts, w.before args s = true) (hown : s.vm.findClass own = some m.cls) (hE : jE D y s) (hP : va_P D vwCl bs.flatten H) (hD : va_D A bs.flatten) (hS : va_S A s.heap H locs) (hin : ∀ w ∈ u_ws C T N, w ∈ Ts) (ty0 : Nat → FieldType) (hty : ∀ k, k < N → parseFieldDescriptor (T k).2.2.1 = some (ty0 k)) (hnm : ∀ a, a < N → ∀ b, b < N → a ≠ b → (T a).2.1 ≠ (T b).2.1) (hc : vwCl[ci]? = some (C, T, N)) (hw : bs[kb]? = some w) (he : w[q0]? = some (a, .inr (ci, fs))) (k : Nat) (hk : k < N) (hlink : Cond.fieldLinkNest own index ref (T k).2.1 (T k).2.2.1 host ∈ jNests) (hsame : (T k).1 = ref) (hfin : (T k).2.2.2 = false) (hd : ty0 k = ty) (hn : narrow ty v = v) (hfit : fits ty v = true) (hl : k < fs.length) (hb' : bs.set kb (w.set q0 (a, .inr (ci, fs.set k v))) = bs') (hdg : decode cc pc = .ok (.putfield index, 3))
    (kk : ∀ (H1 : Heap) (locs1 : List Loc), va_P D vwCl bs'.flatten H1 → va_D A bs'.flatten → va_S A s.heap H1 locs1 → W p l e R s m args below meth c H1 locs1 cells slots Q (F0 m (pc + 3) ls rest)) : W p l e R s m args below meth c H locs cells slots Q (F0 m pc ls (v :: .ref a :: rest)) := by
  have hl2 := (List.getElem?_eq_some_iff.mp he).1
  refine va_putN hx hb hts hin ty0 hty hnm hown hE.1 hP hD hS (jOff bs kb + q0) (jOff_get hw he) hc k hk (va_Nw.use rfl (hE.2 _ hlink)) (fun _ h => by rw [← hsame]; exact h) hfin (hty k hk) (by rw [hd]; exact hn) (by rw [hd]; exact hfit) hl hdg (fun H1 locs1 g1 g2 g3 => ?_)
  rw [jOff_set hl2 hw, hb'] at g1 g2
  exact kk H1 locs1 g1 g2 g3
/-! arrays -/
theorem jiald {kb q0 a n k : Nat} {w : va_W} {f : Nat → Int32} {i : Int32} (hx : p.tables.exec = Jvm.exec) (hb : c.code = cc) (hE : jE D y s) (hP : va_P D vwCl bs.flatten H) (hw : bs[kb]? = some w) (he : w[q0]? = some (a, .inl (y 0, n, .inl f))) (hi : vp_in i n) (hk : i.toNatClampNeg = k) (hdg : decode cc pc = .ok (.iaload, 1))
    (kk : W p l e R s m args below meth c H locs cells slots Q (F0 m (pc + 1) ls (.int (f k) :: rest))) : W p l e R s m args below meth c H locs cells slots Q (F0 m pc ls (.int i :: .ref a :: rest)) := by
  subst hk
  exact va_iald hx hb hE.1 (jB hP hw) q0 0 he rfl hi hdg kk
theorem jzald {kb q0 a n k : Nat} {w : va_W} {f : Nat → Int32} {i : Int32} (hx : p.tables.exec = Jvm.exec) (hb : c.code = cc) (hE : jE D y s) (hP : va_P D vwCl bs.flatten H) (hw : bs[kb]? = some w) (he : w[q0]? = some (a, .inl (y 1, n, .inl f))) (hi : vp_in i n) (hk : i.toNatClampNeg = k) (hdg : decode cc pc = .ok (.baload, 1))
    (kk : W p l e R s m args below meth c H locs cells slots Q (F0 m (pc + 1) ls (.int (f k) :: rest))) : W p l e R s m args below meth c H locs cells slots Q (F0 m pc ls (.int i :: .ref a :: rest)) := by
  subst hk
  exact va_zald hx hb hE.1 (jB hP hw) q0 1 he rfl hi hdg kk
theorem jcald {kb q0 a n k : Nat} {w : va_W} {f : Nat → Int32} {i : Int32} (hx : p.tables.exec = Jvm.exec) (hb : c.code = cc) (hE : jE D y s) (hP : va_P D vwCl bs.flatten H) (hw : bs[kb]? = some w) (he : w[q0]? = some (a, .inl (y 2, n, .inl f))) (hi : vp_in i n) (hk : i.toNatClampNeg = k) (hdg : decode cc pc = .ok (.caload, 1))
    (kk : W p l e R s m args below meth c H locs cells slots Q (F0 m (pc + 1) ls (.int (f k) :: rest))) : W p l e R s m args below meth c H locs cells slots Q (F0 m pc ls (.int i :: .ref a :: rest)) := by
  subst hk
  exact va_cald hx hb hE.1 (jB hP hw) q0 2 he rfl hi hdg kk
theorem jiast {kb q0 a n k : Nat} {w : va_W} {f : Nat → Int32} {i x x' : Int32} {bs' : List va_W} (hx : p.tables.exec = Jvm.exec) (hb : c.code = cc) (hE : jE D y s) (hP : va_P D vwCl bs.flatten H) (hD : va_D A bs.flatten) (hS : va_S A s.heap H locs) (hw : bs[kb]? = some w) (he : w[q0]? = some (a, .inl (y 0, n, .inl f))) (hi : vp_in i n) (hk : i.toNatClampNeg = k) (hx' : x = x') (hb' : bs.set kb (w.set q0 (a, .inl (y 0, n, .inl (upd f k x')))) = bs') (hdg : decode cc pc = .ok (.iastore, 1))
    (kk : ∀ (H1 : Heap) (locs1 : List Loc), va_P D vwCl bs'.flatten H1 → va_D A bs'.flatten → va_S A s.heap H1 locs1 → W p l e R s m args below meth c H1 locs1 cells slots Q (F0 m (pc + 1) ls rest)) : W p l e R s m args below meth c H locs cells slots Q (F0 m pc ls (.int x :: .int i :: .ref a :: rest)) := by
  subst hk
  have hl2 := (List.getElem?_eq_some_iff.mp he).1
  refine va_iast hx hb hE.1 hP hD hS (jOff bs kb + q0) 0 (jOff_get hw he) rfl hi hdg (fun H1 locs1 g1 g2 g3 => ?_)
  rw [jOff_set hl2 hw, hx', hb'] at g1 g2
  exact kk H1 locs1 g1 g2 g3
theorem jzast {kb q0 a n k : Nat} {w : va_W} {f : Nat → Int32} {i x x' : Int32} {bs' : List va_W} (hx : p.tables.exec = Jvm.exec) (hb : c.code = cc) (hE : jE D y s) (hP : va_P D vwCl bs.flatten H) (hD : va_D A bs.flatten) (hS : va_S A s.heap H locs) (hw : bs[kb]? = some w) (he : w[q0]? = some (a, .inl (y 1, n, .inl f))) (hi : vp_in i n) (hk : i.toNatClampNeg = k) (hx' : (vp_nar .boolean x) = x') (hb' : bs.set kb (w.set q0 (a, .inl (y 1, n, .inl (upd f k x')))) = bs') (hdg : decode cc pc = .ok (.bastore, 1))
    (kk : ∀ (H1 : Heap) (locs1 : List Loc), va_P D vwCl bs'.flatten H1 → va_D A bs'.flatten → va_S A s.heap H1 locs1 → W p l e R s m args below meth c H1 locs1 cells slots Q (F0 m (pc + 1) ls rest)) : W p l e R s m args below meth c H locs cells slots Q (F0 m pc ls (.int x :: .int i :: .ref a :: rest)) := by
  subst hk
  have hl2 := (List.getElem?_eq_some_iff.mp he).1
  refine va_zast hx hb hE.1 hP hD hS (jOff bs kb + q0) 1 (jOff_get hw he) rfl hi hdg (fun H1 locs1 g1 g2 g3 => ?_)
  rw [jOff_set hl2 hw, hx', hb'] at g1 g2
  exact kk H1 locs1 g1 g2 g3
theorem jcast {kb q0 a n k : Nat} {w : va_W} {f : Nat → Int32} {i x x' : Int32} {bs' : List va_W} (hx : p.tables.exec = Jvm.exec) (hb : c.code = cc) (hE : jE D y s) (hP : va_P D vwCl bs.flatten H) (hD : va_D A bs.flatten) (hS : va_S A s.heap H locs) (hw : bs[kb]? = some w) (he : w[q0]? = some (a, .inl (y 2, n, .inl f))) (hi : vp_in i n) (hk : i.toNatClampNeg = k) (hx' : (vp_nar .char x) = x') (hb' : bs.set kb (w.set q0 (a, .inl (y 2, n, .inl (upd f k x')))) = bs') (hdg : decode cc pc = .ok (.castore, 1))
    (kk : ∀ (H1 : Heap) (locs1 : List Loc), va_P D vwCl bs'.flatten H1 → va_D A bs'.flatten → va_S A s.heap H1 locs1 → W p l e R s m args below meth c H1 locs1 cells slots Q (F0 m (pc + 1) ls rest)) : W p l e R s m args below meth c H locs cells slots Q (F0 m pc ls (.int x :: .int i :: .ref a :: rest)) := by
  subst hk
  have hl2 := (List.getElem?_eq_some_iff.mp he).1
  refine va_cast hx hb hE.1 hP hD hS (jOff bs kb + q0) 2 (jOff_get hw he) rfl hi hdg (fun H1 locs1 g1 g2 g3 => ?_)
  rw [jOff_set hl2 hw, hx', hb'] at g1 g2
  exact kk H1 locs1 g1 g2 g3
theorem jaldq {kb q0 a n k r : Nat} {w : va_W} {f : Nat → Option Nat} {i : Int32} (hx : p.tables.exec = Jvm.exec) (hb : c.code = cc) (hE : jE D y s) (hP : va_P D vwCl bs.flatten H) (hw : bs[kb]? = some w) (he : w[q0]? = some (a, .inl (y 3, n, .inr (.inr (.inr (.inr f)))))) (hi : vp_in i n) (hk : i.toNatClampNeg = k) (hf : f k = some r) (hdg : decode cc pc = .ok (.aaload, 1))
    (kk : W p l e R s m args below meth c H locs cells slots Q (F0 m (pc + 1) ls (.ref r :: rest))) : W p l e R s m args below meth c H locs cells slots Q (F0 m pc ls (.int i :: .ref a :: rest)) := by
  subst hk
  refine va_aldq hx hb hE.1 (jB hP hw) q0 3 he rfl hi hdg ?_
  rw [hf]
  exact kk
theorem jstat {nm ref host : String} {f : Nat → Int32} {index : Nat} (hx : p.tables.exec = Jvm.exec) (hb : c.code = cc) (hts : ∀ w ∈ Ts, w.before args s = true) (hown : s.vm.findClass own = some m.cls) (hZ : jZ1 nm f A s s.heap) (hS : va_S A s.heap H locs) (hlink : Cond.fieldLink own index "JetStarts" nm "[I" ∈ Ts) (hdg : decode cc pc = .ok (.getstatic index, 3))
    (kk : ∀ t : Nat, va_T .int t 7 (fun j => .int (f j)) A s s.heap → W p l e R s m args below meth c H locs cells slots Q (F0 m (pc + 3) ls (.ref t :: rest))) : W p l e R s m args below meth c H locs cells slots Q (F0 m pc ls rest) := by
  obtain ⟨t, h1, h2⟩ := hZ
  exact va_gets hx hb h1 hS hown (hts _ hlink) (fun _ h => h) hdg (kk t h2)
theorem jcopy {index kb0 kb1 q0 q1 a a0 n0 n1 spk dpk nk : Nat} {w0 w1 : va_W} {f g g' : Nat → Int32} {sp dp n : Int32} {bs' : List va_W} (hx : p.tables.exec = Jvm.exec) (hb : c.code = cc) (hml : c.maxLocals = ls.size) (hts : ∀ w ∈ Ts, w.before args s = true) (hown : s.vm.findClass own = some m.cls) (hE : jE D y s) (hP : va_P D vwCl bs.flatten H) (hD : va_D A bs.flatten) (hS : va_S A s.heap H locs) (hlink : Cond.methodLink own index arraycopyName ∈ Ts) (hnat : Cond.native arraycopyName ∈ Ts) (hstat : Cond.static arraycopyName ∈ Ts) (hini : Cond.initialized "java/lang/System" ∈ Ts)
    (hw0 : bs[kb0]? = some w0) (he0 : w0[q0]? = some (a0, .inl (y 0, n0, .inl f))) (hw1 : bs[kb1]? = some w1) (he1 : w1[q1]? = some (a, .inl (y 0, n1, .inl g))) (hsp : ¬ sp < 0 ∧ sp.toNatClampNeg = spk) (hdp : ¬ dp < 0 ∧ dp.toNatClampNeg = dpk) (hnn : ¬ n < 0 ∧ n.toNatClampNeg = nk) (h4 : spk + nk ≤ n0) (h5 : dpk + nk ≤ n1)
    (hframes : 1 ≤ R.frames) (hlocals : (rest.map fun v => v.category).sum + (nativeFrameWords "java/lang/System" "arraycopy" 5 + 11) ≤ R.locals) (hg' : ∀ j, j < n1 → va_cpy f g spk dpk nk j = g' j) (hb' : bs.set kb1 (w1.set q1 (a, .inl (y 0, n1, .inl g'))) = bs') (hdg : decode cc pc = .ok (.invokestatic index, 3))
    (kk : ∀ (H1 : Heap) (locs1 : List Loc), va_P D vwCl bs'.flatten H1 → va_D A bs'.flatten → va_S A s.heap H1 locs1 → W p l e R s m args below meth c H1 locs1 cells slots Q (F0 m (pc + 3) ls rest)) : W p l e R s m args below meth c H locs cells slots Q (F0 m pc ls (.int n :: .int dp :: .ref a :: .int sp :: .ref a0 :: rest)) := by
  obtain ⟨hsp, rfl⟩ := hsp
  obtain ⟨hdp, rfl⟩ := hdp
  obtain ⟨hnn, rfl⟩ := hnn
  have hl2 := (List.getElem?_eq_some_iff.mp he1).1
  have hlb := (List.getElem?_eq_some_iff.mp hw1).1
  refine va_copyi hx hb hml hown (hts _ hlink) (hts _ hnat) (hts _ hstat) (hts _ hini) hE.1 hP hD hS (jOff bs kb0 + q0) (jOff bs kb1 + q1) 0 0 (jOff_get hw0 he0) (jOff_get hw1 he1) rfl rfl rfl hsp hdp hnn h4 h5 (fun i _ => rfl) hframes hlocals hdg (fun H1 locs1 g1 g2 g3 => ?_)
  rw [jOff_set hl2 hw1] at g1 g2
  have g1' := jCongr g1 (k := kb1) (i := q1) (w := w1.set q1 (a, .inl (y 0, n1, .inl (va_cpy f g sp.toNatClampNeg dp.toNatClampNeg n.toNatClampNeg)))) (by rw [List.getElem?_set_self hlb]) (by rw [List.getElem?_set_self hl2]) hg'
  rw [List.set_set, List.set_set, hb'] at g1'
  have g2' := jD_reB (bs' := bs') g2 (by
    rw [← hb', List.map_set, List.map_set, List.map_set, List.map_set])
  exact kk H1 locs1 g1' g2' g3
/-! calls -/
theorem jI_go {a : Array Value} {r : Int32} {cs cs' : List va_W} {st0 : List Value} {is : List Nat} (hr : va_Run p l e R s m args below meth c H locs cells slots 0 0 (F0 m pc ls st0) rest (va_Qi (fun (x : Int32) (_ : Unit) => x = r) (fun _ t => va_P D vwCl cs'.flatten t.heap) (va_A cs.flatten H.size) a) (va_A cs.flatten H.size)) (hA : ∀ q : Nat, s.heap.size ≤ q → A q) (hP : va_P D vwCl bs.flatten H) (hD : va_D A bs.flatten) (hS : va_S A s.heap H locs) (hC : is.map (fun i => bs[i]?) = cs.map some) (hf : cs'.map (List.map Prod.fst) = cs.map (List.map Prod.fst)) {bs' : List va_W} (hb' : jPut bs is cs' = bs')
    (kk : ∀ (H1 : Heap) (locs1 : List Loc), va_P D vwCl bs'.flatten H1 → va_D A bs'.flatten → va_S A s.heap H1 locs1 → W p l e R s m args below meth c H1 locs1 cells slots Q (F0 m (pc + 3) ls (.int r :: rest))) : W p l e R s m args below meth c H locs cells slots Q (F0 m pc ls st0) := by
  subst hb'
  have hF := jFree hD hS hA hC
  refine va_calli hr hS (fun q _ h => hF q h) hF (fun x u t H1 locs1 ht hvm hw hB hz1 hk1 hS1 => ?_)
  subst hw
  rw [ht] at hB
  obtain ⟨g1, g2⟩ := jJoin hP hD hC hf hB hk1
  exact kk H1 locs1 g1 g2 hS1
theorem jV_go {a : Array Value} {cs cs' : List va_W} {st0 : List Value} {is : List Nat} (hr : va_Run p l e R s m args below meth c H locs cells slots 0 0 (F0 m pc ls st0) rest (va_Qv (fun (_ : Unit) => True) (fun _ t => va_P D vwCl cs'.flatten t.heap) (va_A cs.flatten H.size) a) (va_A cs.flatten H.size)) (hA : ∀ q : Nat, s.heap.size ≤ q → A q) (hP : va_P D vwCl bs.flatten H) (hD : va_D A bs.flatten) (hS : va_S A s.heap H locs) (hC : is.map (fun i => bs[i]?) = cs.map some) (hf : cs'.map (List.map Prod.fst) = cs.map (List.map Prod.fst)) {bs' : List va_W} (hb' : jPut bs is cs' = bs')
    (kk : ∀ (H1 : Heap) (locs1 : List Loc), va_P D vwCl bs'.flatten H1 → va_D A bs'.flatten → va_S A s.heap H1 locs1 → W p l e R s m args below meth c H1 locs1 cells slots Q (F0 m (pc + 3) ls rest)) : W p l e R s m args below meth c H locs cells slots Q (F0 m pc ls st0) := by
  subst hb'
  have hF := jFree hD hS hA hC
  refine va_callv hr hS (fun q _ h => hF q h) hF (fun u t H1 locs1 ht hvm hw hB hz1 hk1 hS1 => ?_)
  rw [ht] at hB
  obtain ⟨g1, g2⟩ := jJoin hP hD hC hf hB hk1
  exact kk H1 locs1 g1 g2 hS1
theorem jVi {nm : MethodName} {bytes : ByteArray} {maxL nL index n : Nat} {wsC ws'C : List Cond} {rmC : Room} {As st0 : List Value} {cs cs' : List va_W} {is : List Nat} {bs' : List va_W} {ty : FieldType} {r : Int32} {b kb q0 ci : Nat} {w0 : va_W} {fs : List Value} {qC : vw_C} {C : String} (hx : p.tables.exec = Jvm.exec) (hb : c.code = cc) (hml : c.maxLocals = nL) (hown : s.vm.findClass own = some m.cls) (hts : ∀ w ∈ Ts, w.before args s = true) (hE : jE D y s) (hZ : jZ A s s.heap) (hA : ∀ q : Nat, s.heap.size ≤ q → A q) (hP : va_P D vwCl bs.flatten H) (hD : va_D A bs.flatten) (hS : va_S A s.heap H locs) (ct : jI l D y nm wsC rmC (.ref b :: As) cs r cs') (hC : is.map (fun i => bs[i]?) = cs.map some) (hnd : va_nd is = true) (hf : cs'.map (List.map Prod.fst) = cs.map (List.map Prod.fst)) (hb' : jPut bs is cs' = bs') (hg : GoodIn Ts (wsV own index C nm wsC)) (hwc : wsC = Cond.code nm bytes maxL (some ty) :: ws'C) (hd : nm.cls = C ∧ nm.cls ≠ "java/lang/invoke/MethodHandle" ∧ nm.cls ≠ "java/lang/invoke/VarHandle" ∧ (parseMethodDescriptor nm.desc).map (fun d => d.parameters.length) = some n) (hR : rmC.frames + 1 ≤ R.frames ∧ 8 + (maxL + 11) + rmC.locals ≤ R.locals) (hrc : rmC.cells = 0 ∧ rmC.slots = 0) (hw0 : bs[kb]? = some w0) (h0 : w0[q0]? = some (b, .inr (ci, fs))) (hci : vwCl[ci]? = some qC) (hqC : qC.1 = C) (hn : As.length = n) (hsz : ls.size = nL) (hst : st0 = As.reverse ++ .ref b :: rest) (hrm : (rest.map fun v => v.category).sum ≤ 8) (hcr : cells ≤ R.cells ∧ slots ≤ R.slots) (hdg : decode cc pc = .ok (.invokevirtual index, 3))
    (kk : ∀ (H1 : Heap) (locs1 : List Loc), va_P D vwCl bs'.flatten H1 → va_D A bs'.flatten → va_S A s.heap H1 locs1 → W p l e R s m args below meth c H1 locs1 cells slots Q (F0 m (pc + 3) ls (.int r :: rest))) : W p l e R s m args below meth c H locs cells slots Q (F0 m pc ls st0) := by
  have hPc := jSubP hP hC
  have hDc := jSubD hD hC hnd
  have hrv : ∃ cell : Cell, H[b]? = some cell ∧ cell.vm.isStatics = false ∧ s.vm.findClass C = some cell.cls := by
    rw [← hqC]
    exact va_recv hE.1 (jB hP hw0) hci h0
  exact jI_go (va_runV (As := As) (rest := rest) (mc := 0) (ms := 0) ⟨hx, hb, hml, hown, hts⟩ (ct H.size) (cwV n hts hg hwc hrc.1 hrc.2 hd hR) ⟨jPre.blind, hrv, jPre.here hE hZ hS (jFree hD hS hA hC) hPc hDc⟩ rfl hn hsz hst (lv_room hrm) hdg hcr) hA hP hD hS hC hf hb' kk
theorem jVv {nm : MethodName} {bytes : ByteArray} {maxL nL index n : Nat} {wsC ws'C : List Cond} {rmC : Room} {As st0 : List Value} {cs cs' : List va_W} {is : List Nat} {bs' : List va_W} {b kb q0 ci : Nat} {w0 : va_W} {fs : List Value} {qC : vw_C} {C : String} (hx : p.tables.exec = Jvm.exec) (hb : c.code = cc) (hml : c.maxLocals = nL) (hown : s.vm.findClass own = some m.cls) (hts : ∀ w ∈ Ts, w.before args s = true) (hE : jE D y s) (hZ : jZ A s s.heap) (hA : ∀ q : Nat, s.heap.size ≤ q → A q) (hP : va_P D vwCl bs.flatten H) (hD : va_D A bs.flatten) (hS : va_S A s.heap H locs) (ct : jV l D y nm wsC rmC (.ref b :: As) cs cs') (hC : is.map (fun i => bs[i]?) = cs.map some) (hnd : va_nd is = true) (hf : cs'.map (List.map Prod.fst) = cs.map (List.map Prod.fst)) (hb' : jPut bs is cs' = bs') (hg : GoodIn Ts (wsV own index C nm wsC)) (hwc : wsC = Cond.code nm bytes maxL none :: ws'C) (hd : nm.cls = C ∧ nm.cls ≠ "java/lang/invoke/MethodHandle" ∧ nm.cls ≠ "java/lang/invoke/VarHandle" ∧ (parseMethodDescriptor nm.desc).map (fun d => d.parameters.length) = some n) (hR : rmC.frames + 1 ≤ R.frames ∧ 8 + (maxL + 11) + rmC.locals ≤ R.locals) (hrc : rmC.cells = 0 ∧ rmC.slots = 0) (hw0 : bs[kb]? = some w0) (h0 : w0[q0]? = some (b, .inr (ci, fs))) (hci : vwCl[ci]? = some qC) (hqC : qC.1 = C) (hn : As.length = n) (hsz : ls.size = nL) (hst : st0 = As.reverse ++ .ref b :: rest) (hrm : (rest.map fun v => v.category).sum ≤ 8) (hcr : cells ≤ R.cells ∧ slots ≤ R.slots) (hdg : decode cc pc = .ok (.invokevirtual index, 3))
    (kk : ∀ (H1 : Heap) (locs1 : List Loc), va_P D vwCl bs'.flatten H1 → va_D A bs'.flatten → va_S A s.heap H1 locs1 → W p l e R s m args below meth c H1 locs1 cells slots Q (F0 m (pc + 3) ls rest)) : W p l e R s m args below meth c H locs cells slots Q (F0 m pc ls st0) := by
  have hPc := jSubP hP hC
  have hDc := jSubD hD hC hnd
  have hrv : ∃ cell : Cell, H[b]? = some cell ∧ cell.vm.isStatics = false ∧ s.vm.findClass C = some cell.cls := by
    rw [← hqC]
    exact va_recv hE.1 (jB hP hw0) hci h0
  exact jV_go (va_runV (As := As) (rest := rest) (mc := 0) (ms := 0) ⟨hx, hb, hml, hown, hts⟩ (ct H.size) (cwV n hts hg hwc hrc.1 hrc.2 hd hR) ⟨jPre.blind, hrv, jPre.here hE hZ hS (jFree hD hS hA hC) hPc hDc⟩ rfl hn hsz hst (lv_room hrm) hdg hcr) hA hP hD hS hC hf hb' kk
theorem jVNi {nm : MethodName} {bytes : ByteArray} {maxL nL index n : Nat} {wsC ws'C : List Cond} {rmC : Room} {As st0 : List Value} {cs cs' : List va_W} {is : List Nat} {bs' : List va_W} {ty : FieldType} {r : Int32} {b kb q0 ci : Nat} {w0 : va_W} {fs : List Value} {qC : vw_C} {C : String} {host : String} (hx : p.tables.exec = Jvm.exec) (hb : c.code = cc) (hml : c.maxLocals = nL) (hown : s.vm.findClass own = some m.cls) (hts : ∀ w ∈ Ts, w.before args s = true) (hE : jE D y s) (hZ : jZ A s s.heap) (hA : ∀ q : Nat, s.heap.size ≤ q → A q) (hP : va_P D vwCl bs.flatten H) (hD : va_D A bs.flatten) (hS : va_S A s.heap H locs) (ct : jI l D y nm wsC rmC (.ref b :: As) cs r cs') (hC : is.map (fun i => bs[i]?) = cs.map some) (hnd : va_nd is = true) (hf : cs'.map (List.map Prod.fst) = cs.map (List.map Prod.fst)) (hb' : jPut bs is cs' = bs') (hg : GoodIn Ts wsC) (hl : Cond.methodLinkNest own index nm host ∈ jNests) (hwc : wsC = Cond.code nm bytes maxL (some ty) :: ws'C) (hini : Cond.initialized nm.cls ∈ Ts) (hins : Cond.instanceMethod nm ∈ Ts) (hsel : Cond.selects C nm nm ∈ Ts) (hd : nm.cls ≠ "java/lang/invoke/MethodHandle" ∧ nm.cls ≠ "java/lang/invoke/VarHandle" ∧ (parseMethodDescriptor nm.desc).map (fun d => d.parameters.length) = some n) (hR : rmC.frames + 1 ≤ R.frames ∧ 8 + (maxL + 11) + rmC.locals ≤ R.locals) (hrc : rmC.cells = 0 ∧ rmC.slots = 0) (hw0 : bs[kb]? = some w0) (h0 : w0[q0]? = some (b, .inr (ci, fs))) (hci : vwCl[ci]? = some qC) (hqC : qC.1 = C) (hn : As.length = n) (hsz : ls.size = nL) (hst : st0 = As.reverse ++ .ref b :: rest) (hrm : (rest.map fun v => v.category).sum ≤ 8) (hcr : cells ≤ R.cells ∧ slots ≤ R.slots) (hdg : decode cc pc = .ok (.invokevirtual index, 3))
    (kk : ∀ (H1 : Heap) (locs1 : List Loc), va_P D vwCl bs'.flatten H1 → va_D A bs'.flatten → va_S A s.heap H1 locs1 → W p l e R s m args below meth c H1 locs1 cells slots Q (F0 m (pc + 3) ls (.int r :: rest))) : W p l e R s m args below meth c H locs cells slots Q (F0 m pc ls st0) := by
  have hPc := jSubP hP hC
  have hDc := jSubD hD hC hnd
  have hrv : ∃ cell : Cell, H[b]? = some cell ∧ cell.vm.isStatics = false ∧ s.vm.findClass C = some cell.cls := by
    rw [← hqC]
    exact va_recv hE.1 (jB hP hw0) hci h0
  exact jI_go (va_runVN (As := As) (rest := rest) (mc := 0) (ms := 0) ⟨hx, hb, hml, hown, hts⟩ (ct H.size) ⟨va_cnB n hts hg hwc hrc.1 hrc.2 (hE.2 _ hl) (hts _ hini) hd hR, hts _ hins, hts _ hsel⟩ ⟨jPre.blind, hrv, jPre.here hE hZ hS (jFree hD hS hA hC) hPc hDc⟩ rfl hn hsz hst (lv_room hrm) hdg hcr) hA hP hD hS hC hf hb' kk
theorem jVNv {nm : MethodName} {bytes : ByteArray} {maxL nL index n : Nat} {wsC ws'C : List Cond} {rmC : Room} {As st0 : List Value} {cs cs' : List va_W} {is : List Nat} {bs' : List va_W} {b kb q0 ci : Nat} {w0 : va_W} {fs : List Value} {qC : vw_C} {C : String} {host : String} (hx : p.tables.exec = Jvm.exec) (hb : c.code = cc) (hml : c.maxLocals = nL) (hown : s.vm.findClass own = some m.cls) (hts : ∀ w ∈ Ts, w.before args s = true) (hE : jE D y s) (hZ : jZ A s s.heap) (hA : ∀ q : Nat, s.heap.size ≤ q → A q) (hP : va_P D vwCl bs.flatten H) (hD : va_D A bs.flatten) (hS : va_S A s.heap H locs) (ct : jV l D y nm wsC rmC (.ref b :: As) cs cs') (hC : is.map (fun i => bs[i]?) = cs.map some) (hnd : va_nd is = true) (hf : cs'.map (List.map Prod.fst) = cs.map (List.map Prod.fst)) (hb' : jPut bs is cs' = bs') (hg : GoodIn Ts wsC) (hl : Cond.methodLinkNest own index nm host ∈ jNests) (hwc : wsC = Cond.code nm bytes maxL none :: ws'C) (hini : Cond.initialized nm.cls ∈ Ts) (hins : Cond.instanceMethod nm ∈ Ts) (hsel : Cond.selects C nm nm ∈ Ts) (hd : nm.cls ≠ "java/lang/invoke/MethodHandle" ∧ nm.cls ≠ "java/lang/invoke/VarHandle" ∧ (parseMethodDescriptor nm.desc).map (fun d => d.parameters.length) = some n) (hR : rmC.frames + 1 ≤ R.frames ∧ 8 + (maxL + 11) + rmC.locals ≤ R.locals) (hrc : rmC.cells = 0 ∧ rmC.slots = 0) (hw0 : bs[kb]? = some w0) (h0 : w0[q0]? = some (b, .inr (ci, fs))) (hci : vwCl[ci]? = some qC) (hqC : qC.1 = C) (hn : As.length = n) (hsz : ls.size = nL) (hst : st0 = As.reverse ++ .ref b :: rest) (hrm : (rest.map fun v => v.category).sum ≤ 8) (hcr : cells ≤ R.cells ∧ slots ≤ R.slots) (hdg : decode cc pc = .ok (.invokevirtual index, 3))
    (kk : ∀ (H1 : Heap) (locs1 : List Loc), va_P D vwCl bs'.flatten H1 → va_D A bs'.flatten → va_S A s.heap H1 locs1 → W p l e R s m args below meth c H1 locs1 cells slots Q (F0 m (pc + 3) ls rest)) : W p l e R s m args below meth c H locs cells slots Q (F0 m pc ls st0) := by
  have hPc := jSubP hP hC
  have hDc := jSubD hD hC hnd
  have hrv : ∃ cell : Cell, H[b]? = some cell ∧ cell.vm.isStatics = false ∧ s.vm.findClass C = some cell.cls := by
    rw [← hqC]
    exact va_recv hE.1 (jB hP hw0) hci h0
  exact jV_go (va_runVN (As := As) (rest := rest) (mc := 0) (ms := 0) ⟨hx, hb, hml, hown, hts⟩ (ct H.size) ⟨va_cnB n hts hg hwc hrc.1 hrc.2 (hE.2 _ hl) (hts _ hini) hd hR, hts _ hins, hts _ hsel⟩ ⟨jPre.blind, hrv, jPre.here hE hZ hS (jFree hD hS hA hC) hPc hDc⟩ rfl hn hsz hst (lv_room hrm) hdg hcr) hA hP hD hS hC hf hb' kk
theorem jSi {nm : MethodName} {bytes : ByteArray} {maxL nL index n : Nat} {wsC ws'C : List Cond} {rmC : Room} {As st0 : List Value} {cs cs' : List va_W} {is : List Nat} {bs' : List va_W} {ty : FieldType} {r : Int32} (hx : p.tables.exec = Jvm.exec) (hb : c.code = cc) (hml : c.maxLocals = nL) (hown : s.vm.findClass own = some m.cls) (hts : ∀ w ∈ Ts, w.before args s = true) (hE : jE D y s) (hZ : jZ A s s.heap) (hA : ∀ q : Nat, s.heap.size ≤ q → A q) (hP : va_P D vwCl bs.flatten H) (hD : va_D A bs.flatten) (hS : va_S A s.heap H locs) (ct : jI l D y nm wsC rmC As cs r cs') (hC : is.map (fun i => bs[i]?) = cs.map some) (hnd : va_nd is = true) (hf : cs'.map (List.map Prod.fst) = cs.map (List.map Prod.fst)) (hb' : jPut bs is cs' = bs') (hg : GoodIn Ts (va_wsS own index nm wsC)) (hwc : wsC = Cond.code nm bytes maxL (some ty) :: ws'C) (hd : nm.cls ≠ "java/lang/invoke/MethodHandle" ∧ nm.cls ≠ "java/lang/invoke/VarHandle" ∧ (parseMethodDescriptor nm.desc).map (fun d => d.parameters.length) = some n) (hR : rmC.frames + 1 ≤ R.frames ∧ 8 + (maxL + 11) + rmC.locals ≤ R.locals) (hrc : rmC.cells = 0 ∧ rmC.slots = 0)  (hn : As.length = n) (hsz : ls.size = nL) (hst : st0 = As.reverse ++ rest) (hrm : (rest.map fun v => v.category).sum ≤ 8) (hcr : cells ≤ R.cells ∧ slots ≤ R.slots) (hdg : decode cc pc = .ok (.invokestatic index, 3))
    (kk : ∀ (H1 : Heap) (locs1 : List Loc), va_P D vwCl bs'.flatten H1 → va_D A bs'.flatten → va_S A s.heap H1 locs1 → W p l e R s m args below meth c H1 locs1 cells slots Q (F0 m (pc + 3) ls (.int r :: rest))) : W p l e R s m args below meth c H locs cells slots Q (F0 m pc ls st0) := by
  have hPc := jSubP hP hC
  have hDc := jSubD hD hC hnd
  exact jI_go (va_runS (As := As) (rest := rest) (mc := 0) (ms := 0) ⟨hx, hb, hml, hown, hts⟩ (ct H.size) (va_cwS n hts hg hwc hrc.1 hrc.2 hd hR) ⟨jPre.blind, jPre.here hE hZ hS (jFree hD hS hA hC) hPc hDc⟩ rfl hn hsz hst (lv_room hrm) hdg hcr) hA hP hD hS hC hf hb' kk
theorem jSv {nm : MethodName} {bytes : ByteArray} {maxL nL index n : Nat} {wsC ws'C : List Cond} {rmC : Room} {As st0 : List Value} {cs cs' : List va_W} {is : List Nat} {bs' : List va_W} (hx : p.tables.exec = Jvm.exec) (hb : c.code = cc) (hml : c.maxLocals = nL) (hown : s.vm.findClass own = some m.cls) (hts : ∀ w ∈ Ts, w.before args s = true) (hE : jE D y s) (hZ : jZ A s s.heap) (hA : ∀ q : Nat, s.heap.size ≤ q → A q) (hP : va_P D vwCl bs.flatten H) (hD : va_D A bs.flatten) (hS : va_S A s.heap H locs) (ct : jV l D y nm wsC rmC As cs cs') (hC : is.map (fun i => bs[i]?) = cs.map some) (hnd : va_nd is = true) (hf : cs'.map (List.map Prod.fst) = cs.map (List.map Prod.fst)) (hb' : jPut bs is cs' = bs') (hg : GoodIn Ts (va_wsS own index nm wsC)) (hwc : wsC = Cond.code nm bytes maxL none :: ws'C) (hd : nm.cls ≠ "java/lang/invoke/MethodHandle" ∧ nm.cls ≠ "java/lang/invoke/VarHandle" ∧ (parseMethodDescriptor nm.desc).map (fun d => d.parameters.length) = some n) (hR : rmC.frames + 1 ≤ R.frames ∧ 8 + (maxL + 11) + rmC.locals ≤ R.locals) (hrc : rmC.cells = 0 ∧ rmC.slots = 0)  (hn : As.length = n) (hsz : ls.size = nL) (hst : st0 = As.reverse ++ rest) (hrm : (rest.map fun v => v.category).sum ≤ 8) (hcr : cells ≤ R.cells ∧ slots ≤ R.slots) (hdg : decode cc pc = .ok (.invokestatic index, 3))
    (kk : ∀ (H1 : Heap) (locs1 : List Loc), va_P D vwCl bs'.flatten H1 → va_D A bs'.flatten → va_S A s.heap H1 locs1 → W p l e R s m args below meth c H1 locs1 cells slots Q (F0 m (pc + 3) ls rest)) : W p l e R s m args below meth c H locs cells slots Q (F0 m pc ls st0) := by
  have hPc := jSubP hP hC
  have hDc := jSubD hD hC hnd
  exact jV_go (va_runS (As := As) (rest := rest) (mc := 0) (ms := 0) ⟨hx, hb, hml, hown, hts⟩ (ct H.size) (va_cwS n hts hg hwc hrc.1 hrc.2 hd hR) ⟨jPre.blind, jPre.here hE hZ hS (jFree hD hS hA hC) hPc hDc⟩ rfl hn hsz hst (lv_room hrm) hdg hcr) hA hP hD hS hC hf hb' kk
theorem jSNi {nm : MethodName} {bytes : ByteArray} {maxL nL index n : Nat} {wsC ws'C : List Cond} {rmC : Room} {As st0 : List Value} {cs cs' : List va_W} {is : List Nat} {bs' : List va_W} {ty : FieldType} {r : Int32} {host : String} (hx : p.tables.exec = Jvm.exec) (hb : c.code = cc) (hml : c.maxLocals = nL) (hown : s.vm.findClass own = some m.cls) (hts : ∀ w ∈ Ts, w.before args s = true) (hE : jE D y s) (hZ : jZ A s s.heap) (hA : ∀ q : Nat, s.heap.size ≤ q → A q) (hP : va_P D vwCl bs.flatten H) (hD : va_D A bs.flatten) (hS : va_S A s.heap H locs) (ct : jI l D y nm wsC rmC As cs r cs') (hC : is.map (fun i => bs[i]?) = cs.map some) (hnd : va_nd is = true) (hf : cs'.map (List.map Prod.fst) = cs.map (List.map Prod.fst)) (hb' : jPut bs is cs' = bs') (hg : GoodIn Ts wsC) (hl : Cond.methodLinkNest own index nm host ∈ jNests) (hwc : wsC = Cond.code nm bytes maxL (some ty) :: ws'C) (hini : Cond.initialized nm.cls ∈ Ts) (hins : Cond.static nm ∈ Ts) (hd : nm.cls ≠ "java/lang/invoke/MethodHandle" ∧ nm.cls ≠ "java/lang/invoke/VarHandle" ∧ (parseMethodDescriptor nm.desc).map (fun d => d.parameters.length) = some n) (hR : rmC.frames + 1 ≤ R.frames ∧ 8 + (maxL + 11) + rmC.locals ≤ R.locals) (hrc : rmC.cells = 0 ∧ rmC.slots = 0)  (hn : As.length = n) (hsz : ls.size = nL) (hst : st0 = As.reverse ++ rest) (hrm : (rest.map fun v => v.category).sum ≤ 8) (hcr : cells ≤ R.cells ∧ slots ≤ R.slots) (hdg : decode cc pc = .ok (.invokestatic index, 3))
    (kk : ∀ (H1 : Heap) (locs1 : List Loc), va_P D vwCl bs'.flatten H1 → va_D A bs'.flatten → va_S A s.heap H1 locs1 → W p l e R s m args below meth c H1 locs1 cells slots Q (F0 m (pc + 3) ls (.int r :: rest))) : W p l e R s m args below meth c H locs cells slots Q (F0 m pc ls st0) := by
  have hPc := jSubP hP hC
  have hDc := jSubD hD hC hnd
  exact jI_go (va_runSN (As := As) (rest := rest) (mc := 0) (ms := 0) ⟨hx, hb, hml, hown, hts⟩ (ct H.size) ⟨va_cnB n hts hg hwc hrc.1 hrc.2 (hE.2 _ hl) (hts _ hini) hd hR, hts _ hins, trivial⟩ ⟨jPre.blind, jPre.here hE hZ hS (jFree hD hS hA hC) hPc hDc⟩ rfl hn hsz hst (lv_room hrm) hdg hcr) hA hP hD hS hC hf hb' kk
theorem jSNv {nm : MethodName} {bytes : ByteArray} {maxL nL index n : Nat} {wsC ws'C : List Cond} {rmC : Room} {As st0 : List Value} {cs cs' : List va_W} {is : List Nat} {bs' : List va_W} {host : String} (hx : p.tables.exec = Jvm.exec) (hb : c.code = cc) (hml : c.maxLocals = nL) (hown : s.vm.findClass own = some m.cls) (hts : ∀ w ∈ Ts, w.before args s = true) (hE : jE D y s) (hZ : jZ A s s.heap) (hA : ∀ q : Nat, s.heap.size ≤ q → A q) (hP : va_P D vwCl bs.flatten H) (hD : va_D A bs.flatten) (hS : va_S A s.heap H locs) (ct : jV l D y nm wsC rmC As cs cs') (hC : is.map (fun i => bs[i]?) = cs.map some) (hnd : va_nd is = true) (hf : cs'.map (List.map Prod.fst) = cs.map (List.map Prod.fst)) (hb' : jPut bs is cs' = bs') (hg : GoodIn Ts wsC) (hl : Cond.methodLinkNest own index nm host ∈ jNests) (hwc : wsC = Cond.code nm bytes maxL none :: ws'C) (hini : Cond.initialized nm.cls ∈ Ts) (hins : Cond.static nm ∈ Ts) (hd : nm.cls ≠ "java/lang/invoke/MethodHandle" ∧ nm.cls ≠ "java/lang/invoke/VarHandle" ∧ (parseMethodDescriptor nm.desc).map (fun d => d.parameters.length) = some n) (hR : rmC.frames + 1 ≤ R.frames ∧ 8 + (maxL + 11) + rmC.locals ≤ R.locals) (hrc : rmC.cells = 0 ∧ rmC.slots = 0)  (hn : As.length = n) (hsz : ls.size = nL) (hst : st0 = As.reverse ++ rest) (hrm : (rest.map fun v => v.category).sum ≤ 8) (hcr : cells ≤ R.cells ∧ slots ≤ R.slots) (hdg : decode cc pc = .ok (.invokestatic index, 3))
    (kk : ∀ (H1 : Heap) (locs1 : List Loc), va_P D vwCl bs'.flatten H1 → va_D A bs'.flatten → va_S A s.heap H1 locs1 → W p l e R s m args below meth c H1 locs1 cells slots Q (F0 m (pc + 3) ls rest)) : W p l e R s m args below meth c H locs cells slots Q (F0 m pc ls st0) := by
  have hPc := jSubP hP hC
  have hDc := jSubD hD hC hnd
  exact jV_go (va_runSN (As := As) (rest := rest) (mc := 0) (ms := 0) ⟨hx, hb, hml, hown, hts⟩ (ct H.size) ⟨va_cnB n hts hg hwc hrc.1 hrc.2 (hE.2 _ hl) (hts _ hini) hd hR, hts _ hins, trivial⟩ ⟨jPre.blind, jPre.here hE hZ hS (jFree hD hS hA hC) hPc hDc⟩ rfl hn hsz hst (lv_room hrm) hdg hcr) hA hP hD hS hC hf hb' kk
end JW
end
section
/-! what the system's blocks are: a state's cells b 0 .. b 7 by X, the object's own a 0 .. a 6 by T, the reference's a 0 .. a 8 by Y -/
def sv (i : Nat) (X : Nat → Nat → Int32) (f : Nat → Int32) : Nat → Nat → Int32 := fun k => if k = i then f else X k
def stoW (b : Nat → Nat) (X : Nat → Nat → Int32) : va_W := [(b 0, .inr (5, [.ref (b 1), .ref (b 3), .ref (b 4), .ref (b 6), .int (X 0 4)]))]
def engW (y : Nat → ClassId) (b : Nat → Nat) (X : Nat → Nat → Int32) : va_W := [(b 1, .inr (1, [.ref (b 2), .int (X 1 1), .int (X 1 2), .int (X 1 3), .int (X 1 4), .int (X 1 5), .int (X 1 6), .int (X 1 7), .int (X 1 8)])), (b 2, .inl (y 0, 7, .inl (X 2)))]
def attW (b : Nat → Nat) (X : Nat → Nat → Int32) : va_W := [(b 3, .inr (0, [.int (X 3 0), .int (X 3 1), .int (X 3 2), .int (X 3 3), .int (X 3 4)]))]
def logW (y : Nat → ClassId) (b : Nat → Nat) (X : Nat → Nat → Int32) : va_W := [(b 4, .inr (3, [.ref (b 5), .int (X 4 1)])), (b 5, .inl (y 0, 40, .inl (X 5)))]
def talW (y : Nat → ClassId) (b : Nat → Nat) (X : Nat → Nat → Int32) : va_W := [(b 6, .inr (6, [.ref (b 7), .int (X 6 1), .int (X 6 2), .int (X 6 3), .int (X 6 4), .int (X 6 5)])), (b 7, .inl (y 0, 4, .inl (X 7)))]
def stB (y : Nat → ClassId) (b : Nat → Nat) (X : Nat → Nat → Int32) : List va_W := [stoW b X, engW y b X, attW b X, logW y b X, talW y b X]
def hisF (bb : Nat → Nat → Nat) : Nat → Option Nat := fun k => some (bb (k + 4) 0)
def sloF (bb : Nat → Nat → Nat) : Nat → Option Nat := fun k => some (bb (k + 2) 0)
def appW (a : Nat → Nat) (bb : Nat → Nat → Nat) : va_W := [(a 0, .inr (7, [.ref (bb 0 0), .ref (bb 1 0), .ref (a 1), .ref (a 3), .ref (a 4), .ref (a 5)]))]
def hisW (y : Nat → ClassId) (a : Nat → Nat) (bb : Nat → Nat → Nat) (T : Nat → Nat → Int32) : va_W := [(a 1, .inr (2, [.ref (a 2), .int (T 1 1), .int (T 1 2)])), (a 2, .inl (y 3, 6, .inr (.inr (.inr (.inr (hisF bb))))))]
def sloW (y : Nat → ClassId) (a : Nat → Nat) (bb : Nat → Nat → Nat) : va_W := [(a 3, .inl (y 3, 2, .inr (.inr (.inr (.inr (sloF bb))))))]
def savW (y : Nat → ClassId) (a : Nat → Nat) (T : Nat → Nat → Int32) : va_W := [(a 4, .inl (y 1, 2, .inl (T 4)))]
def padW (y : Nat → ClassId) (a : Nat → Nat) (T : Nat → Nat → Int32) : va_W := [(a 5, .inr (4, [.ref (a 6), .int (T 5 1)])), (a 6, .inl (y 2, 60, .inl (T 6)))]
def modW (y : Nat → ClassId) (a : Nat → Nat) (Y : Nat → Nat → Int32) : va_W := [(a 0, .inr (8, [.ref (a 1), .ref (a 2), .ref (a 3), .ref (a 4), .ref (a 5), .ref (a 6), .ref (a 7), .ref (a 8), .int (Y 0 8), .int (Y 0 9), .int (Y 0 10), .int (Y 0 11)])), (a 1, .inl (y 0, 71, .inl (Y 1))), (a 2, .inl (y 0, 71, .inl (Y 2))), (a 3, .inl (y 0, 71, .inl (Y 3))), (a 4, .inl (y 0, 426, .inl (Y 4))), (a 5, .inl (y 0, 142, .inl (Y 5))), (a 6, .inl (y 1, 2, .inl (Y 6))), (a 7, .inl (y 0, 62, .inl (Y 7))), (a 8, .inl (y 2, 60, .inl (Y 8)))]
theorem jz {v : Int32} (h : v = 0 ∨ v = 1) : narrow .boolean (.int v) = .int v ∧ fits .boolean (.int v) = true := by
  rcases h with rfl | rfl <;> exact ⟨by decide, by decide⟩
theorem jcpy (f g : Nat → Int32) (n : Nat) : ∀ j, j < n → va_cpy f g 0 0 n j = f j := by
  intro j hj
  unfold va_cpy
  rw [if_pos ⟨Nat.zero_le _, by omega⟩]
  simp
theorem jne {x k : Int32} {n : Int} (hk : k.toInt = n) (h : ¬ x = k) : x.toInt ≠ n := fun e => h (Int32.toInt_inj.mp (e.trans hk.symm))
theorem jlk_ne {a o : Int} {r : List (Int × Int)} {d x : Int} (h : x ≠ a) (e : Op.lookupswitch.offset r d x = d) : Op.lookupswitch.offset ((a, o) :: r) d x = d := by
  show (if a = x then o else Op.lookupswitch.offset r d x) = d
  rw [if_neg (fun q => h q.symm)]
  exact e
theorem jvl {i : Int32} {n : Nat} (h : ¬ (i < 0 ∨ n ≤ i.toNatClampNeg)) : vp_in i n := h
theorem stB_ext {y : Nat → ClassId} {b : Nat → Nat} {X Z : Nat → Nat → Int32} (h0 : X 0 = Z 0) (h1 : X 1 = Z 1) (h2 : X 2 = Z 2) (h3 : X 3 = Z 3) (h4 : X 4 = Z 4) (h5 : X 5 = Z 5) (h6 : X 6 = Z 6) (h7 : X 7 = Z 7) : stB y b X = stB y b Z := by
  unfold stB stoW engW attW logW talW
  rw [h0, h1, h2, h3, h4, h5, h6, h7]
end
section
def r_X1_runs (X : Nat → Nat → Int32) : Int32 := (if ((X 1) 8) = 0 then 0 else (if ((X 1) 1) < 600 then 0 else 1))
set_option maxHeartbeats 4000000 in
set_option maxRecDepth 100000 in
theorem ct_X1_runs (l : Launch) (D : va_G) (y : Nat → ClassId) (b : Nat → Nat) (X : Nat → Nat → Int32)  : jI l D y yX1_runs wsX1_runs ({ frames := 0, cells := 0, slots := 0, locals := 0 } : Room) [.ref (b 1)] ([engW y b X]) (r_X1_runs X) ([engW y b X]) := by
  refine jI_of (cc := cX1_runs) (maxL := 1) (ty := .boolean) (by decide) rfl (Nat.le_of_ble_eq_true rfl) ?_
  intro p e s m below meth c A ls hx hb hr hlocks hml hown hts hE hZ hA hP hD hS hl
  have hown : s.vm.findClass RX1 = some m.cls := hown
  have hl : lv_has ls 1 [(0, .ref (b 1))] := hl
  have hu1 : ∀ w ∈ wsX10, w ∈ wsX1_runs := fun _ h => List.mem_cons_of_mem _ (List.mem_append_right _ h)
  refine lv_aload_n hx hb dX1_runs_0 rfl (lv_at hl 0 rfl) ?_
  refine jget (ci := 1) (C := RX1) (T := TX1) (N := 9) (v := .int ((X 1) 8)) hx hb hts hown hE hP hu1 rfl (kb := 0) rfl (q0 := 0) rfl 8 (by decide) (List.mem_of_getElem? (i := 1) rfl) rfl rfl dX1_runs_1 ?_
  refine lv_if_eq (tgt := 21) hx hb dX1_runs_4 (by decide) (fun c1 => ?_) (fun c1 => ?_)
  · refine lv_iconst (v := 0) hx hb dX1_runs_21 (by decide) ?_
    exact jI_ret hx hb hr hlocks hP hS dX1_runs_22 (by decide) (by rw [r_X1_runs, if_pos c1]) rfl
  · refine lv_aload_n hx hb dX1_runs_7 rfl (lv_at hl 0 rfl) ?_
    refine jget (ci := 1) (C := RX1) (T := TX1) (N := 9) (v := .int ((X 1) 1)) hx hb hts hown hE hP hu1 rfl (kb := 0) rfl (q0 := 0) rfl 1 (by decide) (List.mem_of_getElem? (i := 2) rfl) rfl rfl dX1_runs_8 ?_
    refine lv_sipush (v := 600) hx hb dX1_runs_11 (by decide) ?_
    refine lv_icmp_lt (tgt := 21) hx hb dX1_runs_14 (by decide) (fun c2 => ?_) (fun c2 => ?_)
    · refine lv_iconst (v := 0) hx hb dX1_runs_21 (by decide) ?_
      exact jI_ret hx hb hr hlocks hP hS dX1_runs_22 (by decide) (by rw [r_X1_runs, if_neg c1, if_pos c2]) rfl
    · refine lv_iconst (v := 1) hx hb dX1_runs_17 (by decide) ?_
      refine lv_goto (tgt := 22) hx hb dX1_runs_18 (by decide) ?_
      exact jI_ret hx hb hr hlocks hP hS dX1_runs_22 (by decide) (by rw [r_X1_runs, if_neg c1, if_neg c2]) rfl
def r_X1_isHot (X : Nat → Nat → Int32) : Int32 := (if ((X 1) 2) ≤ ((X 2) 4) then 0 else 1)
set_option maxHeartbeats 4000000 in
set_option maxRecDepth 100000 in
theorem ct_X1_isHot (l : Launch) (D : va_G) (y : Nat → ClassId) (b : Nat → Nat) (X : Nat → Nat → Int32)  : jI l D y yX1_isHot wsX1_isHot ({ frames := 0, cells := 0, slots := 0, locals := 0 } : Room) [.ref (b 1)] ([engW y b X]) (r_X1_isHot X) ([engW y b X]) := by
  refine jI_of (cc := cX1_isHot) (maxL := 1) (ty := .boolean) (by decide) rfl (Nat.le_of_ble_eq_true rfl) ?_
  intro p e s m below meth c A ls hx hb hr hlocks hml hown hts hE hZ hA hP hD hS hl
  have hown : s.vm.findClass RX1 = some m.cls := hown
  have hl : lv_has ls 1 [(0, .ref (b 1))] := hl
  have hu1 : ∀ w ∈ wsX10, w ∈ wsX1_isHot := fun _ h => List.mem_cons_of_mem _ (List.mem_append_right _ h)
  refine lv_aload_n hx hb dX1_isHot_0 rfl (lv_at hl 0 rfl) ?_
  refine jget (ci := 1) (C := RX1) (T := TX1) (N := 9) (v := .int ((X 1) 2)) hx hb hts hown hE hP hu1 rfl (kb := 0) rfl (q0 := 0) rfl 2 (by decide) (List.mem_of_getElem? (i := 1) rfl) rfl rfl dX1_isHot_1 ?_
  refine lv_aload_n hx hb dX1_isHot_4 rfl (lv_at hl 0 rfl) ?_
  refine jget (ci := 1) (C := RX1) (T := TX1) (N := 9) (v := .ref (b 2)) hx hb hts hown hE hP hu1 rfl (kb := 0) rfl (q0 := 0) rfl 0 (by decide) (List.mem_of_getElem? (i := 2) rfl) rfl rfl dX1_isHot_5 ?_
  refine lv_iconst (v := 4) hx hb dX1_isHot_8 (by decide) ?_
  refine jiald (kb := 0) (q0 := 1) (k := 4) hx hb hE hP rfl rfl (jvl (by decide)) (by decide) dX1_isHot_9 ?_
  refine W.eq (g2 := F0 m 10 ls [.int ((X 2) 4), .int ((X 1) 2)]) rfl ?_
  refine lv_icmp_le (tgt := 17) hx hb dX1_isHot_10 (by decide) (fun c1 => ?_) (fun c1 => ?_)
  · refine lv_iconst (v := 0) hx hb dX1_isHot_17 (by decide) ?_
    exact jI_ret hx hb hr hlocks hP hS dX1_isHot_18 (by decide) (by rw [r_X1_isHot, if_pos c1]) rfl
  · refine lv_iconst (v := 1) hx hb dX1_isHot_13 (by decide) ?_
    refine lv_goto (tgt := 18) hx hb dX1_isHot_14 (by decide) ?_
    exact jI_ret hx hb hr hlocks hP hS dX1_isHot_18 (by decide) (by rw [r_X1_isHot, if_neg c1]) rfl
def r_X1_isSpent (X : Nat → Nat → Int32) : Int32 := (if ((X 1) 7) = 0 then (if ((X 1) 8) = 0 then (if ((X 2) 5) ≤ ((X 1) 1) then 0 else 1) else 0) else 0)
set_option maxHeartbeats 4000000 in
set_option maxRecDepth 100000 in
theorem ct_X1_isSpent (l : Launch) (D : va_G) (y : Nat → ClassId) (b : Nat → Nat) (X : Nat → Nat → Int32)  : jI l D y yX1_isSpent wsX1_isSpent ({ frames := 0, cells := 0, slots := 0, locals := 0 } : Room) [.ref (b 1)] ([engW y b X]) (r_X1_isSpent X) ([engW y b X]) := by
  refine jI_of (cc := cX1_isSpent) (maxL := 1) (ty := .boolean) (by decide) rfl (Nat.le_of_ble_eq_true rfl) ?_
  intro p e s m below meth c A ls hx hb hr hlocks hml hown hts hE hZ hA hP hD hS hl
  have hown : s.vm.findClass RX1 = some m.cls := hown
  have hl : lv_has ls 1 [(0, .ref (b 1))] := hl
  have hu1 : ∀ w ∈ wsX10, w ∈ wsX1_isSpent := fun _ h => List.mem_cons_of_mem _ (List.mem_append_right _ h)
  refine lv_aload_n hx hb dX1_isSpent_0 rfl (lv_at hl 0 rfl) ?_
  refine jget (ci := 1) (C := RX1) (T := TX1) (N := 9) (v := .int ((X 1) 7)) hx hb hts hown hE hP hu1 rfl (kb := 0) rfl (q0 := 0) rfl 7 (by decide) (List.mem_of_getElem? (i := 1) rfl) rfl rfl dX1_isSpent_1 ?_
  refine lv_if_ne (tgt := 31) hx hb dX1_isSpent_4 (by decide) (fun c1 => ?_) (fun c1 => ?_)
  · refine lv_iconst (v := 0) hx hb dX1_isSpent_31 (by decide) ?_
    exact jI_ret hx hb hr hlocks hP hS dX1_isSpent_32 (by decide) (by rw [r_X1_isSpent, if_neg c1]) rfl
  · refine lv_aload_n hx hb dX1_isSpent_7 rfl (lv_at hl 0 rfl) ?_
    refine jget (ci := 1) (C := RX1) (T := TX1) (N := 9) (v := .int ((X 1) 8)) hx hb hts hown hE hP hu1 rfl (kb := 0) rfl (q0 := 0) rfl 8 (by decide) (List.mem_of_getElem? (i := 2) rfl) rfl rfl dX1_isSpent_8 ?_
    refine lv_if_ne (tgt := 31) hx hb dX1_isSpent_11 (by decide) (fun c2 => ?_) (fun c2 => ?_)
    · refine lv_iconst (v := 0) hx hb dX1_isSpent_31 (by decide) ?_
      exact jI_ret hx hb hr hlocks hP hS dX1_isSpent_32 (by decide) (by rw [r_X1_isSpent, if_pos c1, if_neg c2]) rfl
    · refine lv_aload_n hx hb dX1_isSpent_14 rfl (lv_at hl 0 rfl) ?_
      refine jget (ci := 1) (C := RX1) (T := TX1) (N := 9) (v := .int ((X 1) 1)) hx hb hts hown hE hP hu1 rfl (kb := 0) rfl (q0 := 0) rfl 1 (by decide) (List.mem_of_getElem? (i := 3) rfl) rfl rfl dX1_isSpent_15 ?_
      refine lv_aload_n hx hb dX1_isSpent_18 rfl (lv_at hl 0 rfl) ?_
      refine jget (ci := 1) (C := RX1) (T := TX1) (N := 9) (v := .ref (b 2)) hx hb hts hown hE hP hu1 rfl (kb := 0) rfl (q0 := 0) rfl 0 (by decide) (List.mem_of_getElem? (i := 4) rfl) rfl rfl dX1_isSpent_19 ?_
      refine lv_iconst (v := 5) hx hb dX1_isSpent_22 (by decide) ?_
      refine jiald (kb := 0) (q0 := 1) (k := 5) hx hb hE hP rfl rfl (jvl (by decide)) (by decide) dX1_isSpent_23 ?_
      refine W.eq (g2 := F0 m 24 ls [.int ((X 2) 5), .int ((X 1) 1)]) rfl ?_
      refine lv_icmp_ge (tgt := 31) hx hb dX1_isSpent_24 (by decide) (fun c3 => ?_) (fun c3 => ?_)
      · refine lv_iconst (v := 0) hx hb dX1_isSpent_31 (by decide) ?_
        exact jI_ret hx hb hr hlocks hP hS dX1_isSpent_32 (by decide) (by rw [r_X1_isSpent, if_pos c1, if_pos c2, if_pos c3]) rfl
      · refine lv_iconst (v := 1) hx hb dX1_isSpent_27 (by decide) ?_
        refine lv_goto (tgt := 32) hx hb dX1_isSpent_28 (by decide) ?_
        exact jI_ret hx hb hr hlocks hP hS dX1_isSpent_32 (by decide) (by rw [r_X1_isSpent, if_pos c1, if_pos c2, if_neg c3]) rfl
def v_X1_pushOfStarter_1 (X : Nat → Nat → Int32) : Int32 := (if (((X 1) 5) - 6) < 0 then 0 else (((X 1) 5) - 6))
def r_X1_pushOfStarter (X : Nat → Nat → Int32) : Int32 := (if 500 ≤ ((X 1) 1) then 0 else (if ((X 1) 5) = 0 then 0 else (if ((X 1) 7) = 0 then 0 else (if (v_X1_pushOfStarter_1 X) < 200 then ((((X 2) 0) * (v_X1_pushOfStarter_1 X)) / 200) else ((X 2) 0)))))
def m_X1_pushOfStarter_X_1 (X : Nat → Nat → Int32) : Nat → Int32 := (if 500 ≤ ((X 1) 1) then (upd (X 1) 7 0) else (if ((X 1) 5) = 0 then (upd (X 1) 7 0) else (if ((X 1) 7) = 0 then (X 1) else (if (v_X1_pushOfStarter_1 X) < 200 then (upd (X 1) 5 (v_X1_pushOfStarter_1 X)) else (upd (X 1) 5 (v_X1_pushOfStarter_1 X))))))
set_option maxHeartbeats 4000000 in
set_option maxRecDepth 100000 in
theorem ct_X1_pushOfStarter (l : Launch) (D : va_G) (y : Nat → ClassId) (b : Nat → Nat) (X : Nat → Nat → Int32)  : jI l D y yX1_pushOfStarter wsX1_pushOfStarter ({ frames := 1, cells := 0, slots := 0, locals := 14 } : Room) [.ref (b 1)] ([engW y b X]) (r_X1_pushOfStarter X) ([engW y b (sv 1 X (m_X1_pushOfStarter_X_1 X))]) := by
  refine jI_of (cc := cX1_pushOfStarter) (maxL := 2) (ty := .int) (by decide) rfl (Nat.le_of_ble_eq_true rfl) ?_
  intro p e s m below meth c A ls hx hb hr hlocks hml hown hts hE hZ hA hP hD hS hl
  have hown : s.vm.findClass RX1 = some m.cls := hown
  have hl : lv_has ls 2 [(0, .ref (b 1))] := hl
  have hu1 : ∀ w ∈ wsX10, w ∈ wsX1_pushOfStarter := fun _ h => List.mem_cons_of_mem _ (List.mem_append_right _ h)
  refine lv_aload_n hx hb dX1_pushOfStarter_0 rfl (lv_at hl 0 rfl) ?_
  refine jget (ci := 1) (C := RX1) (T := TX1) (N := 9) (v := .int ((X 1) 1)) hx hb hts hown hE hP hu1 rfl (kb := 0) rfl (q0 := 0) rfl 1 (by decide) (List.mem_of_getElem? (i := 1) rfl) rfl rfl dX1_pushOfStarter_1 ?_
  refine lv_sipush (v := 500) hx hb dX1_pushOfStarter_4 (by decide) ?_
  refine lv_icmp_ge (tgt := 17) hx hb dX1_pushOfStarter_7 (by decide) (fun c1 => ?_) (fun c1 => ?_)
  · refine lv_aload_n hx hb dX1_pushOfStarter_17 rfl (lv_at hl 0 rfl) ?_
    refine lv_iconst (v := 0) hx hb dX1_pushOfStarter_18 (by decide) ?_
    refine jput (ci := 1) (C := RX1) (T := TX1) (N := 9) (ty := .boolean) (bs' := [engW y b (sv 1 X (upd (X 1) 7 0))]) hx hb hts hown hE hP hD hS hu1 tyX1 tyX1_ok nmX1 rfl (kb := 0) rfl (q0 := 0) rfl 7 (by decide) (List.mem_of_getElem? (i := 3) rfl) rfl rfl rfl (by decide) (by decide) (Nat.le_of_ble_eq_true rfl) rfl dX1_pushOfStarter_19 (fun H locs hP hD hS => ?_)
    refine lv_aload_n hx hb dX1_pushOfStarter_22 rfl (lv_at hl 0 rfl) ?_
    refine jget (ci := 1) (C := RX1) (T := TX1) (N := 9) (v := .int 0) hx hb hts hown hE hP hu1 rfl (kb := 0) rfl (q0 := 0) rfl 7 (by decide) (List.mem_of_getElem? (i := 3) rfl) rfl rfl dX1_pushOfStarter_23 ?_
    refine lv_if_ne (tgt := 31) hx hb dX1_pushOfStarter_26 (by decide) (fun c2 => ?_) (fun c2 => ?_)
    · exact absurd (by decide) c2
    refine lv_iconst (v := 0) hx hb dX1_pushOfStarter_29 (by decide) ?_
    exact jI_ret hx hb hr hlocks hP hS dX1_pushOfStarter_30 rfl (by rw [r_X1_pushOfStarter, if_pos c1]) (by rw [m_X1_pushOfStarter_X_1, if_pos c1] <;> rfl)
  · refine lv_aload_n hx hb dX1_pushOfStarter_10 rfl (lv_at hl 0 rfl) ?_
    refine jget (ci := 1) (C := RX1) (T := TX1) (N := 9) (v := .int ((X 1) 5)) hx hb hts hown hE hP hu1 rfl (kb := 0) rfl (q0 := 0) rfl 5 (by decide) (List.mem_of_getElem? (i := 2) rfl) rfl rfl dX1_pushOfStarter_11 ?_
    refine lv_if_ne (tgt := 22) hx hb dX1_pushOfStarter_14 (by decide) (fun c3 => ?_) (fun c3 => ?_)
    · refine lv_aload_n hx hb dX1_pushOfStarter_22 rfl (lv_at hl 0 rfl) ?_
      refine jget (ci := 1) (C := RX1) (T := TX1) (N := 9) (v := .int ((X 1) 7)) hx hb hts hown hE hP hu1 rfl (kb := 0) rfl (q0 := 0) rfl 7 (by decide) (List.mem_of_getElem? (i := 3) rfl) rfl rfl dX1_pushOfStarter_23 ?_
      refine lv_if_ne (tgt := 31) hx hb dX1_pushOfStarter_26 (by decide) (fun c4 => ?_) (fun c4 => ?_)
      · refine lv_aload_n hx hb dX1_pushOfStarter_31 rfl (lv_at hl 0 rfl) ?_
        refine lv_aload_n hx hb dX1_pushOfStarter_32 rfl (lv_at hl 0 rfl) ?_
        refine jget (ci := 1) (C := RX1) (T := TX1) (N := 9) (v := .int ((X 1) 5)) hx hb hts hown hE hP hu1 rfl (kb := 0) rfl (q0 := 0) rfl 5 (by decide) (List.mem_of_getElem? (i := 2) rfl) rfl rfl dX1_pushOfStarter_33 ?_
        refine lv_bipush (v := 6) hx hb dX1_pushOfStarter_36 (by decide) ?_
        refine lv_isub hx hb dX1_pushOfStarter_38 ?_
        refine lv_iconst (v := 0) hx hb dX1_pushOfStarter_39 (by decide) ?_
        refine va_mmax hx hb (hml.trans hl.1.symm) hown (hts _ (List.mem_of_getElem? (i := 4) rfl)) (hts _ (List.mem_of_getElem? (i := 5) rfl)) (hts _ (List.mem_of_getElem? (i := 6) rfl)) (hts _ (List.mem_of_getElem? (i := 7) rfl)) (by decide) (Nat.le_of_ble_eq_true rfl) (Nat.zero_le _) (Nat.zero_le _) dX1_pushOfStarter_40 ?_
        refine jput (ci := 1) (C := RX1) (T := TX1) (N := 9) (ty := .int) (bs' := [engW y b (sv 1 X (upd (X 1) 5 (v_X1_pushOfStarter_1 X)))]) hx hb hts hown hE hP hD hS hu1 tyX1 tyX1_ok nmX1 rfl (kb := 0) rfl (q0 := 0) rfl 5 (by decide) (List.mem_of_getElem? (i := 2) rfl) rfl rfl rfl rfl rfl (Nat.le_of_ble_eq_true rfl) ((show ∀ (vg1 : Int32), List.set ([engW y b X]) 0 (List.set (engW y b X) 0 (b 1, .inr (1, List.set [.ref (b 2), .int (X 1 1), .int (X 1 2), .int (X 1 3), .int (X 1 4), .int (X 1 5), .int (X 1 6), .int (X 1 7), .int (X 1 8)] 5 (.int vg1)))) = [engW y b (sv 1 X (upd (X 1) 5 vg1))] from fun _ => rfl) (v_X1_pushOfStarter_1 X)) dX1_pushOfStarter_43 (fun H locs hP hD hS => ?_)
        refine lv_aload_n hx hb dX1_pushOfStarter_46 rfl (lv_at hl 0 rfl) ?_
        refine jget (ci := 1) (C := RX1) (T := TX1) (N := 9) (v := .ref (b 2)) hx hb hts hown hE hP hu1 rfl (kb := 0) rfl (q0 := 0) rfl 0 (by decide) (List.mem_of_getElem? (i := 8) rfl) rfl rfl dX1_pushOfStarter_47 ?_
        refine lv_iconst (v := 0) hx hb dX1_pushOfStarter_50 (by decide) ?_
        refine jiald (kb := 0) (q0 := 1) (k := 0) hx hb hE hP rfl rfl (jvl (by decide)) (by decide) dX1_pushOfStarter_51 ?_
        refine W.eq (g2 := F0 m 52 ls [.int ((X 2) 0)]) rfl ?_
        refine lv_istore_n (lv' := [(1, .int ((X 2) 0)), (0, .ref (b 1))]) hx hb dX1_pushOfStarter_52 rfl hl (by decide) rfl (fun ls hl => ?_)
        refine lv_aload_n hx hb dX1_pushOfStarter_53 rfl (lv_at hl 1 rfl) ?_
        refine jget (ci := 1) (C := RX1) (T := TX1) (N := 9) (v := .int (v_X1_pushOfStarter_1 X)) hx hb hts hown hE hP hu1 rfl (kb := 0) rfl (q0 := 0) rfl 5 (by decide) (List.mem_of_getElem? (i := 2) rfl) rfl rfl dX1_pushOfStarter_54 ?_
        refine lv_sipush (v := 200) hx hb dX1_pushOfStarter_57 (by decide) ?_
        refine lv_icmp_lt (tgt := 67) hx hb dX1_pushOfStarter_60 (by decide) (fun c5 => ?_) (fun c5 => ?_)
        · refine lv_iload_n hx hb dX1_pushOfStarter_67 rfl (lv_at hl 0 rfl) ?_
          refine lv_aload_n hx hb dX1_pushOfStarter_68 rfl (lv_at hl 1 rfl) ?_
          refine jget (ci := 1) (C := RX1) (T := TX1) (N := 9) (v := .int (v_X1_pushOfStarter_1 X)) hx hb hts hown hE hP hu1 rfl (kb := 0) rfl (q0 := 0) rfl 5 (by decide) (List.mem_of_getElem? (i := 2) rfl) rfl rfl dX1_pushOfStarter_69 ?_
          refine lv_imul hx hb dX1_pushOfStarter_72 ?_
          refine lv_sipush (v := 200) hx hb dX1_pushOfStarter_73 (by decide) ?_
          refine lv_idiv hx hb dX1_pushOfStarter_76 (by decide) ?_
          exact jI_ret hx hb hr hlocks hP hS dX1_pushOfStarter_77 rfl (by rw [r_X1_pushOfStarter, if_neg c1, if_neg c3, if_neg c4, if_pos c5]) (by rw [m_X1_pushOfStarter_X_1, if_neg c1, if_neg c3, if_neg c4, if_pos c5] <;> rfl)
        · refine lv_iload_n hx hb dX1_pushOfStarter_63 rfl (lv_at hl 0 rfl) ?_
          refine lv_goto (tgt := 77) hx hb dX1_pushOfStarter_64 (by decide) ?_
          exact jI_ret hx hb hr hlocks hP hS dX1_pushOfStarter_77 rfl (by rw [r_X1_pushOfStarter, if_neg c1, if_neg c3, if_neg c4, if_neg c5]) (by rw [m_X1_pushOfStarter_X_1, if_neg c1, if_neg c3, if_neg c4, if_neg c5] <;> rfl)
      · refine lv_iconst (v := 0) hx hb dX1_pushOfStarter_29 (by decide) ?_
        exact jI_ret hx hb hr hlocks hP hS dX1_pushOfStarter_30 rfl (by rw [r_X1_pushOfStarter, if_neg c1, if_neg c3, if_pos c4]) (by rw [m_X1_pushOfStarter_X_1, if_neg c1, if_neg c3, if_pos c4] <;> rfl)
    · refine lv_aload_n hx hb dX1_pushOfStarter_17 rfl (lv_at hl 0 rfl) ?_
      refine lv_iconst (v := 0) hx hb dX1_pushOfStarter_18 (by decide) ?_
      refine jput (ci := 1) (C := RX1) (T := TX1) (N := 9) (ty := .boolean) (bs' := [engW y b (sv 1 X (upd (X 1) 7 0))]) hx hb hts hown hE hP hD hS hu1 tyX1 tyX1_ok nmX1 rfl (kb := 0) rfl (q0 := 0) rfl 7 (by decide) (List.mem_of_getElem? (i := 3) rfl) rfl rfl rfl (by decide) (by decide) (Nat.le_of_ble_eq_true rfl) rfl dX1_pushOfStarter_19 (fun H locs hP hD hS => ?_)
      refine lv_aload_n hx hb dX1_pushOfStarter_22 rfl (lv_at hl 0 rfl) ?_
      refine jget (ci := 1) (C := RX1) (T := TX1) (N := 9) (v := .int 0) hx hb hts hown hE hP hu1 rfl (kb := 0) rfl (q0 := 0) rfl 7 (by decide) (List.mem_of_getElem? (i := 3) rfl) rfl rfl dX1_pushOfStarter_23 ?_
      refine lv_if_ne (tgt := 31) hx hb dX1_pushOfStarter_26 (by decide) (fun c6 => ?_) (fun c6 => ?_)
      · exact absurd (by decide) c6
      refine lv_iconst (v := 0) hx hb dX1_pushOfStarter_29 (by decide) ?_
      exact jI_ret hx hb hr hlocks hP hS dX1_pushOfStarter_30 rfl (by rw [r_X1_pushOfStarter, if_neg c1, if_pos c3]) (by rw [m_X1_pushOfStarter_X_1, if_neg c1, if_pos c3] <;> rfl)
def v_X1_changeFlame_1 (X : Nat → Nat → Int32) : Int32 := (if 100 < (((X 1) 4) + ((X 1) 3)) then 100 else (((X 1) 4) + ((X 1) 3)))
def m_X1_changeFlame_X_1 (X : Nat → Nat → Int32) : Nat → Int32 := (if ((X 1) 8) = 0 then (if ((X 1) 6) = 0 then (upd (upd (X 1) 4 (v_X1_changeFlame_1 X)) 8 0) else (if (v_X1_changeFlame_1 X) ≤ 0 then (upd (upd (X 1) 4 (v_X1_changeFlame_1 X)) 8 0) else (if ((X 1) 1) < ((X 2) 5) then (upd (upd (X 1) 4 (v_X1_changeFlame_1 X)) 8 0) else (if 700 < ((X 1) 1) then (upd (upd (X 1) 4 (v_X1_changeFlame_1 X)) 8 0) else (upd (upd (X 1) 4 (v_X1_changeFlame_1 X)) 8 1))))) else (if ((X 1) 3) = 0 then (if ((X 1) 4) = 0 then (upd (X 1) 8 0) else (if ((X 1) 1) < (((X 2) 5) / 2) then (upd (X 1) 8 0) else (upd (X 1) 8 1))) else (if ((X 1) 1) < (((X 2) 5) / 2) then (upd (X 1) 8 0) else (upd (X 1) 8 1))))
set_option maxHeartbeats 4000000 in
set_option maxRecDepth 100000 in
theorem ct_X1_changeFlame (l : Launch) (D : va_G) (y : Nat → ClassId) (b : Nat → Nat) (X : Nat → Nat → Int32)  : jV l D y yX1_changeFlame wsX1_changeFlame ({ frames := 1, cells := 0, slots := 0, locals := 14 } : Room) [.ref (b 1)] ([engW y b X]) ([engW y b (sv 1 X (m_X1_changeFlame_X_1 X))]) := by
  refine jV_of (cc := cX1_changeFlame) (maxL := 3) (by decide) rfl (Nat.le_of_ble_eq_true rfl) ?_
  intro p e s m below meth c A ls hx hb hr hlocks hml hown hts hE hZ hA hP hD hS hl
  have hown : s.vm.findClass RX1 = some m.cls := hown
  have hl : lv_has ls 3 [(0, .ref (b 1))] := hl
  have hu1 : ∀ w ∈ wsX10, w ∈ wsX1_changeFlame := fun _ h => List.mem_cons_of_mem _ (List.mem_append_right _ h)
  refine lv_aload_n hx hb dX1_changeFlame_0 rfl (lv_at hl 0 rfl) ?_
  refine jget (ci := 1) (C := RX1) (T := TX1) (N := 9) (v := .ref (b 2)) hx hb hts hown hE hP hu1 rfl (kb := 0) rfl (q0 := 0) rfl 0 (by decide) (List.mem_of_getElem? (i := 1) rfl) rfl rfl dX1_changeFlame_1 ?_
  refine lv_iconst (v := 5) hx hb dX1_changeFlame_4 (by decide) ?_
  refine jiald (kb := 0) (q0 := 1) (k := 5) hx hb hE hP rfl rfl (jvl (by decide)) (by decide) dX1_changeFlame_5 ?_
  refine W.eq (g2 := F0 m 6 ls [.int ((X 2) 5)]) rfl ?_
  refine lv_istore_n (lv' := [(1, .int ((X 2) 5)), (0, .ref (b 1))]) hx hb dX1_changeFlame_6 rfl hl (by decide) rfl (fun ls hl => ?_)
  refine lv_aload_n hx hb dX1_changeFlame_7 rfl (lv_at hl 1 rfl) ?_
  refine jget (ci := 1) (C := RX1) (T := TX1) (N := 9) (v := .int ((X 1) 8)) hx hb hts hown hE hP hu1 rfl (kb := 0) rfl (q0 := 0) rfl 8 (by decide) (List.mem_of_getElem? (i := 2) rfl) rfl rfl dX1_changeFlame_8 ?_
  refine lv_if_eq (tgt := 60) hx hb dX1_changeFlame_11 (by decide) (fun c1 => ?_) (fun c1 => ?_)
  · refine lv_aload_n hx hb dX1_changeFlame_60 rfl (lv_at hl 1 rfl) ?_
    refine lv_aload_n hx hb dX1_changeFlame_61 rfl (lv_at hl 1 rfl) ?_
    refine jget (ci := 1) (C := RX1) (T := TX1) (N := 9) (v := .int ((X 1) 4)) hx hb hts hown hE hP hu1 rfl (kb := 0) rfl (q0 := 0) rfl 4 (by decide) (List.mem_of_getElem? (i := 4) rfl) rfl rfl dX1_changeFlame_62 ?_
    refine lv_aload_n hx hb dX1_changeFlame_65 rfl (lv_at hl 1 rfl) ?_
    refine jget (ci := 1) (C := RX1) (T := TX1) (N := 9) (v := .int ((X 1) 3)) hx hb hts hown hE hP hu1 rfl (kb := 0) rfl (q0 := 0) rfl 3 (by decide) (List.mem_of_getElem? (i := 3) rfl) rfl rfl dX1_changeFlame_66 ?_
    refine lv_iadd hx hb dX1_changeFlame_69 ?_
    refine lv_bipush (v := 100) hx hb dX1_changeFlame_70 (by decide) ?_
    refine va_mmin hx hb (hml.trans hl.1.symm) hown (hts _ (List.mem_of_getElem? (i := 6) rfl)) (hts _ (List.mem_of_getElem? (i := 7) rfl)) (hts _ (List.mem_of_getElem? (i := 8) rfl)) (hts _ (List.mem_of_getElem? (i := 9) rfl)) (by decide) (Nat.le_of_ble_eq_true rfl) (Nat.zero_le _) (Nat.zero_le _) dX1_changeFlame_72 ?_
    refine jput (ci := 1) (C := RX1) (T := TX1) (N := 9) (ty := .int) (bs' := [engW y b (sv 1 X (upd (X 1) 4 (v_X1_changeFlame_1 X)))]) hx hb hts hown hE hP hD hS hu1 tyX1 tyX1_ok nmX1 rfl (kb := 0) rfl (q0 := 0) rfl 4 (by decide) (List.mem_of_getElem? (i := 4) rfl) rfl rfl rfl rfl rfl (Nat.le_of_ble_eq_true rfl) ((show ∀ (vg1 : Int32), List.set ([engW y b X]) 0 (List.set (engW y b X) 0 (b 1, .inr (1, List.set [.ref (b 2), .int (X 1 1), .int (X 1 2), .int (X 1 3), .int (X 1 4), .int (X 1 5), .int (X 1 6), .int (X 1 7), .int (X 1 8)] 4 (.int vg1)))) = [engW y b (sv 1 X (upd (X 1) 4 vg1))] from fun _ => rfl) (v_X1_changeFlame_1 X)) dX1_changeFlame_75 (fun H locs hP hD hS => ?_)
    refine lv_aload_n hx hb dX1_changeFlame_78 rfl (lv_at hl 1 rfl) ?_
    refine lv_aload_n hx hb dX1_changeFlame_79 rfl (lv_at hl 1 rfl) ?_
    refine jget (ci := 1) (C := RX1) (T := TX1) (N := 9) (v := .int ((X 1) 6)) hx hb hts hown hE hP hu1 rfl (kb := 0) rfl (q0 := 0) rfl 6 (by decide) (List.mem_of_getElem? (i := 10) rfl) rfl rfl dX1_changeFlame_80 ?_
    refine lv_if_eq (tgt := 115) hx hb dX1_changeFlame_83 (by decide) (fun c2 => ?_) (fun c2 => ?_)
    · refine lv_iconst (v := 0) hx hb dX1_changeFlame_115 (by decide) ?_
      refine jput (ci := 1) (C := RX1) (T := TX1) (N := 9) (ty := .boolean) (bs' := [engW y b (sv 1 X (upd (upd (X 1) 4 (v_X1_changeFlame_1 X)) 8 0))]) hx hb hts hown hE hP hD hS hu1 tyX1 tyX1_ok nmX1 rfl (kb := 0) rfl (q0 := 0) rfl 8 (by decide) (List.mem_of_getElem? (i := 2) rfl) rfl rfl rfl (by decide) (by decide) (Nat.le_of_ble_eq_true rfl) ((show ∀ (fg1 : Nat → Int32), List.set ([engW y b (sv 1 X fg1)]) 0 (List.set (engW y b (sv 1 X fg1)) 0 (b 1, .inr (1, List.set [.ref (b 2), .int ((sv 1 X fg1) 1 1), .int ((sv 1 X fg1) 1 2), .int ((sv 1 X fg1) 1 3), .int ((sv 1 X fg1) 1 4), .int ((sv 1 X fg1) 1 5), .int ((sv 1 X fg1) 1 6), .int ((sv 1 X fg1) 1 7), .int ((sv 1 X fg1) 1 8)] 8 (.int 0)))) = [engW y b (sv 1 X (upd fg1 8 0))] from fun _ => rfl) (upd (X 1) 4 (v_X1_changeFlame_1 X))) dX1_changeFlame_116 (fun H locs hP hD hS => ?_)
      exact jV_ret hx hb hr hlocks hP hS dX1_changeFlame_119 (by rw [m_X1_changeFlame_X_1, if_pos c1, if_pos c2] <;> rfl)
    · refine lv_aload_n hx hb dX1_changeFlame_86 rfl (lv_at hl 1 rfl) ?_
      refine jget (ci := 1) (C := RX1) (T := TX1) (N := 9) (v := .int (v_X1_changeFlame_1 X)) hx hb hts hown hE hP hu1 rfl (kb := 0) rfl (q0 := 0) rfl 4 (by decide) (List.mem_of_getElem? (i := 4) rfl) rfl rfl dX1_changeFlame_87 ?_
      refine lv_if_le (tgt := 115) hx hb dX1_changeFlame_90 (by decide) (fun c3 => ?_) (fun c3 => ?_)
      · refine lv_iconst (v := 0) hx hb dX1_changeFlame_115 (by decide) ?_
        refine jput (ci := 1) (C := RX1) (T := TX1) (N := 9) (ty := .boolean) (bs' := [engW y b (sv 1 X (upd (upd (X 1) 4 (v_X1_changeFlame_1 X)) 8 0))]) hx hb hts hown hE hP hD hS hu1 tyX1 tyX1_ok nmX1 rfl (kb := 0) rfl (q0 := 0) rfl 8 (by decide) (List.mem_of_getElem? (i := 2) rfl) rfl rfl rfl (by decide) (by decide) (Nat.le_of_ble_eq_true rfl) ((show ∀ (fg1 : Nat → Int32), List.set ([engW y b (sv 1 X fg1)]) 0 (List.set (engW y b (sv 1 X fg1)) 0 (b 1, .inr (1, List.set [.ref (b 2), .int ((sv 1 X fg1) 1 1), .int ((sv 1 X fg1) 1 2), .int ((sv 1 X fg1) 1 3), .int ((sv 1 X fg1) 1 4), .int ((sv 1 X fg1) 1 5), .int ((sv 1 X fg1) 1 6), .int ((sv 1 X fg1) 1 7), .int ((sv 1 X fg1) 1 8)] 8 (.int 0)))) = [engW y b (sv 1 X (upd fg1 8 0))] from fun _ => rfl) (upd (X 1) 4 (v_X1_changeFlame_1 X))) dX1_changeFlame_116 (fun H locs hP hD hS => ?_)
        exact jV_ret hx hb hr hlocks hP hS dX1_changeFlame_119 (by rw [m_X1_changeFlame_X_1, if_pos c1, if_neg c2, if_pos c3] <;> rfl)
      · refine lv_aload_n hx hb dX1_changeFlame_93 rfl (lv_at hl 1 rfl) ?_
        refine jget (ci := 1) (C := RX1) (T := TX1) (N := 9) (v := .int ((X 1) 1)) hx hb hts hown hE hP hu1 rfl (kb := 0) rfl (q0 := 0) rfl 1 (by decide) (List.mem_of_getElem? (i := 5) rfl) rfl rfl dX1_changeFlame_94 ?_
        refine lv_iload_n hx hb dX1_changeFlame_97 rfl (lv_at hl 0 rfl) ?_
        refine lv_icmp_lt (tgt := 115) hx hb dX1_changeFlame_98 (by decide) (fun c4 => ?_) (fun c4 => ?_)
        · refine lv_iconst (v := 0) hx hb dX1_changeFlame_115 (by decide) ?_
          refine jput (ci := 1) (C := RX1) (T := TX1) (N := 9) (ty := .boolean) (bs' := [engW y b (sv 1 X (upd (upd (X 1) 4 (v_X1_changeFlame_1 X)) 8 0))]) hx hb hts hown hE hP hD hS hu1 tyX1 tyX1_ok nmX1 rfl (kb := 0) rfl (q0 := 0) rfl 8 (by decide) (List.mem_of_getElem? (i := 2) rfl) rfl rfl rfl (by decide) (by decide) (Nat.le_of_ble_eq_true rfl) ((show ∀ (fg1 : Nat → Int32), List.set ([engW y b (sv 1 X fg1)]) 0 (List.set (engW y b (sv 1 X fg1)) 0 (b 1, .inr (1, List.set [.ref (b 2), .int ((sv 1 X fg1) 1 1), .int ((sv 1 X fg1) 1 2), .int ((sv 1 X fg1) 1 3), .int ((sv 1 X fg1) 1 4), .int ((sv 1 X fg1) 1 5), .int ((sv 1 X fg1) 1 6), .int ((sv 1 X fg1) 1 7), .int ((sv 1 X fg1) 1 8)] 8 (.int 0)))) = [engW y b (sv 1 X (upd fg1 8 0))] from fun _ => rfl) (upd (X 1) 4 (v_X1_changeFlame_1 X))) dX1_changeFlame_116 (fun H locs hP hD hS => ?_)
          exact jV_ret hx hb hr hlocks hP hS dX1_changeFlame_119 (by rw [m_X1_changeFlame_X_1, if_pos c1, if_neg c2, if_neg c3, if_pos c4] <;> rfl)
        · refine lv_aload_n hx hb dX1_changeFlame_101 rfl (lv_at hl 1 rfl) ?_
          refine jget (ci := 1) (C := RX1) (T := TX1) (N := 9) (v := .int ((X 1) 1)) hx hb hts hown hE hP hu1 rfl (kb := 0) rfl (q0 := 0) rfl 1 (by decide) (List.mem_of_getElem? (i := 5) rfl) rfl rfl dX1_changeFlame_102 ?_
          refine lv_sipush (v := 700) hx hb dX1_changeFlame_105 (by decide) ?_
          refine lv_icmp_gt (tgt := 115) hx hb dX1_changeFlame_108 (by decide) (fun c5 => ?_) (fun c5 => ?_)
          · refine lv_iconst (v := 0) hx hb dX1_changeFlame_115 (by decide) ?_
            refine jput (ci := 1) (C := RX1) (T := TX1) (N := 9) (ty := .boolean) (bs' := [engW y b (sv 1 X (upd (upd (X 1) 4 (v_X1_changeFlame_1 X)) 8 0))]) hx hb hts hown hE hP hD hS hu1 tyX1 tyX1_ok nmX1 rfl (kb := 0) rfl (q0 := 0) rfl 8 (by decide) (List.mem_of_getElem? (i := 2) rfl) rfl rfl rfl (by decide) (by decide) (Nat.le_of_ble_eq_true rfl) ((show ∀ (fg1 : Nat → Int32), List.set ([engW y b (sv 1 X fg1)]) 0 (List.set (engW y b (sv 1 X fg1)) 0 (b 1, .inr (1, List.set [.ref (b 2), .int ((sv 1 X fg1) 1 1), .int ((sv 1 X fg1) 1 2), .int ((sv 1 X fg1) 1 3), .int ((sv 1 X fg1) 1 4), .int ((sv 1 X fg1) 1 5), .int ((sv 1 X fg1) 1 6), .int ((sv 1 X fg1) 1 7), .int ((sv 1 X fg1) 1 8)] 8 (.int 0)))) = [engW y b (sv 1 X (upd fg1 8 0))] from fun _ => rfl) (upd (X 1) 4 (v_X1_changeFlame_1 X))) dX1_changeFlame_116 (fun H locs hP hD hS => ?_)
            exact jV_ret hx hb hr hlocks hP hS dX1_changeFlame_119 (by rw [m_X1_changeFlame_X_1, if_pos c1, if_neg c2, if_neg c3, if_neg c4, if_pos c5] <;> rfl)
          · refine lv_iconst (v := 1) hx hb dX1_changeFlame_111 (by decide) ?_
            refine lv_goto (tgt := 116) hx hb dX1_changeFlame_112 (by decide) ?_
            refine jput (ci := 1) (C := RX1) (T := TX1) (N := 9) (ty := .boolean) (bs' := [engW y b (sv 1 X (upd (upd (X 1) 4 (v_X1_changeFlame_1 X)) 8 1))]) hx hb hts hown hE hP hD hS hu1 tyX1 tyX1_ok nmX1 rfl (kb := 0) rfl (q0 := 0) rfl 8 (by decide) (List.mem_of_getElem? (i := 2) rfl) rfl rfl rfl (by decide) (by decide) (Nat.le_of_ble_eq_true rfl) ((show ∀ (fg1 : Nat → Int32), List.set ([engW y b (sv 1 X fg1)]) 0 (List.set (engW y b (sv 1 X fg1)) 0 (b 1, .inr (1, List.set [.ref (b 2), .int ((sv 1 X fg1) 1 1), .int ((sv 1 X fg1) 1 2), .int ((sv 1 X fg1) 1 3), .int ((sv 1 X fg1) 1 4), .int ((sv 1 X fg1) 1 5), .int ((sv 1 X fg1) 1 6), .int ((sv 1 X fg1) 1 7), .int ((sv 1 X fg1) 1 8)] 8 (.int 1)))) = [engW y b (sv 1 X (upd fg1 8 1))] from fun _ => rfl) (upd (X 1) 4 (v_X1_changeFlame_1 X))) dX1_changeFlame_116 (fun H locs hP hD hS => ?_)
            exact jV_ret hx hb hr hlocks hP hS dX1_changeFlame_119 (by rw [m_X1_changeFlame_X_1, if_pos c1, if_neg c2, if_neg c3, if_neg c4, if_neg c5] <;> rfl)
  · refine lv_aload_n hx hb dX1_changeFlame_14 rfl (lv_at hl 1 rfl) ?_
    refine jget (ci := 1) (C := RX1) (T := TX1) (N := 9) (v := .int ((X 1) 3)) hx hb hts hown hE hP hu1 rfl (kb := 0) rfl (q0 := 0) rfl 3 (by decide) (List.mem_of_getElem? (i := 3) rfl) rfl rfl dX1_changeFlame_15 ?_
    refine lv_if_ne (tgt := 32) hx hb dX1_changeFlame_18 (by decide) (fun c6 => ?_) (fun c6 => ?_)
    · refine lv_iconst (v := 0) hx hb dX1_changeFlame_32 (by decide) ?_
      refine lv_istore_n (lv' := [(2, .int 0), (1, .int ((X 2) 5)), (0, .ref (b 1))]) hx hb dX1_changeFlame_33 rfl hl (by decide) rfl (fun ls hl => ?_)
      refine lv_aload_n hx hb dX1_changeFlame_34 rfl (lv_at hl 2 rfl) ?_
      refine lv_iload_n hx hb dX1_changeFlame_35 rfl (lv_at hl 0 rfl) ?_
      refine lv_if_ne (tgt := 53) hx hb dX1_changeFlame_36 (by decide) (fun c7 => ?_) (fun c7 => ?_)
      · exact absurd (by decide) c7
      refine lv_aload_n hx hb dX1_changeFlame_39 rfl (lv_at hl 2 rfl) ?_
      refine jget (ci := 1) (C := RX1) (T := TX1) (N := 9) (v := .int ((X 1) 1)) hx hb hts hown hE hP hu1 rfl (kb := 0) rfl (q0 := 0) rfl 1 (by decide) (List.mem_of_getElem? (i := 5) rfl) rfl rfl dX1_changeFlame_40 ?_
      refine lv_iload_n hx hb dX1_changeFlame_43 rfl (lv_at hl 1 rfl) ?_
      refine lv_iconst (v := 2) hx hb dX1_changeFlame_44 (by decide) ?_
      refine lv_idiv hx hb dX1_changeFlame_45 (by decide) ?_
      refine lv_icmp_lt (tgt := 53) hx hb dX1_changeFlame_46 (by decide) (fun c8 => ?_) (fun c8 => ?_)
      · refine lv_iconst (v := 0) hx hb dX1_changeFlame_53 (by decide) ?_
        refine jput (ci := 1) (C := RX1) (T := TX1) (N := 9) (ty := .boolean) (bs' := [engW y b (sv 1 X (upd (X 1) 8 0))]) hx hb hts hown hE hP hD hS hu1 tyX1 tyX1_ok nmX1 rfl (kb := 0) rfl (q0 := 0) rfl 8 (by decide) (List.mem_of_getElem? (i := 2) rfl) rfl rfl rfl (by decide) (by decide) (Nat.le_of_ble_eq_true rfl) rfl dX1_changeFlame_54 (fun H locs hP hD hS => ?_)
        refine lv_goto (tgt := 119) hx hb dX1_changeFlame_57 (by decide) ?_
        exact jV_ret hx hb hr hlocks hP hS dX1_changeFlame_119 (by rw [m_X1_changeFlame_X_1, if_neg c1, if_neg c6, if_pos c8] <;> rfl)
      · refine lv_iconst (v := 1) hx hb dX1_changeFlame_49 (by decide) ?_
        refine lv_goto (tgt := 54) hx hb dX1_changeFlame_50 (by decide) ?_
        refine jput (ci := 1) (C := RX1) (T := TX1) (N := 9) (ty := .boolean) (bs' := [engW y b (sv 1 X (upd (X 1) 8 1))]) hx hb hts hown hE hP hD hS hu1 tyX1 tyX1_ok nmX1 rfl (kb := 0) rfl (q0 := 0) rfl 8 (by decide) (List.mem_of_getElem? (i := 2) rfl) rfl rfl rfl (by decide) (by decide) (Nat.le_of_ble_eq_true rfl) rfl dX1_changeFlame_54 (fun H locs hP hD hS => ?_)
        refine lv_goto (tgt := 119) hx hb dX1_changeFlame_57 (by decide) ?_
        exact jV_ret hx hb hr hlocks hP hS dX1_changeFlame_119 (by rw [m_X1_changeFlame_X_1, if_neg c1, if_neg c6, if_neg c8] <;> rfl)
    · refine lv_aload_n hx hb dX1_changeFlame_21 rfl (lv_at hl 1 rfl) ?_
      refine jget (ci := 1) (C := RX1) (T := TX1) (N := 9) (v := .int ((X 1) 4)) hx hb hts hown hE hP hu1 rfl (kb := 0) rfl (q0 := 0) rfl 4 (by decide) (List.mem_of_getElem? (i := 4) rfl) rfl rfl dX1_changeFlame_22 ?_
      refine lv_if_ne (tgt := 32) hx hb dX1_changeFlame_25 (by decide) (fun c9 => ?_) (fun c9 => ?_)
      · refine lv_iconst (v := 0) hx hb dX1_changeFlame_32 (by decide) ?_
        refine lv_istore_n (lv' := [(2, .int 0), (1, .int ((X 2) 5)), (0, .ref (b 1))]) hx hb dX1_changeFlame_33 rfl hl (by decide) rfl (fun ls hl => ?_)
        refine lv_aload_n hx hb dX1_changeFlame_34 rfl (lv_at hl 2 rfl) ?_
        refine lv_iload_n hx hb dX1_changeFlame_35 rfl (lv_at hl 0 rfl) ?_
        refine lv_if_ne (tgt := 53) hx hb dX1_changeFlame_36 (by decide) (fun c10 => ?_) (fun c10 => ?_)
        · exact absurd (by decide) c10
        refine lv_aload_n hx hb dX1_changeFlame_39 rfl (lv_at hl 2 rfl) ?_
        refine jget (ci := 1) (C := RX1) (T := TX1) (N := 9) (v := .int ((X 1) 1)) hx hb hts hown hE hP hu1 rfl (kb := 0) rfl (q0 := 0) rfl 1 (by decide) (List.mem_of_getElem? (i := 5) rfl) rfl rfl dX1_changeFlame_40 ?_
        refine lv_iload_n hx hb dX1_changeFlame_43 rfl (lv_at hl 1 rfl) ?_
        refine lv_iconst (v := 2) hx hb dX1_changeFlame_44 (by decide) ?_
        refine lv_idiv hx hb dX1_changeFlame_45 (by decide) ?_
        refine lv_icmp_lt (tgt := 53) hx hb dX1_changeFlame_46 (by decide) (fun c11 => ?_) (fun c11 => ?_)
        · refine lv_iconst (v := 0) hx hb dX1_changeFlame_53 (by decide) ?_
          refine jput (ci := 1) (C := RX1) (T := TX1) (N := 9) (ty := .boolean) (bs' := [engW y b (sv 1 X (upd (X 1) 8 0))]) hx hb hts hown hE hP hD hS hu1 tyX1 tyX1_ok nmX1 rfl (kb := 0) rfl (q0 := 0) rfl 8 (by decide) (List.mem_of_getElem? (i := 2) rfl) rfl rfl rfl (by decide) (by decide) (Nat.le_of_ble_eq_true rfl) rfl dX1_changeFlame_54 (fun H locs hP hD hS => ?_)
          refine lv_goto (tgt := 119) hx hb dX1_changeFlame_57 (by decide) ?_
          exact jV_ret hx hb hr hlocks hP hS dX1_changeFlame_119 (by rw [m_X1_changeFlame_X_1, if_neg c1, if_pos c6, if_neg c9, if_pos c11] <;> rfl)
        · refine lv_iconst (v := 1) hx hb dX1_changeFlame_49 (by decide) ?_
          refine lv_goto (tgt := 54) hx hb dX1_changeFlame_50 (by decide) ?_
          refine jput (ci := 1) (C := RX1) (T := TX1) (N := 9) (ty := .boolean) (bs' := [engW y b (sv 1 X (upd (X 1) 8 1))]) hx hb hts hown hE hP hD hS hu1 tyX1 tyX1_ok nmX1 rfl (kb := 0) rfl (q0 := 0) rfl 8 (by decide) (List.mem_of_getElem? (i := 2) rfl) rfl rfl rfl (by decide) (by decide) (Nat.le_of_ble_eq_true rfl) rfl dX1_changeFlame_54 (fun H locs hP hD hS => ?_)
          refine lv_goto (tgt := 119) hx hb dX1_changeFlame_57 (by decide) ?_
          exact jV_ret hx hb hr hlocks hP hS dX1_changeFlame_119 (by rw [m_X1_changeFlame_X_1, if_neg c1, if_pos c6, if_neg c9, if_neg c11] <;> rfl)
      · refine lv_iconst (v := 1) hx hb dX1_changeFlame_28 (by decide) ?_
        refine lv_goto (tgt := 33) hx hb dX1_changeFlame_29 (by decide) ?_
        refine lv_istore_n (lv' := [(2, .int 1), (1, .int ((X 2) 5)), (0, .ref (b 1))]) hx hb dX1_changeFlame_33 rfl hl (by decide) rfl (fun ls hl => ?_)
        refine lv_aload_n hx hb dX1_changeFlame_34 rfl (lv_at hl 2 rfl) ?_
        refine lv_iload_n hx hb dX1_changeFlame_35 rfl (lv_at hl 0 rfl) ?_
        refine lv_if_ne (tgt := 53) hx hb dX1_changeFlame_36 (by decide) (fun c12 => ?_) (fun c12 => ?_)
        rotate_left
        · exact absurd c12 (by decide)
        refine lv_iconst (v := 0) hx hb dX1_changeFlame_53 (by decide) ?_
        refine jput (ci := 1) (C := RX1) (T := TX1) (N := 9) (ty := .boolean) (bs' := [engW y b (sv 1 X (upd (X 1) 8 0))]) hx hb hts hown hE hP hD hS hu1 tyX1 tyX1_ok nmX1 rfl (kb := 0) rfl (q0 := 0) rfl 8 (by decide) (List.mem_of_getElem? (i := 2) rfl) rfl rfl rfl (by decide) (by decide) (Nat.le_of_ble_eq_true rfl) rfl dX1_changeFlame_54 (fun H locs hP hD hS => ?_)
        refine lv_goto (tgt := 119) hx hb dX1_changeFlame_57 (by decide) ?_
        exact jV_ret hx hb hr hlocks hP hS dX1_changeFlame_119 (by rw [m_X1_changeFlame_X_1, if_neg c1, if_pos c6, if_pos c9] <;> rfl)
def r_X1_burn (X : Nat → Nat → Int32) : Int32 := (if ((X 1) 8) = 0 then 0 else (((X 1) 3) + ((((X 1) 4) + 3) / 4)))
def m_X1_burn_X_1 (X : Nat → Nat → Int32) : Nat → Int32 := (if ((X 1) 8) = 0 then (X 1) else (upd (X 1) 4 (((X 1) 4) - ((((X 1) 4) + 3) / 4))))
set_option maxHeartbeats 4000000 in
set_option maxRecDepth 100000 in
theorem ct_X1_burn (l : Launch) (D : va_G) (y : Nat → ClassId) (b : Nat → Nat) (X : Nat → Nat → Int32)  : jI l D y yX1_burn wsX1_burn ({ frames := 0, cells := 0, slots := 0, locals := 0 } : Room) [.ref (b 1)] ([engW y b X]) (r_X1_burn X) ([engW y b (sv 1 X (m_X1_burn_X_1 X))]) := by
  refine jI_of (cc := cX1_burn) (maxL := 2) (ty := .int) (by decide) rfl (Nat.le_of_ble_eq_true rfl) ?_
  intro p e s m below meth c A ls hx hb hr hlocks hml hown hts hE hZ hA hP hD hS hl
  have hown : s.vm.findClass RX1 = some m.cls := hown
  have hl : lv_has ls 2 [(0, .ref (b 1))] := hl
  have hu1 : ∀ w ∈ wsX10, w ∈ wsX1_burn := fun _ h => List.mem_cons_of_mem _ (List.mem_append_right _ h)
  refine lv_aload_n hx hb dX1_burn_0 rfl (lv_at hl 0 rfl) ?_
  refine jget (ci := 1) (C := RX1) (T := TX1) (N := 9) (v := .int ((X 1) 8)) hx hb hts hown hE hP hu1 rfl (kb := 0) rfl (q0 := 0) rfl 8 (by decide) (List.mem_of_getElem? (i := 1) rfl) rfl rfl dX1_burn_1 ?_
  refine lv_if_ne (tgt := 9) hx hb dX1_burn_4 (by decide) (fun c1 => ?_) (fun c1 => ?_)
  · refine lv_aload_n hx hb dX1_burn_9 rfl (lv_at hl 0 rfl) ?_
    refine jget (ci := 1) (C := RX1) (T := TX1) (N := 9) (v := .int ((X 1) 4)) hx hb hts hown hE hP hu1 rfl (kb := 0) rfl (q0 := 0) rfl 4 (by decide) (List.mem_of_getElem? (i := 2) rfl) rfl rfl dX1_burn_10 ?_
    refine lv_iconst (v := 3) hx hb dX1_burn_13 (by decide) ?_
    refine lv_iadd hx hb dX1_burn_14 ?_
    refine lv_iconst (v := 4) hx hb dX1_burn_15 (by decide) ?_
    refine lv_idiv hx hb dX1_burn_16 (by decide) ?_
    refine lv_istore_n (lv' := [(1, .int ((((X 1) 4) + 3) / 4)), (0, .ref (b 1))]) hx hb dX1_burn_17 rfl hl (by decide) rfl (fun ls hl => ?_)
    refine lv_aload_n hx hb dX1_burn_18 rfl (lv_at hl 1 rfl) ?_
    refine lv_dup hx hb dX1_burn_19 rfl ?_
    refine jget (ci := 1) (C := RX1) (T := TX1) (N := 9) (v := .int ((X 1) 4)) hx hb hts hown hE hP hu1 rfl (kb := 0) rfl (q0 := 0) rfl 4 (by decide) (List.mem_of_getElem? (i := 2) rfl) rfl rfl dX1_burn_20 ?_
    refine lv_iload_n hx hb dX1_burn_23 rfl (lv_at hl 0 rfl) ?_
    refine lv_isub hx hb dX1_burn_24 ?_
    refine jput (ci := 1) (C := RX1) (T := TX1) (N := 9) (ty := .int) (bs' := [engW y b (sv 1 X (upd (X 1) 4 (((X 1) 4) - ((((X 1) 4) + 3) / 4))))]) hx hb hts hown hE hP hD hS hu1 tyX1 tyX1_ok nmX1 rfl (kb := 0) rfl (q0 := 0) rfl 4 (by decide) (List.mem_of_getElem? (i := 2) rfl) rfl rfl rfl rfl rfl (Nat.le_of_ble_eq_true rfl) ((show ∀ (vg1 : Int32), List.set ([engW y b X]) 0 (List.set (engW y b X) 0 (b 1, .inr (1, List.set [.ref (b 2), .int (X 1 1), .int (X 1 2), .int (X 1 3), .int (X 1 4), .int (X 1 5), .int (X 1 6), .int (X 1 7), .int (X 1 8)] 4 (.int vg1)))) = [engW y b (sv 1 X (upd (X 1) 4 vg1))] from fun _ => rfl) (((X 1) 4) - ((((X 1) 4) + 3) / 4))) dX1_burn_25 (fun H locs hP hD hS => ?_)
    refine lv_aload_n hx hb dX1_burn_28 rfl (lv_at hl 1 rfl) ?_
    refine jget (ci := 1) (C := RX1) (T := TX1) (N := 9) (v := .int ((X 1) 3)) hx hb hts hown hE hP hu1 rfl (kb := 0) rfl (q0 := 0) rfl 3 (by decide) (List.mem_of_getElem? (i := 3) rfl) rfl rfl dX1_burn_29 ?_
    refine lv_iload_n hx hb dX1_burn_32 rfl (lv_at hl 0 rfl) ?_
    refine lv_iadd hx hb dX1_burn_33 ?_
    exact jI_ret hx hb hr hlocks hP hS dX1_burn_34 rfl (by rw [r_X1_burn, if_neg c1]) (by rw [m_X1_burn_X_1, if_neg c1] <;> rfl)
  · refine lv_iconst (v := 0) hx hb dX1_burn_7 (by decide) ?_
    exact jI_ret hx hb hr hlocks hP hS dX1_burn_8 rfl (by rw [r_X1_burn, if_pos c1]) (by rw [m_X1_burn_X_1, if_pos c1] <;> rfl)
def v_X1_changeSpeed_1 (X : Nat → Nat → Int32) (p0 : Int32) (p1 : Int32) : Int32 := ((((X 1) 1) + p0) + ((p1 * (((X 1) 1) + 100)) / 160))
def v_X1_changeSpeed_2 (X : Nat → Nat → Int32) (p0 : Int32) (p1 : Int32) : Int32 := (if 1100 < ((v_X1_changeSpeed_1 X p0 p1) - (((v_X1_changeSpeed_1 X p0 p1) * ((X 2) 1)) / 100)) then 1100 else ((v_X1_changeSpeed_1 X p0 p1) - (((v_X1_changeSpeed_1 X p0 p1) * ((X 2) 1)) / 100)))
def m_X1_changeSpeed_X_1 (X : Nat → Nat → Int32) (p0 : Int32) (p1 : Int32) : Nat → Int32 := (upd (X 1) 1 (v_X1_changeSpeed_2 X p0 p1))
set_option maxHeartbeats 4000000 in
set_option maxRecDepth 100000 in
theorem ct_X1_changeSpeed (l : Launch) (D : va_G) (y : Nat → ClassId) (b : Nat → Nat) (X : Nat → Nat → Int32) (p0 : Int32) (p1 : Int32)  : jV l D y yX1_changeSpeed wsX1_changeSpeed ({ frames := 1, cells := 0, slots := 0, locals := 14 } : Room) [.ref (b 1), .int p0, .int p1] ([engW y b X]) ([engW y b (sv 1 X (m_X1_changeSpeed_X_1 X p0 p1))]) := by
  refine jV_of (cc := cX1_changeSpeed) (maxL := 4) (by decide) rfl (Nat.le_of_ble_eq_true rfl) ?_
  intro p e s m below meth c A ls hx hb hr hlocks hml hown hts hE hZ hA hP hD hS hl
  have hown : s.vm.findClass RX1 = some m.cls := hown
  have hl : lv_has ls 4 [(0, .ref (b 1)), (1, .int p0), (2, .int p1)] := hl
  have hu1 : ∀ w ∈ wsX10, w ∈ wsX1_changeSpeed := fun _ h => List.mem_cons_of_mem _ (List.mem_append_right _ h)
  refine lv_aload_n hx hb dX1_changeSpeed_0 rfl (lv_at hl 0 rfl) ?_
  refine jget (ci := 1) (C := RX1) (T := TX1) (N := 9) (v := .int ((X 1) 1)) hx hb hts hown hE hP hu1 rfl (kb := 0) rfl (q0 := 0) rfl 1 (by decide) (List.mem_of_getElem? (i := 1) rfl) rfl rfl dX1_changeSpeed_1 ?_
  refine lv_iload_n hx hb dX1_changeSpeed_4 rfl (lv_at hl 1 rfl) ?_
  refine lv_iadd hx hb dX1_changeSpeed_5 ?_
  refine lv_iload_n hx hb dX1_changeSpeed_6 rfl (lv_at hl 2 rfl) ?_
  refine lv_aload_n hx hb dX1_changeSpeed_7 rfl (lv_at hl 0 rfl) ?_
  refine jget (ci := 1) (C := RX1) (T := TX1) (N := 9) (v := .int ((X 1) 1)) hx hb hts hown hE hP hu1 rfl (kb := 0) rfl (q0 := 0) rfl 1 (by decide) (List.mem_of_getElem? (i := 1) rfl) rfl rfl dX1_changeSpeed_8 ?_
  refine lv_bipush (v := 100) hx hb dX1_changeSpeed_11 (by decide) ?_
  refine lv_iadd hx hb dX1_changeSpeed_13 ?_
  refine lv_imul hx hb dX1_changeSpeed_14 ?_
  refine lv_sipush (v := 160) hx hb dX1_changeSpeed_15 (by decide) ?_
  refine lv_idiv hx hb dX1_changeSpeed_18 (by decide) ?_
  refine lv_iadd hx hb dX1_changeSpeed_19 ?_
  refine lv_istore_n (lv' := [(3, .int (v_X1_changeSpeed_1 X p0 p1)), (0, .ref (b 1)), (1, .int p0), (2, .int p1)]) hx hb dX1_changeSpeed_20 rfl hl (by decide) rfl (fun ls hl => ?_)
  refine lv_aload_n hx hb dX1_changeSpeed_21 rfl (lv_at hl 1 rfl) ?_
  refine lv_iload_n hx hb dX1_changeSpeed_22 rfl (lv_at hl 0 rfl) ?_
  refine lv_iload_n hx hb dX1_changeSpeed_23 rfl (lv_at hl 0 rfl) ?_
  refine lv_aload_n hx hb dX1_changeSpeed_24 rfl (lv_at hl 1 rfl) ?_
  refine jget (ci := 1) (C := RX1) (T := TX1) (N := 9) (v := .ref (b 2)) hx hb hts hown hE hP hu1 rfl (kb := 0) rfl (q0 := 0) rfl 0 (by decide) (List.mem_of_getElem? (i := 2) rfl) rfl rfl dX1_changeSpeed_25 ?_
  refine lv_iconst (v := 1) hx hb dX1_changeSpeed_28 (by decide) ?_
  refine jiald (kb := 0) (q0 := 1) (k := 1) hx hb hE hP rfl rfl (jvl (by decide)) (by decide) dX1_changeSpeed_29 ?_
  refine W.eq (g2 := F0 m 30 ls [.int ((X 2) 1), .int (v_X1_changeSpeed_1 X p0 p1), .int (v_X1_changeSpeed_1 X p0 p1), .ref (b 1)]) rfl ?_
  refine lv_imul hx hb dX1_changeSpeed_30 ?_
  refine lv_bipush (v := 100) hx hb dX1_changeSpeed_31 (by decide) ?_
  refine lv_idiv hx hb dX1_changeSpeed_33 (by decide) ?_
  refine lv_isub hx hb dX1_changeSpeed_34 ?_
  refine lv_sipush (v := 1100) hx hb dX1_changeSpeed_35 (by decide) ?_
  refine va_mmin hx hb (hml.trans hl.1.symm) hown (hts _ (List.mem_of_getElem? (i := 3) rfl)) (hts _ (List.mem_of_getElem? (i := 4) rfl)) (hts _ (List.mem_of_getElem? (i := 5) rfl)) (hts _ (List.mem_of_getElem? (i := 6) rfl)) (by decide) (Nat.le_of_ble_eq_true rfl) (Nat.zero_le _) (Nat.zero_le _) dX1_changeSpeed_38 ?_
  refine jput (ci := 1) (C := RX1) (T := TX1) (N := 9) (ty := .int) (bs' := [engW y b (sv 1 X (upd (X 1) 1 (v_X1_changeSpeed_2 X p0 p1)))]) hx hb hts hown hE hP hD hS hu1 tyX1 tyX1_ok nmX1 rfl (kb := 0) rfl (q0 := 0) rfl 1 (by decide) (List.mem_of_getElem? (i := 1) rfl) rfl rfl rfl rfl rfl (Nat.le_of_ble_eq_true rfl) ((show ∀ (vg1 : Int32), List.set ([engW y b X]) 0 (List.set (engW y b X) 0 (b 1, .inr (1, List.set [.ref (b 2), .int (X 1 1), .int (X 1 2), .int (X 1 3), .int (X 1 4), .int (X 1 5), .int (X 1 6), .int (X 1 7), .int (X 1 8)] 1 (.int vg1)))) = [engW y b (sv 1 X (upd (X 1) 1 vg1))] from fun _ => rfl) (v_X1_changeSpeed_2 X p0 p1)) dX1_changeSpeed_41 (fun H locs hP hD hS => ?_)
  exact jV_ret hx hb hr hlocks hP hS dX1_changeSpeed_44 rfl
def v_X1_changeHeat_1 (X : Nat → Nat → Int32) (p0 : Int32) : Int32 := (if 2000 < (((X 1) 2) + (p0 * ((X 2) 2))) then 2000 else (((X 1) 2) + (p0 * ((X 2) 2))))
def v_X1_changeHeat_2 (X : Nat → Nat → Int32) (p0 : Int32) : Int32 := ((((v_X1_changeHeat_1 X p0) * ((X 2) 3)) * (((X 1) 1) + 200)) / 20000)
def v_X1_changeHeat_3 (X : Nat → Nat → Int32) (p0 : Int32) : Int32 := (if ((v_X1_changeHeat_1 X p0) - (v_X1_changeHeat_2 X p0)) < 0 then 0 else ((v_X1_changeHeat_1 X p0) - (v_X1_changeHeat_2 X p0)))
def m_X1_changeHeat_X_1 (X : Nat → Nat → Int32) (p0 : Int32) : Nat → Int32 := (upd (X 1) 2 (v_X1_changeHeat_3 X p0))
set_option maxHeartbeats 4000000 in
set_option maxRecDepth 100000 in
theorem ct_X1_changeHeat (l : Launch) (D : va_G) (y : Nat → ClassId) (b : Nat → Nat) (X : Nat → Nat → Int32) (p0 : Int32)  : jV l D y yX1_changeHeat wsX1_changeHeat ({ frames := 1, cells := 0, slots := 0, locals := 14 } : Room) [.ref (b 1), .int p0] ([engW y b X]) ([engW y b (sv 1 X (m_X1_changeHeat_X_1 X p0))]) := by
  refine jV_of (cc := cX1_changeHeat) (maxL := 4) (by decide) rfl (Nat.le_of_ble_eq_true rfl) ?_
  intro p e s m below meth c A ls hx hb hr hlocks hml hown hts hE hZ hA hP hD hS hl
  have hown : s.vm.findClass RX1 = some m.cls := hown
  have hl : lv_has ls 4 [(0, .ref (b 1)), (1, .int p0)] := hl
  have hu1 : ∀ w ∈ wsX10, w ∈ wsX1_changeHeat := fun _ h => List.mem_cons_of_mem _ (List.mem_append_right _ h)
  refine lv_aload_n hx hb dX1_changeHeat_0 rfl (lv_at hl 0 rfl) ?_
  refine jget (ci := 1) (C := RX1) (T := TX1) (N := 9) (v := .int ((X 1) 2)) hx hb hts hown hE hP hu1 rfl (kb := 0) rfl (q0 := 0) rfl 2 (by decide) (List.mem_of_getElem? (i := 1) rfl) rfl rfl dX1_changeHeat_1 ?_
  refine lv_iload_n hx hb dX1_changeHeat_4 rfl (lv_at hl 1 rfl) ?_
  refine lv_aload_n hx hb dX1_changeHeat_5 rfl (lv_at hl 0 rfl) ?_
  refine jget (ci := 1) (C := RX1) (T := TX1) (N := 9) (v := .ref (b 2)) hx hb hts hown hE hP hu1 rfl (kb := 0) rfl (q0 := 0) rfl 0 (by decide) (List.mem_of_getElem? (i := 2) rfl) rfl rfl dX1_changeHeat_6 ?_
  refine lv_iconst (v := 2) hx hb dX1_changeHeat_9 (by decide) ?_
  refine jiald (kb := 0) (q0 := 1) (k := 2) hx hb hE hP rfl rfl (jvl (by decide)) (by decide) dX1_changeHeat_10 ?_
  refine W.eq (g2 := F0 m 11 ls [.int ((X 2) 2), .int p0, .int ((X 1) 2)]) rfl ?_
  refine lv_imul hx hb dX1_changeHeat_11 ?_
  refine lv_iadd hx hb dX1_changeHeat_12 ?_
  refine lv_sipush (v := 2000) hx hb dX1_changeHeat_13 (by decide) ?_
  refine va_mmin hx hb (hml.trans hl.1.symm) hown (hts _ (List.mem_of_getElem? (i := 3) rfl)) (hts _ (List.mem_of_getElem? (i := 4) rfl)) (hts _ (List.mem_of_getElem? (i := 5) rfl)) (hts _ (List.mem_of_getElem? (i := 6) rfl)) (by decide) (Nat.le_of_ble_eq_true rfl) (Nat.zero_le _) (Nat.zero_le _) dX1_changeHeat_16 ?_
  refine lv_istore_n (lv' := [(2, .int (v_X1_changeHeat_1 X p0)), (0, .ref (b 1)), (1, .int p0)]) hx hb dX1_changeHeat_19 rfl hl (by decide) rfl (fun ls hl => ?_)
  refine lv_iload_n hx hb dX1_changeHeat_20 rfl (lv_at hl 0 rfl) ?_
  refine lv_aload_n hx hb dX1_changeHeat_21 rfl (lv_at hl 1 rfl) ?_
  refine jget (ci := 1) (C := RX1) (T := TX1) (N := 9) (v := .ref (b 2)) hx hb hts hown hE hP hu1 rfl (kb := 0) rfl (q0 := 0) rfl 0 (by decide) (List.mem_of_getElem? (i := 2) rfl) rfl rfl dX1_changeHeat_22 ?_
  refine lv_iconst (v := 3) hx hb dX1_changeHeat_25 (by decide) ?_
  refine jiald (kb := 0) (q0 := 1) (k := 3) hx hb hE hP rfl rfl (jvl (by decide)) (by decide) dX1_changeHeat_26 ?_
  refine W.eq (g2 := F0 m 27 ls [.int ((X 2) 3), .int (v_X1_changeHeat_1 X p0)]) rfl ?_
  refine lv_imul hx hb dX1_changeHeat_27 ?_
  refine lv_aload_n hx hb dX1_changeHeat_28 rfl (lv_at hl 1 rfl) ?_
  refine jget (ci := 1) (C := RX1) (T := TX1) (N := 9) (v := .int ((X 1) 1)) hx hb hts hown hE hP hu1 rfl (kb := 0) rfl (q0 := 0) rfl 1 (by decide) (List.mem_of_getElem? (i := 7) rfl) rfl rfl dX1_changeHeat_29 ?_
  refine lv_sipush (v := 200) hx hb dX1_changeHeat_32 (by decide) ?_
  refine lv_iadd hx hb dX1_changeHeat_35 ?_
  refine lv_imul hx hb dX1_changeHeat_36 ?_
  refine lv_sipush (v := 20000) hx hb dX1_changeHeat_37 (by decide) ?_
  refine lv_idiv hx hb dX1_changeHeat_40 (by decide) ?_
  refine lv_istore_n (lv' := [(3, .int (v_X1_changeHeat_2 X p0)), (2, .int (v_X1_changeHeat_1 X p0)), (0, .ref (b 1)), (1, .int p0)]) hx hb dX1_changeHeat_41 rfl hl (by decide) rfl (fun ls hl => ?_)
  refine lv_aload_n hx hb dX1_changeHeat_42 rfl (lv_at hl 2 rfl) ?_
  refine lv_iload_n hx hb dX1_changeHeat_43 rfl (lv_at hl 1 rfl) ?_
  refine lv_iload_n hx hb dX1_changeHeat_44 rfl (lv_at hl 0 rfl) ?_
  refine lv_isub hx hb dX1_changeHeat_45 ?_
  refine lv_iconst (v := 0) hx hb dX1_changeHeat_46 (by decide) ?_
  refine va_mmax hx hb (hml.trans hl.1.symm) hown (hts _ (List.mem_of_getElem? (i := 8) rfl)) (hts _ (List.mem_of_getElem? (i := 9) rfl)) (hts _ (List.mem_of_getElem? (i := 5) rfl)) (hts _ (List.mem_of_getElem? (i := 10) rfl)) (by decide) (Nat.le_of_ble_eq_true rfl) (Nat.zero_le _) (Nat.zero_le _) dX1_changeHeat_47 ?_
  refine jput (ci := 1) (C := RX1) (T := TX1) (N := 9) (ty := .int) (bs' := [engW y b (sv 1 X (upd (X 1) 2 (v_X1_changeHeat_3 X p0)))]) hx hb hts hown hE hP hD hS hu1 tyX1 tyX1_ok nmX1 rfl (kb := 0) rfl (q0 := 0) rfl 2 (by decide) (List.mem_of_getElem? (i := 1) rfl) rfl rfl rfl rfl rfl (Nat.le_of_ble_eq_true rfl) ((show ∀ (vg1 : Int32), List.set ([engW y b X]) 0 (List.set (engW y b X) 0 (b 1, .inr (1, List.set [.ref (b 2), .int (X 1 1), .int (X 1 2), .int (X 1 3), .int (X 1 4), .int (X 1 5), .int (X 1 6), .int (X 1 7), .int (X 1 8)] 2 (.int vg1)))) = [engW y b (sv 1 X (upd (X 1) 2 vg1))] from fun _ => rfl) (v_X1_changeHeat_3 X p0)) dX1_changeHeat_50 (fun H locs hP hD hS => ?_)
  exact jV_ret hx hb hr hlocks hP hS dX1_changeHeat_53 rfl
def x_X1_passTick_1 (X : Nat → Nat → Int32) : Nat → Nat → Int32 := sv 1 X (m_X1_changeFlame_X_1 (sv 1 X (m_X1_pushOfStarter_X_1 X)))
def x_X1_passTick_2 (X : Nat → Nat → Int32) : Nat → Nat → Int32 := sv 1 (x_X1_passTick_1 X) (m_X1_burn_X_1 (x_X1_passTick_1 X))
def x_X1_passTick_3 (X : Nat → Nat → Int32) : Nat → Nat → Int32 := sv 1 (x_X1_passTick_2 X) (m_X1_changeSpeed_X_1 (x_X1_passTick_2 X) (r_X1_pushOfStarter X) (r_X1_burn (x_X1_passTick_1 X)))
def x_X1_passTick_4 (X : Nat → Nat → Int32) : Nat → Nat → Int32 := sv 1 (x_X1_passTick_3 X) (m_X1_changeHeat_X_1 (x_X1_passTick_3 X) (r_X1_burn (x_X1_passTick_1 X)))
def v_X1_passTick_1 (X : Nat → Nat → Int32) : Int32 := (if 1000 < ((((x_X1_passTick_4 X) 1) 5) + 3) then 1000 else ((((x_X1_passTick_4 X) 1) 5) + 3))
def m_X1_passTick_X_1 (X : Nat → Nat → Int32) : Nat → Int32 := (if (r_X1_runs (x_X1_passTick_4 X)) = 0 then ((x_X1_passTick_4 X) 1) else (upd ((x_X1_passTick_4 X) 1) 5 (v_X1_passTick_1 X)))
set_option maxHeartbeats 4000000 in
set_option maxRecDepth 100000 in
theorem ct_X1_passTick (l : Launch) (D : va_G) (y : Nat → ClassId) (b : Nat → Nat) (X : Nat → Nat → Int32)  : jV l D y yX1_passTick wsX1_passTick ({ frames := 2, cells := 0, slots := 0, locals := 37 } : Room) [.ref (b 1)] ([engW y b X]) ([engW y b (sv 1 X (m_X1_passTick_X_1 X))]) := by
  refine jV_of (cc := cX1_passTick) (maxL := 3) (by decide) rfl (Nat.le_of_ble_eq_true rfl) ?_
  intro p e s m below meth c A ls hx hb hr hlocks hml hown hts hE hZ hA hP hD hS hl
  have hown : s.vm.findClass RX1 = some m.cls := hown
  have hl : lv_has ls 3 [(0, .ref (b 1))] := hl
  have hu1 : ∀ w ∈ wsX10, w ∈ wsX1_passTick := fun _ h => List.mem_cons_of_mem _ (List.mem_append_right _ h)
  refine lv_aload_n hx hb dX1_passTick_0 rfl (lv_at hl 0 rfl) ?_
  refine jVi (n := 0) (is := [0]) (bs' := [engW y b (sv 1 X (m_X1_pushOfStarter_X_1 X))]) hx hb hml hown hts hE hZ hA hP hD hS (ct_X1_pushOfStarter l D y b X) rfl rfl ((show ∀ (fg1 : Nat → Int32), List.map (List.map Prod.fst) ([engW y b (sv 1 X fg1)]) = List.map (List.map Prod.fst) ([engW y b X]) from fun _ => rfl) (m_X1_pushOfStarter_X_1 X)) ((show ∀ (fg1 : Nat → Int32), jPut ([engW y b X]) [0] ([engW y b (sv 1 X fg1)]) = [engW y b (sv 1 X fg1)] from fun _ => rfl) (m_X1_pushOfStarter_X_1 X)) gX1_passTick_X1_pushOfStarter rfl (by decide +kernel) ⟨by decide, by decide⟩ ⟨rfl, rfl⟩ (kb := 0) rfl (q0 := 0) (ci := 1) rfl rfl rfl rfl hl.1 rfl (Nat.le_of_ble_eq_true rfl) ⟨Nat.zero_le _, Nat.zero_le _⟩ dX1_passTick_1 (fun H locs hP hD hS => ?_)
  refine lv_istore_n (lv' := [(1, .int (r_X1_pushOfStarter X)), (0, .ref (b 1))]) hx hb dX1_passTick_4 rfl hl (by decide) rfl (fun ls hl => ?_)
  refine lv_aload_n hx hb dX1_passTick_5 rfl (lv_at hl 1 rfl) ?_
  refine jVv (n := 0) (is := [0]) (bs' := [engW y b (x_X1_passTick_1 X)]) hx hb hml hown hts hE hZ hA hP hD hS (ct_X1_changeFlame l D y b (sv 1 X (m_X1_pushOfStarter_X_1 X))) rfl rfl ((show ∀ (fg1 : Nat → Int32) (fg2 : Nat → Int32), List.map (List.map Prod.fst) ([engW y b (sv 1 X fg2)]) = List.map (List.map Prod.fst) ([engW y b (sv 1 X fg1)]) from fun _ _ => rfl) (m_X1_pushOfStarter_X_1 X) (m_X1_changeFlame_X_1 (sv 1 X (m_X1_pushOfStarter_X_1 X)))) ((show ∀ (fg1 : Nat → Int32) (fg2 : Nat → Int32), jPut ([engW y b (sv 1 X fg1)]) [0] ([engW y b (sv 1 X fg2)]) = [engW y b (sv 1 X fg2)] from fun _ _ => rfl) (m_X1_pushOfStarter_X_1 X) (m_X1_changeFlame_X_1 (sv 1 X (m_X1_pushOfStarter_X_1 X)))) gX1_passTick_X1_changeFlame rfl (by decide +kernel) ⟨by decide, by decide⟩ ⟨rfl, rfl⟩ (kb := 0) rfl (q0 := 0) (ci := 1) rfl rfl rfl rfl hl.1 rfl (Nat.le_of_ble_eq_true rfl) ⟨Nat.zero_le _, Nat.zero_le _⟩ dX1_passTick_6 (fun H locs hP hD hS => ?_)
  refine lv_aload_n hx hb dX1_passTick_9 rfl (lv_at hl 1 rfl) ?_
  refine jVi (n := 0) (is := [0]) (bs' := [engW y b (x_X1_passTick_2 X)]) hx hb hml hown hts hE hZ hA hP hD hS (ct_X1_burn l D y b (x_X1_passTick_1 X)) rfl rfl ((show ∀ (Xg1 : Nat → Nat → Int32) (fg2 : Nat → Int32), List.map (List.map Prod.fst) ([engW y b (sv 1 Xg1 fg2)]) = List.map (List.map Prod.fst) ([engW y b Xg1]) from fun _ _ => rfl) (x_X1_passTick_1 X) (m_X1_burn_X_1 (x_X1_passTick_1 X))) ((show ∀ (Xg1 : Nat → Nat → Int32) (fg2 : Nat → Int32), jPut ([engW y b Xg1]) [0] ([engW y b (sv 1 Xg1 fg2)]) = [engW y b (sv 1 Xg1 fg2)] from fun _ _ => rfl) (x_X1_passTick_1 X) (m_X1_burn_X_1 (x_X1_passTick_1 X))) gX1_passTick_X1_burn rfl (by decide +kernel) ⟨by decide, by decide⟩ ⟨rfl, rfl⟩ (kb := 0) rfl (q0 := 0) (ci := 1) rfl rfl rfl rfl hl.1 rfl (Nat.le_of_ble_eq_true rfl) ⟨Nat.zero_le _, Nat.zero_le _⟩ dX1_passTick_10 (fun H locs hP hD hS => ?_)
  refine lv_istore_n (lv' := [(2, .int (r_X1_burn (x_X1_passTick_1 X))), (1, .int (r_X1_pushOfStarter X)), (0, .ref (b 1))]) hx hb dX1_passTick_13 rfl hl (by decide) rfl (fun ls hl => ?_)
  refine lv_aload_n hx hb dX1_passTick_14 rfl (lv_at hl 2 rfl) ?_
  refine lv_iload_n hx hb dX1_passTick_15 rfl (lv_at hl 1 rfl) ?_
  refine lv_iload_n hx hb dX1_passTick_16 rfl (lv_at hl 0 rfl) ?_
  refine jVv (n := 2) (is := [0]) (bs' := [engW y b (x_X1_passTick_3 X)]) hx hb hml hown hts hE hZ hA hP hD hS (ct_X1_changeSpeed l D y b (x_X1_passTick_2 X) (r_X1_pushOfStarter X) (r_X1_burn (x_X1_passTick_1 X))) rfl rfl ((show ∀ (Xg1 : Nat → Nat → Int32) (fg2 : Nat → Int32), List.map (List.map Prod.fst) ([engW y b (sv 1 Xg1 fg2)]) = List.map (List.map Prod.fst) ([engW y b Xg1]) from fun _ _ => rfl) (x_X1_passTick_2 X) (m_X1_changeSpeed_X_1 (x_X1_passTick_2 X) (r_X1_pushOfStarter X) (r_X1_burn (x_X1_passTick_1 X)))) ((show ∀ (Xg1 : Nat → Nat → Int32) (fg2 : Nat → Int32), jPut ([engW y b Xg1]) [0] ([engW y b (sv 1 Xg1 fg2)]) = [engW y b (sv 1 Xg1 fg2)] from fun _ _ => rfl) (x_X1_passTick_2 X) (m_X1_changeSpeed_X_1 (x_X1_passTick_2 X) (r_X1_pushOfStarter X) (r_X1_burn (x_X1_passTick_1 X)))) gX1_passTick_X1_changeSpeed rfl (by decide +kernel) ⟨by decide, by decide⟩ ⟨rfl, rfl⟩ (kb := 0) rfl (q0 := 0) (ci := 1) rfl rfl rfl rfl hl.1 rfl (Nat.le_of_ble_eq_true rfl) ⟨Nat.zero_le _, Nat.zero_le _⟩ dX1_passTick_17 (fun H locs hP hD hS => ?_)
  refine lv_aload_n hx hb dX1_passTick_20 rfl (lv_at hl 2 rfl) ?_
  refine lv_iload_n hx hb dX1_passTick_21 rfl (lv_at hl 0 rfl) ?_
  refine jVv (n := 1) (is := [0]) (bs' := [engW y b (x_X1_passTick_4 X)]) hx hb hml hown hts hE hZ hA hP hD hS (ct_X1_changeHeat l D y b (x_X1_passTick_3 X) (r_X1_burn (x_X1_passTick_1 X))) rfl rfl ((show ∀ (Xg1 : Nat → Nat → Int32) (fg2 : Nat → Int32), List.map (List.map Prod.fst) ([engW y b (sv 1 Xg1 fg2)]) = List.map (List.map Prod.fst) ([engW y b Xg1]) from fun _ _ => rfl) (x_X1_passTick_3 X) (m_X1_changeHeat_X_1 (x_X1_passTick_3 X) (r_X1_burn (x_X1_passTick_1 X)))) ((show ∀ (Xg1 : Nat → Nat → Int32) (fg2 : Nat → Int32), jPut ([engW y b Xg1]) [0] ([engW y b (sv 1 Xg1 fg2)]) = [engW y b (sv 1 Xg1 fg2)] from fun _ _ => rfl) (x_X1_passTick_3 X) (m_X1_changeHeat_X_1 (x_X1_passTick_3 X) (r_X1_burn (x_X1_passTick_1 X)))) gX1_passTick_X1_changeHeat rfl (by decide +kernel) ⟨by decide, by decide⟩ ⟨rfl, rfl⟩ (kb := 0) rfl (q0 := 0) (ci := 1) rfl rfl rfl rfl hl.1 rfl (Nat.le_of_ble_eq_true rfl) ⟨Nat.zero_le _, Nat.zero_le _⟩ dX1_passTick_22 (fun H locs hP hD hS => ?_)
  refine lv_aload_n hx hb dX1_passTick_25 rfl (lv_at hl 2 rfl) ?_
  refine jVi (n := 0) (is := [0]) (bs' := [engW y b (x_X1_passTick_4 X)]) hx hb hml hown hts hE hZ hA hP hD hS (ct_X1_runs l D y b (x_X1_passTick_4 X)) rfl rfl rfl ((show ∀ (Xg1 : Nat → Nat → Int32), jPut ([engW y b Xg1]) [0] ([engW y b Xg1]) = [engW y b Xg1] from fun _ => rfl) (x_X1_passTick_4 X)) gX1_passTick_X1_runs rfl (by decide +kernel) ⟨by decide, by decide⟩ ⟨rfl, rfl⟩ (kb := 0) rfl (q0 := 0) (ci := 1) rfl rfl rfl rfl hl.1 rfl (Nat.le_of_ble_eq_true rfl) ⟨Nat.zero_le _, Nat.zero_le _⟩ dX1_passTick_26 (fun H locs hP hD hS => ?_)
  refine lv_if_eq (tgt := 48) hx hb dX1_passTick_29 (by decide) (fun c1 => ?_) (fun c1 => ?_)
  · exact jV_ret hx hb hr hlocks hP hS dX1_passTick_48 (by rw [m_X1_passTick_X_1, if_pos c1] <;> rfl)
  · refine lv_aload_n hx hb dX1_passTick_32 rfl (lv_at hl 2 rfl) ?_
    refine lv_aload_n hx hb dX1_passTick_33 rfl (lv_at hl 2 rfl) ?_
    refine jget (ci := 1) (C := RX1) (T := TX1) (N := 9) (v := .int (((x_X1_passTick_4 X) 1) 5)) hx hb hts hown hE hP hu1 rfl (kb := 0) rfl (q0 := 0) rfl 5 (by decide) (List.mem_of_getElem? (i := 1) rfl) rfl rfl dX1_passTick_34 ?_
    refine lv_iconst (v := 3) hx hb dX1_passTick_37 (by decide) ?_
    refine lv_iadd hx hb dX1_passTick_38 ?_
    refine lv_sipush (v := 1000) hx hb dX1_passTick_39 (by decide) ?_
    refine va_mmin hx hb (hml.trans hl.1.symm) hown (hts _ (List.mem_of_getElem? (i := 2) rfl)) (hts _ (List.mem_of_getElem? (i := 3) rfl)) (hts _ (List.mem_of_getElem? (i := 4) rfl)) (hts _ (List.mem_of_getElem? (i := 5) rfl)) (by decide) (Nat.le_of_ble_eq_true rfl) (Nat.zero_le _) (Nat.zero_le _) dX1_passTick_42 ?_
    refine jput (ci := 1) (C := RX1) (T := TX1) (N := 9) (ty := .int) (bs' := [engW y b (sv 1 (x_X1_passTick_4 X) (upd ((x_X1_passTick_4 X) 1) 5 (v_X1_passTick_1 X)))]) hx hb hts hown hE hP hD hS hu1 tyX1 tyX1_ok nmX1 rfl (kb := 0) rfl (q0 := 0) rfl 5 (by decide) (List.mem_of_getElem? (i := 1) rfl) rfl rfl rfl rfl rfl (Nat.le_of_ble_eq_true rfl) ((show ∀ (Xg1 : Nat → Nat → Int32) (vg2 : Int32), List.set ([engW y b Xg1]) 0 (List.set (engW y b Xg1) 0 (b 1, .inr (1, List.set [.ref (b 2), .int (Xg1 1 1), .int (Xg1 1 2), .int (Xg1 1 3), .int (Xg1 1 4), .int (Xg1 1 5), .int (Xg1 1 6), .int (Xg1 1 7), .int (Xg1 1 8)] 5 (.int vg2)))) = [engW y b (sv 1 Xg1 (upd (Xg1 1) 5 vg2))] from fun _ _ => rfl) (x_X1_passTick_4 X) (v_X1_passTick_1 X)) dX1_passTick_45 (fun H locs hP hD hS => ?_)
    exact jV_ret hx hb hr hlocks hP hS dX1_passTick_48 (by rw [m_X1_passTick_X_1, if_neg c1] <;> rfl)
end
section
def jBo (Z : Nat → Nat → Int32) : Prop := (Z 1 6 = 0 ∨ Z 1 6 = 1) ∧ (Z 1 7 = 0 ∨ Z 1 7 = 1) ∧ (Z 1 8 = 0 ∨ Z 1 8 = 1) ∧ (Z 3 0 = 0 ∨ Z 3 0 = 1)
set_option maxHeartbeats 4000000 in
set_option maxRecDepth 100000 in
theorem ct_X1_copyFrom (l : Launch) (D : va_G) (y : Nat → ClassId) (b : Nat → Nat) (d : Nat → Nat) (X : Nat → Nat → Int32) (Z : Nat → Nat → Int32) (hz : jBo Z) : jV l D y yX1_copyFrom wsX1_copyFrom ({ frames := 1, cells := 0, slots := 0, locals := 18 } : Room) [.ref (b 1), .ref (d 1)] ([engW y b X, engW y d Z]) ([engW y b (sv 2 (sv 1 X (Z 1)) (Z 2)), engW y d Z]) := by
  refine jV_of (cc := cX1_copyFrom) (maxL := 2) (by decide) rfl (Nat.le_of_ble_eq_true rfl) ?_
  intro p e s m below meth c A ls hx hb hr hlocks hml hown hts hE hZ hA hP hD hS hl
  have hown : s.vm.findClass RX1 = some m.cls := hown
  have hl : lv_has ls 2 [(0, .ref (b 1)), (1, .ref (d 1))] := hl
  have hu1 : ∀ w ∈ wsX10, w ∈ wsX1_copyFrom := fun _ h => List.mem_cons_of_mem _ (List.mem_append_right _ h)
  refine lv_aload_n hx hb dX1_copyFrom_0 rfl (lv_at hl 1 rfl) ?_
  refine jget (ci := 1) (C := RX1) (T := TX1) (N := 9) (v := .ref (d 2)) hx hb hts hown hE hP hu1 rfl (kb := 1) rfl (q0 := 0) rfl 0 (by decide) (List.mem_of_getElem? (i := 1) rfl) rfl rfl dX1_copyFrom_1 ?_
  refine lv_iconst (v := 0) hx hb dX1_copyFrom_4 (by decide) ?_
  refine lv_aload_n hx hb dX1_copyFrom_5 rfl (lv_at hl 0 rfl) ?_
  refine jget (ci := 1) (C := RX1) (T := TX1) (N := 9) (v := .ref (b 2)) hx hb hts hown hE hP hu1 rfl (kb := 0) rfl (q0 := 0) rfl 0 (by decide) (List.mem_of_getElem? (i := 1) rfl) rfl rfl dX1_copyFrom_6 ?_
  refine lv_iconst (v := 0) hx hb dX1_copyFrom_9 (by decide) ?_
  refine lv_bipush (v := 7) hx hb dX1_copyFrom_10 (by decide) ?_
  refine jcopy (kb0 := 1) (q0 := 1) (kb1 := 0) (q1 := 1) (spk := 0) (dpk := 0) (nk := 7) (g' := Z 2) (bs' := [engW y b (sv 2 X (Z 2)), engW y d Z]) hx hb (hml.trans hl.1.symm) hts hown hE hP hD hS (List.mem_of_getElem? (i := 2) rfl) (List.mem_of_getElem? (i := 3) rfl) (List.mem_of_getElem? (i := 4) rfl) (List.mem_of_getElem? (i := 5) rfl) rfl rfl rfl rfl (by decide) (by decide) (by decide) (by decide) (by decide) (by decide) (Nat.le_of_ble_eq_true rfl) (jcpy _ _ 7) rfl dX1_copyFrom_12 (fun H locs hP hD hS => ?_)
  refine lv_aload_n hx hb dX1_copyFrom_15 rfl (lv_at hl 0 rfl) ?_
  refine lv_aload_n hx hb dX1_copyFrom_16 rfl (lv_at hl 1 rfl) ?_
  refine jget (ci := 1) (C := RX1) (T := TX1) (N := 9) (v := .int ((Z 1) 1)) hx hb hts hown hE hP hu1 rfl (kb := 1) rfl (q0 := 0) rfl 1 (by decide) (List.mem_of_getElem? (i := 6) rfl) rfl rfl dX1_copyFrom_17 ?_
  refine jput (ci := 1) (C := RX1) (T := TX1) (N := 9) (ty := .int) (bs' := [engW y b (sv 1 (sv 2 X (Z 2)) (upd (X 1) 1 ((Z 1) 1))), engW y d Z]) hx hb hts hown hE hP hD hS hu1 tyX1 tyX1_ok nmX1 rfl (kb := 0) rfl (q0 := 0) rfl 1 (by decide) (List.mem_of_getElem? (i := 6) rfl) rfl rfl rfl rfl rfl (Nat.le_of_ble_eq_true rfl) ((show ∀ (vg1 : Int32), List.set ([engW y b (sv 2 X (Z 2)), engW y d Z]) 0 (List.set (engW y b (sv 2 X (Z 2))) 0 (b 1, .inr (1, List.set [.ref (b 2), .int ((sv 2 X (Z 2)) 1 1), .int ((sv 2 X (Z 2)) 1 2), .int ((sv 2 X (Z 2)) 1 3), .int ((sv 2 X (Z 2)) 1 4), .int ((sv 2 X (Z 2)) 1 5), .int ((sv 2 X (Z 2)) 1 6), .int ((sv 2 X (Z 2)) 1 7), .int ((sv 2 X (Z 2)) 1 8)] 1 (.int vg1)))) = [engW y b (sv 1 (sv 2 X (Z 2)) (upd (X 1) 1 vg1)), engW y d Z] from fun _ => rfl) ((Z 1) 1)) dX1_copyFrom_20 (fun H locs hP hD hS => ?_)
  refine lv_aload_n hx hb dX1_copyFrom_23 rfl (lv_at hl 0 rfl) ?_
  refine lv_aload_n hx hb dX1_copyFrom_24 rfl (lv_at hl 1 rfl) ?_
  refine jget (ci := 1) (C := RX1) (T := TX1) (N := 9) (v := .int ((Z 1) 2)) hx hb hts hown hE hP hu1 rfl (kb := 1) rfl (q0 := 0) rfl 2 (by decide) (List.mem_of_getElem? (i := 7) rfl) rfl rfl dX1_copyFrom_25 ?_
  refine jput (ci := 1) (C := RX1) (T := TX1) (N := 9) (ty := .int) (bs' := [engW y b (sv 1 (sv 2 X (Z 2)) (upd (upd (X 1) 1 ((Z 1) 1)) 2 ((Z 1) 2))), engW y d Z]) hx hb hts hown hE hP hD hS hu1 tyX1 tyX1_ok nmX1 rfl (kb := 0) rfl (q0 := 0) rfl 2 (by decide) (List.mem_of_getElem? (i := 7) rfl) rfl rfl rfl rfl rfl (Nat.le_of_ble_eq_true rfl) ((show ∀ (fg1 : Nat → Int32) (vg2 : Int32), List.set ([engW y b (sv 1 (sv 2 X (Z 2)) fg1), engW y d Z]) 0 (List.set (engW y b (sv 1 (sv 2 X (Z 2)) fg1)) 0 (b 1, .inr (1, List.set [.ref (b 2), .int ((sv 1 (sv 2 X (Z 2)) fg1) 1 1), .int ((sv 1 (sv 2 X (Z 2)) fg1) 1 2), .int ((sv 1 (sv 2 X (Z 2)) fg1) 1 3), .int ((sv 1 (sv 2 X (Z 2)) fg1) 1 4), .int ((sv 1 (sv 2 X (Z 2)) fg1) 1 5), .int ((sv 1 (sv 2 X (Z 2)) fg1) 1 6), .int ((sv 1 (sv 2 X (Z 2)) fg1) 1 7), .int ((sv 1 (sv 2 X (Z 2)) fg1) 1 8)] 2 (.int vg2)))) = [engW y b (sv 1 (sv 2 X (Z 2)) (upd fg1 2 vg2)), engW y d Z] from fun _ _ => rfl) (upd (X 1) 1 ((Z 1) 1)) ((Z 1) 2)) dX1_copyFrom_28 (fun H locs hP hD hS => ?_)
  refine lv_aload_n hx hb dX1_copyFrom_31 rfl (lv_at hl 0 rfl) ?_
  refine lv_aload_n hx hb dX1_copyFrom_32 rfl (lv_at hl 1 rfl) ?_
  refine jget (ci := 1) (C := RX1) (T := TX1) (N := 9) (v := .int ((Z 1) 3)) hx hb hts hown hE hP hu1 rfl (kb := 1) rfl (q0 := 0) rfl 3 (by decide) (List.mem_of_getElem? (i := 8) rfl) rfl rfl dX1_copyFrom_33 ?_
  refine jput (ci := 1) (C := RX1) (T := TX1) (N := 9) (ty := .int) (bs' := [engW y b (sv 1 (sv 2 X (Z 2)) (upd (upd (upd (X 1) 1 ((Z 1) 1)) 2 ((Z 1) 2)) 3 ((Z 1) 3))), engW y d Z]) hx hb hts hown hE hP hD hS hu1 tyX1 tyX1_ok nmX1 rfl (kb := 0) rfl (q0 := 0) rfl 3 (by decide) (List.mem_of_getElem? (i := 8) rfl) rfl rfl rfl rfl rfl (Nat.le_of_ble_eq_true rfl) ((show ∀ (fg1 : Nat → Int32) (vg2 : Int32), List.set ([engW y b (sv 1 (sv 2 X (Z 2)) fg1), engW y d Z]) 0 (List.set (engW y b (sv 1 (sv 2 X (Z 2)) fg1)) 0 (b 1, .inr (1, List.set [.ref (b 2), .int ((sv 1 (sv 2 X (Z 2)) fg1) 1 1), .int ((sv 1 (sv 2 X (Z 2)) fg1) 1 2), .int ((sv 1 (sv 2 X (Z 2)) fg1) 1 3), .int ((sv 1 (sv 2 X (Z 2)) fg1) 1 4), .int ((sv 1 (sv 2 X (Z 2)) fg1) 1 5), .int ((sv 1 (sv 2 X (Z 2)) fg1) 1 6), .int ((sv 1 (sv 2 X (Z 2)) fg1) 1 7), .int ((sv 1 (sv 2 X (Z 2)) fg1) 1 8)] 3 (.int vg2)))) = [engW y b (sv 1 (sv 2 X (Z 2)) (upd fg1 3 vg2)), engW y d Z] from fun _ _ => rfl) (upd (upd (X 1) 1 ((Z 1) 1)) 2 ((Z 1) 2)) ((Z 1) 3)) dX1_copyFrom_36 (fun H locs hP hD hS => ?_)
  refine lv_aload_n hx hb dX1_copyFrom_39 rfl (lv_at hl 0 rfl) ?_
  refine lv_aload_n hx hb dX1_copyFrom_40 rfl (lv_at hl 1 rfl) ?_
  refine jget (ci := 1) (C := RX1) (T := TX1) (N := 9) (v := .int ((Z 1) 4)) hx hb hts hown hE hP hu1 rfl (kb := 1) rfl (q0 := 0) rfl 4 (by decide) (List.mem_of_getElem? (i := 9) rfl) rfl rfl dX1_copyFrom_41 ?_
  refine jput (ci := 1) (C := RX1) (T := TX1) (N := 9) (ty := .int) (bs' := [engW y b (sv 1 (sv 2 X (Z 2)) (upd (upd (upd (upd (X 1) 1 ((Z 1) 1)) 2 ((Z 1) 2)) 3 ((Z 1) 3)) 4 ((Z 1) 4))), engW y d Z]) hx hb hts hown hE hP hD hS hu1 tyX1 tyX1_ok nmX1 rfl (kb := 0) rfl (q0 := 0) rfl 4 (by decide) (List.mem_of_getElem? (i := 9) rfl) rfl rfl rfl rfl rfl (Nat.le_of_ble_eq_true rfl) ((show ∀ (fg1 : Nat → Int32) (vg2 : Int32), List.set ([engW y b (sv 1 (sv 2 X (Z 2)) fg1), engW y d Z]) 0 (List.set (engW y b (sv 1 (sv 2 X (Z 2)) fg1)) 0 (b 1, .inr (1, List.set [.ref (b 2), .int ((sv 1 (sv 2 X (Z 2)) fg1) 1 1), .int ((sv 1 (sv 2 X (Z 2)) fg1) 1 2), .int ((sv 1 (sv 2 X (Z 2)) fg1) 1 3), .int ((sv 1 (sv 2 X (Z 2)) fg1) 1 4), .int ((sv 1 (sv 2 X (Z 2)) fg1) 1 5), .int ((sv 1 (sv 2 X (Z 2)) fg1) 1 6), .int ((sv 1 (sv 2 X (Z 2)) fg1) 1 7), .int ((sv 1 (sv 2 X (Z 2)) fg1) 1 8)] 4 (.int vg2)))) = [engW y b (sv 1 (sv 2 X (Z 2)) (upd fg1 4 vg2)), engW y d Z] from fun _ _ => rfl) (upd (upd (upd (X 1) 1 ((Z 1) 1)) 2 ((Z 1) 2)) 3 ((Z 1) 3)) ((Z 1) 4)) dX1_copyFrom_44 (fun H locs hP hD hS => ?_)
  refine lv_aload_n hx hb dX1_copyFrom_47 rfl (lv_at hl 0 rfl) ?_
  refine lv_aload_n hx hb dX1_copyFrom_48 rfl (lv_at hl 1 rfl) ?_
  refine jget (ci := 1) (C := RX1) (T := TX1) (N := 9) (v := .int ((Z 1) 5)) hx hb hts hown hE hP hu1 rfl (kb := 1) rfl (q0 := 0) rfl 5 (by decide) (List.mem_of_getElem? (i := 10) rfl) rfl rfl dX1_copyFrom_49 ?_
  refine jput (ci := 1) (C := RX1) (T := TX1) (N := 9) (ty := .int) (bs' := [engW y b (sv 1 (sv 2 X (Z 2)) (upd (upd (upd (upd (upd (X 1) 1 ((Z 1) 1)) 2 ((Z 1) 2)) 3 ((Z 1) 3)) 4 ((Z 1) 4)) 5 ((Z 1) 5))), engW y d Z]) hx hb hts hown hE hP hD hS hu1 tyX1 tyX1_ok nmX1 rfl (kb := 0) rfl (q0 := 0) rfl 5 (by decide) (List.mem_of_getElem? (i := 10) rfl) rfl rfl rfl rfl rfl (Nat.le_of_ble_eq_true rfl) ((show ∀ (fg1 : Nat → Int32) (vg2 : Int32), List.set ([engW y b (sv 1 (sv 2 X (Z 2)) fg1), engW y d Z]) 0 (List.set (engW y b (sv 1 (sv 2 X (Z 2)) fg1)) 0 (b 1, .inr (1, List.set [.ref (b 2), .int ((sv 1 (sv 2 X (Z 2)) fg1) 1 1), .int ((sv 1 (sv 2 X (Z 2)) fg1) 1 2), .int ((sv 1 (sv 2 X (Z 2)) fg1) 1 3), .int ((sv 1 (sv 2 X (Z 2)) fg1) 1 4), .int ((sv 1 (sv 2 X (Z 2)) fg1) 1 5), .int ((sv 1 (sv 2 X (Z 2)) fg1) 1 6), .int ((sv 1 (sv 2 X (Z 2)) fg1) 1 7), .int ((sv 1 (sv 2 X (Z 2)) fg1) 1 8)] 5 (.int vg2)))) = [engW y b (sv 1 (sv 2 X (Z 2)) (upd fg1 5 vg2)), engW y d Z] from fun _ _ => rfl) (upd (upd (upd (upd (X 1) 1 ((Z 1) 1)) 2 ((Z 1) 2)) 3 ((Z 1) 3)) 4 ((Z 1) 4)) ((Z 1) 5)) dX1_copyFrom_52 (fun H locs hP hD hS => ?_)
  refine lv_aload_n hx hb dX1_copyFrom_55 rfl (lv_at hl 0 rfl) ?_
  refine lv_aload_n hx hb dX1_copyFrom_56 rfl (lv_at hl 1 rfl) ?_
  refine jget (ci := 1) (C := RX1) (T := TX1) (N := 9) (v := .int ((Z 1) 6)) hx hb hts hown hE hP hu1 rfl (kb := 1) rfl (q0 := 0) rfl 6 (by decide) (List.mem_of_getElem? (i := 11) rfl) rfl rfl dX1_copyFrom_57 ?_
  refine jput (ci := 1) (C := RX1) (T := TX1) (N := 9) (ty := .boolean) (bs' := [engW y b (sv 1 (sv 2 X (Z 2)) (upd (upd (upd (upd (upd (upd (X 1) 1 ((Z 1) 1)) 2 ((Z 1) 2)) 3 ((Z 1) 3)) 4 ((Z 1) 4)) 5 ((Z 1) 5)) 6 ((Z 1) 6))), engW y d Z]) hx hb hts hown hE hP hD hS hu1 tyX1 tyX1_ok nmX1 rfl (kb := 0) rfl (q0 := 0) rfl 6 (by decide) (List.mem_of_getElem? (i := 11) rfl) rfl rfl rfl (jz hz.1).1 (jz hz.1).2 (Nat.le_of_ble_eq_true rfl) ((show ∀ (fg1 : Nat → Int32) (vg2 : Int32), List.set ([engW y b (sv 1 (sv 2 X (Z 2)) fg1), engW y d Z]) 0 (List.set (engW y b (sv 1 (sv 2 X (Z 2)) fg1)) 0 (b 1, .inr (1, List.set [.ref (b 2), .int ((sv 1 (sv 2 X (Z 2)) fg1) 1 1), .int ((sv 1 (sv 2 X (Z 2)) fg1) 1 2), .int ((sv 1 (sv 2 X (Z 2)) fg1) 1 3), .int ((sv 1 (sv 2 X (Z 2)) fg1) 1 4), .int ((sv 1 (sv 2 X (Z 2)) fg1) 1 5), .int ((sv 1 (sv 2 X (Z 2)) fg1) 1 6), .int ((sv 1 (sv 2 X (Z 2)) fg1) 1 7), .int ((sv 1 (sv 2 X (Z 2)) fg1) 1 8)] 6 (.int vg2)))) = [engW y b (sv 1 (sv 2 X (Z 2)) (upd fg1 6 vg2)), engW y d Z] from fun _ _ => rfl) (upd (upd (upd (upd (upd (X 1) 1 ((Z 1) 1)) 2 ((Z 1) 2)) 3 ((Z 1) 3)) 4 ((Z 1) 4)) 5 ((Z 1) 5)) ((Z 1) 6)) dX1_copyFrom_60 (fun H locs hP hD hS => ?_)
  refine lv_aload_n hx hb dX1_copyFrom_63 rfl (lv_at hl 0 rfl) ?_
  refine lv_aload_n hx hb dX1_copyFrom_64 rfl (lv_at hl 1 rfl) ?_
  refine jget (ci := 1) (C := RX1) (T := TX1) (N := 9) (v := .int ((Z 1) 7)) hx hb hts hown hE hP hu1 rfl (kb := 1) rfl (q0 := 0) rfl 7 (by decide) (List.mem_of_getElem? (i := 12) rfl) rfl rfl dX1_copyFrom_65 ?_
  refine jput (ci := 1) (C := RX1) (T := TX1) (N := 9) (ty := .boolean) (bs' := [engW y b (sv 1 (sv 2 X (Z 2)) (upd (upd (upd (upd (upd (upd (upd (X 1) 1 ((Z 1) 1)) 2 ((Z 1) 2)) 3 ((Z 1) 3)) 4 ((Z 1) 4)) 5 ((Z 1) 5)) 6 ((Z 1) 6)) 7 ((Z 1) 7))), engW y d Z]) hx hb hts hown hE hP hD hS hu1 tyX1 tyX1_ok nmX1 rfl (kb := 0) rfl (q0 := 0) rfl 7 (by decide) (List.mem_of_getElem? (i := 12) rfl) rfl rfl rfl (jz hz.2.1).1 (jz hz.2.1).2 (Nat.le_of_ble_eq_true rfl) ((show ∀ (fg1 : Nat → Int32) (vg2 : Int32), List.set ([engW y b (sv 1 (sv 2 X (Z 2)) fg1), engW y d Z]) 0 (List.set (engW y b (sv 1 (sv 2 X (Z 2)) fg1)) 0 (b 1, .inr (1, List.set [.ref (b 2), .int ((sv 1 (sv 2 X (Z 2)) fg1) 1 1), .int ((sv 1 (sv 2 X (Z 2)) fg1) 1 2), .int ((sv 1 (sv 2 X (Z 2)) fg1) 1 3), .int ((sv 1 (sv 2 X (Z 2)) fg1) 1 4), .int ((sv 1 (sv 2 X (Z 2)) fg1) 1 5), .int ((sv 1 (sv 2 X (Z 2)) fg1) 1 6), .int ((sv 1 (sv 2 X (Z 2)) fg1) 1 7), .int ((sv 1 (sv 2 X (Z 2)) fg1) 1 8)] 7 (.int vg2)))) = [engW y b (sv 1 (sv 2 X (Z 2)) (upd fg1 7 vg2)), engW y d Z] from fun _ _ => rfl) (upd (upd (upd (upd (upd (upd (X 1) 1 ((Z 1) 1)) 2 ((Z 1) 2)) 3 ((Z 1) 3)) 4 ((Z 1) 4)) 5 ((Z 1) 5)) 6 ((Z 1) 6)) ((Z 1) 7)) dX1_copyFrom_68 (fun H locs hP hD hS => ?_)
  refine lv_aload_n hx hb dX1_copyFrom_71 rfl (lv_at hl 0 rfl) ?_
  refine lv_aload_n hx hb dX1_copyFrom_72 rfl (lv_at hl 1 rfl) ?_
  refine jget (ci := 1) (C := RX1) (T := TX1) (N := 9) (v := .int ((Z 1) 8)) hx hb hts hown hE hP hu1 rfl (kb := 1) rfl (q0 := 0) rfl 8 (by decide) (List.mem_of_getElem? (i := 13) rfl) rfl rfl dX1_copyFrom_73 ?_
  refine jput (ci := 1) (C := RX1) (T := TX1) (N := 9) (ty := .boolean) (bs' := [engW y b (sv 1 (sv 2 X (Z 2)) (upd (upd (upd (upd (upd (upd (upd (upd (X 1) 1 ((Z 1) 1)) 2 ((Z 1) 2)) 3 ((Z 1) 3)) 4 ((Z 1) 4)) 5 ((Z 1) 5)) 6 ((Z 1) 6)) 7 ((Z 1) 7)) 8 ((Z 1) 8))), engW y d Z]) hx hb hts hown hE hP hD hS hu1 tyX1 tyX1_ok nmX1 rfl (kb := 0) rfl (q0 := 0) rfl 8 (by decide) (List.mem_of_getElem? (i := 13) rfl) rfl rfl rfl (jz hz.2.2.1).1 (jz hz.2.2.1).2 (Nat.le_of_ble_eq_true rfl) ((show ∀ (fg1 : Nat → Int32) (vg2 : Int32), List.set ([engW y b (sv 1 (sv 2 X (Z 2)) fg1), engW y d Z]) 0 (List.set (engW y b (sv 1 (sv 2 X (Z 2)) fg1)) 0 (b 1, .inr (1, List.set [.ref (b 2), .int ((sv 1 (sv 2 X (Z 2)) fg1) 1 1), .int ((sv 1 (sv 2 X (Z 2)) fg1) 1 2), .int ((sv 1 (sv 2 X (Z 2)) fg1) 1 3), .int ((sv 1 (sv 2 X (Z 2)) fg1) 1 4), .int ((sv 1 (sv 2 X (Z 2)) fg1) 1 5), .int ((sv 1 (sv 2 X (Z 2)) fg1) 1 6), .int ((sv 1 (sv 2 X (Z 2)) fg1) 1 7), .int ((sv 1 (sv 2 X (Z 2)) fg1) 1 8)] 8 (.int vg2)))) = [engW y b (sv 1 (sv 2 X (Z 2)) (upd fg1 8 vg2)), engW y d Z] from fun _ _ => rfl) (upd (upd (upd (upd (upd (upd (upd (X 1) 1 ((Z 1) 1)) 2 ((Z 1) 2)) 3 ((Z 1) 3)) 4 ((Z 1) 4)) 5 ((Z 1) 5)) 6 ((Z 1) 6)) 7 ((Z 1) 7)) ((Z 1) 8)) dX1_copyFrom_76 (fun H locs hP hD hS => ?_)
  exact jV_ret hx hb hr hlocks hP hS dX1_copyFrom_79 rfl
set_option maxHeartbeats 4000000 in
set_option maxRecDepth 100000 in
theorem ct_X0_copyFrom (l : Launch) (D : va_G) (y : Nat → ClassId) (b : Nat → Nat) (d : Nat → Nat) (X : Nat → Nat → Int32) (Z : Nat → Nat → Int32) (hz : jBo Z) : jV l D y yX0_copyFrom wsX0_copyFrom ({ frames := 0, cells := 0, slots := 0, locals := 0 } : Room) [.ref (b 3), .ref (d 3)] ([attW b X, attW d Z]) ([attW b (sv 3 X (Z 3)), attW d Z]) := by
  refine jV_of (cc := cX0_copyFrom) (maxL := 2) (by decide) rfl (Nat.le_of_ble_eq_true rfl) ?_
  intro p e s m below meth c A ls hx hb hr hlocks hml hown hts hE hZ hA hP hD hS hl
  have hown : s.vm.findClass RX0 = some m.cls := hown
  have hl : lv_has ls 2 [(0, .ref (b 3)), (1, .ref (d 3))] := hl
  have hu0 : ∀ w ∈ wsX00, w ∈ wsX0_copyFrom := fun _ h => List.mem_cons_of_mem _ (List.mem_append_right _ h)
  refine lv_aload_n hx hb dX0_copyFrom_0 rfl (lv_at hl 0 rfl) ?_
  refine lv_aload_n hx hb dX0_copyFrom_1 rfl (lv_at hl 1 rfl) ?_
  refine jget (ci := 0) (C := RX0) (T := TX0) (N := 5) (v := .int ((Z 3) 0)) hx hb hts hown hE hP hu0 rfl (kb := 1) rfl (q0 := 0) rfl 0 (by decide) (List.mem_of_getElem? (i := 1) rfl) rfl rfl dX0_copyFrom_2 ?_
  refine jput (ci := 0) (C := RX0) (T := TX0) (N := 5) (ty := .boolean) (bs' := [attW b (sv 3 X (upd (X 3) 0 ((Z 3) 0))), attW d Z]) hx hb hts hown hE hP hD hS hu0 tyX0 tyX0_ok nmX0 rfl (kb := 0) rfl (q0 := 0) rfl 0 (by decide) (List.mem_of_getElem? (i := 1) rfl) rfl rfl rfl (jz hz.2.2.2).1 (jz hz.2.2.2).2 (Nat.le_of_ble_eq_true rfl) ((show ∀ (vg1 : Int32), List.set ([attW b X, attW d Z]) 0 (List.set (attW b X) 0 (b 3, .inr (0, List.set [.int (X 3 0), .int (X 3 1), .int (X 3 2), .int (X 3 3), .int (X 3 4)] 0 (.int vg1)))) = [attW b (sv 3 X (upd (X 3) 0 vg1)), attW d Z] from fun _ => rfl) ((Z 3) 0)) dX0_copyFrom_5 (fun H locs hP hD hS => ?_)
  refine lv_aload_n hx hb dX0_copyFrom_8 rfl (lv_at hl 0 rfl) ?_
  refine lv_aload_n hx hb dX0_copyFrom_9 rfl (lv_at hl 1 rfl) ?_
  refine jget (ci := 0) (C := RX0) (T := TX0) (N := 5) (v := .int ((Z 3) 1)) hx hb hts hown hE hP hu0 rfl (kb := 1) rfl (q0 := 0) rfl 1 (by decide) (List.mem_of_getElem? (i := 2) rfl) rfl rfl dX0_copyFrom_10 ?_
  refine jput (ci := 0) (C := RX0) (T := TX0) (N := 5) (ty := .int) (bs' := [attW b (sv 3 X (upd (upd (X 3) 0 ((Z 3) 0)) 1 ((Z 3) 1))), attW d Z]) hx hb hts hown hE hP hD hS hu0 tyX0 tyX0_ok nmX0 rfl (kb := 0) rfl (q0 := 0) rfl 1 (by decide) (List.mem_of_getElem? (i := 2) rfl) rfl rfl rfl rfl rfl (Nat.le_of_ble_eq_true rfl) ((show ∀ (fg1 : Nat → Int32) (vg2 : Int32), List.set ([attW b (sv 3 X fg1), attW d Z]) 0 (List.set (attW b (sv 3 X fg1)) 0 (b 3, .inr (0, List.set [.int ((sv 3 X fg1) 3 0), .int ((sv 3 X fg1) 3 1), .int ((sv 3 X fg1) 3 2), .int ((sv 3 X fg1) 3 3), .int ((sv 3 X fg1) 3 4)] 1 (.int vg2)))) = [attW b (sv 3 X (upd fg1 1 vg2)), attW d Z] from fun _ _ => rfl) (upd (X 3) 0 ((Z 3) 0)) ((Z 3) 1)) dX0_copyFrom_13 (fun H locs hP hD hS => ?_)
  refine lv_aload_n hx hb dX0_copyFrom_16 rfl (lv_at hl 0 rfl) ?_
  refine lv_aload_n hx hb dX0_copyFrom_17 rfl (lv_at hl 1 rfl) ?_
  refine jget (ci := 0) (C := RX0) (T := TX0) (N := 5) (v := .int ((Z 3) 2)) hx hb hts hown hE hP hu0 rfl (kb := 1) rfl (q0 := 0) rfl 2 (by decide) (List.mem_of_getElem? (i := 3) rfl) rfl rfl dX0_copyFrom_18 ?_
  refine jput (ci := 0) (C := RX0) (T := TX0) (N := 5) (ty := .int) (bs' := [attW b (sv 3 X (upd (upd (upd (X 3) 0 ((Z 3) 0)) 1 ((Z 3) 1)) 2 ((Z 3) 2))), attW d Z]) hx hb hts hown hE hP hD hS hu0 tyX0 tyX0_ok nmX0 rfl (kb := 0) rfl (q0 := 0) rfl 2 (by decide) (List.mem_of_getElem? (i := 3) rfl) rfl rfl rfl rfl rfl (Nat.le_of_ble_eq_true rfl) ((show ∀ (fg1 : Nat → Int32) (vg2 : Int32), List.set ([attW b (sv 3 X fg1), attW d Z]) 0 (List.set (attW b (sv 3 X fg1)) 0 (b 3, .inr (0, List.set [.int ((sv 3 X fg1) 3 0), .int ((sv 3 X fg1) 3 1), .int ((sv 3 X fg1) 3 2), .int ((sv 3 X fg1) 3 3), .int ((sv 3 X fg1) 3 4)] 2 (.int vg2)))) = [attW b (sv 3 X (upd fg1 2 vg2)), attW d Z] from fun _ _ => rfl) (upd (upd (X 3) 0 ((Z 3) 0)) 1 ((Z 3) 1)) ((Z 3) 2)) dX0_copyFrom_21 (fun H locs hP hD hS => ?_)
  refine lv_aload_n hx hb dX0_copyFrom_24 rfl (lv_at hl 0 rfl) ?_
  refine lv_aload_n hx hb dX0_copyFrom_25 rfl (lv_at hl 1 rfl) ?_
  refine jget (ci := 0) (C := RX0) (T := TX0) (N := 5) (v := .int ((Z 3) 3)) hx hb hts hown hE hP hu0 rfl (kb := 1) rfl (q0 := 0) rfl 3 (by decide) (List.mem_of_getElem? (i := 4) rfl) rfl rfl dX0_copyFrom_26 ?_
  refine jput (ci := 0) (C := RX0) (T := TX0) (N := 5) (ty := .int) (bs' := [attW b (sv 3 X (upd (upd (upd (upd (X 3) 0 ((Z 3) 0)) 1 ((Z 3) 1)) 2 ((Z 3) 2)) 3 ((Z 3) 3))), attW d Z]) hx hb hts hown hE hP hD hS hu0 tyX0 tyX0_ok nmX0 rfl (kb := 0) rfl (q0 := 0) rfl 3 (by decide) (List.mem_of_getElem? (i := 4) rfl) rfl rfl rfl rfl rfl (Nat.le_of_ble_eq_true rfl) ((show ∀ (fg1 : Nat → Int32) (vg2 : Int32), List.set ([attW b (sv 3 X fg1), attW d Z]) 0 (List.set (attW b (sv 3 X fg1)) 0 (b 3, .inr (0, List.set [.int ((sv 3 X fg1) 3 0), .int ((sv 3 X fg1) 3 1), .int ((sv 3 X fg1) 3 2), .int ((sv 3 X fg1) 3 3), .int ((sv 3 X fg1) 3 4)] 3 (.int vg2)))) = [attW b (sv 3 X (upd fg1 3 vg2)), attW d Z] from fun _ _ => rfl) (upd (upd (upd (X 3) 0 ((Z 3) 0)) 1 ((Z 3) 1)) 2 ((Z 3) 2)) ((Z 3) 3)) dX0_copyFrom_29 (fun H locs hP hD hS => ?_)
  refine lv_aload_n hx hb dX0_copyFrom_32 rfl (lv_at hl 0 rfl) ?_
  refine lv_aload_n hx hb dX0_copyFrom_33 rfl (lv_at hl 1 rfl) ?_
  refine jget (ci := 0) (C := RX0) (T := TX0) (N := 5) (v := .int ((Z 3) 4)) hx hb hts hown hE hP hu0 rfl (kb := 1) rfl (q0 := 0) rfl 4 (by decide) (List.mem_of_getElem? (i := 5) rfl) rfl rfl dX0_copyFrom_34 ?_
  refine jput (ci := 0) (C := RX0) (T := TX0) (N := 5) (ty := .int) (bs' := [attW b (sv 3 X (upd (upd (upd (upd (upd (X 3) 0 ((Z 3) 0)) 1 ((Z 3) 1)) 2 ((Z 3) 2)) 3 ((Z 3) 3)) 4 ((Z 3) 4))), attW d Z]) hx hb hts hown hE hP hD hS hu0 tyX0 tyX0_ok nmX0 rfl (kb := 0) rfl (q0 := 0) rfl 4 (by decide) (List.mem_of_getElem? (i := 5) rfl) rfl rfl rfl rfl rfl (Nat.le_of_ble_eq_true rfl) ((show ∀ (fg1 : Nat → Int32) (vg2 : Int32), List.set ([attW b (sv 3 X fg1), attW d Z]) 0 (List.set (attW b (sv 3 X fg1)) 0 (b 3, .inr (0, List.set [.int ((sv 3 X fg1) 3 0), .int ((sv 3 X fg1) 3 1), .int ((sv 3 X fg1) 3 2), .int ((sv 3 X fg1) 3 3), .int ((sv 3 X fg1) 3 4)] 4 (.int vg2)))) = [attW b (sv 3 X (upd fg1 4 vg2)), attW d Z] from fun _ _ => rfl) (upd (upd (upd (upd (X 3) 0 ((Z 3) 0)) 1 ((Z 3) 1)) 2 ((Z 3) 2)) 3 ((Z 3) 3)) ((Z 3) 4)) dX0_copyFrom_37 (fun H locs hP hD hS => ?_)
  exact jV_ret hx hb hr hlocks hP hS dX0_copyFrom_40 rfl
set_option maxHeartbeats 4000000 in
set_option maxRecDepth 100000 in
theorem ct_X3_copyFrom (l : Launch) (D : va_G) (y : Nat → ClassId) (b : Nat → Nat) (d : Nat → Nat) (X : Nat → Nat → Int32) (Z : Nat → Nat → Int32) (hz : jBo Z) : jV l D y yX3_copyFrom wsX3_copyFrom ({ frames := 1, cells := 0, slots := 0, locals := 18 } : Room) [.ref (b 4), .ref (d 4)] ([logW y b X, logW y d Z]) ([logW y b (sv 5 (sv 4 X (Z 4)) (Z 5)), logW y d Z]) := by
  refine jV_of (cc := cX3_copyFrom) (maxL := 2) (by decide) rfl (Nat.le_of_ble_eq_true rfl) ?_
  intro p e s m below meth c A ls hx hb hr hlocks hml hown hts hE hZ hA hP hD hS hl
  have hown : s.vm.findClass RX3 = some m.cls := hown
  have hl : lv_has ls 2 [(0, .ref (b 4)), (1, .ref (d 4))] := hl
  have hu3 : ∀ w ∈ wsX30, w ∈ wsX3_copyFrom := fun _ h => List.mem_cons_of_mem _ (List.mem_append_right _ h)
  refine lv_aload_n hx hb dX3_copyFrom_0 rfl (lv_at hl 1 rfl) ?_
  refine jget (ci := 3) (C := RX3) (T := TX3) (N := 2) (v := .ref (d 5)) hx hb hts hown hE hP hu3 rfl (kb := 1) rfl (q0 := 0) rfl 0 (by decide) (List.mem_of_getElem? (i := 1) rfl) rfl rfl dX3_copyFrom_1 ?_
  refine lv_iconst (v := 0) hx hb dX3_copyFrom_4 (by decide) ?_
  refine lv_aload_n hx hb dX3_copyFrom_5 rfl (lv_at hl 0 rfl) ?_
  refine jget (ci := 3) (C := RX3) (T := TX3) (N := 2) (v := .ref (b 5)) hx hb hts hown hE hP hu3 rfl (kb := 0) rfl (q0 := 0) rfl 0 (by decide) (List.mem_of_getElem? (i := 1) rfl) rfl rfl dX3_copyFrom_6 ?_
  refine lv_iconst (v := 0) hx hb dX3_copyFrom_9 (by decide) ?_
  refine lv_bipush (v := 40) hx hb dX3_copyFrom_10 (by decide) ?_
  refine jcopy (kb0 := 1) (q0 := 1) (kb1 := 0) (q1 := 1) (spk := 0) (dpk := 0) (nk := 40) (g' := Z 5) (bs' := [logW y b (sv 5 X (Z 5)), logW y d Z]) hx hb (hml.trans hl.1.symm) hts hown hE hP hD hS (List.mem_of_getElem? (i := 2) rfl) (List.mem_of_getElem? (i := 3) rfl) (List.mem_of_getElem? (i := 4) rfl) (List.mem_of_getElem? (i := 5) rfl) rfl rfl rfl rfl (by decide) (by decide) (by decide) (by decide) (by decide) (by decide) (Nat.le_of_ble_eq_true rfl) (jcpy _ _ 40) rfl dX3_copyFrom_12 (fun H locs hP hD hS => ?_)
  refine lv_aload_n hx hb dX3_copyFrom_15 rfl (lv_at hl 0 rfl) ?_
  refine lv_aload_n hx hb dX3_copyFrom_16 rfl (lv_at hl 1 rfl) ?_
  refine jget (ci := 3) (C := RX3) (T := TX3) (N := 2) (v := .int ((Z 4) 1)) hx hb hts hown hE hP hu3 rfl (kb := 1) rfl (q0 := 0) rfl 1 (by decide) (List.mem_of_getElem? (i := 6) rfl) rfl rfl dX3_copyFrom_17 ?_
  refine jput (ci := 3) (C := RX3) (T := TX3) (N := 2) (ty := .int) (bs' := [logW y b (sv 4 (sv 5 X (Z 5)) (upd (X 4) 1 ((Z 4) 1))), logW y d Z]) hx hb hts hown hE hP hD hS hu3 tyX3 tyX3_ok nmX3 rfl (kb := 0) rfl (q0 := 0) rfl 1 (by decide) (List.mem_of_getElem? (i := 6) rfl) rfl rfl rfl rfl rfl (Nat.le_of_ble_eq_true rfl) ((show ∀ (vg1 : Int32), List.set ([logW y b (sv 5 X (Z 5)), logW y d Z]) 0 (List.set (logW y b (sv 5 X (Z 5))) 0 (b 4, .inr (3, List.set [.ref (b 5), .int ((sv 5 X (Z 5)) 4 1)] 1 (.int vg1)))) = [logW y b (sv 4 (sv 5 X (Z 5)) (upd (X 4) 1 vg1)), logW y d Z] from fun _ => rfl) ((Z 4) 1)) dX3_copyFrom_20 (fun H locs hP hD hS => ?_)
  exact jV_ret hx hb hr hlocks hP hS dX3_copyFrom_23 rfl
set_option maxHeartbeats 4000000 in
set_option maxRecDepth 100000 in
theorem ct_X6_copyFrom (l : Launch) (D : va_G) (y : Nat → ClassId) (b : Nat → Nat) (d : Nat → Nat) (X : Nat → Nat → Int32) (Z : Nat → Nat → Int32) (hz : jBo Z) : jV l D y yX6_copyFrom wsX6_copyFrom ({ frames := 1, cells := 0, slots := 0, locals := 18 } : Room) [.ref (b 6), .ref (d 6)] ([talW y b X, talW y d Z]) ([talW y b (sv 7 (sv 6 X (Z 6)) (Z 7)), talW y d Z]) := by
  refine jV_of (cc := cX6_copyFrom) (maxL := 2) (by decide) rfl (Nat.le_of_ble_eq_true rfl) ?_
  intro p e s m below meth c A ls hx hb hr hlocks hml hown hts hE hZ hA hP hD hS hl
  have hown : s.vm.findClass RX6 = some m.cls := hown
  have hl : lv_has ls 2 [(0, .ref (b 6)), (1, .ref (d 6))] := hl
  have hu6 : ∀ w ∈ wsX60, w ∈ wsX6_copyFrom := fun _ h => List.mem_cons_of_mem _ (List.mem_append_right _ h)
  refine lv_aload_n hx hb dX6_copyFrom_0 rfl (lv_at hl 1 rfl) ?_
  refine jget (ci := 6) (C := RX6) (T := TX6) (N := 6) (v := .ref (d 7)) hx hb hts hown hE hP hu6 rfl (kb := 1) rfl (q0 := 0) rfl 0 (by decide) (List.mem_of_getElem? (i := 1) rfl) rfl rfl dX6_copyFrom_1 ?_
  refine lv_iconst (v := 0) hx hb dX6_copyFrom_4 (by decide) ?_
  refine lv_aload_n hx hb dX6_copyFrom_5 rfl (lv_at hl 0 rfl) ?_
  refine jget (ci := 6) (C := RX6) (T := TX6) (N := 6) (v := .ref (b 7)) hx hb hts hown hE hP hu6 rfl (kb := 0) rfl (q0 := 0) rfl 0 (by decide) (List.mem_of_getElem? (i := 1) rfl) rfl rfl dX6_copyFrom_6 ?_
  refine lv_iconst (v := 0) hx hb dX6_copyFrom_9 (by decide) ?_
  refine lv_iconst (v := 4) hx hb dX6_copyFrom_10 (by decide) ?_
  refine jcopy (kb0 := 1) (q0 := 1) (kb1 := 0) (q1 := 1) (spk := 0) (dpk := 0) (nk := 4) (g' := Z 7) (bs' := [talW y b (sv 7 X (Z 7)), talW y d Z]) hx hb (hml.trans hl.1.symm) hts hown hE hP hD hS (List.mem_of_getElem? (i := 2) rfl) (List.mem_of_getElem? (i := 3) rfl) (List.mem_of_getElem? (i := 4) rfl) (List.mem_of_getElem? (i := 5) rfl) rfl rfl rfl rfl (by decide) (by decide) (by decide) (by decide) (by decide) (by decide) (Nat.le_of_ble_eq_true rfl) (jcpy _ _ 4) rfl dX6_copyFrom_11 (fun H locs hP hD hS => ?_)
  refine lv_aload_n hx hb dX6_copyFrom_14 rfl (lv_at hl 0 rfl) ?_
  refine lv_aload_n hx hb dX6_copyFrom_15 rfl (lv_at hl 1 rfl) ?_
  refine jget (ci := 6) (C := RX6) (T := TX6) (N := 6) (v := .int ((Z 6) 1)) hx hb hts hown hE hP hu6 rfl (kb := 1) rfl (q0 := 0) rfl 1 (by decide) (List.mem_of_getElem? (i := 6) rfl) rfl rfl dX6_copyFrom_16 ?_
  refine jput (ci := 6) (C := RX6) (T := TX6) (N := 6) (ty := .int) (bs' := [talW y b (sv 6 (sv 7 X (Z 7)) (upd (X 6) 1 ((Z 6) 1))), talW y d Z]) hx hb hts hown hE hP hD hS hu6 tyX6 tyX6_ok nmX6 rfl (kb := 0) rfl (q0 := 0) rfl 1 (by decide) (List.mem_of_getElem? (i := 6) rfl) rfl rfl rfl rfl rfl (Nat.le_of_ble_eq_true rfl) ((show ∀ (vg1 : Int32), List.set ([talW y b (sv 7 X (Z 7)), talW y d Z]) 0 (List.set (talW y b (sv 7 X (Z 7))) 0 (b 6, .inr (6, List.set [.ref (b 7), .int ((sv 7 X (Z 7)) 6 1), .int ((sv 7 X (Z 7)) 6 2), .int ((sv 7 X (Z 7)) 6 3), .int ((sv 7 X (Z 7)) 6 4), .int ((sv 7 X (Z 7)) 6 5)] 1 (.int vg1)))) = [talW y b (sv 6 (sv 7 X (Z 7)) (upd (X 6) 1 vg1)), talW y d Z] from fun _ => rfl) ((Z 6) 1)) dX6_copyFrom_19 (fun H locs hP hD hS => ?_)
  refine lv_aload_n hx hb dX6_copyFrom_22 rfl (lv_at hl 0 rfl) ?_
  refine lv_aload_n hx hb dX6_copyFrom_23 rfl (lv_at hl 1 rfl) ?_
  refine jget (ci := 6) (C := RX6) (T := TX6) (N := 6) (v := .int ((Z 6) 2)) hx hb hts hown hE hP hu6 rfl (kb := 1) rfl (q0 := 0) rfl 2 (by decide) (List.mem_of_getElem? (i := 7) rfl) rfl rfl dX6_copyFrom_24 ?_
  refine jput (ci := 6) (C := RX6) (T := TX6) (N := 6) (ty := .int) (bs' := [talW y b (sv 6 (sv 7 X (Z 7)) (upd (upd (X 6) 1 ((Z 6) 1)) 2 ((Z 6) 2))), talW y d Z]) hx hb hts hown hE hP hD hS hu6 tyX6 tyX6_ok nmX6 rfl (kb := 0) rfl (q0 := 0) rfl 2 (by decide) (List.mem_of_getElem? (i := 7) rfl) rfl rfl rfl rfl rfl (Nat.le_of_ble_eq_true rfl) ((show ∀ (fg1 : Nat → Int32) (vg2 : Int32), List.set ([talW y b (sv 6 (sv 7 X (Z 7)) fg1), talW y d Z]) 0 (List.set (talW y b (sv 6 (sv 7 X (Z 7)) fg1)) 0 (b 6, .inr (6, List.set [.ref (b 7), .int ((sv 6 (sv 7 X (Z 7)) fg1) 6 1), .int ((sv 6 (sv 7 X (Z 7)) fg1) 6 2), .int ((sv 6 (sv 7 X (Z 7)) fg1) 6 3), .int ((sv 6 (sv 7 X (Z 7)) fg1) 6 4), .int ((sv 6 (sv 7 X (Z 7)) fg1) 6 5)] 2 (.int vg2)))) = [talW y b (sv 6 (sv 7 X (Z 7)) (upd fg1 2 vg2)), talW y d Z] from fun _ _ => rfl) (upd (X 6) 1 ((Z 6) 1)) ((Z 6) 2)) dX6_copyFrom_27 (fun H locs hP hD hS => ?_)
  refine lv_aload_n hx hb dX6_copyFrom_30 rfl (lv_at hl 0 rfl) ?_
  refine lv_aload_n hx hb dX6_copyFrom_31 rfl (lv_at hl 1 rfl) ?_
  refine jget (ci := 6) (C := RX6) (T := TX6) (N := 6) (v := .int ((Z 6) 3)) hx hb hts hown hE hP hu6 rfl (kb := 1) rfl (q0 := 0) rfl 3 (by decide) (List.mem_of_getElem? (i := 8) rfl) rfl rfl dX6_copyFrom_32 ?_
  refine jput (ci := 6) (C := RX6) (T := TX6) (N := 6) (ty := .int) (bs' := [talW y b (sv 6 (sv 7 X (Z 7)) (upd (upd (upd (X 6) 1 ((Z 6) 1)) 2 ((Z 6) 2)) 3 ((Z 6) 3))), talW y d Z]) hx hb hts hown hE hP hD hS hu6 tyX6 tyX6_ok nmX6 rfl (kb := 0) rfl (q0 := 0) rfl 3 (by decide) (List.mem_of_getElem? (i := 8) rfl) rfl rfl rfl rfl rfl (Nat.le_of_ble_eq_true rfl) ((show ∀ (fg1 : Nat → Int32) (vg2 : Int32), List.set ([talW y b (sv 6 (sv 7 X (Z 7)) fg1), talW y d Z]) 0 (List.set (talW y b (sv 6 (sv 7 X (Z 7)) fg1)) 0 (b 6, .inr (6, List.set [.ref (b 7), .int ((sv 6 (sv 7 X (Z 7)) fg1) 6 1), .int ((sv 6 (sv 7 X (Z 7)) fg1) 6 2), .int ((sv 6 (sv 7 X (Z 7)) fg1) 6 3), .int ((sv 6 (sv 7 X (Z 7)) fg1) 6 4), .int ((sv 6 (sv 7 X (Z 7)) fg1) 6 5)] 3 (.int vg2)))) = [talW y b (sv 6 (sv 7 X (Z 7)) (upd fg1 3 vg2)), talW y d Z] from fun _ _ => rfl) (upd (upd (X 6) 1 ((Z 6) 1)) 2 ((Z 6) 2)) ((Z 6) 3)) dX6_copyFrom_35 (fun H locs hP hD hS => ?_)
  refine lv_aload_n hx hb dX6_copyFrom_38 rfl (lv_at hl 0 rfl) ?_
  refine lv_aload_n hx hb dX6_copyFrom_39 rfl (lv_at hl 1 rfl) ?_
  refine jget (ci := 6) (C := RX6) (T := TX6) (N := 6) (v := .int ((Z 6) 4)) hx hb hts hown hE hP hu6 rfl (kb := 1) rfl (q0 := 0) rfl 4 (by decide) (List.mem_of_getElem? (i := 9) rfl) rfl rfl dX6_copyFrom_40 ?_
  refine jput (ci := 6) (C := RX6) (T := TX6) (N := 6) (ty := .int) (bs' := [talW y b (sv 6 (sv 7 X (Z 7)) (upd (upd (upd (upd (X 6) 1 ((Z 6) 1)) 2 ((Z 6) 2)) 3 ((Z 6) 3)) 4 ((Z 6) 4))), talW y d Z]) hx hb hts hown hE hP hD hS hu6 tyX6 tyX6_ok nmX6 rfl (kb := 0) rfl (q0 := 0) rfl 4 (by decide) (List.mem_of_getElem? (i := 9) rfl) rfl rfl rfl rfl rfl (Nat.le_of_ble_eq_true rfl) ((show ∀ (fg1 : Nat → Int32) (vg2 : Int32), List.set ([talW y b (sv 6 (sv 7 X (Z 7)) fg1), talW y d Z]) 0 (List.set (talW y b (sv 6 (sv 7 X (Z 7)) fg1)) 0 (b 6, .inr (6, List.set [.ref (b 7), .int ((sv 6 (sv 7 X (Z 7)) fg1) 6 1), .int ((sv 6 (sv 7 X (Z 7)) fg1) 6 2), .int ((sv 6 (sv 7 X (Z 7)) fg1) 6 3), .int ((sv 6 (sv 7 X (Z 7)) fg1) 6 4), .int ((sv 6 (sv 7 X (Z 7)) fg1) 6 5)] 4 (.int vg2)))) = [talW y b (sv 6 (sv 7 X (Z 7)) (upd fg1 4 vg2)), talW y d Z] from fun _ _ => rfl) (upd (upd (upd (X 6) 1 ((Z 6) 1)) 2 ((Z 6) 2)) 3 ((Z 6) 3)) ((Z 6) 4)) dX6_copyFrom_43 (fun H locs hP hD hS => ?_)
  refine lv_aload_n hx hb dX6_copyFrom_46 rfl (lv_at hl 0 rfl) ?_
  refine lv_aload_n hx hb dX6_copyFrom_47 rfl (lv_at hl 1 rfl) ?_
  refine jget (ci := 6) (C := RX6) (T := TX6) (N := 6) (v := .int ((Z 6) 5)) hx hb hts hown hE hP hu6 rfl (kb := 1) rfl (q0 := 0) rfl 5 (by decide) (List.mem_of_getElem? (i := 10) rfl) rfl rfl dX6_copyFrom_48 ?_
  refine jput (ci := 6) (C := RX6) (T := TX6) (N := 6) (ty := .int) (bs' := [talW y b (sv 6 (sv 7 X (Z 7)) (upd (upd (upd (upd (upd (X 6) 1 ((Z 6) 1)) 2 ((Z 6) 2)) 3 ((Z 6) 3)) 4 ((Z 6) 4)) 5 ((Z 6) 5))), talW y d Z]) hx hb hts hown hE hP hD hS hu6 tyX6 tyX6_ok nmX6 rfl (kb := 0) rfl (q0 := 0) rfl 5 (by decide) (List.mem_of_getElem? (i := 10) rfl) rfl rfl rfl rfl rfl (Nat.le_of_ble_eq_true rfl) ((show ∀ (fg1 : Nat → Int32) (vg2 : Int32), List.set ([talW y b (sv 6 (sv 7 X (Z 7)) fg1), talW y d Z]) 0 (List.set (talW y b (sv 6 (sv 7 X (Z 7)) fg1)) 0 (b 6, .inr (6, List.set [.ref (b 7), .int ((sv 6 (sv 7 X (Z 7)) fg1) 6 1), .int ((sv 6 (sv 7 X (Z 7)) fg1) 6 2), .int ((sv 6 (sv 7 X (Z 7)) fg1) 6 3), .int ((sv 6 (sv 7 X (Z 7)) fg1) 6 4), .int ((sv 6 (sv 7 X (Z 7)) fg1) 6 5)] 5 (.int vg2)))) = [talW y b (sv 6 (sv 7 X (Z 7)) (upd fg1 5 vg2)), talW y d Z] from fun _ _ => rfl) (upd (upd (upd (upd (X 6) 1 ((Z 6) 1)) 2 ((Z 6) 2)) 3 ((Z 6) 3)) 4 ((Z 6) 4)) ((Z 6) 5)) dX6_copyFrom_51 (fun H locs hP hD hS => ?_)
  exact jV_ret hx hb hr hlocks hP hS dX6_copyFrom_54 rfl
def x_X5_copyFrom_1 (X : Nat → Nat → Int32) (Z : Nat → Nat → Int32) : Nat → Nat → Int32 := sv 3 (sv 2 (sv 1 X (Z 1)) (Z 2)) (Z 3)
def x_X5_copyFrom_2 (X : Nat → Nat → Int32) (Z : Nat → Nat → Int32) : Nat → Nat → Int32 := sv 5 (sv 4 (x_X5_copyFrom_1 X Z) (Z 4)) (Z 5)
def x_X5_copyFrom_3 (X : Nat → Nat → Int32) (Z : Nat → Nat → Int32) : Nat → Nat → Int32 := sv 7 (sv 6 (x_X5_copyFrom_2 X Z) (Z 6)) (Z 7)
set_option maxHeartbeats 4000000 in
set_option maxRecDepth 100000 in
theorem ct_X5_copyFrom (l : Launch) (D : va_G) (y : Nat → ClassId) (b : Nat → Nat) (d : Nat → Nat) (X : Nat → Nat → Int32) (Z : Nat → Nat → Int32) (hz : jBo Z) : jV l D y yX5_copyFrom wsX5_copyFrom ({ frames := 2, cells := 0, slots := 0, locals := 39 } : Room) [.ref (b 0), .ref (d 0)] (stB y b X ++ stB y d Z) (stB y b Z ++ stB y d Z) := by
  refine jV_of (cc := cX5_copyFrom) (maxL := 2) (by decide) rfl (Nat.le_of_ble_eq_true rfl) ?_
  intro p e s m below meth c A ls hx hb hr hlocks hml hown hts hE hZ hA hP hD hS hl
  have hown : s.vm.findClass RX5 = some m.cls := hown
  have hl : lv_has ls 2 [(0, .ref (b 0)), (1, .ref (d 0))] := hl
  have hu5 : ∀ w ∈ wsX50, w ∈ wsX5_copyFrom := fun _ h => List.mem_cons_of_mem _ (List.mem_append_left _ (List.mem_append_left _ (List.mem_append_left _ (List.mem_append_left _ (List.mem_append_right _ h)))))
  refine lv_aload_n hx hb dX5_copyFrom_0 rfl (lv_at hl 0 rfl) ?_
  refine jget (ci := 5) (C := RX5) (T := TX5) (N := 5) (v := .ref (b 1)) hx hb hts hown hE hP hu5 rfl (kb := 0) rfl (q0 := 0) rfl 0 (by decide) (List.mem_of_getElem? (i := 1) rfl) rfl rfl dX5_copyFrom_1 ?_
  refine lv_aload_n hx hb dX5_copyFrom_4 rfl (lv_at hl 1 rfl) ?_
  refine jget (ci := 5) (C := RX5) (T := TX5) (N := 5) (v := .ref (d 1)) hx hb hts hown hE hP hu5 rfl (kb := 5) rfl (q0 := 0) rfl 0 (by decide) (List.mem_of_getElem? (i := 1) rfl) rfl rfl dX5_copyFrom_5 ?_
  refine jVNv (n := 1) (is := [1, 6]) (bs' := stB y b (sv 2 (sv 1 X (Z 1)) (Z 2)) ++ stB y d Z) hx hb hml hown hts hE hZ hA hP hD hS (ct_X1_copyFrom l D y b d X Z hz) rfl rfl rfl rfl gX5_copyFrom_X1_copyFrom_n39 (List.mem_of_getElem? (i := 49) rfl) rfl (List.mem_of_getElem? (i := 7) rfl) (List.mem_of_getElem? (i := 6) rfl) (List.mem_of_getElem? (i := 8) rfl) (by decide +kernel) ⟨by decide, by decide⟩ ⟨rfl, rfl⟩ (kb := 1) rfl (q0 := 0) (ci := 1) rfl rfl rfl rfl hl.1 rfl (Nat.le_of_ble_eq_true rfl) ⟨Nat.zero_le _, Nat.zero_le _⟩ dX5_copyFrom_8 (fun H locs hP hD hS => ?_)
  refine lv_aload_n hx hb dX5_copyFrom_11 rfl (lv_at hl 0 rfl) ?_
  refine jget (ci := 5) (C := RX5) (T := TX5) (N := 5) (v := .ref (b 3)) hx hb hts hown hE hP hu5 rfl (kb := 0) rfl (q0 := 0) rfl 1 (by decide) (List.mem_of_getElem? (i := 2) rfl) rfl rfl dX5_copyFrom_12 ?_
  refine lv_aload_n hx hb dX5_copyFrom_15 rfl (lv_at hl 1 rfl) ?_
  refine jget (ci := 5) (C := RX5) (T := TX5) (N := 5) (v := .ref (d 3)) hx hb hts hown hE hP hu5 rfl (kb := 5) rfl (q0 := 0) rfl 1 (by decide) (List.mem_of_getElem? (i := 2) rfl) rfl rfl dX5_copyFrom_16 ?_
  refine jVNv (n := 1) (is := [2, 7]) (bs' := stB y b (x_X5_copyFrom_1 X Z) ++ stB y d Z) hx hb hml hown hts hE hZ hA hP hD hS (ct_X0_copyFrom l D y b d (sv 2 (sv 1 X (Z 1)) (Z 2)) Z hz) rfl rfl rfl rfl gX5_copyFrom_X0_copyFrom_n43 (List.mem_of_getElem? (i := 50) rfl) rfl (List.mem_of_getElem? (i := 24) rfl) (List.mem_of_getElem? (i := 23) rfl) (List.mem_of_getElem? (i := 25) rfl) (by decide +kernel) ⟨by decide, by decide⟩ ⟨rfl, rfl⟩ (kb := 2) rfl (q0 := 0) (ci := 0) rfl rfl rfl rfl hl.1 rfl (Nat.le_of_ble_eq_true rfl) ⟨Nat.zero_le _, Nat.zero_le _⟩ dX5_copyFrom_19 (fun H locs hP hD hS => ?_)
  refine lv_aload_n hx hb dX5_copyFrom_22 rfl (lv_at hl 0 rfl) ?_
  refine jget (ci := 5) (C := RX5) (T := TX5) (N := 5) (v := .ref (b 4)) hx hb hts hown hE hP hu5 rfl (kb := 0) rfl (q0 := 0) rfl 2 (by decide) (List.mem_of_getElem? (i := 3) rfl) rfl rfl dX5_copyFrom_23 ?_
  refine lv_aload_n hx hb dX5_copyFrom_26 rfl (lv_at hl 1 rfl) ?_
  refine jget (ci := 5) (C := RX5) (T := TX5) (N := 5) (v := .ref (d 4)) hx hb hts hown hE hP hu5 rfl (kb := 5) rfl (q0 := 0) rfl 2 (by decide) (List.mem_of_getElem? (i := 3) rfl) rfl rfl dX5_copyFrom_27 ?_
  refine jVNv (n := 1) (is := [3, 8]) (bs' := stB y b (x_X5_copyFrom_2 X Z) ++ stB y d Z) hx hb hml hown hts hE hZ hA hP hD hS (ct_X3_copyFrom l D y b d (x_X5_copyFrom_1 X Z) Z hz) rfl rfl ((show ∀ (Xg1 : Nat → Nat → Int32), List.map (List.map Prod.fst) ([logW y b (sv 5 (sv 4 Xg1 (Z 4)) (Z 5)), logW y d Z]) = List.map (List.map Prod.fst) ([logW y b Xg1, logW y d Z]) from fun _ => rfl) (x_X5_copyFrom_1 X Z)) ((show ∀ (Xg1 : Nat → Nat → Int32), jPut (stB y b Xg1 ++ stB y d Z) [3, 8] ([logW y b (sv 5 (sv 4 Xg1 (Z 4)) (Z 5)), logW y d Z]) = stB y b (sv 5 (sv 4 Xg1 (Z 4)) (Z 5)) ++ stB y d Z from fun _ => rfl) (x_X5_copyFrom_1 X Z)) gX5_copyFrom_X3_copyFrom_n46 (List.mem_of_getElem? (i := 51) rfl) rfl (List.mem_of_getElem? (i := 33) rfl) (List.mem_of_getElem? (i := 32) rfl) (List.mem_of_getElem? (i := 34) rfl) (by decide +kernel) ⟨by decide, by decide⟩ ⟨rfl, rfl⟩ (kb := 3) rfl (q0 := 0) (ci := 3) rfl rfl rfl rfl hl.1 rfl (Nat.le_of_ble_eq_true rfl) ⟨Nat.zero_le _, Nat.zero_le _⟩ dX5_copyFrom_30 (fun H locs hP hD hS => ?_)
  refine lv_aload_n hx hb dX5_copyFrom_33 rfl (lv_at hl 0 rfl) ?_
  refine jget (ci := 5) (C := RX5) (T := TX5) (N := 5) (v := .ref (b 6)) hx hb hts hown hE hP hu5 rfl (kb := 0) rfl (q0 := 0) rfl 3 (by decide) (List.mem_of_getElem? (i := 4) rfl) rfl rfl dX5_copyFrom_34 ?_
  refine lv_aload_n hx hb dX5_copyFrom_37 rfl (lv_at hl 1 rfl) ?_
  refine jget (ci := 5) (C := RX5) (T := TX5) (N := 5) (v := .ref (d 6)) hx hb hts hown hE hP hu5 rfl (kb := 5) rfl (q0 := 0) rfl 3 (by decide) (List.mem_of_getElem? (i := 4) rfl) rfl rfl dX5_copyFrom_38 ?_
  refine jVNv (n := 1) (is := [4, 9]) (bs' := stB y b (x_X5_copyFrom_3 X Z) ++ stB y d Z) hx hb hml hown hts hE hZ hA hP hD hS (ct_X6_copyFrom l D y b d (x_X5_copyFrom_2 X Z) Z hz) rfl rfl ((show ∀ (Xg1 : Nat → Nat → Int32), List.map (List.map Prod.fst) ([talW y b (sv 7 (sv 6 Xg1 (Z 6)) (Z 7)), talW y d Z]) = List.map (List.map Prod.fst) ([talW y b Xg1, talW y d Z]) from fun _ => rfl) (x_X5_copyFrom_2 X Z)) ((show ∀ (Xg1 : Nat → Nat → Int32), jPut (stB y b Xg1 ++ stB y d Z) [4, 9] ([talW y b (sv 7 (sv 6 Xg1 (Z 6)) (Z 7)), talW y d Z]) = stB y b (sv 7 (sv 6 Xg1 (Z 6)) (Z 7)) ++ stB y d Z from fun _ => rfl) (x_X5_copyFrom_2 X Z)) gX5_copyFrom_X6_copyFrom_n49 (List.mem_of_getElem? (i := 52) rfl) rfl (List.mem_of_getElem? (i := 40) rfl) (List.mem_of_getElem? (i := 39) rfl) (List.mem_of_getElem? (i := 41) rfl) (by decide +kernel) ⟨by decide, by decide⟩ ⟨rfl, rfl⟩ (kb := 4) rfl (q0 := 0) (ci := 6) rfl rfl rfl rfl hl.1 rfl (Nat.le_of_ble_eq_true rfl) ⟨Nat.zero_le _, Nat.zero_le _⟩ dX5_copyFrom_41 (fun H locs hP hD hS => ?_)
  refine lv_aload_n hx hb dX5_copyFrom_44 rfl (lv_at hl 0 rfl) ?_
  refine lv_aload_n hx hb dX5_copyFrom_45 rfl (lv_at hl 1 rfl) ?_
  refine jget (ci := 5) (C := RX5) (T := TX5) (N := 5) (v := .int ((Z 0) 4)) hx hb hts hown hE hP hu5 rfl (kb := 5) rfl (q0 := 0) rfl 4 (by decide) (List.mem_of_getElem? (i := 5) rfl) rfl rfl dX5_copyFrom_46 ?_
  refine jput (ci := 5) (C := RX5) (T := TX5) (N := 5) (ty := .int) (bs' := stB y b (sv 0 (x_X5_copyFrom_3 X Z) (upd (X 0) 4 ((Z 0) 4))) ++ stB y d Z) hx hb hts hown hE hP hD hS hu5 tyX5 tyX5_ok nmX5 rfl (kb := 0) rfl (q0 := 0) rfl 4 (by decide) (List.mem_of_getElem? (i := 5) rfl) rfl rfl rfl rfl rfl (Nat.le_of_ble_eq_true rfl) ((show ∀ (Xg1 : Nat → Nat → Int32) (vg2 : Int32), List.set (stB y b Xg1 ++ stB y d Z) 0 (List.set (stoW b Xg1) 0 (b 0, .inr (5, List.set [.ref (b 1), .ref (b 3), .ref (b 4), .ref (b 6), .int (Xg1 0 4)] 4 (.int vg2)))) = stB y b (sv 0 Xg1 (upd (Xg1 0) 4 vg2)) ++ stB y d Z from fun _ _ => rfl) (x_X5_copyFrom_3 X Z) ((Z 0) 4)) dX5_copyFrom_49 (fun H locs hP hD hS => ?_)
  exact jV_ret hx hb hr hlocks hP hS dX5_copyFrom_52 rfl
def m_X0_begin_X_3 (X : Nat → Nat → Int32) (p0 : Int32) : Nat → Int32 := (upd (upd (upd (upd (upd (X 3) 0 1) 1 0) 2 0) 3 p0) 4 0)
set_option maxHeartbeats 4000000 in
set_option maxRecDepth 100000 in
theorem ct_X0_begin (l : Launch) (D : va_G) (y : Nat → ClassId) (b : Nat → Nat) (X : Nat → Nat → Int32) (p0 : Int32)  : jV l D y yX0_begin wsX0_begin ({ frames := 0, cells := 0, slots := 0, locals := 0 } : Room) [.ref (b 3), .int p0] ([attW b X]) ([attW b (sv 3 X (m_X0_begin_X_3 X p0))]) := by
  refine jV_of (cc := cX0_begin) (maxL := 2) (by decide) rfl (Nat.le_of_ble_eq_true rfl) ?_
  intro p e s m below meth c A ls hx hb hr hlocks hml hown hts hE hZ hA hP hD hS hl
  have hown : s.vm.findClass RX0 = some m.cls := hown
  have hl : lv_has ls 2 [(0, .ref (b 3)), (1, .int p0)] := hl
  have hu0 : ∀ w ∈ wsX00, w ∈ wsX0_begin := fun _ h => List.mem_cons_of_mem _ (List.mem_append_right _ h)
  refine lv_aload_n hx hb dX0_begin_0 rfl (lv_at hl 0 rfl) ?_
  refine lv_iconst (v := 1) hx hb dX0_begin_1 (by decide) ?_
  refine jput (ci := 0) (C := RX0) (T := TX0) (N := 5) (ty := .boolean) (bs' := [attW b (sv 3 X (upd (X 3) 0 1))]) hx hb hts hown hE hP hD hS hu0 tyX0 tyX0_ok nmX0 rfl (kb := 0) rfl (q0 := 0) rfl 0 (by decide) (List.mem_of_getElem? (i := 1) rfl) rfl rfl rfl (by decide) (by decide) (Nat.le_of_ble_eq_true rfl) rfl dX0_begin_2 (fun H locs hP hD hS => ?_)
  refine lv_aload_n hx hb dX0_begin_5 rfl (lv_at hl 0 rfl) ?_
  refine lv_iconst (v := 0) hx hb dX0_begin_6 (by decide) ?_
  refine jput (ci := 0) (C := RX0) (T := TX0) (N := 5) (ty := .int) (bs' := [attW b (sv 3 X (upd (upd (X 3) 0 1) 1 0))]) hx hb hts hown hE hP hD hS hu0 tyX0 tyX0_ok nmX0 rfl (kb := 0) rfl (q0 := 0) rfl 1 (by decide) (List.mem_of_getElem? (i := 2) rfl) rfl rfl rfl rfl rfl (Nat.le_of_ble_eq_true rfl) ((show ∀ (fg1 : Nat → Int32), List.set ([attW b (sv 3 X fg1)]) 0 (List.set (attW b (sv 3 X fg1)) 0 (b 3, .inr (0, List.set [.int ((sv 3 X fg1) 3 0), .int ((sv 3 X fg1) 3 1), .int ((sv 3 X fg1) 3 2), .int ((sv 3 X fg1) 3 3), .int ((sv 3 X fg1) 3 4)] 1 (.int 0)))) = [attW b (sv 3 X (upd fg1 1 0))] from fun _ => rfl) (upd (X 3) 0 1)) dX0_begin_7 (fun H locs hP hD hS => ?_)
  refine lv_aload_n hx hb dX0_begin_10 rfl (lv_at hl 0 rfl) ?_
  refine lv_iconst (v := 0) hx hb dX0_begin_11 (by decide) ?_
  refine jput (ci := 0) (C := RX0) (T := TX0) (N := 5) (ty := .int) (bs' := [attW b (sv 3 X (upd (upd (upd (X 3) 0 1) 1 0) 2 0))]) hx hb hts hown hE hP hD hS hu0 tyX0 tyX0_ok nmX0 rfl (kb := 0) rfl (q0 := 0) rfl 2 (by decide) (List.mem_of_getElem? (i := 3) rfl) rfl rfl rfl rfl rfl (Nat.le_of_ble_eq_true rfl) ((show ∀ (fg1 : Nat → Int32), List.set ([attW b (sv 3 X fg1)]) 0 (List.set (attW b (sv 3 X fg1)) 0 (b 3, .inr (0, List.set [.int ((sv 3 X fg1) 3 0), .int ((sv 3 X fg1) 3 1), .int ((sv 3 X fg1) 3 2), .int ((sv 3 X fg1) 3 3), .int ((sv 3 X fg1) 3 4)] 2 (.int 0)))) = [attW b (sv 3 X (upd fg1 2 0))] from fun _ => rfl) (upd (upd (X 3) 0 1) 1 0)) dX0_begin_12 (fun H locs hP hD hS => ?_)
  refine lv_aload_n hx hb dX0_begin_15 rfl (lv_at hl 0 rfl) ?_
  refine lv_iload_n hx hb dX0_begin_16 rfl (lv_at hl 1 rfl) ?_
  refine jput (ci := 0) (C := RX0) (T := TX0) (N := 5) (ty := .int) (bs' := [attW b (sv 3 X (upd (upd (upd (upd (X 3) 0 1) 1 0) 2 0) 3 p0))]) hx hb hts hown hE hP hD hS hu0 tyX0 tyX0_ok nmX0 rfl (kb := 0) rfl (q0 := 0) rfl 3 (by decide) (List.mem_of_getElem? (i := 4) rfl) rfl rfl rfl rfl rfl (Nat.le_of_ble_eq_true rfl) ((show ∀ (fg1 : Nat → Int32), List.set ([attW b (sv 3 X fg1)]) 0 (List.set (attW b (sv 3 X fg1)) 0 (b 3, .inr (0, List.set [.int ((sv 3 X fg1) 3 0), .int ((sv 3 X fg1) 3 1), .int ((sv 3 X fg1) 3 2), .int ((sv 3 X fg1) 3 3), .int ((sv 3 X fg1) 3 4)] 3 (.int p0)))) = [attW b (sv 3 X (upd fg1 3 p0))] from fun _ => rfl) (upd (upd (upd (X 3) 0 1) 1 0) 2 0)) dX0_begin_17 (fun H locs hP hD hS => ?_)
  refine lv_aload_n hx hb dX0_begin_20 rfl (lv_at hl 0 rfl) ?_
  refine lv_iconst (v := 0) hx hb dX0_begin_21 (by decide) ?_
  refine jput (ci := 0) (C := RX0) (T := TX0) (N := 5) (ty := .int) (bs' := [attW b (sv 3 X (upd (upd (upd (upd (upd (X 3) 0 1) 1 0) 2 0) 3 p0) 4 0))]) hx hb hts hown hE hP hD hS hu0 tyX0 tyX0_ok nmX0 rfl (kb := 0) rfl (q0 := 0) rfl 4 (by decide) (List.mem_of_getElem? (i := 5) rfl) rfl rfl rfl rfl rfl (Nat.le_of_ble_eq_true rfl) ((show ∀ (fg1 : Nat → Int32), List.set ([attW b (sv 3 X fg1)]) 0 (List.set (attW b (sv 3 X fg1)) 0 (b 3, .inr (0, List.set [.int ((sv 3 X fg1) 3 0), .int ((sv 3 X fg1) 3 1), .int ((sv 3 X fg1) 3 2), .int ((sv 3 X fg1) 3 3), .int ((sv 3 X fg1) 3 4)] 4 (.int 0)))) = [attW b (sv 3 X (upd fg1 4 0))] from fun _ => rfl) (upd (upd (upd (upd (X 3) 0 1) 1 0) 2 0) 3 p0)) dX0_begin_22 (fun H locs hP hD hS => ?_)
  exact jV_ret hx hb hr hlocks hP hS dX0_begin_25 rfl
def v_X0_addTick_1 (X : Nat → Nat → Int32) : Int32 := (if ((X 3) 2) < ((X 1) 2) then ((X 1) 2) else ((X 3) 2))
def m_X0_addTick_X_3 (X : Nat → Nat → Int32) (p0 : Int32) : Nat → Int32 := (if ((X 1) 1) ≤ p0 then (upd (upd (upd (X 3) 1 (((X 3) 1) + 1)) 2 (v_X0_addTick_1 X)) 4 (((X 3) 4) + 1)) else (upd (upd (upd (X 3) 1 (((X 3) 1) + 1)) 2 (v_X0_addTick_1 X)) 4 0))
set_option maxHeartbeats 4000000 in
set_option maxRecDepth 100000 in
theorem ct_X0_addTick (l : Launch) (D : va_G) (y : Nat → ClassId) (b : Nat → Nat) (X : Nat → Nat → Int32) (p0 : Int32)  : jV l D y yX0_addTick wsX0_addTick ({ frames := 1, cells := 0, slots := 0, locals := 14 } : Room) [.ref (b 3), .ref (b 1), .int p0] ([engW y b X, attW b X]) ([engW y b (sv 3 X (m_X0_addTick_X_3 X p0)), attW b (sv 3 X (m_X0_addTick_X_3 X p0))]) := by
  refine jV_of (cc := cX0_addTick) (maxL := 3) (by decide) rfl (Nat.le_of_ble_eq_true rfl) ?_
  intro p e s m below meth c A ls hx hb hr hlocks hml hown hts hE hZ hA hP hD hS hl
  have hown : s.vm.findClass RX0 = some m.cls := hown
  have hl : lv_has ls 3 [(0, .ref (b 3)), (1, .ref (b 1)), (2, .int p0)] := hl
  have hu0 : ∀ w ∈ wsX00, w ∈ wsX0_addTick := fun _ h => List.mem_cons_of_mem _ (List.mem_append_left _ (List.mem_append_right _ h))
  have hu1 : ∀ w ∈ wsX10, w ∈ wsX0_addTick := fun _ h => List.mem_cons_of_mem _ (List.mem_append_right _ h)
  refine lv_aload_n hx hb dX0_addTick_0 rfl (lv_at hl 0 rfl) ?_
  refine lv_dup hx hb dX0_addTick_1 rfl ?_
  refine jget (ci := 0) (C := RX0) (T := TX0) (N := 5) (v := .int ((X 3) 1)) hx hb hts hown hE hP hu0 rfl (kb := 1) rfl (q0 := 0) rfl 1 (by decide) (List.mem_of_getElem? (i := 1) rfl) rfl rfl dX0_addTick_2 ?_
  refine lv_iconst (v := 1) hx hb dX0_addTick_5 (by decide) ?_
  refine lv_iadd hx hb dX0_addTick_6 ?_
  refine jput (ci := 0) (C := RX0) (T := TX0) (N := 5) (ty := .int) (bs' := [engW y b (sv 3 X (upd (X 3) 1 (((X 3) 1) + 1))), attW b (sv 3 X (upd (X 3) 1 (((X 3) 1) + 1)))]) hx hb hts hown hE hP hD hS hu0 tyX0 tyX0_ok nmX0 rfl (kb := 1) rfl (q0 := 0) rfl 1 (by decide) (List.mem_of_getElem? (i := 1) rfl) rfl rfl rfl rfl rfl (Nat.le_of_ble_eq_true rfl) ((show ∀ (vg1 : Int32), List.set ([engW y b X, attW b X]) 1 (List.set (attW b X) 0 (b 3, .inr (0, List.set [.int (X 3 0), .int (X 3 1), .int (X 3 2), .int (X 3 3), .int (X 3 4)] 1 (.int vg1)))) = [engW y b (sv 3 X (upd (X 3) 1 vg1)), attW b (sv 3 X (upd (X 3) 1 vg1))] from fun _ => rfl) (((X 3) 1) + 1)) dX0_addTick_7 (fun H locs hP hD hS => ?_)
  refine lv_aload_n hx hb dX0_addTick_10 rfl (lv_at hl 0 rfl) ?_
  refine lv_aload_n hx hb dX0_addTick_11 rfl (lv_at hl 0 rfl) ?_
  refine jget (ci := 0) (C := RX0) (T := TX0) (N := 5) (v := .int ((X 3) 2)) hx hb hts hown hE hP hu0 rfl (kb := 1) rfl (q0 := 0) rfl 2 (by decide) (List.mem_of_getElem? (i := 2) rfl) rfl rfl dX0_addTick_12 ?_
  refine lv_aload_n hx hb dX0_addTick_15 rfl (lv_at hl 1 rfl) ?_
  refine jgetN (ci := 1) (C := RX1) (T := TX1) (N := 9) (v := .int ((X 1) 2)) hx hb hts hown hE hP hu1 rfl (kb := 0) rfl (q0 := 0) rfl 2 (by decide) (List.mem_of_getElem? (i := 8) rfl) rfl rfl dX0_addTick_16 ?_
  refine va_mmax hx hb (hml.trans hl.1.symm) hown (hts _ (List.mem_of_getElem? (i := 3) rfl)) (hts _ (List.mem_of_getElem? (i := 4) rfl)) (hts _ (List.mem_of_getElem? (i := 5) rfl)) (hts _ (List.mem_of_getElem? (i := 6) rfl)) (by decide) (Nat.le_of_ble_eq_true rfl) (Nat.zero_le _) (Nat.zero_le _) dX0_addTick_19 ?_
  refine jput (ci := 0) (C := RX0) (T := TX0) (N := 5) (ty := .int) (bs' := [engW y b (sv 3 X (upd (upd (X 3) 1 (((X 3) 1) + 1)) 2 (v_X0_addTick_1 X))), attW b (sv 3 X (upd (upd (X 3) 1 (((X 3) 1) + 1)) 2 (v_X0_addTick_1 X)))]) hx hb hts hown hE hP hD hS hu0 tyX0 tyX0_ok nmX0 rfl (kb := 1) rfl (q0 := 0) rfl 2 (by decide) (List.mem_of_getElem? (i := 2) rfl) rfl rfl rfl rfl rfl (Nat.le_of_ble_eq_true rfl) ((show ∀ (fg1 : Nat → Int32) (vg2 : Int32), List.set ([engW y b (sv 3 X fg1), attW b (sv 3 X fg1)]) 1 (List.set (attW b (sv 3 X fg1)) 0 (b 3, .inr (0, List.set [.int ((sv 3 X fg1) 3 0), .int ((sv 3 X fg1) 3 1), .int ((sv 3 X fg1) 3 2), .int ((sv 3 X fg1) 3 3), .int ((sv 3 X fg1) 3 4)] 2 (.int vg2)))) = [engW y b (sv 3 X (upd fg1 2 vg2)), attW b (sv 3 X (upd fg1 2 vg2))] from fun _ _ => rfl) (upd (X 3) 1 (((X 3) 1) + 1)) (v_X0_addTick_1 X)) dX0_addTick_22 (fun H locs hP hD hS => ?_)
  refine lv_aload_n hx hb dX0_addTick_25 rfl (lv_at hl 0 rfl) ?_
  refine lv_aload_n hx hb dX0_addTick_26 rfl (lv_at hl 1 rfl) ?_
  refine jgetN (ci := 1) (C := RX1) (T := TX1) (N := 9) (v := .int ((X 1) 1)) hx hb hts hown hE hP hu1 rfl (kb := 0) rfl (q0 := 0) rfl 1 (by decide) (List.mem_of_getElem? (i := 5) rfl) rfl rfl dX0_addTick_27 ?_
  refine lv_iload_n hx hb dX0_addTick_30 rfl (lv_at hl 2 rfl) ?_
  refine lv_icmp_le (tgt := 38) hx hb dX0_addTick_31 (by decide) (fun c1 => ?_) (fun c1 => ?_)
  · refine lv_aload_n hx hb dX0_addTick_38 rfl (lv_at hl 0 rfl) ?_
    refine jget (ci := 0) (C := RX0) (T := TX0) (N := 5) (v := .int ((X 3) 4)) hx hb hts hown hE hP hu0 rfl (kb := 1) rfl (q0 := 0) rfl 4 (by decide) (List.mem_of_getElem? (i := 7) rfl) rfl rfl dX0_addTick_39 ?_
    refine lv_iconst (v := 1) hx hb dX0_addTick_42 (by decide) ?_
    refine lv_iadd hx hb dX0_addTick_43 ?_
    refine jput (ci := 0) (C := RX0) (T := TX0) (N := 5) (ty := .int) (bs' := [engW y b (sv 3 X (upd (upd (upd (X 3) 1 (((X 3) 1) + 1)) 2 (v_X0_addTick_1 X)) 4 (((X 3) 4) + 1))), attW b (sv 3 X (upd (upd (upd (X 3) 1 (((X 3) 1) + 1)) 2 (v_X0_addTick_1 X)) 4 (((X 3) 4) + 1)))]) hx hb hts hown hE hP hD hS hu0 tyX0 tyX0_ok nmX0 rfl (kb := 1) rfl (q0 := 0) rfl 4 (by decide) (List.mem_of_getElem? (i := 7) rfl) rfl rfl rfl rfl rfl (Nat.le_of_ble_eq_true rfl) ((show ∀ (fg1 : Nat → Int32) (vg2 : Int32), List.set ([engW y b (sv 3 X fg1), attW b (sv 3 X fg1)]) 1 (List.set (attW b (sv 3 X fg1)) 0 (b 3, .inr (0, List.set [.int ((sv 3 X fg1) 3 0), .int ((sv 3 X fg1) 3 1), .int ((sv 3 X fg1) 3 2), .int ((sv 3 X fg1) 3 3), .int ((sv 3 X fg1) 3 4)] 4 (.int vg2)))) = [engW y b (sv 3 X (upd fg1 4 vg2)), attW b (sv 3 X (upd fg1 4 vg2))] from fun _ _ => rfl) (upd (upd (X 3) 1 (((X 3) 1) + 1)) 2 (v_X0_addTick_1 X)) (((X 3) 4) + 1)) dX0_addTick_44 (fun H locs hP hD hS => ?_)
    exact jV_ret hx hb hr hlocks hP hS dX0_addTick_47 (by rw [m_X0_addTick_X_3, if_pos c1] <;> rfl)
  · refine lv_iconst (v := 0) hx hb dX0_addTick_34 (by decide) ?_
    refine lv_goto (tgt := 44) hx hb dX0_addTick_35 (by decide) ?_
    refine jput (ci := 0) (C := RX0) (T := TX0) (N := 5) (ty := .int) (bs' := [engW y b (sv 3 X (upd (upd (upd (X 3) 1 (((X 3) 1) + 1)) 2 (v_X0_addTick_1 X)) 4 0)), attW b (sv 3 X (upd (upd (upd (X 3) 1 (((X 3) 1) + 1)) 2 (v_X0_addTick_1 X)) 4 0))]) hx hb hts hown hE hP hD hS hu0 tyX0 tyX0_ok nmX0 rfl (kb := 1) rfl (q0 := 0) rfl 4 (by decide) (List.mem_of_getElem? (i := 7) rfl) rfl rfl rfl rfl rfl (Nat.le_of_ble_eq_true rfl) ((show ∀ (fg1 : Nat → Int32), List.set ([engW y b (sv 3 X fg1), attW b (sv 3 X fg1)]) 1 (List.set (attW b (sv 3 X fg1)) 0 (b 3, .inr (0, List.set [.int ((sv 3 X fg1) 3 0), .int ((sv 3 X fg1) 3 1), .int ((sv 3 X fg1) 3 2), .int ((sv 3 X fg1) 3 3), .int ((sv 3 X fg1) 3 4)] 4 (.int 0)))) = [engW y b (sv 3 X (upd fg1 4 0)), attW b (sv 3 X (upd fg1 4 0))] from fun _ => rfl) (upd (upd (X 3) 1 (((X 3) 1) + 1)) 2 (v_X0_addTick_1 X))) dX0_addTick_44 (fun H locs hP hD hS => ?_)
    exact jV_ret hx hb hr hlocks hP hS dX0_addTick_47 (by rw [m_X0_addTick_X_3, if_neg c1] <;> rfl)
def r_X0_endingWith (X : Nat → Nat → Int32) : Int32 := (if (r_X1_isHot X) = 0 then (if (r_X1_runs X) = 0 then (if ((X 1) 8) = 0 then (if (r_X1_isSpent X) = 0 then (-1) else 3) else (if ((X 3) 4) < ((X 2) 6) then (if (r_X1_isSpent X) = 0 then (-1) else 3) else 2)) else 0) else 1)
set_option maxHeartbeats 4000000 in
set_option maxRecDepth 100000 in
theorem ct_X0_endingWith (l : Launch) (D : va_G) (y : Nat → ClassId) (b : Nat → Nat) (X : Nat → Nat → Int32)  : jI l D y yX0_endingWith wsX0_endingWith ({ frames := 1, cells := 0, slots := 0, locals := 20 } : Room) [.ref (b 3), .ref (b 1)] ([engW y b X, attW b X]) (r_X0_endingWith X) ([engW y b X, attW b X]) := by
  refine jI_of (cc := cX0_endingWith) (maxL := 2) (ty := .int) (by decide) rfl (Nat.le_of_ble_eq_true rfl) ?_
  intro p e s m below meth c A ls hx hb hr hlocks hml hown hts hE hZ hA hP hD hS hl
  have hown : s.vm.findClass RX0 = some m.cls := hown
  have hl : lv_has ls 2 [(0, .ref (b 3)), (1, .ref (b 1))] := hl
  have hu0 : ∀ w ∈ wsX00, w ∈ wsX0_endingWith := fun _ h => List.mem_cons_of_mem _ (List.mem_append_right _ h)
  have hu1 : ∀ w ∈ wsX10, w ∈ wsX0_endingWith := fun _ h => List.mem_cons_of_mem _ (List.mem_append_left _ (List.mem_append_right _ h))
  refine lv_aload_n hx hb dX0_endingWith_0 rfl (lv_at hl 1 rfl) ?_
  refine jVNi (n := 0) (is := [0]) (bs' := [engW y b X, attW b X]) hx hb hml hown hts hE hZ hA hP hD hS (ct_X1_isHot l D y b X) rfl rfl rfl rfl gX0_endingWith_X1_isHot_n42 (List.mem_of_getElem? (i := 65) rfl) rfl (List.mem_of_getElem? (i := 3) rfl) (List.mem_of_getElem? (i := 2) rfl) (List.mem_of_getElem? (i := 4) rfl) (by decide +kernel) ⟨by decide, by decide⟩ ⟨rfl, rfl⟩ (kb := 0) rfl (q0 := 0) (ci := 1) rfl rfl rfl rfl hl.1 rfl (Nat.le_of_ble_eq_true rfl) ⟨Nat.zero_le _, Nat.zero_le _⟩ dX0_endingWith_1 (fun H locs hP hD hS => ?_)
  refine lv_if_eq (tgt := 9) hx hb dX0_endingWith_4 (by decide) (fun c1 => ?_) (fun c1 => ?_)
  · refine lv_aload_n hx hb dX0_endingWith_9 rfl (lv_at hl 1 rfl) ?_
    refine jVNi (n := 0) (is := [0]) (bs' := [engW y b X, attW b X]) hx hb hml hown hts hE hZ hA hP hD hS (ct_X1_runs l D y b X) rfl rfl rfl rfl gX0_endingWith_X1_runs_n46 (List.mem_of_getElem? (i := 66) rfl) rfl (List.mem_of_getElem? (i := 3) rfl) (List.mem_of_getElem? (i := 8) rfl) (List.mem_of_getElem? (i := 9) rfl) (by decide +kernel) ⟨by decide, by decide⟩ ⟨rfl, rfl⟩ (kb := 0) rfl (q0 := 0) (ci := 1) rfl rfl rfl rfl hl.1 rfl (Nat.le_of_ble_eq_true rfl) ⟨Nat.zero_le _, Nat.zero_le _⟩ dX0_endingWith_10 (fun H locs hP hD hS => ?_)
    refine lv_if_eq (tgt := 18) hx hb dX0_endingWith_13 (by decide) (fun c2 => ?_) (fun c2 => ?_)
    · refine lv_aload_n hx hb dX0_endingWith_18 rfl (lv_at hl 1 rfl) ?_
      refine jgetN (ci := 1) (C := RX1) (T := TX1) (N := 9) (v := .int ((X 1) 8)) hx hb hts hown hE hP hu1 rfl (kb := 0) rfl (q0 := 0) rfl 8 (by decide) (List.mem_of_getElem? (i := 19) rfl) rfl rfl dX0_endingWith_19 ?_
      refine lv_if_eq (tgt := 41) hx hb dX0_endingWith_22 (by decide) (fun c3 => ?_) (fun c3 => ?_)
      · refine lv_aload_n hx hb dX0_endingWith_41 rfl (lv_at hl 1 rfl) ?_
        refine jVNi (n := 0) (is := [0]) (bs' := [engW y b X, attW b X]) hx hb hml hown hts hE hZ hA hP hD hS (ct_X1_isSpent l D y b X) rfl rfl rfl rfl gX0_endingWith_X1_isSpent_n56 (List.mem_of_getElem? (i := 67) rfl) rfl (List.mem_of_getElem? (i := 3) rfl) (List.mem_of_getElem? (i := 13) rfl) (List.mem_of_getElem? (i := 14) rfl) (by decide +kernel) ⟨by decide, by decide⟩ ⟨rfl, rfl⟩ (kb := 0) rfl (q0 := 0) (ci := 1) rfl rfl rfl rfl hl.1 rfl (Nat.le_of_ble_eq_true rfl) ⟨Nat.zero_le _, Nat.zero_le _⟩ dX0_endingWith_42 (fun H locs hP hD hS => ?_)
        refine lv_if_eq (tgt := 52) hx hb dX0_endingWith_45 (by decide) (fun c4 => ?_) (fun c4 => ?_)
        · refine lv_iconst (v := (-1)) hx hb dX0_endingWith_52 (by decide) ?_
          exact jI_ret hx hb hr hlocks hP hS dX0_endingWith_53 rfl (by rw [r_X0_endingWith, if_pos c1, if_pos c2, if_pos c3, if_pos c4]) rfl
        · refine lv_iconst (v := 3) hx hb dX0_endingWith_48 (by decide) ?_
          refine lv_goto (tgt := 53) hx hb dX0_endingWith_49 (by decide) ?_
          exact jI_ret hx hb hr hlocks hP hS dX0_endingWith_53 rfl (by rw [r_X0_endingWith, if_pos c1, if_pos c2, if_pos c3, if_neg c4]) rfl
      · refine lv_aload_n hx hb dX0_endingWith_25 rfl (lv_at hl 0 rfl) ?_
        refine jget (ci := 0) (C := RX0) (T := TX0) (N := 5) (v := .int ((X 3) 4)) hx hb hts hown hE hP hu0 rfl (kb := 1) rfl (q0 := 0) rfl 4 (by decide) (List.mem_of_getElem? (i := 1) rfl) rfl rfl dX0_endingWith_26 ?_
        refine lv_aload_n hx hb dX0_endingWith_29 rfl (lv_at hl 1 rfl) ?_
        refine jgetN (ci := 1) (C := RX1) (T := TX1) (N := 9) (v := .ref (b 2)) hx hb hts hown hE hP hu1 rfl (kb := 0) rfl (q0 := 0) rfl 0 (by decide) (List.mem_of_getElem? (i := 4) rfl) rfl rfl dX0_endingWith_30 ?_
        refine lv_bipush (v := 6) hx hb dX0_endingWith_33 (by decide) ?_
        refine jiald (kb := 0) (q0 := 1) (k := 6) hx hb hE hP rfl rfl (jvl (by decide)) (by decide) dX0_endingWith_35 ?_
        refine W.eq (g2 := F0 m 36 ls [.int ((X 2) 6), .int ((X 3) 4)]) rfl ?_
        refine lv_icmp_lt (tgt := 41) hx hb dX0_endingWith_36 (by decide) (fun c5 => ?_) (fun c5 => ?_)
        · refine lv_aload_n hx hb dX0_endingWith_41 rfl (lv_at hl 1 rfl) ?_
          refine jVNi (n := 0) (is := [0]) (bs' := [engW y b X, attW b X]) hx hb hml hown hts hE hZ hA hP hD hS (ct_X1_isSpent l D y b X) rfl rfl rfl rfl gX0_endingWith_X1_isSpent_n56 (List.mem_of_getElem? (i := 67) rfl) rfl (List.mem_of_getElem? (i := 3) rfl) (List.mem_of_getElem? (i := 13) rfl) (List.mem_of_getElem? (i := 14) rfl) (by decide +kernel) ⟨by decide, by decide⟩ ⟨rfl, rfl⟩ (kb := 0) rfl (q0 := 0) (ci := 1) rfl rfl rfl rfl hl.1 rfl (Nat.le_of_ble_eq_true rfl) ⟨Nat.zero_le _, Nat.zero_le _⟩ dX0_endingWith_42 (fun H locs hP hD hS => ?_)
          refine lv_if_eq (tgt := 52) hx hb dX0_endingWith_45 (by decide) (fun c6 => ?_) (fun c6 => ?_)
          · refine lv_iconst (v := (-1)) hx hb dX0_endingWith_52 (by decide) ?_
            exact jI_ret hx hb hr hlocks hP hS dX0_endingWith_53 rfl (by rw [r_X0_endingWith, if_pos c1, if_pos c2, if_neg c3, if_pos c5, if_pos c6]) rfl
          · refine lv_iconst (v := 3) hx hb dX0_endingWith_48 (by decide) ?_
            refine lv_goto (tgt := 53) hx hb dX0_endingWith_49 (by decide) ?_
            exact jI_ret hx hb hr hlocks hP hS dX0_endingWith_53 rfl (by rw [r_X0_endingWith, if_pos c1, if_pos c2, if_neg c3, if_pos c5, if_neg c6]) rfl
        · refine lv_iconst (v := 2) hx hb dX0_endingWith_39 (by decide) ?_
          exact jI_ret hx hb hr hlocks hP hS dX0_endingWith_40 rfl (by rw [r_X0_endingWith, if_pos c1, if_pos c2, if_neg c3, if_neg c5]) rfl
    · refine lv_iconst (v := 0) hx hb dX0_endingWith_16 (by decide) ?_
      exact jI_ret hx hb hr hlocks hP hS dX0_endingWith_17 rfl (by rw [r_X0_endingWith, if_pos c1, if_neg c2]) rfl
  · refine lv_iconst (v := 1) hx hb dX0_endingWith_7 (by decide) ?_
    exact jI_ret hx hb hr hlocks hP hS dX0_endingWith_8 rfl (by rw [r_X0_endingWith, if_neg c1]) rfl
def m_X6_forgetHeat_X_6 (X : Nat → Nat → Int32) : Nat → Int32 := (upd (upd (X 6) 1 0) 5 0)
set_option maxHeartbeats 4000000 in
set_option maxRecDepth 100000 in
theorem ct_X6_forgetHeat (l : Launch) (D : va_G) (y : Nat → ClassId) (b : Nat → Nat) (X : Nat → Nat → Int32)  : jV l D y yX6_forgetHeat wsX6_forgetHeat ({ frames := 0, cells := 0, slots := 0, locals := 0 } : Room) [.ref (b 6)] ([talW y b X]) ([talW y b (sv 6 X (m_X6_forgetHeat_X_6 X))]) := by
  refine jV_of (cc := cX6_forgetHeat) (maxL := 1) (by decide) rfl (Nat.le_of_ble_eq_true rfl) ?_
  intro p e s m below meth c A ls hx hb hr hlocks hml hown hts hE hZ hA hP hD hS hl
  have hown : s.vm.findClass RX6 = some m.cls := hown
  have hl : lv_has ls 1 [(0, .ref (b 6))] := hl
  have hu6 : ∀ w ∈ wsX60, w ∈ wsX6_forgetHeat := fun _ h => List.mem_cons_of_mem _ (List.mem_append_right _ h)
  refine lv_aload_n hx hb dX6_forgetHeat_0 rfl (lv_at hl 0 rfl) ?_
  refine lv_iconst (v := 0) hx hb dX6_forgetHeat_1 (by decide) ?_
  refine jput (ci := 6) (C := RX6) (T := TX6) (N := 6) (ty := .int) (bs' := [talW y b (sv 6 X (upd (X 6) 1 0))]) hx hb hts hown hE hP hD hS hu6 tyX6 tyX6_ok nmX6 rfl (kb := 0) rfl (q0 := 0) rfl 1 (by decide) (List.mem_of_getElem? (i := 1) rfl) rfl rfl rfl rfl rfl (Nat.le_of_ble_eq_true rfl) rfl dX6_forgetHeat_2 (fun H locs hP hD hS => ?_)
  refine lv_aload_n hx hb dX6_forgetHeat_5 rfl (lv_at hl 0 rfl) ?_
  refine lv_iconst (v := 0) hx hb dX6_forgetHeat_6 (by decide) ?_
  refine jput (ci := 6) (C := RX6) (T := TX6) (N := 6) (ty := .int) (bs' := [talW y b (sv 6 X (upd (upd (X 6) 1 0) 5 0))]) hx hb hts hown hE hP hD hS hu6 tyX6 tyX6_ok nmX6 rfl (kb := 0) rfl (q0 := 0) rfl 5 (by decide) (List.mem_of_getElem? (i := 2) rfl) rfl rfl rfl rfl rfl (Nat.le_of_ble_eq_true rfl) ((show ∀ (fg1 : Nat → Int32), List.set ([talW y b (sv 6 X fg1)]) 0 (List.set (talW y b (sv 6 X fg1)) 0 (b 6, .inr (6, List.set [.ref (b 7), .int ((sv 6 X fg1) 6 1), .int ((sv 6 X fg1) 6 2), .int ((sv 6 X fg1) 6 3), .int ((sv 6 X fg1) 6 4), .int ((sv 6 X fg1) 6 5)] 5 (.int 0)))) = [talW y b (sv 6 X (upd fg1 5 0))] from fun _ => rfl) (upd (X 6) 1 0)) dX6_forgetHeat_7 (fun H locs hP hD hS => ?_)
  exact jV_ret hx hb hr hlocks hP hS dX6_forgetHeat_10 rfl
def r_X7_oneIf (p0 : Int32) : Int32 := (if p0 = 0 then 0 else 1)
set_option maxHeartbeats 4000000 in
set_option maxRecDepth 100000 in
theorem ct_X7_oneIf (l : Launch) (D : va_G) (y : Nat → ClassId)  (p0 : Int32)  : jI l D y yX7_oneIf wsX7_oneIf ({ frames := 0, cells := 0, slots := 0, locals := 0 } : Room) [.int p0] (([] : List va_W)) (r_X7_oneIf p0) (([] : List va_W)) := by
  refine jI_of (cc := cX7_oneIf) (maxL := 1) (ty := .int) (by decide) rfl (Nat.le_of_ble_eq_true rfl) ?_
  intro p e s m below meth c A ls hx hb hr hlocks hml hown hts hE hZ hA hP hD hS hl
  have hown : s.vm.findClass RX7 = some m.cls := hown
  have hl : lv_has ls 1 [(0, .int p0)] := hl
  refine lv_iload_n hx hb dX7_oneIf_0 rfl (lv_at hl 0 rfl) ?_
  refine lv_if_eq (tgt := 8) hx hb dX7_oneIf_1 (by decide) (fun c1 => ?_) (fun c1 => ?_)
  · refine lv_iconst (v := 0) hx hb dX7_oneIf_8 (by decide) ?_
    exact jI_ret hx hb hr hlocks hP hS dX7_oneIf_9 rfl (by rw [r_X7_oneIf, if_pos c1]) rfl
  · refine lv_iconst (v := 1) hx hb dX7_oneIf_4 (by decide) ?_
    refine lv_goto (tgt := 9) hx hb dX7_oneIf_5 (by decide) ?_
    exact jI_ret hx hb hr hlocks hP hS dX7_oneIf_9 rfl (by rw [r_X7_oneIf, if_neg c1]) rfl
def v_X6_addTick_1 (X : Nat → Nat → Int32) : Int32 := (((X 6) 2) + (r_X7_oneIf (r_X1_runs (sv 6 X (upd (X 6) 1 (((X 6) 1) + (r_X7_oneIf (r_X1_isHot X))))))))
def v_X6_addTick_2 (X : Nat → Nat → Int32) : Int32 := (if ((X 6) 5) < ((X 1) 2) then ((X 1) 2) else ((X 6) 5))
def m_X6_addTick_X_6 (X : Nat → Nat → Int32) (p0 : Int32) : Nat → Int32 := (if p0 = 0 then (if ((X 1) 8) = 0 then (upd (upd (upd (upd (upd (X 6) 1 (((X 6) 1) + (r_X7_oneIf (r_X1_isHot X)))) 2 (v_X6_addTick_1 X)) 3 (((X 6) 3) + (r_X7_oneIf 0))) 4 (((X 6) 4) + (r_X7_oneIf 0))) 5 (v_X6_addTick_2 X)) else (upd (upd (upd (upd (upd (X 6) 1 (((X 6) 1) + (r_X7_oneIf (r_X1_isHot X)))) 2 (v_X6_addTick_1 X)) 3 (((X 6) 3) + (r_X7_oneIf 1))) 4 (((X 6) 4) + (r_X7_oneIf 0))) 5 (v_X6_addTick_2 X))) else (if ((X 1) 8) = 0 then (upd (upd (upd (upd (upd (X 6) 1 (((X 6) 1) + (r_X7_oneIf (r_X1_isHot X)))) 2 (v_X6_addTick_1 X)) 3 (((X 6) 3) + (r_X7_oneIf 0))) 4 (((X 6) 4) + (r_X7_oneIf 1))) 5 (v_X6_addTick_2 X)) else (upd (upd (upd (upd (upd (X 6) 1 (((X 6) 1) + (r_X7_oneIf (r_X1_isHot X)))) 2 (v_X6_addTick_1 X)) 3 (((X 6) 3) + (r_X7_oneIf 0))) 4 (((X 6) 4) + (r_X7_oneIf 0))) 5 (v_X6_addTick_2 X))))
set_option maxHeartbeats 4000000 in
set_option maxRecDepth 100000 in
theorem ct_X6_addTick (l : Launch) (D : va_G) (y : Nat → ClassId) (b : Nat → Nat) (X : Nat → Nat → Int32) (p0 : Int32)  : jV l D y yX6_addTick wsX6_addTick ({ frames := 1, cells := 0, slots := 0, locals := 20 } : Room) [.ref (b 6), .ref (b 1), .int p0] ([engW y b X, talW y b X]) ([engW y b (sv 6 X (m_X6_addTick_X_6 X p0)), talW y b (sv 6 X (m_X6_addTick_X_6 X p0))]) := by
  refine jV_of (cc := cX6_addTick) (maxL := 3) (by decide) rfl (Nat.le_of_ble_eq_true rfl) ?_
  intro p e s m below meth c A ls hx hb hr hlocks hml hown hts hE hZ hA hP hD hS hl
  have hown : s.vm.findClass RX6 = some m.cls := hown
  have hl : lv_has ls 3 [(0, .ref (b 6)), (1, .ref (b 1)), (2, .int p0)] := hl
  have hu1 : ∀ w ∈ wsX10, w ∈ wsX6_addTick := fun _ h => List.mem_cons_of_mem _ (List.mem_append_right _ h)
  have hu6 : ∀ w ∈ wsX60, w ∈ wsX6_addTick := fun _ h => List.mem_cons_of_mem _ (List.mem_append_left _ (List.mem_append_right _ h))
  refine lv_aload_n hx hb dX6_addTick_0 rfl (lv_at hl 0 rfl) ?_
  refine lv_dup hx hb dX6_addTick_1 rfl ?_
  refine jget (ci := 6) (C := RX6) (T := TX6) (N := 6) (v := .int ((X 6) 1)) hx hb hts hown hE hP hu6 rfl (kb := 1) rfl (q0 := 0) rfl 1 (by decide) (List.mem_of_getElem? (i := 1) rfl) rfl rfl dX6_addTick_2 ?_
  refine lv_aload_n hx hb dX6_addTick_5 rfl (lv_at hl 1 rfl) ?_
  refine jVNi (n := 0) (is := [0]) (bs' := [engW y b X, talW y b X]) hx hb hml hown hts hE hZ hA hP hD hS (ct_X1_isHot l D y b X) rfl rfl rfl rfl gX6_addTick_X1_isHot_n37 (List.mem_of_getElem? (i := 60) rfl) rfl (List.mem_of_getElem? (i := 11) rfl) (List.mem_of_getElem? (i := 10) rfl) (List.mem_of_getElem? (i := 12) rfl) (by decide +kernel) ⟨by decide, by decide⟩ ⟨rfl, rfl⟩ (kb := 0) rfl (q0 := 0) (ci := 1) rfl rfl rfl rfl hl.1 rfl (Nat.le_of_ble_eq_true rfl) ⟨Nat.zero_le _, Nat.zero_le _⟩ dX6_addTick_6 (fun H locs hP hD hS => ?_)
  refine jSNi (n := 1) (is := []) (bs' := [engW y b X, talW y b X]) hx hb hml hown hts hE hZ hA hP hD hS (ct_X7_oneIf l D y  (r_X1_isHot X)) rfl rfl rfl rfl gX6_addTick_X7_oneIf_n43 (List.mem_of_getElem? (i := 61) rfl) rfl (List.mem_of_getElem? (i := 17) rfl) (List.mem_of_getElem? (i := 16) rfl) (by decide +kernel) ⟨by decide, by decide⟩ ⟨rfl, rfl⟩ rfl hl.1 rfl (Nat.le_of_ble_eq_true rfl) ⟨Nat.zero_le _, Nat.zero_le _⟩ dX6_addTick_9 (fun H locs hP hD hS => ?_)
  refine lv_iadd hx hb dX6_addTick_12 ?_
  refine jput (ci := 6) (C := RX6) (T := TX6) (N := 6) (ty := .int) (bs' := [engW y b (sv 6 X (upd (X 6) 1 (((X 6) 1) + (r_X7_oneIf (r_X1_isHot X))))), talW y b (sv 6 X (upd (X 6) 1 (((X 6) 1) + (r_X7_oneIf (r_X1_isHot X)))))]) hx hb hts hown hE hP hD hS hu6 tyX6 tyX6_ok nmX6 rfl (kb := 1) rfl (q0 := 0) rfl 1 (by decide) (List.mem_of_getElem? (i := 1) rfl) rfl rfl rfl rfl rfl (Nat.le_of_ble_eq_true rfl) ((show ∀ (vg1 : Int32), List.set ([engW y b X, talW y b X]) 1 (List.set (talW y b X) 0 (b 6, .inr (6, List.set [.ref (b 7), .int (X 6 1), .int (X 6 2), .int (X 6 3), .int (X 6 4), .int (X 6 5)] 1 (.int vg1)))) = [engW y b (sv 6 X (upd (X 6) 1 vg1)), talW y b (sv 6 X (upd (X 6) 1 vg1))] from fun _ => rfl) (((X 6) 1) + (r_X7_oneIf (r_X1_isHot X)))) dX6_addTick_13 (fun H locs hP hD hS => ?_)
  refine lv_aload_n hx hb dX6_addTick_16 rfl (lv_at hl 0 rfl) ?_
  refine lv_dup hx hb dX6_addTick_17 rfl ?_
  refine jget (ci := 6) (C := RX6) (T := TX6) (N := 6) (v := .int ((X 6) 2)) hx hb hts hown hE hP hu6 rfl (kb := 1) rfl (q0 := 0) rfl 2 (by decide) (List.mem_of_getElem? (i := 2) rfl) rfl rfl dX6_addTick_18 ?_
  refine lv_aload_n hx hb dX6_addTick_21 rfl (lv_at hl 1 rfl) ?_
  refine jVNi (n := 0) (is := [0]) (bs' := [engW y b (sv 6 X (upd (X 6) 1 (((X 6) 1) + (r_X7_oneIf (r_X1_isHot X))))), talW y b (sv 6 X (upd (X 6) 1 (((X 6) 1) + (r_X7_oneIf (r_X1_isHot X)))))]) hx hb hml hown hts hE hZ hA hP hD hS (ct_X1_runs l D y b (sv 6 X (upd (X 6) 1 (((X 6) 1) + (r_X7_oneIf (r_X1_isHot X)))))) rfl rfl rfl ((show ∀ (fg1 : Nat → Int32), jPut ([engW y b (sv 6 X fg1), talW y b (sv 6 X fg1)]) [0] ([engW y b (sv 6 X fg1)]) = [engW y b (sv 6 X fg1), talW y b (sv 6 X fg1)] from fun _ => rfl) (upd (X 6) 1 (((X 6) 1) + (r_X7_oneIf (r_X1_isHot X))))) gX6_addTick_X1_runs_n47 (List.mem_of_getElem? (i := 62) rfl) rfl (List.mem_of_getElem? (i := 11) rfl) (List.mem_of_getElem? (i := 19) rfl) (List.mem_of_getElem? (i := 20) rfl) (by decide +kernel) ⟨by decide, by decide⟩ ⟨rfl, rfl⟩ (kb := 0) rfl (q0 := 0) (ci := 1) rfl rfl rfl rfl hl.1 rfl (Nat.le_of_ble_eq_true rfl) ⟨Nat.zero_le _, Nat.zero_le _⟩ dX6_addTick_22 (fun H locs hP hD hS => ?_)
  refine jSNi (n := 1) (is := []) (bs' := [engW y b (sv 6 X (upd (X 6) 1 (((X 6) 1) + (r_X7_oneIf (r_X1_isHot X))))), talW y b (sv 6 X (upd (X 6) 1 (((X 6) 1) + (r_X7_oneIf (r_X1_isHot X)))))]) hx hb hml hown hts hE hZ hA hP hD hS (ct_X7_oneIf l D y  (r_X1_runs (sv 6 X (upd (X 6) 1 (((X 6) 1) + (r_X7_oneIf (r_X1_isHot X))))))) rfl rfl rfl rfl gX6_addTick_X7_oneIf_n43 (List.mem_of_getElem? (i := 61) rfl) rfl (List.mem_of_getElem? (i := 17) rfl) (List.mem_of_getElem? (i := 16) rfl) (by decide +kernel) ⟨by decide, by decide⟩ ⟨rfl, rfl⟩ rfl hl.1 rfl (Nat.le_of_ble_eq_true rfl) ⟨Nat.zero_le _, Nat.zero_le _⟩ dX6_addTick_25 (fun H locs hP hD hS => ?_)
  refine lv_iadd hx hb dX6_addTick_28 ?_
  refine jput (ci := 6) (C := RX6) (T := TX6) (N := 6) (ty := .int) (bs' := [engW y b (sv 6 X (upd (upd (X 6) 1 (((X 6) 1) + (r_X7_oneIf (r_X1_isHot X)))) 2 (v_X6_addTick_1 X))), talW y b (sv 6 X (upd (upd (X 6) 1 (((X 6) 1) + (r_X7_oneIf (r_X1_isHot X)))) 2 (v_X6_addTick_1 X)))]) hx hb hts hown hE hP hD hS hu6 tyX6 tyX6_ok nmX6 rfl (kb := 1) rfl (q0 := 0) rfl 2 (by decide) (List.mem_of_getElem? (i := 2) rfl) rfl rfl rfl rfl rfl (Nat.le_of_ble_eq_true rfl) ((show ∀ (fg1 : Nat → Int32) (vg2 : Int32), List.set ([engW y b (sv 6 X fg1), talW y b (sv 6 X fg1)]) 1 (List.set (talW y b (sv 6 X fg1)) 0 (b 6, .inr (6, List.set [.ref (b 7), .int ((sv 6 X fg1) 6 1), .int ((sv 6 X fg1) 6 2), .int ((sv 6 X fg1) 6 3), .int ((sv 6 X fg1) 6 4), .int ((sv 6 X fg1) 6 5)] 2 (.int vg2)))) = [engW y b (sv 6 X (upd fg1 2 vg2)), talW y b (sv 6 X (upd fg1 2 vg2))] from fun _ _ => rfl) (upd (X 6) 1 (((X 6) 1) + (r_X7_oneIf (r_X1_isHot X)))) (v_X6_addTick_1 X)) dX6_addTick_29 (fun H locs hP hD hS => ?_)
  refine lv_aload_n hx hb dX6_addTick_32 rfl (lv_at hl 0 rfl) ?_
  refine lv_dup hx hb dX6_addTick_33 rfl ?_
  refine jget (ci := 6) (C := RX6) (T := TX6) (N := 6) (v := .int ((X 6) 3)) hx hb hts hown hE hP hu6 rfl (kb := 1) rfl (q0 := 0) rfl 3 (by decide) (List.mem_of_getElem? (i := 3) rfl) rfl rfl dX6_addTick_34 ?_
  refine lv_iload_n hx hb dX6_addTick_37 rfl (lv_at hl 2 rfl) ?_
  refine lv_if_ne (tgt := 52) hx hb dX6_addTick_38 (by decide) (fun c1 => ?_) (fun c1 => ?_)
  · refine lv_iconst (v := 0) hx hb dX6_addTick_52 (by decide) ?_
    refine jSNi (n := 1) (is := []) (bs' := [engW y b (sv 6 X (upd (upd (X 6) 1 (((X 6) 1) + (r_X7_oneIf (r_X1_isHot X)))) 2 (v_X6_addTick_1 X))), talW y b (sv 6 X (upd (upd (X 6) 1 (((X 6) 1) + (r_X7_oneIf (r_X1_isHot X)))) 2 (v_X6_addTick_1 X)))]) hx hb hml hown hts hE hZ hA hP hD hS (ct_X7_oneIf l D y  0) rfl rfl rfl rfl gX6_addTick_X7_oneIf_n43 (List.mem_of_getElem? (i := 61) rfl) rfl (List.mem_of_getElem? (i := 17) rfl) (List.mem_of_getElem? (i := 16) rfl) (by decide +kernel) ⟨by decide, by decide⟩ ⟨rfl, rfl⟩ rfl hl.1 rfl (Nat.le_of_ble_eq_true rfl) ⟨Nat.zero_le _, Nat.zero_le _⟩ dX6_addTick_53 (fun H locs hP hD hS => ?_)
    refine lv_iadd hx hb dX6_addTick_56 ?_
    refine jput (ci := 6) (C := RX6) (T := TX6) (N := 6) (ty := .int) (bs' := [engW y b (sv 6 X (upd (upd (upd (X 6) 1 (((X 6) 1) + (r_X7_oneIf (r_X1_isHot X)))) 2 (v_X6_addTick_1 X)) 3 (((X 6) 3) + (r_X7_oneIf 0)))), talW y b (sv 6 X (upd (upd (upd (X 6) 1 (((X 6) 1) + (r_X7_oneIf (r_X1_isHot X)))) 2 (v_X6_addTick_1 X)) 3 (((X 6) 3) + (r_X7_oneIf 0))))]) hx hb hts hown hE hP hD hS hu6 tyX6 tyX6_ok nmX6 rfl (kb := 1) rfl (q0 := 0) rfl 3 (by decide) (List.mem_of_getElem? (i := 3) rfl) rfl rfl rfl rfl rfl (Nat.le_of_ble_eq_true rfl) ((show ∀ (fg1 : Nat → Int32) (vg2 : Int32), List.set ([engW y b (sv 6 X fg1), talW y b (sv 6 X fg1)]) 1 (List.set (talW y b (sv 6 X fg1)) 0 (b 6, .inr (6, List.set [.ref (b 7), .int ((sv 6 X fg1) 6 1), .int ((sv 6 X fg1) 6 2), .int ((sv 6 X fg1) 6 3), .int ((sv 6 X fg1) 6 4), .int ((sv 6 X fg1) 6 5)] 3 (.int vg2)))) = [engW y b (sv 6 X (upd fg1 3 vg2)), talW y b (sv 6 X (upd fg1 3 vg2))] from fun _ _ => rfl) (upd (upd (X 6) 1 (((X 6) 1) + (r_X7_oneIf (r_X1_isHot X)))) 2 (v_X6_addTick_1 X)) (((X 6) 3) + (r_X7_oneIf 0))) dX6_addTick_57 (fun H locs hP hD hS => ?_)
    refine lv_aload_n hx hb dX6_addTick_60 rfl (lv_at hl 0 rfl) ?_
    refine lv_dup hx hb dX6_addTick_61 rfl ?_
    refine jget (ci := 6) (C := RX6) (T := TX6) (N := 6) (v := .int ((X 6) 4)) hx hb hts hown hE hP hu6 rfl (kb := 1) rfl (q0 := 0) rfl 4 (by decide) (List.mem_of_getElem? (i := 4) rfl) rfl rfl dX6_addTick_62 ?_
    refine lv_iload_n hx hb dX6_addTick_65 rfl (lv_at hl 2 rfl) ?_
    refine lv_if_eq (tgt := 80) hx hb dX6_addTick_66 (by decide) (fun c2 => ?_) (fun c2 => ?_)
    · exact absurd c2 c1
    refine lv_aload_n hx hb dX6_addTick_69 rfl (lv_at hl 1 rfl) ?_
    refine jgetN (ci := 1) (C := RX1) (T := TX1) (N := 9) (v := .int ((X 1) 8)) hx hb hts hown hE hP hu1 rfl (kb := 0) rfl (q0 := 0) rfl 8 (by decide) (List.mem_of_getElem? (i := 18) rfl) rfl rfl dX6_addTick_70 ?_
    refine lv_if_ne (tgt := 80) hx hb dX6_addTick_73 (by decide) (fun c3 => ?_) (fun c3 => ?_)
    · refine lv_iconst (v := 0) hx hb dX6_addTick_80 (by decide) ?_
      refine jSNi (n := 1) (is := []) (bs' := [engW y b (sv 6 X (upd (upd (upd (X 6) 1 (((X 6) 1) + (r_X7_oneIf (r_X1_isHot X)))) 2 (v_X6_addTick_1 X)) 3 (((X 6) 3) + (r_X7_oneIf 0)))), talW y b (sv 6 X (upd (upd (upd (X 6) 1 (((X 6) 1) + (r_X7_oneIf (r_X1_isHot X)))) 2 (v_X6_addTick_1 X)) 3 (((X 6) 3) + (r_X7_oneIf 0))))]) hx hb hml hown hts hE hZ hA hP hD hS (ct_X7_oneIf l D y  0) rfl rfl rfl rfl gX6_addTick_X7_oneIf_n43 (List.mem_of_getElem? (i := 61) rfl) rfl (List.mem_of_getElem? (i := 17) rfl) (List.mem_of_getElem? (i := 16) rfl) (by decide +kernel) ⟨by decide, by decide⟩ ⟨rfl, rfl⟩ rfl hl.1 rfl (Nat.le_of_ble_eq_true rfl) ⟨Nat.zero_le _, Nat.zero_le _⟩ dX6_addTick_81 (fun H locs hP hD hS => ?_)
      refine lv_iadd hx hb dX6_addTick_84 ?_
      refine jput (ci := 6) (C := RX6) (T := TX6) (N := 6) (ty := .int) (bs' := [engW y b (sv 6 X (upd (upd (upd (upd (X 6) 1 (((X 6) 1) + (r_X7_oneIf (r_X1_isHot X)))) 2 (v_X6_addTick_1 X)) 3 (((X 6) 3) + (r_X7_oneIf 0))) 4 (((X 6) 4) + (r_X7_oneIf 0)))), talW y b (sv 6 X (upd (upd (upd (upd (X 6) 1 (((X 6) 1) + (r_X7_oneIf (r_X1_isHot X)))) 2 (v_X6_addTick_1 X)) 3 (((X 6) 3) + (r_X7_oneIf 0))) 4 (((X 6) 4) + (r_X7_oneIf 0))))]) hx hb hts hown hE hP hD hS hu6 tyX6 tyX6_ok nmX6 rfl (kb := 1) rfl (q0 := 0) rfl 4 (by decide) (List.mem_of_getElem? (i := 4) rfl) rfl rfl rfl rfl rfl (Nat.le_of_ble_eq_true rfl) ((show ∀ (fg1 : Nat → Int32) (vg2 : Int32), List.set ([engW y b (sv 6 X fg1), talW y b (sv 6 X fg1)]) 1 (List.set (talW y b (sv 6 X fg1)) 0 (b 6, .inr (6, List.set [.ref (b 7), .int ((sv 6 X fg1) 6 1), .int ((sv 6 X fg1) 6 2), .int ((sv 6 X fg1) 6 3), .int ((sv 6 X fg1) 6 4), .int ((sv 6 X fg1) 6 5)] 4 (.int vg2)))) = [engW y b (sv 6 X (upd fg1 4 vg2)), talW y b (sv 6 X (upd fg1 4 vg2))] from fun _ _ => rfl) (upd (upd (upd (X 6) 1 (((X 6) 1) + (r_X7_oneIf (r_X1_isHot X)))) 2 (v_X6_addTick_1 X)) 3 (((X 6) 3) + (r_X7_oneIf 0))) (((X 6) 4) + (r_X7_oneIf 0))) dX6_addTick_85 (fun H locs hP hD hS => ?_)
      refine lv_aload_n hx hb dX6_addTick_88 rfl (lv_at hl 0 rfl) ?_
      refine lv_aload_n hx hb dX6_addTick_89 rfl (lv_at hl 0 rfl) ?_
      refine jget (ci := 6) (C := RX6) (T := TX6) (N := 6) (v := .int ((X 6) 5)) hx hb hts hown hE hP hu6 rfl (kb := 1) rfl (q0 := 0) rfl 5 (by decide) (List.mem_of_getElem? (i := 5) rfl) rfl rfl dX6_addTick_90 ?_
      refine lv_aload_n hx hb dX6_addTick_93 rfl (lv_at hl 1 rfl) ?_
      refine jgetN (ci := 1) (C := RX1) (T := TX1) (N := 9) (v := .int ((X 1) 2)) hx hb hts hown hE hP hu1 rfl (kb := 0) rfl (q0 := 0) rfl 2 (by decide) (List.mem_of_getElem? (i := 9) rfl) rfl rfl dX6_addTick_94 ?_
      refine va_mmax hx hb (hml.trans hl.1.symm) hown (hts _ (List.mem_of_getElem? (i := 6) rfl)) (hts _ (List.mem_of_getElem? (i := 7) rfl)) (hts _ (List.mem_of_getElem? (i := 8) rfl)) (hts _ (List.mem_of_getElem? (i := 9) rfl)) (by decide) (Nat.le_of_ble_eq_true rfl) (Nat.zero_le _) (Nat.zero_le _) dX6_addTick_97 ?_
      refine jput (ci := 6) (C := RX6) (T := TX6) (N := 6) (ty := .int) (bs' := [engW y b (sv 6 X (upd (upd (upd (upd (upd (X 6) 1 (((X 6) 1) + (r_X7_oneIf (r_X1_isHot X)))) 2 (v_X6_addTick_1 X)) 3 (((X 6) 3) + (r_X7_oneIf 0))) 4 (((X 6) 4) + (r_X7_oneIf 0))) 5 (v_X6_addTick_2 X))), talW y b (sv 6 X (upd (upd (upd (upd (upd (X 6) 1 (((X 6) 1) + (r_X7_oneIf (r_X1_isHot X)))) 2 (v_X6_addTick_1 X)) 3 (((X 6) 3) + (r_X7_oneIf 0))) 4 (((X 6) 4) + (r_X7_oneIf 0))) 5 (v_X6_addTick_2 X)))]) hx hb hts hown hE hP hD hS hu6 tyX6 tyX6_ok nmX6 rfl (kb := 1) rfl (q0 := 0) rfl 5 (by decide) (List.mem_of_getElem? (i := 5) rfl) rfl rfl rfl rfl rfl (Nat.le_of_ble_eq_true rfl) ((show ∀ (fg1 : Nat → Int32) (vg2 : Int32), List.set ([engW y b (sv 6 X fg1), talW y b (sv 6 X fg1)]) 1 (List.set (talW y b (sv 6 X fg1)) 0 (b 6, .inr (6, List.set [.ref (b 7), .int ((sv 6 X fg1) 6 1), .int ((sv 6 X fg1) 6 2), .int ((sv 6 X fg1) 6 3), .int ((sv 6 X fg1) 6 4), .int ((sv 6 X fg1) 6 5)] 5 (.int vg2)))) = [engW y b (sv 6 X (upd fg1 5 vg2)), talW y b (sv 6 X (upd fg1 5 vg2))] from fun _ _ => rfl) (upd (upd (upd (upd (X 6) 1 (((X 6) 1) + (r_X7_oneIf (r_X1_isHot X)))) 2 (v_X6_addTick_1 X)) 3 (((X 6) 3) + (r_X7_oneIf 0))) 4 (((X 6) 4) + (r_X7_oneIf 0))) (v_X6_addTick_2 X)) dX6_addTick_100 (fun H locs hP hD hS => ?_)
      exact jV_ret hx hb hr hlocks hP hS dX6_addTick_103 (by rw [m_X6_addTick_X_6, if_neg c1, if_neg c3] <;> rfl)
    · refine lv_iconst (v := 1) hx hb dX6_addTick_76 (by decide) ?_
      refine lv_goto (tgt := 81) hx hb dX6_addTick_77 (by decide) ?_
      refine jSNi (n := 1) (is := []) (bs' := [engW y b (sv 6 X (upd (upd (upd (X 6) 1 (((X 6) 1) + (r_X7_oneIf (r_X1_isHot X)))) 2 (v_X6_addTick_1 X)) 3 (((X 6) 3) + (r_X7_oneIf 0)))), talW y b (sv 6 X (upd (upd (upd (X 6) 1 (((X 6) 1) + (r_X7_oneIf (r_X1_isHot X)))) 2 (v_X6_addTick_1 X)) 3 (((X 6) 3) + (r_X7_oneIf 0))))]) hx hb hml hown hts hE hZ hA hP hD hS (ct_X7_oneIf l D y  1) rfl rfl rfl rfl gX6_addTick_X7_oneIf_n43 (List.mem_of_getElem? (i := 61) rfl) rfl (List.mem_of_getElem? (i := 17) rfl) (List.mem_of_getElem? (i := 16) rfl) (by decide +kernel) ⟨by decide, by decide⟩ ⟨rfl, rfl⟩ rfl hl.1 rfl (Nat.le_of_ble_eq_true rfl) ⟨Nat.zero_le _, Nat.zero_le _⟩ dX6_addTick_81 (fun H locs hP hD hS => ?_)
      refine lv_iadd hx hb dX6_addTick_84 ?_
      refine jput (ci := 6) (C := RX6) (T := TX6) (N := 6) (ty := .int) (bs' := [engW y b (sv 6 X (upd (upd (upd (upd (X 6) 1 (((X 6) 1) + (r_X7_oneIf (r_X1_isHot X)))) 2 (v_X6_addTick_1 X)) 3 (((X 6) 3) + (r_X7_oneIf 0))) 4 (((X 6) 4) + (r_X7_oneIf 1)))), talW y b (sv 6 X (upd (upd (upd (upd (X 6) 1 (((X 6) 1) + (r_X7_oneIf (r_X1_isHot X)))) 2 (v_X6_addTick_1 X)) 3 (((X 6) 3) + (r_X7_oneIf 0))) 4 (((X 6) 4) + (r_X7_oneIf 1))))]) hx hb hts hown hE hP hD hS hu6 tyX6 tyX6_ok nmX6 rfl (kb := 1) rfl (q0 := 0) rfl 4 (by decide) (List.mem_of_getElem? (i := 4) rfl) rfl rfl rfl rfl rfl (Nat.le_of_ble_eq_true rfl) ((show ∀ (fg1 : Nat → Int32) (vg2 : Int32), List.set ([engW y b (sv 6 X fg1), talW y b (sv 6 X fg1)]) 1 (List.set (talW y b (sv 6 X fg1)) 0 (b 6, .inr (6, List.set [.ref (b 7), .int ((sv 6 X fg1) 6 1), .int ((sv 6 X fg1) 6 2), .int ((sv 6 X fg1) 6 3), .int ((sv 6 X fg1) 6 4), .int ((sv 6 X fg1) 6 5)] 4 (.int vg2)))) = [engW y b (sv 6 X (upd fg1 4 vg2)), talW y b (sv 6 X (upd fg1 4 vg2))] from fun _ _ => rfl) (upd (upd (upd (X 6) 1 (((X 6) 1) + (r_X7_oneIf (r_X1_isHot X)))) 2 (v_X6_addTick_1 X)) 3 (((X 6) 3) + (r_X7_oneIf 0))) (((X 6) 4) + (r_X7_oneIf 1))) dX6_addTick_85 (fun H locs hP hD hS => ?_)
      refine lv_aload_n hx hb dX6_addTick_88 rfl (lv_at hl 0 rfl) ?_
      refine lv_aload_n hx hb dX6_addTick_89 rfl (lv_at hl 0 rfl) ?_
      refine jget (ci := 6) (C := RX6) (T := TX6) (N := 6) (v := .int ((X 6) 5)) hx hb hts hown hE hP hu6 rfl (kb := 1) rfl (q0 := 0) rfl 5 (by decide) (List.mem_of_getElem? (i := 5) rfl) rfl rfl dX6_addTick_90 ?_
      refine lv_aload_n hx hb dX6_addTick_93 rfl (lv_at hl 1 rfl) ?_
      refine jgetN (ci := 1) (C := RX1) (T := TX1) (N := 9) (v := .int ((X 1) 2)) hx hb hts hown hE hP hu1 rfl (kb := 0) rfl (q0 := 0) rfl 2 (by decide) (List.mem_of_getElem? (i := 9) rfl) rfl rfl dX6_addTick_94 ?_
      refine va_mmax hx hb (hml.trans hl.1.symm) hown (hts _ (List.mem_of_getElem? (i := 6) rfl)) (hts _ (List.mem_of_getElem? (i := 7) rfl)) (hts _ (List.mem_of_getElem? (i := 8) rfl)) (hts _ (List.mem_of_getElem? (i := 9) rfl)) (by decide) (Nat.le_of_ble_eq_true rfl) (Nat.zero_le _) (Nat.zero_le _) dX6_addTick_97 ?_
      refine jput (ci := 6) (C := RX6) (T := TX6) (N := 6) (ty := .int) (bs' := [engW y b (sv 6 X (upd (upd (upd (upd (upd (X 6) 1 (((X 6) 1) + (r_X7_oneIf (r_X1_isHot X)))) 2 (v_X6_addTick_1 X)) 3 (((X 6) 3) + (r_X7_oneIf 0))) 4 (((X 6) 4) + (r_X7_oneIf 1))) 5 (v_X6_addTick_2 X))), talW y b (sv 6 X (upd (upd (upd (upd (upd (X 6) 1 (((X 6) 1) + (r_X7_oneIf (r_X1_isHot X)))) 2 (v_X6_addTick_1 X)) 3 (((X 6) 3) + (r_X7_oneIf 0))) 4 (((X 6) 4) + (r_X7_oneIf 1))) 5 (v_X6_addTick_2 X)))]) hx hb hts hown hE hP hD hS hu6 tyX6 tyX6_ok nmX6 rfl (kb := 1) rfl (q0 := 0) rfl 5 (by decide) (List.mem_of_getElem? (i := 5) rfl) rfl rfl rfl rfl rfl (Nat.le_of_ble_eq_true rfl) ((show ∀ (fg1 : Nat → Int32) (vg2 : Int32), List.set ([engW y b (sv 6 X fg1), talW y b (sv 6 X fg1)]) 1 (List.set (talW y b (sv 6 X fg1)) 0 (b 6, .inr (6, List.set [.ref (b 7), .int ((sv 6 X fg1) 6 1), .int ((sv 6 X fg1) 6 2), .int ((sv 6 X fg1) 6 3), .int ((sv 6 X fg1) 6 4), .int ((sv 6 X fg1) 6 5)] 5 (.int vg2)))) = [engW y b (sv 6 X (upd fg1 5 vg2)), talW y b (sv 6 X (upd fg1 5 vg2))] from fun _ _ => rfl) (upd (upd (upd (upd (X 6) 1 (((X 6) 1) + (r_X7_oneIf (r_X1_isHot X)))) 2 (v_X6_addTick_1 X)) 3 (((X 6) 3) + (r_X7_oneIf 0))) 4 (((X 6) 4) + (r_X7_oneIf 1))) (v_X6_addTick_2 X)) dX6_addTick_100 (fun H locs hP hD hS => ?_)
      exact jV_ret hx hb hr hlocks hP hS dX6_addTick_103 (by rw [m_X6_addTick_X_6, if_neg c1, if_pos c3] <;> rfl)
  · refine lv_aload_n hx hb dX6_addTick_41 rfl (lv_at hl 1 rfl) ?_
    refine jgetN (ci := 1) (C := RX1) (T := TX1) (N := 9) (v := .int ((X 1) 8)) hx hb hts hown hE hP hu1 rfl (kb := 0) rfl (q0 := 0) rfl 8 (by decide) (List.mem_of_getElem? (i := 18) rfl) rfl rfl dX6_addTick_42 ?_
    refine lv_if_eq (tgt := 52) hx hb dX6_addTick_45 (by decide) (fun c4 => ?_) (fun c4 => ?_)
    · refine lv_iconst (v := 0) hx hb dX6_addTick_52 (by decide) ?_
      refine jSNi (n := 1) (is := []) (bs' := [engW y b (sv 6 X (upd (upd (X 6) 1 (((X 6) 1) + (r_X7_oneIf (r_X1_isHot X)))) 2 (v_X6_addTick_1 X))), talW y b (sv 6 X (upd (upd (X 6) 1 (((X 6) 1) + (r_X7_oneIf (r_X1_isHot X)))) 2 (v_X6_addTick_1 X)))]) hx hb hml hown hts hE hZ hA hP hD hS (ct_X7_oneIf l D y  0) rfl rfl rfl rfl gX6_addTick_X7_oneIf_n43 (List.mem_of_getElem? (i := 61) rfl) rfl (List.mem_of_getElem? (i := 17) rfl) (List.mem_of_getElem? (i := 16) rfl) (by decide +kernel) ⟨by decide, by decide⟩ ⟨rfl, rfl⟩ rfl hl.1 rfl (Nat.le_of_ble_eq_true rfl) ⟨Nat.zero_le _, Nat.zero_le _⟩ dX6_addTick_53 (fun H locs hP hD hS => ?_)
      refine lv_iadd hx hb dX6_addTick_56 ?_
      refine jput (ci := 6) (C := RX6) (T := TX6) (N := 6) (ty := .int) (bs' := [engW y b (sv 6 X (upd (upd (upd (X 6) 1 (((X 6) 1) + (r_X7_oneIf (r_X1_isHot X)))) 2 (v_X6_addTick_1 X)) 3 (((X 6) 3) + (r_X7_oneIf 0)))), talW y b (sv 6 X (upd (upd (upd (X 6) 1 (((X 6) 1) + (r_X7_oneIf (r_X1_isHot X)))) 2 (v_X6_addTick_1 X)) 3 (((X 6) 3) + (r_X7_oneIf 0))))]) hx hb hts hown hE hP hD hS hu6 tyX6 tyX6_ok nmX6 rfl (kb := 1) rfl (q0 := 0) rfl 3 (by decide) (List.mem_of_getElem? (i := 3) rfl) rfl rfl rfl rfl rfl (Nat.le_of_ble_eq_true rfl) ((show ∀ (fg1 : Nat → Int32) (vg2 : Int32), List.set ([engW y b (sv 6 X fg1), talW y b (sv 6 X fg1)]) 1 (List.set (talW y b (sv 6 X fg1)) 0 (b 6, .inr (6, List.set [.ref (b 7), .int ((sv 6 X fg1) 6 1), .int ((sv 6 X fg1) 6 2), .int ((sv 6 X fg1) 6 3), .int ((sv 6 X fg1) 6 4), .int ((sv 6 X fg1) 6 5)] 3 (.int vg2)))) = [engW y b (sv 6 X (upd fg1 3 vg2)), talW y b (sv 6 X (upd fg1 3 vg2))] from fun _ _ => rfl) (upd (upd (X 6) 1 (((X 6) 1) + (r_X7_oneIf (r_X1_isHot X)))) 2 (v_X6_addTick_1 X)) (((X 6) 3) + (r_X7_oneIf 0))) dX6_addTick_57 (fun H locs hP hD hS => ?_)
      refine lv_aload_n hx hb dX6_addTick_60 rfl (lv_at hl 0 rfl) ?_
      refine lv_dup hx hb dX6_addTick_61 rfl ?_
      refine jget (ci := 6) (C := RX6) (T := TX6) (N := 6) (v := .int ((X 6) 4)) hx hb hts hown hE hP hu6 rfl (kb := 1) rfl (q0 := 0) rfl 4 (by decide) (List.mem_of_getElem? (i := 4) rfl) rfl rfl dX6_addTick_62 ?_
      refine lv_iload_n hx hb dX6_addTick_65 rfl (lv_at hl 2 rfl) ?_
      refine lv_if_eq (tgt := 80) hx hb dX6_addTick_66 (by decide) (fun c5 => ?_) (fun c5 => ?_)
      rotate_left
      · exact absurd c1 c5
      refine lv_iconst (v := 0) hx hb dX6_addTick_80 (by decide) ?_
      refine jSNi (n := 1) (is := []) (bs' := [engW y b (sv 6 X (upd (upd (upd (X 6) 1 (((X 6) 1) + (r_X7_oneIf (r_X1_isHot X)))) 2 (v_X6_addTick_1 X)) 3 (((X 6) 3) + (r_X7_oneIf 0)))), talW y b (sv 6 X (upd (upd (upd (X 6) 1 (((X 6) 1) + (r_X7_oneIf (r_X1_isHot X)))) 2 (v_X6_addTick_1 X)) 3 (((X 6) 3) + (r_X7_oneIf 0))))]) hx hb hml hown hts hE hZ hA hP hD hS (ct_X7_oneIf l D y  0) rfl rfl rfl rfl gX6_addTick_X7_oneIf_n43 (List.mem_of_getElem? (i := 61) rfl) rfl (List.mem_of_getElem? (i := 17) rfl) (List.mem_of_getElem? (i := 16) rfl) (by decide +kernel) ⟨by decide, by decide⟩ ⟨rfl, rfl⟩ rfl hl.1 rfl (Nat.le_of_ble_eq_true rfl) ⟨Nat.zero_le _, Nat.zero_le _⟩ dX6_addTick_81 (fun H locs hP hD hS => ?_)
      refine lv_iadd hx hb dX6_addTick_84 ?_
      refine jput (ci := 6) (C := RX6) (T := TX6) (N := 6) (ty := .int) (bs' := [engW y b (sv 6 X (upd (upd (upd (upd (X 6) 1 (((X 6) 1) + (r_X7_oneIf (r_X1_isHot X)))) 2 (v_X6_addTick_1 X)) 3 (((X 6) 3) + (r_X7_oneIf 0))) 4 (((X 6) 4) + (r_X7_oneIf 0)))), talW y b (sv 6 X (upd (upd (upd (upd (X 6) 1 (((X 6) 1) + (r_X7_oneIf (r_X1_isHot X)))) 2 (v_X6_addTick_1 X)) 3 (((X 6) 3) + (r_X7_oneIf 0))) 4 (((X 6) 4) + (r_X7_oneIf 0))))]) hx hb hts hown hE hP hD hS hu6 tyX6 tyX6_ok nmX6 rfl (kb := 1) rfl (q0 := 0) rfl 4 (by decide) (List.mem_of_getElem? (i := 4) rfl) rfl rfl rfl rfl rfl (Nat.le_of_ble_eq_true rfl) ((show ∀ (fg1 : Nat → Int32) (vg2 : Int32), List.set ([engW y b (sv 6 X fg1), talW y b (sv 6 X fg1)]) 1 (List.set (talW y b (sv 6 X fg1)) 0 (b 6, .inr (6, List.set [.ref (b 7), .int ((sv 6 X fg1) 6 1), .int ((sv 6 X fg1) 6 2), .int ((sv 6 X fg1) 6 3), .int ((sv 6 X fg1) 6 4), .int ((sv 6 X fg1) 6 5)] 4 (.int vg2)))) = [engW y b (sv 6 X (upd fg1 4 vg2)), talW y b (sv 6 X (upd fg1 4 vg2))] from fun _ _ => rfl) (upd (upd (upd (X 6) 1 (((X 6) 1) + (r_X7_oneIf (r_X1_isHot X)))) 2 (v_X6_addTick_1 X)) 3 (((X 6) 3) + (r_X7_oneIf 0))) (((X 6) 4) + (r_X7_oneIf 0))) dX6_addTick_85 (fun H locs hP hD hS => ?_)
      refine lv_aload_n hx hb dX6_addTick_88 rfl (lv_at hl 0 rfl) ?_
      refine lv_aload_n hx hb dX6_addTick_89 rfl (lv_at hl 0 rfl) ?_
      refine jget (ci := 6) (C := RX6) (T := TX6) (N := 6) (v := .int ((X 6) 5)) hx hb hts hown hE hP hu6 rfl (kb := 1) rfl (q0 := 0) rfl 5 (by decide) (List.mem_of_getElem? (i := 5) rfl) rfl rfl dX6_addTick_90 ?_
      refine lv_aload_n hx hb dX6_addTick_93 rfl (lv_at hl 1 rfl) ?_
      refine jgetN (ci := 1) (C := RX1) (T := TX1) (N := 9) (v := .int ((X 1) 2)) hx hb hts hown hE hP hu1 rfl (kb := 0) rfl (q0 := 0) rfl 2 (by decide) (List.mem_of_getElem? (i := 9) rfl) rfl rfl dX6_addTick_94 ?_
      refine va_mmax hx hb (hml.trans hl.1.symm) hown (hts _ (List.mem_of_getElem? (i := 6) rfl)) (hts _ (List.mem_of_getElem? (i := 7) rfl)) (hts _ (List.mem_of_getElem? (i := 8) rfl)) (hts _ (List.mem_of_getElem? (i := 9) rfl)) (by decide) (Nat.le_of_ble_eq_true rfl) (Nat.zero_le _) (Nat.zero_le _) dX6_addTick_97 ?_
      refine jput (ci := 6) (C := RX6) (T := TX6) (N := 6) (ty := .int) (bs' := [engW y b (sv 6 X (upd (upd (upd (upd (upd (X 6) 1 (((X 6) 1) + (r_X7_oneIf (r_X1_isHot X)))) 2 (v_X6_addTick_1 X)) 3 (((X 6) 3) + (r_X7_oneIf 0))) 4 (((X 6) 4) + (r_X7_oneIf 0))) 5 (v_X6_addTick_2 X))), talW y b (sv 6 X (upd (upd (upd (upd (upd (X 6) 1 (((X 6) 1) + (r_X7_oneIf (r_X1_isHot X)))) 2 (v_X6_addTick_1 X)) 3 (((X 6) 3) + (r_X7_oneIf 0))) 4 (((X 6) 4) + (r_X7_oneIf 0))) 5 (v_X6_addTick_2 X)))]) hx hb hts hown hE hP hD hS hu6 tyX6 tyX6_ok nmX6 rfl (kb := 1) rfl (q0 := 0) rfl 5 (by decide) (List.mem_of_getElem? (i := 5) rfl) rfl rfl rfl rfl rfl (Nat.le_of_ble_eq_true rfl) ((show ∀ (fg1 : Nat → Int32) (vg2 : Int32), List.set ([engW y b (sv 6 X fg1), talW y b (sv 6 X fg1)]) 1 (List.set (talW y b (sv 6 X fg1)) 0 (b 6, .inr (6, List.set [.ref (b 7), .int ((sv 6 X fg1) 6 1), .int ((sv 6 X fg1) 6 2), .int ((sv 6 X fg1) 6 3), .int ((sv 6 X fg1) 6 4), .int ((sv 6 X fg1) 6 5)] 5 (.int vg2)))) = [engW y b (sv 6 X (upd fg1 5 vg2)), talW y b (sv 6 X (upd fg1 5 vg2))] from fun _ _ => rfl) (upd (upd (upd (upd (X 6) 1 (((X 6) 1) + (r_X7_oneIf (r_X1_isHot X)))) 2 (v_X6_addTick_1 X)) 3 (((X 6) 3) + (r_X7_oneIf 0))) 4 (((X 6) 4) + (r_X7_oneIf 0))) (v_X6_addTick_2 X)) dX6_addTick_100 (fun H locs hP hD hS => ?_)
      exact jV_ret hx hb hr hlocks hP hS dX6_addTick_103 (by rw [m_X6_addTick_X_6, if_pos c1, if_pos c4] <;> rfl)
    · refine lv_iconst (v := 1) hx hb dX6_addTick_48 (by decide) ?_
      refine lv_goto (tgt := 53) hx hb dX6_addTick_49 (by decide) ?_
      refine jSNi (n := 1) (is := []) (bs' := [engW y b (sv 6 X (upd (upd (X 6) 1 (((X 6) 1) + (r_X7_oneIf (r_X1_isHot X)))) 2 (v_X6_addTick_1 X))), talW y b (sv 6 X (upd (upd (X 6) 1 (((X 6) 1) + (r_X7_oneIf (r_X1_isHot X)))) 2 (v_X6_addTick_1 X)))]) hx hb hml hown hts hE hZ hA hP hD hS (ct_X7_oneIf l D y  1) rfl rfl rfl rfl gX6_addTick_X7_oneIf_n43 (List.mem_of_getElem? (i := 61) rfl) rfl (List.mem_of_getElem? (i := 17) rfl) (List.mem_of_getElem? (i := 16) rfl) (by decide +kernel) ⟨by decide, by decide⟩ ⟨rfl, rfl⟩ rfl hl.1 rfl (Nat.le_of_ble_eq_true rfl) ⟨Nat.zero_le _, Nat.zero_le _⟩ dX6_addTick_53 (fun H locs hP hD hS => ?_)
      refine lv_iadd hx hb dX6_addTick_56 ?_
      refine jput (ci := 6) (C := RX6) (T := TX6) (N := 6) (ty := .int) (bs' := [engW y b (sv 6 X (upd (upd (upd (X 6) 1 (((X 6) 1) + (r_X7_oneIf (r_X1_isHot X)))) 2 (v_X6_addTick_1 X)) 3 (((X 6) 3) + (r_X7_oneIf 1)))), talW y b (sv 6 X (upd (upd (upd (X 6) 1 (((X 6) 1) + (r_X7_oneIf (r_X1_isHot X)))) 2 (v_X6_addTick_1 X)) 3 (((X 6) 3) + (r_X7_oneIf 1))))]) hx hb hts hown hE hP hD hS hu6 tyX6 tyX6_ok nmX6 rfl (kb := 1) rfl (q0 := 0) rfl 3 (by decide) (List.mem_of_getElem? (i := 3) rfl) rfl rfl rfl rfl rfl (Nat.le_of_ble_eq_true rfl) ((show ∀ (fg1 : Nat → Int32) (vg2 : Int32), List.set ([engW y b (sv 6 X fg1), talW y b (sv 6 X fg1)]) 1 (List.set (talW y b (sv 6 X fg1)) 0 (b 6, .inr (6, List.set [.ref (b 7), .int ((sv 6 X fg1) 6 1), .int ((sv 6 X fg1) 6 2), .int ((sv 6 X fg1) 6 3), .int ((sv 6 X fg1) 6 4), .int ((sv 6 X fg1) 6 5)] 3 (.int vg2)))) = [engW y b (sv 6 X (upd fg1 3 vg2)), talW y b (sv 6 X (upd fg1 3 vg2))] from fun _ _ => rfl) (upd (upd (X 6) 1 (((X 6) 1) + (r_X7_oneIf (r_X1_isHot X)))) 2 (v_X6_addTick_1 X)) (((X 6) 3) + (r_X7_oneIf 1))) dX6_addTick_57 (fun H locs hP hD hS => ?_)
      refine lv_aload_n hx hb dX6_addTick_60 rfl (lv_at hl 0 rfl) ?_
      refine lv_dup hx hb dX6_addTick_61 rfl ?_
      refine jget (ci := 6) (C := RX6) (T := TX6) (N := 6) (v := .int ((X 6) 4)) hx hb hts hown hE hP hu6 rfl (kb := 1) rfl (q0 := 0) rfl 4 (by decide) (List.mem_of_getElem? (i := 4) rfl) rfl rfl dX6_addTick_62 ?_
      refine lv_iload_n hx hb dX6_addTick_65 rfl (lv_at hl 2 rfl) ?_
      refine lv_if_eq (tgt := 80) hx hb dX6_addTick_66 (by decide) (fun c6 => ?_) (fun c6 => ?_)
      rotate_left
      · exact absurd c1 c6
      refine lv_iconst (v := 0) hx hb dX6_addTick_80 (by decide) ?_
      refine jSNi (n := 1) (is := []) (bs' := [engW y b (sv 6 X (upd (upd (upd (X 6) 1 (((X 6) 1) + (r_X7_oneIf (r_X1_isHot X)))) 2 (v_X6_addTick_1 X)) 3 (((X 6) 3) + (r_X7_oneIf 1)))), talW y b (sv 6 X (upd (upd (upd (X 6) 1 (((X 6) 1) + (r_X7_oneIf (r_X1_isHot X)))) 2 (v_X6_addTick_1 X)) 3 (((X 6) 3) + (r_X7_oneIf 1))))]) hx hb hml hown hts hE hZ hA hP hD hS (ct_X7_oneIf l D y  0) rfl rfl rfl rfl gX6_addTick_X7_oneIf_n43 (List.mem_of_getElem? (i := 61) rfl) rfl (List.mem_of_getElem? (i := 17) rfl) (List.mem_of_getElem? (i := 16) rfl) (by decide +kernel) ⟨by decide, by decide⟩ ⟨rfl, rfl⟩ rfl hl.1 rfl (Nat.le_of_ble_eq_true rfl) ⟨Nat.zero_le _, Nat.zero_le _⟩ dX6_addTick_81 (fun H locs hP hD hS => ?_)
      refine lv_iadd hx hb dX6_addTick_84 ?_
      refine jput (ci := 6) (C := RX6) (T := TX6) (N := 6) (ty := .int) (bs' := [engW y b (sv 6 X (upd (upd (upd (upd (X 6) 1 (((X 6) 1) + (r_X7_oneIf (r_X1_isHot X)))) 2 (v_X6_addTick_1 X)) 3 (((X 6) 3) + (r_X7_oneIf 1))) 4 (((X 6) 4) + (r_X7_oneIf 0)))), talW y b (sv 6 X (upd (upd (upd (upd (X 6) 1 (((X 6) 1) + (r_X7_oneIf (r_X1_isHot X)))) 2 (v_X6_addTick_1 X)) 3 (((X 6) 3) + (r_X7_oneIf 1))) 4 (((X 6) 4) + (r_X7_oneIf 0))))]) hx hb hts hown hE hP hD hS hu6 tyX6 tyX6_ok nmX6 rfl (kb := 1) rfl (q0 := 0) rfl 4 (by decide) (List.mem_of_getElem? (i := 4) rfl) rfl rfl rfl rfl rfl (Nat.le_of_ble_eq_true rfl) ((show ∀ (fg1 : Nat → Int32) (vg2 : Int32), List.set ([engW y b (sv 6 X fg1), talW y b (sv 6 X fg1)]) 1 (List.set (talW y b (sv 6 X fg1)) 0 (b 6, .inr (6, List.set [.ref (b 7), .int ((sv 6 X fg1) 6 1), .int ((sv 6 X fg1) 6 2), .int ((sv 6 X fg1) 6 3), .int ((sv 6 X fg1) 6 4), .int ((sv 6 X fg1) 6 5)] 4 (.int vg2)))) = [engW y b (sv 6 X (upd fg1 4 vg2)), talW y b (sv 6 X (upd fg1 4 vg2))] from fun _ _ => rfl) (upd (upd (upd (X 6) 1 (((X 6) 1) + (r_X7_oneIf (r_X1_isHot X)))) 2 (v_X6_addTick_1 X)) 3 (((X 6) 3) + (r_X7_oneIf 1))) (((X 6) 4) + (r_X7_oneIf 0))) dX6_addTick_85 (fun H locs hP hD hS => ?_)
      refine lv_aload_n hx hb dX6_addTick_88 rfl (lv_at hl 0 rfl) ?_
      refine lv_aload_n hx hb dX6_addTick_89 rfl (lv_at hl 0 rfl) ?_
      refine jget (ci := 6) (C := RX6) (T := TX6) (N := 6) (v := .int ((X 6) 5)) hx hb hts hown hE hP hu6 rfl (kb := 1) rfl (q0 := 0) rfl 5 (by decide) (List.mem_of_getElem? (i := 5) rfl) rfl rfl dX6_addTick_90 ?_
      refine lv_aload_n hx hb dX6_addTick_93 rfl (lv_at hl 1 rfl) ?_
      refine jgetN (ci := 1) (C := RX1) (T := TX1) (N := 9) (v := .int ((X 1) 2)) hx hb hts hown hE hP hu1 rfl (kb := 0) rfl (q0 := 0) rfl 2 (by decide) (List.mem_of_getElem? (i := 9) rfl) rfl rfl dX6_addTick_94 ?_
      refine va_mmax hx hb (hml.trans hl.1.symm) hown (hts _ (List.mem_of_getElem? (i := 6) rfl)) (hts _ (List.mem_of_getElem? (i := 7) rfl)) (hts _ (List.mem_of_getElem? (i := 8) rfl)) (hts _ (List.mem_of_getElem? (i := 9) rfl)) (by decide) (Nat.le_of_ble_eq_true rfl) (Nat.zero_le _) (Nat.zero_le _) dX6_addTick_97 ?_
      refine jput (ci := 6) (C := RX6) (T := TX6) (N := 6) (ty := .int) (bs' := [engW y b (sv 6 X (upd (upd (upd (upd (upd (X 6) 1 (((X 6) 1) + (r_X7_oneIf (r_X1_isHot X)))) 2 (v_X6_addTick_1 X)) 3 (((X 6) 3) + (r_X7_oneIf 1))) 4 (((X 6) 4) + (r_X7_oneIf 0))) 5 (v_X6_addTick_2 X))), talW y b (sv 6 X (upd (upd (upd (upd (upd (X 6) 1 (((X 6) 1) + (r_X7_oneIf (r_X1_isHot X)))) 2 (v_X6_addTick_1 X)) 3 (((X 6) 3) + (r_X7_oneIf 1))) 4 (((X 6) 4) + (r_X7_oneIf 0))) 5 (v_X6_addTick_2 X)))]) hx hb hts hown hE hP hD hS hu6 tyX6 tyX6_ok nmX6 rfl (kb := 1) rfl (q0 := 0) rfl 5 (by decide) (List.mem_of_getElem? (i := 5) rfl) rfl rfl rfl rfl rfl (Nat.le_of_ble_eq_true rfl) ((show ∀ (fg1 : Nat → Int32) (vg2 : Int32), List.set ([engW y b (sv 6 X fg1), talW y b (sv 6 X fg1)]) 1 (List.set (talW y b (sv 6 X fg1)) 0 (b 6, .inr (6, List.set [.ref (b 7), .int ((sv 6 X fg1) 6 1), .int ((sv 6 X fg1) 6 2), .int ((sv 6 X fg1) 6 3), .int ((sv 6 X fg1) 6 4), .int ((sv 6 X fg1) 6 5)] 5 (.int vg2)))) = [engW y b (sv 6 X (upd fg1 5 vg2)), talW y b (sv 6 X (upd fg1 5 vg2))] from fun _ _ => rfl) (upd (upd (upd (upd (X 6) 1 (((X 6) 1) + (r_X7_oneIf (r_X1_isHot X)))) 2 (v_X6_addTick_1 X)) 3 (((X 6) 3) + (r_X7_oneIf 1))) 4 (((X 6) 4) + (r_X7_oneIf 0))) (v_X6_addTick_2 X)) dX6_addTick_100 (fun H locs hP hD hS => ?_)
      exact jV_ret hx hb hr hlocks hP hS dX6_addTick_103 (by rw [m_X6_addTick_X_6, if_pos c1, if_neg c4] <;> rfl)
end
section
theorem jvin {x k : Int32} {n : Nat} (hk : k.toInt = (n : Int)) (h1 : ¬ x < 0) (h2 : ¬ k ≤ x) : vp_in x n := by
  rw [Int32.lt_iff_toInt_lt] at h1
  rw [Int32.le_iff_toInt_le, hk] at h2
  rw [Int32.toInt_zero] at h1
  exact vp_in_iff.mpr ⟨by omega, by omega⟩
/-- forty places moved up by four, from the last one down to the place n + 4 -/
def lsh (f : Nat → Int32) (n : Nat) : Nat → Int32 := fun j => if n + 4 ≤ j ∧ j < 40 then f (j - 4) else f j
theorem lsh_36 (f : Nat → Int32) : lsh f 36 = f := by
  funext j
  unfold lsh
  rw [if_neg (by omega)]
theorem lsh_low (f : Nat → Int32) (n : Nat) : lsh f (n + 1) n = f n := by
  unfold lsh
  rw [if_neg (by omega)]
theorem lsh_step (f : Nat → Int32) {n : Nat} (h : n < 36) : upd (lsh f (n + 1)) (n + 4) (lsh f (n + 1) n) = lsh f n := by
  funext j
  rw [lsh_low]
  unfold upd lsh
  by_cases e : j = n + 4
  · subst e
    rw [if_pos rfl, if_pos (by omega)]
    congr 1
  · rw [if_neg e]
    by_cases g : n + 4 ≤ j ∧ j < 40
    · rw [if_pos g, if_pos (by omega)]
    · rw [if_neg g, if_neg (by omega)]
theorem jm4 (n : Nat) : nI (n + 4) - 4 = nI n := by
  have h := pk_sub (a := n + 4) (b := 4) (by omega)
  have e : nI 4 = 4 := by decide
  rw [e] at h
  rw [h]
  congr 1
theorem jm1 (n : Nat) : nI (n + 4) + Int32.ofInt (-1) = nI (n + 3) := by
  have e : Int32.ofInt (-1) = -1 := by decide
  rw [e]
  exact pk_m1 (n + 3)
theorem jnum {k i w : Int32} (hk : ¬ 10 < k) (h1 : ¬ i < 0) (h2 : ¬ k ≤ i) (h3 : ¬ w < 0) (h4 : ¬ 4 ≤ w) : vp_in (i * 4 + w) 40 := by
  have e4 : nI 4 = 4 := by decide
  have e10 : nI 10 = 10 := by decide
  obtain ⟨a, ha, rfl⟩ := nI_of h1
  obtain ⟨d, hd, rfl⟩ := nI_of h3
  have g : a < 10 := by
    rcases Nat.lt_or_ge a 10 with g | g
    · exact g
    · exfalso
      have q1 : nI 10 ≤ nI a := nI_le g ha
      rw [e10] at q1
      exact h2 (Int32.le_trans (Int32.not_lt.mp hk) q1)
  have g2 : d < 4 := by
    rcases Nat.lt_or_ge d 4 with g | g
    · exact g
    · exact absurd (e4 ▸ nI_le g hd) h4
  rw [← e4, pk_mul, nI_add]
  exact vp_in_nI (by omega) (by decide)
def r_X5_hasRoomFor (X : Nat → Nat → Int32) (p0 : Int32) : Int32 := (if 99999 < (((X 0) 4) + p0) then 0 else 1)
set_option maxHeartbeats 4000000 in
set_option maxRecDepth 100000 in
theorem ct_X5_hasRoomFor (l : Launch) (D : va_G) (y : Nat → ClassId) (b : Nat → Nat) (X : Nat → Nat → Int32) (p0 : Int32)  : jI l D y yX5_hasRoomFor wsX5_hasRoomFor ({ frames := 0, cells := 0, slots := 0, locals := 0 } : Room) [.ref (b 0), .int p0] ([stoW b X]) (r_X5_hasRoomFor X p0) ([stoW b X]) := by
  refine jI_of (cc := cX5_hasRoomFor) (maxL := 2) (ty := .boolean) (by decide) rfl (Nat.le_of_ble_eq_true rfl) ?_
  intro p e s m below meth c A ls hx hb hr hlocks hml hown hts hE hZ hA hP hD hS hl
  have hown : s.vm.findClass RX5 = some m.cls := hown
  have hl : lv_has ls 2 [(0, .ref (b 0)), (1, .int p0)] := hl
  have hu5 : ∀ w ∈ wsX50, w ∈ wsX5_hasRoomFor := fun _ h => List.mem_cons_of_mem _ (List.mem_append_right _ h)
  refine lv_aload_n hx hb dX5_hasRoomFor_0 rfl (lv_at hl 0 rfl) ?_
  refine jget (ci := 5) (C := RX5) (T := TX5) (N := 5) (v := .int ((X 0) 4)) hx hb hts hown hE hP hu5 rfl (kb := 0) rfl (q0 := 0) rfl 4 (by decide) (List.mem_of_getElem? (i := 1) rfl) rfl rfl dX5_hasRoomFor_1 ?_
  refine lv_iload_n hx hb dX5_hasRoomFor_4 rfl (lv_at hl 1 rfl) ?_
  refine lv_iadd hx hb dX5_hasRoomFor_5 ?_
  refine lv_ldc (v := 99999) hx hb hown (hts _ (List.mem_of_getElem? (i := 2) rfl)) dX5_hasRoomFor_6 ?_
  refine lv_icmp_gt (tgt := 15) hx hb dX5_hasRoomFor_8 (by decide) (fun c1 => ?_) (fun c1 => ?_)
  · refine lv_iconst (v := 0) hx hb dX5_hasRoomFor_15 (by decide) ?_
    exact jI_ret hx hb hr hlocks hP hS dX5_hasRoomFor_16 (by decide) (by rw [r_X5_hasRoomFor, if_pos c1]) rfl
  · refine lv_iconst (v := 1) hx hb dX5_hasRoomFor_11 (by decide) ?_
    refine lv_goto (tgt := 16) hx hb dX5_hasRoomFor_12 (by decide) ?_
    exact jI_ret hx hb hr hlocks hP hS dX5_hasRoomFor_16 (by decide) (by rw [r_X5_hasRoomFor, if_neg c1]) rfl
def r_X5_canTurnStarter (X : Nat → Nat → Int32) (p0 : Int32) : Int32 := (if ((X 1) 7) = p0 then 0 else (if p0 = 0 then 1 else (if ((X 1) 5) ≤ 0 then 0 else (if 500 ≤ ((X 1) 1) then 0 else 1))))
set_option maxHeartbeats 4000000 in
set_option maxRecDepth 100000 in
theorem ct_X5_canTurnStarter (l : Launch) (D : va_G) (y : Nat → ClassId) (b : Nat → Nat) (X : Nat → Nat → Int32) (p0 : Int32)  : jI l D y yX5_canTurnStarter wsX5_canTurnStarter ({ frames := 0, cells := 0, slots := 0, locals := 0 } : Room) [.ref (b 0), .int p0] ([stoW b X, engW y b X]) (r_X5_canTurnStarter X p0) ([stoW b X, engW y b X]) := by
  refine jI_of (cc := cX5_canTurnStarter) (maxL := 2) (ty := .boolean) (by decide) rfl (Nat.le_of_ble_eq_true rfl) ?_
  intro p e s m below meth c A ls hx hb hr hlocks hml hown hts hE hZ hA hP hD hS hl
  have hown : s.vm.findClass RX5 = some m.cls := hown
  have hl : lv_has ls 2 [(0, .ref (b 0)), (1, .int p0)] := hl
  have hu1 : ∀ w ∈ wsX10, w ∈ wsX5_canTurnStarter := fun _ h => List.mem_cons_of_mem _ (List.mem_append_right _ h)
  have hu5 : ∀ w ∈ wsX50, w ∈ wsX5_canTurnStarter := fun _ h => List.mem_cons_of_mem _ (List.mem_append_left _ (List.mem_append_right _ h))
  refine lv_aload_n hx hb dX5_canTurnStarter_0 rfl (lv_at hl 0 rfl) ?_
  refine jget (ci := 5) (C := RX5) (T := TX5) (N := 5) (v := .ref (b 1)) hx hb hts hown hE hP hu5 rfl (kb := 0) rfl (q0 := 0) rfl 0 (by decide) (List.mem_of_getElem? (i := 1) rfl) rfl rfl dX5_canTurnStarter_1 ?_
  refine jgetN (ci := 1) (C := RX1) (T := TX1) (N := 9) (v := .int ((X 1) 7)) hx hb hts hown hE hP hu1 rfl (kb := 1) rfl (q0 := 0) rfl 7 (by decide) (List.mem_of_getElem? (i := 16) rfl) rfl rfl dX5_canTurnStarter_4 ?_
  refine lv_iload_n hx hb dX5_canTurnStarter_7 rfl (lv_at hl 1 rfl) ?_
  refine lv_icmp_ne (tgt := 13) hx hb dX5_canTurnStarter_8 (by decide) (fun c1 => ?_) (fun c1 => ?_)
  · refine lv_iload_n hx hb dX5_canTurnStarter_13 rfl (lv_at hl 1 rfl) ?_
    refine lv_if_eq (tgt := 40) hx hb dX5_canTurnStarter_14 (by decide) (fun c2 => ?_) (fun c2 => ?_)
    · refine lv_iconst (v := 1) hx hb dX5_canTurnStarter_40 (by decide) ?_
      refine lv_goto (tgt := 45) hx hb dX5_canTurnStarter_41 (by decide) ?_
      exact jI_ret hx hb hr hlocks hP hS dX5_canTurnStarter_45 (by decide) (by rw [r_X5_canTurnStarter, if_neg c1, if_pos c2]) rfl
    · refine lv_aload_n hx hb dX5_canTurnStarter_17 rfl (lv_at hl 0 rfl) ?_
      refine jget (ci := 5) (C := RX5) (T := TX5) (N := 5) (v := .ref (b 1)) hx hb hts hown hE hP hu5 rfl (kb := 0) rfl (q0 := 0) rfl 0 (by decide) (List.mem_of_getElem? (i := 1) rfl) rfl rfl dX5_canTurnStarter_18 ?_
      refine jgetN (ci := 1) (C := RX1) (T := TX1) (N := 9) (v := .int ((X 1) 5)) hx hb hts hown hE hP hu1 rfl (kb := 1) rfl (q0 := 0) rfl 5 (by decide) (List.mem_of_getElem? (i := 14) rfl) rfl rfl dX5_canTurnStarter_21 ?_
      refine lv_if_le (tgt := 44) hx hb dX5_canTurnStarter_24 (by decide) (fun c3 => ?_) (fun c3 => ?_)
      · refine lv_iconst (v := 0) hx hb dX5_canTurnStarter_44 (by decide) ?_
        exact jI_ret hx hb hr hlocks hP hS dX5_canTurnStarter_45 (by decide) (by rw [r_X5_canTurnStarter, if_neg c1, if_neg c2, if_pos c3]) rfl
      · refine lv_aload_n hx hb dX5_canTurnStarter_27 rfl (lv_at hl 0 rfl) ?_
        refine jget (ci := 5) (C := RX5) (T := TX5) (N := 5) (v := .ref (b 1)) hx hb hts hown hE hP hu5 rfl (kb := 0) rfl (q0 := 0) rfl 0 (by decide) (List.mem_of_getElem? (i := 1) rfl) rfl rfl dX5_canTurnStarter_28 ?_
        refine jgetN (ci := 1) (C := RX1) (T := TX1) (N := 9) (v := .int ((X 1) 1)) hx hb hts hown hE hP hu1 rfl (kb := 1) rfl (q0 := 0) rfl 1 (by decide) (List.mem_of_getElem? (i := 6) rfl) rfl rfl dX5_canTurnStarter_31 ?_
        refine lv_sipush (v := 500) hx hb dX5_canTurnStarter_34 (by decide) ?_
        refine lv_icmp_ge (tgt := 44) hx hb dX5_canTurnStarter_37 (by decide) (fun c4 => ?_) (fun c4 => ?_)
        · refine lv_iconst (v := 0) hx hb dX5_canTurnStarter_44 (by decide) ?_
          exact jI_ret hx hb hr hlocks hP hS dX5_canTurnStarter_45 (by decide) (by rw [r_X5_canTurnStarter, if_neg c1, if_neg c2, if_neg c3, if_pos c4]) rfl
        · refine lv_iconst (v := 1) hx hb dX5_canTurnStarter_40 (by decide) ?_
          refine lv_goto (tgt := 45) hx hb dX5_canTurnStarter_41 (by decide) ?_
          exact jI_ret hx hb hr hlocks hP hS dX5_canTurnStarter_45 (by decide) (by rw [r_X5_canTurnStarter, if_neg c1, if_neg c2, if_neg c3, if_neg c4]) rfl
  · refine lv_iconst (v := 0) hx hb dX5_canTurnStarter_11 (by decide) ?_
    exact jI_ret hx hb hr hlocks hP hS dX5_canTurnStarter_12 (by decide) (by rw [r_X5_canTurnStarter, if_pos c1]) rfl
def x_X5_turnStarter_1 (X : Nat → Nat → Int32) (p0 : Int32) : Nat → Nat → Int32 := sv 3 (sv 1 X (upd (X 1) 7 p0)) (m_X0_begin_X_3 (sv 1 X (upd (X 1) 7 p0)) ((X 1) 5))
def m_X5_turnStarter_X_1 (X : Nat → Nat → Int32) (p0 : Int32) : Nat → Int32 := (if p0 = 0 then (upd (X 1) 7 p0) else (if ((X 3) 0) = 0 then ((x_X5_turnStarter_1 X p0) 1) else (upd (X 1) 7 p0)))
def m_X5_turnStarter_X_3 (X : Nat → Nat → Int32) (p0 : Int32) : Nat → Int32 := (if p0 = 0 then (X 3) else (if ((X 3) 0) = 0 then ((x_X5_turnStarter_1 X p0) 3) else (X 3)))
set_option maxHeartbeats 4000000 in
set_option maxRecDepth 100000 in
theorem ct_X5_turnStarter (l : Launch) (D : va_G) (y : Nat → ClassId) (b : Nat → Nat) (X : Nat → Nat → Int32) (p0 : Int32) (hz0 : p0 = 0 ∨ p0 = 1) : jV l D y yX5_turnStarter wsX5_turnStarter ({ frames := 1, cells := 0, slots := 0, locals := 21 } : Room) [.ref (b 0), .int p0] ([stoW b X, engW y b X, attW b X]) ([stoW b (sv 3 (sv 1 X (m_X5_turnStarter_X_1 X p0)) (m_X5_turnStarter_X_3 X p0)), engW y b (sv 3 (sv 1 X (m_X5_turnStarter_X_1 X p0)) (m_X5_turnStarter_X_3 X p0)), attW b (sv 3 (sv 1 X (m_X5_turnStarter_X_1 X p0)) (m_X5_turnStarter_X_3 X p0))]) := by
  refine jV_of (cc := cX5_turnStarter) (maxL := 2) (by decide) rfl (Nat.le_of_ble_eq_true rfl) ?_
  intro p e s m below meth c A ls hx hb hr hlocks hml hown hts hE hZ hA hP hD hS hl
  have hown : s.vm.findClass RX5 = some m.cls := hown
  have hl : lv_has ls 2 [(0, .ref (b 0)), (1, .int p0)] := hl
  have hu0 : ∀ w ∈ wsX00, w ∈ wsX5_turnStarter := fun _ h => List.mem_cons_of_mem _ (List.mem_append_right _ h)
  have hu1 : ∀ w ∈ wsX10, w ∈ wsX5_turnStarter := fun _ h => List.mem_cons_of_mem _ (List.mem_append_left _ (List.mem_append_right _ h))
  have hu5 : ∀ w ∈ wsX50, w ∈ wsX5_turnStarter := fun _ h => List.mem_cons_of_mem _ (List.mem_append_left _ (List.mem_append_left _ (List.mem_append_right _ h)))
  refine lv_aload_n hx hb dX5_turnStarter_0 rfl (lv_at hl 0 rfl) ?_
  refine jget (ci := 5) (C := RX5) (T := TX5) (N := 5) (v := .ref (b 1)) hx hb hts hown hE hP hu5 rfl (kb := 0) rfl (q0 := 0) rfl 0 (by decide) (List.mem_of_getElem? (i := 1) rfl) rfl rfl dX5_turnStarter_1 ?_
  refine lv_iload_n hx hb dX5_turnStarter_4 rfl (lv_at hl 1 rfl) ?_
  refine jputN (ci := 1) (C := RX1) (T := TX1) (N := 9) (ty := .boolean) (bs' := [stoW b (sv 1 X (upd (X 1) 7 p0)), engW y b (sv 1 X (upd (X 1) 7 p0)), attW b (sv 1 X (upd (X 1) 7 p0))]) hx hb hts hown hE hP hD hS hu1 tyX1 tyX1_ok nmX1 rfl (kb := 1) rfl (q0 := 0) rfl 7 (by decide) (List.mem_of_getElem? (i := 16) rfl) rfl rfl rfl (jz hz0).1 (jz hz0).2 (Nat.le_of_ble_eq_true rfl) rfl dX5_turnStarter_5 (fun H locs hP hD hS => ?_)
  refine lv_iload_n hx hb dX5_turnStarter_8 rfl (lv_at hl 1 rfl) ?_
  refine lv_if_eq (tgt := 36) hx hb dX5_turnStarter_9 (by decide) (fun c1 => ?_) (fun c1 => ?_)
  · exact jV_ret hx hb hr hlocks hP hS dX5_turnStarter_36 (by rw [m_X5_turnStarter_X_1, if_pos c1, m_X5_turnStarter_X_3, if_pos c1] <;> rfl)
  · refine lv_aload_n hx hb dX5_turnStarter_12 rfl (lv_at hl 0 rfl) ?_
    refine jget (ci := 5) (C := RX5) (T := TX5) (N := 5) (v := .ref (b 3)) hx hb hts hown hE hP hu5 rfl (kb := 0) rfl (q0 := 0) rfl 1 (by decide) (List.mem_of_getElem? (i := 2) rfl) rfl rfl dX5_turnStarter_13 ?_
    refine jgetN (ci := 0) (C := RX0) (T := TX0) (N := 5) (v := .int ((X 3) 0)) hx hb hts hown hE hP hu0 rfl (kb := 2) rfl (q0 := 0) rfl 0 (by decide) (List.mem_of_getElem? (i := 23) rfl) rfl rfl dX5_turnStarter_16 ?_
    refine lv_if_ne (tgt := 36) hx hb dX5_turnStarter_19 (by decide) (fun c2 => ?_) (fun c2 => ?_)
    · exact jV_ret hx hb hr hlocks hP hS dX5_turnStarter_36 (by rw [m_X5_turnStarter_X_1, if_neg c1, if_neg c2, m_X5_turnStarter_X_3, if_neg c1, if_neg c2] <;> rfl)
    · refine lv_aload_n hx hb dX5_turnStarter_22 rfl (lv_at hl 0 rfl) ?_
      refine jget (ci := 5) (C := RX5) (T := TX5) (N := 5) (v := .ref (b 3)) hx hb hts hown hE hP hu5 rfl (kb := 0) rfl (q0 := 0) rfl 1 (by decide) (List.mem_of_getElem? (i := 2) rfl) rfl rfl dX5_turnStarter_23 ?_
      refine lv_aload_n hx hb dX5_turnStarter_26 rfl (lv_at hl 0 rfl) ?_
      refine jget (ci := 5) (C := RX5) (T := TX5) (N := 5) (v := .ref (b 1)) hx hb hts hown hE hP hu5 rfl (kb := 0) rfl (q0 := 0) rfl 0 (by decide) (List.mem_of_getElem? (i := 1) rfl) rfl rfl dX5_turnStarter_27 ?_
      refine jgetN (ci := 1) (C := RX1) (T := TX1) (N := 9) (v := .int ((X 1) 5)) hx hb hts hown hE hP hu1 rfl (kb := 1) rfl (q0 := 0) rfl 5 (by decide) (List.mem_of_getElem? (i := 14) rfl) rfl rfl dX5_turnStarter_30 ?_
      refine jVNv (n := 1) (is := [2]) (bs' := [stoW b (x_X5_turnStarter_1 X p0), engW y b (x_X5_turnStarter_1 X p0), attW b (x_X5_turnStarter_1 X p0)]) hx hb hml hown hts hE hZ hA hP hD hS (ct_X0_begin l D y b (sv 1 X (upd (X 1) 7 p0)) ((X 1) 5)) rfl rfl ((show ∀ (fg1 : Nat → Int32) (fg2 : Nat → Int32), List.map (List.map Prod.fst) ([attW b (sv 3 (sv 1 X fg1) fg2)]) = List.map (List.map Prod.fst) ([attW b (sv 1 X fg1)]) from fun _ _ => rfl) (upd (X 1) 7 p0) (m_X0_begin_X_3 (sv 1 X (upd (X 1) 7 p0)) ((X 1) 5))) ((show ∀ (fg1 : Nat → Int32) (fg2 : Nat → Int32), jPut ([stoW b (sv 1 X fg1), engW y b (sv 1 X fg1), attW b (sv 1 X fg1)]) [2] ([attW b (sv 3 (sv 1 X fg1) fg2)]) = [stoW b (sv 3 (sv 1 X fg1) fg2), engW y b (sv 3 (sv 1 X fg1) fg2), attW b (sv 3 (sv 1 X fg1) fg2)] from fun _ _ => rfl) (upd (X 1) 7 p0) (m_X0_begin_X_3 (sv 1 X (upd (X 1) 7 p0)) ((X 1) 5))) gX5_turnStarter_X0_begin_n70 (List.mem_of_getElem? (i := 55) rfl) rfl (List.mem_of_getElem? (i := 4) rfl) (List.mem_of_getElem? (i := 3) rfl) (List.mem_of_getElem? (i := 5) rfl) (by decide +kernel) ⟨by decide, by decide⟩ ⟨rfl, rfl⟩ (kb := 2) rfl (q0 := 0) (ci := 0) rfl rfl rfl rfl hl.1 rfl (Nat.le_of_ble_eq_true rfl) ⟨Nat.zero_le _, Nat.zero_le _⟩ dX5_turnStarter_33 (fun H locs hP hD hS => ?_)
      exact jV_ret hx hb hr hlocks hP hS dX5_turnStarter_36 (by rw [m_X5_turnStarter_X_1, if_neg c1, if_pos c2, m_X5_turnStarter_X_3, if_neg c1, if_pos c2] <;> rfl)
def m_X6_addEnding_X_7 (X : Nat → Nat → Int32) (p0 : Int32) : Nat → Int32 := (if p0 < 0 then (X 7) else (if 4 ≤ p0 then (X 7) else (upd (X 7) p0.toNatClampNeg (((X 7) p0.toNatClampNeg) + 1))))
set_option maxHeartbeats 4000000 in
set_option maxRecDepth 100000 in
theorem ct_X6_addEnding (l : Launch) (D : va_G) (y : Nat → ClassId) (b : Nat → Nat) (X : Nat → Nat → Int32) (p0 : Int32)  : jV l D y yX6_addEnding wsX6_addEnding ({ frames := 0, cells := 0, slots := 0, locals := 0 } : Room) [.ref (b 6), .int p0] ([talW y b X]) ([talW y b (sv 7 X (m_X6_addEnding_X_7 X p0))]) := by
  refine jV_of (cc := cX6_addEnding) (maxL := 2) (by decide) rfl (Nat.le_of_ble_eq_true rfl) ?_
  intro p e s m below meth c A ls hx hb hr hlocks hml hown hts hE hZ hA hP hD hS hl
  have hown : s.vm.findClass RX6 = some m.cls := hown
  have hl : lv_has ls 2 [(0, .ref (b 6)), (1, .int p0)] := hl
  have hu6 : ∀ w ∈ wsX60, w ∈ wsX6_addEnding := fun _ h => List.mem_cons_of_mem _ (List.mem_append_right _ h)
  refine lv_iload_n hx hb dX6_addEnding_0 rfl (lv_at hl 1 rfl) ?_
  refine lv_if_lt (tgt := 19) hx hb dX6_addEnding_1 (by decide) (fun c1 => ?_) (fun c1 => ?_)
  · exact jV_ret hx hb hr hlocks hP hS dX6_addEnding_19 (by rw [m_X6_addEnding_X_7, if_pos c1] <;> rfl)
  · refine lv_iload_n hx hb dX6_addEnding_4 rfl (lv_at hl 1 rfl) ?_
    refine lv_iconst (v := 4) hx hb dX6_addEnding_5 (by decide) ?_
    refine lv_icmp_ge (tgt := 19) hx hb dX6_addEnding_6 (by decide) (fun c2 => ?_) (fun c2 => ?_)
    · exact jV_ret hx hb hr hlocks hP hS dX6_addEnding_19 (by rw [m_X6_addEnding_X_7, if_neg c1, if_pos c2] <;> rfl)
    · refine lv_aload_n hx hb dX6_addEnding_9 rfl (lv_at hl 0 rfl) ?_
      refine jget (ci := 6) (C := RX6) (T := TX6) (N := 6) (v := .ref (b 7)) hx hb hts hown hE hP hu6 rfl (kb := 0) rfl (q0 := 0) rfl 0 (by decide) (List.mem_of_getElem? (i := 1) rfl) rfl rfl dX6_addEnding_10 ?_
      refine lv_iload_n hx hb dX6_addEnding_13 rfl (lv_at hl 1 rfl) ?_
      refine lv_dup2_11 hx hb dX6_addEnding_14 rfl rfl ?_
      refine jiald (kb := 0) (q0 := 1) (k := p0.toNatClampNeg) hx hb hE hP rfl rfl (jvin (k := 4) (by decide) c1 c2) rfl dX6_addEnding_15 ?_
      refine W.eq (g2 := F0 m 16 ls [.int ((X 7) p0.toNatClampNeg), .int p0, .ref (b 7)]) rfl ?_
      refine lv_iconst (v := 1) hx hb dX6_addEnding_16 (by decide) ?_
      refine lv_iadd hx hb dX6_addEnding_17 ?_
      refine jiast (kb := 0) (q0 := 1) (k := p0.toNatClampNeg) (x' := (((X 7) p0.toNatClampNeg) + 1)) (bs' := [talW y b (sv 7 X (upd (X 7) p0.toNatClampNeg (((X 7) p0.toNatClampNeg) + 1)))]) hx hb hE hP hD hS rfl rfl (jvin (k := 4) (by decide) c1 c2) rfl rfl ((show ∀ (vg1 : Int32) (kg2 : Nat), List.set ([talW y b X]) 0 (List.set (talW y b X) 1 (b 7, .inl (y 0, 4, .inl (upd (X 7) kg2 vg1)))) = [talW y b (sv 7 X (upd (X 7) kg2 vg1))] from fun _ _ => rfl) (((X 7) p0.toNatClampNeg) + 1) p0.toNatClampNeg) dX6_addEnding_18 (fun H locs hP hD hS => ?_)
      exact jV_ret hx hb hr hlocks hP hS dX6_addEnding_19 (by rw [m_X6_addEnding_X_7, if_neg c1, if_neg c2] <;> rfl)
def v_X3_add_1 (X : Nat → Nat → Int32) : Int32 := (if 10 < (((X 4) 1) + 1) then 10 else (((X 4) 1) + 1))
def m_X3_add_X_4 (X : Nat → Nat → Int32) : Nat → Int32 := (upd (X 4) 1 (v_X3_add_1 X))
def m_X3_add_X_5 (X : Nat → Nat → Int32) (p0 : Int32) (p1 : Int32) : Nat → Int32 := (upd (upd (upd (upd (lsh (X 5) 0) 0 p0) 1 ((X 3) 1)) 2 ((X 3) 2)) 3 ((((X 3) 3) - p1) + 2000))
set_option maxHeartbeats 4000000 in
set_option maxRecDepth 100000 in
theorem ct_X3_add (l : Launch) (D : va_G) (y : Nat → ClassId) (b : Nat → Nat) (X : Nat → Nat → Int32) (p0 : Int32) (p1 : Int32)  : jV l D y yX3_add wsX3_add ({ frames := 1, cells := 0, slots := 0, locals := 14 } : Room) [.ref (b 4), .int p0, .ref (b 3), .int p1] ([attW b X, logW y b X]) ([attW b (sv 5 (sv 4 X (m_X3_add_X_4 X)) (m_X3_add_X_5 X p0 p1)), logW y b (sv 5 (sv 4 X (m_X3_add_X_4 X)) (m_X3_add_X_5 X p0 p1))]) := by
  refine jV_of (cc := cX3_add) (maxL := 5) (by decide) rfl (Nat.le_of_ble_eq_true rfl) ?_
  intro p e s m below meth c A ls hx hb hr hlocks hml hown hts hE hZ hA hP hD hS hl
  have hown : s.vm.findClass RX3 = some m.cls := hown
  have hl : lv_has ls 5 [(0, .ref (b 4)), (1, .int p0), (2, .ref (b 3)), (3, .int p1)] := hl
  have hu0 : ∀ w ∈ wsX00, w ∈ wsX3_add := fun _ h => List.mem_cons_of_mem _ (List.mem_append_right _ h)
  have hu3 : ∀ w ∈ wsX30, w ∈ wsX3_add := fun _ h => List.mem_cons_of_mem _ (List.mem_append_left _ (List.mem_append_right _ h))
  refine lv_bipush (v := 39) hx hb dX3_add_0 (by decide) ?_
  refine lv_istore (lv' := [(4, .int 39), (0, .ref (b 4)), (1, .int p0), (2, .ref (b 3)), (3, .int p1)]) hx hb dX3_add_2 hl (by decide) rfl (fun ls hl => ?_)
  refine jLoop (fun n H locs g => ∃ ls, (n ≤ 36) ∧ g = F0 m 4 ls [] ∧ lv_has ls 5 [(4, .int (nI (n + 3))), (0, .ref (b 4)), (1, .int p0), (2, .ref (b 3)), (3, .int p1)] ∧ va_P D vwCl ([attW b (sv 5 X (lsh (X 5) n)), logW y b (sv 5 X (lsh (X 5) n))]).flatten H ∧ va_D A ([attW b (sv 5 X (lsh (X 5) n)), logW y b (sv 5 X (lsh (X 5) n))]).flatten ∧ va_S A s.heap H locs) (36) ?_ ⟨_, Nat.le_refl 36, rfl, lv_sub hl [0, 1, 2, 3, 4] rfl, (by rw [lsh_36]; exact hP), (by rw [lsh_36]; exact hD), hS⟩
  rintro n ih H locs _ ⟨ls, hn36, rfl, hl, hP, hD, hS⟩
  rcases n with _ | n
  · have hl : lv_has ls 5 [(4, .int (nI 3)), (0, .ref (b 4)), (1, .int p0), (2, .ref (b 3)), (3, .int p1)] := hl
    have hP : va_P D vwCl ([attW b (sv 5 X (lsh (X 5) 0)), logW y b (sv 5 X (lsh (X 5) 0))]).flatten H := hP
    have hD : va_D A ([attW b (sv 5 X (lsh (X 5) 0)), logW y b (sv 5 X (lsh (X 5) 0))]).flatten := hD
    refine lv_iload hx hb dX3_add_4 (lv_at hl 0 rfl) ?_
    refine lv_iconst (v := 4) hx hb dX3_add_6 (by decide) ?_
    refine lv_icmp_lt (tgt := 32) hx hb dX3_add_7 (by decide) (fun c1 => ?_) (fun c1 => ?_)
    rotate_left
    · exact absurd (by decide) c1
    refine lv_aload_n hx hb dX3_add_32 rfl (lv_at hl 1 rfl) ?_
    refine jget (ci := 3) (C := RX3) (T := TX3) (N := 2) (v := .ref (b 5)) hx hb hts hown hE hP hu3 rfl (kb := 1) rfl (q0 := 0) rfl 0 (by decide) (List.mem_of_getElem? (i := 1) rfl) rfl rfl dX3_add_33 ?_
    refine lv_iconst (v := 0) hx hb dX3_add_36 (by decide) ?_
    refine lv_iload_n hx hb dX3_add_37 rfl (lv_at hl 2 rfl) ?_
    refine jiast (kb := 1) (q0 := 1) (k := 0) (x' := p0) (bs' := [attW b (sv 5 X (upd (lsh (X 5) 0) 0 p0)), logW y b (sv 5 X (upd (lsh (X 5) 0) 0 p0))]) hx hb hE hP hD hS rfl rfl (jvl (by decide)) (by decide) rfl ((show ∀ (fg1 : Nat → Int32), List.set ([attW b (sv 5 X fg1), logW y b (sv 5 X fg1)]) 1 (List.set (logW y b (sv 5 X fg1)) 1 (b 5, .inl (y 0, 40, .inl (upd ((sv 5 X fg1) 5) 0 p0)))) = [attW b (sv 5 X (upd fg1 0 p0)), logW y b (sv 5 X (upd fg1 0 p0))] from fun _ => rfl) (lsh (X 5) 0)) dX3_add_38 (fun H locs hP hD hS => ?_)
    refine lv_aload_n hx hb dX3_add_39 rfl (lv_at hl 1 rfl) ?_
    refine jget (ci := 3) (C := RX3) (T := TX3) (N := 2) (v := .ref (b 5)) hx hb hts hown hE hP hu3 rfl (kb := 1) rfl (q0 := 0) rfl 0 (by decide) (List.mem_of_getElem? (i := 1) rfl) rfl rfl dX3_add_40 ?_
    refine lv_iconst (v := 1) hx hb dX3_add_43 (by decide) ?_
    refine lv_aload_n hx hb dX3_add_44 rfl (lv_at hl 3 rfl) ?_
    refine jgetN (ci := 0) (C := RX0) (T := TX0) (N := 5) (v := .int ((X 3) 1)) hx hb hts hown hE hP hu0 rfl (kb := 0) rfl (q0 := 0) rfl 1 (by decide) (List.mem_of_getElem? (i := 25) rfl) rfl rfl dX3_add_45 ?_
    refine jiast (kb := 1) (q0 := 1) (k := 1) (x' := ((X 3) 1)) (bs' := [attW b (sv 5 X (upd (upd (lsh (X 5) 0) 0 p0) 1 ((X 3) 1))), logW y b (sv 5 X (upd (upd (lsh (X 5) 0) 0 p0) 1 ((X 3) 1)))]) hx hb hE hP hD hS rfl rfl (jvl (by decide)) (by decide) rfl ((show ∀ (fg1 : Nat → Int32) (vg2 : Int32), List.set ([attW b (sv 5 X fg1), logW y b (sv 5 X fg1)]) 1 (List.set (logW y b (sv 5 X fg1)) 1 (b 5, .inl (y 0, 40, .inl (upd ((sv 5 X fg1) 5) 1 vg2)))) = [attW b (sv 5 X (upd fg1 1 vg2)), logW y b (sv 5 X (upd fg1 1 vg2))] from fun _ _ => rfl) (upd (lsh (X 5) 0) 0 p0) ((X 3) 1)) dX3_add_48 (fun H locs hP hD hS => ?_)
    refine lv_aload_n hx hb dX3_add_49 rfl (lv_at hl 1 rfl) ?_
    refine jget (ci := 3) (C := RX3) (T := TX3) (N := 2) (v := .ref (b 5)) hx hb hts hown hE hP hu3 rfl (kb := 1) rfl (q0 := 0) rfl 0 (by decide) (List.mem_of_getElem? (i := 1) rfl) rfl rfl dX3_add_50 ?_
    refine lv_iconst (v := 2) hx hb dX3_add_53 (by decide) ?_
    refine lv_aload_n hx hb dX3_add_54 rfl (lv_at hl 3 rfl) ?_
    refine jgetN (ci := 0) (C := RX0) (T := TX0) (N := 5) (v := .int ((X 3) 2)) hx hb hts hown hE hP hu0 rfl (kb := 0) rfl (q0 := 0) rfl 2 (by decide) (List.mem_of_getElem? (i := 26) rfl) rfl rfl dX3_add_55 ?_
    refine jiast (kb := 1) (q0 := 1) (k := 2) (x' := ((X 3) 2)) (bs' := [attW b (sv 5 X (upd (upd (upd (lsh (X 5) 0) 0 p0) 1 ((X 3) 1)) 2 ((X 3) 2))), logW y b (sv 5 X (upd (upd (upd (lsh (X 5) 0) 0 p0) 1 ((X 3) 1)) 2 ((X 3) 2)))]) hx hb hE hP hD hS rfl rfl (jvl (by decide)) (by decide) rfl ((show ∀ (fg1 : Nat → Int32) (vg2 : Int32), List.set ([attW b (sv 5 X fg1), logW y b (sv 5 X fg1)]) 1 (List.set (logW y b (sv 5 X fg1)) 1 (b 5, .inl (y 0, 40, .inl (upd ((sv 5 X fg1) 5) 2 vg2)))) = [attW b (sv 5 X (upd fg1 2 vg2)), logW y b (sv 5 X (upd fg1 2 vg2))] from fun _ _ => rfl) (upd (upd (lsh (X 5) 0) 0 p0) 1 ((X 3) 1)) ((X 3) 2)) dX3_add_58 (fun H locs hP hD hS => ?_)
    refine lv_aload_n hx hb dX3_add_59 rfl (lv_at hl 1 rfl) ?_
    refine jget (ci := 3) (C := RX3) (T := TX3) (N := 2) (v := .ref (b 5)) hx hb hts hown hE hP hu3 rfl (kb := 1) rfl (q0 := 0) rfl 0 (by decide) (List.mem_of_getElem? (i := 1) rfl) rfl rfl dX3_add_60 ?_
    refine lv_iconst (v := 3) hx hb dX3_add_63 (by decide) ?_
    refine lv_aload_n hx hb dX3_add_64 rfl (lv_at hl 3 rfl) ?_
    refine jgetN (ci := 0) (C := RX0) (T := TX0) (N := 5) (v := .int ((X 3) 3)) hx hb hts hown hE hP hu0 rfl (kb := 0) rfl (q0 := 0) rfl 3 (by decide) (List.mem_of_getElem? (i := 27) rfl) rfl rfl dX3_add_65 ?_
    refine lv_iload_n hx hb dX3_add_68 rfl (lv_at hl 4 rfl) ?_
    refine lv_isub hx hb dX3_add_69 ?_
    refine lv_sipush (v := 2000) hx hb dX3_add_70 (by decide) ?_
    refine lv_iadd hx hb dX3_add_73 ?_
    refine jiast (kb := 1) (q0 := 1) (k := 3) (x' := ((((X 3) 3) - p1) + 2000)) (bs' := [attW b (sv 5 X (upd (upd (upd (upd (lsh (X 5) 0) 0 p0) 1 ((X 3) 1)) 2 ((X 3) 2)) 3 ((((X 3) 3) - p1) + 2000))), logW y b (sv 5 X (upd (upd (upd (upd (lsh (X 5) 0) 0 p0) 1 ((X 3) 1)) 2 ((X 3) 2)) 3 ((((X 3) 3) - p1) + 2000)))]) hx hb hE hP hD hS rfl rfl (jvl (by decide)) (by decide) rfl ((show ∀ (fg1 : Nat → Int32) (vg2 : Int32), List.set ([attW b (sv 5 X fg1), logW y b (sv 5 X fg1)]) 1 (List.set (logW y b (sv 5 X fg1)) 1 (b 5, .inl (y 0, 40, .inl (upd ((sv 5 X fg1) 5) 3 vg2)))) = [attW b (sv 5 X (upd fg1 3 vg2)), logW y b (sv 5 X (upd fg1 3 vg2))] from fun _ _ => rfl) (upd (upd (upd (lsh (X 5) 0) 0 p0) 1 ((X 3) 1)) 2 ((X 3) 2)) ((((X 3) 3) - p1) + 2000)) dX3_add_74 (fun H locs hP hD hS => ?_)
    refine lv_aload_n hx hb dX3_add_75 rfl (lv_at hl 1 rfl) ?_
    refine lv_aload_n hx hb dX3_add_76 rfl (lv_at hl 1 rfl) ?_
    refine jget (ci := 3) (C := RX3) (T := TX3) (N := 2) (v := .int ((X 4) 1)) hx hb hts hown hE hP hu3 rfl (kb := 1) rfl (q0 := 0) rfl 1 (by decide) (List.mem_of_getElem? (i := 2) rfl) rfl rfl dX3_add_77 ?_
    refine lv_iconst (v := 1) hx hb dX3_add_80 (by decide) ?_
    refine lv_iadd hx hb dX3_add_81 ?_
    refine lv_bipush (v := 10) hx hb dX3_add_82 (by decide) ?_
    refine va_mmin hx hb (hml.trans hl.1.symm) hown (hts _ (List.mem_of_getElem? (i := 3) rfl)) (hts _ (List.mem_of_getElem? (i := 4) rfl)) (hts _ (List.mem_of_getElem? (i := 5) rfl)) (hts _ (List.mem_of_getElem? (i := 6) rfl)) (by decide) (Nat.le_of_ble_eq_true rfl) (Nat.zero_le _) (Nat.zero_le _) dX3_add_84 ?_
    refine jput (ci := 3) (C := RX3) (T := TX3) (N := 2) (ty := .int) (bs' := [attW b (sv 4 (sv 5 X (upd (upd (upd (upd (lsh (X 5) 0) 0 p0) 1 ((X 3) 1)) 2 ((X 3) 2)) 3 ((((X 3) 3) - p1) + 2000))) (upd (X 4) 1 (v_X3_add_1 X))), logW y b (sv 4 (sv 5 X (upd (upd (upd (upd (lsh (X 5) 0) 0 p0) 1 ((X 3) 1)) 2 ((X 3) 2)) 3 ((((X 3) 3) - p1) + 2000))) (upd (X 4) 1 (v_X3_add_1 X)))]) hx hb hts hown hE hP hD hS hu3 tyX3 tyX3_ok nmX3 rfl (kb := 1) rfl (q0 := 0) rfl 1 (by decide) (List.mem_of_getElem? (i := 2) rfl) rfl rfl rfl rfl rfl (Nat.le_of_ble_eq_true rfl) ((show ∀ (fg1 : Nat → Int32) (vg2 : Int32), List.set ([attW b (sv 5 X fg1), logW y b (sv 5 X fg1)]) 1 (List.set (logW y b (sv 5 X fg1)) 0 (b 4, .inr (3, List.set [.ref (b 5), .int ((sv 5 X fg1) 4 1)] 1 (.int vg2)))) = [attW b (sv 4 (sv 5 X fg1) (upd (X 4) 1 vg2)), logW y b (sv 4 (sv 5 X fg1) (upd (X 4) 1 vg2))] from fun _ _ => rfl) (upd (upd (upd (upd (lsh (X 5) 0) 0 p0) 1 ((X 3) 1)) 2 ((X 3) 2)) 3 ((((X 3) 3) - p1) + 2000)) (v_X3_add_1 X)) dX3_add_87 (fun H locs hP hD hS => ?_)
    exact jV_ret hx hb hr hlocks hP hS dX3_add_90 rfl
  · have hl : lv_has ls 5 [(4, .int (nI (n + 4))), (0, .ref (b 4)), (1, .int p0), (2, .ref (b 3)), (3, .int p1)] := hl
    have hP : va_P D vwCl ([attW b (sv 5 X (lsh (X 5) (n + 1))), logW y b (sv 5 X (lsh (X 5) (n + 1)))]).flatten H := hP
    have hD : va_D A ([attW b (sv 5 X (lsh (X 5) (n + 1))), logW y b (sv 5 X (lsh (X 5) (n + 1)))]).flatten := hD
    refine lv_iload hx hb dX3_add_4 (lv_at hl 0 rfl) ?_
    refine lv_iconst (v := 4) hx hb dX3_add_6 (by decide) ?_
    refine lv_icmp_lt (tgt := 32) hx hb dX3_add_7 (by decide) (fun c2 => ?_) (fun c2 => ?_)
    · exact absurd c2 (show ¬ nI (n + 4) < nI 4 from nI_nlt (by omega) (by omega))
    refine lv_aload_n hx hb dX3_add_10 rfl (lv_at hl 1 rfl) ?_
    refine jget (ci := 3) (C := RX3) (T := TX3) (N := 2) (v := .ref (b 5)) hx hb hts hown hE hP hu3 rfl (kb := 1) rfl (q0 := 0) rfl 0 (by decide) (List.mem_of_getElem? (i := 1) rfl) rfl rfl dX3_add_11 ?_
    refine lv_iload hx hb dX3_add_14 (lv_at hl 0 rfl) ?_
    refine lv_aload_n hx hb dX3_add_16 rfl (lv_at hl 1 rfl) ?_
    refine jget (ci := 3) (C := RX3) (T := TX3) (N := 2) (v := .ref (b 5)) hx hb hts hown hE hP hu3 rfl (kb := 1) rfl (q0 := 0) rfl 0 (by decide) (List.mem_of_getElem? (i := 1) rfl) rfl rfl dX3_add_17 ?_
    refine lv_iload hx hb dX3_add_20 (lv_at hl 0 rfl) ?_
    refine lv_iconst (v := 4) hx hb dX3_add_22 (by decide) ?_
    refine lv_isub hx hb dX3_add_23 ?_
    refine W.eq (g2 := F0 m 24 ls [.int (nI n), .ref (b 5), .int (nI (n + 4)), .ref (b 5)]) (by rw [show ((nI (n + 4)) - 4) = (nI n) from (jm4 n)]) ?_
    refine jiald (kb := 1) (q0 := 1) (k := n) hx hb hE hP rfl rfl (vp_in_nI (by omega) (by decide)) (nI_clamp (by omega)) dX3_add_24 ?_
    refine W.eq (g2 := F0 m 25 ls [.int ((lsh (X 5) (n + 1)) n), .int (nI (n + 4)), .ref (b 5)]) rfl ?_
    refine jiast (kb := 1) (q0 := 1) (k := (n + 4)) (x' := ((lsh (X 5) (n + 1)) n)) (bs' := [attW b (sv 5 X (upd (lsh (X 5) (n + 1)) (n + 4) ((lsh (X 5) (n + 1)) n))), logW y b (sv 5 X (upd (lsh (X 5) (n + 1)) (n + 4) ((lsh (X 5) (n + 1)) n)))]) hx hb hE hP hD hS rfl rfl (vp_in_nI (by omega) (by decide)) (nI_clamp (by omega)) rfl ((show ∀ (fg1 : Nat → Int32) (vg2 : Int32) (kg3 : Nat), List.set ([attW b (sv 5 X fg1), logW y b (sv 5 X fg1)]) 1 (List.set (logW y b (sv 5 X fg1)) 1 (b 5, .inl (y 0, 40, .inl (upd ((sv 5 X fg1) 5) kg3 vg2)))) = [attW b (sv 5 X (upd fg1 kg3 vg2)), logW y b (sv 5 X (upd fg1 kg3 vg2))] from fun _ _ _ => rfl) (lsh (X 5) (n + 1)) ((lsh (X 5) (n + 1)) n) (n + 4)) dX3_add_25 (fun H locs hP hD hS => ?_)
    refine lv_iinc (v := (nI (n + 3))) (lv' := [(4, .int (nI (n + 3))), (0, .ref (b 4)), (1, .int p0), (2, .ref (b 3)), (3, .int p1)]) hx hb dX3_add_26 hl (k := 0) rfl (jm1 n) (by decide) rfl (fun ls hl => ?_)
    refine lv_goto (tgt := 4) hx hb dX3_add_29 (by decide) ?_
    exact ih n (Nat.lt_succ_self n) _ _ _ ⟨_, (by omega), rfl, lv_sub hl [0, 1, 2, 3, 4] rfl, (by rw [lsh_step (X 5) hn36] at hP; exact hP), (by rw [lsh_step (X 5) hn36] at hD; exact hD), hS⟩
def r_X3_numberOf (X : Nat → Nat → Int32) (p0 : Int32) (p1 : Int32) : Int32 := (if p0 < 0 then (-6) else (if ((X 4) 1) ≤ p0 then (-6) else (if p1 < 0 then (-6) else (if p1 < 4 then ((X 5) (((p0 * 4) + p1).toNatClampNeg)) else (-6)))))
set_option maxHeartbeats 4000000 in
set_option maxRecDepth 100000 in
theorem ct_X3_numberOf (l : Launch) (D : va_G) (y : Nat → ClassId) (b : Nat → Nat) (X : Nat → Nat → Int32) (p0 : Int32) (p1 : Int32) (hk : ¬ 10 < X 4 1) : jI l D y yX3_numberOf wsX3_numberOf ({ frames := 0, cells := 0, slots := 0, locals := 0 } : Room) [.ref (b 4), .int p0, .int p1] ([logW y b X]) (r_X3_numberOf X p0 p1) ([logW y b X]) := by
  refine jI_of (cc := cX3_numberOf) (maxL := 3) (ty := .int) (by decide) rfl (Nat.le_of_ble_eq_true rfl) ?_
  intro p e s m below meth c A ls hx hb hr hlocks hml hown hts hE hZ hA hP hD hS hl
  have hown : s.vm.findClass RX3 = some m.cls := hown
  have hl : lv_has ls 3 [(0, .ref (b 4)), (1, .int p0), (2, .int p1)] := hl
  have hu3 : ∀ w ∈ wsX30, w ∈ wsX3_numberOf := fun _ h => List.mem_cons_of_mem _ (List.mem_append_right _ h)
  refine lv_iload_n hx hb dX3_numberOf_0 rfl (lv_at hl 1 rfl) ?_
  refine lv_if_lt (tgt := 21) hx hb dX3_numberOf_1 (by decide) (fun c1 => ?_) (fun c1 => ?_)
  · refine lv_bipush (v := (-6)) hx hb dX3_numberOf_21 (by decide) ?_
    exact jI_ret hx hb hr hlocks hP hS dX3_numberOf_23 rfl (by rw [r_X3_numberOf, if_pos c1]) rfl
  · refine lv_iload_n hx hb dX3_numberOf_4 rfl (lv_at hl 1 rfl) ?_
    refine lv_aload_n hx hb dX3_numberOf_5 rfl (lv_at hl 0 rfl) ?_
    refine jget (ci := 3) (C := RX3) (T := TX3) (N := 2) (v := .int ((X 4) 1)) hx hb hts hown hE hP hu3 rfl (kb := 0) rfl (q0 := 0) rfl 1 (by decide) (List.mem_of_getElem? (i := 1) rfl) rfl rfl dX3_numberOf_6 ?_
    refine lv_icmp_ge (tgt := 21) hx hb dX3_numberOf_9 (by decide) (fun c2 => ?_) (fun c2 => ?_)
    · refine lv_bipush (v := (-6)) hx hb dX3_numberOf_21 (by decide) ?_
      exact jI_ret hx hb hr hlocks hP hS dX3_numberOf_23 rfl (by rw [r_X3_numberOf, if_neg c1, if_pos c2]) rfl
    · refine lv_iload_n hx hb dX3_numberOf_12 rfl (lv_at hl 2 rfl) ?_
      refine lv_if_lt (tgt := 21) hx hb dX3_numberOf_13 (by decide) (fun c3 => ?_) (fun c3 => ?_)
      · refine lv_bipush (v := (-6)) hx hb dX3_numberOf_21 (by decide) ?_
        exact jI_ret hx hb hr hlocks hP hS dX3_numberOf_23 rfl (by rw [r_X3_numberOf, if_neg c1, if_neg c2, if_pos c3]) rfl
      · refine lv_iload_n hx hb dX3_numberOf_16 rfl (lv_at hl 2 rfl) ?_
        refine lv_iconst (v := 4) hx hb dX3_numberOf_17 (by decide) ?_
        refine lv_icmp_lt (tgt := 24) hx hb dX3_numberOf_18 (by decide) (fun c4 => ?_) (fun c4 => ?_)
        · refine lv_aload_n hx hb dX3_numberOf_24 rfl (lv_at hl 0 rfl) ?_
          refine jget (ci := 3) (C := RX3) (T := TX3) (N := 2) (v := .ref (b 5)) hx hb hts hown hE hP hu3 rfl (kb := 0) rfl (q0 := 0) rfl 0 (by decide) (List.mem_of_getElem? (i := 2) rfl) rfl rfl dX3_numberOf_25 ?_
          refine lv_iload_n hx hb dX3_numberOf_28 rfl (lv_at hl 1 rfl) ?_
          refine lv_iconst (v := 4) hx hb dX3_numberOf_29 (by decide) ?_
          refine lv_imul hx hb dX3_numberOf_30 ?_
          refine lv_iload_n hx hb dX3_numberOf_31 rfl (lv_at hl 2 rfl) ?_
          refine lv_iadd hx hb dX3_numberOf_32 ?_
          refine jiald (kb := 0) (q0 := 1) (k := (((p0 * 4) + p1).toNatClampNeg)) hx hb hE hP rfl rfl (jnum hk c1 c2 c3 (Int32.not_le.mpr c4)) rfl dX3_numberOf_33 ?_
          refine W.eq (g2 := F0 m 34 ls [.int ((X 5) (((p0 * 4) + p1).toNatClampNeg))]) rfl ?_
          exact jI_ret hx hb hr hlocks hP hS dX3_numberOf_34 rfl (by rw [r_X3_numberOf, if_neg c1, if_neg c2, if_neg c3, if_pos c4]) rfl
        · refine lv_bipush (v := (-6)) hx hb dX3_numberOf_21 (by decide) ?_
          exact jI_ret hx hb hr hlocks hP hS dX3_numberOf_23 rfl (by rw [r_X3_numberOf, if_neg c1, if_neg c2, if_neg c3, if_neg c4]) rfl
def x_X5_endAttemptIfOver_1 (X : Nat → Nat → Int32) : Nat → Nat → Int32 := sv 5 (sv 4 X (m_X3_add_X_4 X)) (m_X3_add_X_5 X (r_X0_endingWith X) ((X 1) 5))
def x_X5_endAttemptIfOver_2 (X : Nat → Nat → Int32) : Nat → Nat → Int32 := sv 7 (x_X5_endAttemptIfOver_1 X) (m_X6_addEnding_X_7 (x_X5_endAttemptIfOver_1 X) (r_X0_endingWith X))
def m_X5_endAttemptIfOver_X_1 (X : Nat → Nat → Int32) : Nat → Int32 := (if (r_X0_endingWith X) = (-1) then (X 1) else (if (r_X0_endingWith X) = 0 then (X 1) else (upd (X 1) 7 0)))
def m_X5_endAttemptIfOver_X_3 (X : Nat → Nat → Int32) : Nat → Int32 := (if (r_X0_endingWith X) = (-1) then (X 3) else (if (r_X0_endingWith X) = 0 then (upd (X 3) 0 0) else (upd (X 3) 0 0)))
def m_X5_endAttemptIfOver_X_4 (X : Nat → Nat → Int32) : Nat → Int32 := (if (r_X0_endingWith X) = (-1) then (X 4) else (if (r_X0_endingWith X) = 0 then ((x_X5_endAttemptIfOver_2 X) 4) else ((x_X5_endAttemptIfOver_2 X) 4)))
def m_X5_endAttemptIfOver_X_5 (X : Nat → Nat → Int32) : Nat → Int32 := (if (r_X0_endingWith X) = (-1) then (X 5) else (if (r_X0_endingWith X) = 0 then ((x_X5_endAttemptIfOver_2 X) 5) else ((x_X5_endAttemptIfOver_2 X) 5)))
def m_X5_endAttemptIfOver_X_7 (X : Nat → Nat → Int32) : Nat → Int32 := (if (r_X0_endingWith X) = (-1) then (X 7) else (if (r_X0_endingWith X) = 0 then ((x_X5_endAttemptIfOver_2 X) 7) else ((x_X5_endAttemptIfOver_2 X) 7)))
set_option maxHeartbeats 4000000 in
set_option maxRecDepth 100000 in
theorem ct_X5_endAttemptIfOver (l : Launch) (D : va_G) (y : Nat → ClassId) (b : Nat → Nat) (X : Nat → Nat → Int32)  : jV l D y yX5_endAttemptIfOver wsX5_endAttemptIfOver ({ frames := 2, cells := 0, slots := 0, locals := 41 } : Room) [.ref (b 0)] (stB y b X) (stB y b (sv 7 (sv 5 (sv 4 (sv 3 (sv 1 X (m_X5_endAttemptIfOver_X_1 X)) (m_X5_endAttemptIfOver_X_3 X)) (m_X5_endAttemptIfOver_X_4 X)) (m_X5_endAttemptIfOver_X_5 X)) (m_X5_endAttemptIfOver_X_7 X))) := by
  refine jV_of (cc := cX5_endAttemptIfOver) (maxL := 2) (by decide) rfl (Nat.le_of_ble_eq_true rfl) ?_
  intro p e s m below meth c A ls hx hb hr hlocks hml hown hts hE hZ hA hP hD hS hl
  have hown : s.vm.findClass RX5 = some m.cls := hown
  have hl : lv_has ls 2 [(0, .ref (b 0))] := hl
  have hu0 : ∀ w ∈ wsX00, w ∈ wsX5_endAttemptIfOver := fun _ h => List.mem_cons_of_mem _ (List.mem_append_left _ (List.mem_append_left _ (List.mem_append_right _ h)))
  have hu1 : ∀ w ∈ wsX10, w ∈ wsX5_endAttemptIfOver := fun _ h => List.mem_cons_of_mem _ (List.mem_append_left _ (List.mem_append_left _ (List.mem_append_left _ (List.mem_append_right _ h))))
  have hu5 : ∀ w ∈ wsX50, w ∈ wsX5_endAttemptIfOver := fun _ h => List.mem_cons_of_mem _ (List.mem_append_left _ (List.mem_append_left _ (List.mem_append_left _ (List.mem_append_left _ (List.mem_append_right _ h)))))
  refine lv_aload_n hx hb dX5_endAttemptIfOver_0 rfl (lv_at hl 0 rfl) ?_
  refine jget (ci := 5) (C := RX5) (T := TX5) (N := 5) (v := .ref (b 3)) hx hb hts hown hE hP hu5 rfl (kb := 0) rfl (q0 := 0) rfl 1 (by decide) (List.mem_of_getElem? (i := 1) rfl) rfl rfl dX5_endAttemptIfOver_1 ?_
  refine lv_aload_n hx hb dX5_endAttemptIfOver_4 rfl (lv_at hl 0 rfl) ?_
  refine jget (ci := 5) (C := RX5) (T := TX5) (N := 5) (v := .ref (b 1)) hx hb hts hown hE hP hu5 rfl (kb := 0) rfl (q0 := 0) rfl 0 (by decide) (List.mem_of_getElem? (i := 2) rfl) rfl rfl dX5_endAttemptIfOver_5 ?_
  refine jVNi (n := 1) (is := [1, 2]) (bs' := stB y b X) hx hb hml hown hts hE hZ hA hP hD hS (ct_X0_endingWith l D y b X) rfl rfl rfl rfl gX5_endAttemptIfOver_X0_endingWith_n91 (List.mem_of_getElem? (i := 64) rfl) rfl (List.mem_of_getElem? (i := 6) rfl) (List.mem_of_getElem? (i := 5) rfl) (List.mem_of_getElem? (i := 7) rfl) (by decide +kernel) ⟨by decide, by decide⟩ ⟨rfl, rfl⟩ (kb := 2) rfl (q0 := 0) (ci := 0) rfl rfl rfl rfl hl.1 rfl (Nat.le_of_ble_eq_true rfl) ⟨Nat.zero_le _, Nat.zero_le _⟩ dX5_endAttemptIfOver_8 (fun H locs hP hD hS => ?_)
  refine lv_istore_n (lv' := [(1, .int (r_X0_endingWith X)), (0, .ref (b 0))]) hx hb dX5_endAttemptIfOver_11 rfl hl (by decide) rfl (fun ls hl => ?_)
  refine lv_iload_n hx hb dX5_endAttemptIfOver_12 rfl (lv_at hl 0 rfl) ?_
  refine lv_iconst (v := (-1)) hx hb dX5_endAttemptIfOver_13 (by decide) ?_
  refine lv_icmp_ne (tgt := 18) hx hb dX5_endAttemptIfOver_14 (by decide) (fun c1 => ?_) (fun c1 => ?_)
  · refine lv_aload_n hx hb dX5_endAttemptIfOver_18 rfl (lv_at hl 1 rfl) ?_
    refine jget (ci := 5) (C := RX5) (T := TX5) (N := 5) (v := .ref (b 4)) hx hb hts hown hE hP hu5 rfl (kb := 0) rfl (q0 := 0) rfl 2 (by decide) (List.mem_of_getElem? (i := 3) rfl) rfl rfl dX5_endAttemptIfOver_19 ?_
    refine lv_iload_n hx hb dX5_endAttemptIfOver_22 rfl (lv_at hl 0 rfl) ?_
    refine lv_aload_n hx hb dX5_endAttemptIfOver_23 rfl (lv_at hl 1 rfl) ?_
    refine jget (ci := 5) (C := RX5) (T := TX5) (N := 5) (v := .ref (b 3)) hx hb hts hown hE hP hu5 rfl (kb := 0) rfl (q0 := 0) rfl 1 (by decide) (List.mem_of_getElem? (i := 1) rfl) rfl rfl dX5_endAttemptIfOver_24 ?_
    refine lv_aload_n hx hb dX5_endAttemptIfOver_27 rfl (lv_at hl 1 rfl) ?_
    refine jget (ci := 5) (C := RX5) (T := TX5) (N := 5) (v := .ref (b 1)) hx hb hts hown hE hP hu5 rfl (kb := 0) rfl (q0 := 0) rfl 0 (by decide) (List.mem_of_getElem? (i := 2) rfl) rfl rfl dX5_endAttemptIfOver_28 ?_
    refine jgetN (ci := 1) (C := RX1) (T := TX1) (N := 9) (v := .int ((X 1) 5)) hx hb hts hown hE hP hu1 rfl (kb := 1) rfl (q0 := 0) rfl 5 (by decide) (List.mem_of_getElem? (i := 14) rfl) rfl rfl dX5_endAttemptIfOver_31 ?_
    refine jVNv (n := 3) (is := [2, 3]) (bs' := stB y b (x_X5_endAttemptIfOver_1 X)) hx hb hml hown hts hE hZ hA hP hD hS (ct_X3_add l D y b X (r_X0_endingWith X) ((X 1) 5)) rfl rfl ((show ∀ (fg1 : Nat → Int32) (fg2 : Nat → Int32), List.map (List.map Prod.fst) ([attW b (sv 5 (sv 4 X fg1) fg2), logW y b (sv 5 (sv 4 X fg1) fg2)]) = List.map (List.map Prod.fst) ([attW b X, logW y b X]) from fun _ _ => rfl) (m_X3_add_X_4 X) (m_X3_add_X_5 X (r_X0_endingWith X) ((X 1) 5))) ((show ∀ (fg1 : Nat → Int32) (fg2 : Nat → Int32), jPut (stB y b X) [2, 3] ([attW b (sv 5 (sv 4 X fg1) fg2), logW y b (sv 5 (sv 4 X fg1) fg2)]) = stB y b (sv 5 (sv 4 X fg1) fg2) from fun _ _ => rfl) (m_X3_add_X_4 X) (m_X3_add_X_5 X (r_X0_endingWith X) ((X 1) 5))) gX5_endAttemptIfOver_X3_add_n95 (List.mem_of_getElem? (i := 68) rfl) rfl (List.mem_of_getElem? (i := 26) rfl) (List.mem_of_getElem? (i := 25) rfl) (List.mem_of_getElem? (i := 27) rfl) (by decide +kernel) ⟨by decide, by decide⟩ ⟨rfl, rfl⟩ (kb := 3) rfl (q0 := 0) (ci := 3) rfl rfl rfl rfl hl.1 rfl (Nat.le_of_ble_eq_true rfl) ⟨Nat.zero_le _, Nat.zero_le _⟩ dX5_endAttemptIfOver_34 (fun H locs hP hD hS => ?_)
    refine lv_aload_n hx hb dX5_endAttemptIfOver_37 rfl (lv_at hl 1 rfl) ?_
    refine jget (ci := 5) (C := RX5) (T := TX5) (N := 5) (v := .ref (b 6)) hx hb hts hown hE hP hu5 rfl (kb := 0) rfl (q0 := 0) rfl 3 (by decide) (List.mem_of_getElem? (i := 4) rfl) rfl rfl dX5_endAttemptIfOver_38 ?_
    refine lv_iload_n hx hb dX5_endAttemptIfOver_41 rfl (lv_at hl 0 rfl) ?_
    refine jVNv (n := 1) (is := [4]) (bs' := stB y b (x_X5_endAttemptIfOver_2 X)) hx hb hml hown hts hE hZ hA hP hD hS (ct_X6_addEnding l D y b (x_X5_endAttemptIfOver_1 X) (r_X0_endingWith X)) rfl rfl ((show ∀ (Xg1 : Nat → Nat → Int32) (fg2 : Nat → Int32), List.map (List.map Prod.fst) ([talW y b (sv 7 Xg1 fg2)]) = List.map (List.map Prod.fst) ([talW y b Xg1]) from fun _ _ => rfl) (x_X5_endAttemptIfOver_1 X) (m_X6_addEnding_X_7 (x_X5_endAttemptIfOver_1 X) (r_X0_endingWith X))) ((show ∀ (Xg1 : Nat → Nat → Int32) (fg2 : Nat → Int32), jPut (stB y b Xg1) [4] ([talW y b (sv 7 Xg1 fg2)]) = stB y b (sv 7 Xg1 fg2) from fun _ _ => rfl) (x_X5_endAttemptIfOver_1 X) (m_X6_addEnding_X_7 (x_X5_endAttemptIfOver_1 X) (r_X0_endingWith X))) gX5_endAttemptIfOver_X6_addEnding_n99 (List.mem_of_getElem? (i := 69) rfl) rfl (List.mem_of_getElem? (i := 36) rfl) (List.mem_of_getElem? (i := 35) rfl) (List.mem_of_getElem? (i := 37) rfl) (by decide +kernel) ⟨by decide, by decide⟩ ⟨rfl, rfl⟩ (kb := 4) rfl (q0 := 0) (ci := 6) rfl rfl rfl rfl hl.1 rfl (Nat.le_of_ble_eq_true rfl) ⟨Nat.zero_le _, Nat.zero_le _⟩ dX5_endAttemptIfOver_42 (fun H locs hP hD hS => ?_)
    refine lv_aload_n hx hb dX5_endAttemptIfOver_45 rfl (lv_at hl 1 rfl) ?_
    refine jget (ci := 5) (C := RX5) (T := TX5) (N := 5) (v := .ref (b 3)) hx hb hts hown hE hP hu5 rfl (kb := 0) rfl (q0 := 0) rfl 1 (by decide) (List.mem_of_getElem? (i := 1) rfl) rfl rfl dX5_endAttemptIfOver_46 ?_
    refine lv_iconst (v := 0) hx hb dX5_endAttemptIfOver_49 (by decide) ?_
    refine jputN (ci := 0) (C := RX0) (T := TX0) (N := 5) (ty := .boolean) (bs' := stB y b (sv 3 (x_X5_endAttemptIfOver_2 X) (upd (X 3) 0 0))) hx hb hts hown hE hP hD hS hu0 tyX0 tyX0_ok nmX0 rfl (kb := 2) rfl (q0 := 0) rfl 0 (by decide) (List.mem_of_getElem? (i := 23) rfl) rfl rfl rfl (by decide) (by decide) (Nat.le_of_ble_eq_true rfl) ((show ∀ (Xg1 : Nat → Nat → Int32), List.set (stB y b Xg1) 2 (List.set (attW b Xg1) 0 (b 3, .inr (0, List.set [.int (Xg1 3 0), .int (Xg1 3 1), .int (Xg1 3 2), .int (Xg1 3 3), .int (Xg1 3 4)] 0 (.int 0)))) = stB y b (sv 3 Xg1 (upd (Xg1 3) 0 0)) from fun _ => rfl) (x_X5_endAttemptIfOver_2 X)) dX5_endAttemptIfOver_50 (fun H locs hP hD hS => ?_)
    refine lv_iload_n hx hb dX5_endAttemptIfOver_53 rfl (lv_at hl 0 rfl) ?_
    refine lv_if_eq (tgt := 65) hx hb dX5_endAttemptIfOver_54 (by decide) (fun c2 => ?_) (fun c2 => ?_)
    · exact jV_ret hx hb hr hlocks hP hS dX5_endAttemptIfOver_65 (stB_ext (show (X 0) = (X 0) from rfl) (show (X 1) = (m_X5_endAttemptIfOver_X_1 X) by rw [m_X5_endAttemptIfOver_X_1, if_neg c1, if_pos c2]) (show (X 2) = (X 2) from rfl) (show (upd (X 3) 0 0) = (m_X5_endAttemptIfOver_X_3 X) by rw [m_X5_endAttemptIfOver_X_3, if_neg c1, if_pos c2]) (show ((x_X5_endAttemptIfOver_2 X) 4) = (m_X5_endAttemptIfOver_X_4 X) by rw [m_X5_endAttemptIfOver_X_4, if_neg c1, if_pos c2]) (show ((x_X5_endAttemptIfOver_2 X) 5) = (m_X5_endAttemptIfOver_X_5 X) by rw [m_X5_endAttemptIfOver_X_5, if_neg c1, if_pos c2]) (show (X 6) = (X 6) from rfl) (show ((x_X5_endAttemptIfOver_2 X) 7) = (m_X5_endAttemptIfOver_X_7 X) by rw [m_X5_endAttemptIfOver_X_7, if_neg c1, if_pos c2]))
    · refine lv_aload_n hx hb dX5_endAttemptIfOver_57 rfl (lv_at hl 1 rfl) ?_
      refine jget (ci := 5) (C := RX5) (T := TX5) (N := 5) (v := .ref (b 1)) hx hb hts hown hE hP hu5 rfl (kb := 0) rfl (q0 := 0) rfl 0 (by decide) (List.mem_of_getElem? (i := 2) rfl) rfl rfl dX5_endAttemptIfOver_58 ?_
      refine lv_iconst (v := 0) hx hb dX5_endAttemptIfOver_61 (by decide) ?_
      refine jputN (ci := 1) (C := RX1) (T := TX1) (N := 9) (ty := .boolean) (bs' := stB y b (sv 1 (sv 3 (x_X5_endAttemptIfOver_2 X) (upd (X 3) 0 0)) (upd (X 1) 7 0))) hx hb hts hown hE hP hD hS hu1 tyX1 tyX1_ok nmX1 rfl (kb := 1) rfl (q0 := 0) rfl 7 (by decide) (List.mem_of_getElem? (i := 16) rfl) rfl rfl rfl (by decide) (by decide) (Nat.le_of_ble_eq_true rfl) ((show ∀ (Xg1 : Nat → Nat → Int32) (fg2 : Nat → Int32), List.set (stB y b (sv 3 Xg1 fg2)) 1 (List.set (engW y b (sv 3 Xg1 fg2)) 0 (b 1, .inr (1, List.set [.ref (b 2), .int ((sv 3 Xg1 fg2) 1 1), .int ((sv 3 Xg1 fg2) 1 2), .int ((sv 3 Xg1 fg2) 1 3), .int ((sv 3 Xg1 fg2) 1 4), .int ((sv 3 Xg1 fg2) 1 5), .int ((sv 3 Xg1 fg2) 1 6), .int ((sv 3 Xg1 fg2) 1 7), .int ((sv 3 Xg1 fg2) 1 8)] 7 (.int 0)))) = stB y b (sv 1 (sv 3 Xg1 fg2) (upd (Xg1 1) 7 0)) from fun _ _ => rfl) (x_X5_endAttemptIfOver_2 X) (upd (X 3) 0 0)) dX5_endAttemptIfOver_62 (fun H locs hP hD hS => ?_)
      exact jV_ret hx hb hr hlocks hP hS dX5_endAttemptIfOver_65 (stB_ext (show (X 0) = (X 0) from rfl) (show (upd (X 1) 7 0) = (m_X5_endAttemptIfOver_X_1 X) by rw [m_X5_endAttemptIfOver_X_1, if_neg c1, if_neg c2]) (show (X 2) = (X 2) from rfl) (show (upd (X 3) 0 0) = (m_X5_endAttemptIfOver_X_3 X) by rw [m_X5_endAttemptIfOver_X_3, if_neg c1, if_neg c2]) (show ((x_X5_endAttemptIfOver_2 X) 4) = (m_X5_endAttemptIfOver_X_4 X) by rw [m_X5_endAttemptIfOver_X_4, if_neg c1, if_neg c2]) (show ((x_X5_endAttemptIfOver_2 X) 5) = (m_X5_endAttemptIfOver_X_5 X) by rw [m_X5_endAttemptIfOver_X_5, if_neg c1, if_neg c2]) (show (X 6) = (X 6) from rfl) (show ((x_X5_endAttemptIfOver_2 X) 7) = (m_X5_endAttemptIfOver_X_7 X) by rw [m_X5_endAttemptIfOver_X_7, if_neg c1, if_neg c2]))
  · exact jV_ret hx hb hr hlocks hP hS dX5_endAttemptIfOver_17 (stB_ext (show (X 0) = (X 0) from rfl) (show (X 1) = (m_X5_endAttemptIfOver_X_1 X) by rw [m_X5_endAttemptIfOver_X_1, if_pos c1]) (show (X 2) = (X 2) from rfl) (show (X 3) = (m_X5_endAttemptIfOver_X_3 X) by rw [m_X5_endAttemptIfOver_X_3, if_pos c1]) (show (X 4) = (m_X5_endAttemptIfOver_X_4 X) by rw [m_X5_endAttemptIfOver_X_4, if_pos c1]) (show (X 5) = (m_X5_endAttemptIfOver_X_5 X) by rw [m_X5_endAttemptIfOver_X_5, if_pos c1]) (show (X 6) = (X 6) from rfl) (show (X 7) = (m_X5_endAttemptIfOver_X_7 X) by rw [m_X5_endAttemptIfOver_X_7, if_pos c1]))
end
section
def x_X5_passTick_1 (X : Nat → Nat → Int32) : Nat → Nat → Int32 := sv 1 (sv 0 X (upd (X 0) 4 (((X 0) 4) + 1))) (m_X1_passTick_X_1 (sv 0 X (upd (X 0) 4 (((X 0) 4) + 1))))
def x_X5_passTick_2 (X : Nat → Nat → Int32) : Nat → Nat → Int32 := sv 6 (x_X5_passTick_1 X) (m_X6_addTick_X_6 (x_X5_passTick_1 X) ((X 1) 8))
def x_X5_passTick_3 (X : Nat → Nat → Int32) : Nat → Nat → Int32 := sv 3 (x_X5_passTick_2 X) (m_X0_addTick_X_3 (x_X5_passTick_2 X) ((X 1) 1))
def x_X5_passTick_4 (X : Nat → Nat → Int32) : Nat → Nat → Int32 := sv 7 (sv 5 (sv 4 (sv 3 (sv 1 (x_X5_passTick_3 X) (m_X5_endAttemptIfOver_X_1 (x_X5_passTick_3 X))) (m_X5_endAttemptIfOver_X_3 (x_X5_passTick_3 X))) (m_X5_endAttemptIfOver_X_4 (x_X5_passTick_3 X))) (m_X5_endAttemptIfOver_X_5 (x_X5_passTick_3 X))) (m_X5_endAttemptIfOver_X_7 (x_X5_passTick_3 X))
def m_X5_passTick_X_0 (X : Nat → Nat → Int32) : Nat → Int32 := (if ((X 3) 0) = 0 then ((x_X5_passTick_2 X) 0) else ((x_X5_passTick_4 X) 0))
def m_X5_passTick_X_1 (X : Nat → Nat → Int32) : Nat → Int32 := (if ((X 3) 0) = 0 then ((x_X5_passTick_2 X) 1) else ((x_X5_passTick_4 X) 1))
def m_X5_passTick_X_3 (X : Nat → Nat → Int32) : Nat → Int32 := (if ((X 3) 0) = 0 then (X 3) else ((x_X5_passTick_4 X) 3))
def m_X5_passTick_X_4 (X : Nat → Nat → Int32) : Nat → Int32 := (if ((X 3) 0) = 0 then (X 4) else ((x_X5_passTick_4 X) 4))
def m_X5_passTick_X_5 (X : Nat → Nat → Int32) : Nat → Int32 := (if ((X 3) 0) = 0 then (X 5) else ((x_X5_passTick_4 X) 5))
def m_X5_passTick_X_6 (X : Nat → Nat → Int32) : Nat → Int32 := (if ((X 3) 0) = 0 then ((x_X5_passTick_2 X) 6) else ((x_X5_passTick_4 X) 6))
def m_X5_passTick_X_7 (X : Nat → Nat → Int32) : Nat → Int32 := (if ((X 3) 0) = 0 then (X 7) else ((x_X5_passTick_4 X) 7))
set_option maxHeartbeats 4000000 in
set_option maxRecDepth 100000 in
theorem ct_X5_passTick (l : Launch) (D : va_G) (y : Nat → ClassId) (b : Nat → Nat) (X : Nat → Nat → Int32)  : jV l D y yX5_passTick wsX5_passTick ({ frames := 3, cells := 0, slots := 0, locals := 62 } : Room) [.ref (b 0)] (stB y b X) (stB y b (sv 7 (sv 6 (sv 5 (sv 4 (sv 3 (sv 1 (sv 0 X (m_X5_passTick_X_0 X)) (m_X5_passTick_X_1 X)) (m_X5_passTick_X_3 X)) (m_X5_passTick_X_4 X)) (m_X5_passTick_X_5 X)) (m_X5_passTick_X_6 X)) (m_X5_passTick_X_7 X))) := by
  refine jV_of (cc := cX5_passTick) (maxL := 3) (by decide) rfl (Nat.le_of_ble_eq_true rfl) ?_
  intro p e s m below meth c A ls hx hb hr hlocks hml hown hts hE hZ hA hP hD hS hl
  have hown : s.vm.findClass RX5 = some m.cls := hown
  have hl : lv_has ls 3 [(0, .ref (b 0))] := hl
  have hu0 : ∀ w ∈ wsX00, w ∈ wsX5_passTick := fun _ h => List.mem_cons_of_mem _ (List.mem_append_left _ (List.mem_append_left _ (List.mem_append_right _ h)))
  have hu1 : ∀ w ∈ wsX10, w ∈ wsX5_passTick := fun _ h => List.mem_cons_of_mem _ (List.mem_append_left _ (List.mem_append_left _ (List.mem_append_left _ (List.mem_append_right _ h))))
  have hu5 : ∀ w ∈ wsX50, w ∈ wsX5_passTick := fun _ h => List.mem_cons_of_mem _ (List.mem_append_left _ (List.mem_append_left _ (List.mem_append_left _ (List.mem_append_left _ (List.mem_append_right _ h)))))
  refine lv_aload_n hx hb dX5_passTick_0 rfl (lv_at hl 0 rfl) ?_
  refine jget (ci := 5) (C := RX5) (T := TX5) (N := 5) (v := .ref (b 1)) hx hb hts hown hE hP hu5 rfl (kb := 0) rfl (q0 := 0) rfl 0 (by decide) (List.mem_of_getElem? (i := 1) rfl) rfl rfl dX5_passTick_1 ?_
  refine jgetN (ci := 1) (C := RX1) (T := TX1) (N := 9) (v := .int ((X 1) 1)) hx hb hts hown hE hP hu1 rfl (kb := 1) rfl (q0 := 0) rfl 1 (by decide) (List.mem_of_getElem? (i := 6) rfl) rfl rfl dX5_passTick_4 ?_
  refine lv_istore_n (lv' := [(1, .int ((X 1) 1)), (0, .ref (b 0))]) hx hb dX5_passTick_7 rfl hl (by decide) rfl (fun ls hl => ?_)
  refine lv_aload_n hx hb dX5_passTick_8 rfl (lv_at hl 1 rfl) ?_
  refine jget (ci := 5) (C := RX5) (T := TX5) (N := 5) (v := .ref (b 1)) hx hb hts hown hE hP hu5 rfl (kb := 0) rfl (q0 := 0) rfl 0 (by decide) (List.mem_of_getElem? (i := 1) rfl) rfl rfl dX5_passTick_9 ?_
  refine jgetN (ci := 1) (C := RX1) (T := TX1) (N := 9) (v := .int ((X 1) 8)) hx hb hts hown hE hP hu1 rfl (kb := 1) rfl (q0 := 0) rfl 8 (by decide) (List.mem_of_getElem? (i := 21) rfl) rfl rfl dX5_passTick_12 ?_
  refine lv_istore_n (lv' := [(2, .int ((X 1) 8)), (1, .int ((X 1) 1)), (0, .ref (b 0))]) hx hb dX5_passTick_15 rfl hl (by decide) rfl (fun ls hl => ?_)
  refine lv_aload_n hx hb dX5_passTick_16 rfl (lv_at hl 2 rfl) ?_
  refine lv_dup hx hb dX5_passTick_17 rfl ?_
  refine jget (ci := 5) (C := RX5) (T := TX5) (N := 5) (v := .int ((X 0) 4)) hx hb hts hown hE hP hu5 rfl (kb := 0) rfl (q0 := 0) rfl 4 (by decide) (List.mem_of_getElem? (i := 2) rfl) rfl rfl dX5_passTick_18 ?_
  refine lv_iconst (v := 1) hx hb dX5_passTick_21 (by decide) ?_
  refine lv_iadd hx hb dX5_passTick_22 ?_
  refine jput (ci := 5) (C := RX5) (T := TX5) (N := 5) (ty := .int) (bs' := stB y b (sv 0 X (upd (X 0) 4 (((X 0) 4) + 1)))) hx hb hts hown hE hP hD hS hu5 tyX5 tyX5_ok nmX5 rfl (kb := 0) rfl (q0 := 0) rfl 4 (by decide) (List.mem_of_getElem? (i := 2) rfl) rfl rfl rfl rfl rfl (Nat.le_of_ble_eq_true rfl) ((show ∀ (vg1 : Int32), List.set (stB y b X) 0 (List.set (stoW b X) 0 (b 0, .inr (5, List.set [.ref (b 1), .ref (b 3), .ref (b 4), .ref (b 6), .int (X 0 4)] 4 (.int vg1)))) = stB y b (sv 0 X (upd (X 0) 4 vg1)) from fun _ => rfl) (((X 0) 4) + 1)) dX5_passTick_23 (fun H locs hP hD hS => ?_)
  refine lv_aload_n hx hb dX5_passTick_26 rfl (lv_at hl 2 rfl) ?_
  refine jget (ci := 5) (C := RX5) (T := TX5) (N := 5) (v := .ref (b 1)) hx hb hts hown hE hP hu5 rfl (kb := 0) rfl (q0 := 0) rfl 0 (by decide) (List.mem_of_getElem? (i := 1) rfl) rfl rfl dX5_passTick_27 ?_
  refine jVNv (n := 0) (is := [1]) (bs' := stB y b (x_X5_passTick_1 X)) hx hb hml hown hts hE hZ hA hP hD hS (ct_X1_passTick l D y b (sv 0 X (upd (X 0) 4 (((X 0) 4) + 1)))) rfl rfl ((show ∀ (fg1 : Nat → Int32) (fg2 : Nat → Int32), List.map (List.map Prod.fst) ([engW y b (sv 1 (sv 0 X fg1) fg2)]) = List.map (List.map Prod.fst) ([engW y b (sv 0 X fg1)]) from fun _ _ => rfl) (upd (X 0) 4 (((X 0) 4) + 1)) (m_X1_passTick_X_1 (sv 0 X (upd (X 0) 4 (((X 0) 4) + 1))))) ((show ∀ (fg1 : Nat → Int32) (fg2 : Nat → Int32), jPut (stB y b (sv 0 X fg1)) [1] ([engW y b (sv 1 (sv 0 X fg1) fg2)]) = stB y b (sv 1 (sv 0 X fg1) fg2) from fun _ _ => rfl) (upd (X 0) 4 (((X 0) 4) + 1)) (m_X1_passTick_X_1 (sv 0 X (upd (X 0) 4 (((X 0) 4) + 1))))) gX5_passTick_X1_passTick_n80 (List.mem_of_getElem? (i := 58) rfl) rfl (List.mem_of_getElem? (i := 6) rfl) (List.mem_of_getElem? (i := 5) rfl) (List.mem_of_getElem? (i := 7) rfl) (by decide +kernel) ⟨by decide, by decide⟩ ⟨rfl, rfl⟩ (kb := 1) rfl (q0 := 0) (ci := 1) rfl rfl rfl rfl hl.1 rfl (Nat.le_of_ble_eq_true rfl) ⟨Nat.zero_le _, Nat.zero_le _⟩ dX5_passTick_30 (fun H locs hP hD hS => ?_)
  refine lv_aload_n hx hb dX5_passTick_33 rfl (lv_at hl 2 rfl) ?_
  refine jget (ci := 5) (C := RX5) (T := TX5) (N := 5) (v := .ref (b 6)) hx hb hts hown hE hP hu5 rfl (kb := 0) rfl (q0 := 0) rfl 3 (by decide) (List.mem_of_getElem? (i := 3) rfl) rfl rfl dX5_passTick_34 ?_
  refine lv_aload_n hx hb dX5_passTick_37 rfl (lv_at hl 2 rfl) ?_
  refine jget (ci := 5) (C := RX5) (T := TX5) (N := 5) (v := .ref (b 1)) hx hb hts hown hE hP hu5 rfl (kb := 0) rfl (q0 := 0) rfl 0 (by decide) (List.mem_of_getElem? (i := 1) rfl) rfl rfl dX5_passTick_38 ?_
  refine lv_iload_n hx hb dX5_passTick_41 rfl (lv_at hl 0 rfl) ?_
  refine jVNv (n := 2) (is := [1, 4]) (bs' := stB y b (x_X5_passTick_2 X)) hx hb hml hown hts hE hZ hA hP hD hS (ct_X6_addTick l D y b (x_X5_passTick_1 X) ((X 1) 8)) rfl rfl ((show ∀ (Xg1 : Nat → Nat → Int32) (fg2 : Nat → Int32), List.map (List.map Prod.fst) ([engW y b (sv 6 Xg1 fg2), talW y b (sv 6 Xg1 fg2)]) = List.map (List.map Prod.fst) ([engW y b Xg1, talW y b Xg1]) from fun _ _ => rfl) (x_X5_passTick_1 X) (m_X6_addTick_X_6 (x_X5_passTick_1 X) ((X 1) 8))) ((show ∀ (Xg1 : Nat → Nat → Int32) (fg2 : Nat → Int32), jPut (stB y b Xg1) [1, 4] ([engW y b (sv 6 Xg1 fg2), talW y b (sv 6 Xg1 fg2)]) = stB y b (sv 6 Xg1 fg2) from fun _ _ => rfl) (x_X5_passTick_1 X) (m_X6_addTick_X_6 (x_X5_passTick_1 X) ((X 1) 8))) gX5_passTick_X6_addTick_n81 (List.mem_of_getElem? (i := 59) rfl) rfl (List.mem_of_getElem? (i := 50) rfl) (List.mem_of_getElem? (i := 49) rfl) (List.mem_of_getElem? (i := 51) rfl) (by decide +kernel) ⟨by decide, by decide⟩ ⟨rfl, rfl⟩ (kb := 4) rfl (q0 := 0) (ci := 6) rfl rfl rfl rfl hl.1 rfl (Nat.le_of_ble_eq_true rfl) ⟨Nat.zero_le _, Nat.zero_le _⟩ dX5_passTick_42 (fun H locs hP hD hS => ?_)
  refine lv_aload_n hx hb dX5_passTick_45 rfl (lv_at hl 2 rfl) ?_
  refine jget (ci := 5) (C := RX5) (T := TX5) (N := 5) (v := .ref (b 3)) hx hb hts hown hE hP hu5 rfl (kb := 0) rfl (q0 := 0) rfl 1 (by decide) (List.mem_of_getElem? (i := 4) rfl) rfl rfl dX5_passTick_46 ?_
  refine jgetN (ci := 0) (C := RX0) (T := TX0) (N := 5) (v := .int ((X 3) 0)) hx hb hts hown hE hP hu0 rfl (kb := 2) rfl (q0 := 0) rfl 0 (by decide) (List.mem_of_getElem? (i := 23) rfl) rfl rfl dX5_passTick_49 ?_
  refine lv_if_eq (tgt := 71) hx hb dX5_passTick_52 (by decide) (fun c1 => ?_) (fun c1 => ?_)
  · exact jV_ret hx hb hr hlocks hP hS dX5_passTick_71 (stB_ext (show ((x_X5_passTick_2 X) 0) = (m_X5_passTick_X_0 X) by rw [m_X5_passTick_X_0, if_pos c1]) (show ((x_X5_passTick_2 X) 1) = (m_X5_passTick_X_1 X) by rw [m_X5_passTick_X_1, if_pos c1]) (show (X 2) = (X 2) from rfl) (show (X 3) = (m_X5_passTick_X_3 X) by rw [m_X5_passTick_X_3, if_pos c1]) (show (X 4) = (m_X5_passTick_X_4 X) by rw [m_X5_passTick_X_4, if_pos c1]) (show (X 5) = (m_X5_passTick_X_5 X) by rw [m_X5_passTick_X_5, if_pos c1]) (show ((x_X5_passTick_2 X) 6) = (m_X5_passTick_X_6 X) by rw [m_X5_passTick_X_6, if_pos c1]) (show (X 7) = (m_X5_passTick_X_7 X) by rw [m_X5_passTick_X_7, if_pos c1]))
  · refine lv_aload_n hx hb dX5_passTick_55 rfl (lv_at hl 2 rfl) ?_
    refine jget (ci := 5) (C := RX5) (T := TX5) (N := 5) (v := .ref (b 3)) hx hb hts hown hE hP hu5 rfl (kb := 0) rfl (q0 := 0) rfl 1 (by decide) (List.mem_of_getElem? (i := 4) rfl) rfl rfl dX5_passTick_56 ?_
    refine lv_aload_n hx hb dX5_passTick_59 rfl (lv_at hl 2 rfl) ?_
    refine jget (ci := 5) (C := RX5) (T := TX5) (N := 5) (v := .ref (b 1)) hx hb hts hown hE hP hu5 rfl (kb := 0) rfl (q0 := 0) rfl 0 (by decide) (List.mem_of_getElem? (i := 1) rfl) rfl rfl dX5_passTick_60 ?_
    refine lv_iload_n hx hb dX5_passTick_63 rfl (lv_at hl 1 rfl) ?_
    refine jVNv (n := 2) (is := [1, 2]) (bs' := stB y b (x_X5_passTick_3 X)) hx hb hml hown hts hE hZ hA hP hD hS (ct_X0_addTick l D y b (x_X5_passTick_2 X) ((X 1) 1)) rfl rfl ((show ∀ (Xg1 : Nat → Nat → Int32) (fg2 : Nat → Int32), List.map (List.map Prod.fst) ([engW y b (sv 3 Xg1 fg2), attW b (sv 3 Xg1 fg2)]) = List.map (List.map Prod.fst) ([engW y b Xg1, attW b Xg1]) from fun _ _ => rfl) (x_X5_passTick_2 X) (m_X0_addTick_X_3 (x_X5_passTick_2 X) ((X 1) 1))) ((show ∀ (Xg1 : Nat → Nat → Int32) (fg2 : Nat → Int32), jPut (stB y b Xg1) [1, 2] ([engW y b (sv 3 Xg1 fg2), attW b (sv 3 Xg1 fg2)]) = stB y b (sv 3 Xg1 fg2) from fun _ _ => rfl) (x_X5_passTick_2 X) (m_X0_addTick_X_3 (x_X5_passTick_2 X) ((X 1) 1))) gX5_passTick_X0_addTick_n85 (List.mem_of_getElem? (i := 63) rfl) rfl (List.mem_of_getElem? (i := 66) rfl) (List.mem_of_getElem? (i := 65) rfl) (List.mem_of_getElem? (i := 67) rfl) (by decide +kernel) ⟨by decide, by decide⟩ ⟨rfl, rfl⟩ (kb := 2) rfl (q0 := 0) (ci := 0) rfl rfl rfl rfl hl.1 rfl (Nat.le_of_ble_eq_true rfl) ⟨Nat.zero_le _, Nat.zero_le _⟩ dX5_passTick_64 (fun H locs hP hD hS => ?_)
    refine lv_aload_n hx hb dX5_passTick_67 rfl (lv_at hl 2 rfl) ?_
    refine jVv (n := 0) (is := [0, 1, 2, 3, 4]) (bs' := stB y b (x_X5_passTick_4 X)) hx hb hml hown hts hE hZ hA hP hD hS (ct_X5_endAttemptIfOver l D y b (x_X5_passTick_3 X)) rfl rfl ((show ∀ (Xg1 : Nat → Nat → Int32) (fg2 : Nat → Int32) (fg3 : Nat → Int32) (fg4 : Nat → Int32) (fg5 : Nat → Int32) (fg6 : Nat → Int32), List.map (List.map Prod.fst) (stB y b (sv 7 (sv 5 (sv 4 (sv 3 (sv 1 Xg1 fg2) fg3) fg4) fg5) fg6)) = List.map (List.map Prod.fst) (stB y b Xg1) from fun _ _ _ _ _ _ => rfl) (x_X5_passTick_3 X) (m_X5_endAttemptIfOver_X_1 (x_X5_passTick_3 X)) (m_X5_endAttemptIfOver_X_3 (x_X5_passTick_3 X)) (m_X5_endAttemptIfOver_X_4 (x_X5_passTick_3 X)) (m_X5_endAttemptIfOver_X_5 (x_X5_passTick_3 X)) (m_X5_endAttemptIfOver_X_7 (x_X5_passTick_3 X))) ((show ∀ (Xg1 : Nat → Nat → Int32) (fg2 : Nat → Int32) (fg3 : Nat → Int32) (fg4 : Nat → Int32) (fg5 : Nat → Int32) (fg6 : Nat → Int32), jPut (stB y b Xg1) [0, 1, 2, 3, 4] (stB y b (sv 7 (sv 5 (sv 4 (sv 3 (sv 1 Xg1 fg2) fg3) fg4) fg5) fg6)) = stB y b (sv 7 (sv 5 (sv 4 (sv 3 (sv 1 Xg1 fg2) fg3) fg4) fg5) fg6) from fun _ _ _ _ _ _ => rfl) (x_X5_passTick_3 X) (m_X5_endAttemptIfOver_X_1 (x_X5_passTick_3 X)) (m_X5_endAttemptIfOver_X_3 (x_X5_passTick_3 X)) (m_X5_endAttemptIfOver_X_4 (x_X5_passTick_3 X)) (m_X5_endAttemptIfOver_X_5 (x_X5_passTick_3 X)) (m_X5_endAttemptIfOver_X_7 (x_X5_passTick_3 X))) gX5_passTick_X5_endAttemptIfOver rfl (by decide +kernel) ⟨by decide, by decide⟩ ⟨rfl, rfl⟩ (kb := 0) rfl (q0 := 0) (ci := 5) rfl rfl rfl rfl hl.1 rfl (Nat.le_of_ble_eq_true rfl) ⟨Nat.zero_le _, Nat.zero_le _⟩ dX5_passTick_68 (fun H locs hP hD hS => ?_)
    exact jV_ret hx hb hr hlocks hP hS dX5_passTick_71 (stB_ext (show ((x_X5_passTick_4 X) 0) = (m_X5_passTick_X_0 X) by rw [m_X5_passTick_X_0, if_neg c1]) (show ((x_X5_passTick_4 X) 1) = (m_X5_passTick_X_1 X) by rw [m_X5_passTick_X_1, if_neg c1]) (show (X 2) = (X 2) from rfl) (show ((x_X5_passTick_4 X) 3) = (m_X5_passTick_X_3 X) by rw [m_X5_passTick_X_3, if_neg c1]) (show ((x_X5_passTick_4 X) 4) = (m_X5_passTick_X_4 X) by rw [m_X5_passTick_X_4, if_neg c1]) (show ((x_X5_passTick_4 X) 5) = (m_X5_passTick_X_5 X) by rw [m_X5_passTick_X_5, if_neg c1]) (show ((x_X5_passTick_4 X) 6) = (m_X5_passTick_X_6 X) by rw [m_X5_passTick_X_6, if_neg c1]) (show ((x_X5_passTick_4 X) 7) = (m_X5_passTick_X_7 X) by rw [m_X5_passTick_X_7, if_neg c1]))
end
