section
/-- a private method of a class that the tables say can be made, by its rows of tables_1 -/
def lw_okq (q : MethodName × Nat) : Prop := (q.1.cls ≠ "java/lang/invoke/MethodHandle" ∧ q.1.cls ≠ "java/lang/invoke/VarHandle") ∧ Cond.instantiable q.1.cls q.2 ∈ tables_1 ∧ Cond.privateMethod q.1 ∈ tables_1 ∧ Cond.instanceMethod q.1 ∈ tables_1
theorem lw_p0 : lw_okq (⟨"FlashLanes$Chip", "startAnew", "()V"⟩, 16) := ⟨⟨by decide +kernel, by decide +kernel⟩, List.mem_of_getElem? (i := 68) (by decide +kernel), List.mem_of_getElem? (i := 102) (by decide +kernel), List.mem_of_getElem? (i := 103) (by decide +kernel)⟩
theorem lw_p1 : lw_okq (⟨"FlashLanes$Chip", "eraseFrom", "(II)V"⟩, 16) := ⟨⟨by decide +kernel, by decide +kernel⟩, List.mem_of_getElem? (i := 68) (by decide +kernel), List.mem_of_getElem? (i := 107) (by decide +kernel), List.mem_of_getElem? (i := 108) (by decide +kernel)⟩
theorem lw_p2 : lw_okq (⟨"FlashLanes$Chip", "setByte", "(II)V"⟩, 16) := ⟨⟨by decide +kernel, by decide +kernel⟩, List.mem_of_getElem? (i := 68) (by decide +kernel), List.mem_of_getElem? (i := 111) (by decide +kernel), List.mem_of_getElem? (i := 112) (by decide +kernel)⟩
theorem lw_p3 : lw_okq (⟨"FlashLanes$Text", "readItem", "()Z"⟩, 6) := ⟨⟨by decide +kernel, by decide +kernel⟩, List.mem_of_getElem? (i := 16) (by decide +kernel), List.mem_of_getElem? (i := 210) (by decide +kernel), List.mem_of_getElem? (i := 211) (by decide +kernel)⟩
theorem lw_p4 : lw_okq (⟨"FlashLanes$Text", "nextLetter", "()I"⟩, 6) := ⟨⟨by decide +kernel, by decide +kernel⟩, List.mem_of_getElem? (i := 16) (by decide +kernel), List.mem_of_getElem? (i := 214) (by decide +kernel), List.mem_of_getElem? (i := 215) (by decide +kernel)⟩
theorem lw_p5 : lw_okq (⟨"FlashLanes$Text", "readParts", "()Z"⟩, 6) := ⟨⟨by decide +kernel, by decide +kernel⟩, List.mem_of_getElem? (i := 16) (by decide +kernel), List.mem_of_getElem? (i := 218) (by decide +kernel), List.mem_of_getElem? (i := 219) (by decide +kernel)⟩
theorem lw_p6 : lw_okq (⟨"FlashLanes$Text", "readNumber", "()I"⟩, 6) := ⟨⟨by decide +kernel, by decide +kernel⟩, List.mem_of_getElem? (i := 16) (by decide +kernel), List.mem_of_getElem? (i := 222) (by decide +kernel), List.mem_of_getElem? (i := 223) (by decide +kernel)⟩
theorem lw_p7 : lw_okq (⟨"FlashLanes$Text", "skip", "(I)Z"⟩, 6) := ⟨⟨by decide +kernel, by decide +kernel⟩, List.mem_of_getElem? (i := 16) (by decide +kernel), List.mem_of_getElem? (i := 229) (by decide +kernel), List.mem_of_getElem? (i := 230) (by decide +kernel)⟩
theorem lw_p8 : lw_okq (⟨"FlashLanes$Text", "readTicks", "()Z"⟩, 6) := ⟨⟨by decide +kernel, by decide +kernel⟩, List.mem_of_getElem? (i := 16) (by decide +kernel), List.mem_of_getElem? (i := 237) (by decide +kernel), List.mem_of_getElem? (i := 238) (by decide +kernel)⟩
theorem lw_p9 : lw_okq (⟨"FlashLanes$Text", "readCheck", "()Z"⟩, 6) := ⟨⟨by decide +kernel, by decide +kernel⟩, List.mem_of_getElem? (i := 16) (by decide +kernel), List.mem_of_getElem? (i := 245) (by decide +kernel), List.mem_of_getElem? (i := 246) (by decide +kernel)⟩
theorem lw_p10 : lw_okq (⟨"FlashLanes$Chip", "answerToNext", "()I"⟩, 16) := ⟨⟨by decide +kernel, by decide +kernel⟩, List.mem_of_getElem? (i := 68) (by decide +kernel), List.mem_of_getElem? (i := 324) (by decide +kernel), List.mem_of_getElem? (i := 325) (by decide +kernel)⟩
theorem lw_p11 : lw_okq (⟨"FlashLanes$Chip", "isSuspended", "()Z"⟩, 16) := ⟨⟨by decide +kernel, by decide +kernel⟩, List.mem_of_getElem? (i := 68) (by decide +kernel), List.mem_of_getElem? (i := 344) (by decide +kernel), List.mem_of_getElem? (i := 345) (by decide +kernel)⟩
theorem lw_p12 : lw_okq (⟨"FlashLanes$Chip", "contentForNext", "()I"⟩, 16) := ⟨⟨by decide +kernel, by decide +kernel⟩, List.mem_of_getElem? (i := 68) (by decide +kernel), List.mem_of_getElem? (i := 348) (by decide +kernel), List.mem_of_getElem? (i := 349) (by decide +kernel)⟩
theorem lw_p13 : lw_okq (⟨"FlashLanes$Wires", "setInPage", "(II)V"⟩, 5) := ⟨⟨by decide +kernel, by decide +kernel⟩, List.mem_of_getElem? (i := 76) (by decide +kernel), List.mem_of_getElem? (i := 378) (by decide +kernel), List.mem_of_getElem? (i := 379) (by decide +kernel)⟩
theorem lw_p14 : lw_okq (⟨"FlashLanes$Chip", "suspend", "()V"⟩, 16) := ⟨⟨by decide +kernel, by decide +kernel⟩, List.mem_of_getElem? (i := 68) (by decide +kernel), List.mem_of_getElem? (i := 391) (by decide +kernel), List.mem_of_getElem? (i := 392) (by decide +kernel)⟩
theorem lw_p15 : lw_okq (⟨"FlashLanes$Chip", "fallIdle", "()V"⟩, 16) := ⟨⟨by decide +kernel, by decide +kernel⟩, List.mem_of_getElem? (i := 68) (by decide +kernel), List.mem_of_getElem? (i := 395) (by decide +kernel), List.mem_of_getElem? (i := 396) (by decide +kernel)⟩
def lw_privs_1 : List (MethodName × Nat) := [(⟨"FlashLanes$Chip", "startAnew", "()V"⟩, 16), (⟨"FlashLanes$Chip", "eraseFrom", "(II)V"⟩, 16), (⟨"FlashLanes$Chip", "setByte", "(II)V"⟩, 16), (⟨"FlashLanes$Text", "readItem", "()Z"⟩, 6), (⟨"FlashLanes$Text", "nextLetter", "()I"⟩, 6), (⟨"FlashLanes$Text", "readParts", "()Z"⟩, 6), (⟨"FlashLanes$Text", "readNumber", "()I"⟩, 6), (⟨"FlashLanes$Text", "skip", "(I)Z"⟩, 6), (⟨"FlashLanes$Text", "readTicks", "()Z"⟩, 6), (⟨"FlashLanes$Text", "readCheck", "()Z"⟩, 6), (⟨"FlashLanes$Chip", "answerToNext", "()I"⟩, 16), (⟨"FlashLanes$Chip", "isSuspended", "()Z"⟩, 16), (⟨"FlashLanes$Chip", "contentForNext", "()I"⟩, 16), (⟨"FlashLanes$Wires", "setInPage", "(II)V"⟩, 5), (⟨"FlashLanes$Chip", "suspend", "()V"⟩, 16), (⟨"FlashLanes$Chip", "fallIdle", "()V"⟩, 16)]
theorem lw_r1 : ∀ q ∈ lw_privs_1, lw_okq q := List.forall_mem_cons.mpr ⟨lw_p0, List.forall_mem_cons.mpr ⟨lw_p1, List.forall_mem_cons.mpr ⟨lw_p2, List.forall_mem_cons.mpr ⟨lw_p3, List.forall_mem_cons.mpr ⟨lw_p4, List.forall_mem_cons.mpr ⟨lw_p5, List.forall_mem_cons.mpr ⟨lw_p6, List.forall_mem_cons.mpr ⟨lw_p7, List.forall_mem_cons.mpr ⟨lw_p8, List.forall_mem_cons.mpr ⟨lw_p9, List.forall_mem_cons.mpr ⟨lw_p10, List.forall_mem_cons.mpr ⟨lw_p11, List.forall_mem_cons.mpr ⟨lw_p12, List.forall_mem_cons.mpr ⟨lw_p13, List.forall_mem_cons.mpr ⟨lw_p14, List.forall_mem_cons.mpr ⟨lw_p15, fun _ h => absurd h List.not_mem_nil⟩⟩⟩⟩⟩⟩⟩⟩⟩⟩⟩⟩⟩⟩⟩⟩
theorem lw_p16 : lw_okq (⟨"FlashLanes$Chip", "obeyAlone", "(Z)V"⟩, 16) := ⟨⟨by decide +kernel, by decide +kernel⟩, List.mem_of_getElem? (i := 68) (by decide +kernel), List.mem_of_getElem? (i := 399) (by decide +kernel), List.mem_of_getElem? (i := 400) (by decide +kernel)⟩
theorem lw_p17 : lw_okq (⟨"FlashLanes$Chip", "beginAll", "()V"⟩, 16) := ⟨⟨by decide +kernel, by decide +kernel⟩, List.mem_of_getElem? (i := 68) (by decide +kernel), List.mem_of_getElem? (i := 403) (by decide +kernel), List.mem_of_getElem? (i := 404) (by decide +kernel)⟩
theorem lw_p18 : lw_okq (⟨"FlashLanes$Chip", "isAnyGuarded", "()Z"⟩, 16) := ⟨⟨by decide +kernel, by decide +kernel⟩, List.mem_of_getElem? (i := 68) (by decide +kernel), List.mem_of_getElem? (i := 407) (by decide +kernel), List.mem_of_getElem? (i := 408) (by decide +kernel)⟩
theorem lw_p19 : lw_okq (⟨"FlashLanes$Chip", "mayBegin", "(Z)Z"⟩, 16) := ⟨⟨by decide +kernel, by decide +kernel⟩, List.mem_of_getElem? (i := 68) (by decide +kernel), List.mem_of_getElem? (i := 423) (by decide +kernel), List.mem_of_getElem? (i := 424) (by decide +kernel)⟩
theorem lw_p20 : lw_okq (⟨"FlashLanes$Chip", "begin", "(III)V"⟩, 16) := ⟨⟨by decide +kernel, by decide +kernel⟩, List.mem_of_getElem? (i := 68) (by decide +kernel), List.mem_of_getElem? (i := 431) (by decide +kernel), List.mem_of_getElem? (i := 432) (by decide +kernel)⟩
theorem lw_p21 : lw_okq (⟨"FlashLanes$Chip", "resume", "()V"⟩, 16) := ⟨⟨by decide +kernel, by decide +kernel⟩, List.mem_of_getElem? (i := 68) (by decide +kernel), List.mem_of_getElem? (i := 435) (by decide +kernel), List.mem_of_getElem? (i := 436) (by decide +kernel)⟩
theorem lw_p22 : lw_okq (⟨"FlashLanes$Chip", "dropSuspended", "()V"⟩, 16) := ⟨⟨by decide +kernel, by decide +kernel⟩, List.mem_of_getElem? (i := 68) (by decide +kernel), List.mem_of_getElem? (i := 439) (by decide +kernel), List.mem_of_getElem? (i := 440) (by decide +kernel)⟩
theorem lw_p23 : lw_okq (⟨"FlashLanes$Chip", "putBack", "()V"⟩, 16) := ⟨⟨by decide +kernel, by decide +kernel⟩, List.mem_of_getElem? (i := 68) (by decide +kernel), List.mem_of_getElem? (i := 443) (by decide +kernel), List.mem_of_getElem? (i := 444) (by decide +kernel)⟩
theorem lw_p24 : lw_okq (⟨"FlashLanes$Chip", "obeyWithByte", "(I)V"⟩, 16) := ⟨⟨by decide +kernel, by decide +kernel⟩, List.mem_of_getElem? (i := 68) (by decide +kernel), List.mem_of_getElem? (i := 447) (by decide +kernel), List.mem_of_getElem? (i := 448) (by decide +kernel)⟩
theorem lw_p25 : lw_okq (⟨"FlashLanes$Chip", "beginErase", "(I)V"⟩, 16) := ⟨⟨by decide +kernel, by decide +kernel⟩, List.mem_of_getElem? (i := 68) (by decide +kernel), List.mem_of_getElem? (i := 455) (by decide +kernel), List.mem_of_getElem? (i := 456) (by decide +kernel)⟩
theorem lw_p26 : lw_okq (⟨"FlashLanes$Chip", "setLocked", "(IZ)V"⟩, 16) := ⟨⟨by decide +kernel, by decide +kernel⟩, List.mem_of_getElem? (i := 68) (by decide +kernel), List.mem_of_getElem? (i := 459) (by decide +kernel), List.mem_of_getElem? (i := 460) (by decide +kernel)⟩
theorem lw_p27 : lw_okq (⟨"FlashLanes$Chip", "beginProgram", "(I)V"⟩, 16) := ⟨⟨by decide +kernel, by decide +kernel⟩, List.mem_of_getElem? (i := 68) (by decide +kernel), List.mem_of_getElem? (i := 463) (by decide +kernel), List.mem_of_getElem? (i := 464) (by decide +kernel)⟩
theorem lw_p28 : lw_okq (⟨"FlashLanes", "closeBehind", "(III)I"⟩, 5) := ⟨⟨by decide +kernel, by decide +kernel⟩, List.mem_of_getElem? (i := 8) (by decide +kernel), List.mem_of_getElem? (i := 480) (by decide +kernel), List.mem_of_getElem? (i := 481) (by decide +kernel)⟩
theorem lw_p29 : lw_okq (⟨"FlashLanes", "lastKept", "()LFlashLanes$Chip;"⟩, 5) := ⟨⟨by decide +kernel, by decide +kernel⟩, List.mem_of_getElem? (i := 8) (by decide +kernel), List.mem_of_getElem? (i := 534) (by decide +kernel), List.mem_of_getElem? (i := 535) (by decide +kernel)⟩
theorem lw_p30 : lw_okq (⟨"FlashLanesModel", "anew", "()V"⟩, 9) := ⟨⟨by decide +kernel, by decide +kernel⟩, List.mem_of_getElem? (i := 585) (by decide +kernel), List.mem_of_getElem? (i := 594) (by decide +kernel), List.mem_of_getElem? (i := 595) (by decide +kernel)⟩
theorem lw_p31 : lw_okq (⟨"FlashLanesModel", "item", "(I)Z"⟩, 9) := ⟨⟨by decide +kernel, by decide +kernel⟩, List.mem_of_getElem? (i := 585) (by decide +kernel), List.mem_of_getElem? (i := 643) (by decide +kernel), List.mem_of_getElem? (i := 644) (by decide +kernel)⟩
def lw_privs_2 : List (MethodName × Nat) := [(⟨"FlashLanes$Chip", "obeyAlone", "(Z)V"⟩, 16), (⟨"FlashLanes$Chip", "beginAll", "()V"⟩, 16), (⟨"FlashLanes$Chip", "isAnyGuarded", "()Z"⟩, 16), (⟨"FlashLanes$Chip", "mayBegin", "(Z)Z"⟩, 16), (⟨"FlashLanes$Chip", "begin", "(III)V"⟩, 16), (⟨"FlashLanes$Chip", "resume", "()V"⟩, 16), (⟨"FlashLanes$Chip", "dropSuspended", "()V"⟩, 16), (⟨"FlashLanes$Chip", "putBack", "()V"⟩, 16), (⟨"FlashLanes$Chip", "obeyWithByte", "(I)V"⟩, 16), (⟨"FlashLanes$Chip", "beginErase", "(I)V"⟩, 16), (⟨"FlashLanes$Chip", "setLocked", "(IZ)V"⟩, 16), (⟨"FlashLanes$Chip", "beginProgram", "(I)V"⟩, 16), (⟨"FlashLanes", "closeBehind", "(III)I"⟩, 5), (⟨"FlashLanes", "lastKept", "()LFlashLanes$Chip;"⟩, 5), (⟨"FlashLanesModel", "anew", "()V"⟩, 9), (⟨"FlashLanesModel", "item", "(I)Z"⟩, 9)]
theorem lw_r2 : ∀ q ∈ lw_privs_2, lw_okq q := List.forall_mem_cons.mpr ⟨lw_p16, List.forall_mem_cons.mpr ⟨lw_p17, List.forall_mem_cons.mpr ⟨lw_p18, List.forall_mem_cons.mpr ⟨lw_p19, List.forall_mem_cons.mpr ⟨lw_p20, List.forall_mem_cons.mpr ⟨lw_p21, List.forall_mem_cons.mpr ⟨lw_p22, List.forall_mem_cons.mpr ⟨lw_p23, List.forall_mem_cons.mpr ⟨lw_p24, List.forall_mem_cons.mpr ⟨lw_p25, List.forall_mem_cons.mpr ⟨lw_p26, List.forall_mem_cons.mpr ⟨lw_p27, List.forall_mem_cons.mpr ⟨lw_p28, List.forall_mem_cons.mpr ⟨lw_p29, List.forall_mem_cons.mpr ⟨lw_p30, List.forall_mem_cons.mpr ⟨lw_p31, fun _ h => absurd h List.not_mem_nil⟩⟩⟩⟩⟩⟩⟩⟩⟩⟩⟩⟩⟩⟩⟩⟩
theorem lw_p32 : lw_okq (⟨"FlashLanesModel", "sizes", "()Z"⟩, 9) := ⟨⟨by decide +kernel, by decide +kernel⟩, List.mem_of_getElem? (i := 585) (by decide +kernel), List.mem_of_getElem? (i := 647) (by decide +kernel), List.mem_of_getElem? (i := 648) (by decide +kernel)⟩
theorem lw_p33 : lw_okq (⟨"FlashLanesModel", "number", "(I)I"⟩, 9) := ⟨⟨by decide +kernel, by decide +kernel⟩, List.mem_of_getElem? (i := 585) (by decide +kernel), List.mem_of_getElem? (i := 651) (by decide +kernel), List.mem_of_getElem? (i := 652) (by decide +kernel)⟩
theorem lw_p34 : lw_okq (⟨"FlashLanesModel", "byteAt", "(I)I"⟩, 9) := ⟨⟨by decide +kernel, by decide +kernel⟩, List.mem_of_getElem? (i := 585) (by decide +kernel), List.mem_of_getElem? (i := 655) (by decide +kernel), List.mem_of_getElem? (i := 656) (by decide +kernel)⟩
theorem lw_p35 : lw_okq (⟨"FlashLanesModel", "all", "()I"⟩, 9) := ⟨⟨by decide +kernel, by decide +kernel⟩, List.mem_of_getElem? (i := 585) (by decide +kernel), List.mem_of_getElem? (i := 673) (by decide +kernel), List.mem_of_getElem? (i := 674) (by decide +kernel)⟩
theorem lw_p36 : lw_okq (⟨"FlashLanesModel", "puts", "(I)I"⟩, 9) := ⟨⟨by decide +kernel, by decide +kernel⟩, List.mem_of_getElem? (i := 585) (by decide +kernel), List.mem_of_getElem? (i := 686) (by decide +kernel), List.mem_of_getElem? (i := 687) (by decide +kernel)⟩
theorem lw_p37 : lw_okq (⟨"FlashLanesModel", "answers", "(I)I"⟩, 9) := ⟨⟨by decide +kernel, by decide +kernel⟩, List.mem_of_getElem? (i := 585) (by decide +kernel), List.mem_of_getElem? (i := 691) (by decide +kernel), List.mem_of_getElem? (i := 692) (by decide +kernel)⟩
theorem lw_p38 : lw_okq (⟨"FlashLanesModel", "status", "()I"⟩, 9) := ⟨⟨by decide +kernel, by decide +kernel⟩, List.mem_of_getElem? (i := 585) (by decide +kernel), List.mem_of_getElem? (i := 695) (by decide +kernel), List.mem_of_getElem? (i := 696) (by decide +kernel)⟩
theorem lw_p39 : lw_okq (⟨"FlashLanesModel", "tableAt", "(I)I"⟩, 9) := ⟨⟨by decide +kernel, by decide +kernel⟩, List.mem_of_getElem? (i := 585) (by decide +kernel), List.mem_of_getElem? (i := 699) (by decide +kernel), List.mem_of_getElem? (i := 700) (by decide +kernel)⟩
theorem lw_p40 : lw_okq (⟨"FlashLanesModel", "releases", "()I"⟩, 9) := ⟨⟨by decide +kernel, by decide +kernel⟩, List.mem_of_getElem? (i := 585) (by decide +kernel), List.mem_of_getElem? (i := 707) (by decide +kernel), List.mem_of_getElem? (i := 708) (by decide +kernel)⟩
theorem lw_p41 : lw_okq (⟨"FlashLanesModel", "suspends", "()V"⟩, 9) := ⟨⟨by decide +kernel, by decide +kernel⟩, List.mem_of_getElem? (i := 585) (by decide +kernel), List.mem_of_getElem? (i := 711) (by decide +kernel), List.mem_of_getElem? (i := 712) (by decide +kernel)⟩
theorem lw_p42 : lw_okq (⟨"FlashLanesModel", "wants", "(I)V"⟩, 9) := ⟨⟨by decide +kernel, by decide +kernel⟩, List.mem_of_getElem? (i := 585) (by decide +kernel), List.mem_of_getElem? (i := 715) (by decide +kernel), List.mem_of_getElem? (i := 716) (by decide +kernel)⟩
theorem lw_p43 : lw_okq (⟨"FlashLanesModel", "isRefused", "(I)Z"⟩, 9) := ⟨⟨by decide +kernel, by decide +kernel⟩, List.mem_of_getElem? (i := 585) (by decide +kernel), List.mem_of_getElem? (i := 719) (by decide +kernel), List.mem_of_getElem? (i := 720) (by decide +kernel)⟩
theorem lw_p44 : lw_okq (⟨"FlashLanesModel", "sectorSize", "()I"⟩, 9) := ⟨⟨by decide +kernel, by decide +kernel⟩, List.mem_of_getElem? (i := 585) (by decide +kernel), List.mem_of_getElem? (i := 723) (by decide +kernel), List.mem_of_getElem? (i := 724) (by decide +kernel)⟩
theorem lw_p45 : lw_okq (⟨"FlashLanesModel", "anyGuarded", "()Z"⟩, 9) := ⟨⟨by decide +kernel, by decide +kernel⟩, List.mem_of_getElem? (i := 585) (by decide +kernel), List.mem_of_getElem? (i := 727) (by decide +kernel), List.mem_of_getElem? (i := 728) (by decide +kernel)⟩
theorem lw_p46 : lw_okq (⟨"FlashLanesModel", "isGuarded", "(I)Z"⟩, 9) := ⟨⟨by decide +kernel, by decide +kernel⟩, List.mem_of_getElem? (i := 585) (by decide +kernel), List.mem_of_getElem? (i := 731) (by decide +kernel), List.mem_of_getElem? (i := 732) (by decide +kernel)⟩
theorem lw_p47 : lw_okq (⟨"FlashLanesModel", "begins", "(III)V"⟩, 9) := ⟨⟨by decide +kernel, by decide +kernel⟩, List.mem_of_getElem? (i := 585) (by decide +kernel), List.mem_of_getElem? (i := 735) (by decide +kernel), List.mem_of_getElem? (i := 736) (by decide +kernel)⟩
def lw_privs_3 : List (MethodName × Nat) := [(⟨"FlashLanesModel", "sizes", "()Z"⟩, 9), (⟨"FlashLanesModel", "number", "(I)I"⟩, 9), (⟨"FlashLanesModel", "byteAt", "(I)I"⟩, 9), (⟨"FlashLanesModel", "all", "()I"⟩, 9), (⟨"FlashLanesModel", "puts", "(I)I"⟩, 9), (⟨"FlashLanesModel", "answers", "(I)I"⟩, 9), (⟨"FlashLanesModel", "status", "()I"⟩, 9), (⟨"FlashLanesModel", "tableAt", "(I)I"⟩, 9), (⟨"FlashLanesModel", "releases", "()I"⟩, 9), (⟨"FlashLanesModel", "suspends", "()V"⟩, 9), (⟨"FlashLanesModel", "wants", "(I)V"⟩, 9), (⟨"FlashLanesModel", "isRefused", "(I)Z"⟩, 9), (⟨"FlashLanesModel", "sectorSize", "()I"⟩, 9), (⟨"FlashLanesModel", "anyGuarded", "()Z"⟩, 9), (⟨"FlashLanesModel", "isGuarded", "(I)Z"⟩, 9), (⟨"FlashLanesModel", "begins", "(III)V"⟩, 9)]
theorem lw_r3 : ∀ q ∈ lw_privs_3, lw_okq q := List.forall_mem_cons.mpr ⟨lw_p32, List.forall_mem_cons.mpr ⟨lw_p33, List.forall_mem_cons.mpr ⟨lw_p34, List.forall_mem_cons.mpr ⟨lw_p35, List.forall_mem_cons.mpr ⟨lw_p36, List.forall_mem_cons.mpr ⟨lw_p37, List.forall_mem_cons.mpr ⟨lw_p38, List.forall_mem_cons.mpr ⟨lw_p39, List.forall_mem_cons.mpr ⟨lw_p40, List.forall_mem_cons.mpr ⟨lw_p41, List.forall_mem_cons.mpr ⟨lw_p42, List.forall_mem_cons.mpr ⟨lw_p43, List.forall_mem_cons.mpr ⟨lw_p44, List.forall_mem_cons.mpr ⟨lw_p45, List.forall_mem_cons.mpr ⟨lw_p46, List.forall_mem_cons.mpr ⟨lw_p47, fun _ h => absurd h List.not_mem_nil⟩⟩⟩⟩⟩⟩⟩⟩⟩⟩⟩⟩⟩⟩⟩⟩
theorem lw_p48 : lw_okq (⟨"FlashLanesModel", "does", "(I)V"⟩, 9) := ⟨⟨by decide +kernel, by decide +kernel⟩, List.mem_of_getElem? (i := 585) (by decide +kernel), List.mem_of_getElem? (i := 739) (by decide +kernel), List.mem_of_getElem? (i := 740) (by decide +kernel)⟩
theorem lw_p49 : lw_okq (⟨"FlashLanesModel", "tells", "(I)V"⟩, 9) := ⟨⟨by decide +kernel, by decide +kernel⟩, List.mem_of_getElem? (i := 585) (by decide +kernel), List.mem_of_getElem? (i := 743) (by decide +kernel), List.mem_of_getElem? (i := 744) (by decide +kernel)⟩
theorem lw_p50 : lw_okq (⟨"FlashLanesModel", "goesOn", "(III)I"⟩, 9) := ⟨⟨by decide +kernel, by decide +kernel⟩, List.mem_of_getElem? (i := 585) (by decide +kernel), List.mem_of_getElem? (i := 753) (by decide +kernel), List.mem_of_getElem? (i := 754) (by decide +kernel)⟩
theorem lw_p51 : lw_okq (⟨"FlashLanesModel", "done", "()V"⟩, 9) := ⟨⟨by decide +kernel, by decide +kernel⟩, List.mem_of_getElem? (i := 585) (by decide +kernel), List.mem_of_getElem? (i := 766) (by decide +kernel), List.mem_of_getElem? (i := 767) (by decide +kernel)⟩
def lw_privs_4 : List (MethodName × Nat) := [(⟨"FlashLanesModel", "does", "(I)V"⟩, 9), (⟨"FlashLanesModel", "tells", "(I)V"⟩, 9), (⟨"FlashLanesModel", "goesOn", "(III)I"⟩, 9), (⟨"FlashLanesModel", "done", "()V"⟩, 9)]
theorem lw_r4 : ∀ q ∈ lw_privs_4, lw_okq q := List.forall_mem_cons.mpr ⟨lw_p48, List.forall_mem_cons.mpr ⟨lw_p49, List.forall_mem_cons.mpr ⟨lw_p50, List.forall_mem_cons.mpr ⟨lw_p51, fun _ h => absurd h List.not_mem_nil⟩⟩⟩⟩
def lw_privs : List (MethodName × Nat) := lw_privs_1 ++ (lw_privs_2 ++ (lw_privs_3 ++ (lw_privs_4)))
def lw_tbl : List Cond := k2_sels lw_privs ++ tables_1
theorem lw_privs_ok : ∀ q ∈ lw_privs, lw_okq q := by
  show ∀ q ∈ lw_privs_1 ++ (lw_privs_2 ++ (lw_privs_3 ++ (lw_privs_4))), lw_okq q
  exact List.forall_mem_append.mpr ⟨lw_r1, List.forall_mem_append.mpr ⟨lw_r2, List.forall_mem_append.mpr ⟨lw_r3, lw_r4⟩⟩⟩
end
section
def RX0 : String := "FlashLanes$Chip"
def TX0 : u_T := fun k => match k with
  | 0 => ("FlashLanes$Chip", "shape", "LFlashLanes$Shape;", true)
  | 1 => ("FlashLanes$Chip", "wires", "LFlashLanes$Wires;", true)
  | 2 => ("FlashLanes$Chip", "bytes", "[I", true)
  | 3 => ("FlashLanes$Chip", "locked", "[Z", true)
  | 4 => ("FlashLanes$Chip", "laneShift", "I", false)
  | 5 => ("FlashLanes$Chip", "level", "I", false)
  | 6 => ("FlashLanes$Chip", "enabled", "Z", false)
  | 7 => ("FlashLanes$Chip", "error", "Z", false)
  | 8 => ("FlashLanes$Chip", "work", "I", false)
  | 9 => ("FlashLanes$Chip", "workSector", "I", false)
  | 10 => ("FlashLanes$Chip", "workLeft", "I", false)
  | 11 => ("FlashLanes$Chip", "suspendedSector", "I", false)
  | 12 => ("FlashLanes$Chip", "suspendedLeft", "I", false)
  | 13 => ("FlashLanes$Chip", "clocks", "I", false)
  | 14 => ("FlashLanes$Chip", "begun", "I", false)
  | _ => ("FlashLanes$Chip", "readied", "Z", false)
def tyX0 : Nat → FieldType := fun k => match k with
  | 0 => .object "FlashLanes$Shape"
  | 1 => .object "FlashLanes$Wires"
  | 2 => .array .int
  | 3 => .array .boolean
  | 4 => .int
  | 5 => .int
  | 6 => .boolean
  | 7 => .boolean
  | 8 => .int
  | 9 => .int
  | 10 => .int
  | 11 => .int
  | 12 => .int
  | 13 => .int
  | 14 => .int
  | _ => .boolean
abbrev wsX00 : List Cond := u_ws RX0 TX0 16
theorem nmX0 : ∀ a, a < 16 → ∀ b, b < 16 → a ≠ b → (TX0 a).2.1 ≠ (TX0 b).2.1 := by decide +kernel
theorem tyX0_ok : ∀ k, k < 16 → parseFieldDescriptor (TX0 k).2.2.1 = some (tyX0 k) := by decide +kernel
abbrev cX0_init : ByteArray := prog_2_method_1_code
def yX0_init : MethodName := ⟨RX0, "<init>", "()V"⟩
abbrev cX0_layOut : ByteArray := prog_2_method_2_code
def yX0_layOut : MethodName := ⟨RX0, "layOut", "(LFlashLanes$Shape;)V"⟩
abbrev cX0_startAnew : ByteArray := prog_2_method_3_code
def yX0_startAnew : MethodName := ⟨RX0, "startAnew", "()V"⟩
abbrev cX0_copyFrom : ByteArray := prog_2_method_4_code
def yX0_copyFrom : MethodName := ⟨RX0, "copyFrom", "(LFlashLanes$Chip;)V"⟩
abbrev cX0_shape : ByteArray := prog_2_method_5_code
def yX0_shape : MethodName := ⟨RX0, "shape", "()LFlashLanes$Shape;"⟩
abbrev cX0_all : ByteArray := prog_2_method_6_code
def yX0_all : MethodName := ⟨RX0, "all", "()I"⟩
abbrev cX0_lanes : ByteArray := prog_2_method_7_code
def yX0_lanes : MethodName := ⟨RX0, "lanes", "()I"⟩
abbrev cX0_clocks : ByteArray := prog_2_method_8_code
def yX0_clocks : MethodName := ⟨RX0, "clocks", "()I"⟩
abbrev cX0_begun : ByteArray := prog_2_method_9_code
def yX0_begun : MethodName := ⟨RX0, "begun", "()I"⟩
abbrev cX0_puts : ByteArray := prog_2_method_10_code
def yX0_puts : MethodName := ⟨RX0, "puts", "()I"⟩
abbrev cX0_isSelected : ByteArray := prog_2_method_11_code
def yX0_isSelected : MethodName := ⟨RX0, "isSelected", "()Z"⟩
abbrev cX0_isBusy : ByteArray := prog_2_method_12_code
def yX0_isBusy : MethodName := ⟨RX0, "isBusy", "()Z"⟩
abbrev cX0_isSuspended : ByteArray := prog_2_method_13_code
def yX0_isSuspended : MethodName := ⟨RX0, "isSuspended", "()Z"⟩
abbrev cX0_ticksLeft : ByteArray := prog_2_method_14_code
def yX0_ticksLeft : MethodName := ⟨RX0, "ticksLeft", "()I"⟩
abbrev cX0_status : ByteArray := prog_2_method_15_code
def yX0_status : MethodName := ⟨RX0, "status", "()I"⟩
abbrev cX0_byteAt : ByteArray := prog_2_method_16_code
def yX0_byteAt : MethodName := ⟨RX0, "byteAt", "(I)I"⟩
abbrev cX0_blanksIn : ByteArray := prog_2_method_17_code
def yX0_blanksIn : MethodName := ⟨RX0, "blanksIn", "(I)I"⟩
abbrev cX0_sumOf : ByteArray := prog_2_method_18_code
def yX0_sumOf : MethodName := ⟨RX0, "sumOf", "(I)I"⟩
abbrev cX0_bytesOtherThanIn : ByteArray := prog_2_method_19_code
def yX0_bytesOtherThanIn : MethodName := ⟨RX0, "bytesOtherThanIn", "(LFlashLanes$Chip;)I"⟩
abbrev cX0_isLocked : ByteArray := prog_2_method_20_code
def yX0_isLocked : MethodName := ⟨RX0, "isLocked", "(I)Z"⟩
abbrev cX0_isGuarded : ByteArray := prog_2_method_21_code
def yX0_isGuarded : MethodName := ⟨RX0, "isGuarded", "(I)Z"⟩
abbrev cX0_isAnyGuarded : ByteArray := prog_2_method_22_code
def yX0_isAnyGuarded : MethodName := ⟨RX0, "isAnyGuarded", "()Z"⟩
abbrev cX0_isBeingErased : ByteArray := prog_2_method_23_code
def yX0_isBeingErased : MethodName := ⟨RX0, "isBeingErased", "(I)Z"⟩
abbrev cX0_open : ByteArray := prog_2_method_24_code
def yX0_open : MethodName := ⟨RX0, "open", "()V"⟩
abbrev cX0_accept : ByteArray := prog_2_method_25_code
def yX0_accept : MethodName := ⟨RX0, "accept", "(I)I"⟩
abbrev cX0_answerToNext : ByteArray := prog_2_method_26_code
def yX0_answerToNext : MethodName := ⟨RX0, "answerToNext", "()I"⟩
abbrev cX0_contentForNext : ByteArray := prog_2_method_27_code
def yX0_contentForNext : MethodName := ⟨RX0, "contentForNext", "()I"⟩
abbrev cX0_close : ByteArray := prog_2_method_28_code
def yX0_close : MethodName := ⟨RX0, "close", "()V"⟩
abbrev cX0_obeyAlone : ByteArray := prog_2_method_29_code
def yX0_obeyAlone : MethodName := ⟨RX0, "obeyAlone", "(Z)V"⟩
abbrev cX0_obeyWithByte : ByteArray := prog_2_method_30_code
def yX0_obeyWithByte : MethodName := ⟨RX0, "obeyWithByte", "(I)V"⟩
abbrev cX0_mayBegin : ByteArray := prog_2_method_31_code
def yX0_mayBegin : MethodName := ⟨RX0, "mayBegin", "(Z)Z"⟩
abbrev cX0_beginProgram : ByteArray := prog_2_method_32_code
def yX0_beginProgram : MethodName := ⟨RX0, "beginProgram", "(I)V"⟩
abbrev cX0_beginErase : ByteArray := prog_2_method_33_code
def yX0_beginErase : MethodName := ⟨RX0, "beginErase", "(I)V"⟩
abbrev cX0_beginAll : ByteArray := prog_2_method_34_code
def yX0_beginAll : MethodName := ⟨RX0, "beginAll", "()V"⟩
abbrev cX0_begin : ByteArray := prog_2_method_35_code
def yX0_begin : MethodName := ⟨RX0, "begin", "(III)V"⟩
abbrev cX0_suspend : ByteArray := prog_2_method_36_code
def yX0_suspend : MethodName := ⟨RX0, "suspend", "()V"⟩
abbrev cX0_resume : ByteArray := prog_2_method_37_code
def yX0_resume : MethodName := ⟨RX0, "resume", "()V"⟩
abbrev cX0_fallIdle : ByteArray := prog_2_method_38_code
def yX0_fallIdle : MethodName := ⟨RX0, "fallIdle", "()V"⟩
abbrev cX0_dropSuspended : ByteArray := prog_2_method_39_code
def yX0_dropSuspended : MethodName := ⟨RX0, "dropSuspended", "()V"⟩
abbrev cX0_putBack : ByteArray := prog_2_method_40_code
def yX0_putBack : MethodName := ⟨RX0, "putBack", "()V"⟩
abbrev cX0_passTick : ByteArray := prog_2_method_41_code
def yX0_passTick : MethodName := ⟨RX0, "passTick", "()V"⟩
abbrev cX0_eraseFrom : ByteArray := prog_2_method_42_code
def yX0_eraseFrom : MethodName := ⟨RX0, "eraseFrom", "(II)V"⟩
abbrev cX0_setByte : ByteArray := prog_2_method_43_code
def yX0_setByte : MethodName := ⟨RX0, "setByte", "(II)V"⟩
abbrev cX0_setLocked : ByteArray := prog_2_method_44_code
def yX0_setLocked : MethodName := ⟨RX0, "setLocked", "(IZ)V"⟩
def RX1 : String := "FlashLanes$Shape"
def TX1 : u_T := fun k => match k with
  | 0 => ("FlashLanes$Shape", "pageBytes", "I", false)
  | 1 => ("FlashLanes$Shape", "sectorPages", "I", false)
  | 2 => ("FlashLanes$Shape", "sectors", "I", false)
  | 3 => ("FlashLanes$Shape", "programTicks", "I", false)
  | _ => ("FlashLanes$Shape", "eraseTicks", "I", false)
def tyX1 : Nat → FieldType := fun k => match k with
  | 0 => .int
  | 1 => .int
  | 2 => .int
  | 3 => .int
  | _ => .int
abbrev wsX10 : List Cond := u_ws RX1 TX1 5
theorem nmX1 : ∀ a, a < 5 → ∀ b, b < 5 → a ≠ b → (TX1 a).2.1 ≠ (TX1 b).2.1 := by decide +kernel
theorem tyX1_ok : ∀ k, k < 5 → parseFieldDescriptor (TX1 k).2.2.1 = some (tyX1 k) := by decide +kernel
abbrev cX1_init : ByteArray := prog_3_method_1_code
def yX1_init : MethodName := ⟨RX1, "<init>", "()V"⟩
abbrev cX1_setUsual : ByteArray := prog_3_method_2_code
def yX1_setUsual : MethodName := ⟨RX1, "setUsual", "()V"⟩
abbrev cX1_setParts : ByteArray := prog_3_method_3_code
def yX1_setParts : MethodName := ⟨RX1, "setParts", "(III)Z"⟩
abbrev cX1_setTicks : ByteArray := prog_3_method_4_code
def yX1_setTicks : MethodName := ⟨RX1, "setTicks", "(II)Z"⟩
abbrev cX1_copyFrom : ByteArray := prog_3_method_5_code
def yX1_copyFrom : MethodName := ⟨RX1, "copyFrom", "(LFlashLanes$Shape;)V"⟩
abbrev cX1_pageBytes : ByteArray := prog_3_method_6_code
def yX1_pageBytes : MethodName := ⟨RX1, "pageBytes", "()I"⟩
abbrev cX1_sectorPages : ByteArray := prog_3_method_7_code
def yX1_sectorPages : MethodName := ⟨RX1, "sectorPages", "()I"⟩
abbrev cX1_sectors : ByteArray := prog_3_method_8_code
def yX1_sectors : MethodName := ⟨RX1, "sectors", "()I"⟩
abbrev cX1_programTicks : ByteArray := prog_3_method_9_code
def yX1_programTicks : MethodName := ⟨RX1, "programTicks", "()I"⟩
abbrev cX1_eraseTicks : ByteArray := prog_3_method_10_code
def yX1_eraseTicks : MethodName := ⟨RX1, "eraseTicks", "()I"⟩
abbrev cX1_sectorBytes : ByteArray := prog_3_method_11_code
def yX1_sectorBytes : MethodName := ⟨RX1, "sectorBytes", "()I"⟩
abbrev cX1_all : ByteArray := prog_3_method_12_code
def yX1_all : MethodName := ⟨RX1, "all", "()I"⟩
abbrev cX1_together : ByteArray := prog_3_method_13_code
def yX1_together : MethodName := ⟨RX1, "together", "()I"⟩
abbrev cX1_tableByte : ByteArray := prog_3_method_14_code
def yX1_tableByte : MethodName := ⟨RX1, "tableByte", "(I)I"⟩
def RX2 : String := "FlashLanes$Text"
def TX2 : u_T := fun k => match k with
  | 0 => ("FlashLanes$Text", "letters", "[I", true)
  | 1 => ("FlashLanes$Text", "length", "I", false)
  | 2 => ("FlashLanes$Text", "told", "LFlashLanes$Shape;", true)
  | 3 => ("FlashLanes$Text", "place", "I", false)
  | 4 => ("FlashLanes$Text", "checkSeen", "Z", false)
  | _ => ("FlashLanes$Text", "faultPlace", "I", false)
def tyX2 : Nat → FieldType := fun k => match k with
  | 0 => .array .int
  | 1 => .int
  | 2 => .object "FlashLanes$Shape"
  | 3 => .int
  | 4 => .boolean
  | _ => .int
abbrev wsX20 : List Cond := u_ws RX2 TX2 6
theorem nmX2 : ∀ a, a < 6 → ∀ b, b < 6 → a ≠ b → (TX2 a).2.1 ≠ (TX2 b).2.1 := by decide +kernel
theorem tyX2_ok : ∀ k, k < 6 → parseFieldDescriptor (TX2 k).2.2.1 = some (tyX2 k) := by decide +kernel
abbrev cX2_init : ByteArray := prog_4_method_1_code
def yX2_init : MethodName := ⟨RX2, "<init>", "()V"⟩
abbrev cX2_length : ByteArray := prog_4_method_2_code
def yX2_length : MethodName := ⟨RX2, "length", "()I"⟩
abbrev cX2_clear : ByteArray := prog_4_method_3_code
def yX2_clear : MethodName := ⟨RX2, "clear", "()V"⟩
abbrev cX2_append : ByteArray := prog_4_method_4_code
def yX2_append : MethodName := ⟨RX2, "append", "(I)Z"⟩
abbrev cX2_faultPlace : ByteArray := prog_4_method_5_code
def yX2_faultPlace : MethodName := ⟨RX2, "faultPlace", "()I"⟩
abbrev cX2_isChecked : ByteArray := prog_4_method_6_code
def yX2_isChecked : MethodName := ⟨RX2, "isChecked", "()Z"⟩
abbrev cX2_told : ByteArray := prog_4_method_7_code
def yX2_told : MethodName := ⟨RX2, "told", "()LFlashLanes$Shape;"⟩
abbrev cX2_examine : ByteArray := prog_4_method_8_code
def yX2_examine : MethodName := ⟨RX2, "examine", "()V"⟩
abbrev cX2_readItem : ByteArray := prog_4_method_9_code
def yX2_readItem : MethodName := ⟨RX2, "readItem", "()Z"⟩
abbrev cX2_readParts : ByteArray := prog_4_method_10_code
def yX2_readParts : MethodName := ⟨RX2, "readParts", "()Z"⟩
abbrev cX2_readTicks : ByteArray := prog_4_method_11_code
def yX2_readTicks : MethodName := ⟨RX2, "readTicks", "()Z"⟩
abbrev cX2_readCheck : ByteArray := prog_4_method_12_code
def yX2_readCheck : MethodName := ⟨RX2, "readCheck", "()Z"⟩
abbrev cX2_readNumber : ByteArray := prog_4_method_13_code
def yX2_readNumber : MethodName := ⟨RX2, "readNumber", "()I"⟩
abbrev cX2_skip : ByteArray := prog_4_method_14_code
def yX2_skip : MethodName := ⟨RX2, "skip", "(I)Z"⟩
abbrev cX2_nextLetter : ByteArray := prog_4_method_15_code
def yX2_nextLetter : MethodName := ⟨RX2, "nextLetter", "()I"⟩
abbrev cX2_isFigure : ByteArray := prog_4_method_16_code
def yX2_isFigure : MethodName := ⟨RX2, "isFigure", "(I)Z"⟩
def RX3 : String := "FlashLanes$Wires"
def TX3 : u_T := fun k => match k with
  | 0 => ("FlashLanes$Wires", "selected", "Z", false)
  | 1 => ("FlashLanes$Wires", "puts", "I", false)
  | 2 => ("FlashLanes$Wires", "command", "I", false)
  | 3 => ("FlashLanes$Wires", "first", "I", false)
  | _ => ("FlashLanes$Wires", "page", "[I", true)
def tyX3 : Nat → FieldType := fun k => match k with
  | 0 => .boolean
  | 1 => .int
  | 2 => .int
  | 3 => .int
  | _ => .array .int
abbrev wsX30 : List Cond := u_ws RX3 TX3 5
theorem nmX3 : ∀ a, a < 5 → ∀ b, b < 5 → a ≠ b → (TX3 a).2.1 ≠ (TX3 b).2.1 := by decide +kernel
theorem tyX3_ok : ∀ k, k < 5 → parseFieldDescriptor (TX3 k).2.2.1 = some (tyX3 k) := by decide +kernel
abbrev cX3_init : ByteArray := prog_5_method_1_code
def yX3_init : MethodName := ⟨RX3, "<init>", "()V"⟩
abbrev cX3_clear : ByteArray := prog_5_method_2_code
def yX3_clear : MethodName := ⟨RX3, "clear", "()V"⟩
abbrev cX3_open : ByteArray := prog_5_method_3_code
def yX3_open : MethodName := ⟨RX3, "open", "()V"⟩
abbrev cX3_isSelected : ByteArray := prog_5_method_4_code
def yX3_isSelected : MethodName := ⟨RX3, "isSelected", "()Z"⟩
abbrev cX3_puts : ByteArray := prog_5_method_5_code
def yX3_puts : MethodName := ⟨RX3, "puts", "()I"⟩
abbrev cX3_command : ByteArray := prog_5_method_6_code
def yX3_command : MethodName := ⟨RX3, "command", "()I"⟩
abbrev cX3_first : ByteArray := prog_5_method_7_code
def yX3_first : MethodName := ⟨RX3, "first", "()I"⟩
abbrev cX3_take : ByteArray := prog_5_method_8_code
def yX3_take : MethodName := ⟨RX3, "take", "(II)V"⟩
abbrev cX3_setInPage : ByteArray := prog_5_method_9_code
def yX3_setInPage : MethodName := ⟨RX3, "setInPage", "(II)V"⟩
abbrev cX3_maskAt : ByteArray := prog_5_method_10_code
def yX3_maskAt : MethodName := ⟨RX3, "maskAt", "(I)I"⟩
abbrev cX3_copyFrom : ByteArray := prog_5_method_11_code
def yX3_copyFrom : MethodName := ⟨RX3, "copyFrom", "(LFlashLanes$Wires;)V"⟩
def RX4 : String := "FlashLanes"
def TX4 : u_T := fun k => match k with
  | 0 => ("FlashLanes", "text", "LFlashLanes$Text;", true)
  | 1 => ("FlashLanes", "chip", "LFlashLanes$Chip;", true)
  | 2 => ("FlashLanes", "keptFirst", "LFlashLanes$Chip;", true)
  | 3 => ("FlashLanes", "keptSecond", "LFlashLanes$Chip;", true)
  | _ => ("FlashLanes", "kept", "I", false)
def tyX4 : Nat → FieldType := fun k => match k with
  | 0 => .object "FlashLanes$Text"
  | 1 => .object "FlashLanes$Chip"
  | 2 => .object "FlashLanes$Chip"
  | 3 => .object "FlashLanes$Chip"
  | _ => .int
abbrev wsX40 : List Cond := u_ws RX4 TX4 5
theorem nmX4 : ∀ a, a < 5 → ∀ b, b < 5 → a ≠ b → (TX4 a).2.1 ≠ (TX4 b).2.1 := by decide +kernel
theorem tyX4_ok : ∀ k, k < 5 → parseFieldDescriptor (TX4 k).2.2.1 = some (tyX4 k) := by decide +kernel
abbrev cX4_init : ByteArray := prog_1_method_1_code
def yX4_init : MethodName := ⟨RX4, "<init>", "()V"⟩
abbrev cX4_write : ByteArray := prog_1_method_2_code
def yX4_write : MethodName := ⟨RX4, "write", "(I)I"⟩
abbrev cX4_wipe : ByteArray := prog_1_method_3_code
def yX4_wipe : MethodName := ⟨RX4, "wipe", "()I"⟩
abbrev cX4_fault : ByteArray := prog_1_method_4_code
def yX4_fault : MethodName := ⟨RX4, "fault", "()I"⟩
abbrev cX4_lay : ByteArray := prog_1_method_5_code
def yX4_lay : MethodName := ⟨RX4, "lay", "()I"⟩
abbrev cX4_select : ByteArray := prog_1_method_6_code
def yX4_select : MethodName := ⟨RX4, "select", "()I"⟩
abbrev cX4_put : ByteArray := prog_1_method_7_code
def yX4_put : MethodName := ⟨RX4, "put", "(I)I"⟩
abbrev cX4_release : ByteArray := prog_1_method_8_code
def yX4_release : MethodName := ⟨RX4, "release", "()I"⟩
abbrev cX4_send : ByteArray := prog_1_method_9_code
def yX4_send : MethodName := ⟨RX4, "send", "(IIII)I"⟩
abbrev cX4_order : ByteArray := prog_1_method_10_code
def yX4_order : MethodName := ⟨RX4, "order", "(III)I"⟩
abbrev cX4_tick : ByteArray := prog_1_method_11_code
def yX4_tick : MethodName := ⟨RX4, "tick", "(I)I"⟩
abbrev cX4_at : ByteArray := prog_1_method_12_code
def yX4_at : MethodName := ⟨RX4, "at", "(I)I"⟩
abbrev cX4_sector : ByteArray := prog_1_method_13_code
def yX4_sector : MethodName := ⟨RX4, "sector", "(II)I"⟩
abbrev cX4_table : ByteArray := prog_1_method_14_code
def yX4_table : MethodName := ⟨RX4, "table", "(I)I"⟩
abbrev cX4_keep : ByteArray := prog_1_method_15_code
def yX4_keep : MethodName := ⟨RX4, "keep", "()I"⟩
abbrev cX4_back : ByteArray := prog_1_method_16_code
def yX4_back : MethodName := ⟨RX4, "back", "()I"⟩
abbrev cX4_unlike : ByteArray := prog_1_method_17_code
def yX4_unlike : MethodName := ⟨RX4, "unlike", "()I"⟩
abbrev cX4_count : ByteArray := prog_1_method_18_code
def yX4_count : MethodName := ⟨RX4, "count", "(I)I"⟩
abbrev cX4_isByte : ByteArray := prog_1_method_19_code
def yX4_isByte : MethodName := ⟨RX4, "isByte", "(I)Z"⟩
abbrev cX4_remainder : ByteArray := prog_1_method_20_code
def yX4_remainder : MethodName := ⟨RX4, "remainder", "(II)I"⟩
abbrev cX4_quotient : ByteArray := prog_1_method_21_code
def yX4_quotient : MethodName := ⟨RX4, "quotient", "(II)I"⟩
abbrev cX4_lastKept : ByteArray := prog_1_method_22_code
def yX4_lastKept : MethodName := ⟨RX4, "lastKept", "()LFlashLanes$Chip;"⟩
abbrev cX4_closeBehind : ByteArray := prog_1_method_23_code
def yX4_closeBehind : MethodName := ⟨RX4, "closeBehind", "(III)I"⟩
def RX5 : String := "FlashLanesModel"
def TX5 : u_T := fun k => match k with
  | 0 => ("FlashLanesModel", "length", "I", false)
  | 1 => ("FlashLanesModel", "text", "[I", true)
  | 2 => ("FlashLanesModel", "spot", "I", false)
  | 3 => ("FlashLanesModel", "told", "[I", true)
  | 4 => ("FlashLanesModel", "read", "[I", true)
  | 5 => ("FlashLanesModel", "checked", "Z", false)
  | 6 => ("FlashLanesModel", "s", "[I", true)
  | 7 => ("FlashLanesModel", "kept", "[I", true)
  | _ => ("FlashLanesModel", "keptMany", "I", false)
def tyX5 : Nat → FieldType := fun k => match k with
  | 0 => .int
  | 1 => .array .int
  | 2 => .int
  | 3 => .array .int
  | 4 => .array .int
  | 5 => .boolean
  | 6 => .array .int
  | 7 => .array .int
  | _ => .int
abbrev wsX50 : List Cond := u_ws RX5 TX5 9
theorem nmX5 : ∀ a, a < 9 → ∀ b, b < 9 → a ≠ b → (TX5 a).2.1 ≠ (TX5 b).2.1 := by decide +kernel
theorem tyX5_ok : ∀ k, k < 9 → parseFieldDescriptor (TX5 k).2.2.1 = some (tyX5 k) := by decide +kernel
abbrev cX5_init : ByteArray := prog_7_method_1_code
def yX5_init : MethodName := ⟨RX5, "<init>", "()V"⟩
abbrev cX5_plain : ByteArray := prog_7_method_2_code
def yX5_plain : MethodName := ⟨RX5, "plain", "([I)V"⟩
abbrev cX5_anew : ByteArray := prog_7_method_3_code
def yX5_anew : MethodName := ⟨RX5, "anew", "()V"⟩
abbrev cX5_in : ByteArray := prog_7_method_4_code
def yX5_in : MethodName := ⟨RX5, "in", "(JJJ)Z"⟩
abbrev cX5_write : ByteArray := prog_7_method_5_code
def yX5_write : MethodName := ⟨RX5, "write", "(I)I"⟩
abbrev cX5_wipe : ByteArray := prog_7_method_6_code
def yX5_wipe : MethodName := ⟨RX5, "wipe", "()I"⟩
abbrev cX5_byteAt : ByteArray := prog_7_method_7_code
def yX5_byteAt : MethodName := ⟨RX5, "byteAt", "(I)I"⟩
abbrev cX5_number : ByteArray := prog_7_method_8_code
def yX5_number : MethodName := ⟨RX5, "number", "(I)I"⟩
abbrev cX5_sumOf : ByteArray := prog_7_method_9_code
def yX5_sumOf : MethodName := ⟨RX5, "sumOf", "([I)I"⟩
abbrev cX5_sizes : ByteArray := prog_7_method_10_code
def yX5_sizes : MethodName := ⟨RX5, "sizes", "()Z"⟩
abbrev cX5_item : ByteArray := prog_7_method_11_code
def yX5_item : MethodName := ⟨RX5, "item", "(I)Z"⟩
abbrev cX5_fault : ByteArray := prog_7_method_12_code
def yX5_fault : MethodName := ⟨RX5, "fault", "()I"⟩
abbrev cX5_lay : ByteArray := prog_7_method_13_code
def yX5_lay : MethodName := ⟨RX5, "lay", "()I"⟩
abbrev cX5_all : ByteArray := prog_7_method_14_code
def yX5_all : MethodName := ⟨RX5, "all", "()I"⟩
abbrev cX5_sectorSize : ByteArray := prog_7_method_15_code
def yX5_sectorSize : MethodName := ⟨RX5, "sectorSize", "()I"⟩
abbrev cX5_isGuarded : ByteArray := prog_7_method_16_code
def yX5_isGuarded : MethodName := ⟨RX5, "isGuarded", "(I)Z"⟩
abbrev cX5_status : ByteArray := prog_7_method_17_code
def yX5_status : MethodName := ⟨RX5, "status", "()I"⟩
abbrev cX5_tableAt : ByteArray := prog_7_method_18_code
def yX5_tableAt : MethodName := ⟨RX5, "tableAt", "(I)I"⟩
abbrev cX5_select : ByteArray := prog_7_method_19_code
def yX5_select : MethodName := ⟨RX5, "select", "()I"⟩
abbrev cX5_answers : ByteArray := prog_7_method_20_code
def yX5_answers : MethodName := ⟨RX5, "answers", "(I)I"⟩
abbrev cX5_puts : ByteArray := prog_7_method_21_code
def yX5_puts : MethodName := ⟨RX5, "puts", "(I)I"⟩
abbrev cX5_put : ByteArray := prog_7_method_22_code
def yX5_put : MethodName := ⟨RX5, "put", "(I)I"⟩
abbrev cX5_begins : ByteArray := prog_7_method_23_code
def yX5_begins : MethodName := ⟨RX5, "begins", "(III)V"⟩
abbrev cX5_anyGuarded : ByteArray := prog_7_method_24_code
def yX5_anyGuarded : MethodName := ⟨RX5, "anyGuarded", "()Z"⟩
abbrev cX5_isRefused : ByteArray := prog_7_method_25_code
def yX5_isRefused : MethodName := ⟨RX5, "isRefused", "(I)Z"⟩
abbrev cX5_wants : ByteArray := prog_7_method_26_code
def yX5_wants : MethodName := ⟨RX5, "wants", "(I)V"⟩
abbrev cX5_does : ByteArray := prog_7_method_27_code
def yX5_does : MethodName := ⟨RX5, "does", "(I)V"⟩
abbrev cX5_tells : ByteArray := prog_7_method_28_code
def yX5_tells : MethodName := ⟨RX5, "tells", "(I)V"⟩
abbrev cX5_suspends : ByteArray := prog_7_method_29_code
def yX5_suspends : MethodName := ⟨RX5, "suspends", "()V"⟩
abbrev cX5_releases : ByteArray := prog_7_method_30_code
def yX5_releases : MethodName := ⟨RX5, "releases", "()I"⟩
abbrev cX5_release : ByteArray := prog_7_method_31_code
def yX5_release : MethodName := ⟨RX5, "release", "()I"⟩
abbrev cX5_goesOn : ByteArray := prog_7_method_32_code
def yX5_goesOn : MethodName := ⟨RX5, "goesOn", "(III)I"⟩
abbrev cX5_send : ByteArray := prog_7_method_33_code
def yX5_send : MethodName := ⟨RX5, "send", "(IIII)I"⟩
abbrev cX5_order : ByteArray := prog_7_method_34_code
def yX5_order : MethodName := ⟨RX5, "order", "(III)I"⟩
abbrev cX5_done : ByteArray := prog_7_method_35_code
def yX5_done : MethodName := ⟨RX5, "done", "()V"⟩
abbrev cX5_tick : ByteArray := prog_7_method_36_code
def yX5_tick : MethodName := ⟨RX5, "tick", "(I)I"⟩
abbrev cX5_at : ByteArray := prog_7_method_37_code
def yX5_at : MethodName := ⟨RX5, "at", "(I)I"⟩
abbrev cX5_sector : ByteArray := prog_7_method_38_code
def yX5_sector : MethodName := ⟨RX5, "sector", "(II)I"⟩
abbrev cX5_table : ByteArray := prog_7_method_39_code
def yX5_table : MethodName := ⟨RX5, "table", "(I)I"⟩
abbrev cX5_keep : ByteArray := prog_7_method_40_code
def yX5_keep : MethodName := ⟨RX5, "keep", "()I"⟩
abbrev cX5_back : ByteArray := prog_7_method_41_code
def yX5_back : MethodName := ⟨RX5, "back", "()I"⟩
abbrev cX5_unlike : ByteArray := prog_7_method_42_code
def yX5_unlike : MethodName := ⟨RX5, "unlike", "()I"⟩
abbrev cX5_count : ByteArray := prog_7_method_43_code
def yX5_count : MethodName := ⟨RX5, "count", "(I)I"⟩
def RL : String := "FlashLanesLaw"
abbrev cL_law : ByteArray := code
def yL_law : MethodName := ⟨RL, "law", "([I)Z"⟩
abbrev vwCl : List vw_C := [(RX0, TX0, 16), (RX1, TX1, 5), (RX2, TX2, 6), (RX3, TX3, 5), (RX4, TX4, 5), (RX5, TX5, 9)]
end
section
theorem dX0_init_0 : decode cX0_init 0 = .ok (.aload_n 0, 1) := by decide +kernel
theorem dX0_init_1 : decode cX0_init 1 = .ok (.invokespecial 3, 3) := by decide +kernel
theorem dX0_init_4 : decode cX0_init 4 = .ok (.aload_n 0, 1) := by decide +kernel
theorem dX0_init_5 : decode cX0_init 5 = .ok (.new 9, 3) := by decide +kernel
theorem dX0_init_8 : decode cX0_init 8 = .ok (.dup, 1) := by decide +kernel
theorem dX0_init_9 : decode cX0_init 9 = .ok (.invokespecial 11, 3) := by decide +kernel
theorem dX0_init_12 : decode cX0_init 12 = .ok (.putfield 12, 3) := by decide +kernel
theorem dX0_init_15 : decode cX0_init 15 = .ok (.aload_n 0, 1) := by decide +kernel
theorem dX0_init_16 : decode cX0_init 16 = .ok (.new 18, 3) := by decide +kernel
theorem dX0_init_19 : decode cX0_init 19 = .ok (.dup, 1) := by decide +kernel
theorem dX0_init_20 : decode cX0_init 20 = .ok (.invokespecial 20, 3) := by decide +kernel
theorem dX0_init_23 : decode cX0_init 23 = .ok (.putfield 21, 3) := by decide +kernel
theorem dX0_init_26 : decode cX0_init 26 = .ok (.aload_n 0, 1) := by decide +kernel
theorem dX0_init_27 : decode cX0_init 27 = .ok (.sipush 256, 3) := by decide +kernel
theorem dX0_init_30 : decode cX0_init 30 = .ok (.newarray .int, 2) := by decide +kernel
theorem dX0_init_32 : decode cX0_init 32 = .ok (.putfield 25, 3) := by decide +kernel
theorem dX0_init_35 : decode cX0_init 35 = .ok (.aload_n 0, 1) := by decide +kernel
theorem dX0_init_36 : decode cX0_init 36 = .ok (.bipush 8, 2) := by decide +kernel
theorem dX0_init_38 : decode cX0_init 38 = .ok (.newarray .boolean, 2) := by decide +kernel
theorem dX0_init_40 : decode cX0_init 40 = .ok (.putfield 29, 3) := by decide +kernel
theorem dX0_init_43 : decode cX0_init 43 = .ok (.aload_n 0, 1) := by decide +kernel
theorem dX0_init_44 : decode cX0_init 44 = .ok (.invokevirtual 33, 3) := by decide +kernel
theorem dX0_init_47 : decode cX0_init 47 = .ok (.return_, 1) := by decide +kernel
theorem dX0_layOut_0 : decode cX0_layOut 0 = .ok (.aload_n 0, 1) := by decide +kernel
theorem dX0_layOut_1 : decode cX0_layOut 1 = .ok (.getfield 12, 3) := by decide +kernel
theorem dX0_layOut_4 : decode cX0_layOut 4 = .ok (.aload_n 1, 1) := by decide +kernel
theorem dX0_layOut_5 : decode cX0_layOut 5 = .ok (.invokevirtual 36, 3) := by decide +kernel
theorem dX0_layOut_8 : decode cX0_layOut 8 = .ok (.aload_n 0, 1) := by decide +kernel
theorem dX0_layOut_9 : decode cX0_layOut 9 = .ok (.invokevirtual 33, 3) := by decide +kernel
theorem dX0_layOut_12 : decode cX0_layOut 12 = .ok (.return_, 1) := by decide +kernel
theorem dX0_startAnew_0 : decode cX0_startAnew 0 = .ok (.aload_n 0, 1) := by decide +kernel
theorem dX0_startAnew_1 : decode cX0_startAnew 1 = .ok (.getfield 21, 3) := by decide +kernel
theorem dX0_startAnew_4 : decode cX0_startAnew 4 = .ok (.invokevirtual 40, 3) := by decide +kernel
theorem dX0_startAnew_7 : decode cX0_startAnew 7 = .ok (.aload_n 0, 1) := by decide +kernel
theorem dX0_startAnew_8 : decode cX0_startAnew 8 = .ok (.iconst 0, 1) := by decide +kernel
theorem dX0_startAnew_9 : decode cX0_startAnew 9 = .ok (.aload_n 0, 1) := by decide +kernel
theorem dX0_startAnew_10 : decode cX0_startAnew 10 = .ok (.getfield 25, 3) := by decide +kernel
theorem dX0_startAnew_13 : decode cX0_startAnew 13 = .ok (.arraylength, 1) := by decide +kernel
theorem dX0_startAnew_14 : decode cX0_startAnew 14 = .ok (.invokevirtual 43, 3) := by decide +kernel
theorem dX0_startAnew_17 : decode cX0_startAnew 17 = .ok (.iconst 0, 1) := by decide +kernel
theorem dX0_startAnew_18 : decode cX0_startAnew 18 = .ok (.istore_n 1, 1) := by decide +kernel
theorem dX0_startAnew_19 : decode cX0_startAnew 19 = .ok (.iload_n 1, 1) := by decide +kernel
theorem dX0_startAnew_20 : decode cX0_startAnew 20 = .ok (.aload_n 0, 1) := by decide +kernel
theorem dX0_startAnew_21 : decode cX0_startAnew 21 = .ok (.getfield 29, 3) := by decide +kernel
theorem dX0_startAnew_24 : decode cX0_startAnew 24 = .ok (.arraylength, 1) := by decide +kernel
theorem dX0_startAnew_25 : decode cX0_startAnew 25 = .ok (.if_icmp .ge 16, 3) := by decide +kernel
theorem dX0_startAnew_28 : decode cX0_startAnew 28 = .ok (.aload_n 0, 1) := by decide +kernel
theorem dX0_startAnew_29 : decode cX0_startAnew 29 = .ok (.getfield 29, 3) := by decide +kernel
theorem dX0_startAnew_32 : decode cX0_startAnew 32 = .ok (.iload_n 1, 1) := by decide +kernel
theorem dX0_startAnew_33 : decode cX0_startAnew 33 = .ok (.iconst 0, 1) := by decide +kernel
theorem dX0_startAnew_34 : decode cX0_startAnew 34 = .ok (.bastore, 1) := by decide +kernel
theorem dX0_startAnew_35 : decode cX0_startAnew 35 = .ok (.iinc 1 1, 3) := by decide +kernel
theorem dX0_startAnew_38 : decode cX0_startAnew 38 = .ok (.goto (-19), 3) := by decide +kernel
theorem dX0_startAnew_41 : decode cX0_startAnew 41 = .ok (.aload_n 0, 1) := by decide +kernel
theorem dX0_startAnew_42 : decode cX0_startAnew 42 = .ok (.iconst 0, 1) := by decide +kernel
theorem dX0_startAnew_43 : decode cX0_startAnew 43 = .ok (.putfield 47, 3) := by decide +kernel
theorem dX0_startAnew_46 : decode cX0_startAnew 46 = .ok (.aload_n 0, 1) := by decide +kernel
theorem dX0_startAnew_47 : decode cX0_startAnew 47 = .ok (.iconst 0, 1) := by decide +kernel
theorem dX0_startAnew_48 : decode cX0_startAnew 48 = .ok (.putfield 51, 3) := by decide +kernel
theorem dX0_startAnew_51 : decode cX0_startAnew 51 = .ok (.aload_n 0, 1) := by decide +kernel
theorem dX0_startAnew_52 : decode cX0_startAnew 52 = .ok (.iconst 0, 1) := by decide +kernel
theorem dX0_startAnew_53 : decode cX0_startAnew 53 = .ok (.putfield 54, 3) := by decide +kernel
theorem dX0_startAnew_56 : decode cX0_startAnew 56 = .ok (.aload_n 0, 1) := by decide +kernel
theorem dX0_startAnew_57 : decode cX0_startAnew 57 = .ok (.iconst 0, 1) := by decide +kernel
theorem dX0_startAnew_58 : decode cX0_startAnew 58 = .ok (.putfield 58, 3) := by decide +kernel
theorem dX0_startAnew_61 : decode cX0_startAnew 61 = .ok (.aload_n 0, 1) := by decide +kernel
theorem dX0_startAnew_62 : decode cX0_startAnew 62 = .ok (.iconst (-1), 1) := by decide +kernel
theorem dX0_startAnew_63 : decode cX0_startAnew 63 = .ok (.putfield 61, 3) := by decide +kernel
theorem dX0_startAnew_66 : decode cX0_startAnew 66 = .ok (.aload_n 0, 1) := by decide +kernel
theorem dX0_startAnew_67 : decode cX0_startAnew 67 = .ok (.iconst (-1), 1) := by decide +kernel
theorem dX0_startAnew_68 : decode cX0_startAnew 68 = .ok (.putfield 64, 3) := by decide +kernel
theorem dX0_startAnew_71 : decode cX0_startAnew 71 = .ok (.aload_n 0, 1) := by decide +kernel
theorem dX0_startAnew_72 : decode cX0_startAnew 72 = .ok (.iconst 0, 1) := by decide +kernel
theorem dX0_startAnew_73 : decode cX0_startAnew 73 = .ok (.putfield 67, 3) := by decide +kernel
theorem dX0_startAnew_76 : decode cX0_startAnew 76 = .ok (.aload_n 0, 1) := by decide +kernel
theorem dX0_startAnew_77 : decode cX0_startAnew 77 = .ok (.iconst (-1), 1) := by decide +kernel
theorem dX0_startAnew_78 : decode cX0_startAnew 78 = .ok (.putfield 70, 3) := by decide +kernel
theorem dX0_startAnew_81 : decode cX0_startAnew 81 = .ok (.aload_n 0, 1) := by decide +kernel
theorem dX0_startAnew_82 : decode cX0_startAnew 82 = .ok (.iconst 0, 1) := by decide +kernel
theorem dX0_startAnew_83 : decode cX0_startAnew 83 = .ok (.putfield 73, 3) := by decide +kernel
theorem dX0_startAnew_86 : decode cX0_startAnew 86 = .ok (.aload_n 0, 1) := by decide +kernel
theorem dX0_startAnew_87 : decode cX0_startAnew 87 = .ok (.iconst 0, 1) := by decide +kernel
theorem dX0_startAnew_88 : decode cX0_startAnew 88 = .ok (.putfield 76, 3) := by decide +kernel
theorem dX0_startAnew_91 : decode cX0_startAnew 91 = .ok (.aload_n 0, 1) := by decide +kernel
theorem dX0_startAnew_92 : decode cX0_startAnew 92 = .ok (.iconst 0, 1) := by decide +kernel
theorem dX0_startAnew_93 : decode cX0_startAnew 93 = .ok (.putfield 79, 3) := by decide +kernel
theorem dX0_startAnew_96 : decode cX0_startAnew 96 = .ok (.aload_n 0, 1) := by decide +kernel
theorem dX0_startAnew_97 : decode cX0_startAnew 97 = .ok (.iconst 0, 1) := by decide +kernel
theorem dX0_startAnew_98 : decode cX0_startAnew 98 = .ok (.putfield 82, 3) := by decide +kernel
theorem dX0_startAnew_101 : decode cX0_startAnew 101 = .ok (.return_, 1) := by decide +kernel
theorem dX0_copyFrom_0 : decode cX0_copyFrom 0 = .ok (.aload_n 0, 1) := by decide +kernel
theorem dX0_copyFrom_1 : decode cX0_copyFrom 1 = .ok (.getfield 12, 3) := by decide +kernel
theorem dX0_copyFrom_4 : decode cX0_copyFrom 4 = .ok (.aload_n 1, 1) := by decide +kernel
theorem dX0_copyFrom_5 : decode cX0_copyFrom 5 = .ok (.getfield 12, 3) := by decide +kernel
theorem dX0_copyFrom_8 : decode cX0_copyFrom 8 = .ok (.invokevirtual 36, 3) := by decide +kernel
theorem dX0_copyFrom_11 : decode cX0_copyFrom 11 = .ok (.aload_n 0, 1) := by decide +kernel
theorem dX0_copyFrom_12 : decode cX0_copyFrom 12 = .ok (.getfield 21, 3) := by decide +kernel
theorem dX0_copyFrom_15 : decode cX0_copyFrom 15 = .ok (.aload_n 1, 1) := by decide +kernel
theorem dX0_copyFrom_16 : decode cX0_copyFrom 16 = .ok (.getfield 21, 3) := by decide +kernel
theorem dX0_copyFrom_19 : decode cX0_copyFrom 19 = .ok (.invokevirtual 85, 3) := by decide +kernel
theorem dX0_copyFrom_22 : decode cX0_copyFrom 22 = .ok (.iconst 0, 1) := by decide +kernel
theorem dX0_copyFrom_23 : decode cX0_copyFrom 23 = .ok (.istore_n 2, 1) := by decide +kernel
theorem dX0_copyFrom_24 : decode cX0_copyFrom 24 = .ok (.iload_n 2, 1) := by decide +kernel
theorem dX0_copyFrom_25 : decode cX0_copyFrom 25 = .ok (.aload_n 0, 1) := by decide +kernel
theorem dX0_copyFrom_26 : decode cX0_copyFrom 26 = .ok (.getfield 25, 3) := by decide +kernel
theorem dX0_copyFrom_29 : decode cX0_copyFrom 29 = .ok (.arraylength, 1) := by decide +kernel
theorem dX0_copyFrom_30 : decode cX0_copyFrom 30 = .ok (.if_icmp .ge 30, 3) := by decide +kernel
theorem dX0_copyFrom_33 : decode cX0_copyFrom 33 = .ok (.iload_n 2, 1) := by decide +kernel
theorem dX0_copyFrom_34 : decode cX0_copyFrom 34 = .ok (.aload_n 1, 1) := by decide +kernel
theorem dX0_copyFrom_35 : decode cX0_copyFrom 35 = .ok (.getfield 25, 3) := by decide +kernel
theorem dX0_copyFrom_38 : decode cX0_copyFrom 38 = .ok (.arraylength, 1) := by decide +kernel
theorem dX0_copyFrom_39 : decode cX0_copyFrom 39 = .ok (.if_icmp .ge 21, 3) := by decide +kernel
theorem dX0_copyFrom_42 : decode cX0_copyFrom 42 = .ok (.aload_n 0, 1) := by decide +kernel
theorem dX0_copyFrom_43 : decode cX0_copyFrom 43 = .ok (.getfield 25, 3) := by decide +kernel
theorem dX0_copyFrom_46 : decode cX0_copyFrom 46 = .ok (.iload_n 2, 1) := by decide +kernel
theorem dX0_copyFrom_47 : decode cX0_copyFrom 47 = .ok (.aload_n 1, 1) := by decide +kernel
theorem dX0_copyFrom_48 : decode cX0_copyFrom 48 = .ok (.getfield 25, 3) := by decide +kernel
theorem dX0_copyFrom_51 : decode cX0_copyFrom 51 = .ok (.iload_n 2, 1) := by decide +kernel
theorem dX0_copyFrom_52 : decode cX0_copyFrom 52 = .ok (.iaload, 1) := by decide +kernel
theorem dX0_copyFrom_53 : decode cX0_copyFrom 53 = .ok (.iastore, 1) := by decide +kernel
theorem dX0_copyFrom_54 : decode cX0_copyFrom 54 = .ok (.iinc 2 1, 3) := by decide +kernel
theorem dX0_copyFrom_57 : decode cX0_copyFrom 57 = .ok (.goto (-33), 3) := by decide +kernel
theorem dX0_copyFrom_60 : decode cX0_copyFrom 60 = .ok (.iconst 0, 1) := by decide +kernel
theorem dX0_copyFrom_61 : decode cX0_copyFrom 61 = .ok (.istore_n 2, 1) := by decide +kernel
theorem dX0_copyFrom_62 : decode cX0_copyFrom 62 = .ok (.iload_n 2, 1) := by decide +kernel
theorem dX0_copyFrom_63 : decode cX0_copyFrom 63 = .ok (.aload_n 0, 1) := by decide +kernel
theorem dX0_copyFrom_64 : decode cX0_copyFrom 64 = .ok (.getfield 29, 3) := by decide +kernel
theorem dX0_copyFrom_67 : decode cX0_copyFrom 67 = .ok (.arraylength, 1) := by decide +kernel
theorem dX0_copyFrom_68 : decode cX0_copyFrom 68 = .ok (.if_icmp .ge 30, 3) := by decide +kernel
theorem dX0_copyFrom_71 : decode cX0_copyFrom 71 = .ok (.iload_n 2, 1) := by decide +kernel
theorem dX0_copyFrom_72 : decode cX0_copyFrom 72 = .ok (.aload_n 1, 1) := by decide +kernel
theorem dX0_copyFrom_73 : decode cX0_copyFrom 73 = .ok (.getfield 29, 3) := by decide +kernel
theorem dX0_copyFrom_76 : decode cX0_copyFrom 76 = .ok (.arraylength, 1) := by decide +kernel
theorem dX0_copyFrom_77 : decode cX0_copyFrom 77 = .ok (.if_icmp .ge 21, 3) := by decide +kernel
theorem dX0_copyFrom_80 : decode cX0_copyFrom 80 = .ok (.aload_n 0, 1) := by decide +kernel
theorem dX0_copyFrom_81 : decode cX0_copyFrom 81 = .ok (.getfield 29, 3) := by decide +kernel
theorem dX0_copyFrom_84 : decode cX0_copyFrom 84 = .ok (.iload_n 2, 1) := by decide +kernel
theorem dX0_copyFrom_85 : decode cX0_copyFrom 85 = .ok (.aload_n 1, 1) := by decide +kernel
theorem dX0_copyFrom_86 : decode cX0_copyFrom 86 = .ok (.getfield 29, 3) := by decide +kernel
theorem dX0_copyFrom_89 : decode cX0_copyFrom 89 = .ok (.iload_n 2, 1) := by decide +kernel
theorem dX0_copyFrom_90 : decode cX0_copyFrom 90 = .ok (.baload, 1) := by decide +kernel
theorem dX0_copyFrom_91 : decode cX0_copyFrom 91 = .ok (.bastore, 1) := by decide +kernel
theorem dX0_copyFrom_92 : decode cX0_copyFrom 92 = .ok (.iinc 2 1, 3) := by decide +kernel
theorem dX0_copyFrom_95 : decode cX0_copyFrom 95 = .ok (.goto (-33), 3) := by decide +kernel
theorem dX0_copyFrom_98 : decode cX0_copyFrom 98 = .ok (.aload_n 0, 1) := by decide +kernel
theorem dX0_copyFrom_99 : decode cX0_copyFrom 99 = .ok (.aload_n 1, 1) := by decide +kernel
theorem dX0_copyFrom_100 : decode cX0_copyFrom 100 = .ok (.getfield 47, 3) := by decide +kernel
theorem dX0_copyFrom_103 : decode cX0_copyFrom 103 = .ok (.putfield 47, 3) := by decide +kernel
theorem dX0_copyFrom_106 : decode cX0_copyFrom 106 = .ok (.aload_n 0, 1) := by decide +kernel
theorem dX0_copyFrom_107 : decode cX0_copyFrom 107 = .ok (.aload_n 1, 1) := by decide +kernel
theorem dX0_copyFrom_108 : decode cX0_copyFrom 108 = .ok (.getfield 51, 3) := by decide +kernel
theorem dX0_copyFrom_111 : decode cX0_copyFrom 111 = .ok (.putfield 51, 3) := by decide +kernel
theorem dX0_copyFrom_114 : decode cX0_copyFrom 114 = .ok (.aload_n 0, 1) := by decide +kernel
theorem dX0_copyFrom_115 : decode cX0_copyFrom 115 = .ok (.aload_n 1, 1) := by decide +kernel
theorem dX0_copyFrom_116 : decode cX0_copyFrom 116 = .ok (.getfield 54, 3) := by decide +kernel
theorem dX0_copyFrom_119 : decode cX0_copyFrom 119 = .ok (.putfield 54, 3) := by decide +kernel
theorem dX0_copyFrom_122 : decode cX0_copyFrom 122 = .ok (.aload_n 0, 1) := by decide +kernel
theorem dX0_copyFrom_123 : decode cX0_copyFrom 123 = .ok (.aload_n 1, 1) := by decide +kernel
theorem dX0_copyFrom_124 : decode cX0_copyFrom 124 = .ok (.getfield 58, 3) := by decide +kernel
theorem dX0_copyFrom_127 : decode cX0_copyFrom 127 = .ok (.putfield 58, 3) := by decide +kernel
theorem dX0_copyFrom_130 : decode cX0_copyFrom 130 = .ok (.aload_n 0, 1) := by decide +kernel
theorem dX0_copyFrom_131 : decode cX0_copyFrom 131 = .ok (.aload_n 1, 1) := by decide +kernel
theorem dX0_copyFrom_132 : decode cX0_copyFrom 132 = .ok (.getfield 61, 3) := by decide +kernel
theorem dX0_copyFrom_135 : decode cX0_copyFrom 135 = .ok (.putfield 61, 3) := by decide +kernel
theorem dX0_copyFrom_138 : decode cX0_copyFrom 138 = .ok (.aload_n 0, 1) := by decide +kernel
theorem dX0_copyFrom_139 : decode cX0_copyFrom 139 = .ok (.aload_n 1, 1) := by decide +kernel
theorem dX0_copyFrom_140 : decode cX0_copyFrom 140 = .ok (.getfield 64, 3) := by decide +kernel
theorem dX0_copyFrom_143 : decode cX0_copyFrom 143 = .ok (.putfield 64, 3) := by decide +kernel
theorem dX0_copyFrom_146 : decode cX0_copyFrom 146 = .ok (.aload_n 0, 1) := by decide +kernel
theorem dX0_copyFrom_147 : decode cX0_copyFrom 147 = .ok (.aload_n 1, 1) := by decide +kernel
theorem dX0_copyFrom_148 : decode cX0_copyFrom 148 = .ok (.getfield 67, 3) := by decide +kernel
theorem dX0_copyFrom_151 : decode cX0_copyFrom 151 = .ok (.putfield 67, 3) := by decide +kernel
theorem dX0_copyFrom_154 : decode cX0_copyFrom 154 = .ok (.aload_n 0, 1) := by decide +kernel
theorem dX0_copyFrom_155 : decode cX0_copyFrom 155 = .ok (.aload_n 1, 1) := by decide +kernel
theorem dX0_copyFrom_156 : decode cX0_copyFrom 156 = .ok (.getfield 70, 3) := by decide +kernel
theorem dX0_copyFrom_159 : decode cX0_copyFrom 159 = .ok (.putfield 70, 3) := by decide +kernel
theorem dX0_copyFrom_162 : decode cX0_copyFrom 162 = .ok (.aload_n 0, 1) := by decide +kernel
theorem dX0_copyFrom_163 : decode cX0_copyFrom 163 = .ok (.aload_n 1, 1) := by decide +kernel
theorem dX0_copyFrom_164 : decode cX0_copyFrom 164 = .ok (.getfield 73, 3) := by decide +kernel
theorem dX0_copyFrom_167 : decode cX0_copyFrom 167 = .ok (.putfield 73, 3) := by decide +kernel
theorem dX0_copyFrom_170 : decode cX0_copyFrom 170 = .ok (.aload_n 0, 1) := by decide +kernel
theorem dX0_copyFrom_171 : decode cX0_copyFrom 171 = .ok (.aload_n 1, 1) := by decide +kernel
theorem dX0_copyFrom_172 : decode cX0_copyFrom 172 = .ok (.getfield 76, 3) := by decide +kernel
theorem dX0_copyFrom_175 : decode cX0_copyFrom 175 = .ok (.putfield 76, 3) := by decide +kernel
theorem dX0_copyFrom_178 : decode cX0_copyFrom 178 = .ok (.aload_n 0, 1) := by decide +kernel
theorem dX0_copyFrom_179 : decode cX0_copyFrom 179 = .ok (.aload_n 1, 1) := by decide +kernel
theorem dX0_copyFrom_180 : decode cX0_copyFrom 180 = .ok (.getfield 79, 3) := by decide +kernel
theorem dX0_copyFrom_183 : decode cX0_copyFrom 183 = .ok (.putfield 79, 3) := by decide +kernel
theorem dX0_copyFrom_186 : decode cX0_copyFrom 186 = .ok (.aload_n 0, 1) := by decide +kernel
theorem dX0_copyFrom_187 : decode cX0_copyFrom 187 = .ok (.aload_n 1, 1) := by decide +kernel
theorem dX0_copyFrom_188 : decode cX0_copyFrom 188 = .ok (.getfield 82, 3) := by decide +kernel
theorem dX0_copyFrom_191 : decode cX0_copyFrom 191 = .ok (.putfield 82, 3) := by decide +kernel
theorem dX0_copyFrom_194 : decode cX0_copyFrom 194 = .ok (.return_, 1) := by decide +kernel
theorem dX0_shape_0 : decode cX0_shape 0 = .ok (.aload_n 0, 1) := by decide +kernel
theorem dX0_shape_1 : decode cX0_shape 1 = .ok (.getfield 12, 3) := by decide +kernel
theorem dX0_shape_4 : decode cX0_shape 4 = .ok (.areturn, 1) := by decide +kernel
theorem dX0_all_0 : decode cX0_all 0 = .ok (.aload_n 0, 1) := by decide +kernel
theorem dX0_all_1 : decode cX0_all 1 = .ok (.getfield 12, 3) := by decide +kernel
theorem dX0_all_4 : decode cX0_all 4 = .ok (.invokevirtual 88, 3) := by decide +kernel
theorem dX0_all_7 : decode cX0_all 7 = .ok (.ireturn, 1) := by decide +kernel
theorem dX0_lanes_0 : decode cX0_lanes 0 = .ok (.iconst 1, 1) := by decide +kernel
theorem dX0_lanes_1 : decode cX0_lanes 1 = .ok (.aload_n 0, 1) := by decide +kernel
theorem dX0_lanes_2 : decode cX0_lanes 2 = .ok (.getfield 47, 3) := by decide +kernel
theorem dX0_lanes_5 : decode cX0_lanes 5 = .ok (.ishl, 1) := by decide +kernel
theorem dX0_lanes_6 : decode cX0_lanes 6 = .ok (.ireturn, 1) := by decide +kernel
theorem dX0_clocks_0 : decode cX0_clocks 0 = .ok (.aload_n 0, 1) := by decide +kernel
theorem dX0_clocks_1 : decode cX0_clocks 1 = .ok (.getfield 76, 3) := by decide +kernel
theorem dX0_clocks_4 : decode cX0_clocks 4 = .ok (.ireturn, 1) := by decide +kernel
theorem dX0_begun_0 : decode cX0_begun 0 = .ok (.aload_n 0, 1) := by decide +kernel
theorem dX0_begun_1 : decode cX0_begun 1 = .ok (.getfield 79, 3) := by decide +kernel
theorem dX0_begun_4 : decode cX0_begun 4 = .ok (.ireturn, 1) := by decide +kernel
theorem dX0_puts_0 : decode cX0_puts 0 = .ok (.aload_n 0, 1) := by decide +kernel
theorem dX0_puts_1 : decode cX0_puts 1 = .ok (.getfield 21, 3) := by decide +kernel
theorem dX0_puts_4 : decode cX0_puts 4 = .ok (.invokevirtual 92, 3) := by decide +kernel
theorem dX0_puts_7 : decode cX0_puts 7 = .ok (.ireturn, 1) := by decide +kernel
theorem dX0_isSelected_0 : decode cX0_isSelected 0 = .ok (.aload_n 0, 1) := by decide +kernel
theorem dX0_isSelected_1 : decode cX0_isSelected 1 = .ok (.getfield 21, 3) := by decide +kernel
theorem dX0_isSelected_4 : decode cX0_isSelected 4 = .ok (.invokevirtual 95, 3) := by decide +kernel
theorem dX0_isSelected_7 : decode cX0_isSelected 7 = .ok (.ireturn, 1) := by decide +kernel
theorem dX0_isBusy_0 : decode cX0_isBusy 0 = .ok (.aload_n 0, 1) := by decide +kernel
theorem dX0_isBusy_1 : decode cX0_isBusy 1 = .ok (.getfield 61, 3) := by decide +kernel
theorem dX0_isBusy_4 : decode cX0_isBusy 4 = .ok (.iconst (-1), 1) := by decide +kernel
theorem dX0_isBusy_5 : decode cX0_isBusy 5 = .ok (.if_icmp .eq 7, 3) := by decide +kernel
theorem dX0_isBusy_8 : decode cX0_isBusy 8 = .ok (.iconst 1, 1) := by decide +kernel
theorem dX0_isBusy_9 : decode cX0_isBusy 9 = .ok (.goto 4, 3) := by decide +kernel
theorem dX0_isBusy_12 : decode cX0_isBusy 12 = .ok (.iconst 0, 1) := by decide +kernel
theorem dX0_isBusy_13 : decode cX0_isBusy 13 = .ok (.ireturn, 1) := by decide +kernel
theorem dX0_isSuspended_0 : decode cX0_isSuspended 0 = .ok (.aload_n 0, 1) := by decide +kernel
theorem dX0_isSuspended_1 : decode cX0_isSuspended 1 = .ok (.getfield 70, 3) := by decide +kernel
theorem dX0_isSuspended_4 : decode cX0_isSuspended 4 = .ok (.iconst (-1), 1) := by decide +kernel
theorem dX0_isSuspended_5 : decode cX0_isSuspended 5 = .ok (.if_icmp .eq 7, 3) := by decide +kernel
theorem dX0_isSuspended_8 : decode cX0_isSuspended 8 = .ok (.iconst 1, 1) := by decide +kernel
theorem dX0_isSuspended_9 : decode cX0_isSuspended 9 = .ok (.goto 4, 3) := by decide +kernel
theorem dX0_isSuspended_12 : decode cX0_isSuspended 12 = .ok (.iconst 0, 1) := by decide +kernel
theorem dX0_isSuspended_13 : decode cX0_isSuspended 13 = .ok (.ireturn, 1) := by decide +kernel
theorem dX0_ticksLeft_0 : decode cX0_ticksLeft 0 = .ok (.aload_n 0, 1) := by decide +kernel
theorem dX0_ticksLeft_1 : decode cX0_ticksLeft 1 = .ok (.invokevirtual 99, 3) := by decide +kernel
theorem dX0_ticksLeft_4 : decode cX0_ticksLeft 4 = .ok (.ifCond .eq 10, 3) := by decide +kernel
theorem dX0_ticksLeft_7 : decode cX0_ticksLeft 7 = .ok (.aload_n 0, 1) := by decide +kernel
theorem dX0_ticksLeft_8 : decode cX0_ticksLeft 8 = .ok (.getfield 67, 3) := by decide +kernel
theorem dX0_ticksLeft_11 : decode cX0_ticksLeft 11 = .ok (.goto 7, 3) := by decide +kernel
theorem dX0_ticksLeft_14 : decode cX0_ticksLeft 14 = .ok (.aload_n 0, 1) := by decide +kernel
theorem dX0_ticksLeft_15 : decode cX0_ticksLeft 15 = .ok (.getfield 73, 3) := by decide +kernel
theorem dX0_ticksLeft_18 : decode cX0_ticksLeft 18 = .ok (.ireturn, 1) := by decide +kernel
theorem dX0_status_0 : decode cX0_status 0 = .ok (.iconst 4, 1) := by decide +kernel
theorem dX0_status_1 : decode cX0_status 1 = .ok (.aload_n 0, 1) := by decide +kernel
theorem dX0_status_2 : decode cX0_status 2 = .ok (.getfield 51, 3) := by decide +kernel
theorem dX0_status_5 : decode cX0_status 5 = .ok (.imul, 1) := by decide +kernel
theorem dX0_status_6 : decode cX0_status 6 = .ok (.istore_n 1, 1) := by decide +kernel
theorem dX0_status_7 : decode cX0_status 7 = .ok (.aload_n 0, 1) := by decide +kernel
theorem dX0_status_8 : decode cX0_status 8 = .ok (.invokevirtual 99, 3) := by decide +kernel
theorem dX0_status_11 : decode cX0_status 11 = .ok (.ifCond .eq 6, 3) := by decide +kernel
theorem dX0_status_14 : decode cX0_status 14 = .ok (.iinc 1 1, 3) := by decide +kernel
theorem dX0_status_17 : decode cX0_status 17 = .ok (.aload_n 0, 1) := by decide +kernel
theorem dX0_status_18 : decode cX0_status 18 = .ok (.getfield 54, 3) := by decide +kernel
theorem dX0_status_21 : decode cX0_status 21 = .ok (.ifCond .eq 6, 3) := by decide +kernel
theorem dX0_status_24 : decode cX0_status 24 = .ok (.iinc 1 2, 3) := by decide +kernel
theorem dX0_status_27 : decode cX0_status 27 = .ok (.aload_n 0, 1) := by decide +kernel
theorem dX0_status_28 : decode cX0_status 28 = .ok (.invokevirtual 102, 3) := by decide +kernel
theorem dX0_status_31 : decode cX0_status 31 = .ok (.ifCond .eq 6, 3) := by decide +kernel
theorem dX0_status_34 : decode cX0_status 34 = .ok (.iinc 1 64, 3) := by decide +kernel
theorem dX0_status_37 : decode cX0_status 37 = .ok (.aload_n 0, 1) := by decide +kernel
theorem dX0_status_38 : decode cX0_status 38 = .ok (.getfield 58, 3) := by decide +kernel
theorem dX0_status_41 : decode cX0_status 41 = .ok (.ifCond .eq 9, 3) := by decide +kernel
theorem dX0_status_44 : decode cX0_status 44 = .ok (.iinc 1 128, 6) := by decide +kernel
theorem dX0_status_50 : decode cX0_status 50 = .ok (.iload_n 1, 1) := by decide +kernel
theorem dX0_status_51 : decode cX0_status 51 = .ok (.ireturn, 1) := by decide +kernel
theorem dX0_byteAt_0 : decode cX0_byteAt 0 = .ok (.iload_n 1, 1) := by decide +kernel
theorem dX0_byteAt_1 : decode cX0_byteAt 1 = .ok (.ifCond .lt 21, 3) := by decide +kernel
theorem dX0_byteAt_4 : decode cX0_byteAt 4 = .ok (.iload_n 1, 1) := by decide +kernel
theorem dX0_byteAt_5 : decode cX0_byteAt 5 = .ok (.aload_n 0, 1) := by decide +kernel
theorem dX0_byteAt_6 : decode cX0_byteAt 6 = .ok (.getfield 25, 3) := by decide +kernel
theorem dX0_byteAt_9 : decode cX0_byteAt 9 = .ok (.arraylength, 1) := by decide +kernel
theorem dX0_byteAt_10 : decode cX0_byteAt 10 = .ok (.if_icmp .ge 12, 3) := by decide +kernel
theorem dX0_byteAt_13 : decode cX0_byteAt 13 = .ok (.aload_n 0, 1) := by decide +kernel
theorem dX0_byteAt_14 : decode cX0_byteAt 14 = .ok (.getfield 25, 3) := by decide +kernel
theorem dX0_byteAt_17 : decode cX0_byteAt 17 = .ok (.iload_n 1, 1) := by decide +kernel
theorem dX0_byteAt_18 : decode cX0_byteAt 18 = .ok (.iaload, 1) := by decide +kernel
theorem dX0_byteAt_19 : decode cX0_byteAt 19 = .ok (.goto 6, 3) := by decide +kernel
theorem dX0_byteAt_22 : decode cX0_byteAt 22 = .ok (.sipush 255, 3) := by decide +kernel
theorem dX0_byteAt_25 : decode cX0_byteAt 25 = .ok (.ireturn, 1) := by decide +kernel
theorem dX0_blanksIn_0 : decode cX0_blanksIn 0 = .ok (.iconst 0, 1) := by decide +kernel
theorem dX0_blanksIn_1 : decode cX0_blanksIn 1 = .ok (.istore_n 2, 1) := by decide +kernel
theorem dX0_blanksIn_2 : decode cX0_blanksIn 2 = .ok (.iload_n 1, 1) := by decide +kernel
theorem dX0_blanksIn_3 : decode cX0_blanksIn 3 = .ok (.aload_n 0, 1) := by decide +kernel
theorem dX0_blanksIn_4 : decode cX0_blanksIn 4 = .ok (.getfield 12, 3) := by decide +kernel
theorem dX0_blanksIn_7 : decode cX0_blanksIn 7 = .ok (.invokevirtual 105, 3) := by decide +kernel
theorem dX0_blanksIn_10 : decode cX0_blanksIn 10 = .ok (.imul, 1) := by decide +kernel
theorem dX0_blanksIn_11 : decode cX0_blanksIn 11 = .ok (.istore_n 3, 1) := by decide +kernel
theorem dX0_blanksIn_12 : decode cX0_blanksIn 12 = .ok (.iconst 0, 1) := by decide +kernel
theorem dX0_blanksIn_13 : decode cX0_blanksIn 13 = .ok (.istore 4, 2) := by decide +kernel
theorem dX0_blanksIn_15 : decode cX0_blanksIn 15 = .ok (.iload 4, 2) := by decide +kernel
theorem dX0_blanksIn_17 : decode cX0_blanksIn 17 = .ok (.aload_n 0, 1) := by decide +kernel
theorem dX0_blanksIn_18 : decode cX0_blanksIn 18 = .ok (.getfield 12, 3) := by decide +kernel
theorem dX0_blanksIn_21 : decode cX0_blanksIn 21 = .ok (.invokevirtual 105, 3) := by decide +kernel
theorem dX0_blanksIn_24 : decode cX0_blanksIn 24 = .ok (.if_icmp .ge 26, 3) := by decide +kernel
theorem dX0_blanksIn_27 : decode cX0_blanksIn 27 = .ok (.aload_n 0, 1) := by decide +kernel
theorem dX0_blanksIn_28 : decode cX0_blanksIn 28 = .ok (.iload_n 3, 1) := by decide +kernel
theorem dX0_blanksIn_29 : decode cX0_blanksIn 29 = .ok (.iload 4, 2) := by decide +kernel
theorem dX0_blanksIn_31 : decode cX0_blanksIn 31 = .ok (.iadd, 1) := by decide +kernel
theorem dX0_blanksIn_32 : decode cX0_blanksIn 32 = .ok (.invokevirtual 108, 3) := by decide +kernel
theorem dX0_blanksIn_35 : decode cX0_blanksIn 35 = .ok (.sipush 255, 3) := by decide +kernel
theorem dX0_blanksIn_38 : decode cX0_blanksIn 38 = .ok (.if_icmp .ne 6, 3) := by decide +kernel
theorem dX0_blanksIn_41 : decode cX0_blanksIn 41 = .ok (.iinc 2 1, 3) := by decide +kernel
theorem dX0_blanksIn_44 : decode cX0_blanksIn 44 = .ok (.iinc 4 1, 3) := by decide +kernel
theorem dX0_blanksIn_47 : decode cX0_blanksIn 47 = .ok (.goto (-32), 3) := by decide +kernel
theorem dX0_blanksIn_50 : decode cX0_blanksIn 50 = .ok (.iload_n 2, 1) := by decide +kernel
theorem dX0_blanksIn_51 : decode cX0_blanksIn 51 = .ok (.ireturn, 1) := by decide +kernel
theorem dX0_sumOf_0 : decode cX0_sumOf 0 = .ok (.iconst 0, 1) := by decide +kernel
theorem dX0_sumOf_1 : decode cX0_sumOf 1 = .ok (.istore_n 2, 1) := by decide +kernel
theorem dX0_sumOf_2 : decode cX0_sumOf 2 = .ok (.iload_n 1, 1) := by decide +kernel
theorem dX0_sumOf_3 : decode cX0_sumOf 3 = .ok (.aload_n 0, 1) := by decide +kernel
theorem dX0_sumOf_4 : decode cX0_sumOf 4 = .ok (.getfield 12, 3) := by decide +kernel
theorem dX0_sumOf_7 : decode cX0_sumOf 7 = .ok (.invokevirtual 105, 3) := by decide +kernel
theorem dX0_sumOf_10 : decode cX0_sumOf 10 = .ok (.imul, 1) := by decide +kernel
theorem dX0_sumOf_11 : decode cX0_sumOf 11 = .ok (.istore_n 3, 1) := by decide +kernel
theorem dX0_sumOf_12 : decode cX0_sumOf 12 = .ok (.iconst 0, 1) := by decide +kernel
theorem dX0_sumOf_13 : decode cX0_sumOf 13 = .ok (.istore 4, 2) := by decide +kernel
theorem dX0_sumOf_15 : decode cX0_sumOf 15 = .ok (.iload 4, 2) := by decide +kernel
theorem dX0_sumOf_17 : decode cX0_sumOf 17 = .ok (.aload_n 0, 1) := by decide +kernel
theorem dX0_sumOf_18 : decode cX0_sumOf 18 = .ok (.getfield 12, 3) := by decide +kernel
theorem dX0_sumOf_21 : decode cX0_sumOf 21 = .ok (.invokevirtual 105, 3) := by decide +kernel
theorem dX0_sumOf_24 : decode cX0_sumOf 24 = .ok (.if_icmp .ge 20, 3) := by decide +kernel
theorem dX0_sumOf_27 : decode cX0_sumOf 27 = .ok (.iload_n 2, 1) := by decide +kernel
theorem dX0_sumOf_28 : decode cX0_sumOf 28 = .ok (.aload_n 0, 1) := by decide +kernel
theorem dX0_sumOf_29 : decode cX0_sumOf 29 = .ok (.iload_n 3, 1) := by decide +kernel
theorem dX0_sumOf_30 : decode cX0_sumOf 30 = .ok (.iload 4, 2) := by decide +kernel
theorem dX0_sumOf_32 : decode cX0_sumOf 32 = .ok (.iadd, 1) := by decide +kernel
theorem dX0_sumOf_33 : decode cX0_sumOf 33 = .ok (.invokevirtual 108, 3) := by decide +kernel
theorem dX0_sumOf_36 : decode cX0_sumOf 36 = .ok (.iadd, 1) := by decide +kernel
theorem dX0_sumOf_37 : decode cX0_sumOf 37 = .ok (.istore_n 2, 1) := by decide +kernel
theorem dX0_sumOf_38 : decode cX0_sumOf 38 = .ok (.iinc 4 1, 3) := by decide +kernel
theorem dX0_sumOf_41 : decode cX0_sumOf 41 = .ok (.goto (-26), 3) := by decide +kernel
theorem dX0_sumOf_44 : decode cX0_sumOf 44 = .ok (.iload_n 2, 1) := by decide +kernel
theorem dX0_sumOf_45 : decode cX0_sumOf 45 = .ok (.ireturn, 1) := by decide +kernel
theorem dX0_bytesOtherThanIn_0 : decode cX0_bytesOtherThanIn 0 = .ok (.iconst 0, 1) := by decide +kernel
theorem dX0_bytesOtherThanIn_1 : decode cX0_bytesOtherThanIn 1 = .ok (.istore_n 2, 1) := by decide +kernel
theorem dX0_bytesOtherThanIn_2 : decode cX0_bytesOtherThanIn 2 = .ok (.iconst 0, 1) := by decide +kernel
theorem dX0_bytesOtherThanIn_3 : decode cX0_bytesOtherThanIn 3 = .ok (.istore_n 3, 1) := by decide +kernel
theorem dX0_bytesOtherThanIn_4 : decode cX0_bytesOtherThanIn 4 = .ok (.iload_n 3, 1) := by decide +kernel
theorem dX0_bytesOtherThanIn_5 : decode cX0_bytesOtherThanIn 5 = .ok (.aload_n 0, 1) := by decide +kernel
theorem dX0_bytesOtherThanIn_6 : decode cX0_bytesOtherThanIn 6 = .ok (.invokevirtual 112, 3) := by decide +kernel
theorem dX0_bytesOtherThanIn_9 : decode cX0_bytesOtherThanIn 9 = .ok (.if_icmp .ge 25, 3) := by decide +kernel
theorem dX0_bytesOtherThanIn_12 : decode cX0_bytesOtherThanIn 12 = .ok (.aload_n 0, 1) := by decide +kernel
theorem dX0_bytesOtherThanIn_13 : decode cX0_bytesOtherThanIn 13 = .ok (.iload_n 3, 1) := by decide +kernel
theorem dX0_bytesOtherThanIn_14 : decode cX0_bytesOtherThanIn 14 = .ok (.invokevirtual 108, 3) := by decide +kernel
theorem dX0_bytesOtherThanIn_17 : decode cX0_bytesOtherThanIn 17 = .ok (.aload_n 1, 1) := by decide +kernel
theorem dX0_bytesOtherThanIn_18 : decode cX0_bytesOtherThanIn 18 = .ok (.iload_n 3, 1) := by decide +kernel
theorem dX0_bytesOtherThanIn_19 : decode cX0_bytesOtherThanIn 19 = .ok (.invokevirtual 108, 3) := by decide +kernel
theorem dX0_bytesOtherThanIn_22 : decode cX0_bytesOtherThanIn 22 = .ok (.if_icmp .eq 6, 3) := by decide +kernel
theorem dX0_bytesOtherThanIn_25 : decode cX0_bytesOtherThanIn 25 = .ok (.iinc 2 1, 3) := by decide +kernel
theorem dX0_bytesOtherThanIn_28 : decode cX0_bytesOtherThanIn 28 = .ok (.iinc 3 1, 3) := by decide +kernel
theorem dX0_bytesOtherThanIn_31 : decode cX0_bytesOtherThanIn 31 = .ok (.goto (-27), 3) := by decide +kernel
theorem dX0_bytesOtherThanIn_34 : decode cX0_bytesOtherThanIn 34 = .ok (.iload_n 2, 1) := by decide +kernel
theorem dX0_bytesOtherThanIn_35 : decode cX0_bytesOtherThanIn 35 = .ok (.ireturn, 1) := by decide +kernel
theorem dX0_isLocked_0 : decode cX0_isLocked 0 = .ok (.iload_n 1, 1) := by decide +kernel
theorem dX0_isLocked_1 : decode cX0_isLocked 1 = .ok (.ifCond .lt 25, 3) := by decide +kernel
theorem dX0_isLocked_4 : decode cX0_isLocked 4 = .ok (.iload_n 1, 1) := by decide +kernel
theorem dX0_isLocked_5 : decode cX0_isLocked 5 = .ok (.aload_n 0, 1) := by decide +kernel
theorem dX0_isLocked_6 : decode cX0_isLocked 6 = .ok (.getfield 29, 3) := by decide +kernel
theorem dX0_isLocked_9 : decode cX0_isLocked 9 = .ok (.arraylength, 1) := by decide +kernel
theorem dX0_isLocked_10 : decode cX0_isLocked 10 = .ok (.if_icmp .ge 16, 3) := by decide +kernel
theorem dX0_isLocked_13 : decode cX0_isLocked 13 = .ok (.aload_n 0, 1) := by decide +kernel
theorem dX0_isLocked_14 : decode cX0_isLocked 14 = .ok (.getfield 29, 3) := by decide +kernel
theorem dX0_isLocked_17 : decode cX0_isLocked 17 = .ok (.iload_n 1, 1) := by decide +kernel
theorem dX0_isLocked_18 : decode cX0_isLocked 18 = .ok (.baload, 1) := by decide +kernel
theorem dX0_isLocked_19 : decode cX0_isLocked 19 = .ok (.ifCond .eq 7, 3) := by decide +kernel
theorem dX0_isLocked_22 : decode cX0_isLocked 22 = .ok (.iconst 1, 1) := by decide +kernel
theorem dX0_isLocked_23 : decode cX0_isLocked 23 = .ok (.goto 4, 3) := by decide +kernel
theorem dX0_isLocked_26 : decode cX0_isLocked 26 = .ok (.iconst 0, 1) := by decide +kernel
theorem dX0_isLocked_27 : decode cX0_isLocked 27 = .ok (.ireturn, 1) := by decide +kernel
theorem dX0_isGuarded_0 : decode cX0_isGuarded 0 = .ok (.aload_n 0, 1) := by decide +kernel
theorem dX0_isGuarded_1 : decode cX0_isGuarded 1 = .ok (.iload_n 1, 1) := by decide +kernel
theorem dX0_isGuarded_2 : decode cX0_isGuarded 2 = .ok (.invokevirtual 113, 3) := by decide +kernel
theorem dX0_isGuarded_5 : decode cX0_isGuarded 5 = .ok (.ifCond .ne 19, 3) := by decide +kernel
theorem dX0_isGuarded_8 : decode cX0_isGuarded 8 = .ok (.iload_n 1, 1) := by decide +kernel
theorem dX0_isGuarded_9 : decode cX0_isGuarded 9 = .ok (.aload_n 0, 1) := by decide +kernel
theorem dX0_isGuarded_10 : decode cX0_isGuarded 10 = .ok (.getfield 12, 3) := by decide +kernel
theorem dX0_isGuarded_13 : decode cX0_isGuarded 13 = .ok (.invokevirtual 117, 3) := by decide +kernel
theorem dX0_isGuarded_16 : decode cX0_isGuarded 16 = .ok (.aload_n 0, 1) := by decide +kernel
theorem dX0_isGuarded_17 : decode cX0_isGuarded 17 = .ok (.getfield 51, 3) := by decide +kernel
theorem dX0_isGuarded_20 : decode cX0_isGuarded 20 = .ok (.isub, 1) := by decide +kernel
theorem dX0_isGuarded_21 : decode cX0_isGuarded 21 = .ok (.if_icmp .lt 7, 3) := by decide +kernel
theorem dX0_isGuarded_24 : decode cX0_isGuarded 24 = .ok (.iconst 1, 1) := by decide +kernel
theorem dX0_isGuarded_25 : decode cX0_isGuarded 25 = .ok (.goto 4, 3) := by decide +kernel
theorem dX0_isGuarded_28 : decode cX0_isGuarded 28 = .ok (.iconst 0, 1) := by decide +kernel
theorem dX0_isGuarded_29 : decode cX0_isGuarded 29 = .ok (.ireturn, 1) := by decide +kernel
theorem dX0_isAnyGuarded_0 : decode cX0_isAnyGuarded 0 = .ok (.iconst 0, 1) := by decide +kernel
theorem dX0_isAnyGuarded_1 : decode cX0_isAnyGuarded 1 = .ok (.istore_n 1, 1) := by decide +kernel
theorem dX0_isAnyGuarded_2 : decode cX0_isAnyGuarded 2 = .ok (.iload_n 1, 1) := by decide +kernel
theorem dX0_isAnyGuarded_3 : decode cX0_isAnyGuarded 3 = .ok (.aload_n 0, 1) := by decide +kernel
theorem dX0_isAnyGuarded_4 : decode cX0_isAnyGuarded 4 = .ok (.getfield 12, 3) := by decide +kernel
theorem dX0_isAnyGuarded_7 : decode cX0_isAnyGuarded 7 = .ok (.invokevirtual 117, 3) := by decide +kernel
theorem dX0_isAnyGuarded_10 : decode cX0_isAnyGuarded 10 = .ok (.if_icmp .ge 19, 3) := by decide +kernel
theorem dX0_isAnyGuarded_13 : decode cX0_isAnyGuarded 13 = .ok (.aload_n 0, 1) := by decide +kernel
theorem dX0_isAnyGuarded_14 : decode cX0_isAnyGuarded 14 = .ok (.iload_n 1, 1) := by decide +kernel
theorem dX0_isAnyGuarded_15 : decode cX0_isAnyGuarded 15 = .ok (.invokevirtual 120, 3) := by decide +kernel
theorem dX0_isAnyGuarded_18 : decode cX0_isAnyGuarded 18 = .ok (.ifCond .eq 5, 3) := by decide +kernel
theorem dX0_isAnyGuarded_21 : decode cX0_isAnyGuarded 21 = .ok (.iconst 1, 1) := by decide +kernel
theorem dX0_isAnyGuarded_22 : decode cX0_isAnyGuarded 22 = .ok (.ireturn, 1) := by decide +kernel
theorem dX0_isAnyGuarded_23 : decode cX0_isAnyGuarded 23 = .ok (.iinc 1 1, 3) := by decide +kernel
theorem dX0_isAnyGuarded_26 : decode cX0_isAnyGuarded 26 = .ok (.goto (-24), 3) := by decide +kernel
theorem dX0_isAnyGuarded_29 : decode cX0_isAnyGuarded 29 = .ok (.iconst 0, 1) := by decide +kernel
theorem dX0_isAnyGuarded_30 : decode cX0_isAnyGuarded 30 = .ok (.ireturn, 1) := by decide +kernel
theorem dX0_isBeingErased_0 : decode cX0_isBeingErased 0 = .ok (.aload_n 0, 1) := by decide +kernel
theorem dX0_isBeingErased_1 : decode cX0_isBeingErased 1 = .ok (.getfield 61, 3) := by decide +kernel
theorem dX0_isBeingErased_4 : decode cX0_isBeingErased 4 = .ok (.sipush 199, 3) := by decide +kernel
theorem dX0_isBeingErased_7 : decode cX0_isBeingErased 7 = .ok (.if_icmp .eq 28, 3) := by decide +kernel
theorem dX0_isBeingErased_10 : decode cX0_isBeingErased 10 = .ok (.aload_n 0, 1) := by decide +kernel
theorem dX0_isBeingErased_11 : decode cX0_isBeingErased 11 = .ok (.getfield 61, 3) := by decide +kernel
theorem dX0_isBeingErased_14 : decode cX0_isBeingErased 14 = .ok (.bipush 32, 2) := by decide +kernel
theorem dX0_isBeingErased_16 : decode cX0_isBeingErased 16 = .ok (.if_icmp .ne 11, 3) := by decide +kernel
theorem dX0_isBeingErased_19 : decode cX0_isBeingErased 19 = .ok (.aload_n 0, 1) := by decide +kernel
theorem dX0_isBeingErased_20 : decode cX0_isBeingErased 20 = .ok (.getfield 64, 3) := by decide +kernel
theorem dX0_isBeingErased_23 : decode cX0_isBeingErased 23 = .ok (.iload_n 1, 1) := by decide +kernel
theorem dX0_isBeingErased_24 : decode cX0_isBeingErased 24 = .ok (.if_icmp .eq 11, 3) := by decide +kernel
theorem dX0_isBeingErased_27 : decode cX0_isBeingErased 27 = .ok (.aload_n 0, 1) := by decide +kernel
theorem dX0_isBeingErased_28 : decode cX0_isBeingErased 28 = .ok (.getfield 70, 3) := by decide +kernel
theorem dX0_isBeingErased_31 : decode cX0_isBeingErased 31 = .ok (.iload_n 1, 1) := by decide +kernel
theorem dX0_isBeingErased_32 : decode cX0_isBeingErased 32 = .ok (.if_icmp .ne 7, 3) := by decide +kernel
theorem dX0_isBeingErased_35 : decode cX0_isBeingErased 35 = .ok (.iconst 1, 1) := by decide +kernel
theorem dX0_isBeingErased_36 : decode cX0_isBeingErased 36 = .ok (.goto 4, 3) := by decide +kernel
theorem dX0_isBeingErased_39 : decode cX0_isBeingErased 39 = .ok (.iconst 0, 1) := by decide +kernel
theorem dX0_isBeingErased_40 : decode cX0_isBeingErased 40 = .ok (.ireturn, 1) := by decide +kernel
theorem dX0_open_0 : decode cX0_open 0 = .ok (.aload_n 0, 1) := by decide +kernel
theorem dX0_open_1 : decode cX0_open 1 = .ok (.getfield 21, 3) := by decide +kernel
theorem dX0_open_4 : decode cX0_open 4 = .ok (.invokevirtual 123, 3) := by decide +kernel
theorem dX0_open_7 : decode cX0_open 7 = .ok (.return_, 1) := by decide +kernel
theorem dX0_accept_0 : decode cX0_accept 0 = .ok (.aload_n 0, 1) := by decide +kernel
theorem dX0_accept_1 : decode cX0_accept 1 = .ok (.invokevirtual 126, 3) := by decide +kernel
theorem dX0_accept_4 : decode cX0_accept 4 = .ok (.istore_n 2, 1) := by decide +kernel
theorem dX0_accept_5 : decode cX0_accept 5 = .ok (.aload_n 0, 1) := by decide +kernel
theorem dX0_accept_6 : decode cX0_accept 6 = .ok (.getfield 21, 3) := by decide +kernel
theorem dX0_accept_9 : decode cX0_accept 9 = .ok (.iload_n 1, 1) := by decide +kernel
theorem dX0_accept_10 : decode cX0_accept 10 = .ok (.aload_n 0, 1) := by decide +kernel
theorem dX0_accept_11 : decode cX0_accept 11 = .ok (.getfield 12, 3) := by decide +kernel
theorem dX0_accept_14 : decode cX0_accept 14 = .ok (.invokevirtual 129, 3) := by decide +kernel
theorem dX0_accept_17 : decode cX0_accept 17 = .ok (.invokevirtual 132, 3) := by decide +kernel
theorem dX0_accept_20 : decode cX0_accept 20 = .ok (.aload_n 0, 1) := by decide +kernel
theorem dX0_accept_21 : decode cX0_accept 21 = .ok (.aload_n 0, 1) := by decide +kernel
theorem dX0_accept_22 : decode cX0_accept 22 = .ok (.getfield 76, 3) := by decide +kernel
theorem dX0_accept_25 : decode cX0_accept 25 = .ok (.bipush 8, 2) := by decide +kernel
theorem dX0_accept_27 : decode cX0_accept 27 = .ok (.aload_n 0, 1) := by decide +kernel
theorem dX0_accept_28 : decode cX0_accept 28 = .ok (.getfield 47, 3) := by decide +kernel
theorem dX0_accept_31 : decode cX0_accept 31 = .ok (.ishr, 1) := by decide +kernel
theorem dX0_accept_32 : decode cX0_accept 32 = .ok (.iadd, 1) := by decide +kernel
theorem dX0_accept_33 : decode cX0_accept 33 = .ok (.ldc 135, 2) := by decide +kernel
theorem dX0_accept_35 : decode cX0_accept 35 = .ok (.irem, 1) := by decide +kernel
theorem dX0_accept_36 : decode cX0_accept 36 = .ok (.putfield 76, 3) := by decide +kernel
theorem dX0_accept_39 : decode cX0_accept 39 = .ok (.iload_n 2, 1) := by decide +kernel
theorem dX0_accept_40 : decode cX0_accept 40 = .ok (.ireturn, 1) := by decide +kernel
theorem dX0_answerToNext_0 : decode cX0_answerToNext 0 = .ok (.aload_n 0, 1) := by decide +kernel
theorem dX0_answerToNext_1 : decode cX0_answerToNext 1 = .ok (.getfield 21, 3) := by decide +kernel
theorem dX0_answerToNext_4 : decode cX0_answerToNext 4 = .ok (.invokevirtual 92, 3) := by decide +kernel
theorem dX0_answerToNext_7 : decode cX0_answerToNext 7 = .ok (.ifCond .ne 7, 3) := by decide +kernel
theorem dX0_answerToNext_10 : decode cX0_answerToNext 10 = .ok (.sipush 255, 3) := by decide +kernel
theorem dX0_answerToNext_13 : decode cX0_answerToNext 13 = .ok (.ireturn, 1) := by decide +kernel
theorem dX0_answerToNext_14 : decode cX0_answerToNext 14 = .ok (.aload_n 0, 1) := by decide +kernel
theorem dX0_answerToNext_15 : decode cX0_answerToNext 15 = .ok (.getfield 21, 3) := by decide +kernel
theorem dX0_answerToNext_18 : decode cX0_answerToNext 18 = .ok (.invokevirtual 136, 3) := by decide +kernel
theorem dX0_answerToNext_21 : decode cX0_answerToNext 21 = .ok (.iconst 5, 1) := by decide +kernel
theorem dX0_answerToNext_22 : decode cX0_answerToNext 22 = .ok (.if_icmp .ne 8, 3) := by decide +kernel
theorem dX0_answerToNext_25 : decode cX0_answerToNext 25 = .ok (.aload_n 0, 1) := by decide +kernel
theorem dX0_answerToNext_26 : decode cX0_answerToNext 26 = .ok (.invokevirtual 139, 3) := by decide +kernel
theorem dX0_answerToNext_29 : decode cX0_answerToNext 29 = .ok (.ireturn, 1) := by decide +kernel
theorem dX0_answerToNext_30 : decode cX0_answerToNext 30 = .ok (.aload_n 0, 1) := by decide +kernel
theorem dX0_answerToNext_31 : decode cX0_answerToNext 31 = .ok (.invokevirtual 99, 3) := by decide +kernel
theorem dX0_answerToNext_34 : decode cX0_answerToNext 34 = .ok (.ifCond .eq 9, 3) := by decide +kernel
theorem dX0_answerToNext_37 : decode cX0_answerToNext 37 = .ok (.sipush 255, 3) := by decide +kernel
theorem dX0_answerToNext_40 : decode cX0_answerToNext 40 = .ok (.goto 7, 3) := by decide +kernel
theorem dX0_answerToNext_43 : decode cX0_answerToNext 43 = .ok (.aload_n 0, 1) := by decide +kernel
theorem dX0_answerToNext_44 : decode cX0_answerToNext 44 = .ok (.invokevirtual 142, 3) := by decide +kernel
theorem dX0_answerToNext_47 : decode cX0_answerToNext 47 = .ok (.ireturn, 1) := by decide +kernel
theorem dX0_contentForNext_0 : decode cX0_contentForNext 0 = .ok (.aload_n 0, 1) := by decide +kernel
theorem dX0_contentForNext_1 : decode cX0_contentForNext 1 = .ok (.getfield 21, 3) := by decide +kernel
theorem dX0_contentForNext_4 : decode cX0_contentForNext 4 = .ok (.invokevirtual 92, 3) := by decide +kernel
theorem dX0_contentForNext_7 : decode cX0_contentForNext 7 = .ok (.istore_n 1, 1) := by decide +kernel
theorem dX0_contentForNext_8 : decode cX0_contentForNext 8 = .ok (.aload_n 0, 1) := by decide +kernel
theorem dX0_contentForNext_9 : decode cX0_contentForNext 9 = .ok (.getfield 21, 3) := by decide +kernel
theorem dX0_contentForNext_12 : decode cX0_contentForNext 12 = .ok (.invokevirtual 136, 3) := by decide +kernel
theorem dX0_contentForNext_15 : decode cX0_contentForNext 15 = .ok (.lookupswitch 131 #[(3, 33), (11, 67), (90, 101)], 33) := by decide +kernel
theorem dX0_contentForNext_48 : decode cX0_contentForNext 48 = .ok (.iload_n 1, 1) := by decide +kernel
theorem dX0_contentForNext_49 : decode cX0_contentForNext 49 = .ok (.iconst 2, 1) := by decide +kernel
theorem dX0_contentForNext_50 : decode cX0_contentForNext 50 = .ok (.if_icmp .ge 9, 3) := by decide +kernel
theorem dX0_contentForNext_53 : decode cX0_contentForNext 53 = .ok (.sipush 255, 3) := by decide +kernel
theorem dX0_contentForNext_56 : decode cX0_contentForNext 56 = .ok (.goto 25, 3) := by decide +kernel
theorem dX0_contentForNext_59 : decode cX0_contentForNext 59 = .ok (.aload_n 0, 1) := by decide +kernel
theorem dX0_contentForNext_60 : decode cX0_contentForNext 60 = .ok (.aload_n 0, 1) := by decide +kernel
theorem dX0_contentForNext_61 : decode cX0_contentForNext 61 = .ok (.getfield 21, 3) := by decide +kernel
theorem dX0_contentForNext_64 : decode cX0_contentForNext 64 = .ok (.invokevirtual 145, 3) := by decide +kernel
theorem dX0_contentForNext_67 : decode cX0_contentForNext 67 = .ok (.iload_n 1, 1) := by decide +kernel
theorem dX0_contentForNext_68 : decode cX0_contentForNext 68 = .ok (.iadd, 1) := by decide +kernel
theorem dX0_contentForNext_69 : decode cX0_contentForNext 69 = .ok (.iconst 2, 1) := by decide +kernel
theorem dX0_contentForNext_70 : decode cX0_contentForNext 70 = .ok (.isub, 1) := by decide +kernel
theorem dX0_contentForNext_71 : decode cX0_contentForNext 71 = .ok (.aload_n 0, 1) := by decide +kernel
theorem dX0_contentForNext_72 : decode cX0_contentForNext 72 = .ok (.invokevirtual 112, 3) := by decide +kernel
theorem dX0_contentForNext_75 : decode cX0_contentForNext 75 = .ok (.invokestatic 148, 3) := by decide +kernel
theorem dX0_contentForNext_78 : decode cX0_contentForNext 78 = .ok (.invokevirtual 108, 3) := by decide +kernel
theorem dX0_contentForNext_81 : decode cX0_contentForNext 81 = .ok (.ireturn, 1) := by decide +kernel
theorem dX0_contentForNext_82 : decode cX0_contentForNext 82 = .ok (.iload_n 1, 1) := by decide +kernel
theorem dX0_contentForNext_83 : decode cX0_contentForNext 83 = .ok (.iconst 3, 1) := by decide +kernel
theorem dX0_contentForNext_84 : decode cX0_contentForNext 84 = .ok (.if_icmp .ge 9, 3) := by decide +kernel
theorem dX0_contentForNext_87 : decode cX0_contentForNext 87 = .ok (.sipush 255, 3) := by decide +kernel
theorem dX0_contentForNext_90 : decode cX0_contentForNext 90 = .ok (.goto 25, 3) := by decide +kernel
theorem dX0_contentForNext_93 : decode cX0_contentForNext 93 = .ok (.aload_n 0, 1) := by decide +kernel
theorem dX0_contentForNext_94 : decode cX0_contentForNext 94 = .ok (.aload_n 0, 1) := by decide +kernel
theorem dX0_contentForNext_95 : decode cX0_contentForNext 95 = .ok (.getfield 21, 3) := by decide +kernel
theorem dX0_contentForNext_98 : decode cX0_contentForNext 98 = .ok (.invokevirtual 145, 3) := by decide +kernel
theorem dX0_contentForNext_101 : decode cX0_contentForNext 101 = .ok (.iload_n 1, 1) := by decide +kernel
theorem dX0_contentForNext_102 : decode cX0_contentForNext 102 = .ok (.iadd, 1) := by decide +kernel
theorem dX0_contentForNext_103 : decode cX0_contentForNext 103 = .ok (.iconst 3, 1) := by decide +kernel
theorem dX0_contentForNext_104 : decode cX0_contentForNext 104 = .ok (.isub, 1) := by decide +kernel
theorem dX0_contentForNext_105 : decode cX0_contentForNext 105 = .ok (.aload_n 0, 1) := by decide +kernel
theorem dX0_contentForNext_106 : decode cX0_contentForNext 106 = .ok (.invokevirtual 112, 3) := by decide +kernel
theorem dX0_contentForNext_109 : decode cX0_contentForNext 109 = .ok (.invokestatic 148, 3) := by decide +kernel
theorem dX0_contentForNext_112 : decode cX0_contentForNext 112 = .ok (.invokevirtual 108, 3) := by decide +kernel
theorem dX0_contentForNext_115 : decode cX0_contentForNext 115 = .ok (.ireturn, 1) := by decide +kernel
theorem dX0_contentForNext_116 : decode cX0_contentForNext 116 = .ok (.iload_n 1, 1) := by decide +kernel
theorem dX0_contentForNext_117 : decode cX0_contentForNext 117 = .ok (.iconst 3, 1) := by decide +kernel
theorem dX0_contentForNext_118 : decode cX0_contentForNext 118 = .ok (.if_icmp .ge 9, 3) := by decide +kernel
theorem dX0_contentForNext_121 : decode cX0_contentForNext 121 = .ok (.sipush 255, 3) := by decide +kernel
theorem dX0_contentForNext_124 : decode cX0_contentForNext 124 = .ok (.goto 21, 3) := by decide +kernel
theorem dX0_contentForNext_127 : decode cX0_contentForNext 127 = .ok (.aload_n 0, 1) := by decide +kernel
theorem dX0_contentForNext_128 : decode cX0_contentForNext 128 = .ok (.getfield 12, 3) := by decide +kernel
theorem dX0_contentForNext_131 : decode cX0_contentForNext 131 = .ok (.aload_n 0, 1) := by decide +kernel
theorem dX0_contentForNext_132 : decode cX0_contentForNext 132 = .ok (.getfield 21, 3) := by decide +kernel
theorem dX0_contentForNext_135 : decode cX0_contentForNext 135 = .ok (.invokevirtual 145, 3) := by decide +kernel
theorem dX0_contentForNext_138 : decode cX0_contentForNext 138 = .ok (.iload_n 1, 1) := by decide +kernel
theorem dX0_contentForNext_139 : decode cX0_contentForNext 139 = .ok (.iadd, 1) := by decide +kernel
theorem dX0_contentForNext_140 : decode cX0_contentForNext 140 = .ok (.iconst 3, 1) := by decide +kernel
theorem dX0_contentForNext_141 : decode cX0_contentForNext 141 = .ok (.isub, 1) := by decide +kernel
theorem dX0_contentForNext_142 : decode cX0_contentForNext 142 = .ok (.invokevirtual 152, 3) := by decide +kernel
theorem dX0_contentForNext_145 : decode cX0_contentForNext 145 = .ok (.ireturn, 1) := by decide +kernel
theorem dX0_contentForNext_146 : decode cX0_contentForNext 146 = .ok (.sipush 255, 3) := by decide +kernel
theorem dX0_contentForNext_149 : decode cX0_contentForNext 149 = .ok (.ireturn, 1) := by decide +kernel
theorem dX0_close_0 : decode cX0_close 0 = .ok (.aload_n 0, 1) := by decide +kernel
theorem dX0_close_1 : decode cX0_close 1 = .ok (.getfield 82, 3) := by decide +kernel
theorem dX0_close_4 : decode cX0_close 4 = .ok (.istore_n 1, 1) := by decide +kernel
theorem dX0_close_5 : decode cX0_close 5 = .ok (.aload_n 0, 1) := by decide +kernel
theorem dX0_close_6 : decode cX0_close 6 = .ok (.iconst 0, 1) := by decide +kernel
theorem dX0_close_7 : decode cX0_close 7 = .ok (.putfield 82, 3) := by decide +kernel
theorem dX0_close_10 : decode cX0_close 10 = .ok (.aload_n 0, 1) := by decide +kernel
theorem dX0_close_11 : decode cX0_close 11 = .ok (.getfield 21, 3) := by decide +kernel
theorem dX0_close_14 : decode cX0_close 14 = .ok (.invokevirtual 92, 3) := by decide +kernel
theorem dX0_close_17 : decode cX0_close 17 = .ok (.iconst 1, 1) := by decide +kernel
theorem dX0_close_18 : decode cX0_close 18 = .ok (.isub, 1) := by decide +kernel
theorem dX0_close_19 : decode cX0_close 19 = .ok (.istore_n 2, 1) := by decide +kernel
theorem dX0_close_20 : decode cX0_close 20 = .ok (.aload_n 0, 1) := by decide +kernel
theorem dX0_close_21 : decode cX0_close 21 = .ok (.invokevirtual 99, 3) := by decide +kernel
theorem dX0_close_24 : decode cX0_close 24 = .ok (.ifCond .eq 26, 3) := by decide +kernel
theorem dX0_close_27 : decode cX0_close 27 = .ok (.iload_n 2, 1) := by decide +kernel
theorem dX0_close_28 : decode cX0_close 28 = .ok (.ifCond .ne 87, 3) := by decide +kernel
theorem dX0_close_31 : decode cX0_close 31 = .ok (.aload_n 0, 1) := by decide +kernel
theorem dX0_close_32 : decode cX0_close 32 = .ok (.getfield 21, 3) := by decide +kernel
theorem dX0_close_35 : decode cX0_close 35 = .ok (.invokevirtual 136, 3) := by decide +kernel
theorem dX0_close_38 : decode cX0_close 38 = .ok (.bipush 117, 2) := by decide +kernel
theorem dX0_close_40 : decode cX0_close 40 = .ok (.if_icmp .ne 75, 3) := by decide +kernel
theorem dX0_close_43 : decode cX0_close 43 = .ok (.aload_n 0, 1) := by decide +kernel
theorem dX0_close_44 : decode cX0_close 44 = .ok (.invokevirtual 155, 3) := by decide +kernel
theorem dX0_close_47 : decode cX0_close 47 = .ok (.goto 68, 3) := by decide +kernel
theorem dX0_close_50 : decode cX0_close 50 = .ok (.iload_n 2, 1) := by decide +kernel
theorem dX0_close_51 : decode cX0_close 51 = .ok (.ifCond .ne 11, 3) := by decide +kernel
theorem dX0_close_54 : decode cX0_close 54 = .ok (.aload_n 0, 1) := by decide +kernel
theorem dX0_close_55 : decode cX0_close 55 = .ok (.iload_n 1, 1) := by decide +kernel
theorem dX0_close_56 : decode cX0_close 56 = .ok (.invokevirtual 158, 3) := by decide +kernel
theorem dX0_close_59 : decode cX0_close 59 = .ok (.goto 56, 3) := by decide +kernel
theorem dX0_close_62 : decode cX0_close 62 = .ok (.iload_n 2, 1) := by decide +kernel
theorem dX0_close_63 : decode cX0_close 63 = .ok (.iconst 1, 1) := by decide +kernel
theorem dX0_close_64 : decode cX0_close 64 = .ok (.if_icmp .ne 17, 3) := by decide +kernel
theorem dX0_close_67 : decode cX0_close 67 = .ok (.aload_n 0, 1) := by decide +kernel
theorem dX0_close_68 : decode cX0_close 68 = .ok (.aload_n 0, 1) := by decide +kernel
theorem dX0_close_69 : decode cX0_close 69 = .ok (.getfield 21, 3) := by decide +kernel
theorem dX0_close_72 : decode cX0_close 72 = .ok (.invokevirtual 145, 3) := by decide +kernel
theorem dX0_close_75 : decode cX0_close 75 = .ok (.invokevirtual 162, 3) := by decide +kernel
theorem dX0_close_78 : decode cX0_close 78 = .ok (.goto 37, 3) := by decide +kernel
theorem dX0_close_81 : decode cX0_close 81 = .ok (.iload_n 2, 1) := by decide +kernel
theorem dX0_close_82 : decode cX0_close 82 = .ok (.iconst 1, 1) := by decide +kernel
theorem dX0_close_83 : decode cX0_close 83 = .ok (.if_icmp .le 32, 3) := by decide +kernel
theorem dX0_close_86 : decode cX0_close 86 = .ok (.aload_n 0, 1) := by decide +kernel
theorem dX0_close_87 : decode cX0_close 87 = .ok (.getfield 21, 3) := by decide +kernel
theorem dX0_close_90 : decode cX0_close 90 = .ok (.invokevirtual 136, 3) := by decide +kernel
theorem dX0_close_93 : decode cX0_close 93 = .ok (.iconst 2, 1) := by decide +kernel
theorem dX0_close_94 : decode cX0_close 94 = .ok (.if_icmp .ne 21, 3) := by decide +kernel
theorem dX0_close_97 : decode cX0_close 97 = .ok (.aload_n 0, 1) := by decide +kernel
theorem dX0_close_98 : decode cX0_close 98 = .ok (.aload_n 0, 1) := by decide +kernel
theorem dX0_close_99 : decode cX0_close 99 = .ok (.getfield 21, 3) := by decide +kernel
theorem dX0_close_102 : decode cX0_close 102 = .ok (.invokevirtual 145, 3) := by decide +kernel
theorem dX0_close_105 : decode cX0_close 105 = .ok (.aload_n 0, 1) := by decide +kernel
theorem dX0_close_106 : decode cX0_close 106 = .ok (.invokevirtual 112, 3) := by decide +kernel
theorem dX0_close_109 : decode cX0_close 109 = .ok (.invokestatic 148, 3) := by decide +kernel
theorem dX0_close_112 : decode cX0_close 112 = .ok (.invokevirtual 166, 3) := by decide +kernel
theorem dX0_close_115 : decode cX0_close 115 = .ok (.aload_n 0, 1) := by decide +kernel
theorem dX0_close_116 : decode cX0_close 116 = .ok (.getfield 21, 3) := by decide +kernel
theorem dX0_close_119 : decode cX0_close 119 = .ok (.invokevirtual 40, 3) := by decide +kernel
theorem dX0_close_122 : decode cX0_close 122 = .ok (.return_, 1) := by decide +kernel
theorem dX0_obeyAlone_0 : decode cX0_obeyAlone 0 = .ok (.aload_n 0, 1) := by decide +kernel
theorem dX0_obeyAlone_1 : decode cX0_obeyAlone 1 = .ok (.getfield 21, 3) := by decide +kernel
theorem dX0_obeyAlone_4 : decode cX0_obeyAlone 4 = .ok (.invokevirtual 136, 3) := by decide +kernel
theorem dX0_obeyAlone_7 : decode cX0_obeyAlone 7 = .ok (.lookupswitch 111 #[(4, 70), (6, 57), (102, 92), (122, 85), (153, 100), (199, 78)], 57) := by decide +kernel
theorem dX0_obeyAlone_64 : decode cX0_obeyAlone 64 = .ok (.aload_n 0, 1) := by decide +kernel
theorem dX0_obeyAlone_65 : decode cX0_obeyAlone 65 = .ok (.iconst 1, 1) := by decide +kernel
theorem dX0_obeyAlone_66 : decode cX0_obeyAlone 66 = .ok (.putfield 54, 3) := by decide +kernel
theorem dX0_obeyAlone_69 : decode cX0_obeyAlone 69 = .ok (.aload_n 0, 1) := by decide +kernel
theorem dX0_obeyAlone_70 : decode cX0_obeyAlone 70 = .ok (.iconst 0, 1) := by decide +kernel
theorem dX0_obeyAlone_71 : decode cX0_obeyAlone 71 = .ok (.putfield 58, 3) := by decide +kernel
theorem dX0_obeyAlone_74 : decode cX0_obeyAlone 74 = .ok (.goto 44, 3) := by decide +kernel
theorem dX0_obeyAlone_77 : decode cX0_obeyAlone 77 = .ok (.aload_n 0, 1) := by decide +kernel
theorem dX0_obeyAlone_78 : decode cX0_obeyAlone 78 = .ok (.iconst 0, 1) := by decide +kernel
theorem dX0_obeyAlone_79 : decode cX0_obeyAlone 79 = .ok (.putfield 54, 3) := by decide +kernel
theorem dX0_obeyAlone_82 : decode cX0_obeyAlone 82 = .ok (.goto 36, 3) := by decide +kernel
theorem dX0_obeyAlone_85 : decode cX0_obeyAlone 85 = .ok (.aload_n 0, 1) := by decide +kernel
theorem dX0_obeyAlone_86 : decode cX0_obeyAlone 86 = .ok (.invokevirtual 169, 3) := by decide +kernel
theorem dX0_obeyAlone_89 : decode cX0_obeyAlone 89 = .ok (.goto 29, 3) := by decide +kernel
theorem dX0_obeyAlone_92 : decode cX0_obeyAlone 92 = .ok (.aload_n 0, 1) := by decide +kernel
theorem dX0_obeyAlone_93 : decode cX0_obeyAlone 93 = .ok (.invokevirtual 172, 3) := by decide +kernel
theorem dX0_obeyAlone_96 : decode cX0_obeyAlone 96 = .ok (.goto 22, 3) := by decide +kernel
theorem dX0_obeyAlone_99 : decode cX0_obeyAlone 99 = .ok (.aload_n 0, 1) := by decide +kernel
theorem dX0_obeyAlone_100 : decode cX0_obeyAlone 100 = .ok (.iconst 1, 1) := by decide +kernel
theorem dX0_obeyAlone_101 : decode cX0_obeyAlone 101 = .ok (.putfield 82, 3) := by decide +kernel
theorem dX0_obeyAlone_104 : decode cX0_obeyAlone 104 = .ok (.goto 14, 3) := by decide +kernel
theorem dX0_obeyAlone_107 : decode cX0_obeyAlone 107 = .ok (.iload_n 1, 1) := by decide +kernel
theorem dX0_obeyAlone_108 : decode cX0_obeyAlone 108 = .ok (.ifCond .eq 10, 3) := by decide +kernel
theorem dX0_obeyAlone_111 : decode cX0_obeyAlone 111 = .ok (.aload_n 0, 1) := by decide +kernel
theorem dX0_obeyAlone_112 : decode cX0_obeyAlone 112 = .ok (.invokevirtual 175, 3) := by decide +kernel
theorem dX0_obeyAlone_115 : decode cX0_obeyAlone 115 = .ok (.goto 3, 3) := by decide +kernel
theorem dX0_obeyAlone_118 : decode cX0_obeyAlone 118 = .ok (.return_, 1) := by decide +kernel
theorem dX0_obeyWithByte_0 : decode cX0_obeyWithByte 0 = .ok (.iload_n 1, 1) := by decide +kernel
theorem dX0_obeyWithByte_1 : decode cX0_obeyWithByte 1 = .ok (.aload_n 0, 1) := by decide +kernel
theorem dX0_obeyWithByte_2 : decode cX0_obeyWithByte 2 = .ok (.invokevirtual 112, 3) := by decide +kernel
theorem dX0_obeyWithByte_5 : decode cX0_obeyWithByte 5 = .ok (.invokestatic 148, 3) := by decide +kernel
theorem dX0_obeyWithByte_8 : decode cX0_obeyWithByte 8 = .ok (.aload_n 0, 1) := by decide +kernel
theorem dX0_obeyWithByte_9 : decode cX0_obeyWithByte 9 = .ok (.getfield 12, 3) := by decide +kernel
theorem dX0_obeyWithByte_12 : decode cX0_obeyWithByte 12 = .ok (.invokevirtual 105, 3) := by decide +kernel
theorem dX0_obeyWithByte_15 : decode cX0_obeyWithByte 15 = .ok (.invokestatic 178, 3) := by decide +kernel
theorem dX0_obeyWithByte_18 : decode cX0_obeyWithByte 18 = .ok (.istore_n 2, 1) := by decide +kernel
theorem dX0_obeyWithByte_19 : decode cX0_obeyWithByte 19 = .ok (.aload_n 0, 1) := by decide +kernel
theorem dX0_obeyWithByte_20 : decode cX0_obeyWithByte 20 = .ok (.getfield 21, 3) := by decide +kernel
theorem dX0_obeyWithByte_23 : decode cX0_obeyWithByte 23 = .ok (.invokevirtual 136, 3) := by decide +kernel
theorem dX0_obeyWithByte_26 : decode cX0_obeyWithByte 26 = .ok (.lookupswitch 113 #[(1, 50), (32, 74), (49, 82), (54, 95), (57, 104)], 50) := by decide +kernel
theorem dX0_obeyWithByte_76 : decode cX0_obeyWithByte 76 = .ok (.aload_n 0, 1) := by decide +kernel
theorem dX0_obeyWithByte_77 : decode cX0_obeyWithByte 77 = .ok (.aload_n 0, 1) := by decide +kernel
theorem dX0_obeyWithByte_78 : decode cX0_obeyWithByte 78 = .ok (.invokevirtual 102, 3) := by decide +kernel
theorem dX0_obeyWithByte_81 : decode cX0_obeyWithByte 81 = .ok (.invokevirtual 181, 3) := by decide +kernel
theorem dX0_obeyWithByte_84 : decode cX0_obeyWithByte 84 = .ok (.ifCond .eq 55, 3) := by decide +kernel
theorem dX0_obeyWithByte_87 : decode cX0_obeyWithByte 87 = .ok (.aload_n 0, 1) := by decide +kernel
theorem dX0_obeyWithByte_88 : decode cX0_obeyWithByte 88 = .ok (.iload_n 1, 1) := by decide +kernel
theorem dX0_obeyWithByte_89 : decode cX0_obeyWithByte 89 = .ok (.iconst 4, 1) := by decide +kernel
theorem dX0_obeyWithByte_90 : decode cX0_obeyWithByte 90 = .ok (.idiv, 1) := by decide +kernel
theorem dX0_obeyWithByte_91 : decode cX0_obeyWithByte 91 = .ok (.bipush 8, 2) := by decide +kernel
theorem dX0_obeyWithByte_93 : decode cX0_obeyWithByte 93 = .ok (.irem, 1) := by decide +kernel
theorem dX0_obeyWithByte_94 : decode cX0_obeyWithByte 94 = .ok (.putfield 51, 3) := by decide +kernel
theorem dX0_obeyWithByte_97 : decode cX0_obeyWithByte 97 = .ok (.goto 42, 3) := by decide +kernel
theorem dX0_obeyWithByte_100 : decode cX0_obeyWithByte 100 = .ok (.aload_n 0, 1) := by decide +kernel
theorem dX0_obeyWithByte_101 : decode cX0_obeyWithByte 101 = .ok (.iload_n 2, 1) := by decide +kernel
theorem dX0_obeyWithByte_102 : decode cX0_obeyWithByte 102 = .ok (.invokevirtual 185, 3) := by decide +kernel
theorem dX0_obeyWithByte_105 : decode cX0_obeyWithByte 105 = .ok (.goto 34, 3) := by decide +kernel
theorem dX0_obeyWithByte_108 : decode cX0_obeyWithByte 108 = .ok (.iload_n 1, 1) := by decide +kernel
theorem dX0_obeyWithByte_109 : decode cX0_obeyWithByte 109 = .ok (.iconst 3, 1) := by decide +kernel
theorem dX0_obeyWithByte_110 : decode cX0_obeyWithByte 110 = .ok (.if_icmp .gt 29, 3) := by decide +kernel
theorem dX0_obeyWithByte_113 : decode cX0_obeyWithByte 113 = .ok (.aload_n 0, 1) := by decide +kernel
theorem dX0_obeyWithByte_114 : decode cX0_obeyWithByte 114 = .ok (.iload_n 1, 1) := by decide +kernel
theorem dX0_obeyWithByte_115 : decode cX0_obeyWithByte 115 = .ok (.putfield 47, 3) := by decide +kernel
theorem dX0_obeyWithByte_118 : decode cX0_obeyWithByte 118 = .ok (.goto 21, 3) := by decide +kernel
theorem dX0_obeyWithByte_121 : decode cX0_obeyWithByte 121 = .ok (.aload_n 0, 1) := by decide +kernel
theorem dX0_obeyWithByte_122 : decode cX0_obeyWithByte 122 = .ok (.iload_n 2, 1) := by decide +kernel
theorem dX0_obeyWithByte_123 : decode cX0_obeyWithByte 123 = .ok (.iconst 1, 1) := by decide +kernel
theorem dX0_obeyWithByte_124 : decode cX0_obeyWithByte 124 = .ok (.invokevirtual 188, 3) := by decide +kernel
theorem dX0_obeyWithByte_127 : decode cX0_obeyWithByte 127 = .ok (.goto 12, 3) := by decide +kernel
theorem dX0_obeyWithByte_130 : decode cX0_obeyWithByte 130 = .ok (.aload_n 0, 1) := by decide +kernel
theorem dX0_obeyWithByte_131 : decode cX0_obeyWithByte 131 = .ok (.iload_n 2, 1) := by decide +kernel
theorem dX0_obeyWithByte_132 : decode cX0_obeyWithByte 132 = .ok (.iconst 0, 1) := by decide +kernel
theorem dX0_obeyWithByte_133 : decode cX0_obeyWithByte 133 = .ok (.invokevirtual 188, 3) := by decide +kernel
theorem dX0_obeyWithByte_136 : decode cX0_obeyWithByte 136 = .ok (.goto 3, 3) := by decide +kernel
theorem dX0_obeyWithByte_139 : decode cX0_obeyWithByte 139 = .ok (.return_, 1) := by decide +kernel
theorem dX0_mayBegin_0 : decode cX0_mayBegin 0 = .ok (.aload_n 0, 1) := by decide +kernel
theorem dX0_mayBegin_1 : decode cX0_mayBegin 1 = .ok (.getfield 54, 3) := by decide +kernel
theorem dX0_mayBegin_4 : decode cX0_mayBegin 4 = .ok (.ifCond .ne 5, 3) := by decide +kernel
theorem dX0_mayBegin_7 : decode cX0_mayBegin 7 = .ok (.iconst 0, 1) := by decide +kernel
theorem dX0_mayBegin_8 : decode cX0_mayBegin 8 = .ok (.ireturn, 1) := by decide +kernel
theorem dX0_mayBegin_9 : decode cX0_mayBegin 9 = .ok (.aload_n 0, 1) := by decide +kernel
theorem dX0_mayBegin_10 : decode cX0_mayBegin 10 = .ok (.iconst 0, 1) := by decide +kernel
theorem dX0_mayBegin_11 : decode cX0_mayBegin 11 = .ok (.putfield 54, 3) := by decide +kernel
theorem dX0_mayBegin_14 : decode cX0_mayBegin 14 = .ok (.iload_n 1, 1) := by decide +kernel
theorem dX0_mayBegin_15 : decode cX0_mayBegin 15 = .ok (.ifCond .eq 8, 3) := by decide +kernel
theorem dX0_mayBegin_18 : decode cX0_mayBegin 18 = .ok (.aload_n 0, 1) := by decide +kernel
theorem dX0_mayBegin_19 : decode cX0_mayBegin 19 = .ok (.iconst 1, 1) := by decide +kernel
theorem dX0_mayBegin_20 : decode cX0_mayBegin 20 = .ok (.putfield 58, 3) := by decide +kernel
theorem dX0_mayBegin_23 : decode cX0_mayBegin 23 = .ok (.iload_n 1, 1) := by decide +kernel
theorem dX0_mayBegin_24 : decode cX0_mayBegin 24 = .ok (.ifCond .ne 7, 3) := by decide +kernel
theorem dX0_mayBegin_27 : decode cX0_mayBegin 27 = .ok (.iconst 1, 1) := by decide +kernel
theorem dX0_mayBegin_28 : decode cX0_mayBegin 28 = .ok (.goto 4, 3) := by decide +kernel
theorem dX0_mayBegin_31 : decode cX0_mayBegin 31 = .ok (.iconst 0, 1) := by decide +kernel
theorem dX0_mayBegin_32 : decode cX0_mayBegin 32 = .ok (.ireturn, 1) := by decide +kernel
theorem dX0_beginProgram_0 : decode cX0_beginProgram 0 = .ok (.iload_n 1, 1) := by decide +kernel
theorem dX0_beginProgram_1 : decode cX0_beginProgram 1 = .ok (.aload_n 0, 1) := by decide +kernel
theorem dX0_beginProgram_2 : decode cX0_beginProgram 2 = .ok (.getfield 12, 3) := by decide +kernel
theorem dX0_beginProgram_5 : decode cX0_beginProgram 5 = .ok (.invokevirtual 105, 3) := by decide +kernel
theorem dX0_beginProgram_8 : decode cX0_beginProgram 8 = .ok (.invokestatic 178, 3) := by decide +kernel
theorem dX0_beginProgram_11 : decode cX0_beginProgram 11 = .ok (.istore_n 2, 1) := by decide +kernel
theorem dX0_beginProgram_12 : decode cX0_beginProgram 12 = .ok (.aload_n 0, 1) := by decide +kernel
theorem dX0_beginProgram_13 : decode cX0_beginProgram 13 = .ok (.aload_n 0, 1) := by decide +kernel
theorem dX0_beginProgram_14 : decode cX0_beginProgram 14 = .ok (.iload_n 2, 1) := by decide +kernel
theorem dX0_beginProgram_15 : decode cX0_beginProgram 15 = .ok (.invokevirtual 120, 3) := by decide +kernel
theorem dX0_beginProgram_18 : decode cX0_beginProgram 18 = .ok (.ifCond .ne 11, 3) := by decide +kernel
theorem dX0_beginProgram_21 : decode cX0_beginProgram 21 = .ok (.aload_n 0, 1) := by decide +kernel
theorem dX0_beginProgram_22 : decode cX0_beginProgram 22 = .ok (.getfield 70, 3) := by decide +kernel
theorem dX0_beginProgram_25 : decode cX0_beginProgram 25 = .ok (.iload_n 2, 1) := by decide +kernel
theorem dX0_beginProgram_26 : decode cX0_beginProgram 26 = .ok (.if_icmp .ne 7, 3) := by decide +kernel
theorem dX0_beginProgram_29 : decode cX0_beginProgram 29 = .ok (.iconst 1, 1) := by decide +kernel
theorem dX0_beginProgram_30 : decode cX0_beginProgram 30 = .ok (.goto 4, 3) := by decide +kernel
theorem dX0_beginProgram_33 : decode cX0_beginProgram 33 = .ok (.iconst 0, 1) := by decide +kernel
theorem dX0_beginProgram_34 : decode cX0_beginProgram 34 = .ok (.invokevirtual 181, 3) := by decide +kernel
theorem dX0_beginProgram_37 : decode cX0_beginProgram 37 = .ok (.ifCond .ne 4, 3) := by decide +kernel
theorem dX0_beginProgram_40 : decode cX0_beginProgram 40 = .ok (.return_, 1) := by decide +kernel
theorem dX0_beginProgram_41 : decode cX0_beginProgram 41 = .ok (.iload_n 1, 1) := by decide +kernel
theorem dX0_beginProgram_42 : decode cX0_beginProgram 42 = .ok (.iload_n 1, 1) := by decide +kernel
theorem dX0_beginProgram_43 : decode cX0_beginProgram 43 = .ok (.aload_n 0, 1) := by decide +kernel
theorem dX0_beginProgram_44 : decode cX0_beginProgram 44 = .ok (.getfield 12, 3) := by decide +kernel
theorem dX0_beginProgram_47 : decode cX0_beginProgram 47 = .ok (.invokevirtual 129, 3) := by decide +kernel
theorem dX0_beginProgram_50 : decode cX0_beginProgram 50 = .ok (.invokestatic 148, 3) := by decide +kernel
theorem dX0_beginProgram_53 : decode cX0_beginProgram 53 = .ok (.isub, 1) := by decide +kernel
theorem dX0_beginProgram_54 : decode cX0_beginProgram 54 = .ok (.istore_n 3, 1) := by decide +kernel
theorem dX0_beginProgram_55 : decode cX0_beginProgram 55 = .ok (.iconst 0, 1) := by decide +kernel
theorem dX0_beginProgram_56 : decode cX0_beginProgram 56 = .ok (.istore 4, 2) := by decide +kernel
theorem dX0_beginProgram_58 : decode cX0_beginProgram 58 = .ok (.iload 4, 2) := by decide +kernel
theorem dX0_beginProgram_60 : decode cX0_beginProgram 60 = .ok (.aload_n 0, 1) := by decide +kernel
theorem dX0_beginProgram_61 : decode cX0_beginProgram 61 = .ok (.getfield 12, 3) := by decide +kernel
theorem dX0_beginProgram_64 : decode cX0_beginProgram 64 = .ok (.invokevirtual 129, 3) := by decide +kernel
theorem dX0_beginProgram_67 : decode cX0_beginProgram 67 = .ok (.if_icmp .ge 35, 3) := by decide +kernel
theorem dX0_beginProgram_70 : decode cX0_beginProgram 70 = .ok (.aload_n 0, 1) := by decide +kernel
theorem dX0_beginProgram_71 : decode cX0_beginProgram 71 = .ok (.iload_n 3, 1) := by decide +kernel
theorem dX0_beginProgram_72 : decode cX0_beginProgram 72 = .ok (.iload 4, 2) := by decide +kernel
theorem dX0_beginProgram_74 : decode cX0_beginProgram 74 = .ok (.iadd, 1) := by decide +kernel
theorem dX0_beginProgram_75 : decode cX0_beginProgram 75 = .ok (.aload_n 0, 1) := by decide +kernel
theorem dX0_beginProgram_76 : decode cX0_beginProgram 76 = .ok (.iload_n 3, 1) := by decide +kernel
theorem dX0_beginProgram_77 : decode cX0_beginProgram 77 = .ok (.iload 4, 2) := by decide +kernel
theorem dX0_beginProgram_79 : decode cX0_beginProgram 79 = .ok (.iadd, 1) := by decide +kernel
theorem dX0_beginProgram_80 : decode cX0_beginProgram 80 = .ok (.invokevirtual 108, 3) := by decide +kernel
theorem dX0_beginProgram_83 : decode cX0_beginProgram 83 = .ok (.aload_n 0, 1) := by decide +kernel
theorem dX0_beginProgram_84 : decode cX0_beginProgram 84 = .ok (.getfield 21, 3) := by decide +kernel
theorem dX0_beginProgram_87 : decode cX0_beginProgram 87 = .ok (.iload 4, 2) := by decide +kernel
theorem dX0_beginProgram_89 : decode cX0_beginProgram 89 = .ok (.invokevirtual 192, 3) := by decide +kernel
theorem dX0_beginProgram_92 : decode cX0_beginProgram 92 = .ok (.iand, 1) := by decide +kernel
theorem dX0_beginProgram_93 : decode cX0_beginProgram 93 = .ok (.invokevirtual 195, 3) := by decide +kernel
theorem dX0_beginProgram_96 : decode cX0_beginProgram 96 = .ok (.iinc 4 1, 3) := by decide +kernel
theorem dX0_beginProgram_99 : decode cX0_beginProgram 99 = .ok (.goto (-41), 3) := by decide +kernel
theorem dX0_beginProgram_102 : decode cX0_beginProgram 102 = .ok (.aload_n 0, 1) := by decide +kernel
theorem dX0_beginProgram_103 : decode cX0_beginProgram 103 = .ok (.iconst 2, 1) := by decide +kernel
theorem dX0_beginProgram_104 : decode cX0_beginProgram 104 = .ok (.iload_n 2, 1) := by decide +kernel
theorem dX0_beginProgram_105 : decode cX0_beginProgram 105 = .ok (.aload_n 0, 1) := by decide +kernel
theorem dX0_beginProgram_106 : decode cX0_beginProgram 106 = .ok (.getfield 12, 3) := by decide +kernel
theorem dX0_beginProgram_109 : decode cX0_beginProgram 109 = .ok (.invokevirtual 198, 3) := by decide +kernel
theorem dX0_beginProgram_112 : decode cX0_beginProgram 112 = .ok (.invokevirtual 201, 3) := by decide +kernel
theorem dX0_beginProgram_115 : decode cX0_beginProgram 115 = .ok (.return_, 1) := by decide +kernel
theorem dX0_beginErase_0 : decode cX0_beginErase 0 = .ok (.aload_n 0, 1) := by decide +kernel
theorem dX0_beginErase_1 : decode cX0_beginErase 1 = .ok (.aload_n 0, 1) := by decide +kernel
theorem dX0_beginErase_2 : decode cX0_beginErase 2 = .ok (.iload_n 1, 1) := by decide +kernel
theorem dX0_beginErase_3 : decode cX0_beginErase 3 = .ok (.invokevirtual 120, 3) := by decide +kernel
theorem dX0_beginErase_6 : decode cX0_beginErase 6 = .ok (.ifCond .ne 10, 3) := by decide +kernel
theorem dX0_beginErase_9 : decode cX0_beginErase 9 = .ok (.aload_n 0, 1) := by decide +kernel
theorem dX0_beginErase_10 : decode cX0_beginErase 10 = .ok (.invokevirtual 102, 3) := by decide +kernel
theorem dX0_beginErase_13 : decode cX0_beginErase 13 = .ok (.ifCond .eq 7, 3) := by decide +kernel
theorem dX0_beginErase_16 : decode cX0_beginErase 16 = .ok (.iconst 1, 1) := by decide +kernel
theorem dX0_beginErase_17 : decode cX0_beginErase 17 = .ok (.goto 4, 3) := by decide +kernel
theorem dX0_beginErase_20 : decode cX0_beginErase 20 = .ok (.iconst 0, 1) := by decide +kernel
theorem dX0_beginErase_21 : decode cX0_beginErase 21 = .ok (.invokevirtual 181, 3) := by decide +kernel
theorem dX0_beginErase_24 : decode cX0_beginErase 24 = .ok (.ifCond .eq 17, 3) := by decide +kernel
theorem dX0_beginErase_27 : decode cX0_beginErase 27 = .ok (.aload_n 0, 1) := by decide +kernel
theorem dX0_beginErase_28 : decode cX0_beginErase 28 = .ok (.bipush 32, 2) := by decide +kernel
theorem dX0_beginErase_30 : decode cX0_beginErase 30 = .ok (.iload_n 1, 1) := by decide +kernel
theorem dX0_beginErase_31 : decode cX0_beginErase 31 = .ok (.aload_n 0, 1) := by decide +kernel
theorem dX0_beginErase_32 : decode cX0_beginErase 32 = .ok (.getfield 12, 3) := by decide +kernel
theorem dX0_beginErase_35 : decode cX0_beginErase 35 = .ok (.invokevirtual 205, 3) := by decide +kernel
theorem dX0_beginErase_38 : decode cX0_beginErase 38 = .ok (.invokevirtual 201, 3) := by decide +kernel
theorem dX0_beginErase_41 : decode cX0_beginErase 41 = .ok (.return_, 1) := by decide +kernel
theorem dX0_beginAll_0 : decode cX0_beginAll 0 = .ok (.aload_n 0, 1) := by decide +kernel
theorem dX0_beginAll_1 : decode cX0_beginAll 1 = .ok (.aload_n 0, 1) := by decide +kernel
theorem dX0_beginAll_2 : decode cX0_beginAll 2 = .ok (.invokevirtual 208, 3) := by decide +kernel
theorem dX0_beginAll_5 : decode cX0_beginAll 5 = .ok (.ifCond .ne 10, 3) := by decide +kernel
theorem dX0_beginAll_8 : decode cX0_beginAll 8 = .ok (.aload_n 0, 1) := by decide +kernel
theorem dX0_beginAll_9 : decode cX0_beginAll 9 = .ok (.invokevirtual 102, 3) := by decide +kernel
theorem dX0_beginAll_12 : decode cX0_beginAll 12 = .ok (.ifCond .eq 7, 3) := by decide +kernel
theorem dX0_beginAll_15 : decode cX0_beginAll 15 = .ok (.iconst 1, 1) := by decide +kernel
theorem dX0_beginAll_16 : decode cX0_beginAll 16 = .ok (.goto 4, 3) := by decide +kernel
theorem dX0_beginAll_19 : decode cX0_beginAll 19 = .ok (.iconst 0, 1) := by decide +kernel
theorem dX0_beginAll_20 : decode cX0_beginAll 20 = .ok (.invokevirtual 181, 3) := by decide +kernel
theorem dX0_beginAll_23 : decode cX0_beginAll 23 = .ok (.ifCond .eq 26, 3) := by decide +kernel
theorem dX0_beginAll_26 : decode cX0_beginAll 26 = .ok (.aload_n 0, 1) := by decide +kernel
theorem dX0_beginAll_27 : decode cX0_beginAll 27 = .ok (.sipush 199, 3) := by decide +kernel
theorem dX0_beginAll_30 : decode cX0_beginAll 30 = .ok (.iconst (-1), 1) := by decide +kernel
theorem dX0_beginAll_31 : decode cX0_beginAll 31 = .ok (.aload_n 0, 1) := by decide +kernel
theorem dX0_beginAll_32 : decode cX0_beginAll 32 = .ok (.getfield 12, 3) := by decide +kernel
theorem dX0_beginAll_35 : decode cX0_beginAll 35 = .ok (.invokevirtual 205, 3) := by decide +kernel
theorem dX0_beginAll_38 : decode cX0_beginAll 38 = .ok (.aload_n 0, 1) := by decide +kernel
theorem dX0_beginAll_39 : decode cX0_beginAll 39 = .ok (.getfield 12, 3) := by decide +kernel
theorem dX0_beginAll_42 : decode cX0_beginAll 42 = .ok (.invokevirtual 117, 3) := by decide +kernel
theorem dX0_beginAll_45 : decode cX0_beginAll 45 = .ok (.imul, 1) := by decide +kernel
theorem dX0_beginAll_46 : decode cX0_beginAll 46 = .ok (.invokevirtual 201, 3) := by decide +kernel
theorem dX0_beginAll_49 : decode cX0_beginAll 49 = .ok (.return_, 1) := by decide +kernel
theorem dX0_begin_0 : decode cX0_begin 0 = .ok (.aload_n 0, 1) := by decide +kernel
theorem dX0_begin_1 : decode cX0_begin 1 = .ok (.iload_n 1, 1) := by decide +kernel
theorem dX0_begin_2 : decode cX0_begin 2 = .ok (.putfield 61, 3) := by decide +kernel
theorem dX0_begin_5 : decode cX0_begin 5 = .ok (.aload_n 0, 1) := by decide +kernel
theorem dX0_begin_6 : decode cX0_begin 6 = .ok (.iload_n 2, 1) := by decide +kernel
theorem dX0_begin_7 : decode cX0_begin 7 = .ok (.putfield 64, 3) := by decide +kernel
theorem dX0_begin_10 : decode cX0_begin 10 = .ok (.aload_n 0, 1) := by decide +kernel
theorem dX0_begin_11 : decode cX0_begin 11 = .ok (.iload_n 3, 1) := by decide +kernel
theorem dX0_begin_12 : decode cX0_begin 12 = .ok (.putfield 67, 3) := by decide +kernel
theorem dX0_begin_15 : decode cX0_begin 15 = .ok (.aload_n 0, 1) := by decide +kernel
theorem dX0_begin_16 : decode cX0_begin 16 = .ok (.dup, 1) := by decide +kernel
theorem dX0_begin_17 : decode cX0_begin 17 = .ok (.getfield 79, 3) := by decide +kernel
theorem dX0_begin_20 : decode cX0_begin 20 = .ok (.iconst 1, 1) := by decide +kernel
theorem dX0_begin_21 : decode cX0_begin 21 = .ok (.iadd, 1) := by decide +kernel
theorem dX0_begin_22 : decode cX0_begin 22 = .ok (.putfield 79, 3) := by decide +kernel
theorem dX0_begin_25 : decode cX0_begin 25 = .ok (.return_, 1) := by decide +kernel
theorem dX0_suspend_0 : decode cX0_suspend 0 = .ok (.aload_n 0, 1) := by decide +kernel
theorem dX0_suspend_1 : decode cX0_suspend 1 = .ok (.getfield 61, 3) := by decide +kernel
theorem dX0_suspend_4 : decode cX0_suspend 4 = .ok (.bipush 32, 2) := by decide +kernel
theorem dX0_suspend_6 : decode cX0_suspend 6 = .ok (.if_icmp .eq 4, 3) := by decide +kernel
theorem dX0_suspend_9 : decode cX0_suspend 9 = .ok (.return_, 1) := by decide +kernel
theorem dX0_suspend_10 : decode cX0_suspend 10 = .ok (.aload_n 0, 1) := by decide +kernel
theorem dX0_suspend_11 : decode cX0_suspend 11 = .ok (.aload_n 0, 1) := by decide +kernel
theorem dX0_suspend_12 : decode cX0_suspend 12 = .ok (.getfield 64, 3) := by decide +kernel
theorem dX0_suspend_15 : decode cX0_suspend 15 = .ok (.putfield 70, 3) := by decide +kernel
theorem dX0_suspend_18 : decode cX0_suspend 18 = .ok (.aload_n 0, 1) := by decide +kernel
theorem dX0_suspend_19 : decode cX0_suspend 19 = .ok (.aload_n 0, 1) := by decide +kernel
theorem dX0_suspend_20 : decode cX0_suspend 20 = .ok (.getfield 67, 3) := by decide +kernel
theorem dX0_suspend_23 : decode cX0_suspend 23 = .ok (.putfield 73, 3) := by decide +kernel
theorem dX0_suspend_26 : decode cX0_suspend 26 = .ok (.aload_n 0, 1) := by decide +kernel
theorem dX0_suspend_27 : decode cX0_suspend 27 = .ok (.invokevirtual 211, 3) := by decide +kernel
theorem dX0_suspend_30 : decode cX0_suspend 30 = .ok (.return_, 1) := by decide +kernel
theorem dX0_resume_0 : decode cX0_resume 0 = .ok (.aload_n 0, 1) := by decide +kernel
theorem dX0_resume_1 : decode cX0_resume 1 = .ok (.invokevirtual 102, 3) := by decide +kernel
theorem dX0_resume_4 : decode cX0_resume 4 = .ok (.ifCond .ne 4, 3) := by decide +kernel
theorem dX0_resume_7 : decode cX0_resume 7 = .ok (.return_, 1) := by decide +kernel
theorem dX0_resume_8 : decode cX0_resume 8 = .ok (.aload_n 0, 1) := by decide +kernel
theorem dX0_resume_9 : decode cX0_resume 9 = .ok (.bipush 32, 2) := by decide +kernel
theorem dX0_resume_11 : decode cX0_resume 11 = .ok (.putfield 61, 3) := by decide +kernel
theorem dX0_resume_14 : decode cX0_resume 14 = .ok (.aload_n 0, 1) := by decide +kernel
theorem dX0_resume_15 : decode cX0_resume 15 = .ok (.aload_n 0, 1) := by decide +kernel
theorem dX0_resume_16 : decode cX0_resume 16 = .ok (.getfield 70, 3) := by decide +kernel
theorem dX0_resume_19 : decode cX0_resume 19 = .ok (.putfield 64, 3) := by decide +kernel
theorem dX0_resume_22 : decode cX0_resume 22 = .ok (.aload_n 0, 1) := by decide +kernel
theorem dX0_resume_23 : decode cX0_resume 23 = .ok (.aload_n 0, 1) := by decide +kernel
theorem dX0_resume_24 : decode cX0_resume 24 = .ok (.getfield 73, 3) := by decide +kernel
theorem dX0_resume_27 : decode cX0_resume 27 = .ok (.putfield 67, 3) := by decide +kernel
theorem dX0_resume_30 : decode cX0_resume 30 = .ok (.aload_n 0, 1) := by decide +kernel
theorem dX0_resume_31 : decode cX0_resume 31 = .ok (.invokevirtual 214, 3) := by decide +kernel
theorem dX0_resume_34 : decode cX0_resume 34 = .ok (.return_, 1) := by decide +kernel
theorem dX0_fallIdle_0 : decode cX0_fallIdle 0 = .ok (.aload_n 0, 1) := by decide +kernel
theorem dX0_fallIdle_1 : decode cX0_fallIdle 1 = .ok (.iconst (-1), 1) := by decide +kernel
theorem dX0_fallIdle_2 : decode cX0_fallIdle 2 = .ok (.putfield 61, 3) := by decide +kernel
theorem dX0_fallIdle_5 : decode cX0_fallIdle 5 = .ok (.aload_n 0, 1) := by decide +kernel
theorem dX0_fallIdle_6 : decode cX0_fallIdle 6 = .ok (.iconst (-1), 1) := by decide +kernel
theorem dX0_fallIdle_7 : decode cX0_fallIdle 7 = .ok (.putfield 64, 3) := by decide +kernel
theorem dX0_fallIdle_10 : decode cX0_fallIdle 10 = .ok (.aload_n 0, 1) := by decide +kernel
theorem dX0_fallIdle_11 : decode cX0_fallIdle 11 = .ok (.iconst 0, 1) := by decide +kernel
theorem dX0_fallIdle_12 : decode cX0_fallIdle 12 = .ok (.putfield 67, 3) := by decide +kernel
theorem dX0_fallIdle_15 : decode cX0_fallIdle 15 = .ok (.return_, 1) := by decide +kernel
theorem dX0_dropSuspended_0 : decode cX0_dropSuspended 0 = .ok (.aload_n 0, 1) := by decide +kernel
theorem dX0_dropSuspended_1 : decode cX0_dropSuspended 1 = .ok (.iconst (-1), 1) := by decide +kernel
theorem dX0_dropSuspended_2 : decode cX0_dropSuspended 2 = .ok (.putfield 70, 3) := by decide +kernel
theorem dX0_dropSuspended_5 : decode cX0_dropSuspended 5 = .ok (.aload_n 0, 1) := by decide +kernel
theorem dX0_dropSuspended_6 : decode cX0_dropSuspended 6 = .ok (.iconst 0, 1) := by decide +kernel
theorem dX0_dropSuspended_7 : decode cX0_dropSuspended 7 = .ok (.putfield 73, 3) := by decide +kernel
theorem dX0_dropSuspended_10 : decode cX0_dropSuspended 10 = .ok (.return_, 1) := by decide +kernel
theorem dX0_putBack_0 : decode cX0_putBack 0 = .ok (.aload_n 0, 1) := by decide +kernel
theorem dX0_putBack_1 : decode cX0_putBack 1 = .ok (.iconst 0, 1) := by decide +kernel
theorem dX0_putBack_2 : decode cX0_putBack 2 = .ok (.putfield 47, 3) := by decide +kernel
theorem dX0_putBack_5 : decode cX0_putBack 5 = .ok (.aload_n 0, 1) := by decide +kernel
theorem dX0_putBack_6 : decode cX0_putBack 6 = .ok (.iconst 0, 1) := by decide +kernel
theorem dX0_putBack_7 : decode cX0_putBack 7 = .ok (.putfield 54, 3) := by decide +kernel
theorem dX0_putBack_10 : decode cX0_putBack 10 = .ok (.aload_n 0, 1) := by decide +kernel
theorem dX0_putBack_11 : decode cX0_putBack 11 = .ok (.iconst 0, 1) := by decide +kernel
theorem dX0_putBack_12 : decode cX0_putBack 12 = .ok (.putfield 58, 3) := by decide +kernel
theorem dX0_putBack_15 : decode cX0_putBack 15 = .ok (.aload_n 0, 1) := by decide +kernel
theorem dX0_putBack_16 : decode cX0_putBack 16 = .ok (.invokevirtual 214, 3) := by decide +kernel
theorem dX0_putBack_19 : decode cX0_putBack 19 = .ok (.return_, 1) := by decide +kernel
theorem dX0_passTick_0 : decode cX0_passTick 0 = .ok (.aload_n 0, 1) := by decide +kernel
theorem dX0_passTick_1 : decode cX0_passTick 1 = .ok (.dup, 1) := by decide +kernel
theorem dX0_passTick_2 : decode cX0_passTick 2 = .ok (.getfield 67, 3) := by decide +kernel
theorem dX0_passTick_5 : decode cX0_passTick 5 = .ok (.iconst 1, 1) := by decide +kernel
theorem dX0_passTick_6 : decode cX0_passTick 6 = .ok (.isub, 1) := by decide +kernel
theorem dX0_passTick_7 : decode cX0_passTick 7 = .ok (.putfield 67, 3) := by decide +kernel
theorem dX0_passTick_10 : decode cX0_passTick 10 = .ok (.aload_n 0, 1) := by decide +kernel
theorem dX0_passTick_11 : decode cX0_passTick 11 = .ok (.getfield 67, 3) := by decide +kernel
theorem dX0_passTick_14 : decode cX0_passTick 14 = .ok (.ifCond .le 4, 3) := by decide +kernel
theorem dX0_passTick_17 : decode cX0_passTick 17 = .ok (.return_, 1) := by decide +kernel
theorem dX0_passTick_18 : decode cX0_passTick 18 = .ok (.aload_n 0, 1) := by decide +kernel
theorem dX0_passTick_19 : decode cX0_passTick 19 = .ok (.getfield 61, 3) := by decide +kernel
theorem dX0_passTick_22 : decode cX0_passTick 22 = .ok (.bipush 32, 2) := by decide +kernel
theorem dX0_passTick_24 : decode cX0_passTick 24 = .ok (.if_icmp .ne 29, 3) := by decide +kernel
theorem dX0_passTick_27 : decode cX0_passTick 27 = .ok (.aload_n 0, 1) := by decide +kernel
theorem dX0_passTick_28 : decode cX0_passTick 28 = .ok (.aload_n 0, 1) := by decide +kernel
theorem dX0_passTick_29 : decode cX0_passTick 29 = .ok (.getfield 64, 3) := by decide +kernel
theorem dX0_passTick_32 : decode cX0_passTick 32 = .ok (.aload_n 0, 1) := by decide +kernel
theorem dX0_passTick_33 : decode cX0_passTick 33 = .ok (.getfield 12, 3) := by decide +kernel
theorem dX0_passTick_36 : decode cX0_passTick 36 = .ok (.invokevirtual 105, 3) := by decide +kernel
theorem dX0_passTick_39 : decode cX0_passTick 39 = .ok (.imul, 1) := by decide +kernel
theorem dX0_passTick_40 : decode cX0_passTick 40 = .ok (.aload_n 0, 1) := by decide +kernel
theorem dX0_passTick_41 : decode cX0_passTick 41 = .ok (.getfield 12, 3) := by decide +kernel
theorem dX0_passTick_44 : decode cX0_passTick 44 = .ok (.invokevirtual 105, 3) := by decide +kernel
theorem dX0_passTick_47 : decode cX0_passTick 47 = .ok (.invokevirtual 43, 3) := by decide +kernel
theorem dX0_passTick_50 : decode cX0_passTick 50 = .ok (.goto 22, 3) := by decide +kernel
theorem dX0_passTick_53 : decode cX0_passTick 53 = .ok (.aload_n 0, 1) := by decide +kernel
theorem dX0_passTick_54 : decode cX0_passTick 54 = .ok (.getfield 61, 3) := by decide +kernel
theorem dX0_passTick_57 : decode cX0_passTick 57 = .ok (.sipush 199, 3) := by decide +kernel
theorem dX0_passTick_60 : decode cX0_passTick 60 = .ok (.if_icmp .ne 12, 3) := by decide +kernel
theorem dX0_passTick_63 : decode cX0_passTick 63 = .ok (.aload_n 0, 1) := by decide +kernel
theorem dX0_passTick_64 : decode cX0_passTick 64 = .ok (.iconst 0, 1) := by decide +kernel
theorem dX0_passTick_65 : decode cX0_passTick 65 = .ok (.aload_n 0, 1) := by decide +kernel
theorem dX0_passTick_66 : decode cX0_passTick 66 = .ok (.invokevirtual 112, 3) := by decide +kernel
theorem dX0_passTick_69 : decode cX0_passTick 69 = .ok (.invokevirtual 43, 3) := by decide +kernel
theorem dX0_passTick_72 : decode cX0_passTick 72 = .ok (.aload_n 0, 1) := by decide +kernel
theorem dX0_passTick_73 : decode cX0_passTick 73 = .ok (.invokevirtual 211, 3) := by decide +kernel
theorem dX0_passTick_76 : decode cX0_passTick 76 = .ok (.return_, 1) := by decide +kernel
theorem dX0_eraseFrom_0 : decode cX0_eraseFrom 0 = .ok (.iconst 0, 1) := by decide +kernel
theorem dX0_eraseFrom_1 : decode cX0_eraseFrom 1 = .ok (.istore_n 3, 1) := by decide +kernel
theorem dX0_eraseFrom_2 : decode cX0_eraseFrom 2 = .ok (.iload_n 3, 1) := by decide +kernel
theorem dX0_eraseFrom_3 : decode cX0_eraseFrom 3 = .ok (.iload_n 2, 1) := by decide +kernel
theorem dX0_eraseFrom_4 : decode cX0_eraseFrom 4 = .ok (.if_icmp .ge 19, 3) := by decide +kernel
theorem dX0_eraseFrom_7 : decode cX0_eraseFrom 7 = .ok (.aload_n 0, 1) := by decide +kernel
theorem dX0_eraseFrom_8 : decode cX0_eraseFrom 8 = .ok (.iload_n 1, 1) := by decide +kernel
theorem dX0_eraseFrom_9 : decode cX0_eraseFrom 9 = .ok (.iload_n 3, 1) := by decide +kernel
theorem dX0_eraseFrom_10 : decode cX0_eraseFrom 10 = .ok (.iadd, 1) := by decide +kernel
theorem dX0_eraseFrom_11 : decode cX0_eraseFrom 11 = .ok (.sipush 255, 3) := by decide +kernel
theorem dX0_eraseFrom_14 : decode cX0_eraseFrom 14 = .ok (.invokevirtual 195, 3) := by decide +kernel
theorem dX0_eraseFrom_17 : decode cX0_eraseFrom 17 = .ok (.iinc 3 1, 3) := by decide +kernel
theorem dX0_eraseFrom_20 : decode cX0_eraseFrom 20 = .ok (.goto (-18), 3) := by decide +kernel
theorem dX0_eraseFrom_23 : decode cX0_eraseFrom 23 = .ok (.return_, 1) := by decide +kernel
theorem dX0_setByte_0 : decode cX0_setByte 0 = .ok (.iload_n 1, 1) := by decide +kernel
theorem dX0_setByte_1 : decode cX0_setByte 1 = .ok (.ifCond .lt 19, 3) := by decide +kernel
theorem dX0_setByte_4 : decode cX0_setByte 4 = .ok (.iload_n 1, 1) := by decide +kernel
theorem dX0_setByte_5 : decode cX0_setByte 5 = .ok (.aload_n 0, 1) := by decide +kernel
theorem dX0_setByte_6 : decode cX0_setByte 6 = .ok (.getfield 25, 3) := by decide +kernel
theorem dX0_setByte_9 : decode cX0_setByte 9 = .ok (.arraylength, 1) := by decide +kernel
theorem dX0_setByte_10 : decode cX0_setByte 10 = .ok (.if_icmp .ge 10, 3) := by decide +kernel
theorem dX0_setByte_13 : decode cX0_setByte 13 = .ok (.aload_n 0, 1) := by decide +kernel
theorem dX0_setByte_14 : decode cX0_setByte 14 = .ok (.getfield 25, 3) := by decide +kernel
theorem dX0_setByte_17 : decode cX0_setByte 17 = .ok (.iload_n 1, 1) := by decide +kernel
theorem dX0_setByte_18 : decode cX0_setByte 18 = .ok (.iload_n 2, 1) := by decide +kernel
theorem dX0_setByte_19 : decode cX0_setByte 19 = .ok (.iastore, 1) := by decide +kernel
theorem dX0_setByte_20 : decode cX0_setByte 20 = .ok (.return_, 1) := by decide +kernel
theorem dX0_setLocked_0 : decode cX0_setLocked 0 = .ok (.iload_n 1, 1) := by decide +kernel
theorem dX0_setLocked_1 : decode cX0_setLocked 1 = .ok (.ifCond .lt 19, 3) := by decide +kernel
theorem dX0_setLocked_4 : decode cX0_setLocked 4 = .ok (.iload_n 1, 1) := by decide +kernel
theorem dX0_setLocked_5 : decode cX0_setLocked 5 = .ok (.aload_n 0, 1) := by decide +kernel
theorem dX0_setLocked_6 : decode cX0_setLocked 6 = .ok (.getfield 29, 3) := by decide +kernel
theorem dX0_setLocked_9 : decode cX0_setLocked 9 = .ok (.arraylength, 1) := by decide +kernel
theorem dX0_setLocked_10 : decode cX0_setLocked 10 = .ok (.if_icmp .ge 10, 3) := by decide +kernel
theorem dX0_setLocked_13 : decode cX0_setLocked 13 = .ok (.aload_n 0, 1) := by decide +kernel
theorem dX0_setLocked_14 : decode cX0_setLocked 14 = .ok (.getfield 29, 3) := by decide +kernel
theorem dX0_setLocked_17 : decode cX0_setLocked 17 = .ok (.iload_n 1, 1) := by decide +kernel
theorem dX0_setLocked_18 : decode cX0_setLocked 18 = .ok (.iload_n 2, 1) := by decide +kernel
theorem dX0_setLocked_19 : decode cX0_setLocked 19 = .ok (.bastore, 1) := by decide +kernel
theorem dX0_setLocked_20 : decode cX0_setLocked 20 = .ok (.return_, 1) := by decide +kernel
theorem dX1_init_0 : decode cX1_init 0 = .ok (.aload_n 0, 1) := by decide +kernel
theorem dX1_init_1 : decode cX1_init 1 = .ok (.invokespecial 3, 3) := by decide +kernel
theorem dX1_init_4 : decode cX1_init 4 = .ok (.aload_n 0, 1) := by decide +kernel
theorem dX1_init_5 : decode cX1_init 5 = .ok (.invokevirtual 9, 3) := by decide +kernel
theorem dX1_init_8 : decode cX1_init 8 = .ok (.return_, 1) := by decide +kernel
theorem dX1_setUsual_0 : decode cX1_setUsual 0 = .ok (.aload_n 0, 1) := by decide +kernel
theorem dX1_setUsual_1 : decode cX1_setUsual 1 = .ok (.bipush 8, 2) := by decide +kernel
theorem dX1_setUsual_3 : decode cX1_setUsual 3 = .ok (.putfield 14, 3) := by decide +kernel
theorem dX1_setUsual_6 : decode cX1_setUsual 6 = .ok (.aload_n 0, 1) := by decide +kernel
theorem dX1_setUsual_7 : decode cX1_setUsual 7 = .ok (.iconst 4, 1) := by decide +kernel
theorem dX1_setUsual_8 : decode cX1_setUsual 8 = .ok (.putfield 18, 3) := by decide +kernel
theorem dX1_setUsual_11 : decode cX1_setUsual 11 = .ok (.aload_n 0, 1) := by decide +kernel
theorem dX1_setUsual_12 : decode cX1_setUsual 12 = .ok (.bipush 8, 2) := by decide +kernel
theorem dX1_setUsual_14 : decode cX1_setUsual 14 = .ok (.putfield 21, 3) := by decide +kernel
theorem dX1_setUsual_17 : decode cX1_setUsual 17 = .ok (.aload_n 0, 1) := by decide +kernel
theorem dX1_setUsual_18 : decode cX1_setUsual 18 = .ok (.iconst 2, 1) := by decide +kernel
theorem dX1_setUsual_19 : decode cX1_setUsual 19 = .ok (.putfield 24, 3) := by decide +kernel
theorem dX1_setUsual_22 : decode cX1_setUsual 22 = .ok (.aload_n 0, 1) := by decide +kernel
theorem dX1_setUsual_23 : decode cX1_setUsual 23 = .ok (.iconst 5, 1) := by decide +kernel
theorem dX1_setUsual_24 : decode cX1_setUsual 24 = .ok (.putfield 27, 3) := by decide +kernel
theorem dX1_setUsual_27 : decode cX1_setUsual 27 = .ok (.return_, 1) := by decide +kernel
theorem dX1_setParts_0 : decode cX1_setParts 0 = .ok (.iload_n 1, 1) := by decide +kernel
theorem dX1_setParts_1 : decode cX1_setParts 1 = .ok (.iconst 4, 1) := by decide +kernel
theorem dX1_setParts_2 : decode cX1_setParts 2 = .ok (.if_icmp .eq 15, 3) := by decide +kernel
theorem dX1_setParts_5 : decode cX1_setParts 5 = .ok (.iload_n 1, 1) := by decide +kernel
theorem dX1_setParts_6 : decode cX1_setParts 6 = .ok (.bipush 8, 2) := by decide +kernel
theorem dX1_setParts_8 : decode cX1_setParts 8 = .ok (.if_icmp .eq 9, 3) := by decide +kernel
theorem dX1_setParts_11 : decode cX1_setParts 11 = .ok (.iload_n 1, 1) := by decide +kernel
theorem dX1_setParts_12 : decode cX1_setParts 12 = .ok (.bipush 16, 2) := by decide +kernel
theorem dX1_setParts_14 : decode cX1_setParts 14 = .ok (.if_icmp .ne 7, 3) := by decide +kernel
theorem dX1_setParts_17 : decode cX1_setParts 17 = .ok (.iconst 1, 1) := by decide +kernel
theorem dX1_setParts_18 : decode cX1_setParts 18 = .ok (.goto 4, 3) := by decide +kernel
theorem dX1_setParts_21 : decode cX1_setParts 21 = .ok (.iconst 0, 1) := by decide +kernel
theorem dX1_setParts_22 : decode cX1_setParts 22 = .ok (.istore 4, 2) := by decide +kernel
theorem dX1_setParts_24 : decode cX1_setParts 24 = .ok (.iload_n 2, 1) := by decide +kernel
theorem dX1_setParts_25 : decode cX1_setParts 25 = .ok (.iconst 2, 1) := by decide +kernel
theorem dX1_setParts_26 : decode cX1_setParts 26 = .ok (.if_icmp .eq 14, 3) := by decide +kernel
theorem dX1_setParts_29 : decode cX1_setParts 29 = .ok (.iload_n 2, 1) := by decide +kernel
theorem dX1_setParts_30 : decode cX1_setParts 30 = .ok (.iconst 4, 1) := by decide +kernel
theorem dX1_setParts_31 : decode cX1_setParts 31 = .ok (.if_icmp .eq 9, 3) := by decide +kernel
theorem dX1_setParts_34 : decode cX1_setParts 34 = .ok (.iload_n 2, 1) := by decide +kernel
theorem dX1_setParts_35 : decode cX1_setParts 35 = .ok (.bipush 8, 2) := by decide +kernel
theorem dX1_setParts_37 : decode cX1_setParts 37 = .ok (.if_icmp .ne 7, 3) := by decide +kernel
theorem dX1_setParts_40 : decode cX1_setParts 40 = .ok (.iconst 1, 1) := by decide +kernel
theorem dX1_setParts_41 : decode cX1_setParts 41 = .ok (.goto 4, 3) := by decide +kernel
theorem dX1_setParts_44 : decode cX1_setParts 44 = .ok (.iconst 0, 1) := by decide +kernel
theorem dX1_setParts_45 : decode cX1_setParts 45 = .ok (.istore 5, 2) := by decide +kernel
theorem dX1_setParts_47 : decode cX1_setParts 47 = .ok (.iload_n 3, 1) := by decide +kernel
theorem dX1_setParts_48 : decode cX1_setParts 48 = .ok (.iconst 2, 1) := by decide +kernel
theorem dX1_setParts_49 : decode cX1_setParts 49 = .ok (.if_icmp .lt 13, 3) := by decide +kernel
theorem dX1_setParts_52 : decode cX1_setParts 52 = .ok (.iload_n 3, 1) := by decide +kernel
theorem dX1_setParts_53 : decode cX1_setParts 53 = .ok (.bipush 8, 2) := by decide +kernel
theorem dX1_setParts_55 : decode cX1_setParts 55 = .ok (.if_icmp .gt 7, 3) := by decide +kernel
theorem dX1_setParts_58 : decode cX1_setParts 58 = .ok (.iconst 1, 1) := by decide +kernel
theorem dX1_setParts_59 : decode cX1_setParts 59 = .ok (.goto 4, 3) := by decide +kernel
theorem dX1_setParts_62 : decode cX1_setParts 62 = .ok (.iconst 0, 1) := by decide +kernel
theorem dX1_setParts_63 : decode cX1_setParts 63 = .ok (.istore 6, 2) := by decide +kernel
theorem dX1_setParts_65 : decode cX1_setParts 65 = .ok (.iload 4, 2) := by decide +kernel
theorem dX1_setParts_67 : decode cX1_setParts 67 = .ok (.ifCond .eq 24, 3) := by decide +kernel
theorem dX1_setParts_70 : decode cX1_setParts 70 = .ok (.iload 5, 2) := by decide +kernel
theorem dX1_setParts_72 : decode cX1_setParts 72 = .ok (.ifCond .eq 19, 3) := by decide +kernel
theorem dX1_setParts_75 : decode cX1_setParts 75 = .ok (.iload 6, 2) := by decide +kernel
theorem dX1_setParts_77 : decode cX1_setParts 77 = .ok (.ifCond .eq 14, 3) := by decide +kernel
theorem dX1_setParts_80 : decode cX1_setParts 80 = .ok (.iload_n 1, 1) := by decide +kernel
theorem dX1_setParts_81 : decode cX1_setParts 81 = .ok (.iload_n 2, 1) := by decide +kernel
theorem dX1_setParts_82 : decode cX1_setParts 82 = .ok (.imul, 1) := by decide +kernel
theorem dX1_setParts_83 : decode cX1_setParts 83 = .ok (.iload_n 3, 1) := by decide +kernel
theorem dX1_setParts_84 : decode cX1_setParts 84 = .ok (.imul, 1) := by decide +kernel
theorem dX1_setParts_85 : decode cX1_setParts 85 = .ok (.sipush 256, 3) := by decide +kernel
theorem dX1_setParts_88 : decode cX1_setParts 88 = .ok (.if_icmp .le 5, 3) := by decide +kernel
theorem dX1_setParts_91 : decode cX1_setParts 91 = .ok (.iconst 0, 1) := by decide +kernel
theorem dX1_setParts_92 : decode cX1_setParts 92 = .ok (.ireturn, 1) := by decide +kernel
theorem dX1_setParts_93 : decode cX1_setParts 93 = .ok (.aload_n 0, 1) := by decide +kernel
theorem dX1_setParts_94 : decode cX1_setParts 94 = .ok (.iload_n 1, 1) := by decide +kernel
theorem dX1_setParts_95 : decode cX1_setParts 95 = .ok (.putfield 14, 3) := by decide +kernel
theorem dX1_setParts_98 : decode cX1_setParts 98 = .ok (.aload_n 0, 1) := by decide +kernel
theorem dX1_setParts_99 : decode cX1_setParts 99 = .ok (.iload_n 2, 1) := by decide +kernel
theorem dX1_setParts_100 : decode cX1_setParts 100 = .ok (.putfield 18, 3) := by decide +kernel
theorem dX1_setParts_103 : decode cX1_setParts 103 = .ok (.aload_n 0, 1) := by decide +kernel
theorem dX1_setParts_104 : decode cX1_setParts 104 = .ok (.iload_n 3, 1) := by decide +kernel
theorem dX1_setParts_105 : decode cX1_setParts 105 = .ok (.putfield 21, 3) := by decide +kernel
theorem dX1_setParts_108 : decode cX1_setParts 108 = .ok (.iconst 1, 1) := by decide +kernel
theorem dX1_setParts_109 : decode cX1_setParts 109 = .ok (.ireturn, 1) := by decide +kernel
theorem dX1_setTicks_0 : decode cX1_setTicks 0 = .ok (.iload_n 1, 1) := by decide +kernel
theorem dX1_setTicks_1 : decode cX1_setTicks 1 = .ok (.iconst 1, 1) := by decide +kernel
theorem dX1_setTicks_2 : decode cX1_setTicks 2 = .ok (.if_icmp .lt 20, 3) := by decide +kernel
theorem dX1_setTicks_5 : decode cX1_setTicks 5 = .ok (.iload_n 1, 1) := by decide +kernel
theorem dX1_setTicks_6 : decode cX1_setTicks 6 = .ok (.bipush 9, 2) := by decide +kernel
theorem dX1_setTicks_8 : decode cX1_setTicks 8 = .ok (.if_icmp .gt 14, 3) := by decide +kernel
theorem dX1_setTicks_11 : decode cX1_setTicks 11 = .ok (.iload_n 2, 1) := by decide +kernel
theorem dX1_setTicks_12 : decode cX1_setTicks 12 = .ok (.iconst 1, 1) := by decide +kernel
theorem dX1_setTicks_13 : decode cX1_setTicks 13 = .ok (.if_icmp .lt 9, 3) := by decide +kernel
theorem dX1_setTicks_16 : decode cX1_setTicks 16 = .ok (.iload_n 2, 1) := by decide +kernel
theorem dX1_setTicks_17 : decode cX1_setTicks 17 = .ok (.bipush 20, 2) := by decide +kernel
theorem dX1_setTicks_19 : decode cX1_setTicks 19 = .ok (.if_icmp .le 5, 3) := by decide +kernel
theorem dX1_setTicks_22 : decode cX1_setTicks 22 = .ok (.iconst 0, 1) := by decide +kernel
theorem dX1_setTicks_23 : decode cX1_setTicks 23 = .ok (.ireturn, 1) := by decide +kernel
theorem dX1_setTicks_24 : decode cX1_setTicks 24 = .ok (.aload_n 0, 1) := by decide +kernel
theorem dX1_setTicks_25 : decode cX1_setTicks 25 = .ok (.iload_n 1, 1) := by decide +kernel
theorem dX1_setTicks_26 : decode cX1_setTicks 26 = .ok (.putfield 24, 3) := by decide +kernel
theorem dX1_setTicks_29 : decode cX1_setTicks 29 = .ok (.aload_n 0, 1) := by decide +kernel
theorem dX1_setTicks_30 : decode cX1_setTicks 30 = .ok (.iload_n 2, 1) := by decide +kernel
theorem dX1_setTicks_31 : decode cX1_setTicks 31 = .ok (.putfield 27, 3) := by decide +kernel
theorem dX1_setTicks_34 : decode cX1_setTicks 34 = .ok (.iconst 1, 1) := by decide +kernel
theorem dX1_setTicks_35 : decode cX1_setTicks 35 = .ok (.ireturn, 1) := by decide +kernel
theorem dX1_copyFrom_0 : decode cX1_copyFrom 0 = .ok (.aload_n 0, 1) := by decide +kernel
theorem dX1_copyFrom_1 : decode cX1_copyFrom 1 = .ok (.aload_n 1, 1) := by decide +kernel
theorem dX1_copyFrom_2 : decode cX1_copyFrom 2 = .ok (.getfield 14, 3) := by decide +kernel
theorem dX1_copyFrom_5 : decode cX1_copyFrom 5 = .ok (.putfield 14, 3) := by decide +kernel
theorem dX1_copyFrom_8 : decode cX1_copyFrom 8 = .ok (.aload_n 0, 1) := by decide +kernel
theorem dX1_copyFrom_9 : decode cX1_copyFrom 9 = .ok (.aload_n 1, 1) := by decide +kernel
theorem dX1_copyFrom_10 : decode cX1_copyFrom 10 = .ok (.getfield 18, 3) := by decide +kernel
theorem dX1_copyFrom_13 : decode cX1_copyFrom 13 = .ok (.putfield 18, 3) := by decide +kernel
theorem dX1_copyFrom_16 : decode cX1_copyFrom 16 = .ok (.aload_n 0, 1) := by decide +kernel
theorem dX1_copyFrom_17 : decode cX1_copyFrom 17 = .ok (.aload_n 1, 1) := by decide +kernel
theorem dX1_copyFrom_18 : decode cX1_copyFrom 18 = .ok (.getfield 21, 3) := by decide +kernel
theorem dX1_copyFrom_21 : decode cX1_copyFrom 21 = .ok (.putfield 21, 3) := by decide +kernel
theorem dX1_copyFrom_24 : decode cX1_copyFrom 24 = .ok (.aload_n 0, 1) := by decide +kernel
theorem dX1_copyFrom_25 : decode cX1_copyFrom 25 = .ok (.aload_n 1, 1) := by decide +kernel
theorem dX1_copyFrom_26 : decode cX1_copyFrom 26 = .ok (.getfield 24, 3) := by decide +kernel
theorem dX1_copyFrom_29 : decode cX1_copyFrom 29 = .ok (.putfield 24, 3) := by decide +kernel
theorem dX1_copyFrom_32 : decode cX1_copyFrom 32 = .ok (.aload_n 0, 1) := by decide +kernel
theorem dX1_copyFrom_33 : decode cX1_copyFrom 33 = .ok (.aload_n 1, 1) := by decide +kernel
theorem dX1_copyFrom_34 : decode cX1_copyFrom 34 = .ok (.getfield 27, 3) := by decide +kernel
theorem dX1_copyFrom_37 : decode cX1_copyFrom 37 = .ok (.putfield 27, 3) := by decide +kernel
theorem dX1_copyFrom_40 : decode cX1_copyFrom 40 = .ok (.return_, 1) := by decide +kernel
theorem dX1_pageBytes_0 : decode cX1_pageBytes 0 = .ok (.aload_n 0, 1) := by decide +kernel
theorem dX1_pageBytes_1 : decode cX1_pageBytes 1 = .ok (.getfield 14, 3) := by decide +kernel
theorem dX1_pageBytes_4 : decode cX1_pageBytes 4 = .ok (.ireturn, 1) := by decide +kernel
theorem dX1_sectorPages_0 : decode cX1_sectorPages 0 = .ok (.aload_n 0, 1) := by decide +kernel
theorem dX1_sectorPages_1 : decode cX1_sectorPages 1 = .ok (.getfield 18, 3) := by decide +kernel
theorem dX1_sectorPages_4 : decode cX1_sectorPages 4 = .ok (.ireturn, 1) := by decide +kernel
theorem dX1_sectors_0 : decode cX1_sectors 0 = .ok (.aload_n 0, 1) := by decide +kernel
theorem dX1_sectors_1 : decode cX1_sectors 1 = .ok (.getfield 21, 3) := by decide +kernel
theorem dX1_sectors_4 : decode cX1_sectors 4 = .ok (.ireturn, 1) := by decide +kernel
theorem dX1_programTicks_0 : decode cX1_programTicks 0 = .ok (.aload_n 0, 1) := by decide +kernel
theorem dX1_programTicks_1 : decode cX1_programTicks 1 = .ok (.getfield 24, 3) := by decide +kernel
theorem dX1_programTicks_4 : decode cX1_programTicks 4 = .ok (.ireturn, 1) := by decide +kernel
theorem dX1_eraseTicks_0 : decode cX1_eraseTicks 0 = .ok (.aload_n 0, 1) := by decide +kernel
theorem dX1_eraseTicks_1 : decode cX1_eraseTicks 1 = .ok (.getfield 27, 3) := by decide +kernel
theorem dX1_eraseTicks_4 : decode cX1_eraseTicks 4 = .ok (.ireturn, 1) := by decide +kernel
theorem dX1_sectorBytes_0 : decode cX1_sectorBytes 0 = .ok (.aload_n 0, 1) := by decide +kernel
theorem dX1_sectorBytes_1 : decode cX1_sectorBytes 1 = .ok (.getfield 14, 3) := by decide +kernel
theorem dX1_sectorBytes_4 : decode cX1_sectorBytes 4 = .ok (.aload_n 0, 1) := by decide +kernel
theorem dX1_sectorBytes_5 : decode cX1_sectorBytes 5 = .ok (.getfield 18, 3) := by decide +kernel
theorem dX1_sectorBytes_8 : decode cX1_sectorBytes 8 = .ok (.imul, 1) := by decide +kernel
theorem dX1_sectorBytes_9 : decode cX1_sectorBytes 9 = .ok (.ireturn, 1) := by decide +kernel
theorem dX1_all_0 : decode cX1_all 0 = .ok (.aload_n 0, 1) := by decide +kernel
theorem dX1_all_1 : decode cX1_all 1 = .ok (.invokevirtual 30, 3) := by decide +kernel
theorem dX1_all_4 : decode cX1_all 4 = .ok (.aload_n 0, 1) := by decide +kernel
theorem dX1_all_5 : decode cX1_all 5 = .ok (.getfield 21, 3) := by decide +kernel
theorem dX1_all_8 : decode cX1_all 8 = .ok (.imul, 1) := by decide +kernel
theorem dX1_all_9 : decode cX1_all 9 = .ok (.ireturn, 1) := by decide +kernel
theorem dX1_together_0 : decode cX1_together 0 = .ok (.aload_n 0, 1) := by decide +kernel
theorem dX1_together_1 : decode cX1_together 1 = .ok (.getfield 14, 3) := by decide +kernel
theorem dX1_together_4 : decode cX1_together 4 = .ok (.aload_n 0, 1) := by decide +kernel
theorem dX1_together_5 : decode cX1_together 5 = .ok (.getfield 18, 3) := by decide +kernel
theorem dX1_together_8 : decode cX1_together 8 = .ok (.iadd, 1) := by decide +kernel
theorem dX1_together_9 : decode cX1_together 9 = .ok (.aload_n 0, 1) := by decide +kernel
theorem dX1_together_10 : decode cX1_together 10 = .ok (.getfield 21, 3) := by decide +kernel
theorem dX1_together_13 : decode cX1_together 13 = .ok (.iadd, 1) := by decide +kernel
theorem dX1_together_14 : decode cX1_together 14 = .ok (.aload_n 0, 1) := by decide +kernel
theorem dX1_together_15 : decode cX1_together 15 = .ok (.getfield 24, 3) := by decide +kernel
theorem dX1_together_18 : decode cX1_together 18 = .ok (.iadd, 1) := by decide +kernel
theorem dX1_together_19 : decode cX1_together 19 = .ok (.aload_n 0, 1) := by decide +kernel
theorem dX1_together_20 : decode cX1_together 20 = .ok (.getfield 27, 3) := by decide +kernel
theorem dX1_together_23 : decode cX1_together 23 = .ok (.iadd, 1) := by decide +kernel
theorem dX1_together_24 : decode cX1_together 24 = .ok (.ireturn, 1) := by decide +kernel
theorem dX1_tableByte_0 : decode cX1_tableByte 0 = .ok (.iload_n 1, 1) := by decide +kernel
theorem dX1_tableByte_1 : decode cX1_tableByte 1 = .ok (.tableswitch 91 0 7 #[47, 50, 53, 58, 63, 68, 73, 78], 47) := by decide +kernel
theorem dX1_tableByte_48 : decode cX1_tableByte 48 = .ok (.bipush 83, 2) := by decide +kernel
theorem dX1_tableByte_50 : decode cX1_tableByte 50 = .ok (.ireturn, 1) := by decide +kernel
theorem dX1_tableByte_51 : decode cX1_tableByte 51 = .ok (.bipush 70, 2) := by decide +kernel
theorem dX1_tableByte_53 : decode cX1_tableByte 53 = .ok (.ireturn, 1) := by decide +kernel
theorem dX1_tableByte_54 : decode cX1_tableByte 54 = .ok (.aload_n 0, 1) := by decide +kernel
theorem dX1_tableByte_55 : decode cX1_tableByte 55 = .ok (.getfield 14, 3) := by decide +kernel
theorem dX1_tableByte_58 : decode cX1_tableByte 58 = .ok (.ireturn, 1) := by decide +kernel
theorem dX1_tableByte_59 : decode cX1_tableByte 59 = .ok (.aload_n 0, 1) := by decide +kernel
theorem dX1_tableByte_60 : decode cX1_tableByte 60 = .ok (.getfield 18, 3) := by decide +kernel
theorem dX1_tableByte_63 : decode cX1_tableByte 63 = .ok (.ireturn, 1) := by decide +kernel
theorem dX1_tableByte_64 : decode cX1_tableByte 64 = .ok (.aload_n 0, 1) := by decide +kernel
theorem dX1_tableByte_65 : decode cX1_tableByte 65 = .ok (.getfield 21, 3) := by decide +kernel
theorem dX1_tableByte_68 : decode cX1_tableByte 68 = .ok (.ireturn, 1) := by decide +kernel
theorem dX1_tableByte_69 : decode cX1_tableByte 69 = .ok (.aload_n 0, 1) := by decide +kernel
theorem dX1_tableByte_70 : decode cX1_tableByte 70 = .ok (.getfield 24, 3) := by decide +kernel
theorem dX1_tableByte_73 : decode cX1_tableByte 73 = .ok (.ireturn, 1) := by decide +kernel
theorem dX1_tableByte_74 : decode cX1_tableByte 74 = .ok (.aload_n 0, 1) := by decide +kernel
theorem dX1_tableByte_75 : decode cX1_tableByte 75 = .ok (.getfield 27, 3) := by decide +kernel
theorem dX1_tableByte_78 : decode cX1_tableByte 78 = .ok (.ireturn, 1) := by decide +kernel
theorem dX1_tableByte_79 : decode cX1_tableByte 79 = .ok (.sipush 153, 3) := by decide +kernel
theorem dX1_tableByte_82 : decode cX1_tableByte 82 = .ok (.aload_n 0, 1) := by decide +kernel
theorem dX1_tableByte_83 : decode cX1_tableByte 83 = .ok (.invokevirtual 34, 3) := by decide +kernel
theorem dX1_tableByte_86 : decode cX1_tableByte 86 = .ok (.iadd, 1) := by decide +kernel
theorem dX1_tableByte_87 : decode cX1_tableByte 87 = .ok (.sipush 255, 3) := by decide +kernel
theorem dX1_tableByte_90 : decode cX1_tableByte 90 = .ok (.iand, 1) := by decide +kernel
theorem dX1_tableByte_91 : decode cX1_tableByte 91 = .ok (.ireturn, 1) := by decide +kernel
theorem dX1_tableByte_92 : decode cX1_tableByte 92 = .ok (.sipush 255, 3) := by decide +kernel
theorem dX1_tableByte_95 : decode cX1_tableByte 95 = .ok (.ireturn, 1) := by decide +kernel
theorem dX2_init_0 : decode cX2_init 0 = .ok (.aload_n 0, 1) := by decide +kernel
theorem dX2_init_1 : decode cX2_init 1 = .ok (.invokespecial 3, 3) := by decide +kernel
theorem dX2_init_4 : decode cX2_init 4 = .ok (.aload_n 0, 1) := by decide +kernel
theorem dX2_init_5 : decode cX2_init 5 = .ok (.sipush 200, 3) := by decide +kernel
theorem dX2_init_8 : decode cX2_init 8 = .ok (.newarray .int, 2) := by decide +kernel
theorem dX2_init_10 : decode cX2_init 10 = .ok (.putfield 9, 3) := by decide +kernel
theorem dX2_init_13 : decode cX2_init 13 = .ok (.aload_n 0, 1) := by decide +kernel
theorem dX2_init_14 : decode cX2_init 14 = .ok (.iconst 0, 1) := by decide +kernel
theorem dX2_init_15 : decode cX2_init 15 = .ok (.putfield 15, 3) := by decide +kernel
theorem dX2_init_18 : decode cX2_init 18 = .ok (.aload_n 0, 1) := by decide +kernel
theorem dX2_init_19 : decode cX2_init 19 = .ok (.new 19, 3) := by decide +kernel
theorem dX2_init_22 : decode cX2_init 22 = .ok (.dup, 1) := by decide +kernel
theorem dX2_init_23 : decode cX2_init 23 = .ok (.invokespecial 21, 3) := by decide +kernel
theorem dX2_init_26 : decode cX2_init 26 = .ok (.putfield 22, 3) := by decide +kernel
theorem dX2_init_29 : decode cX2_init 29 = .ok (.aload_n 0, 1) := by decide +kernel
theorem dX2_init_30 : decode cX2_init 30 = .ok (.iconst 0, 1) := by decide +kernel
theorem dX2_init_31 : decode cX2_init 31 = .ok (.putfield 26, 3) := by decide +kernel
theorem dX2_init_34 : decode cX2_init 34 = .ok (.aload_n 0, 1) := by decide +kernel
theorem dX2_init_35 : decode cX2_init 35 = .ok (.iconst 0, 1) := by decide +kernel
theorem dX2_init_36 : decode cX2_init 36 = .ok (.putfield 29, 3) := by decide +kernel
theorem dX2_init_39 : decode cX2_init 39 = .ok (.aload_n 0, 1) := by decide +kernel
theorem dX2_init_40 : decode cX2_init 40 = .ok (.bipush (-4), 2) := by decide +kernel
theorem dX2_init_42 : decode cX2_init 42 = .ok (.putfield 33, 3) := by decide +kernel
theorem dX2_init_45 : decode cX2_init 45 = .ok (.return_, 1) := by decide +kernel
theorem dX2_length_0 : decode cX2_length 0 = .ok (.aload_n 0, 1) := by decide +kernel
theorem dX2_length_1 : decode cX2_length 1 = .ok (.getfield 15, 3) := by decide +kernel
theorem dX2_length_4 : decode cX2_length 4 = .ok (.ireturn, 1) := by decide +kernel
theorem dX2_clear_0 : decode cX2_clear 0 = .ok (.aload_n 0, 1) := by decide +kernel
theorem dX2_clear_1 : decode cX2_clear 1 = .ok (.iconst 0, 1) := by decide +kernel
theorem dX2_clear_2 : decode cX2_clear 2 = .ok (.putfield 15, 3) := by decide +kernel
theorem dX2_clear_5 : decode cX2_clear 5 = .ok (.return_, 1) := by decide +kernel
theorem dX2_append_0 : decode cX2_append 0 = .ok (.aload_n 0, 1) := by decide +kernel
theorem dX2_append_1 : decode cX2_append 1 = .ok (.getfield 15, 3) := by decide +kernel
theorem dX2_append_4 : decode cX2_append 4 = .ok (.ifCond .lt 15, 3) := by decide +kernel
theorem dX2_append_7 : decode cX2_append 7 = .ok (.aload_n 0, 1) := by decide +kernel
theorem dX2_append_8 : decode cX2_append 8 = .ok (.getfield 15, 3) := by decide +kernel
theorem dX2_append_11 : decode cX2_append 11 = .ok (.aload_n 0, 1) := by decide +kernel
theorem dX2_append_12 : decode cX2_append 12 = .ok (.getfield 9, 3) := by decide +kernel
theorem dX2_append_15 : decode cX2_append 15 = .ok (.arraylength, 1) := by decide +kernel
theorem dX2_append_16 : decode cX2_append 16 = .ok (.if_icmp .lt 5, 3) := by decide +kernel
theorem dX2_append_19 : decode cX2_append 19 = .ok (.iconst 0, 1) := by decide +kernel
theorem dX2_append_20 : decode cX2_append 20 = .ok (.ireturn, 1) := by decide +kernel
theorem dX2_append_21 : decode cX2_append 21 = .ok (.aload_n 0, 1) := by decide +kernel
theorem dX2_append_22 : decode cX2_append 22 = .ok (.getfield 9, 3) := by decide +kernel
theorem dX2_append_25 : decode cX2_append 25 = .ok (.aload_n 0, 1) := by decide +kernel
theorem dX2_append_26 : decode cX2_append 26 = .ok (.getfield 15, 3) := by decide +kernel
theorem dX2_append_29 : decode cX2_append 29 = .ok (.iload_n 1, 1) := by decide +kernel
theorem dX2_append_30 : decode cX2_append 30 = .ok (.iastore, 1) := by decide +kernel
theorem dX2_append_31 : decode cX2_append 31 = .ok (.aload_n 0, 1) := by decide +kernel
theorem dX2_append_32 : decode cX2_append 32 = .ok (.dup, 1) := by decide +kernel
theorem dX2_append_33 : decode cX2_append 33 = .ok (.getfield 15, 3) := by decide +kernel
theorem dX2_append_36 : decode cX2_append 36 = .ok (.iconst 1, 1) := by decide +kernel
theorem dX2_append_37 : decode cX2_append 37 = .ok (.iadd, 1) := by decide +kernel
theorem dX2_append_38 : decode cX2_append 38 = .ok (.putfield 15, 3) := by decide +kernel
theorem dX2_append_41 : decode cX2_append 41 = .ok (.iconst 1, 1) := by decide +kernel
theorem dX2_append_42 : decode cX2_append 42 = .ok (.ireturn, 1) := by decide +kernel
theorem dX2_faultPlace_0 : decode cX2_faultPlace 0 = .ok (.aload_n 0, 1) := by decide +kernel
theorem dX2_faultPlace_1 : decode cX2_faultPlace 1 = .ok (.getfield 33, 3) := by decide +kernel
theorem dX2_faultPlace_4 : decode cX2_faultPlace 4 = .ok (.ireturn, 1) := by decide +kernel
theorem dX2_isChecked_0 : decode cX2_isChecked 0 = .ok (.aload_n 0, 1) := by decide +kernel
theorem dX2_isChecked_1 : decode cX2_isChecked 1 = .ok (.getfield 29, 3) := by decide +kernel
theorem dX2_isChecked_4 : decode cX2_isChecked 4 = .ok (.ifCond .eq 16, 3) := by decide +kernel
theorem dX2_isChecked_7 : decode cX2_isChecked 7 = .ok (.aload_n 0, 1) := by decide +kernel
theorem dX2_isChecked_8 : decode cX2_isChecked 8 = .ok (.getfield 33, 3) := by decide +kernel
theorem dX2_isChecked_11 : decode cX2_isChecked 11 = .ok (.bipush (-4), 2) := by decide +kernel
theorem dX2_isChecked_13 : decode cX2_isChecked 13 = .ok (.if_icmp .ne 7, 3) := by decide +kernel
theorem dX2_isChecked_16 : decode cX2_isChecked 16 = .ok (.iconst 1, 1) := by decide +kernel
theorem dX2_isChecked_17 : decode cX2_isChecked 17 = .ok (.goto 4, 3) := by decide +kernel
theorem dX2_isChecked_20 : decode cX2_isChecked 20 = .ok (.iconst 0, 1) := by decide +kernel
theorem dX2_isChecked_21 : decode cX2_isChecked 21 = .ok (.ireturn, 1) := by decide +kernel
theorem dX2_told_0 : decode cX2_told 0 = .ok (.aload_n 0, 1) := by decide +kernel
theorem dX2_told_1 : decode cX2_told 1 = .ok (.getfield 22, 3) := by decide +kernel
theorem dX2_told_4 : decode cX2_told 4 = .ok (.areturn, 1) := by decide +kernel
theorem dX2_examine_0 : decode cX2_examine 0 = .ok (.aload_n 0, 1) := by decide +kernel
theorem dX2_examine_1 : decode cX2_examine 1 = .ok (.getfield 22, 3) := by decide +kernel
theorem dX2_examine_4 : decode cX2_examine 4 = .ok (.invokevirtual 36, 3) := by decide +kernel
theorem dX2_examine_7 : decode cX2_examine 7 = .ok (.aload_n 0, 1) := by decide +kernel
theorem dX2_examine_8 : decode cX2_examine 8 = .ok (.iconst 0, 1) := by decide +kernel
theorem dX2_examine_9 : decode cX2_examine 9 = .ok (.putfield 26, 3) := by decide +kernel
theorem dX2_examine_12 : decode cX2_examine 12 = .ok (.aload_n 0, 1) := by decide +kernel
theorem dX2_examine_13 : decode cX2_examine 13 = .ok (.iconst 0, 1) := by decide +kernel
theorem dX2_examine_14 : decode cX2_examine 14 = .ok (.putfield 29, 3) := by decide +kernel
theorem dX2_examine_17 : decode cX2_examine 17 = .ok (.aload_n 0, 1) := by decide +kernel
theorem dX2_examine_18 : decode cX2_examine 18 = .ok (.bipush (-4), 2) := by decide +kernel
theorem dX2_examine_20 : decode cX2_examine 20 = .ok (.putfield 33, 3) := by decide +kernel
theorem dX2_examine_23 : decode cX2_examine 23 = .ok (.iconst 0, 1) := by decide +kernel
theorem dX2_examine_24 : decode cX2_examine 24 = .ok (.istore_n 1, 1) := by decide +kernel
theorem dX2_examine_25 : decode cX2_examine 25 = .ok (.iload_n 1, 1) := by decide +kernel
theorem dX2_examine_26 : decode cX2_examine 26 = .ok (.sipush 200, 3) := by decide +kernel
theorem dX2_examine_29 : decode cX2_examine 29 = .ok (.if_icmp .ge 45, 3) := by decide +kernel
theorem dX2_examine_32 : decode cX2_examine 32 = .ok (.aload_n 0, 1) := by decide +kernel
theorem dX2_examine_33 : decode cX2_examine 33 = .ok (.getfield 26, 3) := by decide +kernel
theorem dX2_examine_36 : decode cX2_examine 36 = .ok (.aload_n 0, 1) := by decide +kernel
theorem dX2_examine_37 : decode cX2_examine 37 = .ok (.getfield 15, 3) := by decide +kernel
theorem dX2_examine_40 : decode cX2_examine 40 = .ok (.if_icmp .ge 34, 3) := by decide +kernel
theorem dX2_examine_43 : decode cX2_examine 43 = .ok (.aload_n 0, 1) := by decide +kernel
theorem dX2_examine_44 : decode cX2_examine 44 = .ok (.getfield 26, 3) := by decide +kernel
theorem dX2_examine_47 : decode cX2_examine 47 = .ok (.istore_n 2, 1) := by decide +kernel
theorem dX2_examine_48 : decode cX2_examine 48 = .ok (.aload_n 0, 1) := by decide +kernel
theorem dX2_examine_49 : decode cX2_examine 49 = .ok (.getfield 29, 3) := by decide +kernel
theorem dX2_examine_52 : decode cX2_examine 52 = .ok (.ifCond .ne 10, 3) := by decide +kernel
theorem dX2_examine_55 : decode cX2_examine 55 = .ok (.aload_n 0, 1) := by decide +kernel
theorem dX2_examine_56 : decode cX2_examine 56 = .ok (.invokevirtual 39, 3) := by decide +kernel
theorem dX2_examine_59 : decode cX2_examine 59 = .ok (.ifCond .ne 9, 3) := by decide +kernel
theorem dX2_examine_62 : decode cX2_examine 62 = .ok (.aload_n 0, 1) := by decide +kernel
theorem dX2_examine_63 : decode cX2_examine 63 = .ok (.iload_n 2, 1) := by decide +kernel
theorem dX2_examine_64 : decode cX2_examine 64 = .ok (.putfield 33, 3) := by decide +kernel
theorem dX2_examine_67 : decode cX2_examine 67 = .ok (.return_, 1) := by decide +kernel
theorem dX2_examine_68 : decode cX2_examine 68 = .ok (.iinc 1 1, 3) := by decide +kernel
theorem dX2_examine_71 : decode cX2_examine 71 = .ok (.goto (-46), 3) := by decide +kernel
theorem dX2_examine_74 : decode cX2_examine 74 = .ok (.return_, 1) := by decide +kernel
theorem dX2_readItem_0 : decode cX2_readItem 0 = .ok (.aload_n 0, 1) := by decide +kernel
theorem dX2_readItem_1 : decode cX2_readItem 1 = .ok (.invokevirtual 43, 3) := by decide +kernel
theorem dX2_readItem_4 : decode cX2_readItem 4 = .ok (.lookupswitch 81 #[(99, 66), (103, 36), (116, 51)], 36) := by decide +kernel
theorem dX2_readItem_40 : decode cX2_readItem 40 = .ok (.aload_n 0, 1) := by decide +kernel
theorem dX2_readItem_41 : decode cX2_readItem 41 = .ok (.dup, 1) := by decide +kernel
theorem dX2_readItem_42 : decode cX2_readItem 42 = .ok (.getfield 26, 3) := by decide +kernel
theorem dX2_readItem_45 : decode cX2_readItem 45 = .ok (.iconst 1, 1) := by decide +kernel
theorem dX2_readItem_46 : decode cX2_readItem 46 = .ok (.iadd, 1) := by decide +kernel
theorem dX2_readItem_47 : decode cX2_readItem 47 = .ok (.putfield 26, 3) := by decide +kernel
theorem dX2_readItem_50 : decode cX2_readItem 50 = .ok (.aload_n 0, 1) := by decide +kernel
theorem dX2_readItem_51 : decode cX2_readItem 51 = .ok (.invokevirtual 47, 3) := by decide +kernel
theorem dX2_readItem_54 : decode cX2_readItem 54 = .ok (.ireturn, 1) := by decide +kernel
theorem dX2_readItem_55 : decode cX2_readItem 55 = .ok (.aload_n 0, 1) := by decide +kernel
theorem dX2_readItem_56 : decode cX2_readItem 56 = .ok (.dup, 1) := by decide +kernel
theorem dX2_readItem_57 : decode cX2_readItem 57 = .ok (.getfield 26, 3) := by decide +kernel
theorem dX2_readItem_60 : decode cX2_readItem 60 = .ok (.iconst 1, 1) := by decide +kernel
theorem dX2_readItem_61 : decode cX2_readItem 61 = .ok (.iadd, 1) := by decide +kernel
theorem dX2_readItem_62 : decode cX2_readItem 62 = .ok (.putfield 26, 3) := by decide +kernel
theorem dX2_readItem_65 : decode cX2_readItem 65 = .ok (.aload_n 0, 1) := by decide +kernel
theorem dX2_readItem_66 : decode cX2_readItem 66 = .ok (.invokevirtual 50, 3) := by decide +kernel
theorem dX2_readItem_69 : decode cX2_readItem 69 = .ok (.ireturn, 1) := by decide +kernel
theorem dX2_readItem_70 : decode cX2_readItem 70 = .ok (.aload_n 0, 1) := by decide +kernel
theorem dX2_readItem_71 : decode cX2_readItem 71 = .ok (.dup, 1) := by decide +kernel
theorem dX2_readItem_72 : decode cX2_readItem 72 = .ok (.getfield 26, 3) := by decide +kernel
theorem dX2_readItem_75 : decode cX2_readItem 75 = .ok (.iconst 1, 1) := by decide +kernel
theorem dX2_readItem_76 : decode cX2_readItem 76 = .ok (.iadd, 1) := by decide +kernel
theorem dX2_readItem_77 : decode cX2_readItem 77 = .ok (.putfield 26, 3) := by decide +kernel
theorem dX2_readItem_80 : decode cX2_readItem 80 = .ok (.aload_n 0, 1) := by decide +kernel
theorem dX2_readItem_81 : decode cX2_readItem 81 = .ok (.invokevirtual 53, 3) := by decide +kernel
theorem dX2_readItem_84 : decode cX2_readItem 84 = .ok (.ireturn, 1) := by decide +kernel
theorem dX2_readItem_85 : decode cX2_readItem 85 = .ok (.iconst 0, 1) := by decide +kernel
theorem dX2_readItem_86 : decode cX2_readItem 86 = .ok (.ireturn, 1) := by decide +kernel
theorem dX2_readParts_0 : decode cX2_readParts 0 = .ok (.aload_n 0, 1) := by decide +kernel
theorem dX2_readParts_1 : decode cX2_readParts 1 = .ok (.invokevirtual 56, 3) := by decide +kernel
theorem dX2_readParts_4 : decode cX2_readParts 4 = .ok (.istore_n 1, 1) := by decide +kernel
theorem dX2_readParts_5 : decode cX2_readParts 5 = .ok (.aload_n 0, 1) := by decide +kernel
theorem dX2_readParts_6 : decode cX2_readParts 6 = .ok (.bipush 44, 2) := by decide +kernel
theorem dX2_readParts_8 : decode cX2_readParts 8 = .ok (.invokevirtual 59, 3) := by decide +kernel
theorem dX2_readParts_11 : decode cX2_readParts 11 = .ok (.ifCond .ne 5, 3) := by decide +kernel
theorem dX2_readParts_14 : decode cX2_readParts 14 = .ok (.iconst 0, 1) := by decide +kernel
theorem dX2_readParts_15 : decode cX2_readParts 15 = .ok (.ireturn, 1) := by decide +kernel
theorem dX2_readParts_16 : decode cX2_readParts 16 = .ok (.aload_n 0, 1) := by decide +kernel
theorem dX2_readParts_17 : decode cX2_readParts 17 = .ok (.invokevirtual 56, 3) := by decide +kernel
theorem dX2_readParts_20 : decode cX2_readParts 20 = .ok (.istore_n 2, 1) := by decide +kernel
theorem dX2_readParts_21 : decode cX2_readParts 21 = .ok (.aload_n 0, 1) := by decide +kernel
theorem dX2_readParts_22 : decode cX2_readParts 22 = .ok (.bipush 44, 2) := by decide +kernel
theorem dX2_readParts_24 : decode cX2_readParts 24 = .ok (.invokevirtual 59, 3) := by decide +kernel
theorem dX2_readParts_27 : decode cX2_readParts 27 = .ok (.ifCond .ne 5, 3) := by decide +kernel
theorem dX2_readParts_30 : decode cX2_readParts 30 = .ok (.iconst 0, 1) := by decide +kernel
theorem dX2_readParts_31 : decode cX2_readParts 31 = .ok (.ireturn, 1) := by decide +kernel
theorem dX2_readParts_32 : decode cX2_readParts 32 = .ok (.aload_n 0, 1) := by decide +kernel
theorem dX2_readParts_33 : decode cX2_readParts 33 = .ok (.invokevirtual 56, 3) := by decide +kernel
theorem dX2_readParts_36 : decode cX2_readParts 36 = .ok (.istore_n 3, 1) := by decide +kernel
theorem dX2_readParts_37 : decode cX2_readParts 37 = .ok (.aload_n 0, 1) := by decide +kernel
theorem dX2_readParts_38 : decode cX2_readParts 38 = .ok (.bipush 59, 2) := by decide +kernel
theorem dX2_readParts_40 : decode cX2_readParts 40 = .ok (.invokevirtual 59, 3) := by decide +kernel
theorem dX2_readParts_43 : decode cX2_readParts 43 = .ok (.ifCond .eq 20, 3) := by decide +kernel
theorem dX2_readParts_46 : decode cX2_readParts 46 = .ok (.aload_n 0, 1) := by decide +kernel
theorem dX2_readParts_47 : decode cX2_readParts 47 = .ok (.getfield 22, 3) := by decide +kernel
theorem dX2_readParts_50 : decode cX2_readParts 50 = .ok (.iload_n 1, 1) := by decide +kernel
theorem dX2_readParts_51 : decode cX2_readParts 51 = .ok (.iload_n 2, 1) := by decide +kernel
theorem dX2_readParts_52 : decode cX2_readParts 52 = .ok (.iload_n 3, 1) := by decide +kernel
theorem dX2_readParts_53 : decode cX2_readParts 53 = .ok (.invokevirtual 63, 3) := by decide +kernel
theorem dX2_readParts_56 : decode cX2_readParts 56 = .ok (.ifCond .eq 7, 3) := by decide +kernel
theorem dX2_readParts_59 : decode cX2_readParts 59 = .ok (.iconst 1, 1) := by decide +kernel
theorem dX2_readParts_60 : decode cX2_readParts 60 = .ok (.goto 4, 3) := by decide +kernel
theorem dX2_readParts_63 : decode cX2_readParts 63 = .ok (.iconst 0, 1) := by decide +kernel
theorem dX2_readParts_64 : decode cX2_readParts 64 = .ok (.ireturn, 1) := by decide +kernel
theorem dX2_readTicks_0 : decode cX2_readTicks 0 = .ok (.aload_n 0, 1) := by decide +kernel
theorem dX2_readTicks_1 : decode cX2_readTicks 1 = .ok (.invokevirtual 56, 3) := by decide +kernel
theorem dX2_readTicks_4 : decode cX2_readTicks 4 = .ok (.istore_n 1, 1) := by decide +kernel
theorem dX2_readTicks_5 : decode cX2_readTicks 5 = .ok (.aload_n 0, 1) := by decide +kernel
theorem dX2_readTicks_6 : decode cX2_readTicks 6 = .ok (.bipush 44, 2) := by decide +kernel
theorem dX2_readTicks_8 : decode cX2_readTicks 8 = .ok (.invokevirtual 59, 3) := by decide +kernel
theorem dX2_readTicks_11 : decode cX2_readTicks 11 = .ok (.ifCond .ne 5, 3) := by decide +kernel
theorem dX2_readTicks_14 : decode cX2_readTicks 14 = .ok (.iconst 0, 1) := by decide +kernel
theorem dX2_readTicks_15 : decode cX2_readTicks 15 = .ok (.ireturn, 1) := by decide +kernel
theorem dX2_readTicks_16 : decode cX2_readTicks 16 = .ok (.aload_n 0, 1) := by decide +kernel
theorem dX2_readTicks_17 : decode cX2_readTicks 17 = .ok (.invokevirtual 56, 3) := by decide +kernel
theorem dX2_readTicks_20 : decode cX2_readTicks 20 = .ok (.istore_n 2, 1) := by decide +kernel
theorem dX2_readTicks_21 : decode cX2_readTicks 21 = .ok (.aload_n 0, 1) := by decide +kernel
theorem dX2_readTicks_22 : decode cX2_readTicks 22 = .ok (.bipush 59, 2) := by decide +kernel
theorem dX2_readTicks_24 : decode cX2_readTicks 24 = .ok (.invokevirtual 59, 3) := by decide +kernel
theorem dX2_readTicks_27 : decode cX2_readTicks 27 = .ok (.ifCond .eq 19, 3) := by decide +kernel
theorem dX2_readTicks_30 : decode cX2_readTicks 30 = .ok (.aload_n 0, 1) := by decide +kernel
theorem dX2_readTicks_31 : decode cX2_readTicks 31 = .ok (.getfield 22, 3) := by decide +kernel
theorem dX2_readTicks_34 : decode cX2_readTicks 34 = .ok (.iload_n 1, 1) := by decide +kernel
theorem dX2_readTicks_35 : decode cX2_readTicks 35 = .ok (.iload_n 2, 1) := by decide +kernel
theorem dX2_readTicks_36 : decode cX2_readTicks 36 = .ok (.invokevirtual 67, 3) := by decide +kernel
theorem dX2_readTicks_39 : decode cX2_readTicks 39 = .ok (.ifCond .eq 7, 3) := by decide +kernel
theorem dX2_readTicks_42 : decode cX2_readTicks 42 = .ok (.iconst 1, 1) := by decide +kernel
theorem dX2_readTicks_43 : decode cX2_readTicks 43 = .ok (.goto 4, 3) := by decide +kernel
theorem dX2_readTicks_46 : decode cX2_readTicks 46 = .ok (.iconst 0, 1) := by decide +kernel
theorem dX2_readTicks_47 : decode cX2_readTicks 47 = .ok (.ireturn, 1) := by decide +kernel
theorem dX2_readCheck_0 : decode cX2_readCheck 0 = .ok (.aload_n 0, 1) := by decide +kernel
theorem dX2_readCheck_1 : decode cX2_readCheck 1 = .ok (.invokevirtual 56, 3) := by decide +kernel
theorem dX2_readCheck_4 : decode cX2_readCheck 4 = .ok (.istore_n 1, 1) := by decide +kernel
theorem dX2_readCheck_5 : decode cX2_readCheck 5 = .ok (.aload_n 0, 1) := by decide +kernel
theorem dX2_readCheck_6 : decode cX2_readCheck 6 = .ok (.aload_n 0, 1) := by decide +kernel
theorem dX2_readCheck_7 : decode cX2_readCheck 7 = .ok (.bipush 59, 2) := by decide +kernel
theorem dX2_readCheck_9 : decode cX2_readCheck 9 = .ok (.invokevirtual 59, 3) := by decide +kernel
theorem dX2_readCheck_12 : decode cX2_readCheck 12 = .ok (.ifCond .eq 21, 3) := by decide +kernel
theorem dX2_readCheck_15 : decode cX2_readCheck 15 = .ok (.iload_n 1, 1) := by decide +kernel
theorem dX2_readCheck_16 : decode cX2_readCheck 16 = .ok (.aload_n 0, 1) := by decide +kernel
theorem dX2_readCheck_17 : decode cX2_readCheck 17 = .ok (.getfield 22, 3) := by decide +kernel
theorem dX2_readCheck_20 : decode cX2_readCheck 20 = .ok (.invokevirtual 71, 3) := by decide +kernel
theorem dX2_readCheck_23 : decode cX2_readCheck 23 = .ok (.bipush 97, 2) := by decide +kernel
theorem dX2_readCheck_25 : decode cX2_readCheck 25 = .ok (.irem, 1) := by decide +kernel
theorem dX2_readCheck_26 : decode cX2_readCheck 26 = .ok (.if_icmp .ne 7, 3) := by decide +kernel
theorem dX2_readCheck_29 : decode cX2_readCheck 29 = .ok (.iconst 1, 1) := by decide +kernel
theorem dX2_readCheck_30 : decode cX2_readCheck 30 = .ok (.goto 4, 3) := by decide +kernel
theorem dX2_readCheck_33 : decode cX2_readCheck 33 = .ok (.iconst 0, 1) := by decide +kernel
theorem dX2_readCheck_34 : decode cX2_readCheck 34 = .ok (.putfield 29, 3) := by decide +kernel
theorem dX2_readCheck_37 : decode cX2_readCheck 37 = .ok (.aload_n 0, 1) := by decide +kernel
theorem dX2_readCheck_38 : decode cX2_readCheck 38 = .ok (.getfield 29, 3) := by decide +kernel
theorem dX2_readCheck_41 : decode cX2_readCheck 41 = .ok (.ireturn, 1) := by decide +kernel
theorem dX2_readNumber_0 : decode cX2_readNumber 0 = .ok (.aload_n 0, 1) := by decide +kernel
theorem dX2_readNumber_1 : decode cX2_readNumber 1 = .ok (.invokevirtual 43, 3) := by decide +kernel
theorem dX2_readNumber_4 : decode cX2_readNumber 4 = .ok (.invokestatic 74, 3) := by decide +kernel
theorem dX2_readNumber_7 : decode cX2_readNumber 7 = .ok (.ifCond .ne 6, 3) := by decide +kernel
theorem dX2_readNumber_10 : decode cX2_readNumber 10 = .ok (.bipush (-4), 2) := by decide +kernel
theorem dX2_readNumber_12 : decode cX2_readNumber 12 = .ok (.ireturn, 1) := by decide +kernel
theorem dX2_readNumber_13 : decode cX2_readNumber 13 = .ok (.aload_n 0, 1) := by decide +kernel
theorem dX2_readNumber_14 : decode cX2_readNumber 14 = .ok (.invokevirtual 43, 3) := by decide +kernel
theorem dX2_readNumber_17 : decode cX2_readNumber 17 = .ok (.bipush 48, 2) := by decide +kernel
theorem dX2_readNumber_19 : decode cX2_readNumber 19 = .ok (.isub, 1) := by decide +kernel
theorem dX2_readNumber_20 : decode cX2_readNumber 20 = .ok (.istore_n 1, 1) := by decide +kernel
theorem dX2_readNumber_21 : decode cX2_readNumber 21 = .ok (.aload_n 0, 1) := by decide +kernel
theorem dX2_readNumber_22 : decode cX2_readNumber 22 = .ok (.dup, 1) := by decide +kernel
theorem dX2_readNumber_23 : decode cX2_readNumber 23 = .ok (.getfield 26, 3) := by decide +kernel
theorem dX2_readNumber_26 : decode cX2_readNumber 26 = .ok (.iconst 1, 1) := by decide +kernel
theorem dX2_readNumber_27 : decode cX2_readNumber 27 = .ok (.iadd, 1) := by decide +kernel
theorem dX2_readNumber_28 : decode cX2_readNumber 28 = .ok (.putfield 26, 3) := by decide +kernel
theorem dX2_readNumber_31 : decode cX2_readNumber 31 = .ok (.aload_n 0, 1) := by decide +kernel
theorem dX2_readNumber_32 : decode cX2_readNumber 32 = .ok (.invokevirtual 43, 3) := by decide +kernel
theorem dX2_readNumber_35 : decode cX2_readNumber 35 = .ok (.invokestatic 74, 3) := by decide +kernel
theorem dX2_readNumber_38 : decode cX2_readNumber 38 = .ok (.ifCond .eq 26, 3) := by decide +kernel
theorem dX2_readNumber_41 : decode cX2_readNumber 41 = .ok (.iload_n 1, 1) := by decide +kernel
theorem dX2_readNumber_42 : decode cX2_readNumber 42 = .ok (.bipush 10, 2) := by decide +kernel
theorem dX2_readNumber_44 : decode cX2_readNumber 44 = .ok (.imul, 1) := by decide +kernel
theorem dX2_readNumber_45 : decode cX2_readNumber 45 = .ok (.aload_n 0, 1) := by decide +kernel
theorem dX2_readNumber_46 : decode cX2_readNumber 46 = .ok (.invokevirtual 43, 3) := by decide +kernel
theorem dX2_readNumber_49 : decode cX2_readNumber 49 = .ok (.iadd, 1) := by decide +kernel
theorem dX2_readNumber_50 : decode cX2_readNumber 50 = .ok (.bipush 48, 2) := by decide +kernel
theorem dX2_readNumber_52 : decode cX2_readNumber 52 = .ok (.isub, 1) := by decide +kernel
theorem dX2_readNumber_53 : decode cX2_readNumber 53 = .ok (.istore_n 1, 1) := by decide +kernel
theorem dX2_readNumber_54 : decode cX2_readNumber 54 = .ok (.aload_n 0, 1) := by decide +kernel
theorem dX2_readNumber_55 : decode cX2_readNumber 55 = .ok (.dup, 1) := by decide +kernel
theorem dX2_readNumber_56 : decode cX2_readNumber 56 = .ok (.getfield 26, 3) := by decide +kernel
theorem dX2_readNumber_59 : decode cX2_readNumber 59 = .ok (.iconst 1, 1) := by decide +kernel
theorem dX2_readNumber_60 : decode cX2_readNumber 60 = .ok (.iadd, 1) := by decide +kernel
theorem dX2_readNumber_61 : decode cX2_readNumber 61 = .ok (.putfield 26, 3) := by decide +kernel
theorem dX2_readNumber_64 : decode cX2_readNumber 64 = .ok (.iload_n 1, 1) := by decide +kernel
theorem dX2_readNumber_65 : decode cX2_readNumber 65 = .ok (.ireturn, 1) := by decide +kernel
theorem dX2_skip_0 : decode cX2_skip 0 = .ok (.aload_n 0, 1) := by decide +kernel
theorem dX2_skip_1 : decode cX2_skip 1 = .ok (.invokevirtual 43, 3) := by decide +kernel
theorem dX2_skip_4 : decode cX2_skip 4 = .ok (.iload_n 1, 1) := by decide +kernel
theorem dX2_skip_5 : decode cX2_skip 5 = .ok (.if_icmp .eq 5, 3) := by decide +kernel
theorem dX2_skip_8 : decode cX2_skip 8 = .ok (.iconst 0, 1) := by decide +kernel
theorem dX2_skip_9 : decode cX2_skip 9 = .ok (.ireturn, 1) := by decide +kernel
theorem dX2_skip_10 : decode cX2_skip 10 = .ok (.aload_n 0, 1) := by decide +kernel
theorem dX2_skip_11 : decode cX2_skip 11 = .ok (.dup, 1) := by decide +kernel
theorem dX2_skip_12 : decode cX2_skip 12 = .ok (.getfield 26, 3) := by decide +kernel
theorem dX2_skip_15 : decode cX2_skip 15 = .ok (.iconst 1, 1) := by decide +kernel
theorem dX2_skip_16 : decode cX2_skip 16 = .ok (.iadd, 1) := by decide +kernel
theorem dX2_skip_17 : decode cX2_skip 17 = .ok (.putfield 26, 3) := by decide +kernel
theorem dX2_skip_20 : decode cX2_skip 20 = .ok (.iconst 1, 1) := by decide +kernel
theorem dX2_skip_21 : decode cX2_skip 21 = .ok (.ireturn, 1) := by decide +kernel
theorem dX2_nextLetter_0 : decode cX2_nextLetter 0 = .ok (.aload_n 0, 1) := by decide +kernel
theorem dX2_nextLetter_1 : decode cX2_nextLetter 1 = .ok (.getfield 26, 3) := by decide +kernel
theorem dX2_nextLetter_4 : decode cX2_nextLetter 4 = .ok (.ifCond .lt 26, 3) := by decide +kernel
theorem dX2_nextLetter_7 : decode cX2_nextLetter 7 = .ok (.aload_n 0, 1) := by decide +kernel
theorem dX2_nextLetter_8 : decode cX2_nextLetter 8 = .ok (.getfield 26, 3) := by decide +kernel
theorem dX2_nextLetter_11 : decode cX2_nextLetter 11 = .ok (.aload_n 0, 1) := by decide +kernel
theorem dX2_nextLetter_12 : decode cX2_nextLetter 12 = .ok (.getfield 15, 3) := by decide +kernel
theorem dX2_nextLetter_15 : decode cX2_nextLetter 15 = .ok (.if_icmp .ge 15, 3) := by decide +kernel
theorem dX2_nextLetter_18 : decode cX2_nextLetter 18 = .ok (.aload_n 0, 1) := by decide +kernel
theorem dX2_nextLetter_19 : decode cX2_nextLetter 19 = .ok (.getfield 26, 3) := by decide +kernel
theorem dX2_nextLetter_22 : decode cX2_nextLetter 22 = .ok (.aload_n 0, 1) := by decide +kernel
theorem dX2_nextLetter_23 : decode cX2_nextLetter 23 = .ok (.getfield 9, 3) := by decide +kernel
theorem dX2_nextLetter_26 : decode cX2_nextLetter 26 = .ok (.arraylength, 1) := by decide +kernel
theorem dX2_nextLetter_27 : decode cX2_nextLetter 27 = .ok (.if_icmp .lt 6, 3) := by decide +kernel
theorem dX2_nextLetter_30 : decode cX2_nextLetter 30 = .ok (.bipush (-4), 2) := by decide +kernel
theorem dX2_nextLetter_32 : decode cX2_nextLetter 32 = .ok (.ireturn, 1) := by decide +kernel
theorem dX2_nextLetter_33 : decode cX2_nextLetter 33 = .ok (.aload_n 0, 1) := by decide +kernel
theorem dX2_nextLetter_34 : decode cX2_nextLetter 34 = .ok (.getfield 9, 3) := by decide +kernel
theorem dX2_nextLetter_37 : decode cX2_nextLetter 37 = .ok (.aload_n 0, 1) := by decide +kernel
theorem dX2_nextLetter_38 : decode cX2_nextLetter 38 = .ok (.getfield 26, 3) := by decide +kernel
theorem dX2_nextLetter_41 : decode cX2_nextLetter 41 = .ok (.iaload, 1) := by decide +kernel
theorem dX2_nextLetter_42 : decode cX2_nextLetter 42 = .ok (.ireturn, 1) := by decide +kernel
theorem dX2_isFigure_0 : decode cX2_isFigure 0 = .ok (.iload_n 0, 1) := by decide +kernel
theorem dX2_isFigure_1 : decode cX2_isFigure 1 = .ok (.bipush 48, 2) := by decide +kernel
theorem dX2_isFigure_3 : decode cX2_isFigure 3 = .ok (.if_icmp .lt 13, 3) := by decide +kernel
theorem dX2_isFigure_6 : decode cX2_isFigure 6 = .ok (.iload_n 0, 1) := by decide +kernel
theorem dX2_isFigure_7 : decode cX2_isFigure 7 = .ok (.bipush 57, 2) := by decide +kernel
theorem dX2_isFigure_9 : decode cX2_isFigure 9 = .ok (.if_icmp .gt 7, 3) := by decide +kernel
theorem dX2_isFigure_12 : decode cX2_isFigure 12 = .ok (.iconst 1, 1) := by decide +kernel
theorem dX2_isFigure_13 : decode cX2_isFigure 13 = .ok (.goto 4, 3) := by decide +kernel
theorem dX2_isFigure_16 : decode cX2_isFigure 16 = .ok (.iconst 0, 1) := by decide +kernel
theorem dX2_isFigure_17 : decode cX2_isFigure 17 = .ok (.ireturn, 1) := by decide +kernel
theorem dX3_init_0 : decode cX3_init 0 = .ok (.aload_n 0, 1) := by decide +kernel
theorem dX3_init_1 : decode cX3_init 1 = .ok (.invokespecial 3, 3) := by decide +kernel
theorem dX3_init_4 : decode cX3_init 4 = .ok (.aload_n 0, 1) := by decide +kernel
theorem dX3_init_5 : decode cX3_init 5 = .ok (.bipush 16, 2) := by decide +kernel
theorem dX3_init_7 : decode cX3_init 7 = .ok (.newarray .int, 2) := by decide +kernel
theorem dX3_init_9 : decode cX3_init 9 = .ok (.putfield 9, 3) := by decide +kernel
theorem dX3_init_12 : decode cX3_init 12 = .ok (.aload_n 0, 1) := by decide +kernel
theorem dX3_init_13 : decode cX3_init 13 = .ok (.invokevirtual 15, 3) := by decide +kernel
theorem dX3_init_16 : decode cX3_init 16 = .ok (.return_, 1) := by decide +kernel
theorem dX3_clear_0 : decode cX3_clear 0 = .ok (.aload_n 0, 1) := by decide +kernel
theorem dX3_clear_1 : decode cX3_clear 1 = .ok (.iconst 0, 1) := by decide +kernel
theorem dX3_clear_2 : decode cX3_clear 2 = .ok (.putfield 18, 3) := by decide +kernel
theorem dX3_clear_5 : decode cX3_clear 5 = .ok (.aload_n 0, 1) := by decide +kernel
theorem dX3_clear_6 : decode cX3_clear 6 = .ok (.iconst 0, 1) := by decide +kernel
theorem dX3_clear_7 : decode cX3_clear 7 = .ok (.putfield 22, 3) := by decide +kernel
theorem dX3_clear_10 : decode cX3_clear 10 = .ok (.aload_n 0, 1) := by decide +kernel
theorem dX3_clear_11 : decode cX3_clear 11 = .ok (.iconst (-1), 1) := by decide +kernel
theorem dX3_clear_12 : decode cX3_clear 12 = .ok (.putfield 26, 3) := by decide +kernel
theorem dX3_clear_15 : decode cX3_clear 15 = .ok (.aload_n 0, 1) := by decide +kernel
theorem dX3_clear_16 : decode cX3_clear 16 = .ok (.iconst 0, 1) := by decide +kernel
theorem dX3_clear_17 : decode cX3_clear 17 = .ok (.putfield 29, 3) := by decide +kernel
theorem dX3_clear_20 : decode cX3_clear 20 = .ok (.iconst 0, 1) := by decide +kernel
theorem dX3_clear_21 : decode cX3_clear 21 = .ok (.istore_n 1, 1) := by decide +kernel
theorem dX3_clear_22 : decode cX3_clear 22 = .ok (.iload_n 1, 1) := by decide +kernel
theorem dX3_clear_23 : decode cX3_clear 23 = .ok (.aload_n 0, 1) := by decide +kernel
theorem dX3_clear_24 : decode cX3_clear 24 = .ok (.getfield 9, 3) := by decide +kernel
theorem dX3_clear_27 : decode cX3_clear 27 = .ok (.arraylength, 1) := by decide +kernel
theorem dX3_clear_28 : decode cX3_clear 28 = .ok (.if_icmp .ge 16, 3) := by decide +kernel
theorem dX3_clear_31 : decode cX3_clear 31 = .ok (.aload_n 0, 1) := by decide +kernel
theorem dX3_clear_32 : decode cX3_clear 32 = .ok (.getfield 9, 3) := by decide +kernel
theorem dX3_clear_35 : decode cX3_clear 35 = .ok (.iload_n 1, 1) := by decide +kernel
theorem dX3_clear_36 : decode cX3_clear 36 = .ok (.iconst (-1), 1) := by decide +kernel
theorem dX3_clear_37 : decode cX3_clear 37 = .ok (.iastore, 1) := by decide +kernel
theorem dX3_clear_38 : decode cX3_clear 38 = .ok (.iinc 1 1, 3) := by decide +kernel
theorem dX3_clear_41 : decode cX3_clear 41 = .ok (.goto (-19), 3) := by decide +kernel
theorem dX3_clear_44 : decode cX3_clear 44 = .ok (.return_, 1) := by decide +kernel
theorem dX3_open_0 : decode cX3_open 0 = .ok (.aload_n 0, 1) := by decide +kernel
theorem dX3_open_1 : decode cX3_open 1 = .ok (.invokevirtual 15, 3) := by decide +kernel
theorem dX3_open_4 : decode cX3_open 4 = .ok (.aload_n 0, 1) := by decide +kernel
theorem dX3_open_5 : decode cX3_open 5 = .ok (.iconst 1, 1) := by decide +kernel
theorem dX3_open_6 : decode cX3_open 6 = .ok (.putfield 18, 3) := by decide +kernel
theorem dX3_open_9 : decode cX3_open 9 = .ok (.return_, 1) := by decide +kernel
theorem dX3_isSelected_0 : decode cX3_isSelected 0 = .ok (.aload_n 0, 1) := by decide +kernel
theorem dX3_isSelected_1 : decode cX3_isSelected 1 = .ok (.getfield 18, 3) := by decide +kernel
theorem dX3_isSelected_4 : decode cX3_isSelected 4 = .ok (.ireturn, 1) := by decide +kernel
theorem dX3_puts_0 : decode cX3_puts 0 = .ok (.aload_n 0, 1) := by decide +kernel
theorem dX3_puts_1 : decode cX3_puts 1 = .ok (.getfield 22, 3) := by decide +kernel
theorem dX3_puts_4 : decode cX3_puts 4 = .ok (.ireturn, 1) := by decide +kernel
theorem dX3_command_0 : decode cX3_command 0 = .ok (.aload_n 0, 1) := by decide +kernel
theorem dX3_command_1 : decode cX3_command 1 = .ok (.getfield 26, 3) := by decide +kernel
theorem dX3_command_4 : decode cX3_command 4 = .ok (.ireturn, 1) := by decide +kernel
theorem dX3_first_0 : decode cX3_first 0 = .ok (.aload_n 0, 1) := by decide +kernel
theorem dX3_first_1 : decode cX3_first 1 = .ok (.getfield 29, 3) := by decide +kernel
theorem dX3_first_4 : decode cX3_first 4 = .ok (.ireturn, 1) := by decide +kernel
theorem dX3_take_0 : decode cX3_take 0 = .ok (.aload_n 0, 1) := by decide +kernel
theorem dX3_take_1 : decode cX3_take 1 = .ok (.getfield 22, 3) := by decide +kernel
theorem dX3_take_4 : decode cX3_take 4 = .ok (.ifCond .ne 11, 3) := by decide +kernel
theorem dX3_take_7 : decode cX3_take 7 = .ok (.aload_n 0, 1) := by decide +kernel
theorem dX3_take_8 : decode cX3_take 8 = .ok (.iload_n 1, 1) := by decide +kernel
theorem dX3_take_9 : decode cX3_take 9 = .ok (.putfield 26, 3) := by decide +kernel
theorem dX3_take_12 : decode cX3_take 12 = .ok (.goto 39, 3) := by decide +kernel
theorem dX3_take_15 : decode cX3_take 15 = .ok (.aload_n 0, 1) := by decide +kernel
theorem dX3_take_16 : decode cX3_take 16 = .ok (.getfield 22, 3) := by decide +kernel
theorem dX3_take_19 : decode cX3_take 19 = .ok (.iconst 1, 1) := by decide +kernel
theorem dX3_take_20 : decode cX3_take 20 = .ok (.if_icmp .ne 11, 3) := by decide +kernel
theorem dX3_take_23 : decode cX3_take 23 = .ok (.aload_n 0, 1) := by decide +kernel
theorem dX3_take_24 : decode cX3_take 24 = .ok (.iload_n 1, 1) := by decide +kernel
theorem dX3_take_25 : decode cX3_take 25 = .ok (.putfield 29, 3) := by decide +kernel
theorem dX3_take_28 : decode cX3_take 28 = .ok (.goto 23, 3) := by decide +kernel
theorem dX3_take_31 : decode cX3_take 31 = .ok (.aload_n 0, 1) := by decide +kernel
theorem dX3_take_32 : decode cX3_take 32 = .ok (.aload_n 0, 1) := by decide +kernel
theorem dX3_take_33 : decode cX3_take 33 = .ok (.getfield 29, 3) := by decide +kernel
theorem dX3_take_36 : decode cX3_take 36 = .ok (.aload_n 0, 1) := by decide +kernel
theorem dX3_take_37 : decode cX3_take 37 = .ok (.getfield 22, 3) := by decide +kernel
theorem dX3_take_40 : decode cX3_take 40 = .ok (.iadd, 1) := by decide +kernel
theorem dX3_take_41 : decode cX3_take 41 = .ok (.iconst 2, 1) := by decide +kernel
theorem dX3_take_42 : decode cX3_take 42 = .ok (.isub, 1) := by decide +kernel
theorem dX3_take_43 : decode cX3_take 43 = .ok (.iload_n 2, 1) := by decide +kernel
theorem dX3_take_44 : decode cX3_take 44 = .ok (.invokestatic 32, 3) := by decide +kernel
theorem dX3_take_47 : decode cX3_take 47 = .ok (.iload_n 1, 1) := by decide +kernel
theorem dX3_take_48 : decode cX3_take 48 = .ok (.invokevirtual 36, 3) := by decide +kernel
theorem dX3_take_51 : decode cX3_take 51 = .ok (.aload_n 0, 1) := by decide +kernel
theorem dX3_take_52 : decode cX3_take 52 = .ok (.dup, 1) := by decide +kernel
theorem dX3_take_53 : decode cX3_take 53 = .ok (.getfield 22, 3) := by decide +kernel
theorem dX3_take_56 : decode cX3_take 56 = .ok (.iconst 1, 1) := by decide +kernel
theorem dX3_take_57 : decode cX3_take 57 = .ok (.iadd, 1) := by decide +kernel
theorem dX3_take_58 : decode cX3_take 58 = .ok (.putfield 22, 3) := by decide +kernel
theorem dX3_take_61 : decode cX3_take 61 = .ok (.return_, 1) := by decide +kernel
theorem dX3_setInPage_0 : decode cX3_setInPage 0 = .ok (.iload_n 1, 1) := by decide +kernel
theorem dX3_setInPage_1 : decode cX3_setInPage 1 = .ok (.ifCond .lt 19, 3) := by decide +kernel
theorem dX3_setInPage_4 : decode cX3_setInPage 4 = .ok (.iload_n 1, 1) := by decide +kernel
theorem dX3_setInPage_5 : decode cX3_setInPage 5 = .ok (.aload_n 0, 1) := by decide +kernel
theorem dX3_setInPage_6 : decode cX3_setInPage 6 = .ok (.getfield 9, 3) := by decide +kernel
theorem dX3_setInPage_9 : decode cX3_setInPage 9 = .ok (.arraylength, 1) := by decide +kernel
theorem dX3_setInPage_10 : decode cX3_setInPage 10 = .ok (.if_icmp .ge 10, 3) := by decide +kernel
theorem dX3_setInPage_13 : decode cX3_setInPage 13 = .ok (.aload_n 0, 1) := by decide +kernel
theorem dX3_setInPage_14 : decode cX3_setInPage 14 = .ok (.getfield 9, 3) := by decide +kernel
theorem dX3_setInPage_17 : decode cX3_setInPage 17 = .ok (.iload_n 1, 1) := by decide +kernel
theorem dX3_setInPage_18 : decode cX3_setInPage 18 = .ok (.iload_n 2, 1) := by decide +kernel
theorem dX3_setInPage_19 : decode cX3_setInPage 19 = .ok (.iastore, 1) := by decide +kernel
theorem dX3_setInPage_20 : decode cX3_setInPage 20 = .ok (.return_, 1) := by decide +kernel
theorem dX3_maskAt_0 : decode cX3_maskAt 0 = .ok (.iload_n 1, 1) := by decide +kernel
theorem dX3_maskAt_1 : decode cX3_maskAt 1 = .ok (.ifCond .lt 22, 3) := by decide +kernel
theorem dX3_maskAt_4 : decode cX3_maskAt 4 = .ok (.iload_n 1, 1) := by decide +kernel
theorem dX3_maskAt_5 : decode cX3_maskAt 5 = .ok (.aload_n 0, 1) := by decide +kernel
theorem dX3_maskAt_6 : decode cX3_maskAt 6 = .ok (.getfield 9, 3) := by decide +kernel
theorem dX3_maskAt_9 : decode cX3_maskAt 9 = .ok (.arraylength, 1) := by decide +kernel
theorem dX3_maskAt_10 : decode cX3_maskAt 10 = .ok (.if_icmp .ge 13, 3) := by decide +kernel
theorem dX3_maskAt_13 : decode cX3_maskAt 13 = .ok (.aload_n 0, 1) := by decide +kernel
theorem dX3_maskAt_14 : decode cX3_maskAt 14 = .ok (.getfield 9, 3) := by decide +kernel
theorem dX3_maskAt_17 : decode cX3_maskAt 17 = .ok (.iload_n 1, 1) := by decide +kernel
theorem dX3_maskAt_18 : decode cX3_maskAt 18 = .ok (.iaload, 1) := by decide +kernel
theorem dX3_maskAt_19 : decode cX3_maskAt 19 = .ok (.iconst (-1), 1) := by decide +kernel
theorem dX3_maskAt_20 : decode cX3_maskAt 20 = .ok (.if_icmp .ne 7, 3) := by decide +kernel
theorem dX3_maskAt_23 : decode cX3_maskAt 23 = .ok (.sipush 255, 3) := by decide +kernel
theorem dX3_maskAt_26 : decode cX3_maskAt 26 = .ok (.ireturn, 1) := by decide +kernel
theorem dX3_maskAt_27 : decode cX3_maskAt 27 = .ok (.aload_n 0, 1) := by decide +kernel
theorem dX3_maskAt_28 : decode cX3_maskAt 28 = .ok (.getfield 9, 3) := by decide +kernel
theorem dX3_maskAt_31 : decode cX3_maskAt 31 = .ok (.iload_n 1, 1) := by decide +kernel
theorem dX3_maskAt_32 : decode cX3_maskAt 32 = .ok (.iaload, 1) := by decide +kernel
theorem dX3_maskAt_33 : decode cX3_maskAt 33 = .ok (.ireturn, 1) := by decide +kernel
theorem dX3_copyFrom_0 : decode cX3_copyFrom 0 = .ok (.aload_n 0, 1) := by decide +kernel
theorem dX3_copyFrom_1 : decode cX3_copyFrom 1 = .ok (.aload_n 1, 1) := by decide +kernel
theorem dX3_copyFrom_2 : decode cX3_copyFrom 2 = .ok (.getfield 18, 3) := by decide +kernel
theorem dX3_copyFrom_5 : decode cX3_copyFrom 5 = .ok (.putfield 18, 3) := by decide +kernel
theorem dX3_copyFrom_8 : decode cX3_copyFrom 8 = .ok (.aload_n 0, 1) := by decide +kernel
theorem dX3_copyFrom_9 : decode cX3_copyFrom 9 = .ok (.aload_n 1, 1) := by decide +kernel
theorem dX3_copyFrom_10 : decode cX3_copyFrom 10 = .ok (.getfield 22, 3) := by decide +kernel
theorem dX3_copyFrom_13 : decode cX3_copyFrom 13 = .ok (.putfield 22, 3) := by decide +kernel
theorem dX3_copyFrom_16 : decode cX3_copyFrom 16 = .ok (.aload_n 0, 1) := by decide +kernel
theorem dX3_copyFrom_17 : decode cX3_copyFrom 17 = .ok (.aload_n 1, 1) := by decide +kernel
theorem dX3_copyFrom_18 : decode cX3_copyFrom 18 = .ok (.getfield 26, 3) := by decide +kernel
theorem dX3_copyFrom_21 : decode cX3_copyFrom 21 = .ok (.putfield 26, 3) := by decide +kernel
theorem dX3_copyFrom_24 : decode cX3_copyFrom 24 = .ok (.aload_n 0, 1) := by decide +kernel
theorem dX3_copyFrom_25 : decode cX3_copyFrom 25 = .ok (.aload_n 1, 1) := by decide +kernel
theorem dX3_copyFrom_26 : decode cX3_copyFrom 26 = .ok (.getfield 29, 3) := by decide +kernel
theorem dX3_copyFrom_29 : decode cX3_copyFrom 29 = .ok (.putfield 29, 3) := by decide +kernel
theorem dX3_copyFrom_32 : decode cX3_copyFrom 32 = .ok (.iconst 0, 1) := by decide +kernel
theorem dX3_copyFrom_33 : decode cX3_copyFrom 33 = .ok (.istore_n 2, 1) := by decide +kernel
theorem dX3_copyFrom_34 : decode cX3_copyFrom 34 = .ok (.iload_n 2, 1) := by decide +kernel
theorem dX3_copyFrom_35 : decode cX3_copyFrom 35 = .ok (.aload_n 0, 1) := by decide +kernel
theorem dX3_copyFrom_36 : decode cX3_copyFrom 36 = .ok (.getfield 9, 3) := by decide +kernel
theorem dX3_copyFrom_39 : decode cX3_copyFrom 39 = .ok (.arraylength, 1) := by decide +kernel
theorem dX3_copyFrom_40 : decode cX3_copyFrom 40 = .ok (.if_icmp .ge 30, 3) := by decide +kernel
theorem dX3_copyFrom_43 : decode cX3_copyFrom 43 = .ok (.iload_n 2, 1) := by decide +kernel
theorem dX3_copyFrom_44 : decode cX3_copyFrom 44 = .ok (.aload_n 1, 1) := by decide +kernel
theorem dX3_copyFrom_45 : decode cX3_copyFrom 45 = .ok (.getfield 9, 3) := by decide +kernel
theorem dX3_copyFrom_48 : decode cX3_copyFrom 48 = .ok (.arraylength, 1) := by decide +kernel
theorem dX3_copyFrom_49 : decode cX3_copyFrom 49 = .ok (.if_icmp .ge 21, 3) := by decide +kernel
theorem dX3_copyFrom_52 : decode cX3_copyFrom 52 = .ok (.aload_n 0, 1) := by decide +kernel
theorem dX3_copyFrom_53 : decode cX3_copyFrom 53 = .ok (.getfield 9, 3) := by decide +kernel
theorem dX3_copyFrom_56 : decode cX3_copyFrom 56 = .ok (.iload_n 2, 1) := by decide +kernel
theorem dX3_copyFrom_57 : decode cX3_copyFrom 57 = .ok (.aload_n 1, 1) := by decide +kernel
theorem dX3_copyFrom_58 : decode cX3_copyFrom 58 = .ok (.getfield 9, 3) := by decide +kernel
theorem dX3_copyFrom_61 : decode cX3_copyFrom 61 = .ok (.iload_n 2, 1) := by decide +kernel
theorem dX3_copyFrom_62 : decode cX3_copyFrom 62 = .ok (.iaload, 1) := by decide +kernel
theorem dX3_copyFrom_63 : decode cX3_copyFrom 63 = .ok (.iastore, 1) := by decide +kernel
theorem dX3_copyFrom_64 : decode cX3_copyFrom 64 = .ok (.iinc 2 1, 3) := by decide +kernel
theorem dX3_copyFrom_67 : decode cX3_copyFrom 67 = .ok (.goto (-33), 3) := by decide +kernel
theorem dX3_copyFrom_70 : decode cX3_copyFrom 70 = .ok (.return_, 1) := by decide +kernel
end
section
theorem dX4_init_0 : decode cX4_init 0 = .ok (.aload_n 0, 1) := by decide +kernel
theorem dX4_init_1 : decode cX4_init 1 = .ok (.invokespecial 1, 3) := by decide +kernel
theorem dX4_init_4 : decode cX4_init 4 = .ok (.aload_n 0, 1) := by decide +kernel
theorem dX4_init_5 : decode cX4_init 5 = .ok (.new 7, 3) := by decide +kernel
theorem dX4_init_8 : decode cX4_init 8 = .ok (.dup, 1) := by decide +kernel
theorem dX4_init_9 : decode cX4_init 9 = .ok (.invokespecial 9, 3) := by decide +kernel
theorem dX4_init_12 : decode cX4_init 12 = .ok (.putfield 10, 3) := by decide +kernel
theorem dX4_init_15 : decode cX4_init 15 = .ok (.aload_n 0, 1) := by decide +kernel
theorem dX4_init_16 : decode cX4_init 16 = .ok (.new 16, 3) := by decide +kernel
theorem dX4_init_19 : decode cX4_init 19 = .ok (.dup, 1) := by decide +kernel
theorem dX4_init_20 : decode cX4_init 20 = .ok (.invokespecial 18, 3) := by decide +kernel
theorem dX4_init_23 : decode cX4_init 23 = .ok (.putfield 19, 3) := by decide +kernel
theorem dX4_init_26 : decode cX4_init 26 = .ok (.aload_n 0, 1) := by decide +kernel
theorem dX4_init_27 : decode cX4_init 27 = .ok (.new 16, 3) := by decide +kernel
theorem dX4_init_30 : decode cX4_init 30 = .ok (.dup, 1) := by decide +kernel
theorem dX4_init_31 : decode cX4_init 31 = .ok (.invokespecial 18, 3) := by decide +kernel
theorem dX4_init_34 : decode cX4_init 34 = .ok (.putfield 23, 3) := by decide +kernel
theorem dX4_init_37 : decode cX4_init 37 = .ok (.aload_n 0, 1) := by decide +kernel
theorem dX4_init_38 : decode cX4_init 38 = .ok (.new 16, 3) := by decide +kernel
theorem dX4_init_41 : decode cX4_init 41 = .ok (.dup, 1) := by decide +kernel
theorem dX4_init_42 : decode cX4_init 42 = .ok (.invokespecial 18, 3) := by decide +kernel
theorem dX4_init_45 : decode cX4_init 45 = .ok (.putfield 26, 3) := by decide +kernel
theorem dX4_init_48 : decode cX4_init 48 = .ok (.aload_n 0, 1) := by decide +kernel
theorem dX4_init_49 : decode cX4_init 49 = .ok (.iconst 0, 1) := by decide +kernel
theorem dX4_init_50 : decode cX4_init 50 = .ok (.putfield 29, 3) := by decide +kernel
theorem dX4_init_53 : decode cX4_init 53 = .ok (.return_, 1) := by decide +kernel
theorem dX4_write_0 : decode cX4_write 0 = .ok (.iload_n 1, 1) := by decide +kernel
theorem dX4_write_1 : decode cX4_write 1 = .ok (.bipush 32, 2) := by decide +kernel
theorem dX4_write_3 : decode cX4_write 3 = .ok (.if_icmp .lt 9, 3) := by decide +kernel
theorem dX4_write_6 : decode cX4_write 6 = .ok (.iload_n 1, 1) := by decide +kernel
theorem dX4_write_7 : decode cX4_write 7 = .ok (.bipush 126, 2) := by decide +kernel
theorem dX4_write_9 : decode cX4_write 9 = .ok (.if_icmp .le 5, 3) := by decide +kernel
theorem dX4_write_12 : decode cX4_write 12 = .ok (.iconst (-1), 1) := by decide +kernel
theorem dX4_write_13 : decode cX4_write 13 = .ok (.ireturn, 1) := by decide +kernel
theorem dX4_write_14 : decode cX4_write 14 = .ok (.aload_n 0, 1) := by decide +kernel
theorem dX4_write_15 : decode cX4_write 15 = .ok (.getfield 10, 3) := by decide +kernel
theorem dX4_write_18 : decode cX4_write 18 = .ok (.iload_n 1, 1) := by decide +kernel
theorem dX4_write_19 : decode cX4_write 19 = .ok (.invokevirtual 33, 3) := by decide +kernel
theorem dX4_write_22 : decode cX4_write 22 = .ok (.ifCond .ne 6, 3) := by decide +kernel
theorem dX4_write_25 : decode cX4_write 25 = .ok (.bipush (-3), 2) := by decide +kernel
theorem dX4_write_27 : decode cX4_write 27 = .ok (.ireturn, 1) := by decide +kernel
theorem dX4_write_28 : decode cX4_write 28 = .ok (.aload_n 0, 1) := by decide +kernel
theorem dX4_write_29 : decode cX4_write 29 = .ok (.getfield 10, 3) := by decide +kernel
theorem dX4_write_32 : decode cX4_write 32 = .ok (.invokevirtual 37, 3) := by decide +kernel
theorem dX4_write_35 : decode cX4_write 35 = .ok (.ireturn, 1) := by decide +kernel
theorem dX4_wipe_0 : decode cX4_wipe 0 = .ok (.aload_n 0, 1) := by decide +kernel
theorem dX4_wipe_1 : decode cX4_wipe 1 = .ok (.getfield 10, 3) := by decide +kernel
theorem dX4_wipe_4 : decode cX4_wipe 4 = .ok (.invokevirtual 37, 3) := by decide +kernel
theorem dX4_wipe_7 : decode cX4_wipe 7 = .ok (.istore_n 1, 1) := by decide +kernel
theorem dX4_wipe_8 : decode cX4_wipe 8 = .ok (.aload_n 0, 1) := by decide +kernel
theorem dX4_wipe_9 : decode cX4_wipe 9 = .ok (.getfield 10, 3) := by decide +kernel
theorem dX4_wipe_12 : decode cX4_wipe 12 = .ok (.invokevirtual 41, 3) := by decide +kernel
theorem dX4_wipe_15 : decode cX4_wipe 15 = .ok (.iload_n 1, 1) := by decide +kernel
theorem dX4_wipe_16 : decode cX4_wipe 16 = .ok (.ireturn, 1) := by decide +kernel
theorem dX4_fault_0 : decode cX4_fault 0 = .ok (.aload_n 0, 1) := by decide +kernel
theorem dX4_fault_1 : decode cX4_fault 1 = .ok (.getfield 10, 3) := by decide +kernel
theorem dX4_fault_4 : decode cX4_fault 4 = .ok (.invokevirtual 44, 3) := by decide +kernel
theorem dX4_fault_7 : decode cX4_fault 7 = .ok (.aload_n 0, 1) := by decide +kernel
theorem dX4_fault_8 : decode cX4_fault 8 = .ok (.getfield 10, 3) := by decide +kernel
theorem dX4_fault_11 : decode cX4_fault 11 = .ok (.invokevirtual 47, 3) := by decide +kernel
theorem dX4_fault_14 : decode cX4_fault 14 = .ok (.ireturn, 1) := by decide +kernel
theorem dX4_lay_0 : decode cX4_lay 0 = .ok (.aload_n 0, 1) := by decide +kernel
theorem dX4_lay_1 : decode cX4_lay 1 = .ok (.getfield 10, 3) := by decide +kernel
theorem dX4_lay_4 : decode cX4_lay 4 = .ok (.invokevirtual 44, 3) := by decide +kernel
theorem dX4_lay_7 : decode cX4_lay 7 = .ok (.aload_n 0, 1) := by decide +kernel
theorem dX4_lay_8 : decode cX4_lay 8 = .ok (.getfield 10, 3) := by decide +kernel
theorem dX4_lay_11 : decode cX4_lay 11 = .ok (.invokevirtual 50, 3) := by decide +kernel
theorem dX4_lay_14 : decode cX4_lay 14 = .ok (.ifCond .ne 6, 3) := by decide +kernel
theorem dX4_lay_17 : decode cX4_lay 17 = .ok (.bipush (-2), 2) := by decide +kernel
theorem dX4_lay_19 : decode cX4_lay 19 = .ok (.ireturn, 1) := by decide +kernel
theorem dX4_lay_20 : decode cX4_lay 20 = .ok (.aload_n 0, 1) := by decide +kernel
theorem dX4_lay_21 : decode cX4_lay 21 = .ok (.getfield 19, 3) := by decide +kernel
theorem dX4_lay_24 : decode cX4_lay 24 = .ok (.aload_n 0, 1) := by decide +kernel
theorem dX4_lay_25 : decode cX4_lay 25 = .ok (.getfield 10, 3) := by decide +kernel
theorem dX4_lay_28 : decode cX4_lay 28 = .ok (.invokevirtual 54, 3) := by decide +kernel
theorem dX4_lay_31 : decode cX4_lay 31 = .ok (.invokevirtual 58, 3) := by decide +kernel
theorem dX4_lay_34 : decode cX4_lay 34 = .ok (.aload_n 0, 1) := by decide +kernel
theorem dX4_lay_35 : decode cX4_lay 35 = .ok (.iconst 0, 1) := by decide +kernel
theorem dX4_lay_36 : decode cX4_lay 36 = .ok (.putfield 29, 3) := by decide +kernel
theorem dX4_lay_39 : decode cX4_lay 39 = .ok (.aload_n 0, 1) := by decide +kernel
theorem dX4_lay_40 : decode cX4_lay 40 = .ok (.getfield 19, 3) := by decide +kernel
theorem dX4_lay_43 : decode cX4_lay 43 = .ok (.invokevirtual 62, 3) := by decide +kernel
theorem dX4_lay_46 : decode cX4_lay 46 = .ok (.ireturn, 1) := by decide +kernel
theorem dX4_select_0 : decode cX4_select 0 = .ok (.aload_n 0, 1) := by decide +kernel
theorem dX4_select_1 : decode cX4_select 1 = .ok (.getfield 19, 3) := by decide +kernel
theorem dX4_select_4 : decode cX4_select 4 = .ok (.invokevirtual 65, 3) := by decide +kernel
theorem dX4_select_7 : decode cX4_select 7 = .ok (.ifCond .eq 6, 3) := by decide +kernel
theorem dX4_select_10 : decode cX4_select 10 = .ok (.bipush (-2), 2) := by decide +kernel
theorem dX4_select_12 : decode cX4_select 12 = .ok (.ireturn, 1) := by decide +kernel
theorem dX4_select_13 : decode cX4_select 13 = .ok (.aload_n 0, 1) := by decide +kernel
theorem dX4_select_14 : decode cX4_select 14 = .ok (.getfield 19, 3) := by decide +kernel
theorem dX4_select_17 : decode cX4_select 17 = .ok (.invokevirtual 68, 3) := by decide +kernel
theorem dX4_select_20 : decode cX4_select 20 = .ok (.aload_n 0, 1) := by decide +kernel
theorem dX4_select_21 : decode cX4_select 21 = .ok (.getfield 19, 3) := by decide +kernel
theorem dX4_select_24 : decode cX4_select 24 = .ok (.invokevirtual 71, 3) := by decide +kernel
theorem dX4_select_27 : decode cX4_select 27 = .ok (.ireturn, 1) := by decide +kernel
theorem dX4_put_0 : decode cX4_put 0 = .ok (.iload_n 1, 1) := by decide +kernel
theorem dX4_put_1 : decode cX4_put 1 = .ok (.invokestatic 74, 3) := by decide +kernel
theorem dX4_put_4 : decode cX4_put 4 = .ok (.ifCond .ne 5, 3) := by decide +kernel
theorem dX4_put_7 : decode cX4_put 7 = .ok (.iconst (-1), 1) := by decide +kernel
theorem dX4_put_8 : decode cX4_put 8 = .ok (.ireturn, 1) := by decide +kernel
theorem dX4_put_9 : decode cX4_put 9 = .ok (.aload_n 0, 1) := by decide +kernel
theorem dX4_put_10 : decode cX4_put 10 = .ok (.getfield 19, 3) := by decide +kernel
theorem dX4_put_13 : decode cX4_put 13 = .ok (.invokevirtual 65, 3) := by decide +kernel
theorem dX4_put_16 : decode cX4_put 16 = .ok (.ifCond .ne 6, 3) := by decide +kernel
theorem dX4_put_19 : decode cX4_put 19 = .ok (.bipush (-2), 2) := by decide +kernel
theorem dX4_put_21 : decode cX4_put 21 = .ok (.ireturn, 1) := by decide +kernel
theorem dX4_put_22 : decode cX4_put 22 = .ok (.aload_n 0, 1) := by decide +kernel
theorem dX4_put_23 : decode cX4_put 23 = .ok (.getfield 19, 3) := by decide +kernel
theorem dX4_put_26 : decode cX4_put 26 = .ok (.iload_n 1, 1) := by decide +kernel
theorem dX4_put_27 : decode cX4_put 27 = .ok (.invokevirtual 77, 3) := by decide +kernel
theorem dX4_put_30 : decode cX4_put 30 = .ok (.ireturn, 1) := by decide +kernel
theorem dX4_release_0 : decode cX4_release 0 = .ok (.aload_n 0, 1) := by decide +kernel
theorem dX4_release_1 : decode cX4_release 1 = .ok (.getfield 19, 3) := by decide +kernel
theorem dX4_release_4 : decode cX4_release 4 = .ok (.invokevirtual 65, 3) := by decide +kernel
theorem dX4_release_7 : decode cX4_release 7 = .ok (.ifCond .ne 6, 3) := by decide +kernel
theorem dX4_release_10 : decode cX4_release 10 = .ok (.bipush (-2), 2) := by decide +kernel
theorem dX4_release_12 : decode cX4_release 12 = .ok (.ireturn, 1) := by decide +kernel
theorem dX4_release_13 : decode cX4_release 13 = .ok (.aload_n 0, 1) := by decide +kernel
theorem dX4_release_14 : decode cX4_release 14 = .ok (.getfield 19, 3) := by decide +kernel
theorem dX4_release_17 : decode cX4_release 17 = .ok (.invokevirtual 81, 3) := by decide +kernel
theorem dX4_release_20 : decode cX4_release 20 = .ok (.aload_n 0, 1) := by decide +kernel
theorem dX4_release_21 : decode cX4_release 21 = .ok (.getfield 19, 3) := by decide +kernel
theorem dX4_release_24 : decode cX4_release 24 = .ok (.invokevirtual 84, 3) := by decide +kernel
theorem dX4_release_27 : decode cX4_release 27 = .ok (.ireturn, 1) := by decide +kernel
theorem dX4_send_0 : decode cX4_send 0 = .ok (.iload_n 1, 1) := by decide +kernel
theorem dX4_send_1 : decode cX4_send 1 = .ok (.invokestatic 74, 3) := by decide +kernel
theorem dX4_send_4 : decode cX4_send 4 = .ok (.ifCond .eq 29, 3) := by decide +kernel
theorem dX4_send_7 : decode cX4_send 7 = .ok (.iload_n 2, 1) := by decide +kernel
theorem dX4_send_8 : decode cX4_send 8 = .ok (.invokestatic 74, 3) := by decide +kernel
theorem dX4_send_11 : decode cX4_send 11 = .ok (.ifCond .eq 22, 3) := by decide +kernel
theorem dX4_send_14 : decode cX4_send 14 = .ok (.iload_n 3, 1) := by decide +kernel
theorem dX4_send_15 : decode cX4_send 15 = .ok (.invokestatic 74, 3) := by decide +kernel
theorem dX4_send_18 : decode cX4_send 18 = .ok (.ifCond .eq 15, 3) := by decide +kernel
theorem dX4_send_21 : decode cX4_send 21 = .ok (.iload 4, 2) := by decide +kernel
theorem dX4_send_23 : decode cX4_send 23 = .ok (.ifCond .lt 10, 3) := by decide +kernel
theorem dX4_send_26 : decode cX4_send 26 = .ok (.iload 4, 2) := by decide +kernel
theorem dX4_send_28 : decode cX4_send 28 = .ok (.bipush 40, 2) := by decide +kernel
theorem dX4_send_30 : decode cX4_send 30 = .ok (.if_icmp .le 5, 3) := by decide +kernel
theorem dX4_send_33 : decode cX4_send 33 = .ok (.iconst (-1), 1) := by decide +kernel
theorem dX4_send_34 : decode cX4_send 34 = .ok (.ireturn, 1) := by decide +kernel
theorem dX4_send_35 : decode cX4_send 35 = .ok (.aload_n 0, 1) := by decide +kernel
theorem dX4_send_36 : decode cX4_send 36 = .ok (.getfield 19, 3) := by decide +kernel
theorem dX4_send_39 : decode cX4_send 39 = .ok (.invokevirtual 65, 3) := by decide +kernel
theorem dX4_send_42 : decode cX4_send 42 = .ok (.ifCond .eq 6, 3) := by decide +kernel
theorem dX4_send_45 : decode cX4_send 45 = .ok (.bipush (-2), 2) := by decide +kernel
theorem dX4_send_47 : decode cX4_send 47 = .ok (.ireturn, 1) := by decide +kernel
theorem dX4_send_48 : decode cX4_send 48 = .ok (.aload_n 0, 1) := by decide +kernel
theorem dX4_send_49 : decode cX4_send 49 = .ok (.getfield 19, 3) := by decide +kernel
theorem dX4_send_52 : decode cX4_send 52 = .ok (.invokevirtual 68, 3) := by decide +kernel
theorem dX4_send_55 : decode cX4_send 55 = .ok (.aload_n 0, 1) := by decide +kernel
theorem dX4_send_56 : decode cX4_send 56 = .ok (.getfield 19, 3) := by decide +kernel
theorem dX4_send_59 : decode cX4_send 59 = .ok (.iload_n 1, 1) := by decide +kernel
theorem dX4_send_60 : decode cX4_send 60 = .ok (.invokevirtual 77, 3) := by decide +kernel
theorem dX4_send_63 : decode cX4_send 63 = .ok (.pop, 1) := by decide +kernel
theorem dX4_send_64 : decode cX4_send 64 = .ok (.aload_n 0, 1) := by decide +kernel
theorem dX4_send_65 : decode cX4_send 65 = .ok (.getfield 19, 3) := by decide +kernel
theorem dX4_send_68 : decode cX4_send 68 = .ok (.iload_n 2, 1) := by decide +kernel
theorem dX4_send_69 : decode cX4_send 69 = .ok (.invokevirtual 77, 3) := by decide +kernel
theorem dX4_send_72 : decode cX4_send 72 = .ok (.istore 5, 2) := by decide +kernel
theorem dX4_send_74 : decode cX4_send 74 = .ok (.aload_n 0, 1) := by decide +kernel
theorem dX4_send_75 : decode cX4_send 75 = .ok (.iload 5, 2) := by decide +kernel
theorem dX4_send_77 : decode cX4_send 77 = .ok (.iload_n 3, 1) := by decide +kernel
theorem dX4_send_78 : decode cX4_send 78 = .ok (.iload 4, 2) := by decide +kernel
theorem dX4_send_80 : decode cX4_send 80 = .ok (.invokevirtual 87, 3) := by decide +kernel
theorem dX4_send_83 : decode cX4_send 83 = .ok (.ireturn, 1) := by decide +kernel
theorem dX4_order_0 : decode cX4_order 0 = .ok (.iload_n 1, 1) := by decide +kernel
theorem dX4_order_1 : decode cX4_order 1 = .ok (.invokestatic 74, 3) := by decide +kernel
theorem dX4_order_4 : decode cX4_order 4 = .ok (.ifCond .eq 20, 3) := by decide +kernel
theorem dX4_order_7 : decode cX4_order 7 = .ok (.iload_n 2, 1) := by decide +kernel
theorem dX4_order_8 : decode cX4_order 8 = .ok (.invokestatic 74, 3) := by decide +kernel
theorem dX4_order_11 : decode cX4_order 11 = .ok (.ifCond .eq 13, 3) := by decide +kernel
theorem dX4_order_14 : decode cX4_order 14 = .ok (.iload_n 3, 1) := by decide +kernel
theorem dX4_order_15 : decode cX4_order 15 = .ok (.ifCond .lt 9, 3) := by decide +kernel
theorem dX4_order_18 : decode cX4_order 18 = .ok (.iload_n 3, 1) := by decide +kernel
theorem dX4_order_19 : decode cX4_order 19 = .ok (.bipush 40, 2) := by decide +kernel
theorem dX4_order_21 : decode cX4_order 21 = .ok (.if_icmp .le 5, 3) := by decide +kernel
theorem dX4_order_24 : decode cX4_order 24 = .ok (.iconst (-1), 1) := by decide +kernel
theorem dX4_order_25 : decode cX4_order 25 = .ok (.ireturn, 1) := by decide +kernel
theorem dX4_order_26 : decode cX4_order 26 = .ok (.aload_n 0, 1) := by decide +kernel
theorem dX4_order_27 : decode cX4_order 27 = .ok (.getfield 19, 3) := by decide +kernel
theorem dX4_order_30 : decode cX4_order 30 = .ok (.invokevirtual 65, 3) := by decide +kernel
theorem dX4_order_33 : decode cX4_order 33 = .ok (.ifCond .eq 6, 3) := by decide +kernel
theorem dX4_order_36 : decode cX4_order 36 = .ok (.bipush (-2), 2) := by decide +kernel
theorem dX4_order_38 : decode cX4_order 38 = .ok (.ireturn, 1) := by decide +kernel
theorem dX4_order_39 : decode cX4_order 39 = .ok (.aload_n 0, 1) := by decide +kernel
theorem dX4_order_40 : decode cX4_order 40 = .ok (.getfield 19, 3) := by decide +kernel
theorem dX4_order_43 : decode cX4_order 43 = .ok (.invokevirtual 68, 3) := by decide +kernel
theorem dX4_order_46 : decode cX4_order 46 = .ok (.aload_n 0, 1) := by decide +kernel
theorem dX4_order_47 : decode cX4_order 47 = .ok (.getfield 19, 3) := by decide +kernel
theorem dX4_order_50 : decode cX4_order 50 = .ok (.iload_n 1, 1) := by decide +kernel
theorem dX4_order_51 : decode cX4_order 51 = .ok (.invokevirtual 77, 3) := by decide +kernel
theorem dX4_order_54 : decode cX4_order 54 = .ok (.istore 4, 2) := by decide +kernel
theorem dX4_order_56 : decode cX4_order 56 = .ok (.aload_n 0, 1) := by decide +kernel
theorem dX4_order_57 : decode cX4_order 57 = .ok (.iload 4, 2) := by decide +kernel
theorem dX4_order_59 : decode cX4_order 59 = .ok (.iload_n 2, 1) := by decide +kernel
theorem dX4_order_60 : decode cX4_order 60 = .ok (.iload_n 3, 1) := by decide +kernel
theorem dX4_order_61 : decode cX4_order 61 = .ok (.invokevirtual 87, 3) := by decide +kernel
theorem dX4_order_64 : decode cX4_order 64 = .ok (.ireturn, 1) := by decide +kernel
theorem dX4_tick_0 : decode cX4_tick 0 = .ok (.iload_n 1, 1) := by decide +kernel
theorem dX4_tick_1 : decode cX4_tick 1 = .ok (.iconst 1, 1) := by decide +kernel
theorem dX4_tick_2 : decode cX4_tick 2 = .ok (.if_icmp .lt 9, 3) := by decide +kernel
theorem dX4_tick_5 : decode cX4_tick 5 = .ok (.iload_n 1, 1) := by decide +kernel
theorem dX4_tick_6 : decode cX4_tick 6 = .ok (.bipush 99, 2) := by decide +kernel
theorem dX4_tick_8 : decode cX4_tick 8 = .ok (.if_icmp .le 5, 3) := by decide +kernel
theorem dX4_tick_11 : decode cX4_tick 11 = .ok (.iconst (-1), 1) := by decide +kernel
theorem dX4_tick_12 : decode cX4_tick 12 = .ok (.ireturn, 1) := by decide +kernel
theorem dX4_tick_13 : decode cX4_tick 13 = .ok (.iconst 0, 1) := by decide +kernel
theorem dX4_tick_14 : decode cX4_tick 14 = .ok (.istore_n 2, 1) := by decide +kernel
theorem dX4_tick_15 : decode cX4_tick 15 = .ok (.iconst 0, 1) := by decide +kernel
theorem dX4_tick_16 : decode cX4_tick 16 = .ok (.istore_n 3, 1) := by decide +kernel
theorem dX4_tick_17 : decode cX4_tick 17 = .ok (.iload_n 3, 1) := by decide +kernel
theorem dX4_tick_18 : decode cX4_tick 18 = .ok (.iload_n 1, 1) := by decide +kernel
theorem dX4_tick_19 : decode cX4_tick 19 = .ok (.if_icmp .ge 29, 3) := by decide +kernel
theorem dX4_tick_22 : decode cX4_tick 22 = .ok (.aload_n 0, 1) := by decide +kernel
theorem dX4_tick_23 : decode cX4_tick 23 = .ok (.getfield 19, 3) := by decide +kernel
theorem dX4_tick_26 : decode cX4_tick 26 = .ok (.invokevirtual 91, 3) := by decide +kernel
theorem dX4_tick_29 : decode cX4_tick 29 = .ok (.ifCond .eq 13, 3) := by decide +kernel
theorem dX4_tick_32 : decode cX4_tick 32 = .ok (.iinc 2 1, 3) := by decide +kernel
theorem dX4_tick_35 : decode cX4_tick 35 = .ok (.aload_n 0, 1) := by decide +kernel
theorem dX4_tick_36 : decode cX4_tick 36 = .ok (.getfield 19, 3) := by decide +kernel
theorem dX4_tick_39 : decode cX4_tick 39 = .ok (.invokevirtual 94, 3) := by decide +kernel
theorem dX4_tick_42 : decode cX4_tick 42 = .ok (.iinc 3 1, 3) := by decide +kernel
theorem dX4_tick_45 : decode cX4_tick 45 = .ok (.goto (-28), 3) := by decide +kernel
theorem dX4_tick_48 : decode cX4_tick 48 = .ok (.iload_n 2, 1) := by decide +kernel
theorem dX4_tick_49 : decode cX4_tick 49 = .ok (.ireturn, 1) := by decide +kernel
theorem dX4_at_0 : decode cX4_at 0 = .ok (.iload_n 1, 1) := by decide +kernel
theorem dX4_at_1 : decode cX4_at 1 = .ok (.ifCond .lt 14, 3) := by decide +kernel
theorem dX4_at_4 : decode cX4_at 4 = .ok (.iload_n 1, 1) := by decide +kernel
theorem dX4_at_5 : decode cX4_at 5 = .ok (.aload_n 0, 1) := by decide +kernel
theorem dX4_at_6 : decode cX4_at 6 = .ok (.getfield 19, 3) := by decide +kernel
theorem dX4_at_9 : decode cX4_at 9 = .ok (.invokevirtual 62, 3) := by decide +kernel
theorem dX4_at_12 : decode cX4_at 12 = .ok (.if_icmp .lt 5, 3) := by decide +kernel
theorem dX4_at_15 : decode cX4_at 15 = .ok (.iconst (-1), 1) := by decide +kernel
theorem dX4_at_16 : decode cX4_at 16 = .ok (.ireturn, 1) := by decide +kernel
theorem dX4_at_17 : decode cX4_at 17 = .ok (.aload_n 0, 1) := by decide +kernel
theorem dX4_at_18 : decode cX4_at 18 = .ok (.getfield 19, 3) := by decide +kernel
theorem dX4_at_21 : decode cX4_at 21 = .ok (.iload_n 1, 1) := by decide +kernel
theorem dX4_at_22 : decode cX4_at 22 = .ok (.invokevirtual 97, 3) := by decide +kernel
theorem dX4_at_25 : decode cX4_at 25 = .ok (.ireturn, 1) := by decide +kernel
theorem dX4_sector_0 : decode cX4_sector 0 = .ok (.iload_n 1, 1) := by decide +kernel
theorem dX4_sector_1 : decode cX4_sector 1 = .ok (.ifCond .lt 17, 3) := by decide +kernel
theorem dX4_sector_4 : decode cX4_sector 4 = .ok (.iload_n 1, 1) := by decide +kernel
theorem dX4_sector_5 : decode cX4_sector 5 = .ok (.aload_n 0, 1) := by decide +kernel
theorem dX4_sector_6 : decode cX4_sector 6 = .ok (.getfield 19, 3) := by decide +kernel
theorem dX4_sector_9 : decode cX4_sector 9 = .ok (.invokevirtual 100, 3) := by decide +kernel
theorem dX4_sector_12 : decode cX4_sector 12 = .ok (.invokevirtual 103, 3) := by decide +kernel
theorem dX4_sector_15 : decode cX4_sector 15 = .ok (.if_icmp .lt 5, 3) := by decide +kernel
theorem dX4_sector_18 : decode cX4_sector 18 = .ok (.iconst (-1), 1) := by decide +kernel
theorem dX4_sector_19 : decode cX4_sector 19 = .ok (.ireturn, 1) := by decide +kernel
theorem dX4_sector_20 : decode cX4_sector 20 = .ok (.iload_n 2, 1) := by decide +kernel
theorem dX4_sector_21 : decode cX4_sector 21 = .ok (.tableswitch 104 0 4 #[35, 44, 53, 70, 87], 35) := by decide +kernel
theorem dX4_sector_56 : decode cX4_sector 56 = .ok (.aload_n 0, 1) := by decide +kernel
theorem dX4_sector_57 : decode cX4_sector 57 = .ok (.getfield 19, 3) := by decide +kernel
theorem dX4_sector_60 : decode cX4_sector 60 = .ok (.iload_n 1, 1) := by decide +kernel
theorem dX4_sector_61 : decode cX4_sector 61 = .ok (.invokevirtual 108, 3) := by decide +kernel
theorem dX4_sector_64 : decode cX4_sector 64 = .ok (.ireturn, 1) := by decide +kernel
theorem dX4_sector_65 : decode cX4_sector 65 = .ok (.aload_n 0, 1) := by decide +kernel
theorem dX4_sector_66 : decode cX4_sector 66 = .ok (.getfield 19, 3) := by decide +kernel
theorem dX4_sector_69 : decode cX4_sector 69 = .ok (.iload_n 1, 1) := by decide +kernel
theorem dX4_sector_70 : decode cX4_sector 70 = .ok (.invokevirtual 111, 3) := by decide +kernel
theorem dX4_sector_73 : decode cX4_sector 73 = .ok (.ireturn, 1) := by decide +kernel
theorem dX4_sector_74 : decode cX4_sector 74 = .ok (.aload_n 0, 1) := by decide +kernel
theorem dX4_sector_75 : decode cX4_sector 75 = .ok (.getfield 19, 3) := by decide +kernel
theorem dX4_sector_78 : decode cX4_sector 78 = .ok (.iload_n 1, 1) := by decide +kernel
theorem dX4_sector_79 : decode cX4_sector 79 = .ok (.invokevirtual 114, 3) := by decide +kernel
theorem dX4_sector_82 : decode cX4_sector 82 = .ok (.ifCond .eq 7, 3) := by decide +kernel
theorem dX4_sector_85 : decode cX4_sector 85 = .ok (.iconst 1, 1) := by decide +kernel
theorem dX4_sector_86 : decode cX4_sector 86 = .ok (.goto 4, 3) := by decide +kernel
theorem dX4_sector_89 : decode cX4_sector 89 = .ok (.iconst 0, 1) := by decide +kernel
theorem dX4_sector_90 : decode cX4_sector 90 = .ok (.ireturn, 1) := by decide +kernel
theorem dX4_sector_91 : decode cX4_sector 91 = .ok (.aload_n 0, 1) := by decide +kernel
theorem dX4_sector_92 : decode cX4_sector 92 = .ok (.getfield 19, 3) := by decide +kernel
theorem dX4_sector_95 : decode cX4_sector 95 = .ok (.iload_n 1, 1) := by decide +kernel
theorem dX4_sector_96 : decode cX4_sector 96 = .ok (.invokevirtual 117, 3) := by decide +kernel
theorem dX4_sector_99 : decode cX4_sector 99 = .ok (.ifCond .eq 7, 3) := by decide +kernel
theorem dX4_sector_102 : decode cX4_sector 102 = .ok (.iconst 1, 1) := by decide +kernel
theorem dX4_sector_103 : decode cX4_sector 103 = .ok (.goto 4, 3) := by decide +kernel
theorem dX4_sector_106 : decode cX4_sector 106 = .ok (.iconst 0, 1) := by decide +kernel
theorem dX4_sector_107 : decode cX4_sector 107 = .ok (.ireturn, 1) := by decide +kernel
theorem dX4_sector_108 : decode cX4_sector 108 = .ok (.aload_n 0, 1) := by decide +kernel
theorem dX4_sector_109 : decode cX4_sector 109 = .ok (.getfield 19, 3) := by decide +kernel
theorem dX4_sector_112 : decode cX4_sector 112 = .ok (.iload_n 1, 1) := by decide +kernel
theorem dX4_sector_113 : decode cX4_sector 113 = .ok (.invokevirtual 120, 3) := by decide +kernel
theorem dX4_sector_116 : decode cX4_sector 116 = .ok (.ifCond .eq 7, 3) := by decide +kernel
theorem dX4_sector_119 : decode cX4_sector 119 = .ok (.iconst 1, 1) := by decide +kernel
theorem dX4_sector_120 : decode cX4_sector 120 = .ok (.goto 4, 3) := by decide +kernel
theorem dX4_sector_123 : decode cX4_sector 123 = .ok (.iconst 0, 1) := by decide +kernel
theorem dX4_sector_124 : decode cX4_sector 124 = .ok (.ireturn, 1) := by decide +kernel
theorem dX4_sector_125 : decode cX4_sector 125 = .ok (.iconst (-1), 1) := by decide +kernel
theorem dX4_sector_126 : decode cX4_sector 126 = .ok (.ireturn, 1) := by decide +kernel
theorem dX4_table_0 : decode cX4_table 0 = .ok (.iload_n 1, 1) := by decide +kernel
theorem dX4_table_1 : decode cX4_table 1 = .ok (.ifCond .lt 9, 3) := by decide +kernel
theorem dX4_table_4 : decode cX4_table 4 = .ok (.iload_n 1, 1) := by decide +kernel
theorem dX4_table_5 : decode cX4_table 5 = .ok (.bipush 8, 2) := by decide +kernel
theorem dX4_table_7 : decode cX4_table 7 = .ok (.if_icmp .lt 5, 3) := by decide +kernel
theorem dX4_table_10 : decode cX4_table 10 = .ok (.iconst (-1), 1) := by decide +kernel
theorem dX4_table_11 : decode cX4_table 11 = .ok (.ireturn, 1) := by decide +kernel
theorem dX4_table_12 : decode cX4_table 12 = .ok (.aload_n 0, 1) := by decide +kernel
theorem dX4_table_13 : decode cX4_table 13 = .ok (.getfield 19, 3) := by decide +kernel
theorem dX4_table_16 : decode cX4_table 16 = .ok (.invokevirtual 100, 3) := by decide +kernel
theorem dX4_table_19 : decode cX4_table 19 = .ok (.iload_n 1, 1) := by decide +kernel
theorem dX4_table_20 : decode cX4_table 20 = .ok (.invokevirtual 123, 3) := by decide +kernel
theorem dX4_table_23 : decode cX4_table 23 = .ok (.ireturn, 1) := by decide +kernel
theorem dX4_keep_0 : decode cX4_keep 0 = .ok (.aload_n 0, 1) := by decide +kernel
theorem dX4_keep_1 : decode cX4_keep 1 = .ok (.getfield 29, 3) := by decide +kernel
theorem dX4_keep_4 : decode cX4_keep 4 = .ok (.iconst 2, 1) := by decide +kernel
theorem dX4_keep_5 : decode cX4_keep 5 = .ok (.if_icmp .lt 6, 3) := by decide +kernel
theorem dX4_keep_8 : decode cX4_keep 8 = .ok (.bipush (-3), 2) := by decide +kernel
theorem dX4_keep_10 : decode cX4_keep 10 = .ok (.ireturn, 1) := by decide +kernel
theorem dX4_keep_11 : decode cX4_keep 11 = .ok (.aload_n 0, 1) := by decide +kernel
theorem dX4_keep_12 : decode cX4_keep 12 = .ok (.dup, 1) := by decide +kernel
theorem dX4_keep_13 : decode cX4_keep 13 = .ok (.getfield 29, 3) := by decide +kernel
theorem dX4_keep_16 : decode cX4_keep 16 = .ok (.iconst 1, 1) := by decide +kernel
theorem dX4_keep_17 : decode cX4_keep 17 = .ok (.iadd, 1) := by decide +kernel
theorem dX4_keep_18 : decode cX4_keep 18 = .ok (.putfield 29, 3) := by decide +kernel
theorem dX4_keep_21 : decode cX4_keep 21 = .ok (.aload_n 0, 1) := by decide +kernel
theorem dX4_keep_22 : decode cX4_keep 22 = .ok (.invokevirtual 126, 3) := by decide +kernel
theorem dX4_keep_25 : decode cX4_keep 25 = .ok (.aload_n 0, 1) := by decide +kernel
theorem dX4_keep_26 : decode cX4_keep 26 = .ok (.getfield 19, 3) := by decide +kernel
theorem dX4_keep_29 : decode cX4_keep 29 = .ok (.invokevirtual 130, 3) := by decide +kernel
theorem dX4_keep_32 : decode cX4_keep 32 = .ok (.aload_n 0, 1) := by decide +kernel
theorem dX4_keep_33 : decode cX4_keep 33 = .ok (.getfield 29, 3) := by decide +kernel
theorem dX4_keep_36 : decode cX4_keep 36 = .ok (.ireturn, 1) := by decide +kernel
theorem dX4_back_0 : decode cX4_back 0 = .ok (.aload_n 0, 1) := by decide +kernel
theorem dX4_back_1 : decode cX4_back 1 = .ok (.getfield 29, 3) := by decide +kernel
theorem dX4_back_4 : decode cX4_back 4 = .ok (.ifCond .gt 6, 3) := by decide +kernel
theorem dX4_back_7 : decode cX4_back 7 = .ok (.bipush (-2), 2) := by decide +kernel
theorem dX4_back_9 : decode cX4_back 9 = .ok (.ireturn, 1) := by decide +kernel
theorem dX4_back_10 : decode cX4_back 10 = .ok (.aload_n 0, 1) := by decide +kernel
theorem dX4_back_11 : decode cX4_back 11 = .ok (.getfield 19, 3) := by decide +kernel
theorem dX4_back_14 : decode cX4_back 14 = .ok (.aload_n 0, 1) := by decide +kernel
theorem dX4_back_15 : decode cX4_back 15 = .ok (.invokevirtual 126, 3) := by decide +kernel
theorem dX4_back_18 : decode cX4_back 18 = .ok (.invokevirtual 130, 3) := by decide +kernel
theorem dX4_back_21 : decode cX4_back 21 = .ok (.aload_n 0, 1) := by decide +kernel
theorem dX4_back_22 : decode cX4_back 22 = .ok (.dup, 1) := by decide +kernel
theorem dX4_back_23 : decode cX4_back 23 = .ok (.getfield 29, 3) := by decide +kernel
theorem dX4_back_26 : decode cX4_back 26 = .ok (.iconst 1, 1) := by decide +kernel
theorem dX4_back_27 : decode cX4_back 27 = .ok (.isub, 1) := by decide +kernel
theorem dX4_back_28 : decode cX4_back 28 = .ok (.putfield 29, 3) := by decide +kernel
theorem dX4_back_31 : decode cX4_back 31 = .ok (.aload_n 0, 1) := by decide +kernel
theorem dX4_back_32 : decode cX4_back 32 = .ok (.getfield 29, 3) := by decide +kernel
theorem dX4_back_35 : decode cX4_back 35 = .ok (.ireturn, 1) := by decide +kernel
theorem dX4_unlike_0 : decode cX4_unlike 0 = .ok (.aload_n 0, 1) := by decide +kernel
theorem dX4_unlike_1 : decode cX4_unlike 1 = .ok (.getfield 29, 3) := by decide +kernel
theorem dX4_unlike_4 : decode cX4_unlike 4 = .ok (.ifCond .gt 6, 3) := by decide +kernel
theorem dX4_unlike_7 : decode cX4_unlike 7 = .ok (.bipush (-2), 2) := by decide +kernel
theorem dX4_unlike_9 : decode cX4_unlike 9 = .ok (.ireturn, 1) := by decide +kernel
theorem dX4_unlike_10 : decode cX4_unlike 10 = .ok (.aload_n 0, 1) := by decide +kernel
theorem dX4_unlike_11 : decode cX4_unlike 11 = .ok (.getfield 19, 3) := by decide +kernel
theorem dX4_unlike_14 : decode cX4_unlike 14 = .ok (.aload_n 0, 1) := by decide +kernel
theorem dX4_unlike_15 : decode cX4_unlike 15 = .ok (.invokevirtual 126, 3) := by decide +kernel
theorem dX4_unlike_18 : decode cX4_unlike 18 = .ok (.invokevirtual 134, 3) := by decide +kernel
theorem dX4_unlike_21 : decode cX4_unlike 21 = .ok (.ireturn, 1) := by decide +kernel
theorem dX4_count_0 : decode cX4_count 0 = .ok (.iload_n 1, 1) := by decide +kernel
theorem dX4_count_1 : decode cX4_count 1 = .ok (.tableswitch 195 0 13 #[71, 79, 90, 101, 112, 123, 134, 142, 150, 158, 166, 174, 179, 187], 71) := by decide +kernel
theorem dX4_count_72 : decode cX4_count 72 = .ok (.aload_n 0, 1) := by decide +kernel
theorem dX4_count_73 : decode cX4_count 73 = .ok (.getfield 19, 3) := by decide +kernel
theorem dX4_count_76 : decode cX4_count 76 = .ok (.invokevirtual 62, 3) := by decide +kernel
theorem dX4_count_79 : decode cX4_count 79 = .ok (.ireturn, 1) := by decide +kernel
theorem dX4_count_80 : decode cX4_count 80 = .ok (.aload_n 0, 1) := by decide +kernel
theorem dX4_count_81 : decode cX4_count 81 = .ok (.getfield 19, 3) := by decide +kernel
theorem dX4_count_84 : decode cX4_count 84 = .ok (.invokevirtual 100, 3) := by decide +kernel
theorem dX4_count_87 : decode cX4_count 87 = .ok (.invokevirtual 138, 3) := by decide +kernel
theorem dX4_count_90 : decode cX4_count 90 = .ok (.ireturn, 1) := by decide +kernel
theorem dX4_count_91 : decode cX4_count 91 = .ok (.aload_n 0, 1) := by decide +kernel
theorem dX4_count_92 : decode cX4_count 92 = .ok (.getfield 19, 3) := by decide +kernel
theorem dX4_count_95 : decode cX4_count 95 = .ok (.invokevirtual 100, 3) := by decide +kernel
theorem dX4_count_98 : decode cX4_count 98 = .ok (.invokevirtual 141, 3) := by decide +kernel
theorem dX4_count_101 : decode cX4_count 101 = .ok (.ireturn, 1) := by decide +kernel
theorem dX4_count_102 : decode cX4_count 102 = .ok (.aload_n 0, 1) := by decide +kernel
theorem dX4_count_103 : decode cX4_count 103 = .ok (.getfield 19, 3) := by decide +kernel
theorem dX4_count_106 : decode cX4_count 106 = .ok (.invokevirtual 100, 3) := by decide +kernel
theorem dX4_count_109 : decode cX4_count 109 = .ok (.invokevirtual 103, 3) := by decide +kernel
theorem dX4_count_112 : decode cX4_count 112 = .ok (.ireturn, 1) := by decide +kernel
theorem dX4_count_113 : decode cX4_count 113 = .ok (.aload_n 0, 1) := by decide +kernel
theorem dX4_count_114 : decode cX4_count 114 = .ok (.getfield 19, 3) := by decide +kernel
theorem dX4_count_117 : decode cX4_count 117 = .ok (.invokevirtual 100, 3) := by decide +kernel
theorem dX4_count_120 : decode cX4_count 120 = .ok (.invokevirtual 144, 3) := by decide +kernel
theorem dX4_count_123 : decode cX4_count 123 = .ok (.ireturn, 1) := by decide +kernel
theorem dX4_count_124 : decode cX4_count 124 = .ok (.aload_n 0, 1) := by decide +kernel
theorem dX4_count_125 : decode cX4_count 125 = .ok (.getfield 19, 3) := by decide +kernel
theorem dX4_count_128 : decode cX4_count 128 = .ok (.invokevirtual 100, 3) := by decide +kernel
theorem dX4_count_131 : decode cX4_count 131 = .ok (.invokevirtual 147, 3) := by decide +kernel
theorem dX4_count_134 : decode cX4_count 134 = .ok (.ireturn, 1) := by decide +kernel
theorem dX4_count_135 : decode cX4_count 135 = .ok (.aload_n 0, 1) := by decide +kernel
theorem dX4_count_136 : decode cX4_count 136 = .ok (.getfield 19, 3) := by decide +kernel
theorem dX4_count_139 : decode cX4_count 139 = .ok (.invokevirtual 71, 3) := by decide +kernel
theorem dX4_count_142 : decode cX4_count 142 = .ok (.ireturn, 1) := by decide +kernel
theorem dX4_count_143 : decode cX4_count 143 = .ok (.aload_n 0, 1) := by decide +kernel
theorem dX4_count_144 : decode cX4_count 144 = .ok (.getfield 19, 3) := by decide +kernel
theorem dX4_count_147 : decode cX4_count 147 = .ok (.invokevirtual 84, 3) := by decide +kernel
theorem dX4_count_150 : decode cX4_count 150 = .ok (.ireturn, 1) := by decide +kernel
theorem dX4_count_151 : decode cX4_count 151 = .ok (.aload_n 0, 1) := by decide +kernel
theorem dX4_count_152 : decode cX4_count 152 = .ok (.getfield 19, 3) := by decide +kernel
theorem dX4_count_155 : decode cX4_count 155 = .ok (.invokevirtual 150, 3) := by decide +kernel
theorem dX4_count_158 : decode cX4_count 158 = .ok (.ireturn, 1) := by decide +kernel
theorem dX4_count_159 : decode cX4_count 159 = .ok (.aload_n 0, 1) := by decide +kernel
theorem dX4_count_160 : decode cX4_count 160 = .ok (.getfield 19, 3) := by decide +kernel
theorem dX4_count_163 : decode cX4_count 163 = .ok (.invokevirtual 153, 3) := by decide +kernel
theorem dX4_count_166 : decode cX4_count 166 = .ok (.ireturn, 1) := by decide +kernel
theorem dX4_count_167 : decode cX4_count 167 = .ok (.aload_n 0, 1) := by decide +kernel
theorem dX4_count_168 : decode cX4_count 168 = .ok (.getfield 19, 3) := by decide +kernel
theorem dX4_count_171 : decode cX4_count 171 = .ok (.invokevirtual 156, 3) := by decide +kernel
theorem dX4_count_174 : decode cX4_count 174 = .ok (.ireturn, 1) := by decide +kernel
theorem dX4_count_175 : decode cX4_count 175 = .ok (.aload_n 0, 1) := by decide +kernel
theorem dX4_count_176 : decode cX4_count 176 = .ok (.getfield 29, 3) := by decide +kernel
theorem dX4_count_179 : decode cX4_count 179 = .ok (.ireturn, 1) := by decide +kernel
theorem dX4_count_180 : decode cX4_count 180 = .ok (.aload_n 0, 1) := by decide +kernel
theorem dX4_count_181 : decode cX4_count 181 = .ok (.getfield 10, 3) := by decide +kernel
theorem dX4_count_184 : decode cX4_count 184 = .ok (.invokevirtual 37, 3) := by decide +kernel
theorem dX4_count_187 : decode cX4_count 187 = .ok (.ireturn, 1) := by decide +kernel
theorem dX4_count_188 : decode cX4_count 188 = .ok (.aload_n 0, 1) := by decide +kernel
theorem dX4_count_189 : decode cX4_count 189 = .ok (.getfield 19, 3) := by decide +kernel
theorem dX4_count_192 : decode cX4_count 192 = .ok (.invokevirtual 159, 3) := by decide +kernel
theorem dX4_count_195 : decode cX4_count 195 = .ok (.ireturn, 1) := by decide +kernel
theorem dX4_count_196 : decode cX4_count 196 = .ok (.iconst (-1), 1) := by decide +kernel
theorem dX4_count_197 : decode cX4_count 197 = .ok (.ireturn, 1) := by decide +kernel
theorem dX4_isByte_0 : decode cX4_isByte 0 = .ok (.iload_n 0, 1) := by decide +kernel
theorem dX4_isByte_1 : decode cX4_isByte 1 = .ok (.ifCond .lt 14, 3) := by decide +kernel
theorem dX4_isByte_4 : decode cX4_isByte 4 = .ok (.iload_n 0, 1) := by decide +kernel
theorem dX4_isByte_5 : decode cX4_isByte 5 = .ok (.sipush 255, 3) := by decide +kernel
theorem dX4_isByte_8 : decode cX4_isByte 8 = .ok (.if_icmp .gt 7, 3) := by decide +kernel
theorem dX4_isByte_11 : decode cX4_isByte 11 = .ok (.iconst 1, 1) := by decide +kernel
theorem dX4_isByte_12 : decode cX4_isByte 12 = .ok (.goto 4, 3) := by decide +kernel
theorem dX4_isByte_15 : decode cX4_isByte 15 = .ok (.iconst 0, 1) := by decide +kernel
theorem dX4_isByte_16 : decode cX4_isByte 16 = .ok (.ireturn, 1) := by decide +kernel
theorem dX4_remainder_0 : decode cX4_remainder 0 = .ok (.iload_n 1, 1) := by decide +kernel
theorem dX4_remainder_1 : decode cX4_remainder 1 = .ok (.ifCond .le 9, 3) := by decide +kernel
theorem dX4_remainder_4 : decode cX4_remainder 4 = .ok (.iload_n 0, 1) := by decide +kernel
theorem dX4_remainder_5 : decode cX4_remainder 5 = .ok (.iload_n 1, 1) := by decide +kernel
theorem dX4_remainder_6 : decode cX4_remainder 6 = .ok (.irem, 1) := by decide +kernel
theorem dX4_remainder_7 : decode cX4_remainder 7 = .ok (.goto 4, 3) := by decide +kernel
theorem dX4_remainder_10 : decode cX4_remainder 10 = .ok (.iconst 0, 1) := by decide +kernel
theorem dX4_remainder_11 : decode cX4_remainder 11 = .ok (.ireturn, 1) := by decide +kernel
theorem dX4_quotient_0 : decode cX4_quotient 0 = .ok (.iload_n 1, 1) := by decide +kernel
theorem dX4_quotient_1 : decode cX4_quotient 1 = .ok (.ifCond .le 9, 3) := by decide +kernel
theorem dX4_quotient_4 : decode cX4_quotient 4 = .ok (.iload_n 0, 1) := by decide +kernel
theorem dX4_quotient_5 : decode cX4_quotient 5 = .ok (.iload_n 1, 1) := by decide +kernel
theorem dX4_quotient_6 : decode cX4_quotient 6 = .ok (.idiv, 1) := by decide +kernel
theorem dX4_quotient_7 : decode cX4_quotient 7 = .ok (.goto 4, 3) := by decide +kernel
theorem dX4_quotient_10 : decode cX4_quotient 10 = .ok (.iconst 0, 1) := by decide +kernel
theorem dX4_quotient_11 : decode cX4_quotient 11 = .ok (.ireturn, 1) := by decide +kernel
theorem dX4_lastKept_0 : decode cX4_lastKept 0 = .ok (.aload_n 0, 1) := by decide +kernel
theorem dX4_lastKept_1 : decode cX4_lastKept 1 = .ok (.getfield 29, 3) := by decide +kernel
theorem dX4_lastKept_4 : decode cX4_lastKept 4 = .ok (.iconst 2, 1) := by decide +kernel
theorem dX4_lastKept_5 : decode cX4_lastKept 5 = .ok (.if_icmp .lt 10, 3) := by decide +kernel
theorem dX4_lastKept_8 : decode cX4_lastKept 8 = .ok (.aload_n 0, 1) := by decide +kernel
theorem dX4_lastKept_9 : decode cX4_lastKept 9 = .ok (.getfield 26, 3) := by decide +kernel
theorem dX4_lastKept_12 : decode cX4_lastKept 12 = .ok (.goto 7, 3) := by decide +kernel
theorem dX4_lastKept_15 : decode cX4_lastKept 15 = .ok (.aload_n 0, 1) := by decide +kernel
theorem dX4_lastKept_16 : decode cX4_lastKept 16 = .ok (.getfield 23, 3) := by decide +kernel
theorem dX4_lastKept_19 : decode cX4_lastKept 19 = .ok (.areturn, 1) := by decide +kernel
theorem dX4_closeBehind_0 : decode cX4_closeBehind 0 = .ok (.iload_n 1, 1) := by decide +kernel
theorem dX4_closeBehind_1 : decode cX4_closeBehind 1 = .ok (.istore 4, 2) := by decide +kernel
theorem dX4_closeBehind_3 : decode cX4_closeBehind 3 = .ok (.iconst 0, 1) := by decide +kernel
theorem dX4_closeBehind_4 : decode cX4_closeBehind 4 = .ok (.istore 5, 2) := by decide +kernel
theorem dX4_closeBehind_6 : decode cX4_closeBehind 6 = .ok (.iload 5, 2) := by decide +kernel
theorem dX4_closeBehind_8 : decode cX4_closeBehind 8 = .ok (.iload_n 3, 1) := by decide +kernel
theorem dX4_closeBehind_9 : decode cX4_closeBehind 9 = .ok (.if_icmp .ge 26, 3) := by decide +kernel
theorem dX4_closeBehind_12 : decode cX4_closeBehind 12 = .ok (.aload_n 0, 1) := by decide +kernel
theorem dX4_closeBehind_13 : decode cX4_closeBehind 13 = .ok (.getfield 19, 3) := by decide +kernel
theorem dX4_closeBehind_16 : decode cX4_closeBehind 16 = .ok (.iload_n 2, 1) := by decide +kernel
theorem dX4_closeBehind_17 : decode cX4_closeBehind 17 = .ok (.iload 5, 2) := by decide +kernel
theorem dX4_closeBehind_19 : decode cX4_closeBehind 19 = .ok (.iadd, 1) := by decide +kernel
theorem dX4_closeBehind_20 : decode cX4_closeBehind 20 = .ok (.sipush 255, 3) := by decide +kernel
theorem dX4_closeBehind_23 : decode cX4_closeBehind 23 = .ok (.iand, 1) := by decide +kernel
theorem dX4_closeBehind_24 : decode cX4_closeBehind 24 = .ok (.invokevirtual 77, 3) := by decide +kernel
theorem dX4_closeBehind_27 : decode cX4_closeBehind 27 = .ok (.istore 4, 2) := by decide +kernel
theorem dX4_closeBehind_29 : decode cX4_closeBehind 29 = .ok (.iinc 5 1, 3) := by decide +kernel
theorem dX4_closeBehind_32 : decode cX4_closeBehind 32 = .ok (.goto (-26), 3) := by decide +kernel
theorem dX4_closeBehind_35 : decode cX4_closeBehind 35 = .ok (.aload_n 0, 1) := by decide +kernel
theorem dX4_closeBehind_36 : decode cX4_closeBehind 36 = .ok (.getfield 19, 3) := by decide +kernel
theorem dX4_closeBehind_39 : decode cX4_closeBehind 39 = .ok (.invokevirtual 81, 3) := by decide +kernel
theorem dX4_closeBehind_42 : decode cX4_closeBehind 42 = .ok (.iload 4, 2) := by decide +kernel
theorem dX4_closeBehind_44 : decode cX4_closeBehind 44 = .ok (.ireturn, 1) := by decide +kernel
theorem dX5_init_0 : decode cX5_init 0 = .ok (.aload_n 0, 1) := by decide +kernel
theorem dX5_init_1 : decode cX5_init 1 = .ok (.invokespecial 1, 3) := by decide +kernel
theorem dX5_init_4 : decode cX5_init 4 = .ok (.aload_n 0, 1) := by decide +kernel
theorem dX5_init_5 : decode cX5_init 5 = .ok (.sipush 200, 3) := by decide +kernel
theorem dX5_init_8 : decode cX5_init 8 = .ok (.newarray .int, 2) := by decide +kernel
theorem dX5_init_10 : decode cX5_init 10 = .ok (.putfield 7, 3) := by decide +kernel
theorem dX5_init_13 : decode cX5_init 13 = .ok (.aload_n 0, 1) := by decide +kernel
theorem dX5_init_14 : decode cX5_init 14 = .ok (.iconst 5, 1) := by decide +kernel
theorem dX5_init_15 : decode cX5_init 15 = .ok (.newarray .int, 2) := by decide +kernel
theorem dX5_init_17 : decode cX5_init 17 = .ok (.putfield 13, 3) := by decide +kernel
theorem dX5_init_20 : decode cX5_init 20 = .ok (.aload_n 0, 1) := by decide +kernel
theorem dX5_init_21 : decode cX5_init 21 = .ok (.iconst 5, 1) := by decide +kernel
theorem dX5_init_22 : decode cX5_init 22 = .ok (.newarray .int, 2) := by decide +kernel
theorem dX5_init_24 : decode cX5_init 24 = .ok (.putfield 16, 3) := by decide +kernel
theorem dX5_init_27 : decode cX5_init 27 = .ok (.aload_n 0, 1) := by decide +kernel
theorem dX5_init_28 : decode cX5_init 28 = .ok (.sipush 306, 3) := by decide +kernel
theorem dX5_init_31 : decode cX5_init 31 = .ok (.newarray .int, 2) := by decide +kernel
theorem dX5_init_33 : decode cX5_init 33 = .ok (.putfield 19, 3) := by decide +kernel
theorem dX5_init_36 : decode cX5_init 36 = .ok (.aload_n 0, 1) := by decide +kernel
theorem dX5_init_37 : decode cX5_init 37 = .ok (.sipush 612, 3) := by decide +kernel
theorem dX5_init_40 : decode cX5_init 40 = .ok (.newarray .int, 2) := by decide +kernel
theorem dX5_init_42 : decode cX5_init 42 = .ok (.putfield 22, 3) := by decide +kernel
theorem dX5_init_45 : decode cX5_init 45 = .ok (.aload_n 0, 1) := by decide +kernel
theorem dX5_init_46 : decode cX5_init 46 = .ok (.getfield 13, 3) := by decide +kernel
theorem dX5_init_49 : decode cX5_init 49 = .ok (.invokestatic 25, 3) := by decide +kernel
theorem dX5_init_52 : decode cX5_init 52 = .ok (.aload_n 0, 1) := by decide +kernel
theorem dX5_init_53 : decode cX5_init 53 = .ok (.invokevirtual 29, 3) := by decide +kernel
theorem dX5_init_56 : decode cX5_init 56 = .ok (.return_, 1) := by decide +kernel
theorem dX5_plain_0 : decode cX5_plain 0 = .ok (.aload_n 0, 1) := by decide +kernel
theorem dX5_plain_1 : decode cX5_plain 1 = .ok (.iconst 0, 1) := by decide +kernel
theorem dX5_plain_2 : decode cX5_plain 2 = .ok (.bipush 8, 2) := by decide +kernel
theorem dX5_plain_4 : decode cX5_plain 4 = .ok (.iastore, 1) := by decide +kernel
theorem dX5_plain_5 : decode cX5_plain 5 = .ok (.aload_n 0, 1) := by decide +kernel
theorem dX5_plain_6 : decode cX5_plain 6 = .ok (.iconst 1, 1) := by decide +kernel
theorem dX5_plain_7 : decode cX5_plain 7 = .ok (.iconst 4, 1) := by decide +kernel
theorem dX5_plain_8 : decode cX5_plain 8 = .ok (.iastore, 1) := by decide +kernel
theorem dX5_plain_9 : decode cX5_plain 9 = .ok (.aload_n 0, 1) := by decide +kernel
theorem dX5_plain_10 : decode cX5_plain 10 = .ok (.iconst 2, 1) := by decide +kernel
theorem dX5_plain_11 : decode cX5_plain 11 = .ok (.bipush 8, 2) := by decide +kernel
theorem dX5_plain_13 : decode cX5_plain 13 = .ok (.iastore, 1) := by decide +kernel
theorem dX5_plain_14 : decode cX5_plain 14 = .ok (.aload_n 0, 1) := by decide +kernel
theorem dX5_plain_15 : decode cX5_plain 15 = .ok (.iconst 3, 1) := by decide +kernel
theorem dX5_plain_16 : decode cX5_plain 16 = .ok (.iconst 2, 1) := by decide +kernel
theorem dX5_plain_17 : decode cX5_plain 17 = .ok (.iastore, 1) := by decide +kernel
theorem dX5_plain_18 : decode cX5_plain 18 = .ok (.aload_n 0, 1) := by decide +kernel
theorem dX5_plain_19 : decode cX5_plain 19 = .ok (.iconst 4, 1) := by decide +kernel
theorem dX5_plain_20 : decode cX5_plain 20 = .ok (.iconst 5, 1) := by decide +kernel
theorem dX5_plain_21 : decode cX5_plain 21 = .ok (.iastore, 1) := by decide +kernel
theorem dX5_plain_22 : decode cX5_plain 22 = .ok (.return_, 1) := by decide +kernel
theorem dX5_anew_0 : decode cX5_anew 0 = .ok (.iconst 0, 1) := by decide +kernel
theorem dX5_anew_1 : decode cX5_anew 1 = .ok (.istore_n 1, 1) := by decide +kernel
theorem dX5_anew_2 : decode cX5_anew 2 = .ok (.iload_n 1, 1) := by decide +kernel
theorem dX5_anew_3 : decode cX5_anew 3 = .ok (.sipush 306, 3) := by decide +kernel
theorem dX5_anew_6 : decode cX5_anew 6 = .ok (.if_icmp .ge 29, 3) := by decide +kernel
theorem dX5_anew_9 : decode cX5_anew 9 = .ok (.aload_n 0, 1) := by decide +kernel
theorem dX5_anew_10 : decode cX5_anew 10 = .ok (.getfield 19, 3) := by decide +kernel
theorem dX5_anew_13 : decode cX5_anew 13 = .ok (.iload_n 1, 1) := by decide +kernel
theorem dX5_anew_14 : decode cX5_anew 14 = .ok (.iload_n 1, 1) := by decide +kernel
theorem dX5_anew_15 : decode cX5_anew 15 = .ok (.sipush 256, 3) := by decide +kernel
theorem dX5_anew_18 : decode cX5_anew 18 = .ok (.if_icmp .ge 9, 3) := by decide +kernel
theorem dX5_anew_21 : decode cX5_anew 21 = .ok (.sipush 255, 3) := by decide +kernel
theorem dX5_anew_24 : decode cX5_anew 24 = .ok (.goto 4, 3) := by decide +kernel
theorem dX5_anew_27 : decode cX5_anew 27 = .ok (.iconst 0, 1) := by decide +kernel
theorem dX5_anew_28 : decode cX5_anew 28 = .ok (.iastore, 1) := by decide +kernel
theorem dX5_anew_29 : decode cX5_anew 29 = .ok (.iinc 1 1, 3) := by decide +kernel
theorem dX5_anew_32 : decode cX5_anew 32 = .ok (.goto (-30), 3) := by decide +kernel
theorem dX5_anew_35 : decode cX5_anew 35 = .ok (.aload_n 0, 1) := by decide +kernel
theorem dX5_anew_36 : decode cX5_anew 36 = .ok (.iconst 0, 1) := by decide +kernel
theorem dX5_anew_37 : decode cX5_anew 37 = .ok (.putfield 32, 3) := by decide +kernel
theorem dX5_anew_40 : decode cX5_anew 40 = .ok (.return_, 1) := by decide +kernel
theorem dX5_in_0 : decode cX5_in 0 = .ok (.lload_n 0, 1) := by decide +kernel
theorem dX5_in_1 : decode cX5_in 1 = .ok (.lload_n 2, 1) := by decide +kernel
theorem dX5_in_2 : decode cX5_in 2 = .ok (.lcmp, 1) := by decide +kernel
theorem dX5_in_3 : decode cX5_in 3 = .ok (.ifCond .lt 14, 3) := by decide +kernel
theorem dX5_in_6 : decode cX5_in 6 = .ok (.lload_n 0, 1) := by decide +kernel
theorem dX5_in_7 : decode cX5_in 7 = .ok (.lload 4, 2) := by decide +kernel
theorem dX5_in_9 : decode cX5_in 9 = .ok (.lcmp, 1) := by decide +kernel
theorem dX5_in_10 : decode cX5_in 10 = .ok (.ifCond .gt 7, 3) := by decide +kernel
theorem dX5_in_13 : decode cX5_in 13 = .ok (.iconst 1, 1) := by decide +kernel
theorem dX5_in_14 : decode cX5_in 14 = .ok (.goto 4, 3) := by decide +kernel
theorem dX5_in_17 : decode cX5_in 17 = .ok (.iconst 0, 1) := by decide +kernel
theorem dX5_in_18 : decode cX5_in 18 = .ok (.ireturn, 1) := by decide +kernel
theorem dX5_write_0 : decode cX5_write 0 = .ok (.iload_n 1, 1) := by decide +kernel
theorem dX5_write_1 : decode cX5_write 1 = .ok (.i2l, 1) := by decide +kernel
theorem dX5_write_2 : decode cX5_write 2 = .ok (.ldc2_w 36, 3) := by decide +kernel
theorem dX5_write_5 : decode cX5_write 5 = .ok (.ldc2_w 38, 3) := by decide +kernel
theorem dX5_write_8 : decode cX5_write 8 = .ok (.invokestatic 40, 3) := by decide +kernel
theorem dX5_write_11 : decode cX5_write 11 = .ok (.ifCond .ne 5, 3) := by decide +kernel
theorem dX5_write_14 : decode cX5_write 14 = .ok (.iconst (-1), 1) := by decide +kernel
theorem dX5_write_15 : decode cX5_write 15 = .ok (.ireturn, 1) := by decide +kernel
theorem dX5_write_16 : decode cX5_write 16 = .ok (.aload_n 0, 1) := by decide +kernel
theorem dX5_write_17 : decode cX5_write 17 = .ok (.getfield 44, 3) := by decide +kernel
theorem dX5_write_20 : decode cX5_write 20 = .ok (.sipush 200, 3) := by decide +kernel
theorem dX5_write_23 : decode cX5_write 23 = .ok (.if_icmp .ne 6, 3) := by decide +kernel
theorem dX5_write_26 : decode cX5_write 26 = .ok (.bipush (-3), 2) := by decide +kernel
theorem dX5_write_28 : decode cX5_write 28 = .ok (.ireturn, 1) := by decide +kernel
theorem dX5_write_29 : decode cX5_write 29 = .ok (.aload_n 0, 1) := by decide +kernel
theorem dX5_write_30 : decode cX5_write 30 = .ok (.getfield 7, 3) := by decide +kernel
theorem dX5_write_33 : decode cX5_write 33 = .ok (.aload_n 0, 1) := by decide +kernel
theorem dX5_write_34 : decode cX5_write 34 = .ok (.getfield 44, 3) := by decide +kernel
theorem dX5_write_37 : decode cX5_write 37 = .ok (.iload_n 1, 1) := by decide +kernel
theorem dX5_write_38 : decode cX5_write 38 = .ok (.iastore, 1) := by decide +kernel
theorem dX5_write_39 : decode cX5_write 39 = .ok (.aload_n 0, 1) := by decide +kernel
theorem dX5_write_40 : decode cX5_write 40 = .ok (.dup, 1) := by decide +kernel
theorem dX5_write_41 : decode cX5_write 41 = .ok (.getfield 44, 3) := by decide +kernel
theorem dX5_write_44 : decode cX5_write 44 = .ok (.iconst 1, 1) := by decide +kernel
theorem dX5_write_45 : decode cX5_write 45 = .ok (.iadd, 1) := by decide +kernel
theorem dX5_write_46 : decode cX5_write 46 = .ok (.putfield 44, 3) := by decide +kernel
theorem dX5_write_49 : decode cX5_write 49 = .ok (.aload_n 0, 1) := by decide +kernel
theorem dX5_write_50 : decode cX5_write 50 = .ok (.getfield 44, 3) := by decide +kernel
theorem dX5_write_53 : decode cX5_write 53 = .ok (.ireturn, 1) := by decide +kernel
theorem dX5_wipe_0 : decode cX5_wipe 0 = .ok (.aload_n 0, 1) := by decide +kernel
theorem dX5_wipe_1 : decode cX5_wipe 1 = .ok (.getfield 44, 3) := by decide +kernel
theorem dX5_wipe_4 : decode cX5_wipe 4 = .ok (.istore_n 1, 1) := by decide +kernel
theorem dX5_wipe_5 : decode cX5_wipe 5 = .ok (.aload_n 0, 1) := by decide +kernel
theorem dX5_wipe_6 : decode cX5_wipe 6 = .ok (.iconst 0, 1) := by decide +kernel
theorem dX5_wipe_7 : decode cX5_wipe 7 = .ok (.putfield 44, 3) := by decide +kernel
theorem dX5_wipe_10 : decode cX5_wipe 10 = .ok (.iload_n 1, 1) := by decide +kernel
theorem dX5_wipe_11 : decode cX5_wipe 11 = .ok (.ireturn, 1) := by decide +kernel
theorem dX5_byteAt_0 : decode cX5_byteAt 0 = .ok (.iload_n 1, 1) := by decide +kernel
theorem dX5_byteAt_1 : decode cX5_byteAt 1 = .ok (.aload_n 0, 1) := by decide +kernel
theorem dX5_byteAt_2 : decode cX5_byteAt 2 = .ok (.getfield 44, 3) := by decide +kernel
theorem dX5_byteAt_5 : decode cX5_byteAt 5 = .ok (.if_icmp .ge 12, 3) := by decide +kernel
theorem dX5_byteAt_8 : decode cX5_byteAt 8 = .ok (.aload_n 0, 1) := by decide +kernel
theorem dX5_byteAt_9 : decode cX5_byteAt 9 = .ok (.getfield 7, 3) := by decide +kernel
theorem dX5_byteAt_12 : decode cX5_byteAt 12 = .ok (.iload_n 1, 1) := by decide +kernel
theorem dX5_byteAt_13 : decode cX5_byteAt 13 = .ok (.iaload, 1) := by decide +kernel
theorem dX5_byteAt_14 : decode cX5_byteAt 14 = .ok (.goto 4, 3) := by decide +kernel
theorem dX5_byteAt_17 : decode cX5_byteAt 17 = .ok (.iconst 0, 1) := by decide +kernel
theorem dX5_byteAt_18 : decode cX5_byteAt 18 = .ok (.ireturn, 1) := by decide +kernel
theorem dX5_number_0 : decode cX5_number 0 = .ok (.iconst 0, 1) := by decide +kernel
theorem dX5_number_1 : decode cX5_number 1 = .ok (.istore_n 2, 1) := by decide +kernel
theorem dX5_number_2 : decode cX5_number 2 = .ok (.iconst 0, 1) := by decide +kernel
theorem dX5_number_3 : decode cX5_number 3 = .ok (.istore_n 3, 1) := by decide +kernel
theorem dX5_number_4 : decode cX5_number 4 = .ok (.iload_n 3, 1) := by decide +kernel
theorem dX5_number_5 : decode cX5_number 5 = .ok (.iconst 2, 1) := by decide +kernel
theorem dX5_number_6 : decode cX5_number 6 = .ok (.if_icmp .ge 57, 3) := by decide +kernel
theorem dX5_number_9 : decode cX5_number 9 = .ok (.aload_n 0, 1) := by decide +kernel
theorem dX5_number_10 : decode cX5_number 10 = .ok (.aload_n 0, 1) := by decide +kernel
theorem dX5_number_11 : decode cX5_number 11 = .ok (.getfield 47, 3) := by decide +kernel
theorem dX5_number_14 : decode cX5_number 14 = .ok (.invokevirtual 50, 3) := by decide +kernel
theorem dX5_number_17 : decode cX5_number 17 = .ok (.i2l, 1) := by decide +kernel
theorem dX5_number_18 : decode cX5_number 18 = .ok (.ldc2_w 54, 3) := by decide +kernel
theorem dX5_number_21 : decode cX5_number 21 = .ok (.ldc2_w 56, 3) := by decide +kernel
theorem dX5_number_24 : decode cX5_number 24 = .ok (.invokestatic 40, 3) := by decide +kernel
theorem dX5_number_27 : decode cX5_number 27 = .ok (.ifCond .eq 36, 3) := by decide +kernel
theorem dX5_number_30 : decode cX5_number 30 = .ok (.bipush 10, 2) := by decide +kernel
theorem dX5_number_32 : decode cX5_number 32 = .ok (.iload_n 2, 1) := by decide +kernel
theorem dX5_number_33 : decode cX5_number 33 = .ok (.imul, 1) := by decide +kernel
theorem dX5_number_34 : decode cX5_number 34 = .ok (.aload_n 0, 1) := by decide +kernel
theorem dX5_number_35 : decode cX5_number 35 = .ok (.aload_n 0, 1) := by decide +kernel
theorem dX5_number_36 : decode cX5_number 36 = .ok (.getfield 47, 3) := by decide +kernel
theorem dX5_number_39 : decode cX5_number 39 = .ok (.invokevirtual 50, 3) := by decide +kernel
theorem dX5_number_42 : decode cX5_number 42 = .ok (.iadd, 1) := by decide +kernel
theorem dX5_number_43 : decode cX5_number 43 = .ok (.bipush 48, 2) := by decide +kernel
theorem dX5_number_45 : decode cX5_number 45 = .ok (.isub, 1) := by decide +kernel
theorem dX5_number_46 : decode cX5_number 46 = .ok (.istore_n 2, 1) := by decide +kernel
theorem dX5_number_47 : decode cX5_number 47 = .ok (.aload_n 0, 1) := by decide +kernel
theorem dX5_number_48 : decode cX5_number 48 = .ok (.dup, 1) := by decide +kernel
theorem dX5_number_49 : decode cX5_number 49 = .ok (.getfield 47, 3) := by decide +kernel
theorem dX5_number_52 : decode cX5_number 52 = .ok (.iconst 1, 1) := by decide +kernel
theorem dX5_number_53 : decode cX5_number 53 = .ok (.iadd, 1) := by decide +kernel
theorem dX5_number_54 : decode cX5_number 54 = .ok (.putfield 47, 3) := by decide +kernel
theorem dX5_number_57 : decode cX5_number 57 = .ok (.iinc 3 1, 3) := by decide +kernel
theorem dX5_number_60 : decode cX5_number 60 = .ok (.goto (-56), 3) := by decide +kernel
theorem dX5_number_63 : decode cX5_number 63 = .ok (.iload_n 3, 1) := by decide +kernel
theorem dX5_number_64 : decode cX5_number 64 = .ok (.ifCond .le 19, 3) := by decide +kernel
theorem dX5_number_67 : decode cX5_number 67 = .ok (.aload_n 0, 1) := by decide +kernel
theorem dX5_number_68 : decode cX5_number 68 = .ok (.aload_n 0, 1) := by decide +kernel
theorem dX5_number_69 : decode cX5_number 69 = .ok (.getfield 47, 3) := by decide +kernel
theorem dX5_number_72 : decode cX5_number 72 = .ok (.invokevirtual 50, 3) := by decide +kernel
theorem dX5_number_75 : decode cX5_number 75 = .ok (.iload_n 1, 1) := by decide +kernel
theorem dX5_number_76 : decode cX5_number 76 = .ok (.if_icmp .ne 7, 3) := by decide +kernel
theorem dX5_number_79 : decode cX5_number 79 = .ok (.iconst 1, 1) := by decide +kernel
theorem dX5_number_80 : decode cX5_number 80 = .ok (.goto 4, 3) := by decide +kernel
theorem dX5_number_83 : decode cX5_number 83 = .ok (.iconst 0, 1) := by decide +kernel
theorem dX5_number_84 : decode cX5_number 84 = .ok (.istore 4, 2) := by decide +kernel
theorem dX5_number_86 : decode cX5_number 86 = .ok (.aload_n 0, 1) := by decide +kernel
theorem dX5_number_87 : decode cX5_number 87 = .ok (.dup, 1) := by decide +kernel
theorem dX5_number_88 : decode cX5_number 88 = .ok (.getfield 47, 3) := by decide +kernel
theorem dX5_number_91 : decode cX5_number 91 = .ok (.iconst 1, 1) := by decide +kernel
theorem dX5_number_92 : decode cX5_number 92 = .ok (.iadd, 1) := by decide +kernel
theorem dX5_number_93 : decode cX5_number 93 = .ok (.putfield 47, 3) := by decide +kernel
theorem dX5_number_96 : decode cX5_number 96 = .ok (.iload 4, 2) := by decide +kernel
theorem dX5_number_98 : decode cX5_number 98 = .ok (.ifCond .eq 7, 3) := by decide +kernel
theorem dX5_number_101 : decode cX5_number 101 = .ok (.iload_n 2, 1) := by decide +kernel
theorem dX5_number_102 : decode cX5_number 102 = .ok (.goto 4, 3) := by decide +kernel
theorem dX5_number_105 : decode cX5_number 105 = .ok (.iconst (-1), 1) := by decide +kernel
theorem dX5_number_106 : decode cX5_number 106 = .ok (.ireturn, 1) := by decide +kernel
theorem dX5_sumOf_0 : decode cX5_sumOf 0 = .ok (.aload_n 0, 1) := by decide +kernel
theorem dX5_sumOf_1 : decode cX5_sumOf 1 = .ok (.iconst 0, 1) := by decide +kernel
theorem dX5_sumOf_2 : decode cX5_sumOf 2 = .ok (.iaload, 1) := by decide +kernel
theorem dX5_sumOf_3 : decode cX5_sumOf 3 = .ok (.aload_n 0, 1) := by decide +kernel
theorem dX5_sumOf_4 : decode cX5_sumOf 4 = .ok (.iconst 1, 1) := by decide +kernel
theorem dX5_sumOf_5 : decode cX5_sumOf 5 = .ok (.iaload, 1) := by decide +kernel
theorem dX5_sumOf_6 : decode cX5_sumOf 6 = .ok (.iadd, 1) := by decide +kernel
theorem dX5_sumOf_7 : decode cX5_sumOf 7 = .ok (.aload_n 0, 1) := by decide +kernel
theorem dX5_sumOf_8 : decode cX5_sumOf 8 = .ok (.iconst 2, 1) := by decide +kernel
theorem dX5_sumOf_9 : decode cX5_sumOf 9 = .ok (.iaload, 1) := by decide +kernel
theorem dX5_sumOf_10 : decode cX5_sumOf 10 = .ok (.iadd, 1) := by decide +kernel
theorem dX5_sumOf_11 : decode cX5_sumOf 11 = .ok (.aload_n 0, 1) := by decide +kernel
theorem dX5_sumOf_12 : decode cX5_sumOf 12 = .ok (.iconst 3, 1) := by decide +kernel
theorem dX5_sumOf_13 : decode cX5_sumOf 13 = .ok (.iaload, 1) := by decide +kernel
theorem dX5_sumOf_14 : decode cX5_sumOf 14 = .ok (.iadd, 1) := by decide +kernel
theorem dX5_sumOf_15 : decode cX5_sumOf 15 = .ok (.aload_n 0, 1) := by decide +kernel
theorem dX5_sumOf_16 : decode cX5_sumOf 16 = .ok (.iconst 4, 1) := by decide +kernel
theorem dX5_sumOf_17 : decode cX5_sumOf 17 = .ok (.iaload, 1) := by decide +kernel
theorem dX5_sumOf_18 : decode cX5_sumOf 18 = .ok (.iadd, 1) := by decide +kernel
theorem dX5_sumOf_19 : decode cX5_sumOf 19 = .ok (.ireturn, 1) := by decide +kernel
theorem dX5_sizes_0 : decode cX5_sizes 0 = .ok (.aload_n 0, 1) := by decide +kernel
theorem dX5_sizes_1 : decode cX5_sizes 1 = .ok (.bipush 44, 2) := by decide +kernel
theorem dX5_sizes_3 : decode cX5_sizes 3 = .ok (.invokevirtual 58, 3) := by decide +kernel
theorem dX5_sizes_6 : decode cX5_sizes 6 = .ok (.istore_n 1, 1) := by decide +kernel
theorem dX5_sizes_7 : decode cX5_sizes 7 = .ok (.aload_n 0, 1) := by decide +kernel
theorem dX5_sizes_8 : decode cX5_sizes 8 = .ok (.bipush 44, 2) := by decide +kernel
theorem dX5_sizes_10 : decode cX5_sizes 10 = .ok (.invokevirtual 58, 3) := by decide +kernel
theorem dX5_sizes_13 : decode cX5_sizes 13 = .ok (.istore_n 2, 1) := by decide +kernel
theorem dX5_sizes_14 : decode cX5_sizes 14 = .ok (.aload_n 0, 1) := by decide +kernel
theorem dX5_sizes_15 : decode cX5_sizes 15 = .ok (.bipush 59, 2) := by decide +kernel
theorem dX5_sizes_17 : decode cX5_sizes 17 = .ok (.invokevirtual 58, 3) := by decide +kernel
theorem dX5_sizes_20 : decode cX5_sizes 20 = .ok (.istore_n 3, 1) := by decide +kernel
theorem dX5_sizes_21 : decode cX5_sizes 21 = .ok (.aload_n 0, 1) := by decide +kernel
theorem dX5_sizes_22 : decode cX5_sizes 22 = .ok (.getfield 16, 3) := by decide +kernel
theorem dX5_sizes_25 : decode cX5_sizes 25 = .ok (.iconst 0, 1) := by decide +kernel
theorem dX5_sizes_26 : decode cX5_sizes 26 = .ok (.iload_n 1, 1) := by decide +kernel
theorem dX5_sizes_27 : decode cX5_sizes 27 = .ok (.iastore, 1) := by decide +kernel
theorem dX5_sizes_28 : decode cX5_sizes 28 = .ok (.aload_n 0, 1) := by decide +kernel
theorem dX5_sizes_29 : decode cX5_sizes 29 = .ok (.getfield 16, 3) := by decide +kernel
theorem dX5_sizes_32 : decode cX5_sizes 32 = .ok (.iconst 1, 1) := by decide +kernel
theorem dX5_sizes_33 : decode cX5_sizes 33 = .ok (.iload_n 2, 1) := by decide +kernel
theorem dX5_sizes_34 : decode cX5_sizes 34 = .ok (.iastore, 1) := by decide +kernel
theorem dX5_sizes_35 : decode cX5_sizes 35 = .ok (.aload_n 0, 1) := by decide +kernel
theorem dX5_sizes_36 : decode cX5_sizes 36 = .ok (.getfield 16, 3) := by decide +kernel
theorem dX5_sizes_39 : decode cX5_sizes 39 = .ok (.iconst 2, 1) := by decide +kernel
theorem dX5_sizes_40 : decode cX5_sizes 40 = .ok (.iload_n 3, 1) := by decide +kernel
theorem dX5_sizes_41 : decode cX5_sizes 41 = .ok (.iastore, 1) := by decide +kernel
theorem dX5_sizes_42 : decode cX5_sizes 42 = .ok (.iload_n 1, 1) := by decide +kernel
theorem dX5_sizes_43 : decode cX5_sizes 43 = .ok (.iconst 4, 1) := by decide +kernel
theorem dX5_sizes_44 : decode cX5_sizes 44 = .ok (.if_icmp .eq 15, 3) := by decide +kernel
theorem dX5_sizes_47 : decode cX5_sizes 47 = .ok (.iload_n 1, 1) := by decide +kernel
theorem dX5_sizes_48 : decode cX5_sizes 48 = .ok (.bipush 8, 2) := by decide +kernel
theorem dX5_sizes_50 : decode cX5_sizes 50 = .ok (.if_icmp .eq 9, 3) := by decide +kernel
theorem dX5_sizes_53 : decode cX5_sizes 53 = .ok (.iload_n 1, 1) := by decide +kernel
theorem dX5_sizes_54 : decode cX5_sizes 54 = .ok (.bipush 16, 2) := by decide +kernel
theorem dX5_sizes_56 : decode cX5_sizes 56 = .ok (.if_icmp .ne 48, 3) := by decide +kernel
theorem dX5_sizes_59 : decode cX5_sizes 59 = .ok (.iload_n 2, 1) := by decide +kernel
theorem dX5_sizes_60 : decode cX5_sizes 60 = .ok (.iconst 2, 1) := by decide +kernel
theorem dX5_sizes_61 : decode cX5_sizes 61 = .ok (.if_icmp .eq 14, 3) := by decide +kernel
theorem dX5_sizes_64 : decode cX5_sizes 64 = .ok (.iload_n 2, 1) := by decide +kernel
theorem dX5_sizes_65 : decode cX5_sizes 65 = .ok (.iconst 4, 1) := by decide +kernel
theorem dX5_sizes_66 : decode cX5_sizes 66 = .ok (.if_icmp .eq 9, 3) := by decide +kernel
theorem dX5_sizes_69 : decode cX5_sizes 69 = .ok (.iload_n 2, 1) := by decide +kernel
theorem dX5_sizes_70 : decode cX5_sizes 70 = .ok (.bipush 8, 2) := by decide +kernel
theorem dX5_sizes_72 : decode cX5_sizes 72 = .ok (.if_icmp .ne 32, 3) := by decide +kernel
theorem dX5_sizes_75 : decode cX5_sizes 75 = .ok (.iload_n 3, 1) := by decide +kernel
theorem dX5_sizes_76 : decode cX5_sizes 76 = .ok (.i2l, 1) := by decide +kernel
theorem dX5_sizes_77 : decode cX5_sizes 77 = .ok (.ldc2_w 61, 3) := by decide +kernel
theorem dX5_sizes_80 : decode cX5_sizes 80 = .ok (.ldc2_w 63, 3) := by decide +kernel
theorem dX5_sizes_83 : decode cX5_sizes 83 = .ok (.invokestatic 40, 3) := by decide +kernel
theorem dX5_sizes_86 : decode cX5_sizes 86 = .ok (.ifCond .eq 18, 3) := by decide +kernel
theorem dX5_sizes_89 : decode cX5_sizes 89 = .ok (.iload_n 1, 1) := by decide +kernel
theorem dX5_sizes_90 : decode cX5_sizes 90 = .ok (.iload_n 2, 1) := by decide +kernel
theorem dX5_sizes_91 : decode cX5_sizes 91 = .ok (.imul, 1) := by decide +kernel
theorem dX5_sizes_92 : decode cX5_sizes 92 = .ok (.iload_n 3, 1) := by decide +kernel
theorem dX5_sizes_93 : decode cX5_sizes 93 = .ok (.imul, 1) := by decide +kernel
theorem dX5_sizes_94 : decode cX5_sizes 94 = .ok (.sipush 256, 3) := by decide +kernel
theorem dX5_sizes_97 : decode cX5_sizes 97 = .ok (.if_icmp .gt 7, 3) := by decide +kernel
theorem dX5_sizes_100 : decode cX5_sizes 100 = .ok (.iconst 1, 1) := by decide +kernel
theorem dX5_sizes_101 : decode cX5_sizes 101 = .ok (.goto 4, 3) := by decide +kernel
theorem dX5_sizes_104 : decode cX5_sizes 104 = .ok (.iconst 0, 1) := by decide +kernel
theorem dX5_sizes_105 : decode cX5_sizes 105 = .ok (.ireturn, 1) := by decide +kernel
theorem dX5_item_0 : decode cX5_item 0 = .ok (.aload_n 0, 1) := by decide +kernel
theorem dX5_item_1 : decode cX5_item 1 = .ok (.getfield 65, 3) := by decide +kernel
theorem dX5_item_4 : decode cX5_item 4 = .ok (.ifCond .eq 5, 3) := by decide +kernel
theorem dX5_item_7 : decode cX5_item 7 = .ok (.iconst 0, 1) := by decide +kernel
theorem dX5_item_8 : decode cX5_item 8 = .ok (.ireturn, 1) := by decide +kernel
theorem dX5_item_9 : decode cX5_item 9 = .ok (.iload_n 1, 1) := by decide +kernel
theorem dX5_item_10 : decode cX5_item 10 = .ok (.lookupswitch 133 #[(99, 103), (103, 34), (116, 39)], 34) := by decide +kernel
theorem dX5_item_44 : decode cX5_item 44 = .ok (.aload_n 0, 1) := by decide +kernel
theorem dX5_item_45 : decode cX5_item 45 = .ok (.invokevirtual 69, 3) := by decide +kernel
theorem dX5_item_48 : decode cX5_item 48 = .ok (.ireturn, 1) := by decide +kernel
theorem dX5_item_49 : decode cX5_item 49 = .ok (.aload_n 0, 1) := by decide +kernel
theorem dX5_item_50 : decode cX5_item 50 = .ok (.getfield 16, 3) := by decide +kernel
theorem dX5_item_53 : decode cX5_item 53 = .ok (.iconst 3, 1) := by decide +kernel
theorem dX5_item_54 : decode cX5_item 54 = .ok (.aload_n 0, 1) := by decide +kernel
theorem dX5_item_55 : decode cX5_item 55 = .ok (.bipush 44, 2) := by decide +kernel
theorem dX5_item_57 : decode cX5_item 57 = .ok (.invokevirtual 58, 3) := by decide +kernel
theorem dX5_item_60 : decode cX5_item 60 = .ok (.iastore, 1) := by decide +kernel
theorem dX5_item_61 : decode cX5_item 61 = .ok (.aload_n 0, 1) := by decide +kernel
theorem dX5_item_62 : decode cX5_item 62 = .ok (.getfield 16, 3) := by decide +kernel
theorem dX5_item_65 : decode cX5_item 65 = .ok (.iconst 4, 1) := by decide +kernel
theorem dX5_item_66 : decode cX5_item 66 = .ok (.aload_n 0, 1) := by decide +kernel
theorem dX5_item_67 : decode cX5_item 67 = .ok (.bipush 59, 2) := by decide +kernel
theorem dX5_item_69 : decode cX5_item 69 = .ok (.invokevirtual 58, 3) := by decide +kernel
theorem dX5_item_72 : decode cX5_item 72 = .ok (.iastore, 1) := by decide +kernel
theorem dX5_item_73 : decode cX5_item 73 = .ok (.aload_n 0, 1) := by decide +kernel
theorem dX5_item_74 : decode cX5_item 74 = .ok (.getfield 16, 3) := by decide +kernel
theorem dX5_item_77 : decode cX5_item 77 = .ok (.iconst 3, 1) := by decide +kernel
theorem dX5_item_78 : decode cX5_item 78 = .ok (.iaload, 1) := by decide +kernel
theorem dX5_item_79 : decode cX5_item 79 = .ok (.i2l, 1) := by decide +kernel
theorem dX5_item_80 : decode cX5_item 80 = .ok (.lconst 1, 1) := by decide +kernel
theorem dX5_item_81 : decode cX5_item 81 = .ok (.ldc2_w 73, 3) := by decide +kernel
theorem dX5_item_84 : decode cX5_item 84 = .ok (.invokestatic 40, 3) := by decide +kernel
theorem dX5_item_87 : decode cX5_item 87 = .ok (.ifCond .eq 24, 3) := by decide +kernel
theorem dX5_item_90 : decode cX5_item 90 = .ok (.aload_n 0, 1) := by decide +kernel
theorem dX5_item_91 : decode cX5_item 91 = .ok (.getfield 16, 3) := by decide +kernel
theorem dX5_item_94 : decode cX5_item 94 = .ok (.iconst 4, 1) := by decide +kernel
theorem dX5_item_95 : decode cX5_item 95 = .ok (.iaload, 1) := by decide +kernel
theorem dX5_item_96 : decode cX5_item 96 = .ok (.i2l, 1) := by decide +kernel
theorem dX5_item_97 : decode cX5_item 97 = .ok (.lconst 1, 1) := by decide +kernel
theorem dX5_item_98 : decode cX5_item 98 = .ok (.ldc2_w 75, 3) := by decide +kernel
theorem dX5_item_101 : decode cX5_item 101 = .ok (.invokestatic 40, 3) := by decide +kernel
theorem dX5_item_104 : decode cX5_item 104 = .ok (.ifCond .eq 7, 3) := by decide +kernel
theorem dX5_item_107 : decode cX5_item 107 = .ok (.iconst 1, 1) := by decide +kernel
theorem dX5_item_108 : decode cX5_item 108 = .ok (.goto 4, 3) := by decide +kernel
theorem dX5_item_111 : decode cX5_item 111 = .ok (.iconst 0, 1) := by decide +kernel
theorem dX5_item_112 : decode cX5_item 112 = .ok (.ireturn, 1) := by decide +kernel
theorem dX5_item_113 : decode cX5_item 113 = .ok (.aload_n 0, 1) := by decide +kernel
theorem dX5_item_114 : decode cX5_item 114 = .ok (.iconst 1, 1) := by decide +kernel
theorem dX5_item_115 : decode cX5_item 115 = .ok (.putfield 65, 3) := by decide +kernel
theorem dX5_item_118 : decode cX5_item 118 = .ok (.aload_n 0, 1) := by decide +kernel
theorem dX5_item_119 : decode cX5_item 119 = .ok (.bipush 59, 2) := by decide +kernel
theorem dX5_item_121 : decode cX5_item 121 = .ok (.invokevirtual 58, 3) := by decide +kernel
theorem dX5_item_124 : decode cX5_item 124 = .ok (.aload_n 0, 1) := by decide +kernel
theorem dX5_item_125 : decode cX5_item 125 = .ok (.getfield 16, 3) := by decide +kernel
theorem dX5_item_128 : decode cX5_item 128 = .ok (.invokestatic 77, 3) := by decide +kernel
theorem dX5_item_131 : decode cX5_item 131 = .ok (.bipush 97, 2) := by decide +kernel
theorem dX5_item_133 : decode cX5_item 133 = .ok (.irem, 1) := by decide +kernel
theorem dX5_item_134 : decode cX5_item 134 = .ok (.if_icmp .ne 7, 3) := by decide +kernel
theorem dX5_item_137 : decode cX5_item 137 = .ok (.iconst 1, 1) := by decide +kernel
theorem dX5_item_138 : decode cX5_item 138 = .ok (.goto 4, 3) := by decide +kernel
theorem dX5_item_141 : decode cX5_item 141 = .ok (.iconst 0, 1) := by decide +kernel
theorem dX5_item_142 : decode cX5_item 142 = .ok (.ireturn, 1) := by decide +kernel
theorem dX5_item_143 : decode cX5_item 143 = .ok (.iconst 0, 1) := by decide +kernel
theorem dX5_item_144 : decode cX5_item 144 = .ok (.ireturn, 1) := by decide +kernel
theorem dX5_fault_0 : decode cX5_fault 0 = .ok (.aload_n 0, 1) := by decide +kernel
theorem dX5_fault_1 : decode cX5_fault 1 = .ok (.getfield 16, 3) := by decide +kernel
theorem dX5_fault_4 : decode cX5_fault 4 = .ok (.invokestatic 25, 3) := by decide +kernel
theorem dX5_fault_7 : decode cX5_fault 7 = .ok (.aload_n 0, 1) := by decide +kernel
theorem dX5_fault_8 : decode cX5_fault 8 = .ok (.iconst 0, 1) := by decide +kernel
theorem dX5_fault_9 : decode cX5_fault 9 = .ok (.putfield 65, 3) := by decide +kernel
theorem dX5_fault_12 : decode cX5_fault 12 = .ok (.aload_n 0, 1) := by decide +kernel
theorem dX5_fault_13 : decode cX5_fault 13 = .ok (.iconst 0, 1) := by decide +kernel
theorem dX5_fault_14 : decode cX5_fault 14 = .ok (.putfield 47, 3) := by decide +kernel
theorem dX5_fault_17 : decode cX5_fault 17 = .ok (.aload_n 0, 1) := by decide +kernel
theorem dX5_fault_18 : decode cX5_fault 18 = .ok (.getfield 47, 3) := by decide +kernel
theorem dX5_fault_21 : decode cX5_fault 21 = .ok (.aload_n 0, 1) := by decide +kernel
theorem dX5_fault_22 : decode cX5_fault 22 = .ok (.getfield 44, 3) := by decide +kernel
theorem dX5_fault_25 : decode cX5_fault 25 = .ok (.if_icmp .ge 36, 3) := by decide +kernel
theorem dX5_fault_28 : decode cX5_fault 28 = .ok (.aload_n 0, 1) := by decide +kernel
theorem dX5_fault_29 : decode cX5_fault 29 = .ok (.getfield 47, 3) := by decide +kernel
theorem dX5_fault_32 : decode cX5_fault 32 = .ok (.istore_n 1, 1) := by decide +kernel
theorem dX5_fault_33 : decode cX5_fault 33 = .ok (.aload_n 0, 1) := by decide +kernel
theorem dX5_fault_34 : decode cX5_fault 34 = .ok (.dup, 1) := by decide +kernel
theorem dX5_fault_35 : decode cX5_fault 35 = .ok (.getfield 47, 3) := by decide +kernel
theorem dX5_fault_38 : decode cX5_fault 38 = .ok (.iconst 1, 1) := by decide +kernel
theorem dX5_fault_39 : decode cX5_fault 39 = .ok (.iadd, 1) := by decide +kernel
theorem dX5_fault_40 : decode cX5_fault 40 = .ok (.putfield 47, 3) := by decide +kernel
theorem dX5_fault_43 : decode cX5_fault 43 = .ok (.aload_n 0, 1) := by decide +kernel
theorem dX5_fault_44 : decode cX5_fault 44 = .ok (.aload_n 0, 1) := by decide +kernel
theorem dX5_fault_45 : decode cX5_fault 45 = .ok (.getfield 7, 3) := by decide +kernel
theorem dX5_fault_48 : decode cX5_fault 48 = .ok (.iload_n 1, 1) := by decide +kernel
theorem dX5_fault_49 : decode cX5_fault 49 = .ok (.iaload, 1) := by decide +kernel
theorem dX5_fault_50 : decode cX5_fault 50 = .ok (.invokevirtual 81, 3) := by decide +kernel
theorem dX5_fault_53 : decode cX5_fault 53 = .ok (.ifCond .ne 5, 3) := by decide +kernel
theorem dX5_fault_56 : decode cX5_fault 56 = .ok (.iload_n 1, 1) := by decide +kernel
theorem dX5_fault_57 : decode cX5_fault 57 = .ok (.ireturn, 1) := by decide +kernel
theorem dX5_fault_58 : decode cX5_fault 58 = .ok (.goto (-41), 3) := by decide +kernel
theorem dX5_fault_61 : decode cX5_fault 61 = .ok (.bipush (-4), 2) := by decide +kernel
theorem dX5_fault_63 : decode cX5_fault 63 = .ok (.ireturn, 1) := by decide +kernel
theorem dX5_lay_0 : decode cX5_lay 0 = .ok (.aload_n 0, 1) := by decide +kernel
theorem dX5_lay_1 : decode cX5_lay 1 = .ok (.invokevirtual 85, 3) := by decide +kernel
theorem dX5_lay_4 : decode cX5_lay 4 = .ok (.bipush (-4), 2) := by decide +kernel
theorem dX5_lay_6 : decode cX5_lay 6 = .ok (.if_icmp .ne 10, 3) := by decide +kernel
theorem dX5_lay_9 : decode cX5_lay 9 = .ok (.aload_n 0, 1) := by decide +kernel
theorem dX5_lay_10 : decode cX5_lay 10 = .ok (.getfield 65, 3) := by decide +kernel
theorem dX5_lay_13 : decode cX5_lay 13 = .ok (.ifCond .ne 6, 3) := by decide +kernel
theorem dX5_lay_16 : decode cX5_lay 16 = .ok (.bipush (-2), 2) := by decide +kernel
theorem dX5_lay_18 : decode cX5_lay 18 = .ok (.ireturn, 1) := by decide +kernel
theorem dX5_lay_19 : decode cX5_lay 19 = .ok (.iconst 0, 1) := by decide +kernel
theorem dX5_lay_20 : decode cX5_lay 20 = .ok (.istore_n 1, 1) := by decide +kernel
theorem dX5_lay_21 : decode cX5_lay 21 = .ok (.iload_n 1, 1) := by decide +kernel
theorem dX5_lay_22 : decode cX5_lay 22 = .ok (.iconst 5, 1) := by decide +kernel
theorem dX5_lay_23 : decode cX5_lay 23 = .ok (.if_icmp .ge 21, 3) := by decide +kernel
theorem dX5_lay_26 : decode cX5_lay 26 = .ok (.aload_n 0, 1) := by decide +kernel
theorem dX5_lay_27 : decode cX5_lay 27 = .ok (.getfield 13, 3) := by decide +kernel
theorem dX5_lay_30 : decode cX5_lay 30 = .ok (.iload_n 1, 1) := by decide +kernel
theorem dX5_lay_31 : decode cX5_lay 31 = .ok (.aload_n 0, 1) := by decide +kernel
theorem dX5_lay_32 : decode cX5_lay 32 = .ok (.getfield 16, 3) := by decide +kernel
theorem dX5_lay_35 : decode cX5_lay 35 = .ok (.iload_n 1, 1) := by decide +kernel
theorem dX5_lay_36 : decode cX5_lay 36 = .ok (.iaload, 1) := by decide +kernel
theorem dX5_lay_37 : decode cX5_lay 37 = .ok (.iastore, 1) := by decide +kernel
theorem dX5_lay_38 : decode cX5_lay 38 = .ok (.iinc 1 1, 3) := by decide +kernel
theorem dX5_lay_41 : decode cX5_lay 41 = .ok (.goto (-20), 3) := by decide +kernel
theorem dX5_lay_44 : decode cX5_lay 44 = .ok (.aload_n 0, 1) := by decide +kernel
theorem dX5_lay_45 : decode cX5_lay 45 = .ok (.invokevirtual 29, 3) := by decide +kernel
theorem dX5_lay_48 : decode cX5_lay 48 = .ok (.aload_n 0, 1) := by decide +kernel
theorem dX5_lay_49 : decode cX5_lay 49 = .ok (.invokevirtual 89, 3) := by decide +kernel
theorem dX5_lay_52 : decode cX5_lay 52 = .ok (.ireturn, 1) := by decide +kernel
theorem dX5_all_0 : decode cX5_all 0 = .ok (.aload_n 0, 1) := by decide +kernel
theorem dX5_all_1 : decode cX5_all 1 = .ok (.getfield 13, 3) := by decide +kernel
theorem dX5_all_4 : decode cX5_all 4 = .ok (.iconst 0, 1) := by decide +kernel
theorem dX5_all_5 : decode cX5_all 5 = .ok (.iaload, 1) := by decide +kernel
theorem dX5_all_6 : decode cX5_all 6 = .ok (.aload_n 0, 1) := by decide +kernel
theorem dX5_all_7 : decode cX5_all 7 = .ok (.getfield 13, 3) := by decide +kernel
theorem dX5_all_10 : decode cX5_all 10 = .ok (.iconst 1, 1) := by decide +kernel
theorem dX5_all_11 : decode cX5_all 11 = .ok (.iaload, 1) := by decide +kernel
theorem dX5_all_12 : decode cX5_all 12 = .ok (.imul, 1) := by decide +kernel
theorem dX5_all_13 : decode cX5_all 13 = .ok (.aload_n 0, 1) := by decide +kernel
theorem dX5_all_14 : decode cX5_all 14 = .ok (.getfield 13, 3) := by decide +kernel
theorem dX5_all_17 : decode cX5_all 17 = .ok (.iconst 2, 1) := by decide +kernel
theorem dX5_all_18 : decode cX5_all 18 = .ok (.iaload, 1) := by decide +kernel
theorem dX5_all_19 : decode cX5_all 19 = .ok (.imul, 1) := by decide +kernel
theorem dX5_all_20 : decode cX5_all 20 = .ok (.ireturn, 1) := by decide +kernel
theorem dX5_sectorSize_0 : decode cX5_sectorSize 0 = .ok (.aload_n 0, 1) := by decide +kernel
theorem dX5_sectorSize_1 : decode cX5_sectorSize 1 = .ok (.getfield 13, 3) := by decide +kernel
theorem dX5_sectorSize_4 : decode cX5_sectorSize 4 = .ok (.iconst 0, 1) := by decide +kernel
theorem dX5_sectorSize_5 : decode cX5_sectorSize 5 = .ok (.iaload, 1) := by decide +kernel
theorem dX5_sectorSize_6 : decode cX5_sectorSize 6 = .ok (.aload_n 0, 1) := by decide +kernel
theorem dX5_sectorSize_7 : decode cX5_sectorSize 7 = .ok (.getfield 13, 3) := by decide +kernel
theorem dX5_sectorSize_10 : decode cX5_sectorSize 10 = .ok (.iconst 1, 1) := by decide +kernel
theorem dX5_sectorSize_11 : decode cX5_sectorSize 11 = .ok (.iaload, 1) := by decide +kernel
theorem dX5_sectorSize_12 : decode cX5_sectorSize 12 = .ok (.imul, 1) := by decide +kernel
theorem dX5_sectorSize_13 : decode cX5_sectorSize 13 = .ok (.ireturn, 1) := by decide +kernel
theorem dX5_isGuarded_0 : decode cX5_isGuarded 0 = .ok (.aload_n 0, 1) := by decide +kernel
theorem dX5_isGuarded_1 : decode cX5_isGuarded 1 = .ok (.getfield 19, 3) := by decide +kernel
theorem dX5_isGuarded_4 : decode cX5_isGuarded 4 = .ok (.sipush 288, 3) := by decide +kernel
theorem dX5_isGuarded_7 : decode cX5_isGuarded 7 = .ok (.iaload, 1) := by decide +kernel
theorem dX5_isGuarded_8 : decode cX5_isGuarded 8 = .ok (.iload_n 1, 1) := by decide +kernel
theorem dX5_isGuarded_9 : decode cX5_isGuarded 9 = .ok (.ishr, 1) := by decide +kernel
theorem dX5_isGuarded_10 : decode cX5_isGuarded 10 = .ok (.iconst 1, 1) := by decide +kernel
theorem dX5_isGuarded_11 : decode cX5_isGuarded 11 = .ok (.iand, 1) := by decide +kernel
theorem dX5_isGuarded_12 : decode cX5_isGuarded 12 = .ok (.iconst 1, 1) := by decide +kernel
theorem dX5_isGuarded_13 : decode cX5_isGuarded 13 = .ok (.if_icmp .eq 22, 3) := by decide +kernel
theorem dX5_isGuarded_16 : decode cX5_isGuarded 16 = .ok (.iload_n 1, 1) := by decide +kernel
theorem dX5_isGuarded_17 : decode cX5_isGuarded 17 = .ok (.aload_n 0, 1) := by decide +kernel
theorem dX5_isGuarded_18 : decode cX5_isGuarded 18 = .ok (.getfield 13, 3) := by decide +kernel
theorem dX5_isGuarded_21 : decode cX5_isGuarded 21 = .ok (.iconst 2, 1) := by decide +kernel
theorem dX5_isGuarded_22 : decode cX5_isGuarded 22 = .ok (.iaload, 1) := by decide +kernel
theorem dX5_isGuarded_23 : decode cX5_isGuarded 23 = .ok (.aload_n 0, 1) := by decide +kernel
theorem dX5_isGuarded_24 : decode cX5_isGuarded 24 = .ok (.getfield 19, 3) := by decide +kernel
theorem dX5_isGuarded_27 : decode cX5_isGuarded 27 = .ok (.sipush 292, 3) := by decide +kernel
theorem dX5_isGuarded_30 : decode cX5_isGuarded 30 = .ok (.iaload, 1) := by decide +kernel
theorem dX5_isGuarded_31 : decode cX5_isGuarded 31 = .ok (.isub, 1) := by decide +kernel
theorem dX5_isGuarded_32 : decode cX5_isGuarded 32 = .ok (.if_icmp .lt 7, 3) := by decide +kernel
theorem dX5_isGuarded_35 : decode cX5_isGuarded 35 = .ok (.iconst 1, 1) := by decide +kernel
theorem dX5_isGuarded_36 : decode cX5_isGuarded 36 = .ok (.goto 4, 3) := by decide +kernel
theorem dX5_isGuarded_39 : decode cX5_isGuarded 39 = .ok (.iconst 0, 1) := by decide +kernel
theorem dX5_isGuarded_40 : decode cX5_isGuarded 40 = .ok (.ireturn, 1) := by decide +kernel
theorem dX5_status_0 : decode cX5_status 0 = .ok (.aload_n 0, 1) := by decide +kernel
theorem dX5_status_1 : decode cX5_status 1 = .ok (.getfield 19, 3) := by decide +kernel
theorem dX5_status_4 : decode cX5_status 4 = .ok (.sipush 293, 3) := by decide +kernel
theorem dX5_status_7 : decode cX5_status 7 = .ok (.iaload, 1) := by decide +kernel
theorem dX5_status_8 : decode cX5_status 8 = .ok (.ifCond .le 7, 3) := by decide +kernel
theorem dX5_status_11 : decode cX5_status 11 = .ok (.iconst 1, 1) := by decide +kernel
theorem dX5_status_12 : decode cX5_status 12 = .ok (.goto 4, 3) := by decide +kernel
theorem dX5_status_15 : decode cX5_status 15 = .ok (.iconst 0, 1) := by decide +kernel
theorem dX5_status_16 : decode cX5_status 16 = .ok (.iconst 2, 1) := by decide +kernel
theorem dX5_status_17 : decode cX5_status 17 = .ok (.aload_n 0, 1) := by decide +kernel
theorem dX5_status_18 : decode cX5_status 18 = .ok (.getfield 19, 3) := by decide +kernel
theorem dX5_status_21 : decode cX5_status 21 = .ok (.sipush 290, 3) := by decide +kernel
theorem dX5_status_24 : decode cX5_status 24 = .ok (.iaload, 1) := by decide +kernel
theorem dX5_status_25 : decode cX5_status 25 = .ok (.imul, 1) := by decide +kernel
theorem dX5_status_26 : decode cX5_status 26 = .ok (.iadd, 1) := by decide +kernel
theorem dX5_status_27 : decode cX5_status 27 = .ok (.iconst 4, 1) := by decide +kernel
theorem dX5_status_28 : decode cX5_status 28 = .ok (.aload_n 0, 1) := by decide +kernel
theorem dX5_status_29 : decode cX5_status 29 = .ok (.getfield 19, 3) := by decide +kernel
theorem dX5_status_32 : decode cX5_status 32 = .ok (.sipush 292, 3) := by decide +kernel
theorem dX5_status_35 : decode cX5_status 35 = .ok (.iaload, 1) := by decide +kernel
theorem dX5_status_36 : decode cX5_status 36 = .ok (.imul, 1) := by decide +kernel
theorem dX5_status_37 : decode cX5_status 37 = .ok (.iadd, 1) := by decide +kernel
theorem dX5_status_38 : decode cX5_status 38 = .ok (.aload_n 0, 1) := by decide +kernel
theorem dX5_status_39 : decode cX5_status 39 = .ok (.getfield 19, 3) := by decide +kernel
theorem dX5_status_42 : decode cX5_status 42 = .ok (.sipush 296, 3) := by decide +kernel
theorem dX5_status_45 : decode cX5_status 45 = .ok (.iaload, 1) := by decide +kernel
theorem dX5_status_46 : decode cX5_status 46 = .ok (.ifCond .le 8, 3) := by decide +kernel
theorem dX5_status_49 : decode cX5_status 49 = .ok (.bipush 64, 2) := by decide +kernel
theorem dX5_status_51 : decode cX5_status 51 = .ok (.goto 4, 3) := by decide +kernel
theorem dX5_status_54 : decode cX5_status 54 = .ok (.iconst 0, 1) := by decide +kernel
theorem dX5_status_55 : decode cX5_status 55 = .ok (.iadd, 1) := by decide +kernel
theorem dX5_status_56 : decode cX5_status 56 = .ok (.sipush 128, 3) := by decide +kernel
theorem dX5_status_59 : decode cX5_status 59 = .ok (.aload_n 0, 1) := by decide +kernel
theorem dX5_status_60 : decode cX5_status 60 = .ok (.getfield 19, 3) := by decide +kernel
theorem dX5_status_63 : decode cX5_status 63 = .ok (.sipush 291, 3) := by decide +kernel
theorem dX5_status_66 : decode cX5_status 66 = .ok (.iaload, 1) := by decide +kernel
theorem dX5_status_67 : decode cX5_status 67 = .ok (.imul, 1) := by decide +kernel
theorem dX5_status_68 : decode cX5_status 68 = .ok (.iadd, 1) := by decide +kernel
theorem dX5_status_69 : decode cX5_status 69 = .ok (.ireturn, 1) := by decide +kernel
theorem dX5_tableAt_0 : decode cX5_tableAt 0 = .ok (.iload_n 1, 1) := by decide +kernel
theorem dX5_tableAt_1 : decode cX5_tableAt 1 = .ok (.ifCond .ne 8, 3) := by decide +kernel
theorem dX5_tableAt_4 : decode cX5_tableAt 4 = .ok (.bipush 83, 2) := by decide +kernel
theorem dX5_tableAt_6 : decode cX5_tableAt 6 = .ok (.goto 45, 3) := by decide +kernel
theorem dX5_tableAt_9 : decode cX5_tableAt 9 = .ok (.iload_n 1, 1) := by decide +kernel
theorem dX5_tableAt_10 : decode cX5_tableAt 10 = .ok (.iconst 1, 1) := by decide +kernel
theorem dX5_tableAt_11 : decode cX5_tableAt 11 = .ok (.if_icmp .ne 8, 3) := by decide +kernel
theorem dX5_tableAt_14 : decode cX5_tableAt 14 = .ok (.bipush 70, 2) := by decide +kernel
theorem dX5_tableAt_16 : decode cX5_tableAt 16 = .ok (.goto 35, 3) := by decide +kernel
theorem dX5_tableAt_19 : decode cX5_tableAt 19 = .ok (.iload_n 1, 1) := by decide +kernel
theorem dX5_tableAt_20 : decode cX5_tableAt 20 = .ok (.bipush 7, 2) := by decide +kernel
theorem dX5_tableAt_22 : decode cX5_tableAt 22 = .ok (.if_icmp .ge 14, 3) := by decide +kernel
theorem dX5_tableAt_25 : decode cX5_tableAt 25 = .ok (.aload_n 0, 1) := by decide +kernel
theorem dX5_tableAt_26 : decode cX5_tableAt 26 = .ok (.getfield 13, 3) := by decide +kernel
theorem dX5_tableAt_29 : decode cX5_tableAt 29 = .ok (.iload_n 1, 1) := by decide +kernel
theorem dX5_tableAt_30 : decode cX5_tableAt 30 = .ok (.iconst 2, 1) := by decide +kernel
theorem dX5_tableAt_31 : decode cX5_tableAt 31 = .ok (.isub, 1) := by decide +kernel
theorem dX5_tableAt_32 : decode cX5_tableAt 32 = .ok (.iaload, 1) := by decide +kernel
theorem dX5_tableAt_33 : decode cX5_tableAt 33 = .ok (.goto 18, 3) := by decide +kernel
theorem dX5_tableAt_36 : decode cX5_tableAt 36 = .ok (.sipush 153, 3) := by decide +kernel
theorem dX5_tableAt_39 : decode cX5_tableAt 39 = .ok (.aload_n 0, 1) := by decide +kernel
theorem dX5_tableAt_40 : decode cX5_tableAt 40 = .ok (.getfield 13, 3) := by decide +kernel
theorem dX5_tableAt_43 : decode cX5_tableAt 43 = .ok (.invokestatic 77, 3) := by decide +kernel
theorem dX5_tableAt_46 : decode cX5_tableAt 46 = .ok (.iadd, 1) := by decide +kernel
theorem dX5_tableAt_47 : decode cX5_tableAt 47 = .ok (.sipush 256, 3) := by decide +kernel
theorem dX5_tableAt_50 : decode cX5_tableAt 50 = .ok (.irem, 1) := by decide +kernel
theorem dX5_tableAt_51 : decode cX5_tableAt 51 = .ok (.ireturn, 1) := by decide +kernel
theorem dX5_select_0 : decode cX5_select 0 = .ok (.aload_n 0, 1) := by decide +kernel
theorem dX5_select_1 : decode cX5_select 1 = .ok (.getfield 19, 3) := by decide +kernel
theorem dX5_select_4 : decode cX5_select 4 = .ok (.sipush 298, 3) := by decide +kernel
theorem dX5_select_7 : decode cX5_select 7 = .ok (.iaload, 1) := by decide +kernel
theorem dX5_select_8 : decode cX5_select 8 = .ok (.iconst 1, 1) := by decide +kernel
theorem dX5_select_9 : decode cX5_select 9 = .ok (.if_icmp .ne 6, 3) := by decide +kernel
theorem dX5_select_12 : decode cX5_select 12 = .ok (.bipush (-2), 2) := by decide +kernel
theorem dX5_select_14 : decode cX5_select 14 = .ok (.ireturn, 1) := by decide +kernel
theorem dX5_select_15 : decode cX5_select 15 = .ok (.aload_n 0, 1) := by decide +kernel
theorem dX5_select_16 : decode cX5_select 16 = .ok (.getfield 19, 3) := by decide +kernel
theorem dX5_select_19 : decode cX5_select 19 = .ok (.sipush 298, 3) := by decide +kernel
theorem dX5_select_22 : decode cX5_select 22 = .ok (.iconst 1, 1) := by decide +kernel
theorem dX5_select_23 : decode cX5_select 23 = .ok (.iastore, 1) := by decide +kernel
theorem dX5_select_24 : decode cX5_select 24 = .ok (.aload_n 0, 1) := by decide +kernel
theorem dX5_select_25 : decode cX5_select 25 = .ok (.getfield 19, 3) := by decide +kernel
theorem dX5_select_28 : decode cX5_select 28 = .ok (.sipush 299, 3) := by decide +kernel
theorem dX5_select_31 : decode cX5_select 31 = .ok (.iconst 0, 1) := by decide +kernel
theorem dX5_select_32 : decode cX5_select 32 = .ok (.iastore, 1) := by decide +kernel
theorem dX5_select_33 : decode cX5_select 33 = .ok (.iconst 1, 1) := by decide +kernel
theorem dX5_select_34 : decode cX5_select 34 = .ok (.aload_n 0, 1) := by decide +kernel
theorem dX5_select_35 : decode cX5_select 35 = .ok (.getfield 19, 3) := by decide +kernel
theorem dX5_select_38 : decode cX5_select 38 = .ok (.sipush 289, 3) := by decide +kernel
theorem dX5_select_41 : decode cX5_select 41 = .ok (.iaload, 1) := by decide +kernel
theorem dX5_select_42 : decode cX5_select 42 = .ok (.ishl, 1) := by decide +kernel
theorem dX5_select_43 : decode cX5_select 43 = .ok (.ireturn, 1) := by decide +kernel
theorem dX5_answers_0 : decode cX5_answers 0 = .ok (.iload_n 1, 1) := by decide +kernel
theorem dX5_answers_1 : decode cX5_answers 1 = .ok (.ifCond .ne 7, 3) := by decide +kernel
theorem dX5_answers_4 : decode cX5_answers 4 = .ok (.sipush 255, 3) := by decide +kernel
theorem dX5_answers_7 : decode cX5_answers 7 = .ok (.ireturn, 1) := by decide +kernel
theorem dX5_answers_8 : decode cX5_answers 8 = .ok (.aload_n 0, 1) := by decide +kernel
theorem dX5_answers_9 : decode cX5_answers 9 = .ok (.getfield 19, 3) := by decide +kernel
theorem dX5_answers_12 : decode cX5_answers 12 = .ok (.sipush 300, 3) := by decide +kernel
theorem dX5_answers_15 : decode cX5_answers 15 = .ok (.iaload, 1) := by decide +kernel
theorem dX5_answers_16 : decode cX5_answers 16 = .ok (.istore_n 2, 1) := by decide +kernel
theorem dX5_answers_17 : decode cX5_answers 17 = .ok (.iload_n 2, 1) := by decide +kernel
theorem dX5_answers_18 : decode cX5_answers 18 = .ok (.iconst 5, 1) := by decide +kernel
theorem dX5_answers_19 : decode cX5_answers 19 = .ok (.if_icmp .ne 8, 3) := by decide +kernel
theorem dX5_answers_22 : decode cX5_answers 22 = .ok (.aload_n 0, 1) := by decide +kernel
theorem dX5_answers_23 : decode cX5_answers 23 = .ok (.invokevirtual 92, 3) := by decide +kernel
theorem dX5_answers_26 : decode cX5_answers 26 = .ok (.ireturn, 1) := by decide +kernel
theorem dX5_answers_27 : decode cX5_answers 27 = .ok (.aload_n 0, 1) := by decide +kernel
theorem dX5_answers_28 : decode cX5_answers 28 = .ok (.getfield 19, 3) := by decide +kernel
theorem dX5_answers_31 : decode cX5_answers 31 = .ok (.sipush 293, 3) := by decide +kernel
theorem dX5_answers_34 : decode cX5_answers 34 = .ok (.iaload, 1) := by decide +kernel
theorem dX5_answers_35 : decode cX5_answers 35 = .ok (.ifCond .le 7, 3) := by decide +kernel
theorem dX5_answers_38 : decode cX5_answers 38 = .ok (.sipush 255, 3) := by decide +kernel
theorem dX5_answers_41 : decode cX5_answers 41 = .ok (.ireturn, 1) := by decide +kernel
theorem dX5_answers_42 : decode cX5_answers 42 = .ok (.aload_n 0, 1) := by decide +kernel
theorem dX5_answers_43 : decode cX5_answers 43 = .ok (.getfield 19, 3) := by decide +kernel
theorem dX5_answers_46 : decode cX5_answers 46 = .ok (.sipush 301, 3) := by decide +kernel
theorem dX5_answers_49 : decode cX5_answers 49 = .ok (.iaload, 1) := by decide +kernel
theorem dX5_answers_50 : decode cX5_answers 50 = .ok (.aload_n 0, 1) := by decide +kernel
theorem dX5_answers_51 : decode cX5_answers 51 = .ok (.invokevirtual 89, 3) := by decide +kernel
theorem dX5_answers_54 : decode cX5_answers 54 = .ok (.irem, 1) := by decide +kernel
theorem dX5_answers_55 : decode cX5_answers 55 = .ok (.istore_n 3, 1) := by decide +kernel
theorem dX5_answers_56 : decode cX5_answers 56 = .ok (.iload_n 2, 1) := by decide +kernel
theorem dX5_answers_57 : decode cX5_answers 57 = .ok (.iconst 3, 1) := by decide +kernel
theorem dX5_answers_58 : decode cX5_answers 58 = .ok (.if_icmp .ne 24, 3) := by decide +kernel
theorem dX5_answers_61 : decode cX5_answers 61 = .ok (.iload_n 1, 1) := by decide +kernel
theorem dX5_answers_62 : decode cX5_answers 62 = .ok (.iconst 1, 1) := by decide +kernel
theorem dX5_answers_63 : decode cX5_answers 63 = .ok (.if_icmp .le 19, 3) := by decide +kernel
theorem dX5_answers_66 : decode cX5_answers 66 = .ok (.aload_n 0, 1) := by decide +kernel
theorem dX5_answers_67 : decode cX5_answers 67 = .ok (.getfield 19, 3) := by decide +kernel
theorem dX5_answers_70 : decode cX5_answers 70 = .ok (.iload_n 3, 1) := by decide +kernel
theorem dX5_answers_71 : decode cX5_answers 71 = .ok (.iload_n 1, 1) := by decide +kernel
theorem dX5_answers_72 : decode cX5_answers 72 = .ok (.iadd, 1) := by decide +kernel
theorem dX5_answers_73 : decode cX5_answers 73 = .ok (.iconst 2, 1) := by decide +kernel
theorem dX5_answers_74 : decode cX5_answers 74 = .ok (.isub, 1) := by decide +kernel
theorem dX5_answers_75 : decode cX5_answers 75 = .ok (.aload_n 0, 1) := by decide +kernel
theorem dX5_answers_76 : decode cX5_answers 76 = .ok (.invokevirtual 89, 3) := by decide +kernel
theorem dX5_answers_79 : decode cX5_answers 79 = .ok (.irem, 1) := by decide +kernel
theorem dX5_answers_80 : decode cX5_answers 80 = .ok (.iaload, 1) := by decide +kernel
theorem dX5_answers_81 : decode cX5_answers 81 = .ok (.ireturn, 1) := by decide +kernel
theorem dX5_answers_82 : decode cX5_answers 82 = .ok (.iload_n 2, 1) := by decide +kernel
theorem dX5_answers_83 : decode cX5_answers 83 = .ok (.bipush 11, 2) := by decide +kernel
theorem dX5_answers_85 : decode cX5_answers 85 = .ok (.if_icmp .ne 24, 3) := by decide +kernel
theorem dX5_answers_88 : decode cX5_answers 88 = .ok (.iload_n 1, 1) := by decide +kernel
theorem dX5_answers_89 : decode cX5_answers 89 = .ok (.iconst 2, 1) := by decide +kernel
theorem dX5_answers_90 : decode cX5_answers 90 = .ok (.if_icmp .le 19, 3) := by decide +kernel
theorem dX5_answers_93 : decode cX5_answers 93 = .ok (.aload_n 0, 1) := by decide +kernel
theorem dX5_answers_94 : decode cX5_answers 94 = .ok (.getfield 19, 3) := by decide +kernel
theorem dX5_answers_97 : decode cX5_answers 97 = .ok (.iload_n 3, 1) := by decide +kernel
theorem dX5_answers_98 : decode cX5_answers 98 = .ok (.iload_n 1, 1) := by decide +kernel
theorem dX5_answers_99 : decode cX5_answers 99 = .ok (.iadd, 1) := by decide +kernel
theorem dX5_answers_100 : decode cX5_answers 100 = .ok (.iconst 3, 1) := by decide +kernel
theorem dX5_answers_101 : decode cX5_answers 101 = .ok (.isub, 1) := by decide +kernel
theorem dX5_answers_102 : decode cX5_answers 102 = .ok (.aload_n 0, 1) := by decide +kernel
theorem dX5_answers_103 : decode cX5_answers 103 = .ok (.invokevirtual 89, 3) := by decide +kernel
theorem dX5_answers_106 : decode cX5_answers 106 = .ok (.irem, 1) := by decide +kernel
theorem dX5_answers_107 : decode cX5_answers 107 = .ok (.iaload, 1) := by decide +kernel
theorem dX5_answers_108 : decode cX5_answers 108 = .ok (.ireturn, 1) := by decide +kernel
theorem dX5_answers_109 : decode cX5_answers 109 = .ok (.iload_n 2, 1) := by decide +kernel
theorem dX5_answers_110 : decode cX5_answers 110 = .ok (.bipush 90, 2) := by decide +kernel
theorem dX5_answers_112 : decode cX5_answers 112 = .ok (.if_icmp .ne 44, 3) := by decide +kernel
theorem dX5_answers_115 : decode cX5_answers 115 = .ok (.iload_n 1, 1) := by decide +kernel
theorem dX5_answers_116 : decode cX5_answers 116 = .ok (.iconst 2, 1) := by decide +kernel
theorem dX5_answers_117 : decode cX5_answers 117 = .ok (.if_icmp .le 39, 3) := by decide +kernel
theorem dX5_answers_120 : decode cX5_answers 120 = .ok (.aload_n 0, 1) := by decide +kernel
theorem dX5_answers_121 : decode cX5_answers 121 = .ok (.getfield 19, 3) := by decide +kernel
theorem dX5_answers_124 : decode cX5_answers 124 = .ok (.sipush 301, 3) := by decide +kernel
theorem dX5_answers_127 : decode cX5_answers 127 = .ok (.iaload, 1) := by decide +kernel
theorem dX5_answers_128 : decode cX5_answers 128 = .ok (.iload_n 1, 1) := by decide +kernel
theorem dX5_answers_129 : decode cX5_answers 129 = .ok (.iadd, 1) := by decide +kernel
theorem dX5_answers_130 : decode cX5_answers 130 = .ok (.iconst 3, 1) := by decide +kernel
theorem dX5_answers_131 : decode cX5_answers 131 = .ok (.isub, 1) := by decide +kernel
theorem dX5_answers_132 : decode cX5_answers 132 = .ok (.bipush 8, 2) := by decide +kernel
theorem dX5_answers_134 : decode cX5_answers 134 = .ok (.if_icmp .ge 22, 3) := by decide +kernel
theorem dX5_answers_137 : decode cX5_answers 137 = .ok (.aload_n 0, 1) := by decide +kernel
theorem dX5_answers_138 : decode cX5_answers 138 = .ok (.aload_n 0, 1) := by decide +kernel
theorem dX5_answers_139 : decode cX5_answers 139 = .ok (.getfield 19, 3) := by decide +kernel
theorem dX5_answers_142 : decode cX5_answers 142 = .ok (.sipush 301, 3) := by decide +kernel
theorem dX5_answers_145 : decode cX5_answers 145 = .ok (.iaload, 1) := by decide +kernel
theorem dX5_answers_146 : decode cX5_answers 146 = .ok (.iload_n 1, 1) := by decide +kernel
theorem dX5_answers_147 : decode cX5_answers 147 = .ok (.iadd, 1) := by decide +kernel
theorem dX5_answers_148 : decode cX5_answers 148 = .ok (.iconst 3, 1) := by decide +kernel
theorem dX5_answers_149 : decode cX5_answers 149 = .ok (.isub, 1) := by decide +kernel
theorem dX5_answers_150 : decode cX5_answers 150 = .ok (.invokevirtual 95, 3) := by decide +kernel
theorem dX5_answers_153 : decode cX5_answers 153 = .ok (.goto 6, 3) := by decide +kernel
theorem dX5_answers_156 : decode cX5_answers 156 = .ok (.sipush 255, 3) := by decide +kernel
theorem dX5_answers_159 : decode cX5_answers 159 = .ok (.ireturn, 1) := by decide +kernel
theorem dX5_puts_0 : decode cX5_puts 0 = .ok (.aload_n 0, 1) := by decide +kernel
theorem dX5_puts_1 : decode cX5_puts 1 = .ok (.getfield 19, 3) := by decide +kernel
theorem dX5_puts_4 : decode cX5_puts 4 = .ok (.sipush 299, 3) := by decide +kernel
theorem dX5_puts_7 : decode cX5_puts 7 = .ok (.iaload, 1) := by decide +kernel
theorem dX5_puts_8 : decode cX5_puts 8 = .ok (.istore_n 2, 1) := by decide +kernel
theorem dX5_puts_9 : decode cX5_puts 9 = .ok (.aload_n 0, 1) := by decide +kernel
theorem dX5_puts_10 : decode cX5_puts 10 = .ok (.getfield 19, 3) := by decide +kernel
theorem dX5_puts_13 : decode cX5_puts 13 = .ok (.sipush 304, 3) := by decide +kernel
theorem dX5_puts_16 : decode cX5_puts 16 = .ok (.aload_n 0, 1) := by decide +kernel
theorem dX5_puts_17 : decode cX5_puts 17 = .ok (.getfield 19, 3) := by decide +kernel
theorem dX5_puts_20 : decode cX5_puts 20 = .ok (.sipush 304, 3) := by decide +kernel
theorem dX5_puts_23 : decode cX5_puts 23 = .ok (.iaload, 1) := by decide +kernel
theorem dX5_puts_24 : decode cX5_puts 24 = .ok (.bipush 8, 2) := by decide +kernel
theorem dX5_puts_26 : decode cX5_puts 26 = .ok (.aload_n 0, 1) := by decide +kernel
theorem dX5_puts_27 : decode cX5_puts 27 = .ok (.getfield 19, 3) := by decide +kernel
theorem dX5_puts_30 : decode cX5_puts 30 = .ok (.sipush 289, 3) := by decide +kernel
theorem dX5_puts_33 : decode cX5_puts 33 = .ok (.iaload, 1) := by decide +kernel
theorem dX5_puts_34 : decode cX5_puts 34 = .ok (.ishr, 1) := by decide +kernel
theorem dX5_puts_35 : decode cX5_puts 35 = .ok (.iadd, 1) := by decide +kernel
theorem dX5_puts_36 : decode cX5_puts 36 = .ok (.ldc 98, 2) := by decide +kernel
theorem dX5_puts_38 : decode cX5_puts 38 = .ok (.irem, 1) := by decide +kernel
theorem dX5_puts_39 : decode cX5_puts 39 = .ok (.iastore, 1) := by decide +kernel
theorem dX5_puts_40 : decode cX5_puts 40 = .ok (.iload_n 2, 1) := by decide +kernel
theorem dX5_puts_41 : decode cX5_puts 41 = .ok (.ifCond .ne 37, 3) := by decide +kernel
theorem dX5_puts_44 : decode cX5_puts 44 = .ok (.aload_n 0, 1) := by decide +kernel
theorem dX5_puts_45 : decode cX5_puts 45 = .ok (.getfield 19, 3) := by decide +kernel
theorem dX5_puts_48 : decode cX5_puts 48 = .ok (.sipush 300, 3) := by decide +kernel
theorem dX5_puts_51 : decode cX5_puts 51 = .ok (.iload_n 1, 1) := by decide +kernel
theorem dX5_puts_52 : decode cX5_puts 52 = .ok (.iastore, 1) := by decide +kernel
theorem dX5_puts_53 : decode cX5_puts 53 = .ok (.iconst 0, 1) := by decide +kernel
theorem dX5_puts_54 : decode cX5_puts 54 = .ok (.istore_n 3, 1) := by decide +kernel
theorem dX5_puts_55 : decode cX5_puts 55 = .ok (.iload_n 3, 1) := by decide +kernel
theorem dX5_puts_56 : decode cX5_puts 56 = .ok (.bipush 16, 2) := by decide +kernel
theorem dX5_puts_58 : decode cX5_puts 58 = .ok (.if_icmp .ge 20, 3) := by decide +kernel
theorem dX5_puts_61 : decode cX5_puts 61 = .ok (.aload_n 0, 1) := by decide +kernel
theorem dX5_puts_62 : decode cX5_puts 62 = .ok (.getfield 19, 3) := by decide +kernel
theorem dX5_puts_65 : decode cX5_puts 65 = .ok (.sipush 272, 3) := by decide +kernel
theorem dX5_puts_68 : decode cX5_puts 68 = .ok (.iload_n 3, 1) := by decide +kernel
theorem dX5_puts_69 : decode cX5_puts 69 = .ok (.iadd, 1) := by decide +kernel
theorem dX5_puts_70 : decode cX5_puts 70 = .ok (.iconst 0, 1) := by decide +kernel
theorem dX5_puts_71 : decode cX5_puts 71 = .ok (.iastore, 1) := by decide +kernel
theorem dX5_puts_72 : decode cX5_puts 72 = .ok (.iinc 3 1, 3) := by decide +kernel
theorem dX5_puts_75 : decode cX5_puts 75 = .ok (.goto (-20), 3) := by decide +kernel
theorem dX5_puts_78 : decode cX5_puts 78 = .ok (.aload_n 0, 1) := by decide +kernel
theorem dX5_puts_79 : decode cX5_puts 79 = .ok (.getfield 19, 3) := by decide +kernel
theorem dX5_puts_82 : decode cX5_puts 82 = .ok (.sipush 301, 3) := by decide +kernel
theorem dX5_puts_85 : decode cX5_puts 85 = .ok (.iload_n 2, 1) := by decide +kernel
theorem dX5_puts_86 : decode cX5_puts 86 = .ok (.iconst 1, 1) := by decide +kernel
theorem dX5_puts_87 : decode cX5_puts 87 = .ok (.if_icmp .ne 7, 3) := by decide +kernel
theorem dX5_puts_90 : decode cX5_puts 90 = .ok (.iload_n 1, 1) := by decide +kernel
theorem dX5_puts_91 : decode cX5_puts 91 = .ok (.goto 11, 3) := by decide +kernel
theorem dX5_puts_94 : decode cX5_puts 94 = .ok (.aload_n 0, 1) := by decide +kernel
theorem dX5_puts_95 : decode cX5_puts 95 = .ok (.getfield 19, 3) := by decide +kernel
theorem dX5_puts_98 : decode cX5_puts 98 = .ok (.sipush 301, 3) := by decide +kernel
theorem dX5_puts_101 : decode cX5_puts 101 = .ok (.iaload, 1) := by decide +kernel
theorem dX5_puts_102 : decode cX5_puts 102 = .ok (.iastore, 1) := by decide +kernel
theorem dX5_puts_103 : decode cX5_puts 103 = .ok (.iload_n 2, 1) := by decide +kernel
theorem dX5_puts_104 : decode cX5_puts 104 = .ok (.iconst 1, 1) := by decide +kernel
theorem dX5_puts_105 : decode cX5_puts 105 = .ok (.if_icmp .le 50, 3) := by decide +kernel
theorem dX5_puts_108 : decode cX5_puts 108 = .ok (.aload_n 0, 1) := by decide +kernel
theorem dX5_puts_109 : decode cX5_puts 109 = .ok (.getfield 19, 3) := by decide +kernel
theorem dX5_puts_112 : decode cX5_puts 112 = .ok (.sipush 301, 3) := by decide +kernel
theorem dX5_puts_115 : decode cX5_puts 115 = .ok (.iaload, 1) := by decide +kernel
theorem dX5_puts_116 : decode cX5_puts 116 = .ok (.aload_n 0, 1) := by decide +kernel
theorem dX5_puts_117 : decode cX5_puts 117 = .ok (.invokevirtual 89, 3) := by decide +kernel
theorem dX5_puts_120 : decode cX5_puts 120 = .ok (.irem, 1) := by decide +kernel
theorem dX5_puts_121 : decode cX5_puts 121 = .ok (.iload_n 2, 1) := by decide +kernel
theorem dX5_puts_122 : decode cX5_puts 122 = .ok (.iadd, 1) := by decide +kernel
theorem dX5_puts_123 : decode cX5_puts 123 = .ok (.iconst 2, 1) := by decide +kernel
theorem dX5_puts_124 : decode cX5_puts 124 = .ok (.isub, 1) := by decide +kernel
theorem dX5_puts_125 : decode cX5_puts 125 = .ok (.aload_n 0, 1) := by decide +kernel
theorem dX5_puts_126 : decode cX5_puts 126 = .ok (.getfield 13, 3) := by decide +kernel
theorem dX5_puts_129 : decode cX5_puts 129 = .ok (.iconst 0, 1) := by decide +kernel
theorem dX5_puts_130 : decode cX5_puts 130 = .ok (.iaload, 1) := by decide +kernel
theorem dX5_puts_131 : decode cX5_puts 131 = .ok (.irem, 1) := by decide +kernel
theorem dX5_puts_132 : decode cX5_puts 132 = .ok (.istore_n 3, 1) := by decide +kernel
theorem dX5_puts_133 : decode cX5_puts 133 = .ok (.aload_n 0, 1) := by decide +kernel
theorem dX5_puts_134 : decode cX5_puts 134 = .ok (.getfield 19, 3) := by decide +kernel
theorem dX5_puts_137 : decode cX5_puts 137 = .ok (.sipush 256, 3) := by decide +kernel
theorem dX5_puts_140 : decode cX5_puts 140 = .ok (.iload_n 3, 1) := by decide +kernel
theorem dX5_puts_141 : decode cX5_puts 141 = .ok (.iadd, 1) := by decide +kernel
theorem dX5_puts_142 : decode cX5_puts 142 = .ok (.iload_n 1, 1) := by decide +kernel
theorem dX5_puts_143 : decode cX5_puts 143 = .ok (.iastore, 1) := by decide +kernel
theorem dX5_puts_144 : decode cX5_puts 144 = .ok (.aload_n 0, 1) := by decide +kernel
theorem dX5_puts_145 : decode cX5_puts 145 = .ok (.getfield 19, 3) := by decide +kernel
theorem dX5_puts_148 : decode cX5_puts 148 = .ok (.sipush 272, 3) := by decide +kernel
theorem dX5_puts_151 : decode cX5_puts 151 = .ok (.iload_n 3, 1) := by decide +kernel
theorem dX5_puts_152 : decode cX5_puts 152 = .ok (.iadd, 1) := by decide +kernel
theorem dX5_puts_153 : decode cX5_puts 153 = .ok (.iconst 1, 1) := by decide +kernel
theorem dX5_puts_154 : decode cX5_puts 154 = .ok (.iastore, 1) := by decide +kernel
theorem dX5_puts_155 : decode cX5_puts 155 = .ok (.aload_n 0, 1) := by decide +kernel
theorem dX5_puts_156 : decode cX5_puts 156 = .ok (.iload_n 2, 1) := by decide +kernel
theorem dX5_puts_157 : decode cX5_puts 157 = .ok (.invokevirtual 99, 3) := by decide +kernel
theorem dX5_puts_160 : decode cX5_puts 160 = .ok (.istore_n 3, 1) := by decide +kernel
theorem dX5_puts_161 : decode cX5_puts 161 = .ok (.aload_n 0, 1) := by decide +kernel
theorem dX5_puts_162 : decode cX5_puts 162 = .ok (.getfield 19, 3) := by decide +kernel
theorem dX5_puts_165 : decode cX5_puts 165 = .ok (.sipush 302, 3) := by decide +kernel
theorem dX5_puts_168 : decode cX5_puts 168 = .ok (.iload_n 1, 1) := by decide +kernel
theorem dX5_puts_169 : decode cX5_puts 169 = .ok (.iastore, 1) := by decide +kernel
theorem dX5_puts_170 : decode cX5_puts 170 = .ok (.aload_n 0, 1) := by decide +kernel
theorem dX5_puts_171 : decode cX5_puts 171 = .ok (.getfield 19, 3) := by decide +kernel
theorem dX5_puts_174 : decode cX5_puts 174 = .ok (.sipush 299, 3) := by decide +kernel
theorem dX5_puts_177 : decode cX5_puts 177 = .ok (.dup2, 1) := by decide +kernel
theorem dX5_puts_178 : decode cX5_puts 178 = .ok (.iaload, 1) := by decide +kernel
theorem dX5_puts_179 : decode cX5_puts 179 = .ok (.iconst 1, 1) := by decide +kernel
theorem dX5_puts_180 : decode cX5_puts 180 = .ok (.iadd, 1) := by decide +kernel
theorem dX5_puts_181 : decode cX5_puts 181 = .ok (.iastore, 1) := by decide +kernel
theorem dX5_puts_182 : decode cX5_puts 182 = .ok (.iload_n 3, 1) := by decide +kernel
theorem dX5_puts_183 : decode cX5_puts 183 = .ok (.ireturn, 1) := by decide +kernel
theorem dX5_put_0 : decode cX5_put 0 = .ok (.iload_n 1, 1) := by decide +kernel
theorem dX5_put_1 : decode cX5_put 1 = .ok (.i2l, 1) := by decide +kernel
theorem dX5_put_2 : decode cX5_put 2 = .ok (.lconst 0, 1) := by decide +kernel
theorem dX5_put_3 : decode cX5_put 3 = .ok (.ldc2_w 102, 3) := by decide +kernel
theorem dX5_put_6 : decode cX5_put 6 = .ok (.invokestatic 40, 3) := by decide +kernel
theorem dX5_put_9 : decode cX5_put 9 = .ok (.ifCond .ne 5, 3) := by decide +kernel
theorem dX5_put_12 : decode cX5_put 12 = .ok (.iconst (-1), 1) := by decide +kernel
theorem dX5_put_13 : decode cX5_put 13 = .ok (.ireturn, 1) := by decide +kernel
theorem dX5_put_14 : decode cX5_put 14 = .ok (.aload_n 0, 1) := by decide +kernel
theorem dX5_put_15 : decode cX5_put 15 = .ok (.getfield 19, 3) := by decide +kernel
theorem dX5_put_18 : decode cX5_put 18 = .ok (.sipush 298, 3) := by decide +kernel
theorem dX5_put_21 : decode cX5_put 21 = .ok (.iaload, 1) := by decide +kernel
theorem dX5_put_22 : decode cX5_put 22 = .ok (.ifCond .ne 8, 3) := by decide +kernel
theorem dX5_put_25 : decode cX5_put 25 = .ok (.bipush (-2), 2) := by decide +kernel
theorem dX5_put_27 : decode cX5_put 27 = .ok (.goto 8, 3) := by decide +kernel
theorem dX5_put_30 : decode cX5_put 30 = .ok (.aload_n 0, 1) := by decide +kernel
theorem dX5_put_31 : decode cX5_put 31 = .ok (.iload_n 1, 1) := by decide +kernel
theorem dX5_put_32 : decode cX5_put 32 = .ok (.invokevirtual 104, 3) := by decide +kernel
theorem dX5_put_35 : decode cX5_put 35 = .ok (.ireturn, 1) := by decide +kernel
theorem dX5_begins_0 : decode cX5_begins 0 = .ok (.aload_n 0, 1) := by decide +kernel
theorem dX5_begins_1 : decode cX5_begins 1 = .ok (.getfield 19, 3) := by decide +kernel
theorem dX5_begins_4 : decode cX5_begins 4 = .ok (.sipush 293, 3) := by decide +kernel
theorem dX5_begins_7 : decode cX5_begins 7 = .ok (.iload_n 1, 1) := by decide +kernel
theorem dX5_begins_8 : decode cX5_begins 8 = .ok (.iastore, 1) := by decide +kernel
theorem dX5_begins_9 : decode cX5_begins 9 = .ok (.aload_n 0, 1) := by decide +kernel
theorem dX5_begins_10 : decode cX5_begins 10 = .ok (.getfield 19, 3) := by decide +kernel
theorem dX5_begins_13 : decode cX5_begins 13 = .ok (.sipush 294, 3) := by decide +kernel
theorem dX5_begins_16 : decode cX5_begins 16 = .ok (.iload_n 2, 1) := by decide +kernel
theorem dX5_begins_17 : decode cX5_begins 17 = .ok (.iastore, 1) := by decide +kernel
theorem dX5_begins_18 : decode cX5_begins 18 = .ok (.aload_n 0, 1) := by decide +kernel
theorem dX5_begins_19 : decode cX5_begins 19 = .ok (.getfield 19, 3) := by decide +kernel
theorem dX5_begins_22 : decode cX5_begins 22 = .ok (.sipush 295, 3) := by decide +kernel
theorem dX5_begins_25 : decode cX5_begins 25 = .ok (.iload_n 3, 1) := by decide +kernel
theorem dX5_begins_26 : decode cX5_begins 26 = .ok (.iastore, 1) := by decide +kernel
theorem dX5_begins_27 : decode cX5_begins 27 = .ok (.aload_n 0, 1) := by decide +kernel
theorem dX5_begins_28 : decode cX5_begins 28 = .ok (.getfield 19, 3) := by decide +kernel
theorem dX5_begins_31 : decode cX5_begins 31 = .ok (.sipush 305, 3) := by decide +kernel
theorem dX5_begins_34 : decode cX5_begins 34 = .ok (.dup2, 1) := by decide +kernel
theorem dX5_begins_35 : decode cX5_begins 35 = .ok (.iaload, 1) := by decide +kernel
theorem dX5_begins_36 : decode cX5_begins 36 = .ok (.iconst 1, 1) := by decide +kernel
theorem dX5_begins_37 : decode cX5_begins 37 = .ok (.iadd, 1) := by decide +kernel
theorem dX5_begins_38 : decode cX5_begins 38 = .ok (.iastore, 1) := by decide +kernel
theorem dX5_begins_39 : decode cX5_begins 39 = .ok (.return_, 1) := by decide +kernel
theorem dX5_anyGuarded_0 : decode cX5_anyGuarded 0 = .ok (.iconst 0, 1) := by decide +kernel
theorem dX5_anyGuarded_1 : decode cX5_anyGuarded 1 = .ok (.istore_n 1, 1) := by decide +kernel
theorem dX5_anyGuarded_2 : decode cX5_anyGuarded 2 = .ok (.iconst 0, 1) := by decide +kernel
theorem dX5_anyGuarded_3 : decode cX5_anyGuarded 3 = .ok (.istore_n 2, 1) := by decide +kernel
theorem dX5_anyGuarded_4 : decode cX5_anyGuarded 4 = .ok (.iload_n 2, 1) := by decide +kernel
theorem dX5_anyGuarded_5 : decode cX5_anyGuarded 5 = .ok (.aload_n 0, 1) := by decide +kernel
theorem dX5_anyGuarded_6 : decode cX5_anyGuarded 6 = .ok (.getfield 13, 3) := by decide +kernel
theorem dX5_anyGuarded_9 : decode cX5_anyGuarded 9 = .ok (.iconst 2, 1) := by decide +kernel
theorem dX5_anyGuarded_10 : decode cX5_anyGuarded 10 = .ok (.iaload, 1) := by decide +kernel
theorem dX5_anyGuarded_11 : decode cX5_anyGuarded 11 = .ok (.if_icmp .ge 27, 3) := by decide +kernel
theorem dX5_anyGuarded_14 : decode cX5_anyGuarded 14 = .ok (.iload_n 1, 1) := by decide +kernel
theorem dX5_anyGuarded_15 : decode cX5_anyGuarded 15 = .ok (.ifCond .ne 11, 3) := by decide +kernel
theorem dX5_anyGuarded_18 : decode cX5_anyGuarded 18 = .ok (.aload_n 0, 1) := by decide +kernel
theorem dX5_anyGuarded_19 : decode cX5_anyGuarded 19 = .ok (.iload_n 2, 1) := by decide +kernel
theorem dX5_anyGuarded_20 : decode cX5_anyGuarded 20 = .ok (.invokevirtual 107, 3) := by decide +kernel
theorem dX5_anyGuarded_23 : decode cX5_anyGuarded 23 = .ok (.ifCond .eq 7, 3) := by decide +kernel
theorem dX5_anyGuarded_26 : decode cX5_anyGuarded 26 = .ok (.iconst 1, 1) := by decide +kernel
theorem dX5_anyGuarded_27 : decode cX5_anyGuarded 27 = .ok (.goto 4, 3) := by decide +kernel
theorem dX5_anyGuarded_30 : decode cX5_anyGuarded 30 = .ok (.iconst 0, 1) := by decide +kernel
theorem dX5_anyGuarded_31 : decode cX5_anyGuarded 31 = .ok (.istore_n 1, 1) := by decide +kernel
theorem dX5_anyGuarded_32 : decode cX5_anyGuarded 32 = .ok (.iinc 2 1, 3) := by decide +kernel
theorem dX5_anyGuarded_35 : decode cX5_anyGuarded 35 = .ok (.goto (-31), 3) := by decide +kernel
theorem dX5_anyGuarded_38 : decode cX5_anyGuarded 38 = .ok (.iload_n 1, 1) := by decide +kernel
theorem dX5_anyGuarded_39 : decode cX5_anyGuarded 39 = .ok (.ireturn, 1) := by decide +kernel
theorem dX5_isRefused_0 : decode cX5_isRefused 0 = .ok (.aload_n 0, 1) := by decide +kernel
theorem dX5_isRefused_1 : decode cX5_isRefused 1 = .ok (.getfield 19, 3) := by decide +kernel
theorem dX5_isRefused_4 : decode cX5_isRefused 4 = .ok (.sipush 301, 3) := by decide +kernel
theorem dX5_isRefused_7 : decode cX5_isRefused 7 = .ok (.iaload, 1) := by decide +kernel
theorem dX5_isRefused_8 : decode cX5_isRefused 8 = .ok (.aload_n 0, 1) := by decide +kernel
theorem dX5_isRefused_9 : decode cX5_isRefused 9 = .ok (.invokevirtual 89, 3) := by decide +kernel
theorem dX5_isRefused_12 : decode cX5_isRefused 12 = .ok (.irem, 1) := by decide +kernel
theorem dX5_isRefused_13 : decode cX5_isRefused 13 = .ok (.istore_n 2, 1) := by decide +kernel
theorem dX5_isRefused_14 : decode cX5_isRefused 14 = .ok (.iload_n 2, 1) := by decide +kernel
theorem dX5_isRefused_15 : decode cX5_isRefused 15 = .ok (.aload_n 0, 1) := by decide +kernel
theorem dX5_isRefused_16 : decode cX5_isRefused 16 = .ok (.invokevirtual 110, 3) := by decide +kernel
theorem dX5_isRefused_19 : decode cX5_isRefused 19 = .ok (.idiv, 1) := by decide +kernel
theorem dX5_isRefused_20 : decode cX5_isRefused 20 = .ok (.istore_n 3, 1) := by decide +kernel
theorem dX5_isRefused_21 : decode cX5_isRefused 21 = .ok (.iload_n 1, 1) := by decide +kernel
theorem dX5_isRefused_22 : decode cX5_isRefused 22 = .ok (.iconst 1, 1) := by decide +kernel
theorem dX5_isRefused_23 : decode cX5_isRefused 23 = .ok (.if_icmp .ne 39, 3) := by decide +kernel
theorem dX5_isRefused_26 : decode cX5_isRefused 26 = .ok (.aload_n 0, 1) := by decide +kernel
theorem dX5_isRefused_27 : decode cX5_isRefused 27 = .ok (.getfield 19, 3) := by decide +kernel
theorem dX5_isRefused_30 : decode cX5_isRefused 30 = .ok (.sipush 296, 3) := by decide +kernel
theorem dX5_isRefused_33 : decode cX5_isRefused 33 = .ok (.iaload, 1) := by decide +kernel
theorem dX5_isRefused_34 : decode cX5_isRefused 34 = .ok (.ifCond .le 5, 3) := by decide +kernel
theorem dX5_isRefused_37 : decode cX5_isRefused 37 = .ok (.iconst 1, 1) := by decide +kernel
theorem dX5_isRefused_38 : decode cX5_isRefused 38 = .ok (.ireturn, 1) := by decide +kernel
theorem dX5_isRefused_39 : decode cX5_isRefused 39 = .ok (.aload_n 0, 1) := by decide +kernel
theorem dX5_isRefused_40 : decode cX5_isRefused 40 = .ok (.getfield 19, 3) := by decide +kernel
theorem dX5_isRefused_43 : decode cX5_isRefused 43 = .ok (.sipush 292, 3) := by decide +kernel
theorem dX5_isRefused_46 : decode cX5_isRefused 46 = .ok (.aload_n 0, 1) := by decide +kernel
theorem dX5_isRefused_47 : decode cX5_isRefused 47 = .ok (.getfield 19, 3) := by decide +kernel
theorem dX5_isRefused_50 : decode cX5_isRefused 50 = .ok (.sipush 302, 3) := by decide +kernel
theorem dX5_isRefused_53 : decode cX5_isRefused 53 = .ok (.iaload, 1) := by decide +kernel
theorem dX5_isRefused_54 : decode cX5_isRefused 54 = .ok (.iconst 4, 1) := by decide +kernel
theorem dX5_isRefused_55 : decode cX5_isRefused 55 = .ok (.idiv, 1) := by decide +kernel
theorem dX5_isRefused_56 : decode cX5_isRefused 56 = .ok (.bipush 8, 2) := by decide +kernel
theorem dX5_isRefused_58 : decode cX5_isRefused 58 = .ok (.irem, 1) := by decide +kernel
theorem dX5_isRefused_59 : decode cX5_isRefused 59 = .ok (.iastore, 1) := by decide +kernel
theorem dX5_isRefused_60 : decode cX5_isRefused 60 = .ok (.iconst 0, 1) := by decide +kernel
theorem dX5_isRefused_61 : decode cX5_isRefused 61 = .ok (.ireturn, 1) := by decide +kernel
theorem dX5_isRefused_62 : decode cX5_isRefused 62 = .ok (.iload_n 1, 1) := by decide +kernel
theorem dX5_isRefused_63 : decode cX5_isRefused 63 = .ok (.sipush 199, 3) := by decide +kernel
theorem dX5_isRefused_66 : decode cX5_isRefused 66 = .ok (.if_icmp .ne 44, 3) := by decide +kernel
theorem dX5_isRefused_69 : decode cX5_isRefused 69 = .ok (.aload_n 0, 1) := by decide +kernel
theorem dX5_isRefused_70 : decode cX5_isRefused 70 = .ok (.getfield 19, 3) := by decide +kernel
theorem dX5_isRefused_73 : decode cX5_isRefused 73 = .ok (.sipush 296, 3) := by decide +kernel
theorem dX5_isRefused_76 : decode cX5_isRefused 76 = .ok (.iaload, 1) := by decide +kernel
theorem dX5_isRefused_77 : decode cX5_isRefused 77 = .ok (.ifCond .gt 10, 3) := by decide +kernel
theorem dX5_isRefused_80 : decode cX5_isRefused 80 = .ok (.aload_n 0, 1) := by decide +kernel
theorem dX5_isRefused_81 : decode cX5_isRefused 81 = .ok (.invokevirtual 113, 3) := by decide +kernel
theorem dX5_isRefused_84 : decode cX5_isRefused 84 = .ok (.ifCond .eq 5, 3) := by decide +kernel
theorem dX5_isRefused_87 : decode cX5_isRefused 87 = .ok (.iconst 1, 1) := by decide +kernel
theorem dX5_isRefused_88 : decode cX5_isRefused 88 = .ok (.ireturn, 1) := by decide +kernel
theorem dX5_isRefused_89 : decode cX5_isRefused 89 = .ok (.aload_n 0, 1) := by decide +kernel
theorem dX5_isRefused_90 : decode cX5_isRefused 90 = .ok (.iconst 3, 1) := by decide +kernel
theorem dX5_isRefused_91 : decode cX5_isRefused 91 = .ok (.iconst 0, 1) := by decide +kernel
theorem dX5_isRefused_92 : decode cX5_isRefused 92 = .ok (.aload_n 0, 1) := by decide +kernel
theorem dX5_isRefused_93 : decode cX5_isRefused 93 = .ok (.getfield 13, 3) := by decide +kernel
theorem dX5_isRefused_96 : decode cX5_isRefused 96 = .ok (.iconst 4, 1) := by decide +kernel
theorem dX5_isRefused_97 : decode cX5_isRefused 97 = .ok (.iaload, 1) := by decide +kernel
theorem dX5_isRefused_98 : decode cX5_isRefused 98 = .ok (.aload_n 0, 1) := by decide +kernel
theorem dX5_isRefused_99 : decode cX5_isRefused 99 = .ok (.getfield 13, 3) := by decide +kernel
theorem dX5_isRefused_102 : decode cX5_isRefused 102 = .ok (.iconst 2, 1) := by decide +kernel
theorem dX5_isRefused_103 : decode cX5_isRefused 103 = .ok (.iaload, 1) := by decide +kernel
theorem dX5_isRefused_104 : decode cX5_isRefused 104 = .ok (.imul, 1) := by decide +kernel
theorem dX5_isRefused_105 : decode cX5_isRefused 105 = .ok (.invokevirtual 116, 3) := by decide +kernel
theorem dX5_isRefused_108 : decode cX5_isRefused 108 = .ok (.iconst 0, 1) := by decide +kernel
theorem dX5_isRefused_109 : decode cX5_isRefused 109 = .ok (.ireturn, 1) := by decide +kernel
theorem dX5_isRefused_110 : decode cX5_isRefused 110 = .ok (.aload_n 0, 1) := by decide +kernel
theorem dX5_isRefused_111 : decode cX5_isRefused 111 = .ok (.iload_n 3, 1) := by decide +kernel
theorem dX5_isRefused_112 : decode cX5_isRefused 112 = .ok (.invokevirtual 107, 3) := by decide +kernel
theorem dX5_isRefused_115 : decode cX5_isRefused 115 = .ok (.ifCond .ne 34, 3) := by decide +kernel
theorem dX5_isRefused_118 : decode cX5_isRefused 118 = .ok (.aload_n 0, 1) := by decide +kernel
theorem dX5_isRefused_119 : decode cX5_isRefused 119 = .ok (.getfield 19, 3) := by decide +kernel
theorem dX5_isRefused_122 : decode cX5_isRefused 122 = .ok (.sipush 296, 3) := by decide +kernel
theorem dX5_isRefused_125 : decode cX5_isRefused 125 = .ok (.iaload, 1) := by decide +kernel
theorem dX5_isRefused_126 : decode cX5_isRefused 126 = .ok (.ifCond .le 25, 3) := by decide +kernel
theorem dX5_isRefused_129 : decode cX5_isRefused 129 = .ok (.iload_n 1, 1) := by decide +kernel
theorem dX5_isRefused_130 : decode cX5_isRefused 130 = .ok (.bipush 32, 2) := by decide +kernel
theorem dX5_isRefused_132 : decode cX5_isRefused 132 = .ok (.if_icmp .eq 17, 3) := by decide +kernel
theorem dX5_isRefused_135 : decode cX5_isRefused 135 = .ok (.aload_n 0, 1) := by decide +kernel
theorem dX5_isRefused_136 : decode cX5_isRefused 136 = .ok (.getfield 19, 3) := by decide +kernel
theorem dX5_isRefused_139 : decode cX5_isRefused 139 = .ok (.sipush 296, 3) := by decide +kernel
theorem dX5_isRefused_142 : decode cX5_isRefused 142 = .ok (.iaload, 1) := by decide +kernel
theorem dX5_isRefused_143 : decode cX5_isRefused 143 = .ok (.iconst 1, 1) := by decide +kernel
theorem dX5_isRefused_144 : decode cX5_isRefused 144 = .ok (.isub, 1) := by decide +kernel
theorem dX5_isRefused_145 : decode cX5_isRefused 145 = .ok (.iload_n 3, 1) := by decide +kernel
theorem dX5_isRefused_146 : decode cX5_isRefused 146 = .ok (.if_icmp .ne 5, 3) := by decide +kernel
theorem dX5_isRefused_149 : decode cX5_isRefused 149 = .ok (.iconst 1, 1) := by decide +kernel
theorem dX5_isRefused_150 : decode cX5_isRefused 150 = .ok (.ireturn, 1) := by decide +kernel
theorem dX5_isRefused_151 : decode cX5_isRefused 151 = .ok (.iload_n 1, 1) := by decide +kernel
theorem dX5_isRefused_152 : decode cX5_isRefused 152 = .ok (.bipush 32, 2) := by decide +kernel
theorem dX5_isRefused_154 : decode cX5_isRefused 154 = .ok (.if_icmp .ne 17, 3) := by decide +kernel
theorem dX5_isRefused_157 : decode cX5_isRefused 157 = .ok (.aload_n 0, 1) := by decide +kernel
theorem dX5_isRefused_158 : decode cX5_isRefused 158 = .ok (.iconst 2, 1) := by decide +kernel
theorem dX5_isRefused_159 : decode cX5_isRefused 159 = .ok (.iload_n 3, 1) := by decide +kernel
theorem dX5_isRefused_160 : decode cX5_isRefused 160 = .ok (.aload_n 0, 1) := by decide +kernel
theorem dX5_isRefused_161 : decode cX5_isRefused 161 = .ok (.getfield 13, 3) := by decide +kernel
theorem dX5_isRefused_164 : decode cX5_isRefused 164 = .ok (.iconst 4, 1) := by decide +kernel
theorem dX5_isRefused_165 : decode cX5_isRefused 165 = .ok (.iaload, 1) := by decide +kernel
theorem dX5_isRefused_166 : decode cX5_isRefused 166 = .ok (.invokevirtual 116, 3) := by decide +kernel
theorem dX5_isRefused_169 : decode cX5_isRefused 169 = .ok (.iconst 0, 1) := by decide +kernel
theorem dX5_isRefused_170 : decode cX5_isRefused 170 = .ok (.ireturn, 1) := by decide +kernel
theorem dX5_isRefused_171 : decode cX5_isRefused 171 = .ok (.iconst 0, 1) := by decide +kernel
theorem dX5_isRefused_172 : decode cX5_isRefused 172 = .ok (.istore 4, 2) := by decide +kernel
theorem dX5_isRefused_174 : decode cX5_isRefused 174 = .ok (.iload 4, 2) := by decide +kernel
theorem dX5_isRefused_176 : decode cX5_isRefused 176 = .ok (.aload_n 0, 1) := by decide +kernel
theorem dX5_isRefused_177 : decode cX5_isRefused 177 = .ok (.getfield 13, 3) := by decide +kernel
theorem dX5_isRefused_180 : decode cX5_isRefused 180 = .ok (.iconst 0, 1) := by decide +kernel
theorem dX5_isRefused_181 : decode cX5_isRefused 181 = .ok (.iaload, 1) := by decide +kernel
theorem dX5_isRefused_182 : decode cX5_isRefused 182 = .ok (.if_icmp .ge 80, 3) := by decide +kernel
theorem dX5_isRefused_185 : decode cX5_isRefused 185 = .ok (.iload_n 2, 1) := by decide +kernel
theorem dX5_isRefused_186 : decode cX5_isRefused 186 = .ok (.aload_n 0, 1) := by decide +kernel
theorem dX5_isRefused_187 : decode cX5_isRefused 187 = .ok (.getfield 13, 3) := by decide +kernel
theorem dX5_isRefused_190 : decode cX5_isRefused 190 = .ok (.iconst 0, 1) := by decide +kernel
theorem dX5_isRefused_191 : decode cX5_isRefused 191 = .ok (.iaload, 1) := by decide +kernel
theorem dX5_isRefused_192 : decode cX5_isRefused 192 = .ok (.idiv, 1) := by decide +kernel
theorem dX5_isRefused_193 : decode cX5_isRefused 193 = .ok (.aload_n 0, 1) := by decide +kernel
theorem dX5_isRefused_194 : decode cX5_isRefused 194 = .ok (.getfield 13, 3) := by decide +kernel
theorem dX5_isRefused_197 : decode cX5_isRefused 197 = .ok (.iconst 0, 1) := by decide +kernel
theorem dX5_isRefused_198 : decode cX5_isRefused 198 = .ok (.iaload, 1) := by decide +kernel
theorem dX5_isRefused_199 : decode cX5_isRefused 199 = .ok (.imul, 1) := by decide +kernel
theorem dX5_isRefused_200 : decode cX5_isRefused 200 = .ok (.iload 4, 2) := by decide +kernel
theorem dX5_isRefused_202 : decode cX5_isRefused 202 = .ok (.iadd, 1) := by decide +kernel
theorem dX5_isRefused_203 : decode cX5_isRefused 203 = .ok (.istore 5, 2) := by decide +kernel
theorem dX5_isRefused_205 : decode cX5_isRefused 205 = .ok (.aload_n 0, 1) := by decide +kernel
theorem dX5_isRefused_206 : decode cX5_isRefused 206 = .ok (.getfield 19, 3) := by decide +kernel
theorem dX5_isRefused_209 : decode cX5_isRefused 209 = .ok (.iload 5, 2) := by decide +kernel
theorem dX5_isRefused_211 : decode cX5_isRefused 211 = .ok (.aload_n 0, 1) := by decide +kernel
theorem dX5_isRefused_212 : decode cX5_isRefused 212 = .ok (.getfield 19, 3) := by decide +kernel
theorem dX5_isRefused_215 : decode cX5_isRefused 215 = .ok (.sipush 272, 3) := by decide +kernel
theorem dX5_isRefused_218 : decode cX5_isRefused 218 = .ok (.iload 4, 2) := by decide +kernel
theorem dX5_isRefused_220 : decode cX5_isRefused 220 = .ok (.iadd, 1) := by decide +kernel
theorem dX5_isRefused_221 : decode cX5_isRefused 221 = .ok (.iaload, 1) := by decide +kernel
theorem dX5_isRefused_222 : decode cX5_isRefused 222 = .ok (.iconst 1, 1) := by decide +kernel
theorem dX5_isRefused_223 : decode cX5_isRefused 223 = .ok (.if_icmp .ne 25, 3) := by decide +kernel
theorem dX5_isRefused_226 : decode cX5_isRefused 226 = .ok (.aload_n 0, 1) := by decide +kernel
theorem dX5_isRefused_227 : decode cX5_isRefused 227 = .ok (.getfield 19, 3) := by decide +kernel
theorem dX5_isRefused_230 : decode cX5_isRefused 230 = .ok (.iload 5, 2) := by decide +kernel
theorem dX5_isRefused_232 : decode cX5_isRefused 232 = .ok (.iaload, 1) := by decide +kernel
theorem dX5_isRefused_233 : decode cX5_isRefused 233 = .ok (.aload_n 0, 1) := by decide +kernel
theorem dX5_isRefused_234 : decode cX5_isRefused 234 = .ok (.getfield 19, 3) := by decide +kernel
theorem dX5_isRefused_237 : decode cX5_isRefused 237 = .ok (.sipush 256, 3) := by decide +kernel
theorem dX5_isRefused_240 : decode cX5_isRefused 240 = .ok (.iload 4, 2) := by decide +kernel
theorem dX5_isRefused_242 : decode cX5_isRefused 242 = .ok (.iadd, 1) := by decide +kernel
theorem dX5_isRefused_243 : decode cX5_isRefused 243 = .ok (.iaload, 1) := by decide +kernel
theorem dX5_isRefused_244 : decode cX5_isRefused 244 = .ok (.iand, 1) := by decide +kernel
theorem dX5_isRefused_245 : decode cX5_isRefused 245 = .ok (.goto 10, 3) := by decide +kernel
theorem dX5_isRefused_248 : decode cX5_isRefused 248 = .ok (.aload_n 0, 1) := by decide +kernel
theorem dX5_isRefused_249 : decode cX5_isRefused 249 = .ok (.getfield 19, 3) := by decide +kernel
theorem dX5_isRefused_252 : decode cX5_isRefused 252 = .ok (.iload 5, 2) := by decide +kernel
theorem dX5_isRefused_254 : decode cX5_isRefused 254 = .ok (.iaload, 1) := by decide +kernel
theorem dX5_isRefused_255 : decode cX5_isRefused 255 = .ok (.iastore, 1) := by decide +kernel
theorem dX5_isRefused_256 : decode cX5_isRefused 256 = .ok (.iinc 4 1, 3) := by decide +kernel
theorem dX5_isRefused_259 : decode cX5_isRefused 259 = .ok (.goto (-85), 3) := by decide +kernel
theorem dX5_isRefused_262 : decode cX5_isRefused 262 = .ok (.aload_n 0, 1) := by decide +kernel
theorem dX5_isRefused_263 : decode cX5_isRefused 263 = .ok (.iconst 1, 1) := by decide +kernel
theorem dX5_isRefused_264 : decode cX5_isRefused 264 = .ok (.iload_n 3, 1) := by decide +kernel
theorem dX5_isRefused_265 : decode cX5_isRefused 265 = .ok (.aload_n 0, 1) := by decide +kernel
theorem dX5_isRefused_266 : decode cX5_isRefused 266 = .ok (.getfield 13, 3) := by decide +kernel
theorem dX5_isRefused_269 : decode cX5_isRefused 269 = .ok (.iconst 3, 1) := by decide +kernel
theorem dX5_isRefused_270 : decode cX5_isRefused 270 = .ok (.iaload, 1) := by decide +kernel
theorem dX5_isRefused_271 : decode cX5_isRefused 271 = .ok (.invokevirtual 116, 3) := by decide +kernel
theorem dX5_isRefused_274 : decode cX5_isRefused 274 = .ok (.iconst 0, 1) := by decide +kernel
theorem dX5_isRefused_275 : decode cX5_isRefused 275 = .ok (.ireturn, 1) := by decide +kernel
theorem dX5_wants_0 : decode cX5_wants 0 = .ok (.aload_n 0, 1) := by decide +kernel
theorem dX5_wants_1 : decode cX5_wants 1 = .ok (.getfield 19, 3) := by decide +kernel
theorem dX5_wants_4 : decode cX5_wants 4 = .ok (.sipush 290, 3) := by decide +kernel
theorem dX5_wants_7 : decode cX5_wants 7 = .ok (.iaload, 1) := by decide +kernel
theorem dX5_wants_8 : decode cX5_wants 8 = .ok (.iconst 1, 1) := by decide +kernel
theorem dX5_wants_9 : decode cX5_wants 9 = .ok (.if_icmp .ne 40, 3) := by decide +kernel
theorem dX5_wants_12 : decode cX5_wants 12 = .ok (.aload_n 0, 1) := by decide +kernel
theorem dX5_wants_13 : decode cX5_wants 13 = .ok (.getfield 19, 3) := by decide +kernel
theorem dX5_wants_16 : decode cX5_wants 16 = .ok (.sipush 290, 3) := by decide +kernel
theorem dX5_wants_19 : decode cX5_wants 19 = .ok (.iconst 0, 1) := by decide +kernel
theorem dX5_wants_20 : decode cX5_wants 20 = .ok (.iastore, 1) := by decide +kernel
theorem dX5_wants_21 : decode cX5_wants 21 = .ok (.aload_n 0, 1) := by decide +kernel
theorem dX5_wants_22 : decode cX5_wants 22 = .ok (.getfield 19, 3) := by decide +kernel
theorem dX5_wants_25 : decode cX5_wants 25 = .ok (.sipush 291, 3) := by decide +kernel
theorem dX5_wants_28 : decode cX5_wants 28 = .ok (.aload_n 0, 1) := by decide +kernel
theorem dX5_wants_29 : decode cX5_wants 29 = .ok (.iload_n 1, 1) := by decide +kernel
theorem dX5_wants_30 : decode cX5_wants 30 = .ok (.invokevirtual 120, 3) := by decide +kernel
theorem dX5_wants_33 : decode cX5_wants 33 = .ok (.ifCond .eq 7, 3) := by decide +kernel
theorem dX5_wants_36 : decode cX5_wants 36 = .ok (.iconst 1, 1) := by decide +kernel
theorem dX5_wants_37 : decode cX5_wants 37 = .ok (.goto 11, 3) := by decide +kernel
theorem dX5_wants_40 : decode cX5_wants 40 = .ok (.aload_n 0, 1) := by decide +kernel
theorem dX5_wants_41 : decode cX5_wants 41 = .ok (.getfield 19, 3) := by decide +kernel
theorem dX5_wants_44 : decode cX5_wants 44 = .ok (.sipush 291, 3) := by decide +kernel
theorem dX5_wants_47 : decode cX5_wants 47 = .ok (.iaload, 1) := by decide +kernel
theorem dX5_wants_48 : decode cX5_wants 48 = .ok (.iastore, 1) := by decide +kernel
theorem dX5_wants_49 : decode cX5_wants 49 = .ok (.return_, 1) := by decide +kernel
theorem dX5_does_0 : decode cX5_does 0 = .ok (.iload_n 1, 1) := by decide +kernel
theorem dX5_does_1 : decode cX5_does 1 = .ok (.lookupswitch 193 #[(4, 64), (6, 43), (122, 76), (153, 142)], 43) := by decide +kernel
theorem dX5_does_44 : decode cX5_does 44 = .ok (.aload_n 0, 1) := by decide +kernel
theorem dX5_does_45 : decode cX5_does 45 = .ok (.getfield 19, 3) := by decide +kernel
theorem dX5_does_48 : decode cX5_does 48 = .ok (.sipush 290, 3) := by decide +kernel
theorem dX5_does_51 : decode cX5_does 51 = .ok (.iconst 1, 1) := by decide +kernel
theorem dX5_does_52 : decode cX5_does 52 = .ok (.iastore, 1) := by decide +kernel
theorem dX5_does_53 : decode cX5_does 53 = .ok (.aload_n 0, 1) := by decide +kernel
theorem dX5_does_54 : decode cX5_does 54 = .ok (.getfield 19, 3) := by decide +kernel
theorem dX5_does_57 : decode cX5_does 57 = .ok (.sipush 291, 3) := by decide +kernel
theorem dX5_does_60 : decode cX5_does 60 = .ok (.iconst 0, 1) := by decide +kernel
theorem dX5_does_61 : decode cX5_does 61 = .ok (.iastore, 1) := by decide +kernel
theorem dX5_does_62 : decode cX5_does 62 = .ok (.goto 132, 3) := by decide +kernel
theorem dX5_does_65 : decode cX5_does 65 = .ok (.aload_n 0, 1) := by decide +kernel
theorem dX5_does_66 : decode cX5_does 66 = .ok (.getfield 19, 3) := by decide +kernel
theorem dX5_does_69 : decode cX5_does 69 = .ok (.sipush 290, 3) := by decide +kernel
theorem dX5_does_72 : decode cX5_does 72 = .ok (.iconst 0, 1) := by decide +kernel
theorem dX5_does_73 : decode cX5_does 73 = .ok (.iastore, 1) := by decide +kernel
theorem dX5_does_74 : decode cX5_does 74 = .ok (.goto 120, 3) := by decide +kernel
theorem dX5_does_77 : decode cX5_does 77 = .ok (.aload_n 0, 1) := by decide +kernel
theorem dX5_does_78 : decode cX5_does 78 = .ok (.getfield 19, 3) := by decide +kernel
theorem dX5_does_81 : decode cX5_does 81 = .ok (.sipush 296, 3) := by decide +kernel
theorem dX5_does_84 : decode cX5_does 84 = .ok (.iaload, 1) := by decide +kernel
theorem dX5_does_85 : decode cX5_does 85 = .ok (.ifCond .le 109, 3) := by decide +kernel
theorem dX5_does_88 : decode cX5_does 88 = .ok (.aload_n 0, 1) := by decide +kernel
theorem dX5_does_89 : decode cX5_does 89 = .ok (.getfield 19, 3) := by decide +kernel
theorem dX5_does_92 : decode cX5_does 92 = .ok (.sipush 293, 3) := by decide +kernel
theorem dX5_does_95 : decode cX5_does 95 = .ok (.iconst 2, 1) := by decide +kernel
theorem dX5_does_96 : decode cX5_does 96 = .ok (.iastore, 1) := by decide +kernel
theorem dX5_does_97 : decode cX5_does 97 = .ok (.aload_n 0, 1) := by decide +kernel
theorem dX5_does_98 : decode cX5_does 98 = .ok (.getfield 19, 3) := by decide +kernel
theorem dX5_does_101 : decode cX5_does 101 = .ok (.sipush 294, 3) := by decide +kernel
theorem dX5_does_104 : decode cX5_does 104 = .ok (.aload_n 0, 1) := by decide +kernel
theorem dX5_does_105 : decode cX5_does 105 = .ok (.getfield 19, 3) := by decide +kernel
theorem dX5_does_108 : decode cX5_does 108 = .ok (.sipush 296, 3) := by decide +kernel
theorem dX5_does_111 : decode cX5_does 111 = .ok (.iaload, 1) := by decide +kernel
theorem dX5_does_112 : decode cX5_does 112 = .ok (.iconst 1, 1) := by decide +kernel
theorem dX5_does_113 : decode cX5_does 113 = .ok (.isub, 1) := by decide +kernel
theorem dX5_does_114 : decode cX5_does 114 = .ok (.iastore, 1) := by decide +kernel
theorem dX5_does_115 : decode cX5_does 115 = .ok (.aload_n 0, 1) := by decide +kernel
theorem dX5_does_116 : decode cX5_does 116 = .ok (.getfield 19, 3) := by decide +kernel
theorem dX5_does_119 : decode cX5_does 119 = .ok (.sipush 295, 3) := by decide +kernel
theorem dX5_does_122 : decode cX5_does 122 = .ok (.aload_n 0, 1) := by decide +kernel
theorem dX5_does_123 : decode cX5_does 123 = .ok (.getfield 19, 3) := by decide +kernel
theorem dX5_does_126 : decode cX5_does 126 = .ok (.sipush 297, 3) := by decide +kernel
theorem dX5_does_129 : decode cX5_does 129 = .ok (.iaload, 1) := by decide +kernel
theorem dX5_does_130 : decode cX5_does 130 = .ok (.iastore, 1) := by decide +kernel
theorem dX5_does_131 : decode cX5_does 131 = .ok (.aload_n 0, 1) := by decide +kernel
theorem dX5_does_132 : decode cX5_does 132 = .ok (.getfield 19, 3) := by decide +kernel
theorem dX5_does_135 : decode cX5_does 135 = .ok (.sipush 296, 3) := by decide +kernel
theorem dX5_does_138 : decode cX5_does 138 = .ok (.iconst 0, 1) := by decide +kernel
theorem dX5_does_139 : decode cX5_does 139 = .ok (.iastore, 1) := by decide +kernel
theorem dX5_does_140 : decode cX5_does 140 = .ok (.goto 54, 3) := by decide +kernel
theorem dX5_does_143 : decode cX5_does 143 = .ok (.aload_n 0, 1) := by decide +kernel
theorem dX5_does_144 : decode cX5_does 144 = .ok (.getfield 19, 3) := by decide +kernel
theorem dX5_does_147 : decode cX5_does 147 = .ok (.sipush 303, 3) := by decide +kernel
theorem dX5_does_150 : decode cX5_does 150 = .ok (.iaload, 1) := by decide +kernel
theorem dX5_does_151 : decode cX5_does 151 = .ok (.iconst 1, 1) := by decide +kernel
theorem dX5_does_152 : decode cX5_does 152 = .ok (.if_icmp .ne 42, 3) := by decide +kernel
theorem dX5_does_155 : decode cX5_does 155 = .ok (.aload_n 0, 1) := by decide +kernel
theorem dX5_does_156 : decode cX5_does 156 = .ok (.getfield 19, 3) := by decide +kernel
theorem dX5_does_159 : decode cX5_does 159 = .ok (.sipush 289, 3) := by decide +kernel
theorem dX5_does_162 : decode cX5_does 162 = .ok (.iconst 0, 1) := by decide +kernel
theorem dX5_does_163 : decode cX5_does 163 = .ok (.iastore, 1) := by decide +kernel
theorem dX5_does_164 : decode cX5_does 164 = .ok (.aload_n 0, 1) := by decide +kernel
theorem dX5_does_165 : decode cX5_does 165 = .ok (.getfield 19, 3) := by decide +kernel
theorem dX5_does_168 : decode cX5_does 168 = .ok (.sipush 290, 3) := by decide +kernel
theorem dX5_does_171 : decode cX5_does 171 = .ok (.iconst 0, 1) := by decide +kernel
theorem dX5_does_172 : decode cX5_does 172 = .ok (.iastore, 1) := by decide +kernel
theorem dX5_does_173 : decode cX5_does 173 = .ok (.aload_n 0, 1) := by decide +kernel
theorem dX5_does_174 : decode cX5_does 174 = .ok (.getfield 19, 3) := by decide +kernel
theorem dX5_does_177 : decode cX5_does 177 = .ok (.sipush 291, 3) := by decide +kernel
theorem dX5_does_180 : decode cX5_does 180 = .ok (.iconst 0, 1) := by decide +kernel
theorem dX5_does_181 : decode cX5_does 181 = .ok (.iastore, 1) := by decide +kernel
theorem dX5_does_182 : decode cX5_does 182 = .ok (.aload_n 0, 1) := by decide +kernel
theorem dX5_does_183 : decode cX5_does 183 = .ok (.getfield 19, 3) := by decide +kernel
theorem dX5_does_186 : decode cX5_does 186 = .ok (.sipush 296, 3) := by decide +kernel
theorem dX5_does_189 : decode cX5_does 189 = .ok (.iconst 0, 1) := by decide +kernel
theorem dX5_does_190 : decode cX5_does 190 = .ok (.iastore, 1) := by decide +kernel
theorem dX5_does_191 : decode cX5_does 191 = .ok (.goto 3, 3) := by decide +kernel
theorem dX5_does_194 : decode cX5_does 194 = .ok (.return_, 1) := by decide +kernel
theorem dX5_tells_0 : decode cX5_tells 0 = .ok (.aload_n 0, 1) := by decide +kernel
theorem dX5_tells_1 : decode cX5_tells 1 = .ok (.getfield 19, 3) := by decide +kernel
theorem dX5_tells_4 : decode cX5_tells 4 = .ok (.sipush 301, 3) := by decide +kernel
theorem dX5_tells_7 : decode cX5_tells 7 = .ok (.iaload, 1) := by decide +kernel
theorem dX5_tells_8 : decode cX5_tells 8 = .ok (.aload_n 0, 1) := by decide +kernel
theorem dX5_tells_9 : decode cX5_tells 9 = .ok (.invokevirtual 89, 3) := by decide +kernel
theorem dX5_tells_12 : decode cX5_tells 12 = .ok (.irem, 1) := by decide +kernel
theorem dX5_tells_13 : decode cX5_tells 13 = .ok (.aload_n 0, 1) := by decide +kernel
theorem dX5_tells_14 : decode cX5_tells 14 = .ok (.invokevirtual 110, 3) := by decide +kernel
theorem dX5_tells_17 : decode cX5_tells 17 = .ok (.idiv, 1) := by decide +kernel
theorem dX5_tells_18 : decode cX5_tells 18 = .ok (.istore_n 2, 1) := by decide +kernel
theorem dX5_tells_19 : decode cX5_tells 19 = .ok (.iload_n 1, 1) := by decide +kernel
theorem dX5_tells_20 : decode cX5_tells 20 = .ok (.bipush 49, 2) := by decide +kernel
theorem dX5_tells_22 : decode cX5_tells 22 = .ok (.if_icmp .ne 34, 3) := by decide +kernel
theorem dX5_tells_25 : decode cX5_tells 25 = .ok (.aload_n 0, 1) := by decide +kernel
theorem dX5_tells_26 : decode cX5_tells 26 = .ok (.getfield 19, 3) := by decide +kernel
theorem dX5_tells_29 : decode cX5_tells 29 = .ok (.sipush 302, 3) := by decide +kernel
theorem dX5_tells_32 : decode cX5_tells 32 = .ok (.iaload, 1) := by decide +kernel
theorem dX5_tells_33 : decode cX5_tells 33 = .ok (.iconst 4, 1) := by decide +kernel
theorem dX5_tells_34 : decode cX5_tells 34 = .ok (.if_icmp .ge 22, 3) := by decide +kernel
theorem dX5_tells_37 : decode cX5_tells 37 = .ok (.aload_n 0, 1) := by decide +kernel
theorem dX5_tells_38 : decode cX5_tells 38 = .ok (.getfield 19, 3) := by decide +kernel
theorem dX5_tells_41 : decode cX5_tells 41 = .ok (.sipush 289, 3) := by decide +kernel
theorem dX5_tells_44 : decode cX5_tells 44 = .ok (.aload_n 0, 1) := by decide +kernel
theorem dX5_tells_45 : decode cX5_tells 45 = .ok (.getfield 19, 3) := by decide +kernel
theorem dX5_tells_48 : decode cX5_tells 48 = .ok (.sipush 302, 3) := by decide +kernel
theorem dX5_tells_51 : decode cX5_tells 51 = .ok (.iaload, 1) := by decide +kernel
theorem dX5_tells_52 : decode cX5_tells 52 = .ok (.iastore, 1) := by decide +kernel
theorem dX5_tells_53 : decode cX5_tells 53 = .ok (.goto 67, 3) := by decide +kernel
theorem dX5_tells_56 : decode cX5_tells 56 = .ok (.iload_n 1, 1) := by decide +kernel
theorem dX5_tells_57 : decode cX5_tells 57 = .ok (.bipush 54, 2) := by decide +kernel
theorem dX5_tells_59 : decode cX5_tells 59 = .ok (.if_icmp .ne 20, 3) := by decide +kernel
theorem dX5_tells_62 : decode cX5_tells 62 = .ok (.aload_n 0, 1) := by decide +kernel
theorem dX5_tells_63 : decode cX5_tells 63 = .ok (.getfield 19, 3) := by decide +kernel
theorem dX5_tells_66 : decode cX5_tells 66 = .ok (.sipush 288, 3) := by decide +kernel
theorem dX5_tells_69 : decode cX5_tells 69 = .ok (.dup2, 1) := by decide +kernel
theorem dX5_tells_70 : decode cX5_tells 70 = .ok (.iaload, 1) := by decide +kernel
theorem dX5_tells_71 : decode cX5_tells 71 = .ok (.iconst 1, 1) := by decide +kernel
theorem dX5_tells_72 : decode cX5_tells 72 = .ok (.iload_n 2, 1) := by decide +kernel
theorem dX5_tells_73 : decode cX5_tells 73 = .ok (.ishl, 1) := by decide +kernel
theorem dX5_tells_74 : decode cX5_tells 74 = .ok (.ior, 1) := by decide +kernel
theorem dX5_tells_75 : decode cX5_tells 75 = .ok (.iastore, 1) := by decide +kernel
theorem dX5_tells_76 : decode cX5_tells 76 = .ok (.goto 44, 3) := by decide +kernel
theorem dX5_tells_79 : decode cX5_tells 79 = .ok (.iload_n 1, 1) := by decide +kernel
theorem dX5_tells_80 : decode cX5_tells 80 = .ok (.bipush 57, 2) := by decide +kernel
theorem dX5_tells_82 : decode cX5_tells 82 = .ok (.if_icmp .ne 22, 3) := by decide +kernel
theorem dX5_tells_85 : decode cX5_tells 85 = .ok (.aload_n 0, 1) := by decide +kernel
theorem dX5_tells_86 : decode cX5_tells 86 = .ok (.getfield 19, 3) := by decide +kernel
theorem dX5_tells_89 : decode cX5_tells 89 = .ok (.sipush 288, 3) := by decide +kernel
theorem dX5_tells_92 : decode cX5_tells 92 = .ok (.dup2, 1) := by decide +kernel
theorem dX5_tells_93 : decode cX5_tells 93 = .ok (.iaload, 1) := by decide +kernel
theorem dX5_tells_94 : decode cX5_tells 94 = .ok (.iconst 1, 1) := by decide +kernel
theorem dX5_tells_95 : decode cX5_tells 95 = .ok (.iload_n 2, 1) := by decide +kernel
theorem dX5_tells_96 : decode cX5_tells 96 = .ok (.ishl, 1) := by decide +kernel
theorem dX5_tells_97 : decode cX5_tells 97 = .ok (.iconst (-1), 1) := by decide +kernel
theorem dX5_tells_98 : decode cX5_tells 98 = .ok (.ixor, 1) := by decide +kernel
theorem dX5_tells_99 : decode cX5_tells 99 = .ok (.iand, 1) := by decide +kernel
theorem dX5_tells_100 : decode cX5_tells 100 = .ok (.iastore, 1) := by decide +kernel
theorem dX5_tells_101 : decode cX5_tells 101 = .ok (.goto 19, 3) := by decide +kernel
theorem dX5_tells_104 : decode cX5_tells 104 = .ok (.iload_n 1, 1) := by decide +kernel
theorem dX5_tells_105 : decode cX5_tells 105 = .ok (.iconst 1, 1) := by decide +kernel
theorem dX5_tells_106 : decode cX5_tells 106 = .ok (.if_icmp .eq 9, 3) := by decide +kernel
theorem dX5_tells_109 : decode cX5_tells 109 = .ok (.iload_n 1, 1) := by decide +kernel
theorem dX5_tells_110 : decode cX5_tells 110 = .ok (.bipush 32, 2) := by decide +kernel
theorem dX5_tells_112 : decode cX5_tells 112 = .ok (.if_icmp .ne 8, 3) := by decide +kernel
theorem dX5_tells_115 : decode cX5_tells 115 = .ok (.aload_n 0, 1) := by decide +kernel
theorem dX5_tells_116 : decode cX5_tells 116 = .ok (.iload_n 1, 1) := by decide +kernel
theorem dX5_tells_117 : decode cX5_tells 117 = .ok (.invokevirtual 123, 3) := by decide +kernel
theorem dX5_tells_120 : decode cX5_tells 120 = .ok (.return_, 1) := by decide +kernel
theorem dX5_suspends_0 : decode cX5_suspends 0 = .ok (.aload_n 0, 1) := by decide +kernel
theorem dX5_suspends_1 : decode cX5_suspends 1 = .ok (.getfield 19, 3) := by decide +kernel
theorem dX5_suspends_4 : decode cX5_suspends 4 = .ok (.sipush 293, 3) := by decide +kernel
theorem dX5_suspends_7 : decode cX5_suspends 7 = .ok (.iaload, 1) := by decide +kernel
theorem dX5_suspends_8 : decode cX5_suspends 8 = .ok (.iconst 2, 1) := by decide +kernel
theorem dX5_suspends_9 : decode cX5_suspends 9 = .ok (.if_icmp .ne 46, 3) := by decide +kernel
theorem dX5_suspends_12 : decode cX5_suspends 12 = .ok (.aload_n 0, 1) := by decide +kernel
theorem dX5_suspends_13 : decode cX5_suspends 13 = .ok (.getfield 19, 3) := by decide +kernel
theorem dX5_suspends_16 : decode cX5_suspends 16 = .ok (.sipush 296, 3) := by decide +kernel
theorem dX5_suspends_19 : decode cX5_suspends 19 = .ok (.aload_n 0, 1) := by decide +kernel
theorem dX5_suspends_20 : decode cX5_suspends 20 = .ok (.getfield 19, 3) := by decide +kernel
theorem dX5_suspends_23 : decode cX5_suspends 23 = .ok (.sipush 294, 3) := by decide +kernel
theorem dX5_suspends_26 : decode cX5_suspends 26 = .ok (.iaload, 1) := by decide +kernel
theorem dX5_suspends_27 : decode cX5_suspends 27 = .ok (.iconst 1, 1) := by decide +kernel
theorem dX5_suspends_28 : decode cX5_suspends 28 = .ok (.iadd, 1) := by decide +kernel
theorem dX5_suspends_29 : decode cX5_suspends 29 = .ok (.iastore, 1) := by decide +kernel
theorem dX5_suspends_30 : decode cX5_suspends 30 = .ok (.aload_n 0, 1) := by decide +kernel
theorem dX5_suspends_31 : decode cX5_suspends 31 = .ok (.getfield 19, 3) := by decide +kernel
theorem dX5_suspends_34 : decode cX5_suspends 34 = .ok (.sipush 297, 3) := by decide +kernel
theorem dX5_suspends_37 : decode cX5_suspends 37 = .ok (.aload_n 0, 1) := by decide +kernel
theorem dX5_suspends_38 : decode cX5_suspends 38 = .ok (.getfield 19, 3) := by decide +kernel
theorem dX5_suspends_41 : decode cX5_suspends 41 = .ok (.sipush 295, 3) := by decide +kernel
theorem dX5_suspends_44 : decode cX5_suspends 44 = .ok (.iaload, 1) := by decide +kernel
theorem dX5_suspends_45 : decode cX5_suspends 45 = .ok (.iastore, 1) := by decide +kernel
theorem dX5_suspends_46 : decode cX5_suspends 46 = .ok (.aload_n 0, 1) := by decide +kernel
theorem dX5_suspends_47 : decode cX5_suspends 47 = .ok (.getfield 19, 3) := by decide +kernel
theorem dX5_suspends_50 : decode cX5_suspends 50 = .ok (.sipush 293, 3) := by decide +kernel
theorem dX5_suspends_53 : decode cX5_suspends 53 = .ok (.iconst 0, 1) := by decide +kernel
theorem dX5_suspends_54 : decode cX5_suspends 54 = .ok (.iastore, 1) := by decide +kernel
theorem dX5_suspends_55 : decode cX5_suspends 55 = .ok (.return_, 1) := by decide +kernel
theorem dX5_releases_0 : decode cX5_releases 0 = .ok (.aload_n 0, 1) := by decide +kernel
theorem dX5_releases_1 : decode cX5_releases 1 = .ok (.getfield 19, 3) := by decide +kernel
theorem dX5_releases_4 : decode cX5_releases 4 = .ok (.sipush 299, 3) := by decide +kernel
theorem dX5_releases_7 : decode cX5_releases 7 = .ok (.iaload, 1) := by decide +kernel
theorem dX5_releases_8 : decode cX5_releases 8 = .ok (.istore_n 1, 1) := by decide +kernel
theorem dX5_releases_9 : decode cX5_releases 9 = .ok (.iload_n 1, 1) := by decide +kernel
theorem dX5_releases_10 : decode cX5_releases 10 = .ok (.ifCond .le 14, 3) := by decide +kernel
theorem dX5_releases_13 : decode cX5_releases 13 = .ok (.aload_n 0, 1) := by decide +kernel
theorem dX5_releases_14 : decode cX5_releases 14 = .ok (.getfield 19, 3) := by decide +kernel
theorem dX5_releases_17 : decode cX5_releases 17 = .ok (.sipush 300, 3) := by decide +kernel
theorem dX5_releases_20 : decode cX5_releases 20 = .ok (.iaload, 1) := by decide +kernel
theorem dX5_releases_21 : decode cX5_releases 21 = .ok (.goto 4, 3) := by decide +kernel
theorem dX5_releases_24 : decode cX5_releases 24 = .ok (.iconst (-1), 1) := by decide +kernel
theorem dX5_releases_25 : decode cX5_releases 25 = .ok (.istore_n 2, 1) := by decide +kernel
theorem dX5_releases_26 : decode cX5_releases 26 = .ok (.aload_n 0, 1) := by decide +kernel
theorem dX5_releases_27 : decode cX5_releases 27 = .ok (.getfield 19, 3) := by decide +kernel
theorem dX5_releases_30 : decode cX5_releases 30 = .ok (.sipush 293, 3) := by decide +kernel
theorem dX5_releases_33 : decode cX5_releases 33 = .ok (.iaload, 1) := by decide +kernel
theorem dX5_releases_34 : decode cX5_releases 34 = .ok (.ifCond .ne 7, 3) := by decide +kernel
theorem dX5_releases_37 : decode cX5_releases 37 = .ok (.iconst 1, 1) := by decide +kernel
theorem dX5_releases_38 : decode cX5_releases 38 = .ok (.goto 4, 3) := by decide +kernel
theorem dX5_releases_41 : decode cX5_releases 41 = .ok (.iconst 0, 1) := by decide +kernel
theorem dX5_releases_42 : decode cX5_releases 42 = .ok (.istore_n 3, 1) := by decide +kernel
theorem dX5_releases_43 : decode cX5_releases 43 = .ok (.iload_n 3, 1) := by decide +kernel
theorem dX5_releases_44 : decode cX5_releases 44 = .ok (.ifCond .ne 21, 3) := by decide +kernel
theorem dX5_releases_47 : decode cX5_releases 47 = .ok (.iload_n 2, 1) := by decide +kernel
theorem dX5_releases_48 : decode cX5_releases 48 = .ok (.bipush 117, 2) := by decide +kernel
theorem dX5_releases_50 : decode cX5_releases 50 = .ok (.if_icmp .ne 15, 3) := by decide +kernel
theorem dX5_releases_53 : decode cX5_releases 53 = .ok (.iload_n 1, 1) := by decide +kernel
theorem dX5_releases_54 : decode cX5_releases 54 = .ok (.iconst 1, 1) := by decide +kernel
theorem dX5_releases_55 : decode cX5_releases 55 = .ok (.if_icmp .ne 10, 3) := by decide +kernel
theorem dX5_releases_58 : decode cX5_releases 58 = .ok (.aload_n 0, 1) := by decide +kernel
theorem dX5_releases_59 : decode cX5_releases 59 = .ok (.invokevirtual 127, 3) := by decide +kernel
theorem dX5_releases_62 : decode cX5_releases 62 = .ok (.goto 80, 3) := by decide +kernel
theorem dX5_releases_65 : decode cX5_releases 65 = .ok (.iload_n 3, 1) := by decide +kernel
theorem dX5_releases_66 : decode cX5_releases 66 = .ok (.ifCond .eq 23, 3) := by decide +kernel
theorem dX5_releases_69 : decode cX5_releases 69 = .ok (.iload_n 1, 1) := by decide +kernel
theorem dX5_releases_70 : decode cX5_releases 70 = .ok (.iconst 1, 1) := by decide +kernel
theorem dX5_releases_71 : decode cX5_releases 71 = .ok (.if_icmp .ne 18, 3) := by decide +kernel
theorem dX5_releases_74 : decode cX5_releases 74 = .ok (.iload_n 2, 1) := by decide +kernel
theorem dX5_releases_75 : decode cX5_releases 75 = .ok (.sipush 199, 3) := by decide +kernel
theorem dX5_releases_78 : decode cX5_releases 78 = .ok (.if_icmp .ne 11, 3) := by decide +kernel
theorem dX5_releases_81 : decode cX5_releases 81 = .ok (.aload_n 0, 1) := by decide +kernel
theorem dX5_releases_82 : decode cX5_releases 82 = .ok (.iload_n 2, 1) := by decide +kernel
theorem dX5_releases_83 : decode cX5_releases 83 = .ok (.invokevirtual 123, 3) := by decide +kernel
theorem dX5_releases_86 : decode cX5_releases 86 = .ok (.goto 56, 3) := by decide +kernel
theorem dX5_releases_89 : decode cX5_releases 89 = .ok (.iload_n 3, 1) := by decide +kernel
theorem dX5_releases_90 : decode cX5_releases 90 = .ok (.ifCond .eq 16, 3) := by decide +kernel
theorem dX5_releases_93 : decode cX5_releases 93 = .ok (.iload_n 1, 1) := by decide +kernel
theorem dX5_releases_94 : decode cX5_releases 94 = .ok (.iconst 1, 1) := by decide +kernel
theorem dX5_releases_95 : decode cX5_releases 95 = .ok (.if_icmp .ne 11, 3) := by decide +kernel
theorem dX5_releases_98 : decode cX5_releases 98 = .ok (.aload_n 0, 1) := by decide +kernel
theorem dX5_releases_99 : decode cX5_releases 99 = .ok (.iload_n 2, 1) := by decide +kernel
theorem dX5_releases_100 : decode cX5_releases 100 = .ok (.invokevirtual 130, 3) := by decide +kernel
theorem dX5_releases_103 : decode cX5_releases 103 = .ok (.goto 39, 3) := by decide +kernel
theorem dX5_releases_106 : decode cX5_releases 106 = .ok (.iload_n 3, 1) := by decide +kernel
theorem dX5_releases_107 : decode cX5_releases 107 = .ok (.ifCond .eq 16, 3) := by decide +kernel
theorem dX5_releases_110 : decode cX5_releases 110 = .ok (.iload_n 1, 1) := by decide +kernel
theorem dX5_releases_111 : decode cX5_releases 111 = .ok (.iconst 2, 1) := by decide +kernel
theorem dX5_releases_112 : decode cX5_releases 112 = .ok (.if_icmp .ne 11, 3) := by decide +kernel
theorem dX5_releases_115 : decode cX5_releases 115 = .ok (.aload_n 0, 1) := by decide +kernel
theorem dX5_releases_116 : decode cX5_releases 116 = .ok (.iload_n 2, 1) := by decide +kernel
theorem dX5_releases_117 : decode cX5_releases 117 = .ok (.invokevirtual 133, 3) := by decide +kernel
theorem dX5_releases_120 : decode cX5_releases 120 = .ok (.goto 22, 3) := by decide +kernel
theorem dX5_releases_123 : decode cX5_releases 123 = .ok (.iload_n 3, 1) := by decide +kernel
theorem dX5_releases_124 : decode cX5_releases 124 = .ok (.ifCond .eq 18, 3) := by decide +kernel
theorem dX5_releases_127 : decode cX5_releases 127 = .ok (.iload_n 1, 1) := by decide +kernel
theorem dX5_releases_128 : decode cX5_releases 128 = .ok (.iconst 2, 1) := by decide +kernel
theorem dX5_releases_129 : decode cX5_releases 129 = .ok (.if_icmp .le 13, 3) := by decide +kernel
theorem dX5_releases_132 : decode cX5_releases 132 = .ok (.iload_n 2, 1) := by decide +kernel
theorem dX5_releases_133 : decode cX5_releases 133 = .ok (.iconst 2, 1) := by decide +kernel
theorem dX5_releases_134 : decode cX5_releases 134 = .ok (.if_icmp .ne 8, 3) := by decide +kernel
theorem dX5_releases_137 : decode cX5_releases 137 = .ok (.aload_n 0, 1) := by decide +kernel
theorem dX5_releases_138 : decode cX5_releases 138 = .ok (.iload_n 2, 1) := by decide +kernel
theorem dX5_releases_139 : decode cX5_releases 139 = .ok (.invokevirtual 123, 3) := by decide +kernel
theorem dX5_releases_142 : decode cX5_releases 142 = .ok (.aload_n 0, 1) := by decide +kernel
theorem dX5_releases_143 : decode cX5_releases 143 = .ok (.getfield 19, 3) := by decide +kernel
theorem dX5_releases_146 : decode cX5_releases 146 = .ok (.sipush 303, 3) := by decide +kernel
theorem dX5_releases_149 : decode cX5_releases 149 = .ok (.iload_n 3, 1) := by decide +kernel
theorem dX5_releases_150 : decode cX5_releases 150 = .ok (.ifCond .eq 18, 3) := by decide +kernel
theorem dX5_releases_153 : decode cX5_releases 153 = .ok (.iload_n 1, 1) := by decide +kernel
theorem dX5_releases_154 : decode cX5_releases 154 = .ok (.iconst 1, 1) := by decide +kernel
theorem dX5_releases_155 : decode cX5_releases 155 = .ok (.if_icmp .ne 13, 3) := by decide +kernel
theorem dX5_releases_158 : decode cX5_releases 158 = .ok (.iload_n 2, 1) := by decide +kernel
theorem dX5_releases_159 : decode cX5_releases 159 = .ok (.bipush 102, 2) := by decide +kernel
theorem dX5_releases_161 : decode cX5_releases 161 = .ok (.if_icmp .ne 7, 3) := by decide +kernel
theorem dX5_releases_164 : decode cX5_releases 164 = .ok (.iconst 1, 1) := by decide +kernel
theorem dX5_releases_165 : decode cX5_releases 165 = .ok (.goto 4, 3) := by decide +kernel
theorem dX5_releases_168 : decode cX5_releases 168 = .ok (.iconst 0, 1) := by decide +kernel
theorem dX5_releases_169 : decode cX5_releases 169 = .ok (.iastore, 1) := by decide +kernel
theorem dX5_releases_170 : decode cX5_releases 170 = .ok (.aload_n 0, 1) := by decide +kernel
theorem dX5_releases_171 : decode cX5_releases 171 = .ok (.getfield 19, 3) := by decide +kernel
theorem dX5_releases_174 : decode cX5_releases 174 = .ok (.sipush 298, 3) := by decide +kernel
theorem dX5_releases_177 : decode cX5_releases 177 = .ok (.iconst 0, 1) := by decide +kernel
theorem dX5_releases_178 : decode cX5_releases 178 = .ok (.iastore, 1) := by decide +kernel
theorem dX5_releases_179 : decode cX5_releases 179 = .ok (.aload_n 0, 1) := by decide +kernel
theorem dX5_releases_180 : decode cX5_releases 180 = .ok (.getfield 19, 3) := by decide +kernel
theorem dX5_releases_183 : decode cX5_releases 183 = .ok (.sipush 299, 3) := by decide +kernel
theorem dX5_releases_186 : decode cX5_releases 186 = .ok (.iconst 0, 1) := by decide +kernel
theorem dX5_releases_187 : decode cX5_releases 187 = .ok (.iastore, 1) := by decide +kernel
theorem dX5_releases_188 : decode cX5_releases 188 = .ok (.aload_n 0, 1) := by decide +kernel
theorem dX5_releases_189 : decode cX5_releases 189 = .ok (.invokevirtual 92, 3) := by decide +kernel
theorem dX5_releases_192 : decode cX5_releases 192 = .ok (.ireturn, 1) := by decide +kernel
theorem dX5_release_0 : decode cX5_release 0 = .ok (.aload_n 0, 1) := by decide +kernel
theorem dX5_release_1 : decode cX5_release 1 = .ok (.getfield 19, 3) := by decide +kernel
theorem dX5_release_4 : decode cX5_release 4 = .ok (.sipush 298, 3) := by decide +kernel
theorem dX5_release_7 : decode cX5_release 7 = .ok (.iaload, 1) := by decide +kernel
theorem dX5_release_8 : decode cX5_release 8 = .ok (.ifCond .ne 8, 3) := by decide +kernel
theorem dX5_release_11 : decode cX5_release 11 = .ok (.bipush (-2), 2) := by decide +kernel
theorem dX5_release_13 : decode cX5_release 13 = .ok (.goto 7, 3) := by decide +kernel
theorem dX5_release_16 : decode cX5_release 16 = .ok (.aload_n 0, 1) := by decide +kernel
theorem dX5_release_17 : decode cX5_release 17 = .ok (.invokevirtual 136, 3) := by decide +kernel
theorem dX5_release_20 : decode cX5_release 20 = .ok (.ireturn, 1) := by decide +kernel
theorem dX5_goesOn_0 : decode cX5_goesOn 0 = .ok (.iload_n 3, 1) := by decide +kernel
theorem dX5_goesOn_1 : decode cX5_goesOn 1 = .ok (.istore 4, 2) := by decide +kernel
theorem dX5_goesOn_3 : decode cX5_goesOn 3 = .ok (.iconst 0, 1) := by decide +kernel
theorem dX5_goesOn_4 : decode cX5_goesOn 4 = .ok (.istore 5, 2) := by decide +kernel
theorem dX5_goesOn_6 : decode cX5_goesOn 6 = .ok (.iload 5, 2) := by decide +kernel
theorem dX5_goesOn_8 : decode cX5_goesOn 8 = .ok (.iload_n 2, 1) := by decide +kernel
theorem dX5_goesOn_9 : decode cX5_goesOn 9 = .ok (.if_icmp .ge 23, 3) := by decide +kernel
theorem dX5_goesOn_12 : decode cX5_goesOn 12 = .ok (.aload_n 0, 1) := by decide +kernel
theorem dX5_goesOn_13 : decode cX5_goesOn 13 = .ok (.iload_n 1, 1) := by decide +kernel
theorem dX5_goesOn_14 : decode cX5_goesOn 14 = .ok (.iload 5, 2) := by decide +kernel
theorem dX5_goesOn_16 : decode cX5_goesOn 16 = .ok (.iadd, 1) := by decide +kernel
theorem dX5_goesOn_17 : decode cX5_goesOn 17 = .ok (.sipush 256, 3) := by decide +kernel
theorem dX5_goesOn_20 : decode cX5_goesOn 20 = .ok (.irem, 1) := by decide +kernel
theorem dX5_goesOn_21 : decode cX5_goesOn 21 = .ok (.invokevirtual 104, 3) := by decide +kernel
theorem dX5_goesOn_24 : decode cX5_goesOn 24 = .ok (.istore 4, 2) := by decide +kernel
theorem dX5_goesOn_26 : decode cX5_goesOn 26 = .ok (.iinc 5 1, 3) := by decide +kernel
theorem dX5_goesOn_29 : decode cX5_goesOn 29 = .ok (.goto (-23), 3) := by decide +kernel
theorem dX5_goesOn_32 : decode cX5_goesOn 32 = .ok (.aload_n 0, 1) := by decide +kernel
theorem dX5_goesOn_33 : decode cX5_goesOn 33 = .ok (.invokevirtual 136, 3) := by decide +kernel
theorem dX5_goesOn_36 : decode cX5_goesOn 36 = .ok (.istore 5, 2) := by decide +kernel
theorem dX5_goesOn_38 : decode cX5_goesOn 38 = .ok (.iload 5, 2) := by decide +kernel
theorem dX5_goesOn_40 : decode cX5_goesOn 40 = .ok (.ifCond .ge 8, 3) := by decide +kernel
theorem dX5_goesOn_43 : decode cX5_goesOn 43 = .ok (.iload 5, 2) := by decide +kernel
theorem dX5_goesOn_45 : decode cX5_goesOn 45 = .ok (.goto 5, 3) := by decide +kernel
theorem dX5_goesOn_48 : decode cX5_goesOn 48 = .ok (.iload 4, 2) := by decide +kernel
theorem dX5_goesOn_50 : decode cX5_goesOn 50 = .ok (.ireturn, 1) := by decide +kernel
theorem dX5_send_0 : decode cX5_send 0 = .ok (.iload_n 1, 1) := by decide +kernel
theorem dX5_send_1 : decode cX5_send 1 = .ok (.i2l, 1) := by decide +kernel
theorem dX5_send_2 : decode cX5_send 2 = .ok (.lconst 0, 1) := by decide +kernel
theorem dX5_send_3 : decode cX5_send 3 = .ok (.ldc2_w 102, 3) := by decide +kernel
theorem dX5_send_6 : decode cX5_send 6 = .ok (.invokestatic 40, 3) := by decide +kernel
theorem dX5_send_9 : decode cX5_send 9 = .ok (.ifCond .eq 40, 3) := by decide +kernel
theorem dX5_send_12 : decode cX5_send 12 = .ok (.iload_n 2, 1) := by decide +kernel
theorem dX5_send_13 : decode cX5_send 13 = .ok (.i2l, 1) := by decide +kernel
theorem dX5_send_14 : decode cX5_send 14 = .ok (.lconst 0, 1) := by decide +kernel
theorem dX5_send_15 : decode cX5_send 15 = .ok (.ldc2_w 102, 3) := by decide +kernel
theorem dX5_send_18 : decode cX5_send 18 = .ok (.invokestatic 40, 3) := by decide +kernel
theorem dX5_send_21 : decode cX5_send 21 = .ok (.ifCond .eq 28, 3) := by decide +kernel
theorem dX5_send_24 : decode cX5_send 24 = .ok (.iload_n 3, 1) := by decide +kernel
theorem dX5_send_25 : decode cX5_send 25 = .ok (.i2l, 1) := by decide +kernel
theorem dX5_send_26 : decode cX5_send 26 = .ok (.lconst 0, 1) := by decide +kernel
theorem dX5_send_27 : decode cX5_send 27 = .ok (.ldc2_w 102, 3) := by decide +kernel
theorem dX5_send_30 : decode cX5_send 30 = .ok (.invokestatic 40, 3) := by decide +kernel
theorem dX5_send_33 : decode cX5_send 33 = .ok (.ifCond .eq 16, 3) := by decide +kernel
theorem dX5_send_36 : decode cX5_send 36 = .ok (.iload 4, 2) := by decide +kernel
theorem dX5_send_38 : decode cX5_send 38 = .ok (.i2l, 1) := by decide +kernel
theorem dX5_send_39 : decode cX5_send 39 = .ok (.lconst 0, 1) := by decide +kernel
theorem dX5_send_40 : decode cX5_send 40 = .ok (.ldc2_w 139, 3) := by decide +kernel
theorem dX5_send_43 : decode cX5_send 43 = .ok (.invokestatic 40, 3) := by decide +kernel
theorem dX5_send_46 : decode cX5_send 46 = .ok (.ifCond .ne 5, 3) := by decide +kernel
theorem dX5_send_49 : decode cX5_send 49 = .ok (.iconst (-1), 1) := by decide +kernel
theorem dX5_send_50 : decode cX5_send 50 = .ok (.ireturn, 1) := by decide +kernel
theorem dX5_send_51 : decode cX5_send 51 = .ok (.aload_n 0, 1) := by decide +kernel
theorem dX5_send_52 : decode cX5_send 52 = .ok (.invokevirtual 141, 3) := by decide +kernel
theorem dX5_send_55 : decode cX5_send 55 = .ok (.bipush (-2), 2) := by decide +kernel
theorem dX5_send_57 : decode cX5_send 57 = .ok (.if_icmp .ne 6, 3) := by decide +kernel
theorem dX5_send_60 : decode cX5_send 60 = .ok (.bipush (-2), 2) := by decide +kernel
theorem dX5_send_62 : decode cX5_send 62 = .ok (.ireturn, 1) := by decide +kernel
theorem dX5_send_63 : decode cX5_send 63 = .ok (.aload_n 0, 1) := by decide +kernel
theorem dX5_send_64 : decode cX5_send 64 = .ok (.iload_n 1, 1) := by decide +kernel
theorem dX5_send_65 : decode cX5_send 65 = .ok (.invokevirtual 104, 3) := by decide +kernel
theorem dX5_send_68 : decode cX5_send 68 = .ok (.istore 5, 2) := by decide +kernel
theorem dX5_send_70 : decode cX5_send 70 = .ok (.aload_n 0, 1) := by decide +kernel
theorem dX5_send_71 : decode cX5_send 71 = .ok (.iload_n 2, 1) := by decide +kernel
theorem dX5_send_72 : decode cX5_send 72 = .ok (.invokevirtual 104, 3) := by decide +kernel
theorem dX5_send_75 : decode cX5_send 75 = .ok (.istore 6, 2) := by decide +kernel
theorem dX5_send_77 : decode cX5_send 77 = .ok (.aload_n 0, 1) := by decide +kernel
theorem dX5_send_78 : decode cX5_send 78 = .ok (.iload_n 3, 1) := by decide +kernel
theorem dX5_send_79 : decode cX5_send 79 = .ok (.iload 4, 2) := by decide +kernel
theorem dX5_send_81 : decode cX5_send 81 = .ok (.iload 5, 2) := by decide +kernel
theorem dX5_send_83 : decode cX5_send 83 = .ok (.ifCond .ge 8, 3) := by decide +kernel
theorem dX5_send_86 : decode cX5_send 86 = .ok (.iload 5, 2) := by decide +kernel
theorem dX5_send_88 : decode cX5_send 88 = .ok (.goto 5, 3) := by decide +kernel
theorem dX5_send_91 : decode cX5_send 91 = .ok (.iload 6, 2) := by decide +kernel
theorem dX5_send_93 : decode cX5_send 93 = .ok (.invokevirtual 144, 3) := by decide +kernel
theorem dX5_send_96 : decode cX5_send 96 = .ok (.ireturn, 1) := by decide +kernel
theorem dX5_order_0 : decode cX5_order 0 = .ok (.iload_n 1, 1) := by decide +kernel
theorem dX5_order_1 : decode cX5_order 1 = .ok (.i2l, 1) := by decide +kernel
theorem dX5_order_2 : decode cX5_order 2 = .ok (.lconst 0, 1) := by decide +kernel
theorem dX5_order_3 : decode cX5_order 3 = .ok (.ldc2_w 102, 3) := by decide +kernel
theorem dX5_order_6 : decode cX5_order 6 = .ok (.invokestatic 40, 3) := by decide +kernel
theorem dX5_order_9 : decode cX5_order 9 = .ok (.ifCond .eq 27, 3) := by decide +kernel
theorem dX5_order_12 : decode cX5_order 12 = .ok (.iload_n 2, 1) := by decide +kernel
theorem dX5_order_13 : decode cX5_order 13 = .ok (.i2l, 1) := by decide +kernel
theorem dX5_order_14 : decode cX5_order 14 = .ok (.lconst 0, 1) := by decide +kernel
theorem dX5_order_15 : decode cX5_order 15 = .ok (.ldc2_w 102, 3) := by decide +kernel
theorem dX5_order_18 : decode cX5_order 18 = .ok (.invokestatic 40, 3) := by decide +kernel
theorem dX5_order_21 : decode cX5_order 21 = .ok (.ifCond .eq 15, 3) := by decide +kernel
theorem dX5_order_24 : decode cX5_order 24 = .ok (.iload_n 3, 1) := by decide +kernel
theorem dX5_order_25 : decode cX5_order 25 = .ok (.i2l, 1) := by decide +kernel
theorem dX5_order_26 : decode cX5_order 26 = .ok (.lconst 0, 1) := by decide +kernel
theorem dX5_order_27 : decode cX5_order 27 = .ok (.ldc2_w 139, 3) := by decide +kernel
theorem dX5_order_30 : decode cX5_order 30 = .ok (.invokestatic 40, 3) := by decide +kernel
theorem dX5_order_33 : decode cX5_order 33 = .ok (.ifCond .ne 5, 3) := by decide +kernel
theorem dX5_order_36 : decode cX5_order 36 = .ok (.iconst (-1), 1) := by decide +kernel
theorem dX5_order_37 : decode cX5_order 37 = .ok (.ireturn, 1) := by decide +kernel
theorem dX5_order_38 : decode cX5_order 38 = .ok (.aload_n 0, 1) := by decide +kernel
theorem dX5_order_39 : decode cX5_order 39 = .ok (.invokevirtual 141, 3) := by decide +kernel
theorem dX5_order_42 : decode cX5_order 42 = .ok (.bipush (-2), 2) := by decide +kernel
theorem dX5_order_44 : decode cX5_order 44 = .ok (.if_icmp .ne 6, 3) := by decide +kernel
theorem dX5_order_47 : decode cX5_order 47 = .ok (.bipush (-2), 2) := by decide +kernel
theorem dX5_order_49 : decode cX5_order 49 = .ok (.ireturn, 1) := by decide +kernel
theorem dX5_order_50 : decode cX5_order 50 = .ok (.aload_n 0, 1) := by decide +kernel
theorem dX5_order_51 : decode cX5_order 51 = .ok (.iload_n 1, 1) := by decide +kernel
theorem dX5_order_52 : decode cX5_order 52 = .ok (.invokevirtual 104, 3) := by decide +kernel
theorem dX5_order_55 : decode cX5_order 55 = .ok (.istore 4, 2) := by decide +kernel
theorem dX5_order_57 : decode cX5_order 57 = .ok (.aload_n 0, 1) := by decide +kernel
theorem dX5_order_58 : decode cX5_order 58 = .ok (.iload_n 2, 1) := by decide +kernel
theorem dX5_order_59 : decode cX5_order 59 = .ok (.iload_n 3, 1) := by decide +kernel
theorem dX5_order_60 : decode cX5_order 60 = .ok (.iload 4, 2) := by decide +kernel
theorem dX5_order_62 : decode cX5_order 62 = .ok (.invokevirtual 144, 3) := by decide +kernel
theorem dX5_order_65 : decode cX5_order 65 = .ok (.ireturn, 1) := by decide +kernel
theorem dX5_done_0 : decode cX5_done 0 = .ok (.aload_n 0, 1) := by decide +kernel
theorem dX5_done_1 : decode cX5_done 1 = .ok (.invokevirtual 110, 3) := by decide +kernel
theorem dX5_done_4 : decode cX5_done 4 = .ok (.istore_n 1, 1) := by decide +kernel
theorem dX5_done_5 : decode cX5_done 5 = .ok (.aload_n 0, 1) := by decide +kernel
theorem dX5_done_6 : decode cX5_done 6 = .ok (.getfield 19, 3) := by decide +kernel
theorem dX5_done_9 : decode cX5_done 9 = .ok (.sipush 293, 3) := by decide +kernel
theorem dX5_done_12 : decode cX5_done 12 = .ok (.iaload, 1) := by decide +kernel
theorem dX5_done_13 : decode cX5_done 13 = .ok (.iconst 2, 1) := by decide +kernel
theorem dX5_done_14 : decode cX5_done 14 = .ok (.if_icmp .ne 16, 3) := by decide +kernel
theorem dX5_done_17 : decode cX5_done 17 = .ok (.aload_n 0, 1) := by decide +kernel
theorem dX5_done_18 : decode cX5_done 18 = .ok (.getfield 19, 3) := by decide +kernel
theorem dX5_done_21 : decode cX5_done 21 = .ok (.sipush 294, 3) := by decide +kernel
theorem dX5_done_24 : decode cX5_done 24 = .ok (.iaload, 1) := by decide +kernel
theorem dX5_done_25 : decode cX5_done 25 = .ok (.iload_n 1, 1) := by decide +kernel
theorem dX5_done_26 : decode cX5_done 26 = .ok (.imul, 1) := by decide +kernel
theorem dX5_done_27 : decode cX5_done 27 = .ok (.goto 4, 3) := by decide +kernel
theorem dX5_done_30 : decode cX5_done 30 = .ok (.iconst 0, 1) := by decide +kernel
theorem dX5_done_31 : decode cX5_done 31 = .ok (.istore_n 2, 1) := by decide +kernel
theorem dX5_done_32 : decode cX5_done 32 = .ok (.aload_n 0, 1) := by decide +kernel
theorem dX5_done_33 : decode cX5_done 33 = .ok (.getfield 19, 3) := by decide +kernel
theorem dX5_done_36 : decode cX5_done 36 = .ok (.sipush 293, 3) := by decide +kernel
theorem dX5_done_39 : decode cX5_done 39 = .ok (.iaload, 1) := by decide +kernel
theorem dX5_done_40 : decode cX5_done 40 = .ok (.iconst 2, 1) := by decide +kernel
theorem dX5_done_41 : decode cX5_done 41 = .ok (.if_icmp .ne 9, 3) := by decide +kernel
theorem dX5_done_44 : decode cX5_done 44 = .ok (.iload_n 2, 1) := by decide +kernel
theorem dX5_done_45 : decode cX5_done 45 = .ok (.iload_n 1, 1) := by decide +kernel
theorem dX5_done_46 : decode cX5_done 46 = .ok (.iadd, 1) := by decide +kernel
theorem dX5_done_47 : decode cX5_done 47 = .ok (.goto 7, 3) := by decide +kernel
theorem dX5_done_50 : decode cX5_done 50 = .ok (.aload_n 0, 1) := by decide +kernel
theorem dX5_done_51 : decode cX5_done 51 = .ok (.invokevirtual 89, 3) := by decide +kernel
theorem dX5_done_54 : decode cX5_done 54 = .ok (.istore_n 3, 1) := by decide +kernel
theorem dX5_done_55 : decode cX5_done 55 = .ok (.iload_n 2, 1) := by decide +kernel
theorem dX5_done_56 : decode cX5_done 56 = .ok (.istore 4, 2) := by decide +kernel
theorem dX5_done_58 : decode cX5_done 58 = .ok (.iload 4, 2) := by decide +kernel
theorem dX5_done_60 : decode cX5_done 60 = .ok (.iload_n 3, 1) := by decide +kernel
theorem dX5_done_61 : decode cX5_done 61 = .ok (.if_icmp .ge 31, 3) := by decide +kernel
theorem dX5_done_64 : decode cX5_done 64 = .ok (.aload_n 0, 1) := by decide +kernel
theorem dX5_done_65 : decode cX5_done 65 = .ok (.getfield 19, 3) := by decide +kernel
theorem dX5_done_68 : decode cX5_done 68 = .ok (.sipush 293, 3) := by decide +kernel
theorem dX5_done_71 : decode cX5_done 71 = .ok (.iaload, 1) := by decide +kernel
theorem dX5_done_72 : decode cX5_done 72 = .ok (.iconst 1, 1) := by decide +kernel
theorem dX5_done_73 : decode cX5_done 73 = .ok (.if_icmp .eq 19, 3) := by decide +kernel
theorem dX5_done_76 : decode cX5_done 76 = .ok (.aload_n 0, 1) := by decide +kernel
theorem dX5_done_77 : decode cX5_done 77 = .ok (.getfield 19, 3) := by decide +kernel
theorem dX5_done_80 : decode cX5_done 80 = .ok (.iload 4, 2) := by decide +kernel
theorem dX5_done_82 : decode cX5_done 82 = .ok (.sipush 255, 3) := by decide +kernel
theorem dX5_done_85 : decode cX5_done 85 = .ok (.iastore, 1) := by decide +kernel
theorem dX5_done_86 : decode cX5_done 86 = .ok (.iinc 4 1, 3) := by decide +kernel
theorem dX5_done_89 : decode cX5_done 89 = .ok (.goto (-31), 3) := by decide +kernel
theorem dX5_done_92 : decode cX5_done 92 = .ok (.aload_n 0, 1) := by decide +kernel
theorem dX5_done_93 : decode cX5_done 93 = .ok (.getfield 19, 3) := by decide +kernel
theorem dX5_done_96 : decode cX5_done 96 = .ok (.sipush 293, 3) := by decide +kernel
theorem dX5_done_99 : decode cX5_done 99 = .ok (.iconst 0, 1) := by decide +kernel
theorem dX5_done_100 : decode cX5_done 100 = .ok (.iastore, 1) := by decide +kernel
theorem dX5_done_101 : decode cX5_done 101 = .ok (.return_, 1) := by decide +kernel
theorem dX5_tick_0 : decode cX5_tick 0 = .ok (.iload_n 1, 1) := by decide +kernel
theorem dX5_tick_1 : decode cX5_tick 1 = .ok (.i2l, 1) := by decide +kernel
theorem dX5_tick_2 : decode cX5_tick 2 = .ok (.lconst 1, 1) := by decide +kernel
theorem dX5_tick_3 : decode cX5_tick 3 = .ok (.ldc2_w 148, 3) := by decide +kernel
theorem dX5_tick_6 : decode cX5_tick 6 = .ok (.invokestatic 40, 3) := by decide +kernel
theorem dX5_tick_9 : decode cX5_tick 9 = .ok (.ifCond .ne 5, 3) := by decide +kernel
theorem dX5_tick_12 : decode cX5_tick 12 = .ok (.iconst (-1), 1) := by decide +kernel
theorem dX5_tick_13 : decode cX5_tick 13 = .ok (.ireturn, 1) := by decide +kernel
theorem dX5_tick_14 : decode cX5_tick 14 = .ok (.iconst 0, 1) := by decide +kernel
theorem dX5_tick_15 : decode cX5_tick 15 = .ok (.istore_n 2, 1) := by decide +kernel
theorem dX5_tick_16 : decode cX5_tick 16 = .ok (.iconst 0, 1) := by decide +kernel
theorem dX5_tick_17 : decode cX5_tick 17 = .ok (.istore_n 3, 1) := by decide +kernel
theorem dX5_tick_18 : decode cX5_tick 18 = .ok (.iload_n 3, 1) := by decide +kernel
theorem dX5_tick_19 : decode cX5_tick 19 = .ok (.iload_n 1, 1) := by decide +kernel
theorem dX5_tick_20 : decode cX5_tick 20 = .ok (.if_icmp .ge 50, 3) := by decide +kernel
theorem dX5_tick_23 : decode cX5_tick 23 = .ok (.aload_n 0, 1) := by decide +kernel
theorem dX5_tick_24 : decode cX5_tick 24 = .ok (.getfield 19, 3) := by decide +kernel
theorem dX5_tick_27 : decode cX5_tick 27 = .ok (.sipush 293, 3) := by decide +kernel
theorem dX5_tick_30 : decode cX5_tick 30 = .ok (.iaload, 1) := by decide +kernel
theorem dX5_tick_31 : decode cX5_tick 31 = .ok (.ifCond .le 33, 3) := by decide +kernel
theorem dX5_tick_34 : decode cX5_tick 34 = .ok (.iinc 2 1, 3) := by decide +kernel
theorem dX5_tick_37 : decode cX5_tick 37 = .ok (.aload_n 0, 1) := by decide +kernel
theorem dX5_tick_38 : decode cX5_tick 38 = .ok (.getfield 19, 3) := by decide +kernel
theorem dX5_tick_41 : decode cX5_tick 41 = .ok (.sipush 295, 3) := by decide +kernel
theorem dX5_tick_44 : decode cX5_tick 44 = .ok (.dup2, 1) := by decide +kernel
theorem dX5_tick_45 : decode cX5_tick 45 = .ok (.iaload, 1) := by decide +kernel
theorem dX5_tick_46 : decode cX5_tick 46 = .ok (.iconst 1, 1) := by decide +kernel
theorem dX5_tick_47 : decode cX5_tick 47 = .ok (.isub, 1) := by decide +kernel
theorem dX5_tick_48 : decode cX5_tick 48 = .ok (.iastore, 1) := by decide +kernel
theorem dX5_tick_49 : decode cX5_tick 49 = .ok (.aload_n 0, 1) := by decide +kernel
theorem dX5_tick_50 : decode cX5_tick 50 = .ok (.getfield 19, 3) := by decide +kernel
theorem dX5_tick_53 : decode cX5_tick 53 = .ok (.sipush 295, 3) := by decide +kernel
theorem dX5_tick_56 : decode cX5_tick 56 = .ok (.iaload, 1) := by decide +kernel
theorem dX5_tick_57 : decode cX5_tick 57 = .ok (.ifCond .ne 7, 3) := by decide +kernel
theorem dX5_tick_60 : decode cX5_tick 60 = .ok (.aload_n 0, 1) := by decide +kernel
theorem dX5_tick_61 : decode cX5_tick 61 = .ok (.invokevirtual 150, 3) := by decide +kernel
theorem dX5_tick_64 : decode cX5_tick 64 = .ok (.iinc 3 1, 3) := by decide +kernel
theorem dX5_tick_67 : decode cX5_tick 67 = .ok (.goto (-49), 3) := by decide +kernel
theorem dX5_tick_70 : decode cX5_tick 70 = .ok (.iload_n 2, 1) := by decide +kernel
theorem dX5_tick_71 : decode cX5_tick 71 = .ok (.ireturn, 1) := by decide +kernel
theorem dX5_at_0 : decode cX5_at 0 = .ok (.iload_n 1, 1) := by decide +kernel
theorem dX5_at_1 : decode cX5_at 1 = .ok (.i2l, 1) := by decide +kernel
theorem dX5_at_2 : decode cX5_at 2 = .ok (.lconst 0, 1) := by decide +kernel
theorem dX5_at_3 : decode cX5_at 3 = .ok (.aload_n 0, 1) := by decide +kernel
theorem dX5_at_4 : decode cX5_at 4 = .ok (.invokevirtual 89, 3) := by decide +kernel
theorem dX5_at_7 : decode cX5_at 7 = .ok (.iconst 1, 1) := by decide +kernel
theorem dX5_at_8 : decode cX5_at 8 = .ok (.isub, 1) := by decide +kernel
theorem dX5_at_9 : decode cX5_at 9 = .ok (.i2l, 1) := by decide +kernel
theorem dX5_at_10 : decode cX5_at 10 = .ok (.invokestatic 40, 3) := by decide +kernel
theorem dX5_at_13 : decode cX5_at 13 = .ok (.ifCond .eq 12, 3) := by decide +kernel
theorem dX5_at_16 : decode cX5_at 16 = .ok (.aload_n 0, 1) := by decide +kernel
theorem dX5_at_17 : decode cX5_at 17 = .ok (.getfield 19, 3) := by decide +kernel
theorem dX5_at_20 : decode cX5_at 20 = .ok (.iload_n 1, 1) := by decide +kernel
theorem dX5_at_21 : decode cX5_at 21 = .ok (.iaload, 1) := by decide +kernel
theorem dX5_at_22 : decode cX5_at 22 = .ok (.goto 4, 3) := by decide +kernel
theorem dX5_at_25 : decode cX5_at 25 = .ok (.iconst (-1), 1) := by decide +kernel
theorem dX5_at_26 : decode cX5_at 26 = .ok (.ireturn, 1) := by decide +kernel
theorem dX5_sector_0 : decode cX5_sector 0 = .ok (.iload_n 1, 1) := by decide +kernel
theorem dX5_sector_1 : decode cX5_sector 1 = .ok (.i2l, 1) := by decide +kernel
theorem dX5_sector_2 : decode cX5_sector 2 = .ok (.lconst 0, 1) := by decide +kernel
theorem dX5_sector_3 : decode cX5_sector 3 = .ok (.aload_n 0, 1) := by decide +kernel
theorem dX5_sector_4 : decode cX5_sector 4 = .ok (.getfield 13, 3) := by decide +kernel
theorem dX5_sector_7 : decode cX5_sector 7 = .ok (.iconst 2, 1) := by decide +kernel
theorem dX5_sector_8 : decode cX5_sector 8 = .ok (.iaload, 1) := by decide +kernel
theorem dX5_sector_9 : decode cX5_sector 9 = .ok (.iconst 1, 1) := by decide +kernel
theorem dX5_sector_10 : decode cX5_sector 10 = .ok (.isub, 1) := by decide +kernel
theorem dX5_sector_11 : decode cX5_sector 11 = .ok (.i2l, 1) := by decide +kernel
theorem dX5_sector_12 : decode cX5_sector 12 = .ok (.invokestatic 40, 3) := by decide +kernel
theorem dX5_sector_15 : decode cX5_sector 15 = .ok (.ifCond .eq 15, 3) := by decide +kernel
theorem dX5_sector_18 : decode cX5_sector 18 = .ok (.iload_n 2, 1) := by decide +kernel
theorem dX5_sector_19 : decode cX5_sector 19 = .ok (.i2l, 1) := by decide +kernel
theorem dX5_sector_20 : decode cX5_sector 20 = .ok (.lconst 0, 1) := by decide +kernel
theorem dX5_sector_21 : decode cX5_sector 21 = .ok (.ldc2_w 153, 3) := by decide +kernel
theorem dX5_sector_24 : decode cX5_sector 24 = .ok (.invokestatic 40, 3) := by decide +kernel
theorem dX5_sector_27 : decode cX5_sector 27 = .ok (.ifCond .ne 5, 3) := by decide +kernel
theorem dX5_sector_30 : decode cX5_sector 30 = .ok (.iconst (-1), 1) := by decide +kernel
theorem dX5_sector_31 : decode cX5_sector 31 = .ok (.ireturn, 1) := by decide +kernel
theorem dX5_sector_32 : decode cX5_sector 32 = .ok (.iconst 0, 1) := by decide +kernel
theorem dX5_sector_33 : decode cX5_sector 33 = .ok (.istore_n 3, 1) := by decide +kernel
theorem dX5_sector_34 : decode cX5_sector 34 = .ok (.iconst 0, 1) := by decide +kernel
theorem dX5_sector_35 : decode cX5_sector 35 = .ok (.istore 4, 2) := by decide +kernel
theorem dX5_sector_37 : decode cX5_sector 37 = .ok (.iload_n 1, 1) := by decide +kernel
theorem dX5_sector_38 : decode cX5_sector 38 = .ok (.aload_n 0, 1) := by decide +kernel
theorem dX5_sector_39 : decode cX5_sector 39 = .ok (.invokevirtual 110, 3) := by decide +kernel
theorem dX5_sector_42 : decode cX5_sector 42 = .ok (.imul, 1) := by decide +kernel
theorem dX5_sector_43 : decode cX5_sector 43 = .ok (.istore 5, 2) := by decide +kernel
theorem dX5_sector_45 : decode cX5_sector 45 = .ok (.iload 5, 2) := by decide +kernel
theorem dX5_sector_47 : decode cX5_sector 47 = .ok (.iload_n 1, 1) := by decide +kernel
theorem dX5_sector_48 : decode cX5_sector 48 = .ok (.iconst 1, 1) := by decide +kernel
theorem dX5_sector_49 : decode cX5_sector 49 = .ok (.iadd, 1) := by decide +kernel
theorem dX5_sector_50 : decode cX5_sector 50 = .ok (.aload_n 0, 1) := by decide +kernel
theorem dX5_sector_51 : decode cX5_sector 51 = .ok (.invokevirtual 110, 3) := by decide +kernel
theorem dX5_sector_54 : decode cX5_sector 54 = .ok (.imul, 1) := by decide +kernel
theorem dX5_sector_55 : decode cX5_sector 55 = .ok (.if_icmp .ge 42, 3) := by decide +kernel
theorem dX5_sector_58 : decode cX5_sector 58 = .ok (.iload_n 3, 1) := by decide +kernel
theorem dX5_sector_59 : decode cX5_sector 59 = .ok (.aload_n 0, 1) := by decide +kernel
theorem dX5_sector_60 : decode cX5_sector 60 = .ok (.getfield 19, 3) := by decide +kernel
theorem dX5_sector_63 : decode cX5_sector 63 = .ok (.iload 5, 2) := by decide +kernel
theorem dX5_sector_65 : decode cX5_sector 65 = .ok (.iaload, 1) := by decide +kernel
theorem dX5_sector_66 : decode cX5_sector 66 = .ok (.sipush 255, 3) := by decide +kernel
theorem dX5_sector_69 : decode cX5_sector 69 = .ok (.if_icmp .ne 7, 3) := by decide +kernel
theorem dX5_sector_72 : decode cX5_sector 72 = .ok (.iconst 1, 1) := by decide +kernel
theorem dX5_sector_73 : decode cX5_sector 73 = .ok (.goto 4, 3) := by decide +kernel
theorem dX5_sector_76 : decode cX5_sector 76 = .ok (.iconst 0, 1) := by decide +kernel
theorem dX5_sector_77 : decode cX5_sector 77 = .ok (.iadd, 1) := by decide +kernel
theorem dX5_sector_78 : decode cX5_sector 78 = .ok (.istore_n 3, 1) := by decide +kernel
theorem dX5_sector_79 : decode cX5_sector 79 = .ok (.iload 4, 2) := by decide +kernel
theorem dX5_sector_81 : decode cX5_sector 81 = .ok (.aload_n 0, 1) := by decide +kernel
theorem dX5_sector_82 : decode cX5_sector 82 = .ok (.getfield 19, 3) := by decide +kernel
theorem dX5_sector_85 : decode cX5_sector 85 = .ok (.iload 5, 2) := by decide +kernel
theorem dX5_sector_87 : decode cX5_sector 87 = .ok (.iaload, 1) := by decide +kernel
theorem dX5_sector_88 : decode cX5_sector 88 = .ok (.iadd, 1) := by decide +kernel
theorem dX5_sector_89 : decode cX5_sector 89 = .ok (.istore 4, 2) := by decide +kernel
theorem dX5_sector_91 : decode cX5_sector 91 = .ok (.iinc 5 1, 3) := by decide +kernel
theorem dX5_sector_94 : decode cX5_sector 94 = .ok (.goto (-49), 3) := by decide +kernel
theorem dX5_sector_97 : decode cX5_sector 97 = .ok (.aload_n 0, 1) := by decide +kernel
theorem dX5_sector_98 : decode cX5_sector 98 = .ok (.getfield 19, 3) := by decide +kernel
theorem dX5_sector_101 : decode cX5_sector 101 = .ok (.sipush 293, 3) := by decide +kernel
theorem dX5_sector_104 : decode cX5_sector 104 = .ok (.iaload, 1) := by decide +kernel
theorem dX5_sector_105 : decode cX5_sector 105 = .ok (.iconst 3, 1) := by decide +kernel
theorem dX5_sector_106 : decode cX5_sector 106 = .ok (.if_icmp .eq 41, 3) := by decide +kernel
theorem dX5_sector_109 : decode cX5_sector 109 = .ok (.aload_n 0, 1) := by decide +kernel
theorem dX5_sector_110 : decode cX5_sector 110 = .ok (.getfield 19, 3) := by decide +kernel
theorem dX5_sector_113 : decode cX5_sector 113 = .ok (.sipush 293, 3) := by decide +kernel
theorem dX5_sector_116 : decode cX5_sector 116 = .ok (.iaload, 1) := by decide +kernel
theorem dX5_sector_117 : decode cX5_sector 117 = .ok (.iconst 2, 1) := by decide +kernel
theorem dX5_sector_118 : decode cX5_sector 118 = .ok (.if_icmp .ne 15, 3) := by decide +kernel
theorem dX5_sector_121 : decode cX5_sector 121 = .ok (.aload_n 0, 1) := by decide +kernel
theorem dX5_sector_122 : decode cX5_sector 122 = .ok (.getfield 19, 3) := by decide +kernel
theorem dX5_sector_125 : decode cX5_sector 125 = .ok (.sipush 294, 3) := by decide +kernel
theorem dX5_sector_128 : decode cX5_sector 128 = .ok (.iaload, 1) := by decide +kernel
theorem dX5_sector_129 : decode cX5_sector 129 = .ok (.iload_n 1, 1) := by decide +kernel
theorem dX5_sector_130 : decode cX5_sector 130 = .ok (.if_icmp .eq 17, 3) := by decide +kernel
theorem dX5_sector_133 : decode cX5_sector 133 = .ok (.aload_n 0, 1) := by decide +kernel
theorem dX5_sector_134 : decode cX5_sector 134 = .ok (.getfield 19, 3) := by decide +kernel
theorem dX5_sector_137 : decode cX5_sector 137 = .ok (.sipush 296, 3) := by decide +kernel
theorem dX5_sector_140 : decode cX5_sector 140 = .ok (.iaload, 1) := by decide +kernel
theorem dX5_sector_141 : decode cX5_sector 141 = .ok (.iload_n 1, 1) := by decide +kernel
theorem dX5_sector_142 : decode cX5_sector 142 = .ok (.iconst 1, 1) := by decide +kernel
theorem dX5_sector_143 : decode cX5_sector 143 = .ok (.iadd, 1) := by decide +kernel
theorem dX5_sector_144 : decode cX5_sector 144 = .ok (.if_icmp .ne 7, 3) := by decide +kernel
theorem dX5_sector_147 : decode cX5_sector 147 = .ok (.iconst 1, 1) := by decide +kernel
theorem dX5_sector_148 : decode cX5_sector 148 = .ok (.goto 4, 3) := by decide +kernel
theorem dX5_sector_151 : decode cX5_sector 151 = .ok (.iconst 0, 1) := by decide +kernel
theorem dX5_sector_152 : decode cX5_sector 152 = .ok (.istore 5, 2) := by decide +kernel
theorem dX5_sector_154 : decode cX5_sector 154 = .ok (.iload_n 2, 1) := by decide +kernel
theorem dX5_sector_155 : decode cX5_sector 155 = .ok (.ifCond .ne 7, 3) := by decide +kernel
theorem dX5_sector_158 : decode cX5_sector 158 = .ok (.iload_n 3, 1) := by decide +kernel
theorem dX5_sector_159 : decode cX5_sector 159 = .ok (.goto 64, 3) := by decide +kernel
theorem dX5_sector_162 : decode cX5_sector 162 = .ok (.iload_n 2, 1) := by decide +kernel
theorem dX5_sector_163 : decode cX5_sector 163 = .ok (.iconst 1, 1) := by decide +kernel
theorem dX5_sector_164 : decode cX5_sector 164 = .ok (.if_icmp .ne 8, 3) := by decide +kernel
theorem dX5_sector_167 : decode cX5_sector 167 = .ok (.iload 4, 2) := by decide +kernel
theorem dX5_sector_169 : decode cX5_sector 169 = .ok (.goto 54, 3) := by decide +kernel
theorem dX5_sector_172 : decode cX5_sector 172 = .ok (.iload_n 2, 1) := by decide +kernel
theorem dX5_sector_173 : decode cX5_sector 173 = .ok (.iconst 2, 1) := by decide +kernel
theorem dX5_sector_174 : decode cX5_sector 174 = .ok (.if_icmp .ne 18, 3) := by decide +kernel
theorem dX5_sector_177 : decode cX5_sector 177 = .ok (.aload_n 0, 1) := by decide +kernel
theorem dX5_sector_178 : decode cX5_sector 178 = .ok (.getfield 19, 3) := by decide +kernel
theorem dX5_sector_181 : decode cX5_sector 181 = .ok (.sipush 288, 3) := by decide +kernel
theorem dX5_sector_184 : decode cX5_sector 184 = .ok (.iaload, 1) := by decide +kernel
theorem dX5_sector_185 : decode cX5_sector 185 = .ok (.iload_n 1, 1) := by decide +kernel
theorem dX5_sector_186 : decode cX5_sector 186 = .ok (.ishr, 1) := by decide +kernel
theorem dX5_sector_187 : decode cX5_sector 187 = .ok (.iconst 1, 1) := by decide +kernel
theorem dX5_sector_188 : decode cX5_sector 188 = .ok (.iand, 1) := by decide +kernel
theorem dX5_sector_189 : decode cX5_sector 189 = .ok (.goto 34, 3) := by decide +kernel
theorem dX5_sector_192 : decode cX5_sector 192 = .ok (.iload_n 2, 1) := by decide +kernel
theorem dX5_sector_193 : decode cX5_sector 193 = .ok (.iconst 3, 1) := by decide +kernel
theorem dX5_sector_194 : decode cX5_sector 194 = .ok (.if_icmp .ne 19, 3) := by decide +kernel
theorem dX5_sector_197 : decode cX5_sector 197 = .ok (.aload_n 0, 1) := by decide +kernel
theorem dX5_sector_198 : decode cX5_sector 198 = .ok (.iload_n 1, 1) := by decide +kernel
theorem dX5_sector_199 : decode cX5_sector 199 = .ok (.invokevirtual 107, 3) := by decide +kernel
theorem dX5_sector_202 : decode cX5_sector 202 = .ok (.ifCond .eq 7, 3) := by decide +kernel
theorem dX5_sector_205 : decode cX5_sector 205 = .ok (.iconst 1, 1) := by decide +kernel
theorem dX5_sector_206 : decode cX5_sector 206 = .ok (.goto 17, 3) := by decide +kernel
theorem dX5_sector_209 : decode cX5_sector 209 = .ok (.iconst 0, 1) := by decide +kernel
theorem dX5_sector_210 : decode cX5_sector 210 = .ok (.goto 13, 3) := by decide +kernel
theorem dX5_sector_213 : decode cX5_sector 213 = .ok (.iload 5, 2) := by decide +kernel
theorem dX5_sector_215 : decode cX5_sector 215 = .ok (.ifCond .eq 7, 3) := by decide +kernel
theorem dX5_sector_218 : decode cX5_sector 218 = .ok (.iconst 1, 1) := by decide +kernel
theorem dX5_sector_219 : decode cX5_sector 219 = .ok (.goto 4, 3) := by decide +kernel
theorem dX5_sector_222 : decode cX5_sector 222 = .ok (.iconst 0, 1) := by decide +kernel
theorem dX5_sector_223 : decode cX5_sector 223 = .ok (.ireturn, 1) := by decide +kernel
theorem dX5_table_0 : decode cX5_table 0 = .ok (.iload_n 1, 1) := by decide +kernel
theorem dX5_table_1 : decode cX5_table 1 = .ok (.i2l, 1) := by decide +kernel
theorem dX5_table_2 : decode cX5_table 2 = .ok (.lconst 0, 1) := by decide +kernel
theorem dX5_table_3 : decode cX5_table 3 = .ok (.ldc2_w 155, 3) := by decide +kernel
theorem dX5_table_6 : decode cX5_table 6 = .ok (.invokestatic 40, 3) := by decide +kernel
theorem dX5_table_9 : decode cX5_table 9 = .ok (.ifCond .eq 11, 3) := by decide +kernel
theorem dX5_table_12 : decode cX5_table 12 = .ok (.aload_n 0, 1) := by decide +kernel
theorem dX5_table_13 : decode cX5_table 13 = .ok (.iload_n 1, 1) := by decide +kernel
theorem dX5_table_14 : decode cX5_table 14 = .ok (.invokevirtual 95, 3) := by decide +kernel
theorem dX5_table_17 : decode cX5_table 17 = .ok (.goto 4, 3) := by decide +kernel
theorem dX5_table_20 : decode cX5_table 20 = .ok (.iconst (-1), 1) := by decide +kernel
theorem dX5_table_21 : decode cX5_table 21 = .ok (.ireturn, 1) := by decide +kernel
theorem dX5_keep_0 : decode cX5_keep 0 = .ok (.aload_n 0, 1) := by decide +kernel
theorem dX5_keep_1 : decode cX5_keep 1 = .ok (.getfield 32, 3) := by decide +kernel
theorem dX5_keep_4 : decode cX5_keep 4 = .ok (.iconst 2, 1) := by decide +kernel
theorem dX5_keep_5 : decode cX5_keep 5 = .ok (.if_icmp .ne 6, 3) := by decide +kernel
theorem dX5_keep_8 : decode cX5_keep 8 = .ok (.bipush (-3), 2) := by decide +kernel
theorem dX5_keep_10 : decode cX5_keep 10 = .ok (.ireturn, 1) := by decide +kernel
theorem dX5_keep_11 : decode cX5_keep 11 = .ok (.iconst 0, 1) := by decide +kernel
theorem dX5_keep_12 : decode cX5_keep 12 = .ok (.istore_n 1, 1) := by decide +kernel
theorem dX5_keep_13 : decode cX5_keep 13 = .ok (.iload_n 1, 1) := by decide +kernel
theorem dX5_keep_14 : decode cX5_keep 14 = .ok (.sipush 306, 3) := by decide +kernel
theorem dX5_keep_17 : decode cX5_keep 17 = .ok (.if_icmp .ge 30, 3) := by decide +kernel
theorem dX5_keep_20 : decode cX5_keep 20 = .ok (.aload_n 0, 1) := by decide +kernel
theorem dX5_keep_21 : decode cX5_keep 21 = .ok (.getfield 22, 3) := by decide +kernel
theorem dX5_keep_24 : decode cX5_keep 24 = .ok (.sipush 306, 3) := by decide +kernel
theorem dX5_keep_27 : decode cX5_keep 27 = .ok (.aload_n 0, 1) := by decide +kernel
theorem dX5_keep_28 : decode cX5_keep 28 = .ok (.getfield 32, 3) := by decide +kernel
theorem dX5_keep_31 : decode cX5_keep 31 = .ok (.imul, 1) := by decide +kernel
theorem dX5_keep_32 : decode cX5_keep 32 = .ok (.iload_n 1, 1) := by decide +kernel
theorem dX5_keep_33 : decode cX5_keep 33 = .ok (.iadd, 1) := by decide +kernel
theorem dX5_keep_34 : decode cX5_keep 34 = .ok (.aload_n 0, 1) := by decide +kernel
theorem dX5_keep_35 : decode cX5_keep 35 = .ok (.getfield 19, 3) := by decide +kernel
theorem dX5_keep_38 : decode cX5_keep 38 = .ok (.iload_n 1, 1) := by decide +kernel
theorem dX5_keep_39 : decode cX5_keep 39 = .ok (.iaload, 1) := by decide +kernel
theorem dX5_keep_40 : decode cX5_keep 40 = .ok (.iastore, 1) := by decide +kernel
theorem dX5_keep_41 : decode cX5_keep 41 = .ok (.iinc 1 1, 3) := by decide +kernel
theorem dX5_keep_44 : decode cX5_keep 44 = .ok (.goto (-31), 3) := by decide +kernel
theorem dX5_keep_47 : decode cX5_keep 47 = .ok (.aload_n 0, 1) := by decide +kernel
theorem dX5_keep_48 : decode cX5_keep 48 = .ok (.dup, 1) := by decide +kernel
theorem dX5_keep_49 : decode cX5_keep 49 = .ok (.getfield 32, 3) := by decide +kernel
theorem dX5_keep_52 : decode cX5_keep 52 = .ok (.iconst 1, 1) := by decide +kernel
theorem dX5_keep_53 : decode cX5_keep 53 = .ok (.iadd, 1) := by decide +kernel
theorem dX5_keep_54 : decode cX5_keep 54 = .ok (.putfield 32, 3) := by decide +kernel
theorem dX5_keep_57 : decode cX5_keep 57 = .ok (.aload_n 0, 1) := by decide +kernel
theorem dX5_keep_58 : decode cX5_keep 58 = .ok (.getfield 32, 3) := by decide +kernel
theorem dX5_keep_61 : decode cX5_keep 61 = .ok (.ireturn, 1) := by decide +kernel
theorem dX5_back_0 : decode cX5_back 0 = .ok (.aload_n 0, 1) := by decide +kernel
theorem dX5_back_1 : decode cX5_back 1 = .ok (.getfield 32, 3) := by decide +kernel
theorem dX5_back_4 : decode cX5_back 4 = .ok (.ifCond .ne 6, 3) := by decide +kernel
theorem dX5_back_7 : decode cX5_back 7 = .ok (.bipush (-2), 2) := by decide +kernel
theorem dX5_back_9 : decode cX5_back 9 = .ok (.ireturn, 1) := by decide +kernel
theorem dX5_back_10 : decode cX5_back 10 = .ok (.aload_n 0, 1) := by decide +kernel
theorem dX5_back_11 : decode cX5_back 11 = .ok (.dup, 1) := by decide +kernel
theorem dX5_back_12 : decode cX5_back 12 = .ok (.getfield 32, 3) := by decide +kernel
theorem dX5_back_15 : decode cX5_back 15 = .ok (.iconst 1, 1) := by decide +kernel
theorem dX5_back_16 : decode cX5_back 16 = .ok (.isub, 1) := by decide +kernel
theorem dX5_back_17 : decode cX5_back 17 = .ok (.putfield 32, 3) := by decide +kernel
theorem dX5_back_20 : decode cX5_back 20 = .ok (.iconst 0, 1) := by decide +kernel
theorem dX5_back_21 : decode cX5_back 21 = .ok (.istore_n 1, 1) := by decide +kernel
theorem dX5_back_22 : decode cX5_back 22 = .ok (.iload_n 1, 1) := by decide +kernel
theorem dX5_back_23 : decode cX5_back 23 = .ok (.sipush 306, 3) := by decide +kernel
theorem dX5_back_26 : decode cX5_back 26 = .ok (.if_icmp .ge 30, 3) := by decide +kernel
theorem dX5_back_29 : decode cX5_back 29 = .ok (.aload_n 0, 1) := by decide +kernel
theorem dX5_back_30 : decode cX5_back 30 = .ok (.getfield 19, 3) := by decide +kernel
theorem dX5_back_33 : decode cX5_back 33 = .ok (.iload_n 1, 1) := by decide +kernel
theorem dX5_back_34 : decode cX5_back 34 = .ok (.aload_n 0, 1) := by decide +kernel
theorem dX5_back_35 : decode cX5_back 35 = .ok (.getfield 22, 3) := by decide +kernel
theorem dX5_back_38 : decode cX5_back 38 = .ok (.sipush 306, 3) := by decide +kernel
theorem dX5_back_41 : decode cX5_back 41 = .ok (.aload_n 0, 1) := by decide +kernel
theorem dX5_back_42 : decode cX5_back 42 = .ok (.getfield 32, 3) := by decide +kernel
theorem dX5_back_45 : decode cX5_back 45 = .ok (.imul, 1) := by decide +kernel
theorem dX5_back_46 : decode cX5_back 46 = .ok (.iload_n 1, 1) := by decide +kernel
theorem dX5_back_47 : decode cX5_back 47 = .ok (.iadd, 1) := by decide +kernel
theorem dX5_back_48 : decode cX5_back 48 = .ok (.iaload, 1) := by decide +kernel
theorem dX5_back_49 : decode cX5_back 49 = .ok (.iastore, 1) := by decide +kernel
theorem dX5_back_50 : decode cX5_back 50 = .ok (.iinc 1 1, 3) := by decide +kernel
theorem dX5_back_53 : decode cX5_back 53 = .ok (.goto (-31), 3) := by decide +kernel
theorem dX5_back_56 : decode cX5_back 56 = .ok (.aload_n 0, 1) := by decide +kernel
theorem dX5_back_57 : decode cX5_back 57 = .ok (.getfield 32, 3) := by decide +kernel
theorem dX5_back_60 : decode cX5_back 60 = .ok (.ireturn, 1) := by decide +kernel
theorem dX5_unlike_0 : decode cX5_unlike 0 = .ok (.aload_n 0, 1) := by decide +kernel
theorem dX5_unlike_1 : decode cX5_unlike 1 = .ok (.getfield 32, 3) := by decide +kernel
theorem dX5_unlike_4 : decode cX5_unlike 4 = .ok (.ifCond .ne 6, 3) := by decide +kernel
theorem dX5_unlike_7 : decode cX5_unlike 7 = .ok (.bipush (-2), 2) := by decide +kernel
theorem dX5_unlike_9 : decode cX5_unlike 9 = .ok (.ireturn, 1) := by decide +kernel
theorem dX5_unlike_10 : decode cX5_unlike 10 = .ok (.iconst 0, 1) := by decide +kernel
theorem dX5_unlike_11 : decode cX5_unlike 11 = .ok (.istore_n 1, 1) := by decide +kernel
theorem dX5_unlike_12 : decode cX5_unlike 12 = .ok (.iconst 0, 1) := by decide +kernel
theorem dX5_unlike_13 : decode cX5_unlike 13 = .ok (.istore_n 2, 1) := by decide +kernel
theorem dX5_unlike_14 : decode cX5_unlike 14 = .ok (.iload_n 2, 1) := by decide +kernel
theorem dX5_unlike_15 : decode cX5_unlike 15 = .ok (.aload_n 0, 1) := by decide +kernel
theorem dX5_unlike_16 : decode cX5_unlike 16 = .ok (.invokevirtual 89, 3) := by decide +kernel
theorem dX5_unlike_19 : decode cX5_unlike 19 = .ok (.if_icmp .ge 43, 3) := by decide +kernel
theorem dX5_unlike_22 : decode cX5_unlike 22 = .ok (.iload_n 1, 1) := by decide +kernel
theorem dX5_unlike_23 : decode cX5_unlike 23 = .ok (.aload_n 0, 1) := by decide +kernel
theorem dX5_unlike_24 : decode cX5_unlike 24 = .ok (.getfield 19, 3) := by decide +kernel
theorem dX5_unlike_27 : decode cX5_unlike 27 = .ok (.iload_n 2, 1) := by decide +kernel
theorem dX5_unlike_28 : decode cX5_unlike 28 = .ok (.iaload, 1) := by decide +kernel
theorem dX5_unlike_29 : decode cX5_unlike 29 = .ok (.aload_n 0, 1) := by decide +kernel
theorem dX5_unlike_30 : decode cX5_unlike 30 = .ok (.getfield 22, 3) := by decide +kernel
theorem dX5_unlike_33 : decode cX5_unlike 33 = .ok (.sipush 306, 3) := by decide +kernel
theorem dX5_unlike_36 : decode cX5_unlike 36 = .ok (.aload_n 0, 1) := by decide +kernel
theorem dX5_unlike_37 : decode cX5_unlike 37 = .ok (.getfield 32, 3) := by decide +kernel
theorem dX5_unlike_40 : decode cX5_unlike 40 = .ok (.iconst 1, 1) := by decide +kernel
theorem dX5_unlike_41 : decode cX5_unlike 41 = .ok (.isub, 1) := by decide +kernel
theorem dX5_unlike_42 : decode cX5_unlike 42 = .ok (.imul, 1) := by decide +kernel
theorem dX5_unlike_43 : decode cX5_unlike 43 = .ok (.iload_n 2, 1) := by decide +kernel
theorem dX5_unlike_44 : decode cX5_unlike 44 = .ok (.iadd, 1) := by decide +kernel
theorem dX5_unlike_45 : decode cX5_unlike 45 = .ok (.iaload, 1) := by decide +kernel
theorem dX5_unlike_46 : decode cX5_unlike 46 = .ok (.if_icmp .eq 7, 3) := by decide +kernel
theorem dX5_unlike_49 : decode cX5_unlike 49 = .ok (.iconst 1, 1) := by decide +kernel
theorem dX5_unlike_50 : decode cX5_unlike 50 = .ok (.goto 4, 3) := by decide +kernel
theorem dX5_unlike_53 : decode cX5_unlike 53 = .ok (.iconst 0, 1) := by decide +kernel
theorem dX5_unlike_54 : decode cX5_unlike 54 = .ok (.iadd, 1) := by decide +kernel
theorem dX5_unlike_55 : decode cX5_unlike 55 = .ok (.istore_n 1, 1) := by decide +kernel
theorem dX5_unlike_56 : decode cX5_unlike 56 = .ok (.iinc 2 1, 3) := by decide +kernel
theorem dX5_unlike_59 : decode cX5_unlike 59 = .ok (.goto (-45), 3) := by decide +kernel
theorem dX5_unlike_62 : decode cX5_unlike 62 = .ok (.iload_n 1, 1) := by decide +kernel
theorem dX5_unlike_63 : decode cX5_unlike 63 = .ok (.ireturn, 1) := by decide +kernel
theorem dX5_count_0 : decode cX5_count 0 = .ok (.iload_n 1, 1) := by decide +kernel
theorem dX5_count_1 : decode cX5_count 1 = .ok (.tableswitch 200 0 13 #[71, 76, 76, 76, 76, 76, 85, 96, 101, 110, 156, 181, 186, 191], 71) := by decide +kernel
theorem dX5_count_72 : decode cX5_count 72 = .ok (.aload_n 0, 1) := by decide +kernel
theorem dX5_count_73 : decode cX5_count 73 = .ok (.invokevirtual 89, 3) := by decide +kernel
theorem dX5_count_76 : decode cX5_count 76 = .ok (.ireturn, 1) := by decide +kernel
theorem dX5_count_77 : decode cX5_count 77 = .ok (.aload_n 0, 1) := by decide +kernel
theorem dX5_count_78 : decode cX5_count 78 = .ok (.getfield 13, 3) := by decide +kernel
theorem dX5_count_81 : decode cX5_count 81 = .ok (.iload_n 1, 1) := by decide +kernel
theorem dX5_count_82 : decode cX5_count 82 = .ok (.iconst 1, 1) := by decide +kernel
theorem dX5_count_83 : decode cX5_count 83 = .ok (.isub, 1) := by decide +kernel
theorem dX5_count_84 : decode cX5_count 84 = .ok (.iaload, 1) := by decide +kernel
theorem dX5_count_85 : decode cX5_count 85 = .ok (.ireturn, 1) := by decide +kernel
theorem dX5_count_86 : decode cX5_count 86 = .ok (.iconst 1, 1) := by decide +kernel
theorem dX5_count_87 : decode cX5_count 87 = .ok (.aload_n 0, 1) := by decide +kernel
theorem dX5_count_88 : decode cX5_count 88 = .ok (.getfield 19, 3) := by decide +kernel
theorem dX5_count_91 : decode cX5_count 91 = .ok (.sipush 289, 3) := by decide +kernel
theorem dX5_count_94 : decode cX5_count 94 = .ok (.iaload, 1) := by decide +kernel
theorem dX5_count_95 : decode cX5_count 95 = .ok (.ishl, 1) := by decide +kernel
theorem dX5_count_96 : decode cX5_count 96 = .ok (.ireturn, 1) := by decide +kernel
theorem dX5_count_97 : decode cX5_count 97 = .ok (.aload_n 0, 1) := by decide +kernel
theorem dX5_count_98 : decode cX5_count 98 = .ok (.invokevirtual 92, 3) := by decide +kernel
theorem dX5_count_101 : decode cX5_count 101 = .ok (.ireturn, 1) := by decide +kernel
theorem dX5_count_102 : decode cX5_count 102 = .ok (.aload_n 0, 1) := by decide +kernel
theorem dX5_count_103 : decode cX5_count 103 = .ok (.getfield 19, 3) := by decide +kernel
theorem dX5_count_106 : decode cX5_count 106 = .ok (.sipush 304, 3) := by decide +kernel
theorem dX5_count_109 : decode cX5_count 109 = .ok (.iaload, 1) := by decide +kernel
theorem dX5_count_110 : decode cX5_count 110 = .ok (.ireturn, 1) := by decide +kernel
theorem dX5_count_111 : decode cX5_count 111 = .ok (.aload_n 0, 1) := by decide +kernel
theorem dX5_count_112 : decode cX5_count 112 = .ok (.getfield 19, 3) := by decide +kernel
theorem dX5_count_115 : decode cX5_count 115 = .ok (.sipush 293, 3) := by decide +kernel
theorem dX5_count_118 : decode cX5_count 118 = .ok (.iaload, 1) := by decide +kernel
theorem dX5_count_119 : decode cX5_count 119 = .ok (.ifCond .le 14, 3) := by decide +kernel
theorem dX5_count_122 : decode cX5_count 122 = .ok (.aload_n 0, 1) := by decide +kernel
theorem dX5_count_123 : decode cX5_count 123 = .ok (.getfield 19, 3) := by decide +kernel
theorem dX5_count_126 : decode cX5_count 126 = .ok (.sipush 295, 3) := by decide +kernel
theorem dX5_count_129 : decode cX5_count 129 = .ok (.iaload, 1) := by decide +kernel
theorem dX5_count_130 : decode cX5_count 130 = .ok (.goto 26, 3) := by decide +kernel
theorem dX5_count_133 : decode cX5_count 133 = .ok (.aload_n 0, 1) := by decide +kernel
theorem dX5_count_134 : decode cX5_count 134 = .ok (.getfield 19, 3) := by decide +kernel
theorem dX5_count_137 : decode cX5_count 137 = .ok (.sipush 296, 3) := by decide +kernel
theorem dX5_count_140 : decode cX5_count 140 = .ok (.iaload, 1) := by decide +kernel
theorem dX5_count_141 : decode cX5_count 141 = .ok (.ifCond .le 14, 3) := by decide +kernel
theorem dX5_count_144 : decode cX5_count 144 = .ok (.aload_n 0, 1) := by decide +kernel
theorem dX5_count_145 : decode cX5_count 145 = .ok (.getfield 19, 3) := by decide +kernel
theorem dX5_count_148 : decode cX5_count 148 = .ok (.sipush 297, 3) := by decide +kernel
theorem dX5_count_151 : decode cX5_count 151 = .ok (.iaload, 1) := by decide +kernel
theorem dX5_count_152 : decode cX5_count 152 = .ok (.goto 4, 3) := by decide +kernel
theorem dX5_count_155 : decode cX5_count 155 = .ok (.iconst 0, 1) := by decide +kernel
theorem dX5_count_156 : decode cX5_count 156 = .ok (.ireturn, 1) := by decide +kernel
theorem dX5_count_157 : decode cX5_count 157 = .ok (.aload_n 0, 1) := by decide +kernel
theorem dX5_count_158 : decode cX5_count 158 = .ok (.getfield 19, 3) := by decide +kernel
theorem dX5_count_161 : decode cX5_count 161 = .ok (.sipush 298, 3) := by decide +kernel
theorem dX5_count_164 : decode cX5_count 164 = .ok (.iaload, 1) := by decide +kernel
theorem dX5_count_165 : decode cX5_count 165 = .ok (.iconst 1, 1) := by decide +kernel
theorem dX5_count_166 : decode cX5_count 166 = .ok (.if_icmp .ne 14, 3) := by decide +kernel
theorem dX5_count_169 : decode cX5_count 169 = .ok (.aload_n 0, 1) := by decide +kernel
theorem dX5_count_170 : decode cX5_count 170 = .ok (.getfield 19, 3) := by decide +kernel
theorem dX5_count_173 : decode cX5_count 173 = .ok (.sipush 299, 3) := by decide +kernel
theorem dX5_count_176 : decode cX5_count 176 = .ok (.iaload, 1) := by decide +kernel
theorem dX5_count_177 : decode cX5_count 177 = .ok (.goto 4, 3) := by decide +kernel
theorem dX5_count_180 : decode cX5_count 180 = .ok (.iconst 0, 1) := by decide +kernel
theorem dX5_count_181 : decode cX5_count 181 = .ok (.ireturn, 1) := by decide +kernel
theorem dX5_count_182 : decode cX5_count 182 = .ok (.aload_n 0, 1) := by decide +kernel
theorem dX5_count_183 : decode cX5_count 183 = .ok (.getfield 32, 3) := by decide +kernel
theorem dX5_count_186 : decode cX5_count 186 = .ok (.ireturn, 1) := by decide +kernel
theorem dX5_count_187 : decode cX5_count 187 = .ok (.aload_n 0, 1) := by decide +kernel
theorem dX5_count_188 : decode cX5_count 188 = .ok (.getfield 44, 3) := by decide +kernel
theorem dX5_count_191 : decode cX5_count 191 = .ok (.ireturn, 1) := by decide +kernel
theorem dX5_count_192 : decode cX5_count 192 = .ok (.aload_n 0, 1) := by decide +kernel
theorem dX5_count_193 : decode cX5_count 193 = .ok (.getfield 19, 3) := by decide +kernel
theorem dX5_count_196 : decode cX5_count 196 = .ok (.sipush 305, 3) := by decide +kernel
theorem dX5_count_199 : decode cX5_count 199 = .ok (.iaload, 1) := by decide +kernel
theorem dX5_count_200 : decode cX5_count 200 = .ok (.ireturn, 1) := by decide +kernel
theorem dX5_count_201 : decode cX5_count 201 = .ok (.iconst (-1), 1) := by decide +kernel
theorem dX5_count_202 : decode cX5_count 202 = .ok (.ireturn, 1) := by decide +kernel
end
section
theorem dL_law_0 : decode cL_law 0 = .ok (.new 7, 3) := by decide +kernel
theorem dL_law_3 : decode cL_law 3 = .ok (.dup, 1) := by decide +kernel
theorem dL_law_4 : decode cL_law 4 = .ok (.invokespecial 9, 3) := by decide +kernel
theorem dL_law_7 : decode cL_law 7 = .ok (.astore_n 1, 1) := by decide +kernel
theorem dL_law_8 : decode cL_law 8 = .ok (.new 10, 3) := by decide +kernel
theorem dL_law_11 : decode cL_law 11 = .ok (.dup, 1) := by decide +kernel
theorem dL_law_12 : decode cL_law 12 = .ok (.invokespecial 12, 3) := by decide +kernel
theorem dL_law_15 : decode cL_law 15 = .ok (.astore_n 2, 1) := by decide +kernel
theorem dL_law_16 : decode cL_law 16 = .ok (.iconst 0, 1) := by decide +kernel
theorem dL_law_17 : decode cL_law 17 = .ok (.istore_n 3, 1) := by decide +kernel
theorem dL_law_18 : decode cL_law 18 = .ok (.iload_n 3, 1) := by decide +kernel
theorem dL_law_19 : decode cL_law 19 = .ok (.aload_n 0, 1) := by decide +kernel
theorem dL_law_20 : decode cL_law 20 = .ok (.arraylength, 1) := by decide +kernel
theorem dL_law_21 : decode cL_law 21 = .ok (.iconst 5, 1) := by decide +kernel
theorem dL_law_22 : decode cL_law 22 = .ok (.isub, 1) := by decide +kernel
theorem dL_law_23 : decode cL_law 23 = .ok (.if_icmp .gt 470, 3) := by decide +kernel
theorem dL_law_26 : decode cL_law 26 = .ok (.aload_n 0, 1) := by decide +kernel
theorem dL_law_27 : decode cL_law 27 = .ok (.iload_n 3, 1) := by decide +kernel
theorem dL_law_28 : decode cL_law 28 = .ok (.iaload, 1) := by decide +kernel
theorem dL_law_29 : decode cL_law 29 = .ok (.bipush 31, 2) := by decide +kernel
theorem dL_law_31 : decode cL_law 31 = .ok (.iand, 1) := by decide +kernel
theorem dL_law_32 : decode cL_law 32 = .ok (.tableswitch 455 0 16 #[84, 107, 120, 133, 146, 159, 182, 195, 248, 291, 314, 337, 370, 393, 406, 419, 432], 84) := by decide +kernel
theorem dL_law_116 : decode cL_law 116 = .ok (.aload_n 1, 1) := by decide +kernel
theorem dL_law_117 : decode cL_law 117 = .ok (.aload_n 0, 1) := by decide +kernel
theorem dL_law_118 : decode cL_law 118 = .ok (.iload_n 3, 1) := by decide +kernel
theorem dL_law_119 : decode cL_law 119 = .ok (.iconst 1, 1) := by decide +kernel
theorem dL_law_120 : decode cL_law 120 = .ok (.iadd, 1) := by decide +kernel
theorem dL_law_121 : decode cL_law 121 = .ok (.iaload, 1) := by decide +kernel
theorem dL_law_122 : decode cL_law 122 = .ok (.invokevirtual 13, 3) := by decide +kernel
theorem dL_law_125 : decode cL_law 125 = .ok (.aload_n 2, 1) := by decide +kernel
theorem dL_law_126 : decode cL_law 126 = .ok (.aload_n 0, 1) := by decide +kernel
theorem dL_law_127 : decode cL_law 127 = .ok (.iload_n 3, 1) := by decide +kernel
theorem dL_law_128 : decode cL_law 128 = .ok (.iconst 1, 1) := by decide +kernel
theorem dL_law_129 : decode cL_law 129 = .ok (.iadd, 1) := by decide +kernel
theorem dL_law_130 : decode cL_law 130 = .ok (.iaload, 1) := by decide +kernel
theorem dL_law_131 : decode cL_law 131 = .ok (.invokevirtual 17, 3) := by decide +kernel
theorem dL_law_134 : decode cL_law 134 = .ok (.if_icmp .eq 353, 3) := by decide +kernel
theorem dL_law_137 : decode cL_law 137 = .ok (.iconst 0, 1) := by decide +kernel
theorem dL_law_138 : decode cL_law 138 = .ok (.ireturn, 1) := by decide +kernel
theorem dL_law_139 : decode cL_law 139 = .ok (.aload_n 1, 1) := by decide +kernel
theorem dL_law_140 : decode cL_law 140 = .ok (.invokevirtual 18, 3) := by decide +kernel
theorem dL_law_143 : decode cL_law 143 = .ok (.aload_n 2, 1) := by decide +kernel
theorem dL_law_144 : decode cL_law 144 = .ok (.invokevirtual 22, 3) := by decide +kernel
theorem dL_law_147 : decode cL_law 147 = .ok (.if_icmp .eq 340, 3) := by decide +kernel
theorem dL_law_150 : decode cL_law 150 = .ok (.iconst 0, 1) := by decide +kernel
theorem dL_law_151 : decode cL_law 151 = .ok (.ireturn, 1) := by decide +kernel
theorem dL_law_152 : decode cL_law 152 = .ok (.aload_n 1, 1) := by decide +kernel
theorem dL_law_153 : decode cL_law 153 = .ok (.invokevirtual 23, 3) := by decide +kernel
theorem dL_law_156 : decode cL_law 156 = .ok (.aload_n 2, 1) := by decide +kernel
theorem dL_law_157 : decode cL_law 157 = .ok (.invokevirtual 26, 3) := by decide +kernel
theorem dL_law_160 : decode cL_law 160 = .ok (.if_icmp .eq 327, 3) := by decide +kernel
theorem dL_law_163 : decode cL_law 163 = .ok (.iconst 0, 1) := by decide +kernel
theorem dL_law_164 : decode cL_law 164 = .ok (.ireturn, 1) := by decide +kernel
theorem dL_law_165 : decode cL_law 165 = .ok (.aload_n 1, 1) := by decide +kernel
theorem dL_law_166 : decode cL_law 166 = .ok (.invokevirtual 27, 3) := by decide +kernel
theorem dL_law_169 : decode cL_law 169 = .ok (.aload_n 2, 1) := by decide +kernel
theorem dL_law_170 : decode cL_law 170 = .ok (.invokevirtual 30, 3) := by decide +kernel
theorem dL_law_173 : decode cL_law 173 = .ok (.if_icmp .eq 314, 3) := by decide +kernel
theorem dL_law_176 : decode cL_law 176 = .ok (.iconst 0, 1) := by decide +kernel
theorem dL_law_177 : decode cL_law 177 = .ok (.ireturn, 1) := by decide +kernel
theorem dL_law_178 : decode cL_law 178 = .ok (.aload_n 1, 1) := by decide +kernel
theorem dL_law_179 : decode cL_law 179 = .ok (.invokevirtual 31, 3) := by decide +kernel
theorem dL_law_182 : decode cL_law 182 = .ok (.aload_n 2, 1) := by decide +kernel
theorem dL_law_183 : decode cL_law 183 = .ok (.invokevirtual 34, 3) := by decide +kernel
theorem dL_law_186 : decode cL_law 186 = .ok (.if_icmp .eq 301, 3) := by decide +kernel
theorem dL_law_189 : decode cL_law 189 = .ok (.iconst 0, 1) := by decide +kernel
theorem dL_law_190 : decode cL_law 190 = .ok (.ireturn, 1) := by decide +kernel
theorem dL_law_191 : decode cL_law 191 = .ok (.aload_n 1, 1) := by decide +kernel
theorem dL_law_192 : decode cL_law 192 = .ok (.aload_n 0, 1) := by decide +kernel
theorem dL_law_193 : decode cL_law 193 = .ok (.iload_n 3, 1) := by decide +kernel
theorem dL_law_194 : decode cL_law 194 = .ok (.iconst 1, 1) := by decide +kernel
theorem dL_law_195 : decode cL_law 195 = .ok (.iadd, 1) := by decide +kernel
theorem dL_law_196 : decode cL_law 196 = .ok (.iaload, 1) := by decide +kernel
theorem dL_law_197 : decode cL_law 197 = .ok (.invokevirtual 35, 3) := by decide +kernel
theorem dL_law_200 : decode cL_law 200 = .ok (.aload_n 2, 1) := by decide +kernel
theorem dL_law_201 : decode cL_law 201 = .ok (.aload_n 0, 1) := by decide +kernel
theorem dL_law_202 : decode cL_law 202 = .ok (.iload_n 3, 1) := by decide +kernel
theorem dL_law_203 : decode cL_law 203 = .ok (.iconst 1, 1) := by decide +kernel
theorem dL_law_204 : decode cL_law 204 = .ok (.iadd, 1) := by decide +kernel
theorem dL_law_205 : decode cL_law 205 = .ok (.iaload, 1) := by decide +kernel
theorem dL_law_206 : decode cL_law 206 = .ok (.invokevirtual 38, 3) := by decide +kernel
theorem dL_law_209 : decode cL_law 209 = .ok (.if_icmp .eq 278, 3) := by decide +kernel
theorem dL_law_212 : decode cL_law 212 = .ok (.iconst 0, 1) := by decide +kernel
theorem dL_law_213 : decode cL_law 213 = .ok (.ireturn, 1) := by decide +kernel
theorem dL_law_214 : decode cL_law 214 = .ok (.aload_n 1, 1) := by decide +kernel
theorem dL_law_215 : decode cL_law 215 = .ok (.invokevirtual 39, 3) := by decide +kernel
theorem dL_law_218 : decode cL_law 218 = .ok (.aload_n 2, 1) := by decide +kernel
theorem dL_law_219 : decode cL_law 219 = .ok (.invokevirtual 42, 3) := by decide +kernel
theorem dL_law_222 : decode cL_law 222 = .ok (.if_icmp .eq 265, 3) := by decide +kernel
theorem dL_law_225 : decode cL_law 225 = .ok (.iconst 0, 1) := by decide +kernel
theorem dL_law_226 : decode cL_law 226 = .ok (.ireturn, 1) := by decide +kernel
theorem dL_law_227 : decode cL_law 227 = .ok (.aload_n 1, 1) := by decide +kernel
theorem dL_law_228 : decode cL_law 228 = .ok (.aload_n 0, 1) := by decide +kernel
theorem dL_law_229 : decode cL_law 229 = .ok (.iload_n 3, 1) := by decide +kernel
theorem dL_law_230 : decode cL_law 230 = .ok (.iconst 1, 1) := by decide +kernel
theorem dL_law_231 : decode cL_law 231 = .ok (.iadd, 1) := by decide +kernel
theorem dL_law_232 : decode cL_law 232 = .ok (.iaload, 1) := by decide +kernel
theorem dL_law_233 : decode cL_law 233 = .ok (.aload_n 0, 1) := by decide +kernel
theorem dL_law_234 : decode cL_law 234 = .ok (.iload_n 3, 1) := by decide +kernel
theorem dL_law_235 : decode cL_law 235 = .ok (.iconst 2, 1) := by decide +kernel
theorem dL_law_236 : decode cL_law 236 = .ok (.iadd, 1) := by decide +kernel
theorem dL_law_237 : decode cL_law 237 = .ok (.iaload, 1) := by decide +kernel
theorem dL_law_238 : decode cL_law 238 = .ok (.aload_n 0, 1) := by decide +kernel
theorem dL_law_239 : decode cL_law 239 = .ok (.iload_n 3, 1) := by decide +kernel
theorem dL_law_240 : decode cL_law 240 = .ok (.iconst 3, 1) := by decide +kernel
theorem dL_law_241 : decode cL_law 241 = .ok (.iadd, 1) := by decide +kernel
theorem dL_law_242 : decode cL_law 242 = .ok (.iaload, 1) := by decide +kernel
theorem dL_law_243 : decode cL_law 243 = .ok (.aload_n 0, 1) := by decide +kernel
theorem dL_law_244 : decode cL_law 244 = .ok (.iload_n 3, 1) := by decide +kernel
theorem dL_law_245 : decode cL_law 245 = .ok (.iconst 4, 1) := by decide +kernel
theorem dL_law_246 : decode cL_law 246 = .ok (.iadd, 1) := by decide +kernel
theorem dL_law_247 : decode cL_law 247 = .ok (.iaload, 1) := by decide +kernel
theorem dL_law_248 : decode cL_law 248 = .ok (.invokevirtual 43, 3) := by decide +kernel
theorem dL_law_251 : decode cL_law 251 = .ok (.aload_n 2, 1) := by decide +kernel
theorem dL_law_252 : decode cL_law 252 = .ok (.aload_n 0, 1) := by decide +kernel
theorem dL_law_253 : decode cL_law 253 = .ok (.iload_n 3, 1) := by decide +kernel
theorem dL_law_254 : decode cL_law 254 = .ok (.iconst 1, 1) := by decide +kernel
theorem dL_law_255 : decode cL_law 255 = .ok (.iadd, 1) := by decide +kernel
theorem dL_law_256 : decode cL_law 256 = .ok (.iaload, 1) := by decide +kernel
theorem dL_law_257 : decode cL_law 257 = .ok (.aload_n 0, 1) := by decide +kernel
theorem dL_law_258 : decode cL_law 258 = .ok (.iload_n 3, 1) := by decide +kernel
theorem dL_law_259 : decode cL_law 259 = .ok (.iconst 2, 1) := by decide +kernel
theorem dL_law_260 : decode cL_law 260 = .ok (.iadd, 1) := by decide +kernel
theorem dL_law_261 : decode cL_law 261 = .ok (.iaload, 1) := by decide +kernel
theorem dL_law_262 : decode cL_law 262 = .ok (.aload_n 0, 1) := by decide +kernel
theorem dL_law_263 : decode cL_law 263 = .ok (.iload_n 3, 1) := by decide +kernel
theorem dL_law_264 : decode cL_law 264 = .ok (.iconst 3, 1) := by decide +kernel
theorem dL_law_265 : decode cL_law 265 = .ok (.iadd, 1) := by decide +kernel
theorem dL_law_266 : decode cL_law 266 = .ok (.iaload, 1) := by decide +kernel
theorem dL_law_267 : decode cL_law 267 = .ok (.aload_n 0, 1) := by decide +kernel
theorem dL_law_268 : decode cL_law 268 = .ok (.iload_n 3, 1) := by decide +kernel
theorem dL_law_269 : decode cL_law 269 = .ok (.iconst 4, 1) := by decide +kernel
theorem dL_law_270 : decode cL_law 270 = .ok (.iadd, 1) := by decide +kernel
theorem dL_law_271 : decode cL_law 271 = .ok (.iaload, 1) := by decide +kernel
theorem dL_law_272 : decode cL_law 272 = .ok (.invokevirtual 47, 3) := by decide +kernel
theorem dL_law_275 : decode cL_law 275 = .ok (.if_icmp .eq 212, 3) := by decide +kernel
theorem dL_law_278 : decode cL_law 278 = .ok (.iconst 0, 1) := by decide +kernel
theorem dL_law_279 : decode cL_law 279 = .ok (.ireturn, 1) := by decide +kernel
theorem dL_law_280 : decode cL_law 280 = .ok (.aload_n 1, 1) := by decide +kernel
theorem dL_law_281 : decode cL_law 281 = .ok (.aload_n 0, 1) := by decide +kernel
theorem dL_law_282 : decode cL_law 282 = .ok (.iload_n 3, 1) := by decide +kernel
theorem dL_law_283 : decode cL_law 283 = .ok (.iconst 1, 1) := by decide +kernel
theorem dL_law_284 : decode cL_law 284 = .ok (.iadd, 1) := by decide +kernel
theorem dL_law_285 : decode cL_law 285 = .ok (.iaload, 1) := by decide +kernel
theorem dL_law_286 : decode cL_law 286 = .ok (.aload_n 0, 1) := by decide +kernel
theorem dL_law_287 : decode cL_law 287 = .ok (.iload_n 3, 1) := by decide +kernel
theorem dL_law_288 : decode cL_law 288 = .ok (.iconst 2, 1) := by decide +kernel
theorem dL_law_289 : decode cL_law 289 = .ok (.iadd, 1) := by decide +kernel
theorem dL_law_290 : decode cL_law 290 = .ok (.iaload, 1) := by decide +kernel
theorem dL_law_291 : decode cL_law 291 = .ok (.aload_n 0, 1) := by decide +kernel
theorem dL_law_292 : decode cL_law 292 = .ok (.iload_n 3, 1) := by decide +kernel
theorem dL_law_293 : decode cL_law 293 = .ok (.iconst 3, 1) := by decide +kernel
theorem dL_law_294 : decode cL_law 294 = .ok (.iadd, 1) := by decide +kernel
theorem dL_law_295 : decode cL_law 295 = .ok (.iaload, 1) := by decide +kernel
theorem dL_law_296 : decode cL_law 296 = .ok (.invokevirtual 48, 3) := by decide +kernel
theorem dL_law_299 : decode cL_law 299 = .ok (.aload_n 2, 1) := by decide +kernel
theorem dL_law_300 : decode cL_law 300 = .ok (.aload_n 0, 1) := by decide +kernel
theorem dL_law_301 : decode cL_law 301 = .ok (.iload_n 3, 1) := by decide +kernel
theorem dL_law_302 : decode cL_law 302 = .ok (.iconst 1, 1) := by decide +kernel
theorem dL_law_303 : decode cL_law 303 = .ok (.iadd, 1) := by decide +kernel
theorem dL_law_304 : decode cL_law 304 = .ok (.iaload, 1) := by decide +kernel
theorem dL_law_305 : decode cL_law 305 = .ok (.aload_n 0, 1) := by decide +kernel
theorem dL_law_306 : decode cL_law 306 = .ok (.iload_n 3, 1) := by decide +kernel
theorem dL_law_307 : decode cL_law 307 = .ok (.iconst 2, 1) := by decide +kernel
theorem dL_law_308 : decode cL_law 308 = .ok (.iadd, 1) := by decide +kernel
theorem dL_law_309 : decode cL_law 309 = .ok (.iaload, 1) := by decide +kernel
theorem dL_law_310 : decode cL_law 310 = .ok (.aload_n 0, 1) := by decide +kernel
theorem dL_law_311 : decode cL_law 311 = .ok (.iload_n 3, 1) := by decide +kernel
theorem dL_law_312 : decode cL_law 312 = .ok (.iconst 3, 1) := by decide +kernel
theorem dL_law_313 : decode cL_law 313 = .ok (.iadd, 1) := by decide +kernel
theorem dL_law_314 : decode cL_law 314 = .ok (.iaload, 1) := by decide +kernel
theorem dL_law_315 : decode cL_law 315 = .ok (.invokevirtual 52, 3) := by decide +kernel
theorem dL_law_318 : decode cL_law 318 = .ok (.if_icmp .eq 169, 3) := by decide +kernel
theorem dL_law_321 : decode cL_law 321 = .ok (.iconst 0, 1) := by decide +kernel
theorem dL_law_322 : decode cL_law 322 = .ok (.ireturn, 1) := by decide +kernel
theorem dL_law_323 : decode cL_law 323 = .ok (.aload_n 1, 1) := by decide +kernel
theorem dL_law_324 : decode cL_law 324 = .ok (.aload_n 0, 1) := by decide +kernel
theorem dL_law_325 : decode cL_law 325 = .ok (.iload_n 3, 1) := by decide +kernel
theorem dL_law_326 : decode cL_law 326 = .ok (.iconst 1, 1) := by decide +kernel
theorem dL_law_327 : decode cL_law 327 = .ok (.iadd, 1) := by decide +kernel
theorem dL_law_328 : decode cL_law 328 = .ok (.iaload, 1) := by decide +kernel
theorem dL_law_329 : decode cL_law 329 = .ok (.invokevirtual 53, 3) := by decide +kernel
theorem dL_law_332 : decode cL_law 332 = .ok (.aload_n 2, 1) := by decide +kernel
theorem dL_law_333 : decode cL_law 333 = .ok (.aload_n 0, 1) := by decide +kernel
theorem dL_law_334 : decode cL_law 334 = .ok (.iload_n 3, 1) := by decide +kernel
theorem dL_law_335 : decode cL_law 335 = .ok (.iconst 1, 1) := by decide +kernel
theorem dL_law_336 : decode cL_law 336 = .ok (.iadd, 1) := by decide +kernel
theorem dL_law_337 : decode cL_law 337 = .ok (.iaload, 1) := by decide +kernel
theorem dL_law_338 : decode cL_law 338 = .ok (.invokevirtual 56, 3) := by decide +kernel
theorem dL_law_341 : decode cL_law 341 = .ok (.if_icmp .eq 146, 3) := by decide +kernel
theorem dL_law_344 : decode cL_law 344 = .ok (.iconst 0, 1) := by decide +kernel
theorem dL_law_345 : decode cL_law 345 = .ok (.ireturn, 1) := by decide +kernel
theorem dL_law_346 : decode cL_law 346 = .ok (.aload_n 1, 1) := by decide +kernel
theorem dL_law_347 : decode cL_law 347 = .ok (.aload_n 0, 1) := by decide +kernel
theorem dL_law_348 : decode cL_law 348 = .ok (.iload_n 3, 1) := by decide +kernel
theorem dL_law_349 : decode cL_law 349 = .ok (.iconst 1, 1) := by decide +kernel
theorem dL_law_350 : decode cL_law 350 = .ok (.iadd, 1) := by decide +kernel
theorem dL_law_351 : decode cL_law 351 = .ok (.iaload, 1) := by decide +kernel
theorem dL_law_352 : decode cL_law 352 = .ok (.invokevirtual 57, 3) := by decide +kernel
theorem dL_law_355 : decode cL_law 355 = .ok (.aload_n 2, 1) := by decide +kernel
theorem dL_law_356 : decode cL_law 356 = .ok (.aload_n 0, 1) := by decide +kernel
theorem dL_law_357 : decode cL_law 357 = .ok (.iload_n 3, 1) := by decide +kernel
theorem dL_law_358 : decode cL_law 358 = .ok (.iconst 1, 1) := by decide +kernel
theorem dL_law_359 : decode cL_law 359 = .ok (.iadd, 1) := by decide +kernel
theorem dL_law_360 : decode cL_law 360 = .ok (.iaload, 1) := by decide +kernel
theorem dL_law_361 : decode cL_law 361 = .ok (.invokevirtual 60, 3) := by decide +kernel
theorem dL_law_364 : decode cL_law 364 = .ok (.if_icmp .eq 123, 3) := by decide +kernel
theorem dL_law_367 : decode cL_law 367 = .ok (.iconst 0, 1) := by decide +kernel
theorem dL_law_368 : decode cL_law 368 = .ok (.ireturn, 1) := by decide +kernel
theorem dL_law_369 : decode cL_law 369 = .ok (.aload_n 1, 1) := by decide +kernel
theorem dL_law_370 : decode cL_law 370 = .ok (.aload_n 0, 1) := by decide +kernel
theorem dL_law_371 : decode cL_law 371 = .ok (.iload_n 3, 1) := by decide +kernel
theorem dL_law_372 : decode cL_law 372 = .ok (.iconst 1, 1) := by decide +kernel
theorem dL_law_373 : decode cL_law 373 = .ok (.iadd, 1) := by decide +kernel
theorem dL_law_374 : decode cL_law 374 = .ok (.iaload, 1) := by decide +kernel
theorem dL_law_375 : decode cL_law 375 = .ok (.aload_n 0, 1) := by decide +kernel
theorem dL_law_376 : decode cL_law 376 = .ok (.iload_n 3, 1) := by decide +kernel
theorem dL_law_377 : decode cL_law 377 = .ok (.iconst 2, 1) := by decide +kernel
theorem dL_law_378 : decode cL_law 378 = .ok (.iadd, 1) := by decide +kernel
theorem dL_law_379 : decode cL_law 379 = .ok (.iaload, 1) := by decide +kernel
theorem dL_law_380 : decode cL_law 380 = .ok (.invokevirtual 61, 3) := by decide +kernel
theorem dL_law_383 : decode cL_law 383 = .ok (.aload_n 2, 1) := by decide +kernel
theorem dL_law_384 : decode cL_law 384 = .ok (.aload_n 0, 1) := by decide +kernel
theorem dL_law_385 : decode cL_law 385 = .ok (.iload_n 3, 1) := by decide +kernel
theorem dL_law_386 : decode cL_law 386 = .ok (.iconst 1, 1) := by decide +kernel
theorem dL_law_387 : decode cL_law 387 = .ok (.iadd, 1) := by decide +kernel
theorem dL_law_388 : decode cL_law 388 = .ok (.iaload, 1) := by decide +kernel
theorem dL_law_389 : decode cL_law 389 = .ok (.aload_n 0, 1) := by decide +kernel
theorem dL_law_390 : decode cL_law 390 = .ok (.iload_n 3, 1) := by decide +kernel
theorem dL_law_391 : decode cL_law 391 = .ok (.iconst 2, 1) := by decide +kernel
theorem dL_law_392 : decode cL_law 392 = .ok (.iadd, 1) := by decide +kernel
theorem dL_law_393 : decode cL_law 393 = .ok (.iaload, 1) := by decide +kernel
theorem dL_law_394 : decode cL_law 394 = .ok (.invokevirtual 65, 3) := by decide +kernel
theorem dL_law_397 : decode cL_law 397 = .ok (.if_icmp .eq 90, 3) := by decide +kernel
theorem dL_law_400 : decode cL_law 400 = .ok (.iconst 0, 1) := by decide +kernel
theorem dL_law_401 : decode cL_law 401 = .ok (.ireturn, 1) := by decide +kernel
theorem dL_law_402 : decode cL_law 402 = .ok (.aload_n 1, 1) := by decide +kernel
theorem dL_law_403 : decode cL_law 403 = .ok (.aload_n 0, 1) := by decide +kernel
theorem dL_law_404 : decode cL_law 404 = .ok (.iload_n 3, 1) := by decide +kernel
theorem dL_law_405 : decode cL_law 405 = .ok (.iconst 1, 1) := by decide +kernel
theorem dL_law_406 : decode cL_law 406 = .ok (.iadd, 1) := by decide +kernel
theorem dL_law_407 : decode cL_law 407 = .ok (.iaload, 1) := by decide +kernel
theorem dL_law_408 : decode cL_law 408 = .ok (.invokevirtual 66, 3) := by decide +kernel
theorem dL_law_411 : decode cL_law 411 = .ok (.aload_n 2, 1) := by decide +kernel
theorem dL_law_412 : decode cL_law 412 = .ok (.aload_n 0, 1) := by decide +kernel
theorem dL_law_413 : decode cL_law 413 = .ok (.iload_n 3, 1) := by decide +kernel
theorem dL_law_414 : decode cL_law 414 = .ok (.iconst 1, 1) := by decide +kernel
theorem dL_law_415 : decode cL_law 415 = .ok (.iadd, 1) := by decide +kernel
theorem dL_law_416 : decode cL_law 416 = .ok (.iaload, 1) := by decide +kernel
theorem dL_law_417 : decode cL_law 417 = .ok (.invokevirtual 69, 3) := by decide +kernel
theorem dL_law_420 : decode cL_law 420 = .ok (.if_icmp .eq 67, 3) := by decide +kernel
theorem dL_law_423 : decode cL_law 423 = .ok (.iconst 0, 1) := by decide +kernel
theorem dL_law_424 : decode cL_law 424 = .ok (.ireturn, 1) := by decide +kernel
theorem dL_law_425 : decode cL_law 425 = .ok (.aload_n 1, 1) := by decide +kernel
theorem dL_law_426 : decode cL_law 426 = .ok (.invokevirtual 70, 3) := by decide +kernel
theorem dL_law_429 : decode cL_law 429 = .ok (.aload_n 2, 1) := by decide +kernel
theorem dL_law_430 : decode cL_law 430 = .ok (.invokevirtual 73, 3) := by decide +kernel
theorem dL_law_433 : decode cL_law 433 = .ok (.if_icmp .eq 54, 3) := by decide +kernel
theorem dL_law_436 : decode cL_law 436 = .ok (.iconst 0, 1) := by decide +kernel
theorem dL_law_437 : decode cL_law 437 = .ok (.ireturn, 1) := by decide +kernel
theorem dL_law_438 : decode cL_law 438 = .ok (.aload_n 1, 1) := by decide +kernel
theorem dL_law_439 : decode cL_law 439 = .ok (.invokevirtual 74, 3) := by decide +kernel
theorem dL_law_442 : decode cL_law 442 = .ok (.aload_n 2, 1) := by decide +kernel
theorem dL_law_443 : decode cL_law 443 = .ok (.invokevirtual 77, 3) := by decide +kernel
theorem dL_law_446 : decode cL_law 446 = .ok (.if_icmp .eq 41, 3) := by decide +kernel
theorem dL_law_449 : decode cL_law 449 = .ok (.iconst 0, 1) := by decide +kernel
theorem dL_law_450 : decode cL_law 450 = .ok (.ireturn, 1) := by decide +kernel
theorem dL_law_451 : decode cL_law 451 = .ok (.aload_n 1, 1) := by decide +kernel
theorem dL_law_452 : decode cL_law 452 = .ok (.invokevirtual 78, 3) := by decide +kernel
theorem dL_law_455 : decode cL_law 455 = .ok (.aload_n 2, 1) := by decide +kernel
theorem dL_law_456 : decode cL_law 456 = .ok (.invokevirtual 81, 3) := by decide +kernel
theorem dL_law_459 : decode cL_law 459 = .ok (.if_icmp .eq 28, 3) := by decide +kernel
theorem dL_law_462 : decode cL_law 462 = .ok (.iconst 0, 1) := by decide +kernel
theorem dL_law_463 : decode cL_law 463 = .ok (.ireturn, 1) := by decide +kernel
theorem dL_law_464 : decode cL_law 464 = .ok (.aload_n 1, 1) := by decide +kernel
theorem dL_law_465 : decode cL_law 465 = .ok (.aload_n 0, 1) := by decide +kernel
theorem dL_law_466 : decode cL_law 466 = .ok (.iload_n 3, 1) := by decide +kernel
theorem dL_law_467 : decode cL_law 467 = .ok (.iconst 1, 1) := by decide +kernel
theorem dL_law_468 : decode cL_law 468 = .ok (.iadd, 1) := by decide +kernel
theorem dL_law_469 : decode cL_law 469 = .ok (.iaload, 1) := by decide +kernel
theorem dL_law_470 : decode cL_law 470 = .ok (.invokevirtual 82, 3) := by decide +kernel
theorem dL_law_473 : decode cL_law 473 = .ok (.aload_n 2, 1) := by decide +kernel
theorem dL_law_474 : decode cL_law 474 = .ok (.aload_n 0, 1) := by decide +kernel
theorem dL_law_475 : decode cL_law 475 = .ok (.iload_n 3, 1) := by decide +kernel
theorem dL_law_476 : decode cL_law 476 = .ok (.iconst 1, 1) := by decide +kernel
theorem dL_law_477 : decode cL_law 477 = .ok (.iadd, 1) := by decide +kernel
theorem dL_law_478 : decode cL_law 478 = .ok (.iaload, 1) := by decide +kernel
theorem dL_law_479 : decode cL_law 479 = .ok (.invokevirtual 85, 3) := by decide +kernel
theorem dL_law_482 : decode cL_law 482 = .ok (.if_icmp .eq 5, 3) := by decide +kernel
theorem dL_law_485 : decode cL_law 485 = .ok (.iconst 0, 1) := by decide +kernel
theorem dL_law_486 : decode cL_law 486 = .ok (.ireturn, 1) := by decide +kernel
theorem dL_law_487 : decode cL_law 487 = .ok (.iinc 3 5, 3) := by decide +kernel
theorem dL_law_490 : decode cL_law 490 = .ok (.goto (-472), 3) := by decide +kernel
theorem dL_law_493 : decode cL_law 493 = .ok (.iconst 1, 1) := by decide +kernel
theorem dL_law_494 : decode cL_law 494 = .ok (.ireturn, 1) := by decide +kernel
end
section
/-! ===== a walk with a pure computation beside it ===== -/
abbrev Fn : Type := Nat → Int32
def wT : List Cond := lw_tbl.filter goodWord
theorem wT_at (k : Nat) {w : Cond} (h : lw_tbl[k]? = some w) (g : goodWord w = true) : w ∈ wT := List.mem_filter.mpr ⟨List.mem_of_getElem? h, g⟩
theorem good_wT {ws : List Cond} (h : ∀ w ∈ ws, w ∈ wT) : GoodIn wT ws := fun w hw => ⟨h w hw, good_of_word (List.mem_filter.mp (h w hw)).2⟩
def wM (y : MethodName) (cc : ByteArray) (n : Nat) (r : Option FieldType) : List Cond := Cond.code y cc n r :: wT
theorem wM_in {y : MethodName} {cc : ByteArray} {n : Nat} {r : Option FieldType} (h : Cond.code y cc n r ∈ wT) : ∀ w ∈ wM y cc n r, w ∈ wT := fun w hw => by
  rcases List.mem_cons.mp hw with h2 | h2
  · rw [h2]; exact h
  · exact h2
def nsW1 : Cond := .methodLinkNest "FlashLanes$Chip" 148 ⟨"FlashLanes", "remainder", "(II)I"⟩ "FlashLanes"
def nsW2 : Cond := .methodLinkNest "FlashLanes$Chip" 178 ⟨"FlashLanes", "quotient", "(II)I"⟩ "FlashLanes"
def nsW3 : Cond := .methodLinkNest "FlashLanes$Wires" 32 ⟨"FlashLanes", "remainder", "(II)I"⟩ "FlashLanes"
/-- the three links of nest mates -/
def Nst (U : State) : Prop := va_Nw nsW1 U ∧ va_Nw nsW2 U ∧ va_Nw nsW3 U
theorem Nst.warm {s U : State} (hW : s.WarmedH U.vm) (h : Nst s) : Nst U := ⟨va_Nw.warmM hW h.1, va_Nw.warmM hW h.2.1, va_Nw.warmM hW h.2.2⟩
theorem Nst.same {u U : State} (h : u.vm = U.vm) (n : Nst u) : Nst U := ⟨va_Nw.same rfl h n.1, va_Nw.same rfl h n.2.1, va_Nw.same rfl h n.2.2⟩
abbrev tyL (cI cZ : ClassId) : List (ClassId × FieldType) := [(cI, .int), (cZ, .boolean)]
def PcX (av : List Value) (D : va_G) (cI cZ : ClassId) (w : va_W) (sz : Nat) : Array Value → State → Prop :=
  va_Pc av (fun U => U.heap.size = sz ∧ va_P D vwCl w U.heap ∧ va_K D vwCl (tyL cI cZ) U ∧ va_D (fun _ => True) w ∧ Nst U)
theorem PcX.blind {av : List Value} {D : va_G} {cI cZ : ClassId} {w : va_W} {sz : Nat} : FrameBlind (PcX av D cI cZ w sz) := fun a U g mk q => by
  obtain ⟨q0, q1, qP, qK, qD, qN⟩ := q
  exact ⟨q0, q1, qP, va_K.moved (u := U) (U := U.calling g mk a) (Vm.Alike.refl U.vm) qK, qD, Nst.same (u := U) rfl qN⟩
def QcX (rv : Option Value) (D : va_G) (w : va_W) (A : Nat → Prop) : Array Value → State → Outcome → State → Prop := fun _ st oc t => (oc = .returned rv ∧ va_P D vwCl w t.heap) ∧ va_F A st t
/-- a method's contract beside a pure computation X: where X has a value, the method returns it -/
def Ctr (l : Launch) (y : MethodName) (cc : ByteArray) (nL : Nat) (rt : Option FieldType) (fr lo : Nat) (D : va_G) (cI cZ : ClassId) (av : List Value) (w : va_W) {τ : Type} (X : Option τ) (rv : τ → Option Value) (wv : τ → va_W) : Prop :=
  ∀ r : τ, X = some r → ∀ sz : Nat, Met l y (wM y cc nL rt) { frames := fr, cells := 0, slots := 0, locals := lo } (PcX av D cI cZ w sz) (QcX (rv r) D (wv r) (va_A w sz)) 0 0 (va_A w sz)
/-- what stays the same during a walk -/
def CX (p : Program) (s : State) (m : MethodId) (args : Array Value) (meth : Method) (c : Code) (cc : ByteArray) (nL : Nat) (own : String) (D : va_G) (cI cZ : ClassId) (A : Nat → Prop) (rt : Option FieldType) : Prop :=
  p.tables.exec = Jvm.exec ∧ c.code = cc ∧ c.maxLocals = nL ∧ s.vm.findClass own = some m.cls ∧ (∀ w ∈ wT, w.before args s = true) ∧ va_K D vwCl (tyL cI cZ) s ∧ Nst s ∧ (∀ q, s.heap.size ≤ q → A q) ∧ meth.sig.returnType = rt ∧ meth.locks = false
def VF (p : Program) (l : Launch) (e : Env) (R : Room) (s : State) (m : MethodId) (args : Array Value) (below : List Frame) (meth : Method) (c : Code) (cells slots : Nat) (D : va_G) (A : Nat → Prop) (nL : Nat) {τ : Type} (Q : τ → State → Prop) (X : Option τ) (ws : va_W) (pc : Nat) (lv : List (Nat × Value)) (st : List Value) : Prop :=
  ∀ r : τ, X = some r → ∀ (H : Heap) (locs : List Loc) (ls : Array Slot), va_P D vwCl ws H → va_D A ws → va_S A s.heap H locs → lv_has ls nL lv → W p l e R s m args below meth c H locs cells slots (Q r) (F0 m pc ls st)
/-! pure computations -/
def oB {α β : Type} (x : Option α) (k : α → Option β) : Option β := match x with
  | some a => k a
  | none => none
theorem oB_some {α β : Type} {x : Option α} {k : α → Option β} {b : β} (h : oB x k = some b) : ∃ a, x = some a ∧ k a = some b := by
  cases x with
  | none => cases h
  | some a => exact ⟨a, rfl, h⟩
def oI {α : Type} (i : Int32) (n : Nat) (k : Option α) : Option α := if i < 0 ∨ n ≤ i.toNatClampNeg then none else k
theorem oI_some {α : Type} {i : Int32} {n : Nat} {k : Option α} {b : α} (h : oI i n k = some b) : vp_in i n ∧ k = some b := by
  unfold oI at h
  by_cases q : i < 0 ∨ n ≤ i.toNatClampNeg
  · rw [if_pos q] at h; cases h
  · rw [if_neg q] at h; exact ⟨q, h⟩
def oD {α : Type} (y : Int32) (k : Option α) : Option α := if y = 0 then none else k
theorem oD_some {α : Type} {y : Int32} {k : Option α} {b : α} (h : oD y k = some b) : ¬ y = 0 ∧ k = some b := by
  unfold oD at h
  by_cases q : y = 0
  · rw [if_pos q] at h; cases h
  · rw [if_neg q] at h; exact ⟨q, h⟩
def oZ {α : Type} (x : Int32) (k : Option α) : Option α := if x = 0 ∨ x = 1 then k else none
theorem oZ_some {α : Type} {x : Int32} {k : Option α} {b : α} (h : oZ x k = some b) : (x = 0 ∨ x = 1) ∧ k = some b := by
  unfold oZ at h
  by_cases q : x = 0 ∨ x = 1
  · rw [if_pos q] at h; exact ⟨q, h⟩
  · rw [if_neg q] at h; cases h
theorem z_nar {x : Int32} (h : x = 0 ∨ x = 1) : narrow .boolean (.int x) = .int x := by rcases h with rfl | rfl <;> rfl
theorem z_fit {x : Int32} (h : x = 0 ∨ x = 1) : fits .boolean (.int x) = true := by rcases h with rfl | rfl <;> rfl
theorem z_vp {x : Int32} (h : x = 0 ∨ x = 1) : vp_nar .boolean x = x := by rcases h with rfl | rfl <;> rfl
/-! worlds, set in place -/
def setM : va_W → List Nat → va_W → va_W
  | ws, i :: is, q :: qs => setM (ws.set i q) is qs
  | ws, _, _ => ws
theorem setM_at : ∀ (is : List Nat) (qs ws : va_W), is.length = qs.length → ∀ (k : Nat) (q : Nat × va_E), (setM ws is qs)[k]? = some q → (∃ j : Nat, qs[j]? = some q) ∨ (ws[k]? = some q ∧ k ∉ is) := by
  intro is
  induction is with
  | nil =>
    intro qs ws hl k q h
    cases qs with
    | nil => exact Or.inr ⟨h, List.not_mem_nil⟩
    | cons a b => cases hl
  | cons i is ih =>
    intro qs ws hl k q h
    cases qs with
    | nil => cases hl
    | cons a b =>
      have hl2 : is.length = b.length := by simpa using hl
      rcases ih b (ws.set i a) hl2 k q h with ⟨j, hj⟩ | ⟨h1, h2⟩
      · exact Or.inl ⟨j + 1, by simpa using hj⟩
      · by_cases hk : k = i
        · subst hk
          have hlt : k < ws.length := by
            have := (List.getElem?_eq_some_iff.mp h1).1
            simpa using this
          rw [List.getElem?_set_self hlt] at h1
          exact Or.inl ⟨0, by simpa using h1⟩
        · rw [List.getElem?_set_ne (fun z => hk z.symm)] at h1
          exact Or.inr ⟨h1, fun z => by rcases List.mem_cons.mp z with z | z; exact hk z; exact h2 z⟩
def SameA (w1 w2 : va_W) : Prop := ∀ (k : Nat) (q : Nat × va_E), w1[k]? = some q → ∃ q', w2[k]? = some q' ∧ q'.1 = q.1
theorem SameA.set {ws : va_W} {i : Nat} {a q' : Nat × va_E} (h : ws[i]? = some q') (e : q'.1 = a.1) : SameA (ws.set i a) ws := by
  intro k q hq
  by_cases hk : k = i
  · subst hk
    have hlt : k < ws.length := (List.getElem?_eq_some_iff.mp h).1
    rw [List.getElem?_set_self hlt] at hq
    cases hq
    exact ⟨q', h, e⟩
  · rw [List.getElem?_set_ne (fun z => hk z.symm)] at hq
    exact ⟨q, hq, rfl⟩
theorem SameA.trans {a b c : va_W} (h : SameA a b) (g : SameA b c) : SameA a c := fun k q hq => by
  obtain ⟨q1, h1, e1⟩ := h k q hq
  obtain ⟨q2, h2, e2⟩ := g k q1 h1
  exact ⟨q2, h2, e2.trans e1⟩
theorem setM_same : ∀ (is : List Nat) (qs ws : va_W), (∀ (j i : Nat) (q : Nat × va_E), is[j]? = some i → qs[j]? = some q → ∃ q', ws[i]? = some q' ∧ q'.1 = q.1) → SameA (setM ws is qs) ws := by
  intro is
  induction is with
  | nil => intro qs ws _ k q h; exact ⟨q, by simpa [setM] using h, rfl⟩
  | cons i is ih =>
    intro qs ws hh
    cases qs with
    | nil => intro k q h; exact ⟨q, by simpa [setM] using h, rfl⟩
    | cons a b =>
      obtain ⟨q0, h0, e0⟩ := hh 0 i a rfl rfl
      have hlt : i < ws.length := (List.getElem?_eq_some_iff.mp h0).1
      refine SameA.trans (ih b (ws.set i a) fun j i2 q hj hq => ?_) (SameA.set h0 e0)
      obtain ⟨q1, h1, e1⟩ := hh (j + 1) i2 q (by simpa using hj) (by simpa using hq)
      by_cases hk : i2 = i
      · subst hk
        rw [h0] at h1
        cases h1
        exact ⟨a, List.getElem?_set_self hlt, e0.symm.trans e1⟩
      · exact ⟨q1, by rw [List.getElem?_set_ne (fun z => hk z.symm)]; exact h1, e1⟩
theorem va_D.same {A : Nat → Prop} {w1 w2 : va_W} (hD : va_D A w2) (h : SameA w1 w2) : va_D A w1 := by
  refine ⟨fun i j p q hp hq e => ?_, fun k q hq => ?_⟩
  · obtain ⟨p1, h1, e1⟩ := h i p hp
    obtain ⟨q1, h2, e2⟩ := h j q hq
    exact hD.1 i j p1 q1 h1 h2 (by rw [e1, e2, e])
  · obtain ⟨q1, h1, e1⟩ := h k q hq
    rw [← e1]
    exact hD.2 k q1 h1
theorem map_at {is : List Nat} {w ws : va_W} (hs : is.map (fun i => ws[i]?) = w.map some) (k : Nat) (q : Nat × va_E) (hq : w[k]? = some q) : ∃ i, is[k]? = some i ∧ ws[i]? = some q := by
  have h1 : (is.map (fun i => ws[i]?))[k]? = some (some q) := by rw [hs, List.getElem?_map, hq]; rfl
  rw [List.getElem?_map] at h1
  cases hi : is[k]? with
  | none => rw [hi] at h1; cases h1
  | some i => rw [hi] at h1; exact ⟨i, rfl, Option.some.inj h1⟩
theorem map_len {is : List Nat} {w ws : va_W} (hs : is.map (fun i => ws[i]?) = w.map some) : is.length = w.length := by
  have := congrArg List.length hs
  simpa using this
theorem setM_ok {is : List Nat} {w w' ws : va_W} (hs : is.map (fun i => ws[i]?) = w.map some) (hw : w'.map Prod.fst = w.map Prod.fst) : SameA (setM ws is w') ws := by
  refine setM_same is w' ws fun j i q hj hq => ?_
  have h1 : (w'.map Prod.fst)[j]? = some q.1 := by rw [List.getElem?_map, hq]; rfl
  rw [hw, List.getElem?_map] at h1
  cases h2 : w[j]? with
  | none => rw [h2] at h1; cases h1
  | some q2 =>
    rw [h2] at h1
    obtain ⟨i2, h3, h4⟩ := map_at hs j q2 h2
    rw [hj] at h3
    cases h3
    exact ⟨q2, h4, Option.some.inj h1⟩
theorem setM_P {A0 : Nat → Prop} {D : va_G} {is : List Nat} {w w' ws : va_W} {H H1 : Heap} (hP : va_P D vwCl ws H) (hD : va_D A0 ws) (hs : is.map (fun i => ws[i]?) = w.map some) (hw : w'.map Prod.fst = w.map Prod.fst)
    (hk : ∀ q : Nat, q < H.size → ¬ va_A w H.size q → H1[q]? = H[q]?) (hP1 : va_P D vwCl w' H1) : va_P D vwCl (setM ws is w') H1 := by
  intro k q hq
  have hl : is.length = w'.length := (map_len hs).trans (by have := congrArg List.length hw; simpa using this.symm)
  rcases setM_at is w' ws hl k q hq with ⟨j, hj⟩ | ⟨h1, h2⟩
  · exact hP1 j q hj
  · have hlt := (hP k q h1).lt
    refine (hP k q h1).kept (hk q.1 hlt fun h => ?_)
    rcases h with ⟨k2, e, h⟩ | h
    · obtain ⟨i, h3, h4⟩ := map_at hs k2 (q.1, e) h
      have := hD.1 k i q (q.1, e) h1 h4 rfl
      subst this
      exact h2 (List.mem_of_getElem? h3)
    · omega
/-! links -/
def FLk (own : String) (index ci : Nat) (C : String) (T : u_T) (N k : Nat) : Prop := vwCl[ci]? = some (C, T, N) ∧ (∀ w ∈ u_ws C T N, w ∈ wT) ∧ k < N ∧ Cond.fieldLink own index (T k).1 (T k).2.1 (T k).2.2.1 ∈ wT
def LkV (own : String) (idx : Nat) (y : MethodName) (bytes : ByteArray) (maxL : Nat) (ret : Option FieldType) (n : Nat) : Prop :=
  (Cond.methodLink own idx y ∈ wT ∧ Cond.instanceMethod y ∈ wT ∧ Cond.selects y.cls y y ∈ wT ∧ Cond.initialized y.cls ∈ wT ∧ Cond.code y bytes maxL ret ∈ wT) ∧ y.cls ≠ "java/lang/invoke/MethodHandle" ∧ y.cls ≠ "java/lang/invoke/VarHandle" ∧ (parseMethodDescriptor y.desc).map (fun d => d.parameters.length) = some n
def LkS (own : String) (idx : Nat) (y : MethodName) (bytes : ByteArray) (maxL : Nat) (ret : Option FieldType) (n : Nat) : Prop :=
  (Cond.methodLink own idx y ∈ wT ∧ Cond.static y ∈ wT ∧ Cond.initialized y.cls ∈ wT ∧ Cond.code y bytes maxL ret ∈ wT) ∧ y.cls ≠ "java/lang/invoke/MethodHandle" ∧ y.cls ≠ "java/lang/invoke/VarHandle" ∧ (parseMethodDescriptor y.desc).map (fun d => d.parameters.length) = some n
def LkN (y : MethodName) (bytes : ByteArray) (maxL : Nat) (ret : Option FieldType) (n : Nat) : Prop :=
  (Cond.static y ∈ wT ∧ Cond.initialized y.cls ∈ wT ∧ Cond.code y bytes maxL ret ∈ wT) ∧ y.cls ≠ "java/lang/invoke/MethodHandle" ∧ y.cls ≠ "java/lang/invoke/VarHandle" ∧ (parseMethodDescriptor y.desc).map (fun d => d.parameters.length) = some n
theorem LkV.all {own : String} {idx : Nat} {y : MethodName} {bytes : ByteArray} {maxL : Nat} {ret : Option FieldType} {n : Nat} (L : LkV own idx y bytes maxL ret n) : ∀ w ∈ wsV own idx y.cls y (wM y bytes maxL ret), w ∈ wT := by
  intro w hw
  rcases List.mem_append.mp hw with h | h
  · simp only [List.mem_cons, List.not_mem_nil, or_false] at h
    rcases h with rfl | rfl | rfl | rfl
    · exact L.1.1
    · exact L.1.2.1
    · exact L.1.2.2.1
    · exact L.1.2.2.2.1
  · exact wM_in L.1.2.2.2.2 w h
section VFrows
variable {p : Program} {l : Launch} {e : Env} {R : Room} {s : State} {m : MethodId} {args : Array Value} {below : List Frame} {meth : Method} {c : Code} {cells slots : Nat} {D : va_G} {A : Nat → Prop} {nL : Nat} {τ : Type} {Q : τ → State → Prop} {X Y : Option τ} {ws : va_W} {pc : Nat} {lv : List (Nat × Value)} {st : List Value}
  {cc : ByteArray} {own : String} {cI cZ : ClassId} {rt : Option FieldType}
theorem VF.eq (h : X = Y) (k : VF p l e R s m args below meth c cells slots D A nL Q Y ws pc lv st) : VF p l e R s m args below meth c cells slots D A nL Q X ws pc lv st := by rw [h]; exact k
theorem VF.nn : VF p l e R s m args below meth c cells slots D A nL Q none ws pc lv st := fun _ h => by cases h
theorem VF.ite {P : Prop} [Decidable P] (kt : P → VF p l e R s m args below meth c cells slots D A nL Q X ws pc lv st) (kf : ¬ P → VF p l e R s m args below meth c cells slots D A nL Q Y ws pc lv st) : VF p l e R s m args below meth c cells slots D A nL Q (if P then X else Y) ws pc lv st := by
  by_cases h : P
  · rw [if_pos h]; exact kt h
  · rw [if_neg h]; exact kf h

theorem VF.iconst (C : CX p s m args meth c cc nL own D cI cZ A rt) {n : Int} {v : Int32} (hdg : decode cc pc = .ok (.iconst n, 1)) (hv : Int32.ofInt n = v) (k : VF p l e R s m args below meth c cells slots D A nL Q X ws (pc + 1) lv (.int v :: st)) : VF p l e R s m args below meth c cells slots D A nL Q X ws pc lv st := fun r hr H locs ls hP hD hS hl => lv_iconst C.1 C.2.1 hdg hv (k r hr H locs ls hP hD hS hl)
theorem VF.bipush (C : CX p s m args meth c cc nL own D cI cZ A rt) {n : Int} {v : Int32} (hdg : decode cc pc = .ok (.bipush n, 2)) (hv : (Int8.ofInt n).toInt32 = v) (k : VF p l e R s m args below meth c cells slots D A nL Q X ws (pc + 2) lv (.int v :: st)) : VF p l e R s m args below meth c cells slots D A nL Q X ws pc lv st := fun r hr H locs ls hP hD hS hl => lv_bipush C.1 C.2.1 hdg hv (k r hr H locs ls hP hD hS hl)
theorem VF.sipush (C : CX p s m args meth c cc nL own D cI cZ A rt) {n : Int} {v : Int32} (hdg : decode cc pc = .ok (.sipush n, 3)) (hv : (Int16.ofInt n).toInt32 = v) (k : VF p l e R s m args below meth c cells slots D A nL Q X ws (pc + 3) lv (.int v :: st)) : VF p l e R s m args below meth c cells slots D A nL Q X ws pc lv st := fun r hr H locs ls hP hD hS hl => lv_sipush C.1 C.2.1 hdg hv (k r hr H locs ls hP hD hS hl)
theorem VF.lconst (C : CX p s m args meth c cc nL own D cI cZ A rt) {n : Fin 2} {v : Int64} (hdg : decode cc pc = .ok (.lconst n, 1)) (hv : Int64.ofNat (n : Nat) = v) (k : VF p l e R s m args below meth c cells slots D A nL Q X ws (pc + 1) lv (.long v :: st)) : VF p l e R s m args below meth c cells slots D A nL Q X ws pc lv st := fun r hr H locs ls hP hD hS hl => lv_lconst C.1 C.2.1 hdg hv (k r hr H locs ls hP hD hS hl)
theorem VF.ldc (C : CX p s m args meth c cc nL own D cI cZ A rt) {index : Nat} {v : Int32} (hw : Cond.constant own index v ∈ wT) (hdg : decode cc pc = .ok (.ldc index, 2)) (k : VF p l e R s m args below meth c cells slots D A nL Q X ws (pc + 2) lv (.int v :: st)) : VF p l e R s m args below meth c cells slots D A nL Q X ws pc lv st := fun r hr H locs ls hP hD hS hl => lv_ldc C.1 C.2.1 C.2.2.2.1 (C.2.2.2.2.1 _ hw) hdg (k r hr H locs ls hP hD hS hl)
theorem VF.ldc2 (C : CX p s m args meth c cc nL own D cI cZ A rt) {index : Nat} {v : Int64} (hw : Cond.constantLong own index v ∈ wT) (hdg : decode cc pc = .ok (.ldc2_w index, 3)) (k : VF p l e R s m args below meth c cells slots D A nL Q X ws (pc + 3) lv (.long v :: st)) : VF p l e R s m args below meth c cells slots D A nL Q X ws pc lv st := fun r hr H locs ls hP hD hS hl => lv_ldc2 C.1 C.2.1 C.2.2.2.1 (C.2.2.2.2.1 _ hw) hdg (k r hr H locs ls hP hD hS hl)
theorem VF.iload_n (C : CX p s m args meth c cc nL own D cI cZ A rt) (j : Nat) {k : Fin 4} {x : Int32} (hdg : decode cc pc = .ok (.iload_n k, 1)) (hj : lv[j]? = some ((k : Nat), .int x)) (kk : VF p l e R s m args below meth c cells slots D A nL Q X ws (pc + 1) lv (.int x :: st)) : VF p l e R s m args below meth c cells slots D A nL Q X ws pc lv st := fun r hr H locs ls hP hD hS hl => lv_iload_n C.1 C.2.1 hdg rfl (lv_at hl j hj) (kk r hr H locs ls hP hD hS hl)
theorem VF.iload (C : CX p s m args meth c cc nL own D cI cZ A rt) (j : Nat) {i : Nat} {x : Int32} (hdg : decode cc pc = .ok (.iload i, 2)) (hj : lv[j]? = some (i, .int x)) (kk : VF p l e R s m args below meth c cells slots D A nL Q X ws (pc + 2) lv (.int x :: st)) : VF p l e R s m args below meth c cells slots D A nL Q X ws pc lv st := fun r hr H locs ls hP hD hS hl => lv_iload C.1 C.2.1 hdg (lv_at hl j hj) (kk r hr H locs ls hP hD hS hl)
theorem VF.lload_n (C : CX p s m args meth c cc nL own D cI cZ A rt) (j : Nat) {k : Fin 4} {x : Int64} (hdg : decode cc pc = .ok (.lload_n k, 1)) (hj : lv[j]? = some ((k : Nat), .long x)) (kk : VF p l e R s m args below meth c cells slots D A nL Q X ws (pc + 1) lv (.long x :: st)) : VF p l e R s m args below meth c cells slots D A nL Q X ws pc lv st := fun r hr H locs ls hP hD hS hl => lv_lload_n C.1 C.2.1 hdg rfl (lv_at hl j hj) (kk r hr H locs ls hP hD hS hl)
theorem VF.lload (C : CX p s m args meth c cc nL own D cI cZ A rt) (j : Nat) {i : Nat} {x : Int64} (hdg : decode cc pc = .ok (.lload i, 2)) (hj : lv[j]? = some (i, .long x)) (kk : VF p l e R s m args below meth c cells slots D A nL Q X ws (pc + 2) lv (.long x :: st)) : VF p l e R s m args below meth c cells slots D A nL Q X ws pc lv st := fun r hr H locs ls hP hD hS hl => lv_lload C.1 C.2.1 hdg (lv_at hl j hj) (kk r hr H locs ls hP hD hS hl)
theorem VF.aload_n (C : CX p s m args meth c cc nL own D cI cZ A rt) (j : Nat) {k : Fin 4} {x : Nat} (hdg : decode cc pc = .ok (.aload_n k, 1)) (hj : lv[j]? = some ((k : Nat), .ref x)) (kk : VF p l e R s m args below meth c cells slots D A nL Q X ws (pc + 1) lv (.ref x :: st)) : VF p l e R s m args below meth c cells slots D A nL Q X ws pc lv st := fun r hr H locs ls hP hD hS hl => lv_aload_n C.1 C.2.1 hdg rfl (lv_at hl j hj) (kk r hr H locs ls hP hD hS hl)
theorem VF.aload (C : CX p s m args meth c cc nL own D cI cZ A rt) (j : Nat) {i : Nat} {x : Nat} (hdg : decode cc pc = .ok (.aload i, 2)) (hj : lv[j]? = some (i, .ref x)) (kk : VF p l e R s m args below meth c cells slots D A nL Q X ws (pc + 2) lv (.ref x :: st)) : VF p l e R s m args below meth c cells slots D A nL Q X ws pc lv st := fun r hr H locs ls hP hD hS hl => lv_aload C.1 C.2.1 hdg (lv_at hl j hj) (kk r hr H locs ls hP hD hS hl)
theorem VF.istore_n (C : CX p s m args meth c cc nL own D cI cZ A rt) (ps : List Nat) {k : Fin 4} {i : Nat} {x : Int32} {lv' : List (Nat × Value)} (hdg : decode cc pc = .ok (.istore_n k, 1)) (hi : (k : Nat) = i) (hn : i < nL) (hv : lv_pick ((i, Value.int x) :: lv.filter (fun q => !(q.1 == i) && !(q.1 + 1 == i && q.2.category == 2))) ps = lv') (kk : VF p l e R s m args below meth c cells slots D A nL Q X ws (pc + 1) lv' st) : VF p l e R s m args below meth c cells slots D A nL Q X ws pc lv (.int x :: st) := fun r hr H locs ls hP hD hS hl => lv_istore_n C.1 C.2.1 hdg hi hl hn rfl (fun ls hl => kk r hr H locs ls hP hD hS (lv_sub hl ps hv))
theorem VF.istore (C : CX p s m args meth c cc nL own D cI cZ A rt) (ps : List Nat) {i : Nat} {x : Int32} {lv' : List (Nat × Value)} (hdg : decode cc pc = .ok (.istore i, 2)) (hn : i < nL) (hv : lv_pick ((i, Value.int x) :: lv.filter (fun q => !(q.1 == i) && !(q.1 + 1 == i && q.2.category == 2))) ps = lv') (kk : VF p l e R s m args below meth c cells slots D A nL Q X ws (pc + 2) lv' st) : VF p l e R s m args below meth c cells slots D A nL Q X ws pc lv (.int x :: st) := fun r hr H locs ls hP hD hS hl => lv_istore C.1 C.2.1 hdg hl hn rfl (fun ls hl => kk r hr H locs ls hP hD hS (lv_sub hl ps hv))
theorem VF.astore_n (C : CX p s m args meth c cc nL own D cI cZ A rt) (ps : List Nat) {k : Fin 4} {i : Nat} {x : Nat} {lv' : List (Nat × Value)} (hdg : decode cc pc = .ok (.astore_n k, 1)) (hi : (k : Nat) = i) (hn : i < nL) (hv : lv_pick ((i, Value.ref x) :: lv.filter (fun q => !(q.1 == i) && !(q.1 + 1 == i && q.2.category == 2))) ps = lv') (kk : VF p l e R s m args below meth c cells slots D A nL Q X ws (pc + 1) lv' st) : VF p l e R s m args below meth c cells slots D A nL Q X ws pc lv (.ref x :: st) := fun r hr H locs ls hP hD hS hl => lv_astore_n C.1 C.2.1 hdg hi hl hn rfl (fun ls hl => kk r hr H locs ls hP hD hS (lv_sub hl ps hv))
theorem VF.astore (C : CX p s m args meth c cc nL own D cI cZ A rt) (ps : List Nat) {i : Nat} {x : Nat} {lv' : List (Nat × Value)} (hdg : decode cc pc = .ok (.astore i, 2)) (hn : i < nL) (hv : lv_pick ((i, Value.ref x) :: lv.filter (fun q => !(q.1 == i) && !(q.1 + 1 == i && q.2.category == 2))) ps = lv') (kk : VF p l e R s m args below meth c cells slots D A nL Q X ws (pc + 2) lv' st) : VF p l e R s m args below meth c cells slots D A nL Q X ws pc lv (.ref x :: st) := fun r hr H locs ls hP hD hS hl => lv_astore C.1 C.2.1 hdg hl hn rfl (fun ls hl => kk r hr H locs ls hP hD hS (lv_sub hl ps hv))
theorem VF.iinc (C : CX p s m args meth c cc nL own D cI cZ A rt) (j : Nat) (ps : List Nat) {i : Nat} {n : Int} {x v : Int32} {lv' : List (Nat × Value)} (hdg : decode cc pc = .ok (.iinc i n, 3)) (hj : lv[j]? = some (i, .int x)) (he : x + Int32.ofInt n = v) (hn : i < nL) (hv : lv_pick ((i, Value.int v) :: lv.filter (fun q => !(q.1 == i) && !(q.1 + 1 == i && q.2.category == 2))) ps = lv') (kk : VF p l e R s m args below meth c cells slots D A nL Q X ws (pc + 3) lv' st) : VF p l e R s m args below meth c cells slots D A nL Q X ws pc lv st := fun r hr H locs ls hP hD hS hl => lv_iinc C.1 C.2.1 hdg hl (k := j) hj he hn rfl (fun ls hl => kk r hr H locs ls hP hD hS (lv_sub hl ps hv))
theorem VF.iincW (C : CX p s m args meth c cc nL own D cI cZ A rt) (j : Nat) (ps : List Nat) {i : Nat} {n : Int} {x v : Int32} {lv' : List (Nat × Value)} (hdg : decode cc pc = .ok (.iinc i n, 6)) (hj : lv[j]? = some (i, .int x)) (he : x + Int32.ofInt n = v) (hn : i < nL) (hv : lv_pick ((i, Value.int v) :: lv.filter (fun q => !(q.1 == i) && !(q.1 + 1 == i && q.2.category == 2))) ps = lv') (kk : VF p l e R s m args below meth c cells slots D A nL Q X ws (pc + 6) lv' st) : VF p l e R s m args below meth c cells slots D A nL Q X ws pc lv st := fun r hr H locs ls hP hD hS hl => lv_iincW C.1 C.2.1 hdg hl (k := j) hj he hn rfl (fun ls hl => kk r hr H locs ls hP hD hS (lv_sub hl ps hv))
theorem VF.iadd (C : CX p s m args meth c cc nL own D cI cZ A rt) {x y : Int32} (hdg : decode cc pc = .ok (.iadd, 1)) (k : VF p l e R s m args below meth c cells slots D A nL Q X ws (pc + 1) lv (.int (x + y) :: st)) : VF p l e R s m args below meth c cells slots D A nL Q X ws pc lv (.int y :: .int x :: st) := fun r hr H locs ls hP hD hS hl => lv_iadd C.1 C.2.1 hdg (k r hr H locs ls hP hD hS hl)
theorem VF.isub (C : CX p s m args meth c cc nL own D cI cZ A rt) {x y : Int32} (hdg : decode cc pc = .ok (.isub, 1)) (k : VF p l e R s m args below meth c cells slots D A nL Q X ws (pc + 1) lv (.int (x - y) :: st)) : VF p l e R s m args below meth c cells slots D A nL Q X ws pc lv (.int y :: .int x :: st) := fun r hr H locs ls hP hD hS hl => lv_isub C.1 C.2.1 hdg (k r hr H locs ls hP hD hS hl)
theorem VF.imul (C : CX p s m args meth c cc nL own D cI cZ A rt) {x y : Int32} (hdg : decode cc pc = .ok (.imul, 1)) (k : VF p l e R s m args below meth c cells slots D A nL Q X ws (pc + 1) lv (.int (x * y) :: st)) : VF p l e R s m args below meth c cells slots D A nL Q X ws pc lv (.int y :: .int x :: st) := fun r hr H locs ls hP hD hS hl => lv_imul C.1 C.2.1 hdg (k r hr H locs ls hP hD hS hl)
theorem VF.iand (C : CX p s m args meth c cc nL own D cI cZ A rt) {x y : Int32} (hdg : decode cc pc = .ok (.iand, 1)) (k : VF p l e R s m args below meth c cells slots D A nL Q X ws (pc + 1) lv (.int (x &&& y) :: st)) : VF p l e R s m args below meth c cells slots D A nL Q X ws pc lv (.int y :: .int x :: st) := fun r hr H locs ls hP hD hS hl => lv_iand C.1 C.2.1 hdg (k r hr H locs ls hP hD hS hl)
theorem VF.ior (C : CX p s m args meth c cc nL own D cI cZ A rt) {x y : Int32} (hdg : decode cc pc = .ok (.ior, 1)) (k : VF p l e R s m args below meth c cells slots D A nL Q X ws (pc + 1) lv (.int (x ||| y) :: st)) : VF p l e R s m args below meth c cells slots D A nL Q X ws pc lv (.int y :: .int x :: st) := fun r hr H locs ls hP hD hS hl => lv_ior C.1 C.2.1 hdg (k r hr H locs ls hP hD hS hl)
theorem VF.ixor (C : CX p s m args meth c cc nL own D cI cZ A rt) {x y : Int32} (hdg : decode cc pc = .ok (.ixor, 1)) (k : VF p l e R s m args below meth c cells slots D A nL Q X ws (pc + 1) lv (.int (x ^^^ y) :: st)) : VF p l e R s m args below meth c cells slots D A nL Q X ws pc lv (.int y :: .int x :: st) := fun r hr H locs ls hP hD hS hl => lv_ixor C.1 C.2.1 hdg (k r hr H locs ls hP hD hS hl)
theorem VF.ishl (C : CX p s m args meth c cc nL own D cI cZ A rt) {x y : Int32} (hdg : decode cc pc = .ok (.ishl, 1)) (k : VF p l e R s m args below meth c cells slots D A nL Q X ws (pc + 1) lv (.int (x <<< (y &&& 31)) :: st)) : VF p l e R s m args below meth c cells slots D A nL Q X ws pc lv (.int y :: .int x :: st) := fun r hr H locs ls hP hD hS hl => lv_ishl C.1 C.2.1 hdg (k r hr H locs ls hP hD hS hl)
theorem VF.ishr (C : CX p s m args meth c cc nL own D cI cZ A rt) {x y : Int32} (hdg : decode cc pc = .ok (.ishr, 1)) (k : VF p l e R s m args below meth c cells slots D A nL Q X ws (pc + 1) lv (.int (x >>> (y &&& 31)) :: st)) : VF p l e R s m args below meth c cells slots D A nL Q X ws pc lv (.int y :: .int x :: st) := fun r hr H locs ls hP hD hS hl => lv_ishr C.1 C.2.1 hdg (k r hr H locs ls hP hD hS hl)
theorem VF.idiv (C : CX p s m args meth c cc nL own D cI cZ A rt) {x y : Int32} (hdg : decode cc pc = .ok (.idiv, 1)) (k : VF p l e R s m args below meth c cells slots D A nL Q X ws (pc + 1) lv (.int (x / y) :: st)) : VF p l e R s m args below meth c cells slots D A nL Q (oD y X) ws pc lv (.int y :: .int x :: st) := fun r hr H locs ls hP hD hS hl => lv_idiv C.1 C.2.1 hdg (oD_some hr).1 (k r (oD_some hr).2 H locs ls hP hD hS hl)
theorem VF.idivK (C : CX p s m args meth c cc nL own D cI cZ A rt) {x y : Int32} (hy : ¬ y = 0) (hdg : decode cc pc = .ok (.idiv, 1)) (k : VF p l e R s m args below meth c cells slots D A nL Q X ws (pc + 1) lv (.int (x / y) :: st)) : VF p l e R s m args below meth c cells slots D A nL Q X ws pc lv (.int y :: .int x :: st) := fun r hr H locs ls hP hD hS hl => lv_idiv C.1 C.2.1 hdg hy (k r hr H locs ls hP hD hS hl)
theorem VF.irem (C : CX p s m args meth c cc nL own D cI cZ A rt) {x y : Int32} (hdg : decode cc pc = .ok (.irem, 1)) (k : VF p l e R s m args below meth c cells slots D A nL Q X ws (pc + 1) lv (.int (x - x / y * y) :: st)) : VF p l e R s m args below meth c cells slots D A nL Q (oD y X) ws pc lv (.int y :: .int x :: st) := fun r hr H locs ls hP hD hS hl => lv_irem C.1 C.2.1 hdg (oD_some hr).1 (k r (oD_some hr).2 H locs ls hP hD hS hl)
theorem VF.iremK (C : CX p s m args meth c cc nL own D cI cZ A rt) {x y : Int32} (hy : ¬ y = 0) (hdg : decode cc pc = .ok (.irem, 1)) (k : VF p l e R s m args below meth c cells slots D A nL Q X ws (pc + 1) lv (.int (x - x / y * y) :: st)) : VF p l e R s m args below meth c cells slots D A nL Q X ws pc lv (.int y :: .int x :: st) := fun r hr H locs ls hP hD hS hl => lv_irem C.1 C.2.1 hdg hy (k r hr H locs ls hP hD hS hl)
theorem VF.i2l (C : CX p s m args meth c cc nL own D cI cZ A rt) {x : Int32} (hdg : decode cc pc = .ok (.i2l, 1)) (k : VF p l e R s m args below meth c cells slots D A nL Q X ws (pc + 1) lv (.long x.toInt64 :: st)) : VF p l e R s m args below meth c cells slots D A nL Q X ws pc lv (.int x :: st) := fun r hr H locs ls hP hD hS hl => lv_i2l C.1 C.2.1 hdg rfl (k r hr H locs ls hP hD hS hl)
theorem VF.lcmp (C : CX p s m args meth c cc nL own D cI cZ A rt) {x y : Int64} (hdg : decode cc pc = .ok (.lcmp, 1)) (k : VF p l e R s m args below meth c cells slots D A nL Q X ws (pc + 1) lv (.int (lg_cmp x y) :: st)) : VF p l e R s m args below meth c cells slots D A nL Q X ws pc lv (.long y :: .long x :: st) := fun r hr H locs ls hP hD hS hl => W.lcmp C.1 C.2.1 hdg (k r hr H locs ls hP hD hS hl)
theorem VF.dup (C : CX p s m args meth c cc nL own D cI cZ A rt) {v : Value} (hdg : decode cc pc = .ok (.dup, 1)) (hv : v.category = 1) (k : VF p l e R s m args below meth c cells slots D A nL Q X ws (pc + 1) lv (v :: v :: st)) : VF p l e R s m args below meth c cells slots D A nL Q X ws pc lv (v :: st) := fun r hr H locs ls hP hD hS hl => lv_dup C.1 C.2.1 hdg hv (k r hr H locs ls hP hD hS hl)
theorem VF.dup2 (C : CX p s m args meth c cc nL own D cI cZ A rt) {v w : Value} (hdg : decode cc pc = .ok (.dup2, 1)) (hv : v.category = 1) (hw : w.category = 1) (k : VF p l e R s m args below meth c cells slots D A nL Q X ws (pc + 1) lv (v :: w :: v :: w :: st)) : VF p l e R s m args below meth c cells slots D A nL Q X ws pc lv (v :: w :: st) := fun r hr H locs ls hP hD hS hl => lv_dup2_11 C.1 C.2.1 hdg hv hw (k r hr H locs ls hP hD hS hl)
theorem VF.pop (C : CX p s m args meth c cc nL own D cI cZ A rt) {v : Value} (hdg : decode cc pc = .ok (.pop, 1)) (hv : v.category = 1) (k : VF p l e R s m args below meth c cells slots D A nL Q X ws (pc + 1) lv st) : VF p l e R s m args below meth c cells slots D A nL Q X ws pc lv (v :: st) := fun r hr H locs ls hP hD hS hl => lv_pop C.1 C.2.1 hdg hv (k r hr H locs ls hP hD hS hl)
theorem VF.goto (C : CX p s m args meth c cc nL own D cI cZ A rt) {off : Int} (tgt : Nat) (hdg : decode cc pc = .ok (.goto off, 3)) (ht : (pc : Int) + off = (tgt : Int)) (k : VF p l e R s m args below meth c cells slots D A nL Q X ws tgt lv st) : VF p l e R s m args below meth c cells slots D A nL Q X ws pc lv st := fun r hr H locs ls hP hD hS hl => lv_goto C.1 C.2.1 hdg ht (k r hr H locs ls hP hD hS hl)
theorem VF.if_eq (C : CX p s m args meth c cc nL own D cI cZ A rt) {x : Int32} {off : Int} (tgt : Nat) (hdg : decode cc pc = .ok (.ifCond .eq off, 3)) (ht : (pc : Int) + off = (tgt : Int)) (kt : x = 0 → VF p l e R s m args below meth c cells slots D A nL Q X ws tgt lv st) (kf : ¬ x = 0 → VF p l e R s m args below meth c cells slots D A nL Q Y ws (pc + 3) lv st) : VF p l e R s m args below meth c cells slots D A nL Q (if x = 0 then X else Y) ws pc lv (.int x :: st) := fun r hr H locs ls hP hD hS hl => lv_if_eq C.1 C.2.1 hdg ht (fun h => kt h r (by rw [if_pos h] at hr; exact hr) H locs ls hP hD hS hl) (fun h => kf h r (by rw [if_neg h] at hr; exact hr) H locs ls hP hD hS hl)
theorem VF.icmp_eq (C : CX p s m args meth c cc nL own D cI cZ A rt) {x y : Int32} {off : Int} (tgt : Nat) (hdg : decode cc pc = .ok (.if_icmp .eq off, 3)) (ht : (pc : Int) + off = (tgt : Int)) (kt : x = y → VF p l e R s m args below meth c cells slots D A nL Q X ws tgt lv st) (kf : ¬ x = y → VF p l e R s m args below meth c cells slots D A nL Q Y ws (pc + 3) lv st) : VF p l e R s m args below meth c cells slots D A nL Q (if x = y then X else Y) ws pc lv (.int y :: .int x :: st) := fun r hr H locs ls hP hD hS hl => lv_icmp_eq C.1 C.2.1 hdg ht (fun h => kt h r (by rw [if_pos h] at hr; exact hr) H locs ls hP hD hS hl) (fun h => kf h r (by rw [if_neg h] at hr; exact hr) H locs ls hP hD hS hl)
theorem VF.if_ne (C : CX p s m args meth c cc nL own D cI cZ A rt) {x : Int32} {off : Int} (tgt : Nat) (hdg : decode cc pc = .ok (.ifCond .ne off, 3)) (ht : (pc : Int) + off = (tgt : Int)) (kt : ¬ x = 0 → VF p l e R s m args below meth c cells slots D A nL Q X ws tgt lv st) (kf : x = 0 → VF p l e R s m args below meth c cells slots D A nL Q Y ws (pc + 3) lv st) : VF p l e R s m args below meth c cells slots D A nL Q (if x = 0 then Y else X) ws pc lv (.int x :: st) := fun r hr H locs ls hP hD hS hl => lv_if_ne C.1 C.2.1 hdg ht (fun h => kt h r (by rw [if_neg h] at hr; exact hr) H locs ls hP hD hS hl) (fun h => kf h r (by rw [if_pos h] at hr; exact hr) H locs ls hP hD hS hl)
theorem VF.icmp_ne (C : CX p s m args meth c cc nL own D cI cZ A rt) {x y : Int32} {off : Int} (tgt : Nat) (hdg : decode cc pc = .ok (.if_icmp .ne off, 3)) (ht : (pc : Int) + off = (tgt : Int)) (kt : ¬ x = y → VF p l e R s m args below meth c cells slots D A nL Q X ws tgt lv st) (kf : x = y → VF p l e R s m args below meth c cells slots D A nL Q Y ws (pc + 3) lv st) : VF p l e R s m args below meth c cells slots D A nL Q (if x = y then Y else X) ws pc lv (.int y :: .int x :: st) := fun r hr H locs ls hP hD hS hl => lv_icmp_ne C.1 C.2.1 hdg ht (fun h => kt h r (by rw [if_neg h] at hr; exact hr) H locs ls hP hD hS hl) (fun h => kf h r (by rw [if_pos h] at hr; exact hr) H locs ls hP hD hS hl)
theorem VF.if_lt (C : CX p s m args meth c cc nL own D cI cZ A rt) {x : Int32} {off : Int} (tgt : Nat) (hdg : decode cc pc = .ok (.ifCond .lt off, 3)) (ht : (pc : Int) + off = (tgt : Int)) (kt : x < 0 → VF p l e R s m args below meth c cells slots D A nL Q X ws tgt lv st) (kf : ¬ x < 0 → VF p l e R s m args below meth c cells slots D A nL Q Y ws (pc + 3) lv st) : VF p l e R s m args below meth c cells slots D A nL Q (if x < 0 then X else Y) ws pc lv (.int x :: st) := fun r hr H locs ls hP hD hS hl => lv_if_lt C.1 C.2.1 hdg ht (fun h => kt h r (by rw [if_pos h] at hr; exact hr) H locs ls hP hD hS hl) (fun h => kf h r (by rw [if_neg h] at hr; exact hr) H locs ls hP hD hS hl)
theorem VF.icmp_lt (C : CX p s m args meth c cc nL own D cI cZ A rt) {x y : Int32} {off : Int} (tgt : Nat) (hdg : decode cc pc = .ok (.if_icmp .lt off, 3)) (ht : (pc : Int) + off = (tgt : Int)) (kt : x < y → VF p l e R s m args below meth c cells slots D A nL Q X ws tgt lv st) (kf : ¬ x < y → VF p l e R s m args below meth c cells slots D A nL Q Y ws (pc + 3) lv st) : VF p l e R s m args below meth c cells slots D A nL Q (if x < y then X else Y) ws pc lv (.int y :: .int x :: st) := fun r hr H locs ls hP hD hS hl => lv_icmp_lt C.1 C.2.1 hdg ht (fun h => kt h r (by rw [if_pos h] at hr; exact hr) H locs ls hP hD hS hl) (fun h => kf h r (by rw [if_neg h] at hr; exact hr) H locs ls hP hD hS hl)
theorem VF.if_ge (C : CX p s m args meth c cc nL own D cI cZ A rt) {x : Int32} {off : Int} (tgt : Nat) (hdg : decode cc pc = .ok (.ifCond .ge off, 3)) (ht : (pc : Int) + off = (tgt : Int)) (kt : 0 ≤ x → VF p l e R s m args below meth c cells slots D A nL Q X ws tgt lv st) (kf : ¬ 0 ≤ x → VF p l e R s m args below meth c cells slots D A nL Q Y ws (pc + 3) lv st) : VF p l e R s m args below meth c cells slots D A nL Q (if 0 ≤ x then X else Y) ws pc lv (.int x :: st) := fun r hr H locs ls hP hD hS hl => lv_if_ge C.1 C.2.1 hdg ht (fun h => kt h r (by rw [if_pos h] at hr; exact hr) H locs ls hP hD hS hl) (fun h => kf h r (by rw [if_neg h] at hr; exact hr) H locs ls hP hD hS hl)
theorem VF.icmp_ge (C : CX p s m args meth c cc nL own D cI cZ A rt) {x y : Int32} {off : Int} (tgt : Nat) (hdg : decode cc pc = .ok (.if_icmp .ge off, 3)) (ht : (pc : Int) + off = (tgt : Int)) (kt : y ≤ x → VF p l e R s m args below meth c cells slots D A nL Q X ws tgt lv st) (kf : ¬ y ≤ x → VF p l e R s m args below meth c cells slots D A nL Q Y ws (pc + 3) lv st) : VF p l e R s m args below meth c cells slots D A nL Q (if y ≤ x then X else Y) ws pc lv (.int y :: .int x :: st) := fun r hr H locs ls hP hD hS hl => lv_icmp_ge C.1 C.2.1 hdg ht (fun h => kt h r (by rw [if_pos h] at hr; exact hr) H locs ls hP hD hS hl) (fun h => kf h r (by rw [if_neg h] at hr; exact hr) H locs ls hP hD hS hl)
theorem VF.if_gt (C : CX p s m args meth c cc nL own D cI cZ A rt) {x : Int32} {off : Int} (tgt : Nat) (hdg : decode cc pc = .ok (.ifCond .gt off, 3)) (ht : (pc : Int) + off = (tgt : Int)) (kt : 0 < x → VF p l e R s m args below meth c cells slots D A nL Q X ws tgt lv st) (kf : ¬ 0 < x → VF p l e R s m args below meth c cells slots D A nL Q Y ws (pc + 3) lv st) : VF p l e R s m args below meth c cells slots D A nL Q (if 0 < x then X else Y) ws pc lv (.int x :: st) := fun r hr H locs ls hP hD hS hl => lv_if_gt C.1 C.2.1 hdg ht (fun h => kt h r (by rw [if_pos h] at hr; exact hr) H locs ls hP hD hS hl) (fun h => kf h r (by rw [if_neg h] at hr; exact hr) H locs ls hP hD hS hl)
theorem VF.icmp_gt (C : CX p s m args meth c cc nL own D cI cZ A rt) {x y : Int32} {off : Int} (tgt : Nat) (hdg : decode cc pc = .ok (.if_icmp .gt off, 3)) (ht : (pc : Int) + off = (tgt : Int)) (kt : y < x → VF p l e R s m args below meth c cells slots D A nL Q X ws tgt lv st) (kf : ¬ y < x → VF p l e R s m args below meth c cells slots D A nL Q Y ws (pc + 3) lv st) : VF p l e R s m args below meth c cells slots D A nL Q (if y < x then X else Y) ws pc lv (.int y :: .int x :: st) := fun r hr H locs ls hP hD hS hl => lv_icmp_gt C.1 C.2.1 hdg ht (fun h => kt h r (by rw [if_pos h] at hr; exact hr) H locs ls hP hD hS hl) (fun h => kf h r (by rw [if_neg h] at hr; exact hr) H locs ls hP hD hS hl)
theorem VF.if_le (C : CX p s m args meth c cc nL own D cI cZ A rt) {x : Int32} {off : Int} (tgt : Nat) (hdg : decode cc pc = .ok (.ifCond .le off, 3)) (ht : (pc : Int) + off = (tgt : Int)) (kt : x ≤ 0 → VF p l e R s m args below meth c cells slots D A nL Q X ws tgt lv st) (kf : ¬ x ≤ 0 → VF p l e R s m args below meth c cells slots D A nL Q Y ws (pc + 3) lv st) : VF p l e R s m args below meth c cells slots D A nL Q (if x ≤ 0 then X else Y) ws pc lv (.int x :: st) := fun r hr H locs ls hP hD hS hl => lv_if_le C.1 C.2.1 hdg ht (fun h => kt h r (by rw [if_pos h] at hr; exact hr) H locs ls hP hD hS hl) (fun h => kf h r (by rw [if_neg h] at hr; exact hr) H locs ls hP hD hS hl)
theorem VF.icmp_le (C : CX p s m args meth c cc nL own D cI cZ A rt) {x y : Int32} {off : Int} (tgt : Nat) (hdg : decode cc pc = .ok (.if_icmp .le off, 3)) (ht : (pc : Int) + off = (tgt : Int)) (kt : x ≤ y → VF p l e R s m args below meth c cells slots D A nL Q X ws tgt lv st) (kf : ¬ x ≤ y → VF p l e R s m args below meth c cells slots D A nL Q Y ws (pc + 3) lv st) : VF p l e R s m args below meth c cells slots D A nL Q (if x ≤ y then X else Y) ws pc lv (.int y :: .int x :: st) := fun r hr H locs ls hP hD hS hl => lv_icmp_le C.1 C.2.1 hdg ht (fun h => kt h r (by rw [if_pos h] at hr; exact hr) H locs ls hP hD hS hl) (fun h => kf h r (by rw [if_neg h] at hr; exact hr) H locs ls hP hD hS hl)
theorem VF.lookup (C : CX p s m args meth c cc nL own D cI cZ A rt) {dflt : Int} {ps : Array (Int × Int)} {len : Nat} {x : Int32} {off : Int} (tgt : Nat) (hdg : decode cc pc = .ok (.lookupswitch dflt ps, len)) (hp : (ps.toList.zip (ps.toList.drop 1)).all (fun (a, next) => a.1 < next.1) = true) (ho : Op.lookupswitch.offset ps.toList dflt x.toInt = off) (ht : (pc : Int) + off = (tgt : Int)) (k : VF p l e R s m args below meth c cells slots D A nL Q X ws tgt lv st) : VF p l e R s m args below meth c cells slots D A nL Q X ws pc lv (.int x :: st) := fun r hr H locs ls hP hD hS hl => lv_lookup C.1 C.2.1 hdg hp ho ht (k r hr H locs ls hP hD hS hl)
theorem VF.tableOut (C : CX p s m args meth c cc nL own D cI cZ A rt) {dflt lo hi : Int} {offs : Array Int} {len : Nat} {x : Int32} (tgt : Nat) (hdg : decode cc pc = .ok (.tableswitch dflt lo hi offs, len)) (h : x.toInt < lo ∨ hi < x.toInt) (ht : (pc : Int) + dflt = (tgt : Int)) (k : VF p l e R s m args below meth c cells slots D A nL Q X ws tgt lv st) : VF p l e R s m args below meth c cells slots D A nL Q X ws pc lv (.int x :: st) := fun r hr H locs ls hP hD hS hl => lv_tableOut C.1 C.2.1 hdg h ht (k r hr H locs ls hP hD hS hl)
theorem VF.tableIn (C : CX p s m args meth c cc nL own D cI cZ A rt) {dflt lo hi : Int} {offs : Array Int} {len : Nat} {x : Int32} {off : Int} (tgt : Nat) (hdg : decode cc pc = .ok (.tableswitch dflt lo hi offs, len)) (h1 : ¬ x.toInt < lo) (h2 : ¬ hi < x.toInt) (ho : offs[(x.toInt - lo).toNat]? = some off) (ht : (pc : Int) + off = (tgt : Int)) (k : VF p l e R s m args below meth c cells slots D A nL Q X ws tgt lv st) : VF p l e R s m args below meth c cells slots D A nL Q X ws pc lv (.int x :: st) := fun r hr H locs ls hP hD hS hl => lv_tableIn C.1 C.2.1 hdg h1 h2 ho ht (k r hr H locs ls hP hD hS hl)
theorem VF.get (C : CX p s m args meth c cc nL own D cI cZ A rt) {index ci N k : Nat} {C0 : String} {T : u_T} (f : FLk own index ci C0 T N k) (q0 : Nat) {a : Nat} {fs : List Value} {v : Value} (he : ws[q0]? = some (a, .inr (ci, fs))) (hv : fs[k]? = some v) (hdg : decode cc pc = .ok (.getfield index, 3)) (kk : VF p l e R s m args below meth c cells slots D A nL Q X ws (pc + 3) lv (v :: st)) : VF p l e R s m args below meth c cells slots D A nL Q X ws pc lv (.ref a :: st) :=
  fun r hr H locs ls hP hD hS hl => va_get C.1 C.2.1 C.2.2.2.2.1 f.2.1 C.2.2.2.1 C.2.2.2.2.2.1 hP q0 he f.1 k f.2.2.1 (C.2.2.2.2.1 _ f.2.2.2) (fun _ h => h) hv hdg (kk r hr H locs ls hP hD hS hl)
theorem VF.put0 (C : CX p s m args meth c cc nL own D cI cZ A rt) {index ci N k : Nat} {C0 : String} {T : u_T} (f : FLk own index ci C0 T N k) (ty0 : Nat → FieldType) (hty : ∀ k, k < N → parseFieldDescriptor (T k).2.2.1 = some (ty0 k)) (hnm : ∀ a, a < N → ∀ b, b < N → a ≠ b → (T a).2.1 ≠ (T b).2.1) (q0 : Nat) {a : Nat} {fs : List Value} {v : Value} {ws' : va_W} (he : ws[q0]? = some (a, .inr (ci, fs))) (hfin : (T k).2.2.2 = false) (hn : narrow (ty0 k) v = v) (hfit : fits (ty0 k) v = true) (hlen : k < fs.length) (hws : ws.set q0 (a, .inr (ci, fs.set k v)) = ws') (hdg : decode cc pc = .ok (.putfield index, 3)) (kk : VF p l e R s m args below meth c cells slots D A nL Q X ws' (pc + 3) lv st) : VF p l e R s m args below meth c cells slots D A nL Q X ws pc lv (v :: .ref a :: st) := by
  subst hws
  exact fun r hr H locs ls hP hD hS hl => va_put C.1 C.2.1 C.2.2.2.2.1 f.2.1 ty0 hty hnm C.2.2.2.1 C.2.2.2.2.2.1 hP hD hS q0 he f.1 k f.2.2.1 (C.2.2.2.2.1 _ f.2.2.2) (fun _ h => h) hfin (hty k f.2.2.1) hn hfit hlen hdg (fun H1 locs1 hP1 hD1 hS1 => kk r hr H1 locs1 ls hP1 hD1 hS1 hl)
theorem VF.put (C : CX p s m args meth c cc nL own D cI cZ A rt) {index ci N k : Nat} {C0 : String} {T : u_T} (f : FLk own index ci C0 T N k) (ty0 : Nat → FieldType) (hty : ∀ k, k < N → parseFieldDescriptor (T k).2.2.1 = some (ty0 k)) (hnm : ∀ a, a < N → ∀ b, b < N → a ≠ b → (T a).2.1 ≠ (T b).2.1) (q0 : Nat) {a : Nat} {fs : List Value} {x : Int32} {ws' : va_W} (he : ws[q0]? = some (a, .inr (ci, fs))) (hfin : (T k).2.2.2 = false) (ht : ty0 k = .int) (hlen : k < fs.length) (hws : ws.set q0 (a, .inr (ci, fs.set k (.int x))) = ws') (hdg : decode cc pc = .ok (.putfield index, 3)) (kk : VF p l e R s m args below meth c cells slots D A nL Q X ws' (pc + 3) lv st) : VF p l e R s m args below meth c cells slots D A nL Q X ws pc lv (.int x :: .ref a :: st) :=
  VF.put0 C f ty0 hty hnm q0 he hfin (by rw [ht]; rfl) (by rw [ht]; rfl) hlen hws hdg kk
theorem VF.putb (C : CX p s m args meth c cc nL own D cI cZ A rt) {index ci N k : Nat} {C0 : String} {T : u_T} (f : FLk own index ci C0 T N k) (ty0 : Nat → FieldType) (hty : ∀ k, k < N → parseFieldDescriptor (T k).2.2.1 = some (ty0 k)) (hnm : ∀ a, a < N → ∀ b, b < N → a ≠ b → (T a).2.1 ≠ (T b).2.1) (q0 : Nat) {a : Nat} {fs : List Value} {x : Int32} {ws' : va_W} (he : ws[q0]? = some (a, .inr (ci, fs))) (hfin : (T k).2.2.2 = false) (ht : ty0 k = .boolean) (hlen : k < fs.length) (hws : ws.set q0 (a, .inr (ci, fs.set k (.int x))) = ws') (hdg : decode cc pc = .ok (.putfield index, 3)) (kk : VF p l e R s m args below meth c cells slots D A nL Q X ws' (pc + 3) lv st) : VF p l e R s m args below meth c cells slots D A nL Q (oZ x X) ws pc lv (.int x :: .ref a :: st) :=
  fun r hr => VF.put0 C f ty0 hty hnm q0 he hfin (by rw [ht]; exact z_nar (oZ_some hr).1) (by rw [ht]; exact z_fit (oZ_some hr).1) hlen hws hdg kk r (oZ_some hr).2
theorem VF.putbK (C : CX p s m args meth c cc nL own D cI cZ A rt) {index ci N k : Nat} {C0 : String} {T : u_T} (f : FLk own index ci C0 T N k) (ty0 : Nat → FieldType) (hty : ∀ k, k < N → parseFieldDescriptor (T k).2.2.1 = some (ty0 k)) (hnm : ∀ a, a < N → ∀ b, b < N → a ≠ b → (T a).2.1 ≠ (T b).2.1) (q0 : Nat) {a : Nat} {fs : List Value} {x : Int32} {ws' : va_W} (hx : x = 0 ∨ x = 1) (he : ws[q0]? = some (a, .inr (ci, fs))) (hfin : (T k).2.2.2 = false) (ht : ty0 k = .boolean) (hlen : k < fs.length) (hws : ws.set q0 (a, .inr (ci, fs.set k (.int x))) = ws') (hdg : decode cc pc = .ok (.putfield index, 3)) (kk : VF p l e R s m args below meth c cells slots D A nL Q X ws' (pc + 3) lv st) : VF p l e R s m args below meth c cells slots D A nL Q X ws pc lv (.int x :: .ref a :: st) :=
  VF.put0 C f ty0 hty hnm q0 he hfin (by rw [ht]; exact z_nar hx) (by rw [ht]; exact z_fit hx) hlen hws hdg kk
theorem VF.iald (C : CX p s m args meth c cc nL own D cI cZ A rt) (q0 : Nat) {a n : Nat} {f : Fn} {i : Int32} (he : ws[q0]? = some (a, .inl (cI, n, .inl f))) (hdg : decode cc pc = .ok (.iaload, 1)) (kk : VF p l e R s m args below meth c cells slots D A nL Q X ws (pc + 1) lv (.int (f i.toNatClampNeg) :: st)) : VF p l e R s m args below meth c cells slots D A nL Q (oI i n X) ws pc lv (.int i :: .ref a :: st) :=
  fun r hr H locs ls hP hD hS hl => va_iald C.1 C.2.1 C.2.2.2.2.2.1 hP q0 0 he rfl (oI_some hr).1 hdg (kk r (oI_some hr).2 H locs ls hP hD hS hl)
theorem VF.ialdK (C : CX p s m args meth c cc nL own D cI cZ A rt) (q0 j : Nat) {a n : Nat} {f : Fn} {i : Int32} (hi : i = nI j) (hj : j < n) (hn : n < 2 ^ 31) (he : ws[q0]? = some (a, .inl (cI, n, .inl f))) (hdg : decode cc pc = .ok (.iaload, 1)) (kk : VF p l e R s m args below meth c cells slots D A nL Q X ws (pc + 1) lv (.int (f j) :: st)) : VF p l e R s m args below meth c cells slots D A nL Q X ws pc lv (.int i :: .ref a :: st) := by
  subst hi
  exact fun r hr H locs ls hP hD hS hl => va_iald C.1 C.2.1 C.2.2.2.2.2.1 hP q0 0 he rfl (vp_in_nI hj hn) hdg (by rw [nI_clamp (Nat.lt_trans hj hn)]; exact kk r hr H locs ls hP hD hS hl)
theorem VF.zald (C : CX p s m args meth c cc nL own D cI cZ A rt) (q0 : Nat) {a n : Nat} {f : Fn} {i : Int32} (he : ws[q0]? = some (a, .inl (cZ, n, .inl f))) (hdg : decode cc pc = .ok (.baload, 1)) (kk : VF p l e R s m args below meth c cells slots D A nL Q X ws (pc + 1) lv (.int (f i.toNatClampNeg) :: st)) : VF p l e R s m args below meth c cells slots D A nL Q (oI i n X) ws pc lv (.int i :: .ref a :: st) :=
  fun r hr H locs ls hP hD hS hl => va_zald C.1 C.2.1 C.2.2.2.2.2.1 hP q0 1 he rfl (oI_some hr).1 hdg (kk r (oI_some hr).2 H locs ls hP hD hS hl)
theorem VF.iast (C : CX p s m args meth c cc nL own D cI cZ A rt) (q0 : Nat) {a n : Nat} {f : Fn} {i x : Int32} {ws' : va_W} (he : ws[q0]? = some (a, .inl (cI, n, .inl f))) (hws : ws.set q0 (a, .inl (cI, n, .inl (upd f i.toNatClampNeg x))) = ws') (hdg : decode cc pc = .ok (.iastore, 1)) (kk : VF p l e R s m args below meth c cells slots D A nL Q X ws' (pc + 1) lv st) : VF p l e R s m args below meth c cells slots D A nL Q (oI i n X) ws pc lv (.int x :: .int i :: .ref a :: st) := by
  subst hws
  exact fun r hr H locs ls hP hD hS hl => va_iast C.1 C.2.1 C.2.2.2.2.2.1 hP hD hS q0 0 he rfl (oI_some hr).1 hdg (fun H1 locs1 hP1 hD1 hS1 => kk r (oI_some hr).2 H1 locs1 ls hP1 hD1 hS1 hl)
theorem VF.iastK (C : CX p s m args meth c cc nL own D cI cZ A rt) (q0 j : Nat) {a n : Nat} {f : Fn} {i x : Int32} {ws' : va_W} (hi : i = nI j) (hj : j < n) (hn : n < 2 ^ 31) (he : ws[q0]? = some (a, .inl (cI, n, .inl f))) (hws : ws.set q0 (a, .inl (cI, n, .inl (upd f j x))) = ws') (hdg : decode cc pc = .ok (.iastore, 1)) (kk : VF p l e R s m args below meth c cells slots D A nL Q X ws' (pc + 1) lv st) : VF p l e R s m args below meth c cells slots D A nL Q X ws pc lv (.int x :: .int i :: .ref a :: st) := by
  subst hi
  subst hws
  exact fun r hr H locs ls hP hD hS hl => va_iast C.1 C.2.1 C.2.2.2.2.2.1 hP hD hS q0 0 he rfl (vp_in_nI hj hn) hdg (by rw [nI_clamp (Nat.lt_trans hj hn)]; exact fun H1 locs1 hP1 hD1 hS1 => kk r hr H1 locs1 ls hP1 hD1 hS1 hl)
theorem VF.zast (C : CX p s m args meth c cc nL own D cI cZ A rt) (q0 : Nat) {a n : Nat} {f : Fn} {i x : Int32} {ws' : va_W} (he : ws[q0]? = some (a, .inl (cZ, n, .inl f))) (hws : ws.set q0 (a, .inl (cZ, n, .inl (upd f i.toNatClampNeg x))) = ws') (hdg : decode cc pc = .ok (.bastore, 1)) (kk : VF p l e R s m args below meth c cells slots D A nL Q X ws' (pc + 1) lv st) : VF p l e R s m args below meth c cells slots D A nL Q (oI i n (oZ x X)) ws pc lv (.int x :: .int i :: .ref a :: st) := by
  subst hws
  refine fun r hr H locs ls hP hD hS hl => va_zast C.1 C.2.1 C.2.2.2.2.2.1 hP hD hS q0 1 he rfl (oI_some hr).1 hdg (fun H1 locs1 hP1 hD1 hS1 => ?_)
  have hz := oZ_some (oI_some hr).2
  rw [z_vp hz.1] at hP1 hD1
  exact kk r hz.2 H1 locs1 ls hP1 hD1 hS1 hl
theorem VF.alen (C : CX p s m args meth c cc nL own D cI cZ A rt) (q0 : Nat) {a n : Nat} {f : Fn} {v : Int32} (he : ws[q0]? = some (a, .inl (cI, n, .inl f))) (hv : Int32.ofNat n = v) (hdg : decode cc pc = .ok (.arraylength, 1)) (kk : VF p l e R s m args below meth c cells slots D A nL Q X ws (pc + 1) lv (.int v :: st)) : VF p l e R s m args below meth c cells slots D A nL Q X ws pc lv (.ref a :: st) :=
  fun r hr H locs ls hP hD hS hl => va_alen C.1 C.2.1 C.2.2.2.2.2.1 hP q0 0 he rfl hv hdg (kk r hr H locs ls hP hD hS hl)
theorem VF.alenZ (C : CX p s m args meth c cc nL own D cI cZ A rt) (q0 : Nat) {a n : Nat} {f : Fn} {v : Int32} (he : ws[q0]? = some (a, .inl (cZ, n, .inl f))) (hv : Int32.ofNat n = v) (hdg : decode cc pc = .ok (.arraylength, 1)) (kk : VF p l e R s m args below meth c cells slots D A nL Q X ws (pc + 1) lv (.int v :: st)) : VF p l e R s m args below meth c cells slots D A nL Q X ws pc lv (.ref a :: st) :=
  fun r hr H locs ls hP hD hS hl => va_alen C.1 C.2.1 C.2.2.2.2.2.1 hP q0 1 he rfl hv hdg (kk r hr H locs ls hP hD hS hl)
theorem VF.iret (C : CX p s m args meth c cc nL own D cI cZ A (some .int)) {rv : τ → Option Value} {wv : τ → va_W} {r0 : τ} {v : Int32} (hv : rv r0 = some (.int v)) (hw : wv r0 = ws) (hdg : decode cc pc = .ok (.ireturn, 1)) : VF p l e R s m args below meth c 0 0 D A nL (fun r => MQ below (QcX (rv r) D (wv r) A) args s 0 0 A) (some r0) ws pc lv [.int v] := fun r hr H locs ls hP hD hS hl => by
  cases hr
  exact W.iret C.1 C.2.1 C.2.2.2.2.2.2.2.2.1 (fun t ht _ => ⟨⟨by rw [hv], by rw [hw, ht]; exact hP⟩, hS.F ht⟩) hS.2.2 hdg C.2.2.2.2.2.2.2.2.2
theorem VF.zretK (C : CX p s m args meth c cc nL own D cI cZ A (some .boolean)) {rv : τ → Option Value} {wv : τ → va_W} {r0 : τ} {v : Int32} (hz : v = 0 ∨ v = 1) (hv : rv r0 = some (.int v)) (hw : wv r0 = ws) (hdg : decode cc pc = .ok (.ireturn, 1)) : VF p l e R s m args below meth c 0 0 D A nL (fun r => MQ below (QcX (rv r) D (wv r) A) args s 0 0 A) (some r0) ws pc lv [.int v] := fun r hr H locs ls hP hD hS hl => by
  cases hr
  exact W.zret C.1 C.2.1 C.2.2.2.2.2.2.2.2.1 (z_nar hz) (fun t ht _ => ⟨⟨by rw [hv], by rw [hw, ht]; exact hP⟩, hS.F ht⟩) hS.2.2 hdg C.2.2.2.2.2.2.2.2.2
theorem VF.zret (C : CX p s m args meth c cc nL own D cI cZ A (some .boolean)) {rv : τ → Option Value} {wv : τ → va_W} {r0 : τ} {v : Int32} (hv : rv r0 = some (.int v)) (hw : wv r0 = ws) (hdg : decode cc pc = .ok (.ireturn, 1)) : VF p l e R s m args below meth c 0 0 D A nL (fun r => MQ below (QcX (rv r) D (wv r) A) args s 0 0 A) (oZ v (some r0)) ws pc lv [.int v] := fun r hr => VF.zretK C (oZ_some hr).1 hv hw hdg r (oZ_some hr).2
theorem VF.vret (C : CX p s m args meth c cc nL own D cI cZ A none) {rv : τ → Option Value} {wv : τ → va_W} {r0 : τ} (hv : rv r0 = none) (hw : wv r0 = ws) (hdg : decode cc pc = .ok (.return_, 1)) : VF p l e R s m args below meth c 0 0 D A nL (fun r => MQ below (QcX (rv r) D (wv r) A) args s 0 0 A) (some r0) ws pc lv [] := fun r hr H locs ls hP hD hS hl => by
  cases hr
  exact W.vret C.1 C.2.1 C.2.2.2.2.2.2.2.2.1 (fun t ht _ => ⟨⟨by rw [hv], by rw [hw, ht]; exact hP⟩, hS.F ht⟩) hS.2.2 hdg C.2.2.2.2.2.2.2.2.2
theorem VF.aret {cn : String} (C : CX p s m args meth c cc nL own D cI cZ A (some (.object cn))) {rv : τ → Option Value} {wv : τ → va_W} {r0 : τ} {v : Nat} (hv : rv r0 = some (.ref v)) (hw : wv r0 = ws) (hdg : decode cc pc = .ok (.areturn, 1)) : VF p l e R s m args below meth c 0 0 D A nL (fun r => MQ below (QcX (rv r) D (wv r) A) args s 0 0 A) (some r0) ws pc lv [.ref v] := fun r hr H locs ls hP hD hS hl => by
  cases hr
  exact W.aret C.1 C.2.1 C.2.2.2.2.2.2.2.2.1 (Or.inl ⟨cn, rfl⟩) (Or.inr ⟨v, rfl⟩) (fun t ht _ => ⟨⟨by rw [hv], by rw [hw, ht]; exact hP⟩, hS.F ht⟩) hS.2.2 hdg C.2.2.2.2.2.2.2.2.2
theorem vf_go {H : Heap} {locs : List Loc} {mc ms : Nat} {ls : Array Slot} {st0 rest : List Value} {rv : Option Value} {w' : va_W} {A1 : Nat → Prop} {a : Array Value} {free : Addr → Prop} {H0 : Heap} {Qf : State → Prop} (hr : va_Run p l e R s m args below meth c H locs cells slots mc ms (F0 m pc ls st0) rest (QcX rv D w' A1 a) free) (hS : va_S A H0 H locs) (hA : ∀ q, q < H.size → A1 q → A q) (hf : ∀ q, free q → A q)
    (kk : ∀ (H1 : Heap) (locs1 : List Loc), va_P D vwCl w' H1 → (∀ q : Nat, q < H.size → ¬ A1 q → H1[q]? = H[q]?) → va_S A H0 H1 locs1 → W p l e R s m args below meth c H1 locs1 (cells + mc) (slots + ms) Qf (F0 m (pc + 3) ls (rv.toList ++ rest))) : W p l e R s m args below meth c H locs cells slots Qf (F0 m pc ls st0) := by
  intro T hT X
  obtain ⟨v, st₀, t, T', L, h0, X', hL, e1, e2, ⟨⟨hv, hb⟩, hz, hk⟩, st⟩ := hr T hT X
  cases hv
  rw [h0] at hz hk
  obtain ⟨t2, a1, b1⟩ := kk T'.heap (locs ++ L) (by rw [e1]; exact hb) (fun q h1 h2 => by rw [e1]; exact hk q h1 h2)
    ⟨Nat.le_trans hS.1 (by rw [e1]; exact hz), fun q h1 h2 => by rw [e1, hk q (Nat.lt_of_lt_of_le h1 hS.1) (fun z => h2 (hA q (Nat.lt_of_lt_of_le h1 hS.1) z))]; exact hS.2.1 q h1 h2, fun q hq => by
      rcases List.mem_append.mp hq with h | h
      · exact hS.2.2 q h
      · exact hf _ (hL q h)⟩ T' rfl X'
  exact ⟨t2, st t2 a1, b1⟩
theorem PcX.at {av : List Value} {w : va_W} {H : Heap} {is : List Nat} (C : CX p s m args meth c cc nL own D cI cZ A rt) (hP : va_P D vwCl ws H) (hD : va_D A ws) (hs : is.map (fun i => ws[i]?) = w.map some) (hn : va_nd is = true) : ∀ U : State, U.heap = H → s.WarmedH U.vm → PcX av D cI cZ w H.size av.toArray U := by
  intro U hU hW
  refine ⟨rfl, by rw [hU], fun k q hq => ?_, va_K.moved hW.alike C.2.2.2.2.2.1, (hD.sub is hn hs).weaken (fun _ _ _ _ => trivial), C.2.2.2.2.2.2.1.warm hW⟩
  obtain ⟨i, _, h2⟩ := map_at hs k q hq
  rw [hU]
  exact hP i q h2
theorem VF.callVi (C : CX p s m args meth c cc nL own D cI cZ A rt) {σ : Type} {y0 : MethodName} {bytes : ByteArray} {idx maxL fr lo n : Nat} {ret : Option FieldType} {b : Nat} {As rest st0 : List Value} {w : va_W} {Z : Option σ} {rv : σ → Option Value} {wv : σ → va_W} {K : σ → Option τ} {ci N : Nat} {T : u_T} {fs : List Value} (L : LkV own idx y0 bytes maxL ret n) (M : Ctr l y0 bytes maxL ret fr lo D cI cZ (.ref b :: As) w Z rv wv) (ri : σ → Int32) (hrv : ∀ y, rv y = some (.int (ri y))) (is : List Nat) (hs : is.map (fun i => ws[i]?) = w.map some) (hnd : va_nd is = true) (hwv : ∀ y, (wv y).map Prod.fst = w.map Prod.fst) {ws' : σ → va_W} (hws : ∀ y, setM ws is (wv y) = ws' y) (hcl : vwCl[ci]? = some (y0.cls, T, N)) (hq : w[0]? = some (b, .inr (ci, fs))) (hst : st0 = As.reverse ++ .ref b :: rest) (hn : As.length = n) (hroom : (rest.map fun v => v.category).sum ≤ 8) (hR : fr + 1 ≤ R.frames ∧ 8 + (maxL + 11) + lo ≤ R.locals) (hdg : decode cc pc = .ok (.invokevirtual idx, 3)) (hf : cells + 0 ≤ R.cells ∧ slots + 0 ≤ R.slots)
    (kk : ∀ y : σ, VF p l e R s m args below meth c cells slots D A nL Q (K y) (ws' y) (pc + 3) lv (.int (ri y) :: rest)) : VF p l e R s m args below meth c cells slots D A nL Q (oB Z K) ws pc lv st0 := by
  intro r hr H locs ls hP hD hS hl
  obtain ⟨y, hy, hk⟩ := oB_some hr
  subst hst
  have hFc := va_free (wc := w) hD hS C.2.2.2.2.2.2.2.1 is hs
  refine vf_go (va_runV (As := As) (rest := rest) (b := b) ⟨C.1, C.2.1, C.2.2.1, C.2.2.2.1, C.2.2.2.2.1⟩ (M y hy H.size) (cwV n C.2.2.2.2.1 (good_wT L.all) rfl rfl rfl ⟨rfl, L.2.1, L.2.2.1, L.2.2.2⟩ hR) ⟨PcX.blind, va_recv C.2.2.2.2.2.1 (fun k q hq => by obtain ⟨i, _, h2⟩ := map_at hs k q hq; exact hP i q h2) hcl hq, PcX.at C hP hD hs hnd⟩ rfl hn hl.1 rfl (lv_room hroom) hdg hf) hS (fun q _ h => hFc q h) hFc (fun H1 locs1 hP1 hk1 hS1 => ?_)
  have k1 := kk y r hk H1 locs1 ls (by rw [← hws]; exact setM_P hP hD hs (hwv y) hk1 hP1) (by rw [← hws]; exact hD.same (setM_ok hs (hwv y))) hS1 hl
  rw [hrv y]
  exact k1
theorem VF.callVv (C : CX p s m args meth c cc nL own D cI cZ A rt) {σ : Type} {y0 : MethodName} {bytes : ByteArray} {idx maxL fr lo n : Nat} {ret : Option FieldType} {b : Nat} {As rest st0 : List Value} {w : va_W} {Z : Option σ} {rv : σ → Option Value} {wv : σ → va_W} {K : σ → Option τ} {ci N : Nat} {T : u_T} {fs : List Value} (L : LkV own idx y0 bytes maxL ret n) (M : Ctr l y0 bytes maxL ret fr lo D cI cZ (.ref b :: As) w Z rv wv) (hrv : ∀ y, rv y = none) (is : List Nat) (hs : is.map (fun i => ws[i]?) = w.map some) (hnd : va_nd is = true) (hwv : ∀ y, (wv y).map Prod.fst = w.map Prod.fst) {ws' : σ → va_W} (hws : ∀ y, setM ws is (wv y) = ws' y) (hcl : vwCl[ci]? = some (y0.cls, T, N)) (hq : w[0]? = some (b, .inr (ci, fs))) (hst : st0 = As.reverse ++ .ref b :: rest) (hn : As.length = n) (hroom : (rest.map fun v => v.category).sum ≤ 8) (hR : fr + 1 ≤ R.frames ∧ 8 + (maxL + 11) + lo ≤ R.locals) (hdg : decode cc pc = .ok (.invokevirtual idx, 3)) (hf : cells + 0 ≤ R.cells ∧ slots + 0 ≤ R.slots)
    (kk : ∀ y : σ, VF p l e R s m args below meth c cells slots D A nL Q (K y) (ws' y) (pc + 3) lv rest) : VF p l e R s m args below meth c cells slots D A nL Q (oB Z K) ws pc lv st0 := by
  intro r hr H locs ls hP hD hS hl
  obtain ⟨y, hy, hk⟩ := oB_some hr
  subst hst
  have hFc := va_free (wc := w) hD hS C.2.2.2.2.2.2.2.1 is hs
  refine vf_go (va_runV (As := As) (rest := rest) (b := b) ⟨C.1, C.2.1, C.2.2.1, C.2.2.2.1, C.2.2.2.2.1⟩ (M y hy H.size) (cwV n C.2.2.2.2.1 (good_wT L.all) rfl rfl rfl ⟨rfl, L.2.1, L.2.2.1, L.2.2.2⟩ hR) ⟨PcX.blind, va_recv C.2.2.2.2.2.1 (fun k q hq => by obtain ⟨i, _, h2⟩ := map_at hs k q hq; exact hP i q h2) hcl hq, PcX.at C hP hD hs hnd⟩ rfl hn hl.1 rfl (lv_room hroom) hdg hf) hS (fun q _ h => hFc q h) hFc (fun H1 locs1 hP1 hk1 hS1 => ?_)
  have k1 := kk y r hk H1 locs1 ls (by rw [← hws]; exact setM_P hP hD hs (hwv y) hk1 hP1) (by rw [← hws]; exact hD.same (setM_ok hs (hwv y))) hS1 hl
  rw [hrv y]
  exact k1
theorem VF.callVr (C : CX p s m args meth c cc nL own D cI cZ A rt) {σ : Type} {y0 : MethodName} {bytes : ByteArray} {idx maxL fr lo n : Nat} {ret : Option FieldType} {b : Nat} {As rest st0 : List Value} {w : va_W} {Z : Option σ} {rv : σ → Option Value} {wv : σ → va_W} {K : σ → Option τ} {ci N : Nat} {T : u_T} {fs : List Value} (L : LkV own idx y0 bytes maxL ret n) (M : Ctr l y0 bytes maxL ret fr lo D cI cZ (.ref b :: As) w Z rv wv) (ri : σ → Nat) (hrv : ∀ y, rv y = some (.ref (ri y))) (is : List Nat) (hs : is.map (fun i => ws[i]?) = w.map some) (hnd : va_nd is = true) (hwv : ∀ y, (wv y).map Prod.fst = w.map Prod.fst) {ws' : σ → va_W} (hws : ∀ y, setM ws is (wv y) = ws' y) (hcl : vwCl[ci]? = some (y0.cls, T, N)) (hq : w[0]? = some (b, .inr (ci, fs))) (hst : st0 = As.reverse ++ .ref b :: rest) (hn : As.length = n) (hroom : (rest.map fun v => v.category).sum ≤ 8) (hR : fr + 1 ≤ R.frames ∧ 8 + (maxL + 11) + lo ≤ R.locals) (hdg : decode cc pc = .ok (.invokevirtual idx, 3)) (hf : cells + 0 ≤ R.cells ∧ slots + 0 ≤ R.slots)
    (kk : ∀ y : σ, VF p l e R s m args below meth c cells slots D A nL Q (K y) (ws' y) (pc + 3) lv (.ref (ri y) :: rest)) : VF p l e R s m args below meth c cells slots D A nL Q (oB Z K) ws pc lv st0 := by
  intro r hr H locs ls hP hD hS hl
  obtain ⟨y, hy, hk⟩ := oB_some hr
  subst hst
  have hFc := va_free (wc := w) hD hS C.2.2.2.2.2.2.2.1 is hs
  refine vf_go (va_runV (As := As) (rest := rest) (b := b) ⟨C.1, C.2.1, C.2.2.1, C.2.2.2.1, C.2.2.2.2.1⟩ (M y hy H.size) (cwV n C.2.2.2.2.1 (good_wT L.all) rfl rfl rfl ⟨rfl, L.2.1, L.2.2.1, L.2.2.2⟩ hR) ⟨PcX.blind, va_recv C.2.2.2.2.2.1 (fun k q hq => by obtain ⟨i, _, h2⟩ := map_at hs k q hq; exact hP i q h2) hcl hq, PcX.at C hP hD hs hnd⟩ rfl hn hl.1 rfl (lv_room hroom) hdg hf) hS (fun q _ h => hFc q h) hFc (fun H1 locs1 hP1 hk1 hS1 => ?_)
  have k1 := kk y r hk H1 locs1 ls (by rw [← hws]; exact setM_P hP hD hs (hwv y) hk1 hP1) (by rw [← hws]; exact hD.same (setM_ok hs (hwv y))) hS1 hl
  rw [hrv y]
  exact k1
theorem VF.callSi (C : CX p s m args meth c cc nL own D cI cZ A rt) {σ : Type} {y0 : MethodName} {bytes : ByteArray} {idx maxL fr lo n : Nat} {ret : Option FieldType} {b : Nat} {As rest st0 : List Value} {w : va_W} {Z : Option σ} {rv : σ → Option Value} {wv : σ → va_W} {K : σ → Option τ}  (L : LkS own idx y0 bytes maxL ret n) (M : Ctr l y0 bytes maxL ret fr lo D cI cZ As w Z rv wv) (ri : σ → Int32) (hrv : ∀ y, rv y = some (.int (ri y))) (is : List Nat) (hs : is.map (fun i => ws[i]?) = w.map some) (hnd : va_nd is = true) (hwv : ∀ y, (wv y).map Prod.fst = w.map Prod.fst) {ws' : σ → va_W} (hws : ∀ y, setM ws is (wv y) = ws' y)  (hst : st0 = As.reverse ++ rest) (hn : As.length = n) (hroom : (rest.map fun v => v.category).sum ≤ 8) (hR : fr + 1 ≤ R.frames ∧ 8 + (maxL + 11) + lo ≤ R.locals) (hdg : decode cc pc = .ok (.invokestatic idx, 3)) (hf : cells + 0 ≤ R.cells ∧ slots + 0 ≤ R.slots)
    (kk : ∀ y : σ, VF p l e R s m args below meth c cells slots D A nL Q (K y) (ws' y) (pc + 3) lv (.int (ri y) :: rest)) : VF p l e R s m args below meth c cells slots D A nL Q (oB Z K) ws pc lv st0 := by
  intro r hr H locs ls hP hD hS hl
  obtain ⟨y, hy, hk⟩ := oB_some hr
  subst hst
  have hFc := va_free (wc := w) hD hS C.2.2.2.2.2.2.2.1 is hs
  refine vf_go (va_runS (As := As) (rest := rest) ⟨C.1, C.2.1, C.2.2.1, C.2.2.2.1, C.2.2.2.2.1⟩ (M y hy H.size) ⟨callB_of n C.2.2.2.2.1 (good_wT (wM_in L.1.2.2.2)) rfl rfl rfl (C.2.2.2.2.1 _ L.1.2.2.1) (C.2.2.2.2.1 _ L.1.1) L.2 hR, C.2.2.2.2.1 _ L.1.2.1⟩ ⟨PcX.blind, PcX.at C hP hD hs hnd⟩ rfl hn hl.1 rfl (lv_room hroom) hdg hf) hS (fun q _ h => hFc q h) hFc (fun H1 locs1 hP1 hk1 hS1 => ?_)
  have k1 := kk y r hk H1 locs1 ls (by rw [← hws]; exact setM_P hP hD hs (hwv y) hk1 hP1) (by rw [← hws]; exact hD.same (setM_ok hs (hwv y))) hS1 hl
  rw [hrv y]
  exact k1
theorem VF.callSv (C : CX p s m args meth c cc nL own D cI cZ A rt) {σ : Type} {y0 : MethodName} {bytes : ByteArray} {idx maxL fr lo n : Nat} {ret : Option FieldType} {b : Nat} {As rest st0 : List Value} {w : va_W} {Z : Option σ} {rv : σ → Option Value} {wv : σ → va_W} {K : σ → Option τ}  (L : LkS own idx y0 bytes maxL ret n) (M : Ctr l y0 bytes maxL ret fr lo D cI cZ As w Z rv wv) (hrv : ∀ y, rv y = none) (is : List Nat) (hs : is.map (fun i => ws[i]?) = w.map some) (hnd : va_nd is = true) (hwv : ∀ y, (wv y).map Prod.fst = w.map Prod.fst) {ws' : σ → va_W} (hws : ∀ y, setM ws is (wv y) = ws' y)  (hst : st0 = As.reverse ++ rest) (hn : As.length = n) (hroom : (rest.map fun v => v.category).sum ≤ 8) (hR : fr + 1 ≤ R.frames ∧ 8 + (maxL + 11) + lo ≤ R.locals) (hdg : decode cc pc = .ok (.invokestatic idx, 3)) (hf : cells + 0 ≤ R.cells ∧ slots + 0 ≤ R.slots)
    (kk : ∀ y : σ, VF p l e R s m args below meth c cells slots D A nL Q (K y) (ws' y) (pc + 3) lv rest) : VF p l e R s m args below meth c cells slots D A nL Q (oB Z K) ws pc lv st0 := by
  intro r hr H locs ls hP hD hS hl
  obtain ⟨y, hy, hk⟩ := oB_some hr
  subst hst
  have hFc := va_free (wc := w) hD hS C.2.2.2.2.2.2.2.1 is hs
  refine vf_go (va_runS (As := As) (rest := rest) ⟨C.1, C.2.1, C.2.2.1, C.2.2.2.1, C.2.2.2.2.1⟩ (M y hy H.size) ⟨callB_of n C.2.2.2.2.1 (good_wT (wM_in L.1.2.2.2)) rfl rfl rfl (C.2.2.2.2.1 _ L.1.2.2.1) (C.2.2.2.2.1 _ L.1.1) L.2 hR, C.2.2.2.2.1 _ L.1.2.1⟩ ⟨PcX.blind, PcX.at C hP hD hs hnd⟩ rfl hn hl.1 rfl (lv_room hroom) hdg hf) hS (fun q _ h => hFc q h) hFc (fun H1 locs1 hP1 hk1 hS1 => ?_)
  have k1 := kk y r hk H1 locs1 ls (by rw [← hws]; exact setM_P hP hD hs (hwv y) hk1 hP1) (by rw [← hws]; exact hD.same (setM_ok hs (hwv y))) hS1 hl
  rw [hrv y]
  exact k1
theorem VF.callSr (C : CX p s m args meth c cc nL own D cI cZ A rt) {σ : Type} {y0 : MethodName} {bytes : ByteArray} {idx maxL fr lo n : Nat} {ret : Option FieldType} {b : Nat} {As rest st0 : List Value} {w : va_W} {Z : Option σ} {rv : σ → Option Value} {wv : σ → va_W} {K : σ → Option τ}  (L : LkS own idx y0 bytes maxL ret n) (M : Ctr l y0 bytes maxL ret fr lo D cI cZ As w Z rv wv) (ri : σ → Nat) (hrv : ∀ y, rv y = some (.ref (ri y))) (is : List Nat) (hs : is.map (fun i => ws[i]?) = w.map some) (hnd : va_nd is = true) (hwv : ∀ y, (wv y).map Prod.fst = w.map Prod.fst) {ws' : σ → va_W} (hws : ∀ y, setM ws is (wv y) = ws' y)  (hst : st0 = As.reverse ++ rest) (hn : As.length = n) (hroom : (rest.map fun v => v.category).sum ≤ 8) (hR : fr + 1 ≤ R.frames ∧ 8 + (maxL + 11) + lo ≤ R.locals) (hdg : decode cc pc = .ok (.invokestatic idx, 3)) (hf : cells + 0 ≤ R.cells ∧ slots + 0 ≤ R.slots)
    (kk : ∀ y : σ, VF p l e R s m args below meth c cells slots D A nL Q (K y) (ws' y) (pc + 3) lv (.ref (ri y) :: rest)) : VF p l e R s m args below meth c cells slots D A nL Q (oB Z K) ws pc lv st0 := by
  intro r hr H locs ls hP hD hS hl
  obtain ⟨y, hy, hk⟩ := oB_some hr
  subst hst
  have hFc := va_free (wc := w) hD hS C.2.2.2.2.2.2.2.1 is hs
  refine vf_go (va_runS (As := As) (rest := rest) ⟨C.1, C.2.1, C.2.2.1, C.2.2.2.1, C.2.2.2.2.1⟩ (M y hy H.size) ⟨callB_of n C.2.2.2.2.1 (good_wT (wM_in L.1.2.2.2)) rfl rfl rfl (C.2.2.2.2.1 _ L.1.2.2.1) (C.2.2.2.2.1 _ L.1.1) L.2 hR, C.2.2.2.2.1 _ L.1.2.1⟩ ⟨PcX.blind, PcX.at C hP hD hs hnd⟩ rfl hn hl.1 rfl (lv_room hroom) hdg hf) hS (fun q _ h => hFc q h) hFc (fun H1 locs1 hP1 hk1 hS1 => ?_)
  have k1 := kk y r hk H1 locs1 ls (by rw [← hws]; exact setM_P hP hD hs (hwv y) hk1 hP1) (by rw [← hws]; exact hD.same (setM_ok hs (hwv y))) hS1 hl
  rw [hrv y]
  exact k1
theorem VF.callNi (C : CX p s m args meth c cc nL own D cI cZ A rt) {σ : Type} {y0 : MethodName} {bytes : ByteArray} {idx maxL fr lo n : Nat} {ret : Option FieldType} {b : Nat} {As rest st0 : List Value} {w : va_W} {Z : Option σ} {rv : σ → Option Value} {wv : σ → va_W} {K : σ → Option τ} {host : String} (hnw : va_Nw (.methodLinkNest own idx y0 host) s) (L : LkN y0 bytes maxL ret n) (M : Ctr l y0 bytes maxL ret fr lo D cI cZ As w Z rv wv) (ri : σ → Int32) (hrv : ∀ y, rv y = some (.int (ri y))) (is : List Nat) (hs : is.map (fun i => ws[i]?) = w.map some) (hnd : va_nd is = true) (hwv : ∀ y, (wv y).map Prod.fst = w.map Prod.fst) {ws' : σ → va_W} (hws : ∀ y, setM ws is (wv y) = ws' y)  (hst : st0 = As.reverse ++ rest) (hn : As.length = n) (hroom : (rest.map fun v => v.category).sum ≤ 8) (hR : fr + 1 ≤ R.frames ∧ 8 + (maxL + 11) + lo ≤ R.locals) (hdg : decode cc pc = .ok (.invokestatic idx, 3)) (hf : cells + 0 ≤ R.cells ∧ slots + 0 ≤ R.slots)
    (kk : ∀ y : σ, VF p l e R s m args below meth c cells slots D A nL Q (K y) (ws' y) (pc + 3) lv (.int (ri y) :: rest)) : VF p l e R s m args below meth c cells slots D A nL Q (oB Z K) ws pc lv st0 := by
  intro r hr H locs ls hP hD hS hl
  obtain ⟨y, hy, hk⟩ := oB_some hr
  subst hst
  have hFc := va_free (wc := w) hD hS C.2.2.2.2.2.2.2.1 is hs
  refine vf_go (va_runSN (As := As) (rest := rest) ⟨C.1, C.2.1, C.2.2.1, C.2.2.2.1, C.2.2.2.2.1⟩ (M y hy H.size) ⟨va_cnB n C.2.2.2.2.1 (good_wT (wM_in L.1.2.2)) rfl rfl rfl hnw (C.2.2.2.2.1 _ L.1.2.1) L.2 hR, C.2.2.2.2.1 _ L.1.1, trivial⟩ ⟨PcX.blind, PcX.at C hP hD hs hnd⟩ rfl hn hl.1 rfl (lv_room hroom) hdg hf) hS (fun q _ h => hFc q h) hFc (fun H1 locs1 hP1 hk1 hS1 => ?_)
  have k1 := kk y r hk H1 locs1 ls (by rw [← hws]; exact setM_P hP hD hs (hwv y) hk1 hP1) (by rw [← hws]; exact hD.same (setM_ok hs (hwv y))) hS1 hl
  rw [hrv y]
  exact k1
theorem VF.callNv (C : CX p s m args meth c cc nL own D cI cZ A rt) {σ : Type} {y0 : MethodName} {bytes : ByteArray} {idx maxL fr lo n : Nat} {ret : Option FieldType} {b : Nat} {As rest st0 : List Value} {w : va_W} {Z : Option σ} {rv : σ → Option Value} {wv : σ → va_W} {K : σ → Option τ} {host : String} (hnw : va_Nw (.methodLinkNest own idx y0 host) s) (L : LkN y0 bytes maxL ret n) (M : Ctr l y0 bytes maxL ret fr lo D cI cZ As w Z rv wv) (hrv : ∀ y, rv y = none) (is : List Nat) (hs : is.map (fun i => ws[i]?) = w.map some) (hnd : va_nd is = true) (hwv : ∀ y, (wv y).map Prod.fst = w.map Prod.fst) {ws' : σ → va_W} (hws : ∀ y, setM ws is (wv y) = ws' y)  (hst : st0 = As.reverse ++ rest) (hn : As.length = n) (hroom : (rest.map fun v => v.category).sum ≤ 8) (hR : fr + 1 ≤ R.frames ∧ 8 + (maxL + 11) + lo ≤ R.locals) (hdg : decode cc pc = .ok (.invokestatic idx, 3)) (hf : cells + 0 ≤ R.cells ∧ slots + 0 ≤ R.slots)
    (kk : ∀ y : σ, VF p l e R s m args below meth c cells slots D A nL Q (K y) (ws' y) (pc + 3) lv rest) : VF p l e R s m args below meth c cells slots D A nL Q (oB Z K) ws pc lv st0 := by
  intro r hr H locs ls hP hD hS hl
  obtain ⟨y, hy, hk⟩ := oB_some hr
  subst hst
  have hFc := va_free (wc := w) hD hS C.2.2.2.2.2.2.2.1 is hs
  refine vf_go (va_runSN (As := As) (rest := rest) ⟨C.1, C.2.1, C.2.2.1, C.2.2.2.1, C.2.2.2.2.1⟩ (M y hy H.size) ⟨va_cnB n C.2.2.2.2.1 (good_wT (wM_in L.1.2.2)) rfl rfl rfl hnw (C.2.2.2.2.1 _ L.1.2.1) L.2 hR, C.2.2.2.2.1 _ L.1.1, trivial⟩ ⟨PcX.blind, PcX.at C hP hD hs hnd⟩ rfl hn hl.1 rfl (lv_room hroom) hdg hf) hS (fun q _ h => hFc q h) hFc (fun H1 locs1 hP1 hk1 hS1 => ?_)
  have k1 := kk y r hk H1 locs1 ls (by rw [← hws]; exact setM_P hP hD hs (hwv y) hk1 hP1) (by rw [← hws]; exact hD.same (setM_ok hs (hwv y))) hS1 hl
  rw [hrv y]
  exact k1
theorem VF.callNr (C : CX p s m args meth c cc nL own D cI cZ A rt) {σ : Type} {y0 : MethodName} {bytes : ByteArray} {idx maxL fr lo n : Nat} {ret : Option FieldType} {b : Nat} {As rest st0 : List Value} {w : va_W} {Z : Option σ} {rv : σ → Option Value} {wv : σ → va_W} {K : σ → Option τ} {host : String} (hnw : va_Nw (.methodLinkNest own idx y0 host) s) (L : LkN y0 bytes maxL ret n) (M : Ctr l y0 bytes maxL ret fr lo D cI cZ As w Z rv wv) (ri : σ → Nat) (hrv : ∀ y, rv y = some (.ref (ri y))) (is : List Nat) (hs : is.map (fun i => ws[i]?) = w.map some) (hnd : va_nd is = true) (hwv : ∀ y, (wv y).map Prod.fst = w.map Prod.fst) {ws' : σ → va_W} (hws : ∀ y, setM ws is (wv y) = ws' y)  (hst : st0 = As.reverse ++ rest) (hn : As.length = n) (hroom : (rest.map fun v => v.category).sum ≤ 8) (hR : fr + 1 ≤ R.frames ∧ 8 + (maxL + 11) + lo ≤ R.locals) (hdg : decode cc pc = .ok (.invokestatic idx, 3)) (hf : cells + 0 ≤ R.cells ∧ slots + 0 ≤ R.slots)
    (kk : ∀ y : σ, VF p l e R s m args below meth c cells slots D A nL Q (K y) (ws' y) (pc + 3) lv (.ref (ri y) :: rest)) : VF p l e R s m args below meth c cells slots D A nL Q (oB Z K) ws pc lv st0 := by
  intro r hr H locs ls hP hD hS hl
  obtain ⟨y, hy, hk⟩ := oB_some hr
  subst hst
  have hFc := va_free (wc := w) hD hS C.2.2.2.2.2.2.2.1 is hs
  refine vf_go (va_runSN (As := As) (rest := rest) ⟨C.1, C.2.1, C.2.2.1, C.2.2.2.1, C.2.2.2.2.1⟩ (M y hy H.size) ⟨va_cnB n C.2.2.2.2.1 (good_wT (wM_in L.1.2.2)) rfl rfl rfl hnw (C.2.2.2.2.1 _ L.1.2.1) L.2 hR, C.2.2.2.2.1 _ L.1.1, trivial⟩ ⟨PcX.blind, PcX.at C hP hD hs hnd⟩ rfl hn hl.1 rfl (lv_room hroom) hdg hf) hS (fun q _ h => hFc q h) hFc (fun H1 locs1 hP1 hk1 hS1 => ?_)
  have k1 := kk y r hk H1 locs1 ls (by rw [← hws]; exact setM_P hP hD hs (hwv y) hk1 hP1) (by rw [← hws]; exact hD.same (setM_ok hs (hwv y))) hS1 hl
  rw [hrv y]
  exact k1
end VFrows
/-- a contract out of its walk -/
theorem Ctr.of {l : Launch} {y : MethodName} {cc : ByteArray} {nL : Nat} {rt : Option FieldType} {fr lo : Nat} {D : va_G} {cI cZ : ClassId} {av : List Value} {w : va_W} {τ : Type} {X : Option τ} {rv : τ → Option Value} {wv : τ → va_W} (hy : plainName y.cls = true) (hlen : (lg_sl av).length ≤ nL)
    (body : ∀ (p : Program) (e : Env) (s : State) (m : MethodId) (below : List Frame) (meth : Method) (c : Code) (A : Nat → Prop), CX p s m av.toArray meth c cc nL y.cls D cI cZ A rt → VF p l e { frames := fr, cells := 0, slots := 0, locals := lo } s m av.toArray below meth c 0 0 D A nL (fun r => MQ below (QcX (rv r) D (wv r) A) av.toArray s 0 0 A) X w 0 (lv_args 0 av) []) : Ctr l y cc nL rt fr lo D cI cZ av w X rv wv := by
  intro r hr sz
  refine Met.ofW (cc := cc) (maxL := nL) (ret := rt) hy rfl ?_
  intro p e s m args below meth c s₁ B hml hv
  obtain ⟨rfl, hsz, hP, hK, hD0, hN⟩ := hv
  have hts := atoms_spec (ws := wM y cc nL rt) B.pre
  have hown : s.vm.findClass y.cls = some m.cls := findClass_of_methodNamed B.named
  subst hsz
  have hl := lv_entry av (n := nL) hlen
  rw [lg_entry_eq]
  exact body p e s m below meth c (va_A w s.heap.size) ⟨B.exec, B.bytes, hml, hown, fun w hw => hts w (List.mem_cons_of_mem _ hw), hK, hN, fun q h => Or.inr h, B.returns, B.notSynchronized⟩ r hr s.heap [] _ hP hD0.self va_S.rf hl
end
