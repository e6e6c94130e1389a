section
-- ===== PART A: goes FIRST, ahead of the names: the tables' words, and 'selects' of the private methods out of them =====
/-- a private method of a class that the tables say can be made, by its rows of tables_1 -/
def lw_okq (q : MethodName × Nat) : Prop := (q.1.cls ≠ "java/lang/invoke/MethodHandle" ∧ q.1.cls ≠ "java/lang/invoke/VarHandle") ∧ Cond.instantiable q.1.cls q.2 ∈ tables_1 ∧ Cond.privateMethod q.1 ∈ tables_1 ∧ Cond.instanceMethod q.1 ∈ tables_1
theorem lw_p0 : lw_okq (⟨"Dronegrade$Tune", "unitsPlayed", "()I"⟩, 12) := ⟨⟨by decide +kernel, by decide +kernel⟩, List.mem_of_getElem? (i := 156) (by decide +kernel), List.mem_of_getElem? (i := 154) (by decide +kernel), List.mem_of_getElem? (i := 155) (by decide +kernel)⟩
theorem lw_p1 : lw_okq (⟨"Dronegrade$Tune", "unitsAhead", "(I)I"⟩, 12) := ⟨⟨by decide +kernel, by decide +kernel⟩, List.mem_of_getElem? (i := 156) (by decide +kernel), List.mem_of_getElem? (i := 159) (by decide +kernel), List.mem_of_getElem? (i := 160) (by decide +kernel)⟩
theorem lw_p2 : lw_okq (⟨"Dronegrade$Tune", "ofPlayed", "([II)I"⟩, 12) := ⟨⟨by decide +kernel, by decide +kernel⟩, List.mem_of_getElem? (i := 156) (by decide +kernel), List.mem_of_getElem? (i := 163) (by decide +kernel), List.mem_of_getElem? (i := 164) (by decide +kernel)⟩
theorem lw_p3 : lw_okq (⟨"Dronegrade", "spreadWithout", "(I)I"⟩, 9) := ⟨⟨by decide +kernel, by decide +kernel⟩, List.mem_of_getElem? (i := 23) (by decide +kernel), List.mem_of_getElem? (i := 171) (by decide +kernel), List.mem_of_getElem? (i := 172) (by decide +kernel)⟩
theorem lw_p4 : lw_okq (⟨"Dronegrade", "gatherPitchesWithout", "(I)V"⟩, 9) := ⟨⟨by decide +kernel, by decide +kernel⟩, List.mem_of_getElem? (i := 23) (by decide +kernel), List.mem_of_getElem? (i := 175) (by decide +kernel), List.mem_of_getElem? (i := 176) (by decide +kernel)⟩
theorem lw_p5 : lw_okq (⟨"Dronegrade$Pitches", "empty", "()V"⟩, 2) := ⟨⟨by decide +kernel, by decide +kernel⟩, List.mem_of_getElem? (i := 88) (by decide +kernel), List.mem_of_getElem? (i := 179) (by decide +kernel), List.mem_of_getElem? (i := 180) (by decide +kernel)⟩
theorem lw_p6 : lw_okq (⟨"Dronegrade$Piper", "pitch", "()I"⟩, 7) := ⟨⟨by decide +kernel, by decide +kernel⟩, List.mem_of_getElem? (i := 57) (by decide +kernel), List.mem_of_getElem? (i := 183) (by decide +kernel), List.mem_of_getElem? (i := 184) (by decide +kernel)⟩
theorem lw_p7 : lw_okq (⟨"Dronegrade$Pitches", "put", "(I)V"⟩, 2) := ⟨⟨by decide +kernel, by decide +kernel⟩, List.mem_of_getElem? (i := 88) (by decide +kernel), List.mem_of_getElem? (i := 187) (by decide +kernel), List.mem_of_getElem? (i := 188) (by decide +kernel)⟩
theorem lw_p8 : lw_okq (⟨"Dronegrade$Pitches", "range", "()I"⟩, 2) := ⟨⟨by decide +kernel, by decide +kernel⟩, List.mem_of_getElem? (i := 88) (by decide +kernel), List.mem_of_getElem? (i := 191) (by decide +kernel), List.mem_of_getElem? (i := 192) (by decide +kernel)⟩
theorem lw_p9 : lw_okq (⟨"java/lang/Throwable", "fillInStackTrace", "(I)Ljava/lang/Throwable;"⟩, 6) := ⟨⟨by decide +kernel, by decide +kernel⟩, List.mem_of_getElem? (i := 249) (by decide +kernel), List.mem_of_getElem? (i := 247) (by decide +kernel), List.mem_of_getElem? (i := 248) (by decide +kernel)⟩
theorem lw_p10 : lw_okq (⟨"java/util/ArrayList", "add", "(Ljava/lang/Object;[Ljava/lang/Object;I)V"⟩, 3) := ⟨⟨by decide +kernel, by decide +kernel⟩, List.mem_of_getElem? (i := 31) (by decide +kernel), List.mem_of_getElem? (i := 343) (by decide +kernel), List.mem_of_getElem? (i := 344) (by decide +kernel)⟩
theorem lw_p11 : lw_okq (⟨"java/util/ArrayList", "grow", "()[Ljava/lang/Object;"⟩, 3) := ⟨⟨by decide +kernel, by decide +kernel⟩, List.mem_of_getElem? (i := 31) (by decide +kernel), List.mem_of_getElem? (i := 347) (by decide +kernel), List.mem_of_getElem? (i := 348) (by decide +kernel)⟩
theorem lw_p12 : lw_okq (⟨"java/util/ArrayList", "grow", "(I)[Ljava/lang/Object;"⟩, 3) := ⟨⟨by decide +kernel, by decide +kernel⟩, List.mem_of_getElem? (i := 31) (by decide +kernel), List.mem_of_getElem? (i := 351) (by decide +kernel), List.mem_of_getElem? (i := 352) (by decide +kernel)⟩
theorem lw_p13 : lw_okq (⟨"Dronegrade", "tuneOfNumber", "(I)LDronegrade$Tune;"⟩, 9) := ⟨⟨by decide +kernel, by decide +kernel⟩, List.mem_of_getElem? (i := 23) (by decide +kernel), List.mem_of_getElem? (i := 404) (by decide +kernel), List.mem_of_getElem? (i := 405) (by decide +kernel)⟩
theorem lw_p14 : lw_okq (⟨"Dronegrade$Tune", "canTake", "(III)Z"⟩, 12) := ⟨⟨by decide +kernel, by decide +kernel⟩, List.mem_of_getElem? (i := 156) (by decide +kernel), List.mem_of_getElem? (i := 425) (by decide +kernel), List.mem_of_getElem? (i := 426) (by decide +kernel)⟩
theorem lw_p15 : lw_okq (⟨"Dronegrade$Tune", "barUnits", "()I"⟩, 12) := ⟨⟨by decide +kernel, by decide +kernel⟩, List.mem_of_getElem? (i := 156) (by decide +kernel), List.mem_of_getElem? (i := 429) (by decide +kernel), List.mem_of_getElem? (i := 430) (by decide +kernel)⟩
def lw_privs_1 : List (MethodName × Nat) := [(⟨"Dronegrade$Tune", "unitsPlayed", "()I"⟩, 12), (⟨"Dronegrade$Tune", "unitsAhead", "(I)I"⟩, 12), (⟨"Dronegrade$Tune", "ofPlayed", "([II)I"⟩, 12), (⟨"Dronegrade", "spreadWithout", "(I)I"⟩, 9), (⟨"Dronegrade", "gatherPitchesWithout", "(I)V"⟩, 9), (⟨"Dronegrade$Pitches", "empty", "()V"⟩, 2), (⟨"Dronegrade$Piper", "pitch", "()I"⟩, 7), (⟨"Dronegrade$Pitches", "put", "(I)V"⟩, 2), (⟨"Dronegrade$Pitches", "range", "()I"⟩, 2), (⟨"java/lang/Throwable", "fillInStackTrace", "(I)Ljava/lang/Throwable;"⟩, 6), (⟨"java/util/ArrayList", "add", "(Ljava/lang/Object;[Ljava/lang/Object;I)V"⟩, 3), (⟨"java/util/ArrayList", "grow", "()[Ljava/lang/Object;"⟩, 3), (⟨"java/util/ArrayList", "grow", "(I)[Ljava/lang/Object;"⟩, 3), (⟨"Dronegrade", "tuneOfNumber", "(I)LDronegrade$Tune;"⟩, 9), (⟨"Dronegrade$Tune", "canTake", "(III)Z"⟩, 12), (⟨"Dronegrade$Tune", "barUnits", "()I"⟩, 12)]
theorem lw_r1 : ∀ q ∈ lw_privs_1, lw_okq q := List.forall_mem_cons.mpr ⟨lw_p0, List.forall_mem_cons.mpr ⟨lw_p1, List.forall_mem_cons.mpr ⟨lw_p2, List.forall_mem_cons.mpr ⟨lw_p3, List.forall_mem_cons.mpr ⟨lw_p4, List.forall_mem_cons.mpr ⟨lw_p5, List.forall_mem_cons.mpr ⟨lw_p6, List.forall_mem_cons.mpr ⟨lw_p7, List.forall_mem_cons.mpr ⟨lw_p8, List.forall_mem_cons.mpr ⟨lw_p9, List.forall_mem_cons.mpr ⟨lw_p10, List.forall_mem_cons.mpr ⟨lw_p11, List.forall_mem_cons.mpr ⟨lw_p12, List.forall_mem_cons.mpr ⟨lw_p13, List.forall_mem_cons.mpr ⟨lw_p14, List.forall_mem_cons.mpr ⟨lw_p15, fun _ h => absurd h List.not_mem_nil⟩⟩⟩⟩⟩⟩⟩⟩⟩⟩⟩⟩⟩⟩⟩⟩
theorem lw_p16 : lw_okq (⟨"Dronegrade$Tune", "isLawful", "(II)Z"⟩, 12) := ⟨⟨by decide +kernel, by decide +kernel⟩, List.mem_of_getElem? (i := 156) (by decide +kernel), List.mem_of_getElem? (i := 433) (by decide +kernel), List.mem_of_getElem? (i := 434) (by decide +kernel)⟩
theorem lw_p17 : lw_okq (⟨"Dronegrade$Tune", "lastWrittenHeight", "()I"⟩, 12) := ⟨⟨by decide +kernel, by decide +kernel⟩, List.mem_of_getElem? (i := 156) (by decide +kernel), List.mem_of_getElem? (i := 437) (by decide +kernel), List.mem_of_getElem? (i := 438) (by decide +kernel)⟩
theorem lw_p18 : lw_okq (⟨"Dronegrade$Tune", "write", "(III)I"⟩, 12) := ⟨⟨by decide +kernel, by decide +kernel⟩, List.mem_of_getElem? (i := 156) (by decide +kernel), List.mem_of_getElem? (i := 442) (by decide +kernel), List.mem_of_getElem? (i := 443) (by decide +kernel)⟩
theorem lw_p19 : lw_okq (⟨"Dronegrade$Tune", "canEndPart", "()Z"⟩, 12) := ⟨⟨by decide +kernel, by decide +kernel⟩, List.mem_of_getElem? (i := 156) (by decide +kernel), List.mem_of_getElem? (i := 453) (by decide +kernel), List.mem_of_getElem? (i := 454) (by decide +kernel)⟩
theorem lw_p20 : lw_okq (⟨"Dronegrade$Tune", "endPart", "(Z)I"⟩, 12) := ⟨⟨by decide +kernel, by decide +kernel⟩, List.mem_of_getElem? (i := 156) (by decide +kernel), List.mem_of_getElem? (i := 458) (by decide +kernel), List.mem_of_getElem? (i := 459) (by decide +kernel)⟩
theorem lw_p21 : lw_okq (⟨"Dronegrade$Tune", "playOpenNotes", "()V"⟩, 12) := ⟨⟨by decide +kernel, by decide +kernel⟩, List.mem_of_getElem? (i := 156) (by decide +kernel), List.mem_of_getElem? (i := 462) (by decide +kernel), List.mem_of_getElem? (i := 463) (by decide +kernel)⟩
theorem lw_p22 : lw_okq (⟨"Dronegrade$Tune", "tellPlayed", "(II)I"⟩, 12) := ⟨⟨by decide +kernel, by decide +kernel⟩, List.mem_of_getElem? (i := 156) (by decide +kernel), List.mem_of_getElem? (i := 475) (by decide +kernel), List.mem_of_getElem? (i := 476) (by decide +kernel)⟩
theorem lw_p23 : lw_okq (⟨"Dronegrade$Tune", "heightAt", "(I)I"⟩, 12) := ⟨⟨by decide +kernel, by decide +kernel⟩, List.mem_of_getElem? (i := 156) (by decide +kernel), List.mem_of_getElem? (i := 479) (by decide +kernel), List.mem_of_getElem? (i := 480) (by decide +kernel)⟩
theorem lw_p24 : lw_okq (⟨"Dronegrade$Tune", "graceAt", "(I)I"⟩, 12) := ⟨⟨by decide +kernel, by decide +kernel⟩, List.mem_of_getElem? (i := 156) (by decide +kernel), List.mem_of_getElem? (i := 483) (by decide +kernel), List.mem_of_getElem? (i := 484) (by decide +kernel)⟩
theorem lw_p25 : lw_okq (⟨"Dronegrade$Tune", "tell", "(I)I"⟩, 12) := ⟨⟨by decide +kernel, by decide +kernel⟩, List.mem_of_getElem? (i := 156) (by decide +kernel), List.mem_of_getElem? (i := 494) (by decide +kernel), List.mem_of_getElem? (i := 495) (by decide +kernel)⟩
theorem lw_p26 : lw_okq (⟨"Dronegrade$Tune", "clashes", "()I"⟩, 12) := ⟨⟨by decide +kernel, by decide +kernel⟩, List.mem_of_getElem? (i := 156) (by decide +kernel), List.mem_of_getElem? (i := 499) (by decide +kernel), List.mem_of_getElem? (i := 500) (by decide +kernel)⟩
theorem lw_p27 : lw_okq (⟨"Dronegrade$Tune", "smallNotes", "()I"⟩, 12) := ⟨⟨by decide +kernel, by decide +kernel⟩, List.mem_of_getElem? (i := 156) (by decide +kernel), List.mem_of_getElem? (i := 503) (by decide +kernel), List.mem_of_getElem? (i := 504) (by decide +kernel)⟩
theorem lw_p28 : lw_okq (⟨"Dronegrade$Tune", "likenessByShifts", "(LDronegrade$Tune;)I"⟩, 12) := ⟨⟨by decide +kernel, by decide +kernel⟩, List.mem_of_getElem? (i := 156) (by decide +kernel), List.mem_of_getElem? (i := 517) (by decide +kernel), List.mem_of_getElem? (i := 518) (by decide +kernel)⟩
theorem lw_p29 : lw_okq (⟨"Dronegrade$Tune", "likenessByBeginnings", "(LDronegrade$Tune;)I"⟩, 12) := ⟨⟨by decide +kernel, by decide +kernel⟩, List.mem_of_getElem? (i := 156) (by decide +kernel), List.mem_of_getElem? (i := 529) (by decide +kernel), List.mem_of_getElem? (i := 530) (by decide +kernel)⟩
theorem lw_p30 : lw_okq (⟨"Dronegrade$Tune", "runFrom", "(ILDronegrade$Tune;I)I"⟩, 12) := ⟨⟨by decide +kernel, by decide +kernel⟩, List.mem_of_getElem? (i := 156) (by decide +kernel), List.mem_of_getElem? (i := 533) (by decide +kernel), List.mem_of_getElem? (i := 534) (by decide +kernel)⟩
theorem lw_p31 : lw_okq (⟨"Dronegrade", "mayFollow", "(LDronegrade$Tune;I)Z"⟩, 9) := ⟨⟨by decide +kernel, by decide +kernel⟩, List.mem_of_getElem? (i := 23) (by decide +kernel), List.mem_of_getElem? (i := 545) (by decide +kernel), List.mem_of_getElem? (i := 546) (by decide +kernel)⟩
def lw_privs_2 : List (MethodName × Nat) := [(⟨"Dronegrade$Tune", "isLawful", "(II)Z"⟩, 12), (⟨"Dronegrade$Tune", "lastWrittenHeight", "()I"⟩, 12), (⟨"Dronegrade$Tune", "write", "(III)I"⟩, 12), (⟨"Dronegrade$Tune", "canEndPart", "()Z"⟩, 12), (⟨"Dronegrade$Tune", "endPart", "(Z)I"⟩, 12), (⟨"Dronegrade$Tune", "playOpenNotes", "()V"⟩, 12), (⟨"Dronegrade$Tune", "tellPlayed", "(II)I"⟩, 12), (⟨"Dronegrade$Tune", "heightAt", "(I)I"⟩, 12), (⟨"Dronegrade$Tune", "graceAt", "(I)I"⟩, 12), (⟨"Dronegrade$Tune", "tell", "(I)I"⟩, 12), (⟨"Dronegrade$Tune", "clashes", "()I"⟩, 12), (⟨"Dronegrade$Tune", "smallNotes", "()I"⟩, 12), (⟨"Dronegrade$Tune", "likenessByShifts", "(LDronegrade$Tune;)I"⟩, 12), (⟨"Dronegrade$Tune", "likenessByBeginnings", "(LDronegrade$Tune;)I"⟩, 12), (⟨"Dronegrade$Tune", "runFrom", "(ILDronegrade$Tune;I)I"⟩, 12), (⟨"Dronegrade", "mayFollow", "(LDronegrade$Tune;I)Z"⟩, 9)]
theorem lw_r2 : ∀ q ∈ lw_privs_2, lw_okq q := List.forall_mem_cons.mpr ⟨lw_p16, List.forall_mem_cons.mpr ⟨lw_p17, List.forall_mem_cons.mpr ⟨lw_p18, List.forall_mem_cons.mpr ⟨lw_p19, List.forall_mem_cons.mpr ⟨lw_p20, List.forall_mem_cons.mpr ⟨lw_p21, List.forall_mem_cons.mpr ⟨lw_p22, List.forall_mem_cons.mpr ⟨lw_p23, List.forall_mem_cons.mpr ⟨lw_p24, List.forall_mem_cons.mpr ⟨lw_p25, List.forall_mem_cons.mpr ⟨lw_p26, List.forall_mem_cons.mpr ⟨lw_p27, List.forall_mem_cons.mpr ⟨lw_p28, List.forall_mem_cons.mpr ⟨lw_p29, List.forall_mem_cons.mpr ⟨lw_p30, List.forall_mem_cons.mpr ⟨lw_p31, fun _ h => absurd h List.not_mem_nil⟩⟩⟩⟩⟩⟩⟩⟩⟩⟩⟩⟩⟩⟩⟩⟩
theorem lw_p32 : lw_okq (⟨"java/util/ArrayList", "fastRemove", "([Ljava/lang/Object;I)V"⟩, 3) := ⟨⟨by decide +kernel, by decide +kernel⟩, List.mem_of_getElem? (i := 31) (by decide +kernel), List.mem_of_getElem? (i := 564) (by decide +kernel), List.mem_of_getElem? (i := 565) (by decide +kernel)⟩
theorem lw_p33 : lw_okq (⟨"Dronegrade", "piperOfNumber", "(I)LDronegrade$Piper;"⟩, 9) := ⟨⟨by decide +kernel, by decide +kernel⟩, List.mem_of_getElem? (i := 23) (by decide +kernel), List.mem_of_getElem? (i := 585) (by decide +kernel), List.mem_of_getElem? (i := 586) (by decide +kernel)⟩
theorem lw_p34 : lw_okq (⟨"Dronegrade$Piper", "goThrough", "(III)V"⟩, 7) := ⟨⟨by decide +kernel, by decide +kernel⟩, List.mem_of_getElem? (i := 57) (by decide +kernel), List.mem_of_getElem? (i := 609) (by decide +kernel), List.mem_of_getElem? (i := 610) (by decide +kernel)⟩
theorem lw_p35 : lw_okq (⟨"Dronegrade$Piper", "restAMinute", "()V"⟩, 7) := ⟨⟨by decide +kernel, by decide +kernel⟩, List.mem_of_getElem? (i := 57) (by decide +kernel), List.mem_of_getElem? (i := 613) (by decide +kernel), List.mem_of_getElem? (i := 614) (by decide +kernel)⟩
theorem lw_p36 : lw_okq (⟨"Dronegrade$Piper", "playAMinute", "(II)V"⟩, 7) := ⟨⟨by decide +kernel, by decide +kernel⟩, List.mem_of_getElem? (i := 57) (by decide +kernel), List.mem_of_getElem? (i := 618) (by decide +kernel), List.mem_of_getElem? (i := 619) (by decide +kernel)⟩
theorem lw_p37 : lw_okq (⟨"Dronegrade", "seatToMiddle", "(LDronegrade$Piper;)I"⟩, 9) := ⟨⟨by decide +kernel, by decide +kernel⟩, List.mem_of_getElem? (i := 23) (by decide +kernel), List.mem_of_getElem? (i := 630) (by decide +kernel), List.mem_of_getElem? (i := 631) (by decide +kernel)⟩
theorem lw_p38 : lw_okq (⟨"Dronegrade$Pitches", "middle", "()I"⟩, 2) := ⟨⟨by decide +kernel, by decide +kernel⟩, List.mem_of_getElem? (i := 88) (by decide +kernel), List.mem_of_getElem? (i := 634) (by decide +kernel), List.mem_of_getElem? (i := 635) (by decide +kernel)⟩
theorem lw_p39 : lw_okq (⟨"Dronegrade$Piper", "tell", "(I)I"⟩, 7) := ⟨⟨by decide +kernel, by decide +kernel⟩, List.mem_of_getElem? (i := 57) (by decide +kernel), List.mem_of_getElem? (i := 638) (by decide +kernel), List.mem_of_getElem? (i := 639) (by decide +kernel)⟩
theorem lw_p40 : lw_okq (⟨"Dronegrade$Piper", "becomeLike", "(LDronegrade$Piper;)V"⟩, 7) := ⟨⟨by decide +kernel, by decide +kernel⟩, List.mem_of_getElem? (i := 57) (by decide +kernel), List.mem_of_getElem? (i := 661) (by decide +kernel), List.mem_of_getElem? (i := 662) (by decide +kernel)⟩
theorem lw_p41 : lw_okq (⟨"Dronegrade", "bandsOfGrade", "(I)I"⟩, 9) := ⟨⟨by decide +kernel, by decide +kernel⟩, List.mem_of_getElem? (i := 23) (by decide +kernel), List.mem_of_getElem? (i := 722) (by decide +kernel), List.mem_of_getElem? (i := 723) (by decide +kernel)⟩
theorem lw_p42 : lw_okq (⟨"Dronegrade$Band", "forgetMarks", "()V"⟩, 10) := ⟨⟨by decide +kernel, by decide +kernel⟩, List.mem_of_getElem? (i := 674) (by decide +kernel), List.mem_of_getElem? (i := 727) (by decide +kernel), List.mem_of_getElem? (i := 728) (by decide +kernel)⟩
theorem lw_p43 : lw_okq (⟨"Dronegrade", "bandOfNumber", "(I)LDronegrade$Band;"⟩, 9) := ⟨⟨by decide +kernel, by decide +kernel⟩, List.mem_of_getElem? (i := 23) (by decide +kernel), List.mem_of_getElem? (i := 739) (by decide +kernel), List.mem_of_getElem? (i := 740) (by decide +kernel)⟩
theorem lw_p44 : lw_okq (⟨"Dronegrade$Band", "markBy", "(I)I"⟩, 10) := ⟨⟨by decide +kernel, by decide +kernel⟩, List.mem_of_getElem? (i := 674) (by decide +kernel), List.mem_of_getElem? (i := 745) (by decide +kernel), List.mem_of_getElem? (i := 746) (by decide +kernel)⟩
theorem lw_p45 : lw_okq (⟨"Dronegrade$Band", "takeMark", "(II)V"⟩, 10) := ⟨⟨by decide +kernel, by decide +kernel⟩, List.mem_of_getElem? (i := 674) (by decide +kernel), List.mem_of_getElem? (i := 750) (by decide +kernel), List.mem_of_getElem? (i := 751) (by decide +kernel)⟩
theorem lw_p46 : lw_okq (⟨"Dronegrade$Band", "forgetResult", "()V"⟩, 10) := ⟨⟨by decide +kernel, by decide +kernel⟩, List.mem_of_getElem? (i := 674) (by decide +kernel), List.mem_of_getElem? (i := 762) (by decide +kernel), List.mem_of_getElem? (i := 763) (by decide +kernel)⟩
theorem lw_p47 : lw_okq (⟨"Dronegrade", "findPlaces", "(LDronegrade$Band;)V"⟩, 9) := ⟨⟨by decide +kernel, by decide +kernel⟩, List.mem_of_getElem? (i := 23) (by decide +kernel), List.mem_of_getElem? (i := 766) (by decide +kernel), List.mem_of_getElem? (i := 767) (by decide +kernel)⟩
def lw_privs_3 : List (MethodName × Nat) := [(⟨"java/util/ArrayList", "fastRemove", "([Ljava/lang/Object;I)V"⟩, 3), (⟨"Dronegrade", "piperOfNumber", "(I)LDronegrade$Piper;"⟩, 9), (⟨"Dronegrade$Piper", "goThrough", "(III)V"⟩, 7), (⟨"Dronegrade$Piper", "restAMinute", "()V"⟩, 7), (⟨"Dronegrade$Piper", "playAMinute", "(II)V"⟩, 7), (⟨"Dronegrade", "seatToMiddle", "(LDronegrade$Piper;)I"⟩, 9), (⟨"Dronegrade$Pitches", "middle", "()I"⟩, 2), (⟨"Dronegrade$Piper", "tell", "(I)I"⟩, 7), (⟨"Dronegrade$Piper", "becomeLike", "(LDronegrade$Piper;)V"⟩, 7), (⟨"Dronegrade", "bandsOfGrade", "(I)I"⟩, 9), (⟨"Dronegrade$Band", "forgetMarks", "()V"⟩, 10), (⟨"Dronegrade", "bandOfNumber", "(I)LDronegrade$Band;"⟩, 9), (⟨"Dronegrade$Band", "markBy", "(I)I"⟩, 10), (⟨"Dronegrade$Band", "takeMark", "(II)V"⟩, 10), (⟨"Dronegrade$Band", "forgetResult", "()V"⟩, 10), (⟨"Dronegrade", "findPlaces", "(LDronegrade$Band;)V"⟩, 9)]
theorem lw_r3 : ∀ q ∈ lw_privs_3, lw_okq q := List.forall_mem_cons.mpr ⟨lw_p32, List.forall_mem_cons.mpr ⟨lw_p33, List.forall_mem_cons.mpr ⟨lw_p34, List.forall_mem_cons.mpr ⟨lw_p35, List.forall_mem_cons.mpr ⟨lw_p36, List.forall_mem_cons.mpr ⟨lw_p37, List.forall_mem_cons.mpr ⟨lw_p38, List.forall_mem_cons.mpr ⟨lw_p39, List.forall_mem_cons.mpr ⟨lw_p40, List.forall_mem_cons.mpr ⟨lw_p41, List.forall_mem_cons.mpr ⟨lw_p42, List.forall_mem_cons.mpr ⟨lw_p43, List.forall_mem_cons.mpr ⟨lw_p44, List.forall_mem_cons.mpr ⟨lw_p45, List.forall_mem_cons.mpr ⟨lw_p46, List.forall_mem_cons.mpr ⟨lw_p47, fun _ h => absurd h List.not_mem_nil⟩⟩⟩⟩⟩⟩⟩⟩⟩⟩⟩⟩⟩⟩⟩⟩
theorem lw_p48 : lw_okq (⟨"Dronegrade$Band", "takePlace", "(II)V"⟩, 10) := ⟨⟨by decide +kernel, by decide +kernel⟩, List.mem_of_getElem? (i := 674) (by decide +kernel), List.mem_of_getElem? (i := 770) (by decide +kernel), List.mem_of_getElem? (i := 771) (by decide +kernel)⟩
theorem lw_p49 : lw_okq (⟨"Dronegrade", "rankBands", "()I"⟩, 9) := ⟨⟨by decide +kernel, by decide +kernel⟩, List.mem_of_getElem? (i := 23) (by decide +kernel), List.mem_of_getElem? (i := 774) (by decide +kernel), List.mem_of_getElem? (i := 775) (by decide +kernel)⟩
theorem lw_p50 : lw_okq (⟨"Dronegrade", "bandsAheadOf", "(LDronegrade$Band;)I"⟩, 9) := ⟨⟨by decide +kernel, by decide +kernel⟩, List.mem_of_getElem? (i := 23) (by decide +kernel), List.mem_of_getElem? (i := 778) (by decide +kernel), List.mem_of_getElem? (i := 779) (by decide +kernel)⟩
theorem lw_p51 : lw_okq (⟨"Dronegrade$Band", "isRankedAheadOf", "(LDronegrade$Band;)Z"⟩, 10) := ⟨⟨by decide +kernel, by decide +kernel⟩, List.mem_of_getElem? (i := 674) (by decide +kernel), List.mem_of_getElem? (i := 782) (by decide +kernel), List.mem_of_getElem? (i := 783) (by decide +kernel)⟩
theorem lw_p52 : lw_okq (⟨"Dronegrade$Band", "placeBy", "(I)I"⟩, 10) := ⟨⟨by decide +kernel, by decide +kernel⟩, List.mem_of_getElem? (i := 674) (by decide +kernel), List.mem_of_getElem? (i := 786) (by decide +kernel), List.mem_of_getElem? (i := 787) (by decide +kernel)⟩
theorem lw_p53 : lw_okq (⟨"Dronegrade$Band", "takeRank", "(I)V"⟩, 10) := ⟨⟨by decide +kernel, by decide +kernel⟩, List.mem_of_getElem? (i := 674) (by decide +kernel), List.mem_of_getElem? (i := 790) (by decide +kernel), List.mem_of_getElem? (i := 791) (by decide +kernel)⟩
theorem lw_p54 : lw_okq (⟨"Dronegrade", "sendUpFrom", "(I)V"⟩, 9) := ⟨⟨by decide +kernel, by decide +kernel⟩, List.mem_of_getElem? (i := 23) (by decide +kernel), List.mem_of_getElem? (i := 804) (by decide +kernel), List.mem_of_getElem? (i := 805) (by decide +kernel)⟩
theorem lw_p55 : lw_okq (⟨"Dronegrade", "sendDownFrom", "(I)V"⟩, 9) := ⟨⟨by decide +kernel, by decide +kernel⟩, List.mem_of_getElem? (i := 23) (by decide +kernel), List.mem_of_getElem? (i := 808) (by decide +kernel), List.mem_of_getElem? (i := 809) (by decide +kernel)⟩
theorem lw_p56 : lw_okq (⟨"Dronegrade$Band", "beginSeason", "()Z"⟩, 10) := ⟨⟨by decide +kernel, by decide +kernel⟩, List.mem_of_getElem? (i := 674) (by decide +kernel), List.mem_of_getElem? (i := 812) (by decide +kernel), List.mem_of_getElem? (i := 813) (by decide +kernel)⟩
theorem lw_p57 : lw_okq (⟨"Dronegrade$Band", "tell", "(I)I"⟩, 10) := ⟨⟨by decide +kernel, by decide +kernel⟩, List.mem_of_getElem? (i := 674) (by decide +kernel), List.mem_of_getElem? (i := 823) (by decide +kernel), List.mem_of_getElem? (i := 824) (by decide +kernel)⟩
theorem lw_p58 : lw_okq (⟨"DronegradeModel", "isTune", "(I)Z"⟩, 40) := ⟨⟨by decide +kernel, by decide +kernel⟩, List.mem_of_getElem? (i := 827) (by decide +kernel), List.mem_of_getElem? (i := 970) (by decide +kernel), List.mem_of_getElem? (i := 971) (by decide +kernel)⟩
theorem lw_p59 : lw_okq (⟨"DronegradeModel", "isLawful", "(III)Z"⟩, 40) := ⟨⟨by decide +kernel, by decide +kernel⟩, List.mem_of_getElem? (i := 827) (by decide +kernel), List.mem_of_getElem? (i := 977) (by decide +kernel), List.mem_of_getElem? (i := 978) (by decide +kernel)⟩
theorem lw_p60 : lw_okq (⟨"DronegradeModel", "openUnits", "(I)I"⟩, 40) := ⟨⟨by decide +kernel, by decide +kernel⟩, List.mem_of_getElem? (i := 827) (by decide +kernel), List.mem_of_getElem? (i := 984) (by decide +kernel), List.mem_of_getElem? (i := 985) (by decide +kernel)⟩
theorem lw_p61 : lw_okq (⟨"DronegradeModel", "openFrom", "(I)I"⟩, 40) := ⟨⟨by decide +kernel, by decide +kernel⟩, List.mem_of_getElem? (i := 827) (by decide +kernel), List.mem_of_getElem? (i := 988) (by decide +kernel), List.mem_of_getElem? (i := 989) (by decide +kernel)⟩
theorem lw_p62 : lw_okq (⟨"DronegradeModel", "plays", "(I)V"⟩, 40) := ⟨⟨by decide +kernel, by decide +kernel⟩, List.mem_of_getElem? (i := 827) (by decide +kernel), List.mem_of_getElem? (i := 1000) (by decide +kernel), List.mem_of_getElem? (i := 1001) (by decide +kernel)⟩
theorem lw_p63 : lw_okq (⟨"DronegradeModel", "unitsTo", "(I)I"⟩, 40) := ⟨⟨by decide +kernel, by decide +kernel⟩, List.mem_of_getElem? (i := 827) (by decide +kernel), List.mem_of_getElem? (i := 1004) (by decide +kernel), List.mem_of_getElem? (i := 1005) (by decide +kernel)⟩
def lw_privs_4 : List (MethodName × Nat) := [(⟨"Dronegrade$Band", "takePlace", "(II)V"⟩, 10), (⟨"Dronegrade", "rankBands", "()I"⟩, 9), (⟨"Dronegrade", "bandsAheadOf", "(LDronegrade$Band;)I"⟩, 9), (⟨"Dronegrade$Band", "isRankedAheadOf", "(LDronegrade$Band;)Z"⟩, 10), (⟨"Dronegrade$Band", "placeBy", "(I)I"⟩, 10), (⟨"Dronegrade$Band", "takeRank", "(I)V"⟩, 10), (⟨"Dronegrade", "sendUpFrom", "(I)V"⟩, 9), (⟨"Dronegrade", "sendDownFrom", "(I)V"⟩, 9), (⟨"Dronegrade$Band", "beginSeason", "()Z"⟩, 10), (⟨"Dronegrade$Band", "tell", "(I)I"⟩, 10), (⟨"DronegradeModel", "isTune", "(I)Z"⟩, 40), (⟨"DronegradeModel", "isLawful", "(III)Z"⟩, 40), (⟨"DronegradeModel", "openUnits", "(I)I"⟩, 40), (⟨"DronegradeModel", "openFrom", "(I)I"⟩, 40), (⟨"DronegradeModel", "plays", "(I)V"⟩, 40), (⟨"DronegradeModel", "unitsTo", "(I)I"⟩, 40)]
theorem lw_r4 : ∀ q ∈ lw_privs_4, lw_okq q := List.forall_mem_cons.mpr ⟨lw_p48, List.forall_mem_cons.mpr ⟨lw_p49, List.forall_mem_cons.mpr ⟨lw_p50, List.forall_mem_cons.mpr ⟨lw_p51, List.forall_mem_cons.mpr ⟨lw_p52, List.forall_mem_cons.mpr ⟨lw_p53, List.forall_mem_cons.mpr ⟨lw_p54, List.forall_mem_cons.mpr ⟨lw_p55, List.forall_mem_cons.mpr ⟨lw_p56, List.forall_mem_cons.mpr ⟨lw_p57, List.forall_mem_cons.mpr ⟨lw_p58, List.forall_mem_cons.mpr ⟨lw_p59, List.forall_mem_cons.mpr ⟨lw_p60, List.forall_mem_cons.mpr ⟨lw_p61, List.forall_mem_cons.mpr ⟨lw_p62, List.forall_mem_cons.mpr ⟨lw_p63, fun _ h => absurd h List.not_mem_nil⟩⟩⟩⟩⟩⟩⟩⟩⟩⟩⟩⟩⟩⟩⟩⟩
theorem lw_p64 : lw_okq (⟨"DronegradeModel", "clashes", "()I"⟩, 40) := ⟨⟨by decide +kernel, by decide +kernel⟩, List.mem_of_getElem? (i := 827) (by decide +kernel), List.mem_of_getElem? (i := 1012) (by decide +kernel), List.mem_of_getElem? (i := 1013) (by decide +kernel)⟩
theorem lw_p65 : lw_okq (⟨"DronegradeModel", "small", "()I"⟩, 40) := ⟨⟨by decide +kernel, by decide +kernel⟩, List.mem_of_getElem? (i := 827) (by decide +kernel), List.mem_of_getElem? (i := 1016) (by decide +kernel), List.mem_of_getElem? (i := 1017) (by decide +kernel)⟩
theorem lw_p66 : lw_okq (⟨"DronegradeModel", "tellsAlike", "(II)I"⟩, 40) := ⟨⟨by decide +kernel, by decide +kernel⟩, List.mem_of_getElem? (i := 827) (by decide +kernel), List.mem_of_getElem? (i := 1024) (by decide +kernel), List.mem_of_getElem? (i := 1025) (by decide +kernel)⟩
theorem lw_p67 : lw_okq (⟨"DronegradeModel", "mayFollow", "(II)Z"⟩, 40) := ⟨⟨by decide +kernel, by decide +kernel⟩, List.mem_of_getElem? (i := 827) (by decide +kernel), List.mem_of_getElem? (i := 1036) (by decide +kernel), List.mem_of_getElem? (i := 1037) (by decide +kernel)⟩
theorem lw_p68 : lw_okq (⟨"DronegradeModel", "isPiper", "(I)Z"⟩, 40) := ⟨⟨by decide +kernel, by decide +kernel⟩, List.mem_of_getElem? (i := 827) (by decide +kernel), List.mem_of_getElem? (i := 1057) (by decide +kernel), List.mem_of_getElem? (i := 1058) (by decide +kernel)⟩
theorem lw_p69 : lw_okq (⟨"DronegradeModel", "goes", "(III)I"⟩, 40) := ⟨⟨by decide +kernel, by decide +kernel⟩, List.mem_of_getElem? (i := 827) (by decide +kernel), List.mem_of_getElem? (i := 1072) (by decide +kernel), List.mem_of_getElem? (i := 1073) (by decide +kernel)⟩
theorem lw_p70 : lw_okq (⟨"DronegradeModel", "goesOn", "(III)V"⟩, 40) := ⟨⟨by decide +kernel, by decide +kernel⟩, List.mem_of_getElem? (i := 827) (by decide +kernel), List.mem_of_getElem? (i := 1076) (by decide +kernel), List.mem_of_getElem? (i := 1077) (by decide +kernel)⟩
theorem lw_p71 : lw_okq (⟨"DronegradeModel", "spreadBut", "(I)I"⟩, 40) := ⟨⟨by decide +kernel, by decide +kernel⟩, List.mem_of_getElem? (i := 827) (by decide +kernel), List.mem_of_getElem? (i := 1080) (by decide +kernel), List.mem_of_getElem? (i := 1081) (by decide +kernel)⟩
theorem lw_p72 : lw_okq (⟨"DronegradeModel", "pitch", "(I)I"⟩, 40) := ⟨⟨by decide +kernel, by decide +kernel⟩, List.mem_of_getElem? (i := 827) (by decide +kernel), List.mem_of_getElem? (i := 1086) (by decide +kernel), List.mem_of_getElem? (i := 1087) (by decide +kernel)⟩
theorem lw_p73 : lw_okq (⟨"DronegradeModel", "playing", "()I"⟩, 40) := ⟨⟨by decide +kernel, by decide +kernel⟩, List.mem_of_getElem? (i := 827) (by decide +kernel), List.mem_of_getElem? (i := 1098) (by decide +kernel), List.mem_of_getElem? (i := 1099) (by decide +kernel)⟩
theorem lw_p74 : lw_okq (⟨"DronegradeModel", "middle", "()I"⟩, 40) := ⟨⟨by decide +kernel, by decide +kernel⟩, List.mem_of_getElem? (i := 827) (by decide +kernel), List.mem_of_getElem? (i := 1102) (by decide +kernel), List.mem_of_getElem? (i := 1103) (by decide +kernel)⟩
theorem lw_p75 : lw_okq (⟨"DronegradeModel", "ofGrade", "(I)I"⟩, 40) := ⟨⟨by decide +kernel, by decide +kernel⟩, List.mem_of_getElem? (i := 827) (by decide +kernel), List.mem_of_getElem? (i := 1127) (by decide +kernel), List.mem_of_getElem? (i := 1128) (by decide +kernel)⟩
theorem lw_p76 : lw_okq (⟨"DronegradeModel", "isBand", "(I)Z"⟩, 40) := ⟨⟨by decide +kernel, by decide +kernel⟩, List.mem_of_getElem? (i := 827) (by decide +kernel), List.mem_of_getElem? (i := 1135) (by decide +kernel), List.mem_of_getElem? (i := 1136) (by decide +kernel)⟩
theorem lw_p77 : lw_okq (⟨"DronegradeModel", "takesPart", "(I)Z"⟩, 40) := ⟨⟨by decide +kernel, by decide +kernel⟩, List.mem_of_getElem? (i := 827) (by decide +kernel), List.mem_of_getElem? (i := 1139) (by decide +kernel), List.mem_of_getElem? (i := 1140) (by decide +kernel)⟩
theorem lw_p78 : lw_okq (⟨"DronegradeModel", "missing", "()I"⟩, 40) := ⟨⟨by decide +kernel, by decide +kernel⟩, List.mem_of_getElem? (i := 827) (by decide +kernel), List.mem_of_getElem? (i := 1143) (by decide +kernel), List.mem_of_getElem? (i := 1144) (by decide +kernel)⟩
theorem lw_p79 : lw_okq (⟨"DronegradeModel", "sumOf", "(I)I"⟩, 40) := ⟨⟨by decide +kernel, by decide +kernel⟩, List.mem_of_getElem? (i := 827) (by decide +kernel), List.mem_of_getElem? (i := 1151) (by decide +kernel), List.mem_of_getElem? (i := 1152) (by decide +kernel)⟩
def lw_privs_5 : List (MethodName × Nat) := [(⟨"DronegradeModel", "clashes", "()I"⟩, 40), (⟨"DronegradeModel", "small", "()I"⟩, 40), (⟨"DronegradeModel", "tellsAlike", "(II)I"⟩, 40), (⟨"DronegradeModel", "mayFollow", "(II)Z"⟩, 40), (⟨"DronegradeModel", "isPiper", "(I)Z"⟩, 40), (⟨"DronegradeModel", "goes", "(III)I"⟩, 40), (⟨"DronegradeModel", "goesOn", "(III)V"⟩, 40), (⟨"DronegradeModel", "spreadBut", "(I)I"⟩, 40), (⟨"DronegradeModel", "pitch", "(I)I"⟩, 40), (⟨"DronegradeModel", "playing", "()I"⟩, 40), (⟨"DronegradeModel", "middle", "()I"⟩, 40), (⟨"DronegradeModel", "ofGrade", "(I)I"⟩, 40), (⟨"DronegradeModel", "isBand", "(I)Z"⟩, 40), (⟨"DronegradeModel", "takesPart", "(I)Z"⟩, 40), (⟨"DronegradeModel", "missing", "()I"⟩, 40), (⟨"DronegradeModel", "sumOf", "(I)I"⟩, 40)]
theorem lw_r5 : ∀ q ∈ lw_privs_5, lw_okq q := List.forall_mem_cons.mpr ⟨lw_p64, List.forall_mem_cons.mpr ⟨lw_p65, List.forall_mem_cons.mpr ⟨lw_p66, List.forall_mem_cons.mpr ⟨lw_p67, List.forall_mem_cons.mpr ⟨lw_p68, List.forall_mem_cons.mpr ⟨lw_p69, List.forall_mem_cons.mpr ⟨lw_p70, List.forall_mem_cons.mpr ⟨lw_p71, List.forall_mem_cons.mpr ⟨lw_p72, List.forall_mem_cons.mpr ⟨lw_p73, List.forall_mem_cons.mpr ⟨lw_p74, List.forall_mem_cons.mpr ⟨lw_p75, List.forall_mem_cons.mpr ⟨lw_p76, List.forall_mem_cons.mpr ⟨lw_p77, List.forall_mem_cons.mpr ⟨lw_p78, List.forall_mem_cons.mpr ⟨lw_p79, fun _ h => absurd h List.not_mem_nil⟩⟩⟩⟩⟩⟩⟩⟩⟩⟩⟩⟩⟩⟩⟩⟩
theorem lw_p80 : lw_okq (⟨"DronegradeModel", "place", "(II)I"⟩, 40) := ⟨⟨by decide +kernel, by decide +kernel⟩, List.mem_of_getElem? (i := 827) (by decide +kernel), List.mem_of_getElem? (i := 1155) (by decide +kernel), List.mem_of_getElem? (i := 1156) (by decide +kernel)⟩
theorem lw_p81 : lw_okq (⟨"DronegradeModel", "isAhead", "(II)Z"⟩, 40) := ⟨⟨by decide +kernel, by decide +kernel⟩, List.mem_of_getElem? (i := 827) (by decide +kernel), List.mem_of_getElem? (i := 1159) (by decide +kernel), List.mem_of_getElem? (i := 1160) (by decide +kernel)⟩
def lw_privs_6 : List (MethodName × Nat) := [(⟨"DronegradeModel", "place", "(II)I"⟩, 40), (⟨"DronegradeModel", "isAhead", "(II)Z"⟩, 40)]
theorem lw_r6 : ∀ q ∈ lw_privs_6, lw_okq q := List.forall_mem_cons.mpr ⟨lw_p80, List.forall_mem_cons.mpr ⟨lw_p81, fun _ h => absurd h List.not_mem_nil⟩⟩
def lw_privs : List (MethodName × Nat) := lw_privs_1 ++ (lw_privs_2 ++ (lw_privs_3 ++ (lw_privs_4 ++ (lw_privs_5 ++ (lw_privs_6)))))
def lw_tbl : List Cond := k2_sels lw_privs ++ tables_1
theorem lw_privs_ok : ∀ q ∈ lw_privs, lw_okq q := by
  show ∀ q ∈ lw_privs_1 ++ (lw_privs_2 ++ (lw_privs_3 ++ (lw_privs_4 ++ (lw_privs_5 ++ (lw_privs_6))))), lw_okq q
  exact List.forall_mem_append.mpr ⟨lw_r1, List.forall_mem_append.mpr ⟨lw_r2, List.forall_mem_append.mpr ⟨lw_r3, List.forall_mem_append.mpr ⟨lw_r4, List.forall_mem_append.mpr ⟨lw_r5, lw_r6⟩⟩⟩⟩⟩
/-- the streams that the claim lets the run draw from -/
abbrev lw_cs : List Choice := [Jvm.Choice.named "NaN.bits"]
theorem lw_bits : nanBits ∈ lw_cs := by first | decide | exact List.mem_cons_self | simp [lw_cs, nanBits]
/-! ===== BEGIN words of one list among another's, by their places ===== -/
theorem goodIn_r {big : List Cond} (ws : List Cond) (ps : List Nat) (hp : ws = ps.filterMap (fun i => big[i]?)) (h : ws.all goodWord = true) : GoodIn big ws := by
  intro w hw
  have h1 := List.all_eq_true.mp h w hw
  rw [hp] at hw
  obtain ⟨i, -, hi⟩ := List.mem_filterMap.mp hw
  have hm : w ∈ big := by first | exact List.mem_of_getElem? hi | exact List.getElem?_mem hi
  exact ⟨hm, good_of_word h1⟩
theorem goodIn_app {big a b : List Cond} (ha : GoodIn big a) (hb : GoodIn big b) : GoodIn big (a ++ b) := fun w h => (List.mem_append.mp h).elim (ha w) (hb w)
theorem goodIn_ca {big a b : List Cond} {c : Cond} (ha : GoodIn big (c :: a)) (hb : GoodIn big b) : GoodIn big (c :: (a ++ b)) := fun w h => (List.mem_cons.mp h).elim (fun e => ha w (List.mem_cons.mpr (Or.inl e))) (fun h => (List.mem_append.mp h).elim (fun h => ha w (List.mem_cons.mpr (Or.inr h))) (hb w))
theorem goodIn_sub {big ws : List Cond} (hm : ∀ w ∈ ws, w ∈ big) (h : ws.all goodWord = true) : GoodIn big ws := fun w hw => ⟨hm w hw, good_of_word (List.all_eq_true.mp h w hw)⟩
/-! ===== END ===== -/
/-! ===== BEGIN exceptions that leave a method, and their catching by the caller (launches without stack traces) ===== -/
section VXA
/-! The laws vx_back, vx_callV, vx_callS, vx_callSW, vx_throw0, vx_throwS follow proofs of the library, with one case more: JvmDerived/Free/Laws.lean (Back.of_free), Shelf42/LK1.lean (callV, callS), Shelf/KitTraced.lean (throwNew0V, throwNewS). -/
/-- where a method has thrown q: the class by its name, the cell, what was written, the world -/
def vx_T (XC : String → State → State → Prop) (st : State) (q : Addr) (t : State) (mc ms : Nat) (free : Addr → Prop) : Prop :=
  ∃ (E : String) (ce : Cell) (L : List Loc), XC E st t ∧ t.heap[q]? = some ce ∧ ce.vm = .none ∧ st.vm.findClass E = some ce.cls ∧ st.WarmedH t.vm ∧ st.sameButNew ({ t with vm := st.vm } : State) L mc ms ∧ ∀ z ∈ L, free z.base
def vx_Q (Qc : Array Value → State → Outcome → State → Prop) (XC : String → State → State → Prop) (mc ms : Nat) (free : Addr → Prop) : Array Value → State → Outcome → State → Prop := fun a st o t =>
  (Qc a st o t ∧ ∃ L, FrameEnd st o t L mc ms ∧ ∀ q ∈ L, free q.base) ∨ ∃ q, o = .threw q ∧ vx_T XC st q t mc ms free
/-- a callee that returns or throws -/
def vx_Met (l : Launch) (y : MethodName) (ws : List Cond) (rm : Room) (Pc : Array Value → State → Prop) (Qc : Array Value → State → Outcome → State → Prop) (XC : String → State → State → Prop) (mc ms : Nat) (free : Addr → Prop) : Prop :=
  MetFree l y (headSpec ws rm) Pc (fun _ _ _ _ _ => True) (vx_Q Qc XC mc ms free)
def vx_Post (XC : String → State → State → Prop) (mc ms : Nat) (free : Addr → Prop) : Pt → Array Value → Addr → Pt → Prop := fun A a q B =>
  ∃ (g : JFrame) (mk : MethodId) (t : State) (L : List Loc) (E : String) (ce : Cell), B.U.heap = t.heap ∧ B.U.vm = t.vm ∧ XC E (A.U.calling g mk a) t ∧ t.heap[q]? = some ce ∧ ce.vm = .none ∧ A.U.vm.findClass E = some ce.cls ∧ B.locs = A.locs ++ L ∧ (∀ z ∈ L, free z.base) ∧ B.cells = A.cells + mc ∧ B.slots = A.slots + ms
def vx_Back (l : Launch) (R : Room) (p : Program) (e : Env) (below : List Frame) (s : State) (sargs : Array Value) (y : MethodName) (len W9 : Nat)
    (Pre : Pt → Array Value → Prop) (Post : Pt → Array Value → Option Value → Pt → Prop) (PostX : Pt → Array Value → Addr → Pt → Prop) : Prop :=
  ∀ (m : MethodId) (meth : Method) (c : Code) (A : Pt) (g : JFrame) (ig : Instr) (mk : MethodId) (a : Array Value),
    Stand p l e R s m sargs below meth c A.U A.locs A.cells A.slots → g.method = m → g.locals.size = c.maxLocals → decode c.code g.pc = .ok (ig, len) →
    2 * g.monitorRoom + (g.stack.map fun v => v.category).sum ≤ W9 → A.U.methodNamed? y = some mk → Pre A a →
    (∃ (v : Option Value) (B : Pt), Stand p l e R s m sargs below meth c B.U B.locs B.cells B.slots ∧ Post A a v B ∧
      Steps p.tables e below (doInvoke e (A.U.setTop g) [] mk a).1 (B.U.setTop { g with pc := g.pc + len, stack := v.toList ++ g.stack })) ∨
    (∃ (q : Addr) (B : Pt), Stand p l e R s m sargs below meth c B.U B.locs B.cells B.slots ∧ PostX A a q B ∧
      Steps p.tables e below (doInvoke e (A.U.setTop g) [] mk a).1 ((B.U.setTop g).pushFrame (.throwing q)))
section Payer
variable {l : Launch} {R : Room} {p : Program} {e : Env} {below : List Frame} {s : State} {sargs : Array Value} {y : MethodName} {len W9 : Nat}
theorem vx_back {ws : List Cond} {rm : Room} {Pc : Array Value → State → Prop} {Qc : Array Value → State → Outcome → State → Prop} {XC : String → State → State → Prop} {mc ms : Nat} {free : Addr → Prop} {bytes : ByteArray} {maxL : Nat} {ret : Option FieldType}
    (hM : vx_Met l y ws rm Pc Qc XC mc ms free) (hblind : FrameBlind Pc) (hrc : rm.cells = mc) (hrs : rm.slots = ms)
    (hframes : rm.frames + 1 ≤ R.frames) (hlocals : W9 + (maxL + 11) + rm.locals ≤ R.locals)
    (hws : ∀ w ∈ ws, ∀ a' U, s.WarmedH U.vm → w.before a' U = true) (hcode : Cond.code y bytes maxL ret ∈ ws) (hinit : ∀ a' U, s.WarmedH U.vm → (Cond.initialized y.cls).before a' U = true) :
    vx_Back l R p e below s sargs y len W9 (PreOf R mc ms Pc) (PostOf Qc mc ms free) (vx_Post XC mc ms free) := by
  intro m meth c A g ig mk a X hg hsize hdg hW hn hp
  have h1 : (headSpec ws rm).pre.before a A.U = true := atoms_intro fun w hw => hws w hw _ _ X.warmed
  have h2 : (Cond.code y bytes maxL ret).before a A.U = true := hws _ hcode _ _ X.warmed
  have h3 : (Cond.initialized y.cls).before a A.U = true := hinit _ _ X.warmed
  have h4 : A.cells + (headSpec ws rm).room.cells ≤ R.cells := by rw [show (headSpec ws rm).room.cells = mc from hrc]; exact hp.1
  have h5 : A.slots + (headSpec ws rm).room.slots ≤ R.slots := by rw [show (headSpec ws rm).room.slots = ms from hrs]; exact hp.2.1
  have hPc : Pc a (A.U.calling g mk a) := hblind _ _ _ _ hp.2.2
  obtain ⟨U, Ls, c0, s0⟩ := A
  dsimp only [Pt.U, Pt.locs, Pt.cells, Pt.slots] at h1 h2 h3 h4 h5 X hn hPc ⊢
  obtain ⟨methY, cY, hmY, hcY, -, hlY, -, -, -, -⟩ := Cond.code_spec hn h2
  obtain ⟨kY, hkY, -⟩ := className_of_methodNamed hn
  have hinitY : kY.init = .initialized := Cond.initialized_spec (findClass_of_methodNamed hn) hkY h3
  have h : At U g.method c below := by rw [hg]; exact X.here
  have hlocals9 : W9 + (maxL + 11) + (headSpec ws rm).room.locals ≤ R.locals := hlocals
  have happ : (headSpec ws rm).appliesLoose y e.platform (U.calling g mk a) = true :=
    Spec.appliesLoose_calling (g := g) h hdg hn hkY hinitY
      (X.room_calling (g := g) (R' := (headSpec ws rm).room) hsize hmY hcY hframes (by rw [hlY]; omega) h4 h5) h1
  obtain ⟨mid, hmid⟩ := h.above
  have hfr : (U.setTop g).frames = (.java g :: mid) ++ below := by rw [State.frames_setTop' g h.top, hmid]; rfl
  obtain ⟨o, s₂, hsteps, -, hend, hq⟩ := Steps.callFree hM p X.admits X.cas X.clock (acts := []) hfr happ hPc trivial
  have hq' : vx_Q Qc XC mc ms free a (U.calling g mk a) o s₂ := hq
  rw [State.frames_setTop' g h.top] at hend
  obtain ⟨g₀, hg0⟩ := Option.isSome_iff_exists.mp h.top
  obtain ⟨r, hr⟩ := State.topJava?_eq_some.mp hg0
  have hr' : (({ U with heap := s₂.heap, slotsUsed := s₂.slotsUsed } : State).setVm s₂.vm).frames = .java g₀ :: r := hr
  rcases hq' with ⟨hqc, L, hfe, hL⟩ | ⟨q, rfl, E, ce, L, hx, hce, hcv, hcl, hW₂, hsm, hL⟩
  · obtain ⟨⟨v, rfl⟩, hW₂, e2, q2, q3, q4, q5, q6⟩ := id hfe
    have e3 : s₂ = ({ (U.calling g mk a).setFrames s₂.frames with heap := s₂.heap, slotsUsed := s₂.slotsUsed } : State).setVm s₂.vm := by
      have : s₂ = ({ s₂ with vm := (U.calling g mk a).vm } : State).setVm s₂.vm := rfl
      rw [e2] at this
      exact this
    obtain ⟨c₂, i₂, len₂, hc₂, hd₂, hf₂⟩ := hend
    have hW' : U.WarmedH s₂.vm := hW₂
    have hcc : c₂ = c := by
      have h1 : s₂.code? g.method = U.code? g.method := by
        rw [State.code?_eq, State.code?_eq, hW'.alike.method?]
      exact Option.some.inj (hc₂.symm.trans (h1.trans h.code))
    subst hcc
    have hlen : len₂ = len := by rw [hdg] at hd₂; cases hd₂; rfl
    subst hlen
    have hs₂ : s₂ = (({ U with heap := s₂.heap, slotsUsed := s₂.slotsUsed } : State).setVm s₂.vm).setTop { g with pc := g.pc + len₂, stack := v.toList ++ g.stack } := by
      refine e3.trans ?_
      rw [hf₂, State.calling_eq h.top, State.setFrames_setFrames, State.setTop_of_frames _ hr', hr]
      rfl
    have hsame : U.sameButNew ({ U with heap := s₂.heap, slotsUsed := s₂.slotsUsed } : State) L mc ms := by
      refine ⟨?_, q2, q3, q4, q5, q6⟩
      obtain ⟨t, ht, -⟩ := State.frames_cons hr
      show ({ U with heap := s₂.heap, slotsUsed := s₂.slotsUsed } : State) = { U.setFrames U.frames with heap := s₂.heap, slotsUsed := s₂.slotsUsed }
      rw [State.setFrames_self ht]
    subst hg
    refine Or.inl ⟨v, ⟨(({ U with heap := s₂.heap, slotsUsed := s₂.slotsUsed } : State).setVm s₂.vm), Ls ++ L, c0 + mc, s0 + ms⟩,
      ⟨X.admits, X.cas, X.clock, X.frames, X.room, X.hears, X.method, X.code, (X.here.setHeapUsed s₂.heap s₂.slotsUsed).setVm hW'.alike, X.tail, State.WarmedH.trans X.warmed hW', X.limits, X.bytes, X.same.trans (hsame.setVm s.vm)⟩,
      ⟨g, mk, s₂, L, rfl, rfl, hqc, rfl, hL, rfl, rfl⟩, ?_⟩
    show Steps p.tables e below _ ((({ U with heap := s₂.heap, slotsUsed := s₂.slotsUsed } : State).setVm s₂.vm).setTop { g with pc := g.pc + len₂, stack := v.toList ++ g.stack })
    rw [← hs₂]
    exact hsteps
  · obtain ⟨e2, q2, q3, q4, q5, q6⟩ := id hsm
    have e3 : s₂ = ({ (U.calling g mk a).setFrames s₂.frames with heap := s₂.heap, slotsUsed := s₂.slotsUsed } : State).setVm s₂.vm := by
      have : s₂ = ({ s₂ with vm := (U.calling g mk a).vm } : State).setVm s₂.vm := rfl
      rw [e2] at this
      exact this
    have hf₂ : s₂.frames = .throwing q :: .java g :: U.frames.tail := hend
    have hW' : U.WarmedH s₂.vm := hW₂
    have hs₂ : s₂ = ((({ U with heap := s₂.heap, slotsUsed := s₂.slotsUsed } : State).setVm s₂.vm).setTop g).pushFrame (.throwing q) := by
      refine e3.trans ?_
      rw [hf₂, State.calling_eq h.top, State.setFrames_setFrames, State.pushFrame, State.frames_setTop _ hr', State.setTop_of_frames _ hr', State.setFrames_setFrames, hr]
      rfl
    have hsame : U.sameButNew ({ U with heap := s₂.heap, slotsUsed := s₂.slotsUsed } : State) L mc ms := by
      refine ⟨?_, q2, q3, q4, q5, q6⟩
      obtain ⟨t, ht, -⟩ := State.frames_cons hr
      show ({ U with heap := s₂.heap, slotsUsed := s₂.slotsUsed } : State) = { U.setFrames U.frames with heap := s₂.heap, slotsUsed := s₂.slotsUsed }
      rw [State.setFrames_self ht]
    subst hg
    refine Or.inr ⟨q, ⟨(({ U with heap := s₂.heap, slotsUsed := s₂.slotsUsed } : State).setVm s₂.vm), Ls ++ L, c0 + mc, s0 + ms⟩,
      ⟨X.admits, X.cas, X.clock, X.frames, X.room, X.hears, X.method, X.code, (X.here.setHeapUsed s₂.heap s₂.slotsUsed).setVm hW'.alike, X.tail, State.WarmedH.trans X.warmed hW', X.limits, X.bytes, X.same.trans (hsame.setVm s.vm)⟩,
      ⟨g, mk, s₂, L, E, ce, rfl, rfl, hx, hce, hcv, hcl, rfl, hL, rfl, rfl⟩, ?_⟩
    show Steps p.tables e below _ (((({ U with heap := s₂.heap, slotsUsed := s₂.slotsUsed } : State).setVm s₂.vm).setTop g).pushFrame (.throwing q))
    rw [← hs₂]
    exact hsteps
end Payer
section Calls
variable {p : Program} {l : Launch} {e : Env} {R : Room} {s : State} {m : MethodId} {args : Array Value} {below : List Frame} {meth : Method} {c : Code} {T : State} {locs : List Loc} {cells slots : Nat}
theorem vx_callV (X : Stand p l e R s m args below meth c T locs cells slots) (hexec : p.tables.exec = Jvm.exec) {own C : String} {index : Nat} {y : MethodName} {bytes : ByteArray} {maxL : Nat} {ret : Option FieldType}
    (hown : s.vm.findClass own = some m.cls) (hlink : (Cond.methodLink own index y).before args s = true) (hinst : (Cond.instanceMethod y).before args s = true) (hsel : (Cond.selects C y y).before args s = true)
    (hcode : (Cond.code y bytes maxL ret).before args s = true) (hy : y.cls ≠ "java/lang/invoke/MethodHandle" ∧ y.cls ≠ "java/lang/invoke/VarHandle")
    {W9 : Nat} {Pre : Pt → Array Value → Prop} {Post : Pt → Array Value → Option Value → Pt → Prop} {PostX : Pt → Array Value → Addr → Pt → Prop} (hK : vx_Back l R p e below s args y 3 W9 Pre Post PostX)
    {b : Addr} {cellB : Cell} (hcell : T.heap[b]? = some cellB) (hobj : cellB.vm.isStatics = false) (hcls : s.vm.findClass C = some cellB.cls)
    {g : JFrame} (hg : g.method = m) (hsize : g.locals.size = c.maxLocals) {argsL rest : List Value} (hlen : ∀ sig, parseMethodDescriptor y.desc = some sig → argsL.length = sig.parameters.length)
    (hstack : g.stack = argsL.reverse ++ .ref b :: rest) (hW : 2 * g.monitorRoom + (rest.map fun v => v.category).sum ≤ W9) (hdg : decode c.code g.pc = .ok (.invokevirtual index, 3))
    (hpre : ∀ vm₁, s.WarmedH vm₁ → Pre ⟨T.setVm vm₁, locs, cells, slots⟩ (Value.ref b :: argsL).toArray) :
    (∃ (v : Option Value) (vm₁ : Vm) (B : Pt), s.WarmedH vm₁ ∧ Stand p l e R s m args below meth c B.U B.locs B.cells B.slots ∧ Post ⟨T.setVm vm₁, locs, cells, slots⟩ (Value.ref b :: argsL).toArray v B ∧
      ∀ target, Steps p.tables e below (B.U.setTop { g with pc := g.pc + 3, stack := v.toList ++ rest }) target → Steps p.tables e below (T.setTop g) target) ∨
    (∃ (q : Addr) (vm₁ : Vm) (B : Pt), s.WarmedH vm₁ ∧ Stand p l e R s m args below meth c B.U B.locs B.cells B.slots ∧ PostX ⟨T.setVm vm₁, locs, cells, slots⟩ (Value.ref b :: argsL).toArray q B ∧
      Steps p.tables e below (T.setTop g) ((B.U.setTop { g with stack := rest }).pushFrame (.throwing q))) := by
  obtain ⟨mk, methM, hnamed, hmethM, hstM, habM⟩ := Cond.instanceMethod_spec hinst
  obtain ⟨methM', cM, hmethM', -, -, -, -, -, -, hsigM⟩ := Cond.code_spec hnamed hcode
  cases hmethM.symm.trans hmethM'
  obtain ⟨c2, r2, m2, q1, q2, q3, q4, kP, hkP, hkPi⟩ := Cond.selects_spec hsel
  cases hcls.symm.trans q1
  cases (State.methodFound?_of_named hnamed hy).symm.trans q2
  cases hnamed.symm.trans q3
  have hselP : selectMethod e.platform s.vm cellB.cls mk = .method mk := by rw [Launch.admits_selectMethod X.admits]; exact q4
  obtain ⟨vm₁, X₁, hstep₁⟩ := X.invokevirtual hexec hown hlink hnamed hmethM hstM hkP hkPi hy (a := b) (cell := cellB) hcell
    (fun z h => by rw [h] at hobj; cases hobj) hselP hmethM habM hkP hkPi (g := g) hg (argsL := argsL) (rest := rest) (hlen _ hsigM) hstack hdg
  rcases hK m meth c ⟨T.setVm vm₁, locs, cells, slots⟩ { g with stack := rest } (.invokevirtual index) mk (Value.ref b :: argsL).toArray X₁ hg hsize hdg hW (X₁.named hnamed) (hpre vm₁ X₁.warmed) with ⟨v, B, X', hpost, hsteps⟩ | ⟨q, B, X', hpost, hsteps⟩
  · exact Or.inl ⟨v, vm₁, B, X₁.warmed, X', hpost, fun target h => hstep₁ _ fun acts => by rw [doInvoke_state]; exact hsteps.trans h⟩
  · exact Or.inr ⟨q, vm₁, B, X₁.warmed, X', hpost, hstep₁ _ fun acts => by rw [doInvoke_state]; exact hsteps⟩
theorem vx_callS (X : Stand p l e R s m args below meth c T locs cells slots) (hexec : p.tables.exec = Jvm.exec) {own : String} {index : Nat} {y : MethodName} {bytes : ByteArray} {maxL : Nat} {ret : Option FieldType}
    (hown : s.vm.findClass own = some m.cls) (hlink : (Cond.methodLink own index y).before args s = true) (hstat : (Cond.static y).before args s = true) (hinit : (Cond.initialized y.cls).before args s = true)
    (hcode : (Cond.code y bytes maxL ret).before args s = true) (hy : y.cls ≠ "java/lang/invoke/MethodHandle" ∧ y.cls ≠ "java/lang/invoke/VarHandle")
    {W9 : Nat} {Pre : Pt → Array Value → Prop} {Post : Pt → Array Value → Option Value → Pt → Prop} {PostX : Pt → Array Value → Addr → Pt → Prop} (hK : vx_Back l R p e below s args y 3 W9 Pre Post PostX)
    {g : JFrame} (hg : g.method = m) (hsize : g.locals.size = c.maxLocals) {argsL rest : List Value} (hlen : ∀ sig, parseMethodDescriptor y.desc = some sig → argsL.length = sig.parameters.length)
    (hstack : g.stack = argsL.reverse ++ rest) (hW : 2 * g.monitorRoom + (rest.map fun v => v.category).sum ≤ W9) (hdg : decode c.code g.pc = .ok (.invokestatic index, 3))
    (hpre : ∀ vm₁, s.WarmedH vm₁ → Pre ⟨T.setVm vm₁, locs, cells, slots⟩ argsL.toArray) :
    (∃ (v : Option Value) (vm₁ : Vm) (B : Pt), s.WarmedH vm₁ ∧ Stand p l e R s m args below meth c B.U B.locs B.cells B.slots ∧ Post ⟨T.setVm vm₁, locs, cells, slots⟩ argsL.toArray v B ∧
      ∀ target, Steps p.tables e below (B.U.setTop { g with pc := g.pc + 3, stack := v.toList ++ rest }) target → Steps p.tables e below (T.setTop g) target) ∨
    (∃ (q : Addr) (vm₁ : Vm) (B : Pt), s.WarmedH vm₁ ∧ Stand p l e R s m args below meth c B.U B.locs B.cells B.slots ∧ PostX ⟨T.setVm vm₁, locs, cells, slots⟩ argsL.toArray q B ∧
      Steps p.tables e below (T.setTop g) ((B.U.setTop { g with stack := rest }).pushFrame (.throwing q))) := by
  obtain ⟨mk, hnamed⟩ := Cond.code_named hcode
  obtain ⟨methM, cM, hmethM, -, -, -, -, -, -, hsigM⟩ := Cond.code_spec hnamed hcode
  have hstatic : methM.isStatic = true := Cond.static_spec hnamed hmethM hstat
  obtain ⟨kP, hkP, -⟩ := className_of_methodNamed hnamed
  have hinitP : kP.init = .initialized := Cond.initialized_spec (findClass_of_methodNamed hnamed) hkP hinit
  obtain ⟨vm₁, X₁, hstep₁⟩ := X.invokestatic hexec hown hlink hnamed hmethM hstatic hkP hinitP hy (g := g) hg (argsL := argsL) (rest := rest) (hlen _ hsigM) hstack hdg
  rcases hK m meth c ⟨T.setVm vm₁, locs, cells, slots⟩ { g with stack := rest } (.invokestatic index) mk argsL.toArray X₁ hg hsize hdg hW (X₁.named hnamed) (hpre vm₁ X₁.warmed) with ⟨v, B, X', hpost, hsteps⟩ | ⟨q, B, X', hpost, hsteps⟩
  · exact Or.inl ⟨v, vm₁, B, X₁.warmed, X', hpost, fun target h => hstep₁ _ fun acts => by rw [doInvoke_state]; exact hsteps.trans h⟩
  · exact Or.inr ⟨q, vm₁, B, X₁.warmed, X', hpost, hstep₁ _ fun acts => by rw [doInvoke_state]; exact hsteps⟩
end Calls
theorem vx_cls {s : State} {T : State} {vm₁ : Vm} {E : String} {k : ClassId} (hW : s.WarmedH vm₁) (h : (T.setVm vm₁).vm.findClass E = some k) : s.vm.findClass E = some k := by
  have h1 : vm₁.findClass E = some k := h
  rw [hW.alike.findClass] at h1
  exact h1
/-- the method's frame g, with q thrown over it -/
def vx_W (p : Program) (l : Launch) (e : Env) (R : Room) (s : State) (m : MethodId) (args : Array Value) (below : List Frame) (meth : Method) (c : Code) (H : Heap) (locs : List Loc) (cells slots : Nat) (Q : State → Prop) (g : JFrame) (q : Addr) : Prop :=
  ∀ T : State, T.heap = H → Stand p l e R s m args below meth c T locs cells slots → ∃ t, Steps p.tables e below ((T.setTop g).pushFrame (.throwing q)) t ∧ Q t
def vx_Run (p : Program) (l : Launch) (e : Env) (R : Room) (s : State) (m : MethodId) (args : Array Value) (below : List Frame) (meth : Method) (c : Code) (H : Heap) (locs : List Loc) (cells slots mc ms : Nat) (g : JFrame) (rest : List Value) (Qa : State → Outcome → State → Prop) (XC : String → State → State → Prop) (free : Addr → Prop) : Prop :=
  ∀ T : State, T.heap = H → Stand p l e R s m args below meth c T locs cells slots →
    (∃ (v : Option Value) (st₀ t T' : State) (L : List Loc), st₀.heap = H ∧ Stand p l e R s m args below meth c T' (locs ++ L) (cells + mc) (slots + ms) ∧ (∀ q ∈ L, free q.base) ∧ T'.heap = t.heap ∧ T'.vm = t.vm ∧ Qa st₀ (.returned v) t ∧
      Goes p e below T g T' { g with pc := g.pc + 3, stack := v.toList ++ rest }) ∨
    (∃ (q : Addr) (st₀ t T' : State) (L : List Loc) (E : String) (ce : Cell), st₀.heap = H ∧ Stand p l e R s m args below meth c T' (locs ++ L) (cells + mc) (slots + ms) ∧ (∀ z ∈ L, free z.base) ∧ T'.heap = t.heap ∧ T'.vm = t.vm ∧ XC E st₀ t ∧ t.heap[q]? = some ce ∧ ce.vm = .none ∧ s.vm.findClass E = some ce.cls ∧
      Steps p.tables e below (T.setTop g) ((T'.setTop { g with stack := rest }).pushFrame (.throwing q)))
def vx_X {S : Type} (px : S → Prop) (B : String → S → State → Prop) (A : Nat → Prop) : String → State → State → Prop := fun E st t => ∃ u : S, px u ∧ B E u t ∧ va_F A st t
section Runs
variable {p : Program} {l : Launch} {e : Env} {R : Room} {s : State} {m : MethodId} {args : Array Value} {below : List Frame} {meth : Method} {c : Code} {H : Heap} {locs : List Loc} {cells slots : Nat}
variable {y : MethodName} {bytes cc : ByteArray} {maxL nL mc ms n index : Nat} {ret : Option FieldType} {ws : List Cond} {rm : Room} {Pc : Array Value → State → Prop} {Qc : Array Value → State → Outcome → State → Prop} {XC : String → State → State → Prop} {free : Addr → Prop} {Ts : List Cond} {own C : String} {b : Addr} {As rest : List Value} {g : JFrame}
theorem vx_callBack (cb : CallB R s args own index y bytes maxL ret ws rm mc ms n) (hM : vx_Met l y ws rm Pc Qc XC mc ms free) (hbl : FrameBlind Pc) : vx_Back l R p e below s args y 3 8 (PreOf R mc ms Pc) (PostOf Qc mc ms free) (vx_Post XC mc ms free) := by
  obtain ⟨hrc, hrs, hfr, hlo, hws, hcw, -, hini, -⟩ := cb
  exact vx_back (bytes := bytes) (maxL := maxL) (ret := ret) hM hbl hrc hrs hfr hlo hws hcw (fun a' U hW => word_at hW (Or.inl (by first | rfl | simp [Cond.onTables, Cond.keeps, Cond.steady])) hini)
theorem vx_runV (S : CallFix p m c cc nL s args Ts own) (hM : vx_Met l y ws rm Pc Qc XC mc ms free) (cw : CallW R s args own C index y bytes maxL ret ws rm mc ms n) (hp : PreV s H C b Pc As)
    (hg : g.method = m) (hn : As.length = n) (hsize : g.locals.size = nL) (hstack : g.stack = As.reverse ++ .ref b :: rest) (hW : 2 * g.monitorRoom + (rest.map fun v => v.category).sum ≤ 8) (hdg : decode cc g.pc = .ok (.invokevirtual index, 3)) (hf : cells + mc ≤ R.cells ∧ slots + ms ≤ R.slots) :
    vx_Run p l e R s m args below meth c H locs cells slots mc ms g rest (Qc (Value.ref b :: As).toArray) XC free := by
  have hK : vx_Back l R p e below s args y 3 8 (PreOf R mc ms Pc) (PostOf Qc mc ms free) (vx_Post XC mc ms free) := vx_callBack cw.1 hM hp.1
  obtain ⟨⟨-, -, -, -, -, -, hcode, -, hy, hlen, hl⟩, hin, hse⟩ := cw
  obtain ⟨hx, hb, hml, ho, -⟩ := S
  obtain ⟨-, ⟨cellB, hcB, hoB, hclB⟩, hPc⟩ := hp
  intro T hT X
  rcases vx_callV X hx (C := C) (bytes := bytes) (maxL := maxL) (ret := ret) ho hl hin hse hcode hy hK (by rw [hT]; exact hcB) hoB hclB hg (hsize.trans hml.symm) (argsL := As) (rest := rest) (fun sig h => hn.trans (hlen sig h)) hstack hW (by rw [hb]; exact hdg)
    (fun vm₁ hW₁ => ⟨hf.1, hf.2, hPc (T.setVm vm₁) hT hW₁⟩) with ⟨v, vm₁, ⟨U', l2, c2, s2⟩, hW₁, X', ⟨g', mk, t, L, e1, e2, hq, h1, hL, h2, h3⟩, st⟩ | ⟨q, vm₁, ⟨U', l2, c2, s2⟩, hW₁, X', ⟨g', mk, t, L, E, ce, e1, e2, hq, hce, hcv, hcl, h1, hL, h2, h3⟩, st⟩
  · dsimp only [Pt.U, Pt.locs, Pt.cells, Pt.slots] at X' e1 e2 h1 h2 h3 st
    subst h1; subst h2; subst h3
    exact Or.inl ⟨v, (T.setVm vm₁).calling g' mk (Value.ref b :: As).toArray, t, U', L, hT, X', hL, e1, e2, hq, st⟩
  · dsimp only [Pt.U, Pt.locs, Pt.cells, Pt.slots] at X' e1 e2 h1 h2 h3 st hcl
    subst h1; subst h2; subst h3
    exact Or.inr ⟨q, (T.setVm vm₁).calling g' mk (Value.ref b :: As).toArray, t, U', L, E, ce, hT, X', hL, e1, e2, hq, hce, hcv, vx_cls hW₁ hcl, st⟩
theorem vx_runS (S : CallFix p m c cc nL s args Ts own) (hM : vx_Met l y ws rm Pc Qc XC mc ms free) (cw : CallB R s args own index y bytes maxL ret ws rm mc ms n ∧ (Cond.static y).before args s = true) (hp : PreS s H Pc As)
    (hg : g.method = m) (hn : As.length = n) (hsize : g.locals.size = nL) (hstack : g.stack = As.reverse ++ rest) (hW : 2 * g.monitorRoom + (rest.map fun v => v.category).sum ≤ 8) (hdg : decode cc g.pc = .ok (.invokestatic index, 3)) (hf : cells + mc ≤ R.cells ∧ slots + ms ≤ R.slots) :
    vx_Run p l e R s m args below meth c H locs cells slots mc ms g rest (Qc As.toArray) XC free := by
  have hK : vx_Back l R p e below s args y 3 8 (PreOf R mc ms Pc) (PostOf Qc mc ms free) (vx_Post XC mc ms free) := vx_callBack cw.1 hM hp.1
  obtain ⟨⟨-, -, -, -, -, -, hcode, hini, hy, hlen, hl⟩, hstt⟩ := cw
  obtain ⟨hx, hb, hml, ho, -⟩ := S
  intro T hT X
  rcases vx_callS X hx (bytes := bytes) (maxL := maxL) (ret := ret) ho hl hstt hini hcode hy hK hg (hsize.trans hml.symm) (argsL := As) (rest := rest) (fun sig h => hn.trans (hlen sig h)) hstack hW (by rw [hb]; exact hdg)
    (fun vm₁ hW₁ => ⟨hf.1, hf.2, hp.2 (T.setVm vm₁) hT hW₁⟩) with ⟨v, vm₁, ⟨U', l2, c2, s2⟩, hW₁, X', ⟨g', mk, t, L, e1, e2, hq, h1, hL, h2, h3⟩, st⟩ | ⟨q, vm₁, ⟨U', l2, c2, s2⟩, hW₁, X', ⟨g', mk, t, L, E, ce, e1, e2, hq, hce, hcv, hcl, h1, hL, h2, h3⟩, st⟩
  · dsimp only [Pt.U, Pt.locs, Pt.cells, Pt.slots] at X' e1 e2 h1 h2 h3 st
    subst h1; subst h2; subst h3
    exact Or.inl ⟨v, (T.setVm vm₁).calling g' mk As.toArray, t, U', L, hT, X', hL, e1, e2, hq, st⟩
  · dsimp only [Pt.U, Pt.locs, Pt.cells, Pt.slots] at X' e1 e2 h1 h2 h3 st hcl
    subst h1; subst h2; subst h3
    exact Or.inr ⟨q, (T.setVm vm₁).calling g' mk As.toArray, t, U', L, E, ce, hT, X', hL, e1, e2, hq, hce, hcv, vx_cls hW₁ hcl, st⟩
end Runs
section Rows
variable {p : Program} {l : Launch} {e : Env} {R : Room} {s : State} {m : MethodId} {args : Array Value} {below : List Frame} {meth : Method} {c : Code} {H : Heap} {locs : List Loc} {cells slots : Nat} {Q : State → Prop}
variable {mc ms : Nat} {free : Addr → Prop} {A0 A1 : Nat → Prop} {H0 : Heap} {a : Array Value} {pc : Nat} {ls : Array Slot} {st0 rest : List Value}
theorem vx_keep {st₀ t T' : State} {L : List Loc} (h0 : st₀.heap = H) (e1 : T'.heap = t.heap) (hS : va_S A0 H0 H locs) (hA : ∀ q, q < H.size → A1 q → A0 q) (hf : ∀ q, free q → A0 q) (hL : ∀ q ∈ L, free q.base) (hF : va_F A1 st₀ t) :
    H.size ≤ T'.heap.size ∧ (∀ q : Nat, q < H.size → ¬ A1 q → T'.heap[q]? = H[q]?) ∧ va_S A0 H0 T'.heap (locs ++ L) := by
  obtain ⟨hz, hk⟩ := hF
  rw [h0] at hz hk
  exact ⟨by rw [e1]; exact hz, fun q h1 h2 => by rw [e1]; exact hk q h1 h2,
    ⟨Nat.le_trans hS.1 (by rw [e1]; exact hz), fun q h1 h2 => by rw [e1, hk q (Nat.lt_of_lt_of_le h1 hS.1) (fun z => h2 (hA q (Nat.lt_of_lt_of_le h1 hS.1) z))]; exact hS.2.1 q h1 h2, fun q hq => by
      rcases List.mem_append.mp hq with h | h
      · exact hS.2.2 q h
      · exact hf _ (hL q h)⟩⟩
theorem vx_calli {S SX : Type} {post : Int32 → S → Prop} {px : SX → Prop} {B : S → State → Prop} {BX : String → SX → State → Prop} {AX : Nat → Prop} (hr : vx_Run p l e R s m args below meth c H locs cells slots mc ms (F0 m pc ls st0) rest (va_Qi post B A1 a) (vx_X px BX AX) free) (hS : va_S A0 H0 H locs) (hA : ∀ q, q < H.size → A1 q → A0 q) (hf : ∀ q, free q → A0 q) (hAX : ∀ q, q < H.size → AX q → A0 q)
    (kx : ∀ (E : String) (ce : Cell) (q9 : Addr) (u : SX) (t : State) (H1 : Heap) (locs1 : List Loc), t.heap = H1 → s.vm.Alike t.vm → px u → BX E u t → H.size ≤ H1.size → (∀ q : Nat, q < H.size → ¬ AX q → H1[q]? = H[q]?) → va_S A0 H0 H1 locs1 → H1[q9]? = some ce → ce.vm = .none → s.vm.findClass E = some ce.cls → vx_W p l e R s m args below meth c H1 locs1 (cells + mc) (slots + ms) Q (F0 m pc ls rest) q9)
    (kk : ∀ (r : Int32) (u : S) (t : State) (H1 : Heap) (locs1 : List Loc), t.heap = H1 → s.vm.Alike t.vm → post r u → B u t → H.size ≤ H1.size → (∀ q : Nat, q < H.size → ¬ A1 q → H1[q]? = H[q]?) → va_S A0 H0 H1 locs1 → W p l e R s m args below meth c H1 locs1 (cells + mc) (slots + ms) Q (F0 m (pc + 3) ls (.int r :: rest))) : W p l e R s m args below meth c H locs cells slots Q (F0 m pc ls st0) := by
  intro T hT X
  rcases hr T hT X with ⟨v, st₀, t, T', L, h0, X', hL, e1, e2, ⟨⟨r, u, hv, hp, hb⟩, hF⟩, st⟩ | ⟨q, st₀, t, T', L, E, ce, h0, X', hL, e1, e2, ⟨u, hp, hb, hF⟩, hce, hcv, hcl, st⟩
  · cases hv
    obtain ⟨k1, k2, k3⟩ := vx_keep h0 e1 hS hA hf hL hF
    obtain ⟨t2, a1, b1⟩ := kk r u t T'.heap (locs ++ L) e1.symm (by rw [← e2]; exact X'.warmed.alike) hp hb k1 k2 k3 T' rfl X'
    exact ⟨t2, st t2 a1, b1⟩
  · obtain ⟨k1, k2, k3⟩ := vx_keep h0 e1 hS hAX hf hL hF
    obtain ⟨t2, a1, b1⟩ := kx E ce q u t T'.heap (locs ++ L) e1.symm (by rw [← e2]; exact X'.warmed.alike) hp hb k1 k2 k3 (by rw [e1]; exact hce) hcv hcl T' rfl X'
    exact ⟨t2, st.trans a1, b1⟩
theorem vx_calll {S SX : Type} {post : Int64 → S → Prop} {px : SX → Prop} {B : S → State → Prop} {BX : String → SX → State → Prop} {AX : Nat → Prop} (hr : vx_Run p l e R s m args below meth c H locs cells slots mc ms (F0 m pc ls st0) rest (va_Ql post B A1 a) (vx_X px BX AX) free) (hS : va_S A0 H0 H locs) (hA : ∀ q, q < H.size → A1 q → A0 q) (hf : ∀ q, free q → A0 q) (hAX : ∀ q, q < H.size → AX q → A0 q)
    (kx : ∀ (E : String) (ce : Cell) (q9 : Addr) (u : SX) (t : State) (H1 : Heap) (locs1 : List Loc), t.heap = H1 → s.vm.Alike t.vm → px u → BX E u t → H.size ≤ H1.size → (∀ q : Nat, q < H.size → ¬ AX q → H1[q]? = H[q]?) → va_S A0 H0 H1 locs1 → H1[q9]? = some ce → ce.vm = .none → s.vm.findClass E = some ce.cls → vx_W p l e R s m args below meth c H1 locs1 (cells + mc) (slots + ms) Q (F0 m pc ls rest) q9)
    (kk : ∀ (r : Int64) (u : S) (t : State) (H1 : Heap) (locs1 : List Loc), t.heap = H1 → s.vm.Alike t.vm → post r u → B u t → H.size ≤ H1.size → (∀ q : Nat, q < H.size → ¬ A1 q → H1[q]? = H[q]?) → va_S A0 H0 H1 locs1 → W p l e R s m args below meth c H1 locs1 (cells + mc) (slots + ms) Q (F0 m (pc + 3) ls (.long r :: rest))) : W p l e R s m args below meth c H locs cells slots Q (F0 m pc ls st0) := by
  intro T hT X
  rcases hr T hT X with ⟨v, st₀, t, T', L, h0, X', hL, e1, e2, ⟨⟨r, u, hv, hp, hb⟩, hF⟩, st⟩ | ⟨q, st₀, t, T', L, E, ce, h0, X', hL, e1, e2, ⟨u, hp, hb, hF⟩, hce, hcv, hcl, st⟩
  · cases hv
    obtain ⟨k1, k2, k3⟩ := vx_keep h0 e1 hS hA hf hL hF
    obtain ⟨t2, a1, b1⟩ := kk r u t T'.heap (locs ++ L) e1.symm (by rw [← e2]; exact X'.warmed.alike) hp hb k1 k2 k3 T' rfl X'
    exact ⟨t2, st t2 a1, b1⟩
  · obtain ⟨k1, k2, k3⟩ := vx_keep h0 e1 hS hAX hf hL hF
    obtain ⟨t2, a1, b1⟩ := kx E ce q u t T'.heap (locs ++ L) e1.symm (by rw [← e2]; exact X'.warmed.alike) hp hb k1 k2 k3 (by rw [e1]; exact hce) hcv hcl T' rfl X'
    exact ⟨t2, st.trans a1, b1⟩
theorem vx_callf {S SX : Type} {post : UInt32 → S → Prop} {px : SX → Prop} {B : S → State → Prop} {BX : String → SX → State → Prop} {AX : Nat → Prop} (hr : vx_Run p l e R s m args below meth c H locs cells slots mc ms (F0 m pc ls st0) rest (va_Qf post B A1 a) (vx_X px BX AX) free) (hS : va_S A0 H0 H locs) (hA : ∀ q, q < H.size → A1 q → A0 q) (hf : ∀ q, free q → A0 q) (hAX : ∀ q, q < H.size → AX q → A0 q)
    (kx : ∀ (E : String) (ce : Cell) (q9 : Addr) (u : SX) (t : State) (H1 : Heap) (locs1 : List Loc), t.heap = H1 → s.vm.Alike t.vm → px u → BX E u t → H.size ≤ H1.size → (∀ q : Nat, q < H.size → ¬ AX q → H1[q]? = H[q]?) → va_S A0 H0 H1 locs1 → H1[q9]? = some ce → ce.vm = .none → s.vm.findClass E = some ce.cls → vx_W p l e R s m args below meth c H1 locs1 (cells + mc) (slots + ms) Q (F0 m pc ls rest) q9)
    (kk : ∀ (r : UInt32) (u : S) (t : State) (H1 : Heap) (locs1 : List Loc), t.heap = H1 → s.vm.Alike t.vm → post r u → B u t → H.size ≤ H1.size → (∀ q : Nat, q < H.size → ¬ A1 q → H1[q]? = H[q]?) → va_S A0 H0 H1 locs1 → W p l e R s m args below meth c H1 locs1 (cells + mc) (slots + ms) Q (F0 m (pc + 3) ls (.float r :: rest))) : W p l e R s m args below meth c H locs cells slots Q (F0 m pc ls st0) := by
  intro T hT X
  rcases hr T hT X with ⟨v, st₀, t, T', L, h0, X', hL, e1, e2, ⟨⟨r, u, hv, hp, hb⟩, hF⟩, st⟩ | ⟨q, st₀, t, T', L, E, ce, h0, X', hL, e1, e2, ⟨u, hp, hb, hF⟩, hce, hcv, hcl, st⟩
  · cases hv
    obtain ⟨k1, k2, k3⟩ := vx_keep h0 e1 hS hA hf hL hF
    obtain ⟨t2, a1, b1⟩ := kk r u t T'.heap (locs ++ L) e1.symm (by rw [← e2]; exact X'.warmed.alike) hp hb k1 k2 k3 T' rfl X'
    exact ⟨t2, st t2 a1, b1⟩
  · obtain ⟨k1, k2, k3⟩ := vx_keep h0 e1 hS hAX hf hL hF
    obtain ⟨t2, a1, b1⟩ := kx E ce q u t T'.heap (locs ++ L) e1.symm (by rw [← e2]; exact X'.warmed.alike) hp hb k1 k2 k3 (by rw [e1]; exact hce) hcv hcl T' rfl X'
    exact ⟨t2, st.trans a1, b1⟩
theorem vx_calld {S SX : Type} {post : UInt64 → S → Prop} {px : SX → Prop} {B : S → State → Prop} {BX : String → SX → State → Prop} {AX : Nat → Prop} (hr : vx_Run p l e R s m args below meth c H locs cells slots mc ms (F0 m pc ls st0) rest (va_Qd post B A1 a) (vx_X px BX AX) free) (hS : va_S A0 H0 H locs) (hA : ∀ q, q < H.size → A1 q → A0 q) (hf : ∀ q, free q → A0 q) (hAX : ∀ q, q < H.size → AX q → A0 q)
    (kx : ∀ (E : String) (ce : Cell) (q9 : Addr) (u : SX) (t : State) (H1 : Heap) (locs1 : List Loc), t.heap = H1 → s.vm.Alike t.vm → px u → BX E u t → H.size ≤ H1.size → (∀ q : Nat, q < H.size → ¬ AX q → H1[q]? = H[q]?) → va_S A0 H0 H1 locs1 → H1[q9]? = some ce → ce.vm = .none → s.vm.findClass E = some ce.cls → vx_W p l e R s m args below meth c H1 locs1 (cells + mc) (slots + ms) Q (F0 m pc ls rest) q9)
    (kk : ∀ (r : UInt64) (u : S) (t : State) (H1 : Heap) (locs1 : List Loc), t.heap = H1 → s.vm.Alike t.vm → post r u → B u t → H.size ≤ H1.size → (∀ q : Nat, q < H.size → ¬ A1 q → H1[q]? = H[q]?) → va_S A0 H0 H1 locs1 → W p l e R s m args below meth c H1 locs1 (cells + mc) (slots + ms) Q (F0 m (pc + 3) ls (.double r :: rest))) : W p l e R s m args below meth c H locs cells slots Q (F0 m pc ls st0) := by
  intro T hT X
  rcases hr T hT X with ⟨v, st₀, t, T', L, h0, X', hL, e1, e2, ⟨⟨r, u, hv, hp, hb⟩, hF⟩, st⟩ | ⟨q, st₀, t, T', L, E, ce, h0, X', hL, e1, e2, ⟨u, hp, hb, hF⟩, hce, hcv, hcl, st⟩
  · cases hv
    obtain ⟨k1, k2, k3⟩ := vx_keep h0 e1 hS hA hf hL hF
    obtain ⟨t2, a1, b1⟩ := kk r u t T'.heap (locs ++ L) e1.symm (by rw [← e2]; exact X'.warmed.alike) hp hb k1 k2 k3 T' rfl X'
    exact ⟨t2, st t2 a1, b1⟩
  · obtain ⟨k1, k2, k3⟩ := vx_keep h0 e1 hS hAX hf hL hF
    obtain ⟨t2, a1, b1⟩ := kx E ce q u t T'.heap (locs ++ L) e1.symm (by rw [← e2]; exact X'.warmed.alike) hp hb k1 k2 k3 (by rw [e1]; exact hce) hcv hcl T' rfl X'
    exact ⟨t2, st.trans a1, b1⟩
theorem vx_callv {S SX : Type} {post : S → Prop} {px : SX → Prop} {B : S → State → Prop} {BX : String → SX → State → Prop} {AX : Nat → Prop} (hr : vx_Run p l e R s m args below meth c H locs cells slots mc ms (F0 m pc ls st0) rest (va_Qv post B A1 a) (vx_X px BX AX) free) (hS : va_S A0 H0 H locs) (hA : ∀ q, q < H.size → A1 q → A0 q) (hf : ∀ q, free q → A0 q) (hAX : ∀ q, q < H.size → AX q → A0 q)
    (kx : ∀ (E : String) (ce : Cell) (q9 : Addr) (u : SX) (t : State) (H1 : Heap) (locs1 : List Loc), t.heap = H1 → s.vm.Alike t.vm → px u → BX E u t → H.size ≤ H1.size → (∀ q : Nat, q < H.size → ¬ AX q → H1[q]? = H[q]?) → va_S A0 H0 H1 locs1 → H1[q9]? = some ce → ce.vm = .none → s.vm.findClass E = some ce.cls → vx_W p l e R s m args below meth c H1 locs1 (cells + mc) (slots + ms) Q (F0 m pc ls rest) q9)
    (kk : ∀ (u : S) (t : State) (H1 : Heap) (locs1 : List Loc), t.heap = H1 → s.vm.Alike t.vm → post u → B u t → H.size ≤ H1.size → (∀ q : Nat, q < H.size → ¬ A1 q → H1[q]? = H[q]?) → va_S A0 H0 H1 locs1 → W p l e R s m args below meth c H1 locs1 (cells + mc) (slots + ms) Q (F0 m (pc + 3) ls (rest))) : W p l e R s m args below meth c H locs cells slots Q (F0 m pc ls st0) := by
  intro T hT X
  rcases hr T hT X with ⟨v, st₀, t, T', L, h0, X', hL, e1, e2, ⟨⟨u, hv, hp, hb⟩, hF⟩, st⟩ | ⟨q, st₀, t, T', L, E, ce, h0, X', hL, e1, e2, ⟨u, hp, hb, hF⟩, hce, hcv, hcl, st⟩
  · cases hv
    obtain ⟨k1, k2, k3⟩ := vx_keep h0 e1 hS hA hf hL hF
    obtain ⟨t2, a1, b1⟩ := kk u t T'.heap (locs ++ L) e1.symm (by rw [← e2]; exact X'.warmed.alike) hp hb k1 k2 k3 T' rfl X'
    exact ⟨t2, st t2 a1, b1⟩
  · obtain ⟨k1, k2, k3⟩ := vx_keep h0 e1 hS hAX hf hL hF
    obtain ⟨t2, a1, b1⟩ := kx E ce q u t T'.heap (locs ++ L) e1.symm (by rw [← e2]; exact X'.warmed.alike) hp hb k1 k2 k3 (by rw [e1]; exact hce) hcv hcl T' rfl X'
    exact ⟨t2, st.trans a1, b1⟩
/-- caught by the row x of this method's table; the rows ahead don't take it -/
theorem vx_catch {own name : String} {E : String} {ce : Cell} {q : Addr} (hown : s.vm.findClass own = some m.cls) (pre : List ExceptionTableEntry) (x : ExceptionTableEntry) (suf : List ExceptionTableEntry) (hsplit : c.exceptionTable.toList = pre ++ x :: suf)
    (hpass : ∀ z ∈ pre, covers z pc = false ∨ (z.catchType ≠ 0 ∧ ∃ nm : String, (Cond.classLink own z.catchType nm).before args s = true ∧ va_Nc E nm s)) (hx : covers x pc = true) (h0 : x.catchType ≠ 0)
    (hlink : (Cond.classLink own x.catchType name).before args s = true) (hcast : (Cond.castable E name).before args s = true) (hcell : H[q]? = some ce) (hv : ce.vm = .none) (hcl : s.vm.findClass E = some ce.cls)
    (kk : W p l e R s m args below meth c H locs cells slots Q (F0 m x.handlerPc ls [.ref q])) : vx_W p l e R s m args below meth c H locs cells slots Q (F0 m pc ls rest) q := by
  intro T hT X
  have hpl : e.platform.magicAccessors = ({} : Platform).magicAccessors := by rw [X.admits.platform]
  obtain ⟨c3, c4, hc3, hc4, hasg⟩ := Cond.castable_spec hcast
  cases Option.some.inj (hc3.symm.trans hcl)
  obtain ⟨c5, hc5, hcl5⟩ := Cond.classLink_spec hown hlink e.platform hpl
  cases Option.some.inj (hc4.symm.trans hc5)
  obtain ⟨vm', X', st⟩ := X.thenCaughtThrough q (g := F0 m pc ls rest) rfl (Steps.refl _) (by rw [hT]; exact hcell) (by rw [hv]; rfl) (by obtain ⟨k9, h9, -⟩ := Vm.findClass_spec hcl; exact ⟨k9, h9⟩) pre x suf hsplit
    (fun z hz => by
      rcases hpass z hz with h | ⟨hz0, nm, hl1, hn1⟩
      · exact Or.inl h
      · obtain ⟨c6, hc6, hcl6⟩ := Cond.classLink_spec hown hl1 e.platform hpl
        obtain ⟨a8, b8, h1, h2, h3⟩ := hn1
        cases Option.some.inj (h1.symm.trans hcl)
        cases Option.some.inj (h2.symm.trans hc6)
        exact Or.inr ⟨hz0, _, hcl6, h3⟩) hx (Or.inr ⟨h0, c4, hcl5, hasg⟩)
  obtain ⟨t, a1, b1⟩ := kk (T.setVm vm') hT X'
  exact ⟨t, st.trans a1, b1⟩
end Rows
section Ends
variable {p : Program} {l : Launch} {e : Env} {R : Room} {s : State} {m : MethodId} {args : Array Value} {below : List Frame} {meth : Method} {c : Code} {H : Heap} {locs : List Loc} {cells slots : Nat} {Q : State → Prop}
variable {mc ms : Nat} {free : Addr → Prop} {A0 A1 : Nat → Prop} {H0 : Heap} {a : Array Value} {ls : Array Slot} {st0 rest : List Value}
variable {Qc : Array Value → State → Outcome → State → Prop} {XC : String → State → State → Prop}
/-- what a body that may throw owes at its end -/
def vx_MQ (below : List Frame) (Qc : Array Value → State → Outcome → State → Prop) (XC : String → State → State → Prop) (a : Array Value) (s : State) (mc ms : Nat) (free : Addr → Prop) : State → Prop := fun t =>
  ∃ o, t.status = .running ∧ Ended t below o ∧ vx_Q Qc XC mc ms free a s o t
theorem vx_ret {g : JFrame} {mc ms : Nat} (k : W p l e R s m args below meth c H locs cells slots (MQ below Qc args s mc ms free) g) : W p l e R s m args below meth c H locs cells slots (vx_MQ below Qc XC args s mc ms free) g := by
  intro T hT X
  obtain ⟨t, a1, o, b1, b2, b3, b4⟩ := k T hT X
  exact ⟨t, a1, o, b1, b2, Or.inl ⟨b3, b4⟩⟩
/-- not caught here: it goes on to the caller -/
theorem vx_widen {g : JFrame} {q : Addr} {k n : Nat} (h1 : cells ≤ k) (h2 : slots ≤ n) (kk : vx_W p l e R s m args below meth c H locs k n Q g q) : vx_W p l e R s m args below meth c H locs cells slots Q g q := fun T hT X => kk T hT (stand_widen X h1 h2)
theorem vx_out {pc : Nat} {E : String} {ce : Cell} {q : Addr} {mc ms : Nat} (hout : ∀ x ∈ c.exceptionTable.toList, covers x pc = false) (hlocks : meth.locks = false) (hcell : H[q]? = some ce) (hv : ce.vm = .none) (hcl : s.vm.findClass E = some ce.cls)
    (hx : ∀ t : State, t.heap = H → s.vm.Alike t.vm → XC E s t) (hf : ∀ z ∈ locs, free z.base) (hc : cells ≤ mc) (hs : slots ≤ ms) :
    vx_W p l e R s m args below meth c H locs cells slots (vx_MQ below Qc XC args s mc ms free) (F0 m pc ls rest) q := by
  intro T hT X
  obtain ⟨st1, hrun, hend, hW, hsm⟩ := X.leaveThrown q (g := F0 m pc ls rest) rfl rfl rfl hout hlocks
  have hcell9 : (T.setFrames (.throwing q :: below)).heap[q]? = some ce := by
    show T.heap[q]? = some ce
    rw [hT]; exact hcell
  exact ⟨_, st1, .threw q, hrun, hend, Or.inr ⟨q, rfl, E, ce, locs, hx _ hT hW.alike, hcell9, hv, hcl, hW, hsm.mono hc hs, hf⟩⟩
theorem vx_frame {U : State} {k n : Nat} (h : s.sameButNew ({ U with vm := s.vm } : State) locs k n) : s.heap.size ≤ U.heap.size ∧ ∀ q : Nat, q < s.heap.size → (∀ z ∈ locs, z.base ≠ q) → U.heap[q]? = s.heap[q]? := by
  obtain ⟨-, h2, -, -, -, h6⟩ := h
  refine ⟨h2, fun q hq hz => ?_⟩
  obtain ⟨c9, e1, e2, e3, e4⟩ := h6 q _ (Array.getElem?_eq_getElem hq)
  have hs : c9.slots = (s.heap[q]).slots := Array.ext_getElem? fun i => e4 i fun hm => hz _ hm rfl
  have h9 : c9 = s.heap[q] := by
    rw [hs] at e2
    exact e2
  have e5 : U.heap[q]? = some c9 := e1
  rw [e5, h9, Array.getElem?_eq_getElem hq]
/-- the words of a throw but the four that speak of the heap -/
def vx_no (w : Cond) : Bool := decide (w ≠ .isRef (.static Bundle.tN "UNASSIGNED_STACK" Bundle.steD)) && decide (w ≠ .isRef (.static Bundle.tN "SUPPRESSED_SENTINEL" Bundle.listD)) && decide (w ≠ .laysStatic Bundle.tN "UNASSIGNED_STACK" Bundle.steD) && decide (w ≠ .laysStatic Bundle.tN "SUPPRESSED_SENTINEL" Bundle.listD)
def vx_at0 (own : String) (ic : Nat) (X : String) (names : List String) : List Cond := (Bundle.ownAtoms0 own ic X names).filter vx_no
def vx_atS (own : String) (ic : Nat) (X : String) (names : List String) : List Cond := (Bundle.ownAtoms own ic X names).filter vx_no
/-- a word that the tables alone decide, or a good one -/
def vx_ot (w : Cond) : Bool := w.onTables || goodWord w
theorem vx_ot_at {args a' : Array Value} {s U : State} {w : Cond} (hW : s.WarmedH U.vm) (hvm : s.vm = U.vm) (hg : vx_ot w = true) (h : w.before args s = true) : w.before a' U = true := by
  simp only [vx_ot, Bool.or_eq_true] at hg
  rcases hg with hg | hg
  · exact va_tabs hg hvm h
  · exact word_at hW (good_of_word hg) h
/-- a list's words: the good ones out of the method's own list, the others by premises of their own -/
theorem vx_hat {args : Array Value} {s : State} {L B : List Cond} (h1 : ∀ w ∈ L.filter goodWord, w.before args s = true) (h2 : ∀ w ∈ L.filter (fun w => !goodWord w), w ∈ B) (h3 : ∀ w ∈ B, w.before args s = true) : ∀ w ∈ L, w.before args s = true := by
  intro w hw
  by_cases g : goodWord w = true
  · exact h1 w (List.mem_filter.mpr ⟨hw, g⟩)
  · refine h3 w (h2 w (List.mem_filter.mpr ⟨hw, ?_⟩))
    show (!goodWord w) = true
    cases hgw : goodWord w
    · rfl
    · exact absurd hgw g
theorem vx_c {args : Array Value} {s : State} {w : Cond} {B : List Cond} (h : w.before args s = true) (t : ∀ w ∈ B, w.before args s = true) : ∀ w' ∈ w :: B, w'.before args s = true := fun w' h' => (List.mem_cons.mp h').elim (fun e => by rw [e]; exact h) (t w')
theorem vx_n {args : Array Value} {s : State} : ∀ w ∈ ([] : List Cond), w.before args s = true := fun _ h => nomatch h
theorem vx_own {args : Array Value} {s : State} {L : List Cond} (h1 : ∀ w ∈ L.filter vx_no, w.before args s = true)
    (hU : (Cond.isRef (.static Bundle.tN "UNASSIGNED_STACK" Bundle.steD)).before args s = true) (hN : (Cond.isRef (.static Bundle.tN "SUPPRESSED_SENTINEL" Bundle.listD)).before args s = true)
    (lU : (Cond.laysStatic Bundle.tN "UNASSIGNED_STACK" Bundle.steD).before args s = true) (lN : (Cond.laysStatic Bundle.tN "SUPPRESSED_SENTINEL" Bundle.listD).before args s = true) : ∀ w ∈ L, w.before args s = true := by
  intro w hw
  by_cases e1 : w = .isRef (.static Bundle.tN "UNASSIGNED_STACK" Bundle.steD)
  · rw [e1]; exact hU
  · by_cases e2 : w = .isRef (.static Bundle.tN "SUPPRESSED_SENTINEL" Bundle.listD)
    · rw [e2]; exact hN
    · by_cases e3 : w = .laysStatic Bundle.tN "UNASSIGNED_STACK" Bundle.steD
      · rw [e3]; exact lU
      · by_cases e4 : w = .laysStatic Bundle.tN "SUPPRESSED_SENTINEL" Bundle.listD
        · rw [e4]; exact lN
        · exact h1 w (List.mem_filter.mpr ⟨hw, by unfold vx_no; rw [decide_eq_true e1, decide_eq_true e2, decide_eq_true e3, decide_eq_true e4]; rfl⟩)
/-- where a static field lies, its class's statics cell in H -/
def vx_L (C n d : String) (A : Nat → Prop) (U : State) (H : Heap) : Prop := ∃ (c : ClassId) (k : Class) (i : Nat) (f : Field) (a : Nat) (cell : Cell), U.vm.findClass C = some c ∧ U.fieldFound? C n d = some (c, k, i, f) ∧ f.isStatic = true ∧ k.statics = some a ∧ H[a]? = some cell ∧ cell.vm.isStatics = true ∧ cell.cls = c ∧ f.slot < cell.slots.size ∧ k.staticTypes[f.slot]? = some f.type ∧ ¬ A a
theorem vx_L.moved {C n d : String} {A : Nat → Prop} {u U : State} {H : Heap} (hvm : u.vm.Alike U.vm) (h : vx_L C n d A u H) : vx_L C n d A U H := by
  obtain ⟨c, k, i, f, a, cell, h1, h2, h3, h4, h5, h6, h7, h8, h9, h10⟩ := h
  obtain ⟨k', hi', he⟩ := State.fieldFound?_setVm hvm h2
  exact ⟨c, k', i, f, a, cell, by rw [hvm.findClass]; exact h1, hi', h3, by rw [he]; exact h4, h5, h6, h7, h8, by rw [he]; exact h9, h10⟩
theorem vx_L.kept {C n d : String} {A : Nat → Prop} {U : State} {H H1 : Heap} (h : vx_L C n d A U H) (hq : ∀ a : Nat, a < H.size → ¬ A a → H1[a]? = H[a]?) : vx_L C n d A U H1 := by
  obtain ⟨c, k, i, f, a, cell, h1, h2, h3, h4, h5, h6, h7, h8, h9, h10⟩ := h
  exact ⟨c, k, i, f, a, cell, h1, h2, h3, h4, by rw [hq a (Array.getElem?_eq_some_iff.mp h5).1 h10]; exact h5, h6, h7, h8, h9, h10⟩
theorem vx_L.narrow {C n d : String} {A B : Nat → Prop} {U : State} {H : Heap} (h : vx_L C n d A U H) (hAB : ∀ q, B q → A q) : vx_L C n d B U H := by
  obtain ⟨c, k, i, f, a, cell, h1, h2, h3, h4, h5, h6, h7, h8, h9, h10⟩ := h
  exact ⟨c, k, i, f, a, cell, h1, h2, h3, h4, h5, h6, h7, h8, h9, fun z => h10 (hAB _ z)⟩
theorem vx_L.word {C n d : String} {A : Nat → Prop} {s : State} {args : Array Value} (h : vx_L C n d A s s.heap) : (Cond.laysStatic C n d).before args s = true := by
  obtain ⟨c, k, i, f, a, cell, h1, h2, h3, h4, h5, h6, h7, h8, h9, -⟩ := h
  show (Cond.laysStatic C n d).holds args s none s [] = true
  exact Cond.laysStatic_of h1 h2 h3 h4 h5 h6 h7 h8 h9
/-- .. and what it holds: null or some reference -/
def vx_Zq (C n d : String) (A : Nat → Prop) (U : State) (H : Heap) : Prop := va_Zq C n d A U H ∧ vx_L C n d A U H
theorem vx_Zq.moved {C n d : String} {A : Nat → Prop} {u U : State} {H : Heap} (hvm : u.vm.Alike U.vm) (h : vx_Zq C n d A u H) : vx_Zq C n d A U H := ⟨va_Zq.moved hvm h.1, vx_L.moved hvm h.2⟩
theorem vx_Zq.kept {C n d : String} {A : Nat → Prop} {U : State} {H H1 : Heap} (h : vx_Zq C n d A U H) (hq : ∀ a : Nat, a < H.size → ¬ A a → H1[a]? = H[a]?) : vx_Zq C n d A U H1 := ⟨va_Zq.kept h.1 hq, vx_L.kept h.2 hq⟩
theorem vx_Zq.narrow {C n d : String} {A B : Nat → Prop} {U : State} {H : Heap} (h : vx_Zq C n d A U H) (hAB : ∀ q, B q → A q) : vx_Zq C n d B U H := ⟨va_Zq.narrow h.1 hAB, vx_L.narrow h.2 hAB⟩
theorem vx_Zqof {args : Array Value} {s : State} {C n d : String} {A : Nat → Prop} (hl : (Cond.laysStatic C n d).before args s = true) (hini : (Cond.initialized C).before args s = true) (h : (Cond.isRef (.static C n d)).before args s = true) (hA : ∀ a : Nat, a < s.heap.size → ¬ A a) : vx_Zq C n d A s s.heap := by
  refine ⟨va_Zqof hl hini h hA, ?_⟩
  obtain ⟨c, k, i, f, a, cell, h1, h2, h3, h4, h5, h6, h7, h8, h9⟩ := Cond.laysStatic_spec hl
  exact ⟨c, k, i, f, a, cell, h1, h2, h3, h4, h5, h6, h7, h8, h9, hA a (Array.getElem?_eq_some_iff.mp h5).1⟩
theorem vx_isRef {C n d : String} {v : Value} {A : Nat → Prop} {s : State} {args : Array Value} (h : va_Z C n d v A s s.heap) (hv : v.isRef = true) : (Cond.isRef (.static C n d)).before args s = true := by
  obtain ⟨cf, kf, fi, f, a, cell, h1, h2, h3, h4, h5, h6, h7, -⟩ := h
  have he : (Term.static C n d).eval args s none [] s = some v := by
    simp [Term.eval, State.fieldNamed?, h1, h2, h4, h5, h6, h7]
  simp only [Cond.before, Cond.holds, Cond.value, he]
  cases v <;> simp_all [Value.isRef]
theorem vx_isRefq {C n d : String} {A : Nat → Prop} {s : State} {args : Array Value} (h : va_Zq C n d A s s.heap) : (Cond.isRef (.static C n d)).before args s = true := by
  rcases h with h | ⟨t, h⟩
  · exact vx_isRef h rfl
  · exact vx_isRef h rfl
/-- the same frame, seen from here: as if the method were called anew in this heap -/
theorem vx_rebase {T : State} (X : Stand p l e R s m args below meth c T locs cells slots) {R' : Room} (hf : R'.frames ≤ R.frames) (hl : R'.locals ≤ R.locals) (hc : cells + R'.cells ≤ R.cells) (hs : slots + R'.slots ≤ R.slots) :
    Stand p l e R' ((T.setVm s.vm).setFrames (.invoking m args :: below)) m args below meth c T [] 0 0 := by
  have htop : (T.setVm s.vm).topJava?.isSome := X.here.top
  have hF : ((T.setVm s.vm).setFrames (.invoking m args :: below)).frames = .invoking m args :: below := State.frames_setFrames _ (State.cur_lt_of_top htop)
  obtain ⟨g₀, hg0⟩ := Option.isSome_iff_exists.mp htop
  obtain ⟨r, hr⟩ := State.topJava?_eq_some.mp hg0
  have hl9 : e.platform.stackLimits (T.setVm s.vm).me = e.platform.stackLimits s.me := X.limits
  have hb9 : (T.setVm s.vm).me.stackBytes = s.me.stackBytes := X.bytes
  refine ⟨X.admits, X.cas, X.clock, hF, ?_, X.hears, X.method, X.code, X.here, X.tail, X.warmed, ?_, ?_, ?_⟩
  · have h := X.room
    have hU : ((T.setVm s.vm).setFrames (.invoking m args :: below)).localsInUse = s.localsInUse := by
      rw [State.localsInUse_invoking hF (meth := meth) (c := c) X.method X.code, State.localsInUse_invoking X.frames X.method X.code]
    simp only [State.hasRoom, Bool.and_eq_true, decide_eq_true_eq] at h ⊢
    obtain ⟨⟨⟨⟨h1, h2, h3, h4, h5, h6⟩, h7⟩, h8⟩, h9⟩ := h
    rw [X.frames, List.length_cons] at h2 h3
    have q1 := X.heapSize
    have q2 := X.used
    simp only [hF, hU, List.length_cons, State.stackLimits_setFrames, State.stackBytes_setFrames, hl9, hb9]
    refine ⟨⟨⟨⟨by omega, by omega, by omega, by omega, by omega, h6⟩, ?_⟩, ?_⟩, X.book⟩
    · show T.heap.size + R'.cells ≤ e.platform.maxCells
      omega
    · show T.slotsUsed + R'.slots ≤ e.platform.maxSlots
      omega
  · rw [State.stackLimits_setFrames]; rfl
  · rw [State.stackBytes_setFrames]; rfl
  · refine ⟨?_, Nat.le_refl _, Nat.le_refl _, ?_, ?_, fun a c9 h9 => ⟨c9, h9, rfl, rfl, fun _ _ => rfl⟩⟩
    · obtain ⟨t, ht, -⟩ := State.frames_cons hr
      show T.setVm s.vm = { ((T.setVm s.vm).setFrames (.invoking m args :: below)).setFrames (T.setVm s.vm).frames with heap := T.heap, slotsUsed := T.slotsUsed }
      rw [State.setFrames_setFrames, State.setFrames_self ht]
      rfl
    · show T.slotsUsed = T.slotsUsed + ((T.heap.toList.drop T.heap.size).map (·.slots.size)).sum
      rw [List.drop_eq_nil_of_le (Nat.le_of_eq Array.length_toList)]
      rfl
    · show ((T.heap.toList.drop T.heap.size).map (·.slots.size)).sum ≤ 0
      rw [List.drop_eq_nil_of_le (Nat.le_of_eq Array.length_toList)]
      exact Nat.le_refl _
/-- 'throw new E()': new; dup; invokespecial; athrow -/
theorem vx_throw0 {cc : ByteArray} {pc : Nat} (hexec : p.tables.exec = Jvm.exec) (hb : c.code = cc) (hl : l.stackTraces = false) {own cls : String} {names : List String} {ik ic mc ms : Nat} {A : Nat → Prop}
    (hown : s.vm.findClass own = some m.cls) (hcls : Bundle.fit cls = true) (hnames : ∀ n ∈ names, Bundle.fit n = true)
    (hk : (Cond.classLink own ik cls).before args s = true) (hini : (Cond.initialized cls).before args s = true) (hat : ∀ w ∈ vx_at0 own ic cls names, w.before args s = true)
    (hgood : ∀ w ∈ Cond.classLink own ik cls :: Cond.initialized cls :: vx_at0 own ic cls names, vx_ot w = true)
    (hU : vx_Zq Bundle.tN "UNASSIGNED_STACK" Bundle.steD A s s.heap) (hN : vx_Zq Bundle.tN "SUPPRESSED_SENTINEL" Bundle.listD A s s.heap) (hS : va_S A s.heap H locs) (hsize : ls.size = c.maxLocals)
    (d0 : decode cc pc = .ok (.new ik, 3)) (d3 : decode cc (pc + 3) = .ok (.dup, 1)) (d4 : decode cc (pc + 4) = .ok (.invokespecial ic, 3)) (d7 : decode cc (pc + 7) = .ok (.athrow, 1))
    (hout : ∀ x ∈ c.exceptionTable.toList, covers x (pc + 7) = false)
    (hRframes : names.length + 3 < R.frames) (hRlocals : (rest.map fun v => v.category).sum + (13 * (names.length + 1) + 42) ≤ R.locals) (hRcells : cells + 1 ≤ R.cells) (hRslots : slots + 6 ≤ R.slots) (hlocks : meth.locks = false)
    (hx : ∀ t : State, s.vm.Alike t.vm → H.size ≤ t.heap.size → (∀ q : Nat, q < H.size → t.heap[q]? = H[q]?) → XC cls s t)
    (hf : ∀ z ∈ locs, free z.base) (hc : cells + 1 ≤ mc) (hs : slots + 6 ≤ ms) :
    W p l e R s m args below meth c H locs cells slots (vx_MQ below Qc XC args s mc ms free) (F0 m pc ls rest) := by
  intro T hT X
  have htr : e.platform.stackTraces = false := (show e.platform.stackTraces = l.stackTraces by rw [X.admits.platform]).trans hl
  have Y := vx_rebase X (R' := { frames := R.frames, locals := R.locals, cells := 1, slots := 6 }) (Nat.le_refl _) (Nat.le_refl _) hRcells hRslots
  obtain ⟨s', hA⟩ : ∃ z, z = (T.setVm s.vm).setFrames (.invoking m args :: below) := ⟨_, rfl⟩
  rw [← hA] at Y
  have hvm : s'.vm = s.vm := by rw [hA]; rfl
  have hhp : s'.heap = H := by rw [hA]; exact hT
  have hW0 : s.WarmedH s'.vm := by rw [hvm]; exact State.WarmedH.refl s
  have hat' : ∀ w ∈ vx_at0 own ic cls names, w.before args s' = true := fun w hw => vx_ot_at hW0 hvm.symm (hgood w (List.mem_cons_of_mem _ (List.mem_cons_of_mem _ hw))) (hat w hw)
  have hk' : (Cond.classLink own ik cls).before args s' = true := vx_ot_at hW0 hvm.symm (hgood _ List.mem_cons_self) hk
  have hini' : (Cond.initialized cls).before args s' = true := vx_ot_at hW0 hvm.symm (hgood _ (List.mem_cons_of_mem _ List.mem_cons_self)) hini
  have hU' : vx_Zq Bundle.tN "UNASSIGNED_STACK" Bundle.steD A s' s'.heap := by rw [hhp]; exact vx_Zq.moved hW0.alike (hU.kept hS.2.1)
  have hN' : vx_Zq Bundle.tN "SUPPRESSED_SENTINEL" Bundle.listD A s' s'.heap := by rw [hhp]; exact vx_Zq.moved hW0.alike (hN.kept hS.2.1)
  have h : ∀ w ∈ Bundle.ownAtoms0 own ic cls names, w.before args s' = true := vx_own hat' (vx_isRefq hU'.1) (vx_isRefq hN'.1) hU'.2.word hN'.2.word
  have hown' : s'.vm.findClass own = some m.cls := by rw [hvm]; exact hown
  have hins : (Cond.instantiable cls 6).before args s' = true := h _ (by simp [Bundle.ownAtoms0])
  obtain ⟨vm₁, cX, kX, hfX, hkX, -, -, X₁, st1⟩ := Y.newCold hexec (own := own) (C := cls) (index := ik) (n := 6) hown' hk' hins hini'
    (g := F0 m pc ls rest) rfl (by rw [hb]; exact d0) (Nat.le_refl _) (Nat.le_refl _)
  generalize hT1 : (T.setVm vm₁).pushCell { cls := cX, slots := kX.instanceTypes.map defaultValue, vm := .none } = T1 at X₁ st1
  have hcat : (Value.ref T.heap.size).category = 1 := rfl
  have hcellA : T1.heap[T.heap.size]? = some (freshCell cX kX) := by rw [← hT1]; exact State.heap_pushCell_size _ _
  have d3' : decode c.code (pc + 3) = .ok (.dup, 1) := by rw [hb]; exact d3
  obtain ⟨U, hsteps, hrun, hend, hW, hsame, ce, hce, hO⟩ := X₁.ctorThrow0 hexec htr (own := own) (cls := cls) (names := names) (ic := ic) hown' hcls hnames h (fun x hx => nomatch hx) hfX hkX hcellA (by rw [hhp, hT]; exact Nat.le_refl _)
    (g := { method := m, pc := pc + 4, locals := ls, stack := .ref T.heap.size :: .ref T.heap.size :: rest, locked := none }) rfl hsize rfl rfl (rest := rest) rfl
    (by rw [hb]; exact d4) (by rw [hb]; exact d7) hout hRframes (by simp only [List.map_cons, List.sum_cons, hcat]; omega) hlocks
  obtain ⟨f1, f2⟩ := vx_frame hsame
  rw [hhp] at f1 f2
  have hWs : s.WarmedH U.vm := State.WarmedH.trans hW0 hW
  have hcl : s.vm.findClass cls = some ce.cls := by
    have h9 := hO.cls
    rw [hvm] at h9
    exact h9
  have hall : s.sameButNew ({ U with vm := s.vm } : State) locs mc ms := by
    subst hA
    obtain ⟨e1, e2⟩ := hsame
    rw [State.setFrames_setFrames] at e1
    have h2 : (T.setVm s.vm).sameButNew ({ U with vm := s.vm } : State) [] (0 + 1) (0 + 6) := ⟨e1, e2⟩
    have h3 := X.same.trans h2
    rw [List.append_nil] at h3
    exact h3.mono hc hs
  refine ⟨U, ?_, .threw T.heap.size, hrun, hend, Or.inr ⟨T.heap.size, rfl, cls, ce, locs, hx U hWs.alike f1 (fun q hq => f2 q hq (fun z hz => nomatch hz)), hce, hO.vm, hcl, hWs, hall, hf⟩⟩
  refine st1 _ ?_
  show Steps p.tables e below (T1.setTop { method := m, pc := pc + 3, locals := ls, stack := .ref T.heap.size :: rest, locked := none }) _
  jvm_step X₁.here [X₁.here.top, hexec, d3', Value.category]
  exact hsteps
/-- 'throw new E("text")': new; dup; ldc; invokespecial; athrow -/
theorem vx_throwS {cc : ByteArray} {pc : Nat} (hexec : p.tables.exec = Jvm.exec) (hb : c.code = cc) (hl : l.stackTraces = false) {own cls text : String} {names : List String} {ik is ic mc ms sa : Nat} {A : Nat → Prop}
    (hown : s.vm.findClass own = some m.cls) (hcls : Bundle.fit cls = true) (hnames : ∀ n ∈ names, Bundle.fit n = true)
    (hk : (Cond.classLink own ik cls).before args s = true) (hini : (Cond.initialized cls).before args s = true) (hstr : vk_R own is text sa s) (hat : ∀ w ∈ vx_atS own ic cls names, w.before args s = true)
    (hgood : ∀ w ∈ Cond.classLink own ik cls :: Cond.initialized cls :: vx_atS own ic cls names, vx_ot w = true)
    (hU : vx_Zq Bundle.tN "UNASSIGNED_STACK" Bundle.steD A s s.heap) (hN : vx_Zq Bundle.tN "SUPPRESSED_SENTINEL" Bundle.listD A s s.heap) (hS : va_S A s.heap H locs) (hsize : ls.size = c.maxLocals)
    (d0 : decode cc pc = .ok (.new ik, 3)) (d3 : decode cc (pc + 3) = .ok (.dup, 1)) (d4 : decode cc (pc + 4) = .ok (.ldc is, 2)) (d6 : decode cc (pc + 6) = .ok (.invokespecial ic, 3)) (d9 : decode cc (pc + 9) = .ok (.athrow, 1))
    (hout : ∀ x ∈ c.exceptionTable.toList, covers x (pc + 9) = false)
    (hRframes : names.length + 3 < R.frames) (hRlocals : (rest.map fun v => v.category).sum + (13 * (names.length + 1) + 43) ≤ R.locals) (hRcells : cells + 1 ≤ R.cells) (hRslots : slots + 6 ≤ R.slots) (hlocks : meth.locks = false)
    (hx : ∀ t : State, s.vm.Alike t.vm → H.size ≤ t.heap.size → (∀ q : Nat, q < H.size → t.heap[q]? = H[q]?) → XC cls s t)
    (hf : ∀ z ∈ locs, free z.base) (hc : cells + 1 ≤ mc) (hs : slots + 6 ≤ ms) :
    W p l e R s m args below meth c H locs cells slots (vx_MQ below Qc XC args s mc ms free) (F0 m pc ls rest) := by
  intro T hT X
  have htr : e.platform.stackTraces = false := (show e.platform.stackTraces = l.stackTraces by rw [X.admits.platform]).trans hl
  have Y := vx_rebase X (R' := { frames := R.frames, locals := R.locals, cells := 1, slots := 6 }) (Nat.le_refl _) (Nat.le_refl _) hRcells hRslots
  obtain ⟨s', hA⟩ : ∃ z, z = (T.setVm s.vm).setFrames (.invoking m args :: below) := ⟨_, rfl⟩
  rw [← hA] at Y
  have hvm : s'.vm = s.vm := by rw [hA]; rfl
  have hhp : s'.heap = H := by rw [hA]; exact hT
  have hW0 : s.WarmedH s'.vm := by rw [hvm]; exact State.WarmedH.refl s
  have hat' : ∀ w ∈ vx_atS own ic cls names, w.before args s' = true := fun w hw => vx_ot_at hW0 hvm.symm (hgood w (List.mem_cons_of_mem _ (List.mem_cons_of_mem _ hw))) (hat w hw)
  have hk' : (Cond.classLink own ik cls).before args s' = true := vx_ot_at hW0 hvm.symm (hgood _ List.mem_cons_self) hk
  have hini' : (Cond.initialized cls).before args s' = true := vx_ot_at hW0 hvm.symm (hgood _ (List.mem_cons_of_mem _ List.mem_cons_self)) hini
  have hU' : vx_Zq Bundle.tN "UNASSIGNED_STACK" Bundle.steD A s' s'.heap := by rw [hhp]; exact vx_Zq.moved hW0.alike (hU.kept hS.2.1)
  have hN' : vx_Zq Bundle.tN "SUPPRESSED_SENTINEL" Bundle.listD A s' s'.heap := by rw [hhp]; exact vx_Zq.moved hW0.alike (hN.kept hS.2.1)
  have h : ∀ w ∈ Bundle.ownAtoms own ic cls names, w.before args s' = true := vx_own hat' (vx_isRefq hU'.1) (vx_isRefq hN'.1) hU'.2.word hN'.2.word
  have hown' : s'.vm.findClass own = some m.cls := by rw [hvm]; exact hown
  have hins : (Cond.instantiable cls 6).before args s' = true := h _ (by simp [Bundle.ownAtoms])
  obtain ⟨vm₁, cX, kX, hfX, hkX, -, -, X₁, st1⟩ := Y.newCold hexec (own := own) (C := cls) (index := ik) (n := 6) hown' hk' hins hini'
    (g := F0 m pc ls rest) rfl (by rw [hb]; exact d0) (Nat.le_refl _) (Nat.le_refl _)
  generalize hT1 : (T.setVm vm₁).pushCell { cls := cX, slots := kX.instanceTypes.map defaultValue, vm := .none } = T1 at X₁ st1
  have hcat : (Value.ref T.heap.size).category = 1 := rfl
  have hcellA : T1.heap[T.heap.size]? = some (freshCell cX kX) := by rw [← hT1]; exact State.heap_pushCell_size _ _
  have d3' : decode c.code (pc + 3) = .ok (.dup, 1) := by rw [hb]; exact d3
  have d4' : decode c.code (pc + 4) = .ok (.ldc is, 2) := by rw [hb]; exact d4
  have hstr' : vk_R own is text sa s' := vk_R.warm hW0 hstr
  obtain ⟨U, hsteps, hrun, hend, hW, hsame, ce, hce, hO⟩ := X₁.ctorThrowS hexec htr (own := own) (cls := cls) (names := names) (ic := ic) hown' hcls hnames h (fun x hx => nomatch hx) hfX hkX hcellA (by rw [hhp, hT]; exact Nat.le_refl _) (msg := .ref sa) rfl
    (g := { method := m, pc := pc + 6, locals := ls, stack := .ref sa :: .ref T.heap.size :: .ref T.heap.size :: rest, locked := none }) rfl hsize rfl rfl (rest := rest) rfl
    (by rw [hb]; exact d6) (by rw [hb]; exact d9) hout hRframes (by simp only [List.map_cons, List.sum_cons, hcat]; omega) hlocks
  obtain ⟨f1, f2⟩ := vx_frame hsame
  rw [hhp] at f1 f2
  have hWs : s.WarmedH U.vm := State.WarmedH.trans hW0 hW
  have hcl : s.vm.findClass cls = some ce.cls := by
    have h9 := hO.cls
    rw [hvm] at h9
    exact h9
  have hall : s.sameButNew ({ U with vm := s.vm } : State) locs mc ms := by
    subst hA
    obtain ⟨e1, e2⟩ := hsame
    rw [State.setFrames_setFrames] at e1
    have h2 : (T.setVm s.vm).sameButNew ({ U with vm := s.vm } : State) [] (0 + 1) (0 + 6) := ⟨e1, e2⟩
    have h3 := X.same.trans h2
    rw [List.append_nil] at h3
    exact h3.mono hc hs
  refine ⟨U, ?_, .threw T.heap.size, hrun, hend, Or.inr ⟨T.heap.size, rfl, cls, ce, locs, hx U hWs.alike f1 (fun q hq => f2 q hq (fun z hz => nomatch hz)), hce, hO.vm, hcl, hWs, hall, hf⟩⟩
  refine st1 _ ?_
  show Steps p.tables e below (T1.setTop { method := m, pc := pc + 3, locals := ls, stack := .ref T.heap.size :: rest, locked := none }) _
  jvm_step X₁.here [X₁.here.top, hexec, d3', Value.category]
  exact X₁.ldcString hexec (own := own) (text := text) (index := is) (a := sa) hown' hstr'.1 hstr'.2
    (g := { method := m, pc := pc + 4, locals := ls, stack := .ref T.heap.size :: .ref T.heap.size :: rest, locked := none }) rfl d4' _ hsteps
/-- 'throw new E("text")', the text by a wide index -/
theorem vx_throwSW {cc : ByteArray} {pc : Nat} (hexec : p.tables.exec = Jvm.exec) (hb : c.code = cc) (hl : l.stackTraces = false) {own cls text : String} {names : List String} {ik is ic mc ms sa : Nat} {A : Nat → Prop}
    (hown : s.vm.findClass own = some m.cls) (hcls : Bundle.fit cls = true) (hnames : ∀ n ∈ names, Bundle.fit n = true)
    (hk : (Cond.classLink own ik cls).before args s = true) (hini : (Cond.initialized cls).before args s = true) (hstr : vk_R own is text sa s) (hat : ∀ w ∈ vx_atS own ic cls names, w.before args s = true)
    (hgood : ∀ w ∈ Cond.classLink own ik cls :: Cond.initialized cls :: vx_atS own ic cls names, vx_ot w = true)
    (hU : vx_Zq Bundle.tN "UNASSIGNED_STACK" Bundle.steD A s s.heap) (hN : vx_Zq Bundle.tN "SUPPRESSED_SENTINEL" Bundle.listD A s s.heap) (hS : va_S A s.heap H locs) (hsize : ls.size = c.maxLocals)
    (d0 : decode cc pc = .ok (.new ik, 3)) (d3 : decode cc (pc + 3) = .ok (.dup, 1)) (d4 : decode cc (pc + 4) = .ok (.ldc_w is, 3)) (d7 : decode cc (pc + 7) = .ok (.invokespecial ic, 3)) (d10 : decode cc (pc + 10) = .ok (.athrow, 1))
    (hout : ∀ x ∈ c.exceptionTable.toList, covers x (pc + 10) = false)
    (hRframes : names.length + 3 < R.frames) (hRlocals : (rest.map fun v => v.category).sum + (13 * (names.length + 1) + 43) ≤ R.locals) (hRcells : cells + 1 ≤ R.cells) (hRslots : slots + 6 ≤ R.slots) (hlocks : meth.locks = false)
    (hx : ∀ t : State, s.vm.Alike t.vm → H.size ≤ t.heap.size → (∀ q : Nat, q < H.size → t.heap[q]? = H[q]?) → XC cls s t)
    (hf : ∀ z ∈ locs, free z.base) (hc : cells + 1 ≤ mc) (hs : slots + 6 ≤ ms) :
    W p l e R s m args below meth c H locs cells slots (vx_MQ below Qc XC args s mc ms free) (F0 m pc ls rest) := by
  intro T hT X
  have htr : e.platform.stackTraces = false := (show e.platform.stackTraces = l.stackTraces by rw [X.admits.platform]).trans hl
  have Y := vx_rebase X (R' := { frames := R.frames, locals := R.locals, cells := 1, slots := 6 }) (Nat.le_refl _) (Nat.le_refl _) hRcells hRslots
  obtain ⟨s', hA⟩ : ∃ z, z = (T.setVm s.vm).setFrames (.invoking m args :: below) := ⟨_, rfl⟩
  rw [← hA] at Y
  have hvm : s'.vm = s.vm := by rw [hA]; rfl
  have hhp : s'.heap = H := by rw [hA]; exact hT
  have hW0 : s.WarmedH s'.vm := by rw [hvm]; exact State.WarmedH.refl s
  have hat' : ∀ w ∈ vx_atS own ic cls names, w.before args s' = true := fun w hw => vx_ot_at hW0 hvm.symm (hgood w (List.mem_cons_of_mem _ (List.mem_cons_of_mem _ hw))) (hat w hw)
  have hk' : (Cond.classLink own ik cls).before args s' = true := vx_ot_at hW0 hvm.symm (hgood _ List.mem_cons_self) hk
  have hini' : (Cond.initialized cls).before args s' = true := vx_ot_at hW0 hvm.symm (hgood _ (List.mem_cons_of_mem _ List.mem_cons_self)) hini
  have hU' : vx_Zq Bundle.tN "UNASSIGNED_STACK" Bundle.steD A s' s'.heap := by rw [hhp]; exact vx_Zq.moved hW0.alike (hU.kept hS.2.1)
  have hN' : vx_Zq Bundle.tN "SUPPRESSED_SENTINEL" Bundle.listD A s' s'.heap := by rw [hhp]; exact vx_Zq.moved hW0.alike (hN.kept hS.2.1)
  have h : ∀ w ∈ Bundle.ownAtoms own ic cls names, w.before args s' = true := vx_own hat' (vx_isRefq hU'.1) (vx_isRefq hN'.1) hU'.2.word hN'.2.word
  have hown' : s'.vm.findClass own = some m.cls := by rw [hvm]; exact hown
  have hins : (Cond.instantiable cls 6).before args s' = true := h _ (by simp [Bundle.ownAtoms])
  obtain ⟨vm₁, cX, kX, hfX, hkX, -, -, X₁, st1⟩ := Y.newCold hexec (own := own) (C := cls) (index := ik) (n := 6) hown' hk' hins hini'
    (g := F0 m pc ls rest) rfl (by rw [hb]; exact d0) (Nat.le_refl _) (Nat.le_refl _)
  generalize hT1 : (T.setVm vm₁).pushCell { cls := cX, slots := kX.instanceTypes.map defaultValue, vm := .none } = T1 at X₁ st1
  have hcat : (Value.ref T.heap.size).category = 1 := rfl
  have hcellA : T1.heap[T.heap.size]? = some (freshCell cX kX) := by rw [← hT1]; exact State.heap_pushCell_size _ _
  have d3' : decode c.code (pc + 3) = .ok (.dup, 1) := by rw [hb]; exact d3
  have d4' : decode c.code (pc + 4) = .ok (.ldc_w is, 3) := by rw [hb]; exact d4
  have hstr' : vk_R own is text sa s' := vk_R.warm hW0 hstr
  obtain ⟨U, hsteps, hrun, hend, hW, hsame, ce, hce, hO⟩ := X₁.ctorThrowS hexec htr (own := own) (cls := cls) (names := names) (ic := ic) hown' hcls hnames h (fun x hx => nomatch hx) hfX hkX hcellA (by rw [hhp, hT]; exact Nat.le_refl _) (msg := .ref sa) rfl
    (g := { method := m, pc := pc + 7, locals := ls, stack := .ref sa :: .ref T.heap.size :: .ref T.heap.size :: rest, locked := none }) rfl hsize rfl rfl (rest := rest) rfl
    (by rw [hb]; exact d7) (by rw [hb]; exact d10) hout hRframes (by simp only [List.map_cons, List.sum_cons, hcat]; omega) hlocks
  obtain ⟨f1, f2⟩ := vx_frame hsame
  rw [hhp] at f1 f2
  have hWs : s.WarmedH U.vm := State.WarmedH.trans hW0 hW
  have hcl : s.vm.findClass cls = some ce.cls := by
    have h9 := hO.cls
    rw [hvm] at h9
    exact h9
  have hall : s.sameButNew ({ U with vm := s.vm } : State) locs mc ms := by
    subst hA
    obtain ⟨e1, e2⟩ := hsame
    rw [State.setFrames_setFrames] at e1
    have h2 : (T.setVm s.vm).sameButNew ({ U with vm := s.vm } : State) [] (0 + 1) (0 + 6) := ⟨e1, e2⟩
    have h3 := X.same.trans h2
    rw [List.append_nil] at h3
    exact h3.mono hc hs
  refine ⟨U, ?_, .threw T.heap.size, hrun, hend, Or.inr ⟨T.heap.size, rfl, cls, ce, locs, hx U hWs.alike f1 (fun q hq => f2 q hq (fun z hz => nomatch hz)), hce, hO.vm, hcl, hWs, hall, hf⟩⟩
  refine st1 _ ?_
  show Steps p.tables e below (T1.setTop { method := m, pc := pc + 3, locals := ls, stack := .ref T.heap.size :: rest, locked := none }) _
  jvm_step X₁.here [X₁.here.top, hexec, d3', Value.category]
  exact X₁.ldcStringW hexec (own := own) (text := text) (index := is) (a := sa) hown' hstr'.1 hstr'.2
    (g := { method := m, pc := pc + 4, locals := ls, stack := .ref T.heap.size :: .ref T.heap.size :: rest, locked := none }) rfl d4' _ hsteps
end Ends
section Bodies
variable {l : Launch}
theorem vx_ofW {y : MethodName} {ws ws' : List Cond} {rm : Room} {Pc : Array Value → State → Prop} {Qc : Array Value → State → Outcome → State → Prop} {XC : String → State → State → Prop} {mc ms : Nat} {free : Addr → Prop} {cc : ByteArray} {maxL : Nat} {ret : Option FieldType}
    (hy : plainName y.cls = true) (hw : ws = Cond.code y cc maxL ret :: ws')
    (body : ∀ p e s m args below meth c s₁, BodyLoose p l y (headSpec ws rm) cc maxL ret e s m args below meth c s₁ → c.maxLocals = maxL → (∀ x ∈ c.exceptionTable.toList, False) → Pc args s →
      W p l e (headSpec ws rm).room s m args below meth c s.heap [] 0 0 (vx_MQ below Qc XC args s mc ms free) (entryFrame m args maxL)) : vx_Met l y ws rm Pc Qc XC mc ms free := by
  refine MetFree.of_bodyS (code := cc) (maxLocals := maxL) (ret := ret) hy ?_ ?_
  · intro args s m h hn
    obtain ⟨meth, c, h1, h2, h3, h4, h5, h6, -, -⟩ := Cond.code_spec hn (atoms_spec (ws := ws) h _ (by rw [hw]; exact List.mem_cons_self))
    exact ⟨meth, c, h1, h2, h3, h4, h5, h6⟩
  · intro p e s m args below meth c s₁ B hml hP _
    have hh0 : s₁.heap = s.heap := by rw [B.state]; rfl
    have ht : ∀ x ∈ c.exceptionTable.toList, False := by
      obtain ⟨meth9, c9, h1, h2, -, -, -, -, h7, -⟩ := Cond.code_spec B.named (atoms_spec (ws := ws) B.pre _ (by rw [hw]; exact List.mem_cons_self))
      cases Option.some.inj (h1.symm.trans B.method)
      cases Option.some.inj (h2.symm.trans (Stand.of_body B).code)
      intro x hx
      rw [Array.isEmpty_iff.mp h7] at hx
      cases hx
    obtain ⟨t, a1, o, b1, b2, b3⟩ := body p e s m args below meth c s₁ B hml ht hP s₁ hh0 (Stand.of_body B)
    exact ⟨t, o, a1, b1, b2, b3⟩
/-- the table of a body with handlers -/
theorem vx_table {p : Program} {x y : MethodName} {S : Spec} {cc bytes : ByteArray} {maxL maxL' : Nat} {ret ret' : Option FieldType} {e : Env} {s s₁ : State} {m : MethodId} {args : Array Value} {below : List Frame} {meth : Method} {c : Code} {hh : List (Nat × Nat × Nat × Nat)}
    (B : BodyLoose p l y S cc maxL ret e s m args below meth c s₁) (h : (Cond.codeWith y bytes maxL' ret' hh).before args s = true) : c.exceptionTable.toList = tableOf hh := by
  obtain ⟨m9, meth9, c9, hn9, h1, h2, -, -, h6, -⟩ := Cond.codeWith_spec h
  cases Option.some.inj (hn9.symm.trans B.named)
  cases Option.some.inj (h1.symm.trans B.method)
  cases Option.some.inj (h2.symm.trans (Stand.of_body B).code)
  rw [← h6, table_eq]
end Bodies
end VXA
/-! ===== END ===== -/
/-! ===== BEGIN a static call of a method with an exception table ===== -/
section VXS
variable {p : Program} {l : Launch} {e : Env} {R : Room} {s : State} {m : MethodId} {args : Array Value} {below : List Frame} {meth : Method} {c : Code} {T : State} {H : Heap} {locs : List Loc} {cells slots : Nat}
abbrev vx_CSW (R : Room) (s : State) (args : Array Value) (own : String) (index : Nat) (y : MethodName) (bytes : ByteArray) (maxL : Nat) (ret : Option FieldType) (hh : List (Nat × Nat × Nat × Nat)) (ws : List Cond) (rm : Room) (mc ms n : Nat) : Prop :=
  (rm.cells = mc ∧ rm.slots = ms ∧ rm.frames + 1 ≤ R.frames ∧ 8 + (maxL + 11) + rm.locals ≤ R.locals ∧ (∀ w ∈ ws, ∀ (a' : Array Value) (U : State), s.WarmedH U.vm → w.before a' U = true) ∧ Cond.codeWith y bytes maxL ret hh ∈ ws) ∧
  (Cond.codeWith y bytes maxL ret hh).before args s = true ∧ (Cond.initialized y.cls).before args s = true ∧ (y.cls ≠ "java/lang/invoke/MethodHandle" ∧ y.cls ≠ "java/lang/invoke/VarHandle") ∧
  (∀ sig, parseMethodDescriptor y.desc = some sig → n = sig.parameters.length) ∧ (Cond.methodLink own index y).before args s = true ∧ (Cond.static y).before args s = true
theorem vx_cwSW {own : String} {index maxL mc ms : Nat} {y : MethodName} {bytes : ByteArray} {ret : Option FieldType} {hh : List (Nat × Nat × Nat × Nat)} {Ts ws ws' : List Cond} {rm : Room} (n : Nat) (ht : ∀ w ∈ Ts, w.before args s = true) (hT : GoodIn Ts (va_wsS own index y ws)) (hw : ws = Cond.codeWith y bytes maxL ret hh :: ws') (hrc : rm.cells = mc) (hrs : rm.slots = ms)
    (hd : y.cls ≠ "java/lang/invoke/MethodHandle" ∧ y.cls ≠ "java/lang/invoke/VarHandle" ∧ (parseMethodDescriptor y.desc).map (fun d => d.parameters.length) = some n) (hR : rm.frames + 1 ≤ R.frames ∧ 8 + (maxL + 11) + rm.locals ≤ R.locals) :
    vx_CSW R s args own index y bytes maxL ret hh ws rm mc ms n := by
  have ok : ∀ w ∈ va_wsS own index y ws, w.before args s = true := fun w h => ht w (hT w h).1
  have hG : GoodIn Ts ws := fun w h => hT w (by unfold va_wsS; exact List.mem_append_right _ h)
  have hc : Cond.codeWith y bytes maxL ret hh ∈ ws := by rw [hw]; exact List.mem_cons_self
  refine ⟨⟨hrc, hrs, hR.1, hR.2, pay_in ht hG, hc⟩, ht _ (hG _ hc).1, ok _ (by simp [va_wsS]), ⟨hd.1, hd.2.1⟩, fun sig h => ?_, ok _ (by simp [va_wsS]), ok _ (by simp [va_wsS])⟩
  have h2 := hd.2.2
  rw [h] at h2
  exact (Option.some.inj h2).symm
theorem vx_callSW (X : Stand p l e R s m args below meth c T locs cells slots) (hexec : p.tables.exec = Jvm.exec) {own : String} {index : Nat} {y : MethodName} {bytes : ByteArray} {maxL : Nat} {ret : Option FieldType} {hh : List (Nat × Nat × Nat × Nat)}
    (hown : s.vm.findClass own = some m.cls) (hlink : (Cond.methodLink own index y).before args s = true) (hstat : (Cond.static y).before args s = true) (hinit : (Cond.initialized y.cls).before args s = true)
    (hcode : (Cond.codeWith y bytes maxL ret hh).before args s = true) (hy : y.cls ≠ "java/lang/invoke/MethodHandle" ∧ y.cls ≠ "java/lang/invoke/VarHandle")
    {W9 : Nat} {Pre : Pt → Array Value → Prop} {Post : Pt → Array Value → Option Value → Pt → Prop} (hK : Back l R p e below s args y 3 W9 Pre Post)
    {g : JFrame} (hg : g.method = m) (hsize : g.locals.size = c.maxLocals) {argsL rest : List Value} (hlen : ∀ sig, parseMethodDescriptor y.desc = some sig → argsL.length = sig.parameters.length)
    (hstack : g.stack = argsL.reverse ++ rest) (hW : 2 * g.monitorRoom + (rest.map fun v => v.category).sum ≤ W9) (hdg : decode c.code g.pc = .ok (.invokestatic index, 3))
    (hpre : ∀ vm₁, s.WarmedH vm₁ → Pre ⟨T.setVm vm₁, locs, cells, slots⟩ argsL.toArray) :
    ∃ (v : Option Value) (vm₁ : Vm) (B : Pt), s.WarmedH vm₁ ∧ Stand p l e R s m args below meth c B.U B.locs B.cells B.slots ∧ Post ⟨T.setVm vm₁, locs, cells, slots⟩ argsL.toArray v B ∧
      ∀ target, Steps p.tables e below (B.U.setTop { g with pc := g.pc + 3, stack := v.toList ++ rest }) target → Steps p.tables e below (T.setTop g) target := by
  obtain ⟨mk, methM, cM, hnamed, hmethM, -, -, -, -, -, -, hsigM⟩ := Cond.codeWith_spec hcode
  have hstatic : methM.isStatic = true := Cond.static_spec hnamed hmethM hstat
  obtain ⟨kP, hkP, -⟩ := className_of_methodNamed hnamed
  have hinitP : kP.init = .initialized := Cond.initialized_spec (findClass_of_methodNamed hnamed) hkP hinit
  obtain ⟨vm₁, X₁, hstep₁⟩ := X.invokestatic hexec hown hlink hnamed hmethM hstatic hkP hinitP hy (g := g) hg (argsL := argsL) (rest := rest) (hlen _ hsigM) hstack hdg
  obtain ⟨v, B, X', hpost, hsteps⟩ := hK m meth c ⟨T.setVm vm₁, locs, cells, slots⟩ { g with stack := rest } (.invokestatic index) mk argsL.toArray X₁ hg hsize hdg hW (X₁.named hnamed) (hpre vm₁ X₁.warmed)
  exact ⟨v, vm₁, B, X₁.warmed, X', hpost, fun target h => hstep₁ _ fun acts => by rw [doInvoke_state]; exact hsteps.trans h⟩
theorem vx_runSW {y : MethodName} {bytes cc : ByteArray} {maxL nL mc ms n index : Nat} {ret : Option FieldType} {hh : List (Nat × Nat × Nat × Nat)} {ws : List Cond} {rm : Room} {Pc : Array Value → State → Prop} {Qc : Array Value → State → Outcome → State → Prop} {free : Addr → Prop} {Ts : List Cond} {own : String} {As rest : List Value} {g : JFrame}
    (S : CallFix p m c cc nL s args Ts own) (hM : Met l y ws rm Pc Qc mc ms free) (cw : vx_CSW R s args own index y bytes maxL ret hh ws rm mc ms n) (hp : PreS s H Pc As)
    (hg : g.method = m) (hn : As.length = n) (hsize : g.locals.size = nL) (hstack : g.stack = As.reverse ++ rest) (hW : 2 * g.monitorRoom + (rest.map fun v => v.category).sum ≤ 8) (hdg : decode cc g.pc = .ok (.invokestatic index, 3)) (hf : cells + mc ≤ R.cells ∧ slots + ms ≤ R.slots) :
    va_Run p l e R s m args below meth c H locs cells slots mc ms g rest (Qc As.toArray) (free) := by
  obtain ⟨⟨hrc, hrs, hfr, hlo, hws, hcw⟩, hcode, hini, hy, hlen, hl, hstt⟩ := cw
  have hK : Back l R p e below s args y 3 8 (PreOf R mc ms Pc) (PostOf Qc mc ms free) := va_backW (hh := hh) (bytes := bytes) (maxL := maxL) (ret := ret) hM hp.1 hrc hrs hfr hlo hws hcw (fun a' U hW => word_at hW (Or.inl (by first | rfl | simp [Cond.onTables, Cond.keeps, Cond.steady])) hini)
  obtain ⟨hx, hb, hml, ho, -⟩ := S
  intro T hT X
  obtain ⟨v, vm₁, ⟨U', l2, c2, s2⟩, hW₁, X', ⟨g', mk, t, L, e1, e2, hq, h1, hL, h2, h3⟩, st⟩ := vx_callSW X hx (hh := hh) (bytes := bytes) (maxL := maxL) (ret := ret) ho hl hstt hini hcode hy hK hg (hsize.trans hml.symm) (argsL := As) (rest := rest) (fun sig h => hn.trans (hlen sig h)) hstack hW (by rw [hb]; exact hdg)
    (fun vm₁ hW₁ => ⟨hf.1, hf.2, hp.2 (T.setVm vm₁) hT hW₁⟩)
  dsimp only [Pt.U, Pt.locs, Pt.cells, Pt.slots] at X' e1 e2 h1 h2 h3 st
  subst h1; subst h2; subst h3
  exact ⟨v, (T.setVm vm₁).calling g' mk As.toArray, t, U', L, hT, X', hL, e1, e2, hq, st⟩
/-- not caught here, past rows that name other classes: it goes on to the caller -/
theorem vx_outP {p : Program} {l : Launch} {e : Env} {R : Room} {s : State} {m : MethodId} {args : Array Value} {below : List Frame} {meth : Method} {c : Code} {H : Heap} {locs : List Loc} {cells slots : Nat} {free : Addr → Prop} {ls : Array Slot} {rest : List Value} {Qc : Array Value → State → Outcome → State → Prop} {XC : String → State → State → Prop}
    {pc : Nat} {own E : String} {ce : Cell} {q : Addr} {mc ms : Nat} (hown : s.vm.findClass own = some m.cls) (hlocks : meth.locks = false)
    (hpass : ∀ z ∈ c.exceptionTable.toList, covers z pc = false ∨ (z.catchType ≠ 0 ∧ ∃ nm : String, (Cond.classLink own z.catchType nm).before args s = true ∧ va_Nc E nm s)) (hcell : H[q]? = some ce) (hv : ce.vm = .none) (hcl : s.vm.findClass E = some ce.cls)
    (hx : ∀ t : State, t.heap = H → s.vm.Alike t.vm → XC E s t) (hf : ∀ z ∈ locs, free z.base) (hc : cells ≤ mc) (hs : slots ≤ ms) :
    vx_W p l e R s m args below meth c H locs cells slots (vx_MQ below Qc XC args s mc ms free) (F0 m pc ls rest) q := by
  intro T hT X
  have hpl : e.platform.magicAccessors = ({} : Platform).magicAccessors := by rw [X.admits.platform]
  obtain ⟨vm', hW', X', st⟩ := X.outThrough hlocks q (g := F0 m pc ls rest) rfl rfl rfl (cell := ce) (by rw [hT]; exact hcell) (by rw [hv]; rfl)
    (by obtain ⟨k9, h9, -⟩ := Vm.findClass_spec hcl; exact ⟨k9, h9⟩) (fun z hz => by
      rcases hpass z hz with h | ⟨hz0, nm, hl1, hn1⟩
      · exact Or.inl h
      · obtain ⟨c6, hc6, hcl6⟩ := Cond.classLink_spec hown hl1 e.platform hpl
        obtain ⟨a8, b8, h1, h2, h3⟩ := hn1
        cases Option.some.inj (h1.symm.trans hcl)
        cases Option.some.inj (h2.symm.trans hc6)
        exact Or.inr ⟨hz0, _, hcl6, h3⟩)
  obtain ⟨g₀, hfr⟩ := X'.frames_eq
  have hcell9 : ((T.setVm vm').setFrames (.throwing q :: below)).heap[q]? = some ce := by
    show T.heap[q]? = some ce
    rw [hT]; exact hcell
  have hend : Ended ((T.setVm vm').setFrames (.throwing q :: below)) below (.threw q) := State.frames_setFrames _ (State.cur_lt_of_frames hfr)
  refine ⟨(T.setVm vm').setFrames (.throwing q :: below), ?_, .threw q, X'.here.running, hend, Or.inr ⟨q, rfl, E, ce, locs, hx _ hT (X'.ends _).1.alike, hcell9, hv, hcl, (X'.ends _).1, (X'.ends _).2.mono hc hs, hf⟩⟩
  rw [X.pushThrowing_eq]
  exact st
/-- a thing of a world lies in the heap -/
theorem vx_lt {D : va_G} {cl : List vw_C} {ws : va_W} {H1 : Heap} (h : va_P D cl ws H1) {k : Nat} {q : Nat × va_E} (hk : ws[k]? = some q) : q.1 < H1.size := (h k q hk).lt
end VXS
/-! ===== END ===== -/
/-! ===== BEGIN methods with a table of their own: called by a name, returning or throwing ===== -/
section VXH
/-! vx_backW, vx_callVX, vx_callSX, vx_callVW, vx_runVW, vx_runVX, vx_runSX, vx_ofWH follow the same proofs as their sisters above (Free/Laws.lean, Shelf42/LK1.lean); vx_outP calls Shelf42/NT130.lean (outThrough). -/
section
variable {l : Launch} {R : Room} {p : Program} {e : Env} {below : List Frame} {s : State} {sargs : Array Value} {y : MethodName} {len W9 : Nat}
theorem vx_backW {ws : List Cond} {rm : Room} {Pc : Array Value → State → Prop} {Qc : Array Value → State → Outcome → State → Prop} {XC : String → State → State → Prop} {mc ms : Nat} {free : Addr → Prop} {bytes : ByteArray} {maxL : Nat} {ret : Option FieldType} {hh : List (Nat × Nat × Nat × Nat)}
    (hM : vx_Met l y ws rm Pc Qc XC mc ms free) (hblind : FrameBlind Pc) (hrc : rm.cells = mc) (hrs : rm.slots = ms)
    (hframes : rm.frames + 1 ≤ R.frames) (hlocals : W9 + (maxL + 11) + rm.locals ≤ R.locals)
    (hws : ∀ w ∈ ws, ∀ a' U, s.WarmedH U.vm → w.before a' U = true) (hcode : Cond.codeWith y bytes maxL ret hh ∈ ws) (hinit : ∀ a' U, s.WarmedH U.vm → (Cond.initialized y.cls).before a' U = true) :
    vx_Back l R p e below s sargs y len W9 (PreOf R mc ms Pc) (PostOf Qc mc ms free) (vx_Post XC mc ms free) := by
  intro m meth c A g ig mk a X hg hsize hdg hW hn hp
  have h1 : (headSpec ws rm).pre.before a A.U = true := atoms_intro fun w hw => hws w hw _ _ X.warmed
  have h2 : (Cond.codeWith y bytes maxL ret hh).before a A.U = true := hws _ hcode _ _ X.warmed
  have h3 : (Cond.initialized y.cls).before a A.U = true := hinit _ _ X.warmed
  have h4 : A.cells + (headSpec ws rm).room.cells ≤ R.cells := by rw [show (headSpec ws rm).room.cells = mc from hrc]; exact hp.1
  have h5 : A.slots + (headSpec ws rm).room.slots ≤ R.slots := by rw [show (headSpec ws rm).room.slots = ms from hrs]; exact hp.2.1
  have hPc : Pc a (A.U.calling g mk a) := hblind _ _ _ _ hp.2.2
  obtain ⟨U, Ls, c0, s0⟩ := A
  dsimp only [Pt.U, Pt.locs, Pt.cells, Pt.slots] at h1 h2 h3 h4 h5 X hn hPc ⊢
  obtain ⟨m9, methY, cY, hn9, hmY, hcY, -, hlY, -⟩ := Cond.codeWith_spec h2
  cases Option.some.inj (hn9.symm.trans hn)
  obtain ⟨kY, hkY, -⟩ := className_of_methodNamed hn
  have hinitY : kY.init = .initialized := Cond.initialized_spec (findClass_of_methodNamed hn) hkY h3
  have h : At U g.method c below := by rw [hg]; exact X.here
  have hlocals9 : W9 + (maxL + 11) + (headSpec ws rm).room.locals ≤ R.locals := hlocals
  have happ : (headSpec ws rm).appliesLoose y e.platform (U.calling g mk a) = true :=
    Spec.appliesLoose_calling (g := g) h hdg hn hkY hinitY
      (X.room_calling (g := g) (R' := (headSpec ws rm).room) hsize hmY hcY hframes (by rw [hlY]; omega) h4 h5) h1
  obtain ⟨mid, hmid⟩ := h.above
  have hfr : (U.setTop g).frames = (.java g :: mid) ++ below := by rw [State.frames_setTop' g h.top, hmid]; rfl
  obtain ⟨o, s₂, hsteps, -, hend, hq⟩ := Steps.callFree hM p X.admits X.cas X.clock (acts := []) hfr happ hPc trivial
  have hq' : vx_Q Qc XC mc ms free a (U.calling g mk a) o s₂ := hq
  rw [State.frames_setTop' g h.top] at hend
  obtain ⟨g₀, hg0⟩ := Option.isSome_iff_exists.mp h.top
  obtain ⟨r, hr⟩ := State.topJava?_eq_some.mp hg0
  have hr' : (({ U with heap := s₂.heap, slotsUsed := s₂.slotsUsed } : State).setVm s₂.vm).frames = .java g₀ :: r := hr
  rcases hq' with ⟨hqc, L, hfe, hL⟩ | ⟨q, rfl, E, ce, L, hx, hce, hcv, hcl, hW₂, hsm, hL⟩
  · obtain ⟨⟨v, rfl⟩, hW₂, e2, q2, q3, q4, q5, q6⟩ := id hfe
    have e3 : s₂ = ({ (U.calling g mk a).setFrames s₂.frames with heap := s₂.heap, slotsUsed := s₂.slotsUsed } : State).setVm s₂.vm := by
      have : s₂ = ({ s₂ with vm := (U.calling g mk a).vm } : State).setVm s₂.vm := rfl
      rw [e2] at this
      exact this
    obtain ⟨c₂, i₂, len₂, hc₂, hd₂, hf₂⟩ := hend
    have hW' : U.WarmedH s₂.vm := hW₂
    have hcc : c₂ = c := by
      have h1 : s₂.code? g.method = U.code? g.method := by
        rw [State.code?_eq, State.code?_eq, hW'.alike.method?]
      exact Option.some.inj (hc₂.symm.trans (h1.trans h.code))
    subst hcc
    have hlen : len₂ = len := by rw [hdg] at hd₂; cases hd₂; rfl
    subst hlen
    have hs₂ : s₂ = (({ U with heap := s₂.heap, slotsUsed := s₂.slotsUsed } : State).setVm s₂.vm).setTop { g with pc := g.pc + len₂, stack := v.toList ++ g.stack } := by
      refine e3.trans ?_
      rw [hf₂, State.calling_eq h.top, State.setFrames_setFrames, State.setTop_of_frames _ hr', hr]
      rfl
    have hsame : U.sameButNew ({ U with heap := s₂.heap, slotsUsed := s₂.slotsUsed } : State) L mc ms := by
      refine ⟨?_, q2, q3, q4, q5, q6⟩
      obtain ⟨t, ht, -⟩ := State.frames_cons hr
      show ({ U with heap := s₂.heap, slotsUsed := s₂.slotsUsed } : State) = { U.setFrames U.frames with heap := s₂.heap, slotsUsed := s₂.slotsUsed }
      rw [State.setFrames_self ht]
    subst hg
    refine Or.inl ⟨v, ⟨(({ U with heap := s₂.heap, slotsUsed := s₂.slotsUsed } : State).setVm s₂.vm), Ls ++ L, c0 + mc, s0 + ms⟩,
      ⟨X.admits, X.cas, X.clock, X.frames, X.room, X.hears, X.method, X.code, (X.here.setHeapUsed s₂.heap s₂.slotsUsed).setVm hW'.alike, X.tail, State.WarmedH.trans X.warmed hW', X.limits, X.bytes, X.same.trans (hsame.setVm s.vm)⟩,
      ⟨g, mk, s₂, L, rfl, rfl, hqc, rfl, hL, rfl, rfl⟩, ?_⟩
    show Steps p.tables e below _ ((({ U with heap := s₂.heap, slotsUsed := s₂.slotsUsed } : State).setVm s₂.vm).setTop { g with pc := g.pc + len₂, stack := v.toList ++ g.stack })
    rw [← hs₂]
    exact hsteps
  · obtain ⟨e2, q2, q3, q4, q5, q6⟩ := id hsm
    have e3 : s₂ = ({ (U.calling g mk a).setFrames s₂.frames with heap := s₂.heap, slotsUsed := s₂.slotsUsed } : State).setVm s₂.vm := by
      have : s₂ = ({ s₂ with vm := (U.calling g mk a).vm } : State).setVm s₂.vm := rfl
      rw [e2] at this
      exact this
    have hf₂ : s₂.frames = .throwing q :: .java g :: U.frames.tail := hend
    have hW' : U.WarmedH s₂.vm := hW₂
    have hs₂ : s₂ = ((({ U with heap := s₂.heap, slotsUsed := s₂.slotsUsed } : State).setVm s₂.vm).setTop g).pushFrame (.throwing q) := by
      refine e3.trans ?_
      rw [hf₂, State.calling_eq h.top, State.setFrames_setFrames, State.pushFrame, State.frames_setTop _ hr', State.setTop_of_frames _ hr', State.setFrames_setFrames, hr]
      rfl
    have hsame : U.sameButNew ({ U with heap := s₂.heap, slotsUsed := s₂.slotsUsed } : State) L mc ms := by
      refine ⟨?_, q2, q3, q4, q5, q6⟩
      obtain ⟨t, ht, -⟩ := State.frames_cons hr
      show ({ U with heap := s₂.heap, slotsUsed := s₂.slotsUsed } : State) = { U.setFrames U.frames with heap := s₂.heap, slotsUsed := s₂.slotsUsed }
      rw [State.setFrames_self ht]
    subst hg
    refine Or.inr ⟨q, ⟨(({ U with heap := s₂.heap, slotsUsed := s₂.slotsUsed } : State).setVm s₂.vm), Ls ++ L, c0 + mc, s0 + ms⟩,
      ⟨X.admits, X.cas, X.clock, X.frames, X.room, X.hears, X.method, X.code, (X.here.setHeapUsed s₂.heap s₂.slotsUsed).setVm hW'.alike, X.tail, State.WarmedH.trans X.warmed hW', X.limits, X.bytes, X.same.trans (hsame.setVm s.vm)⟩,
      ⟨g, mk, s₂, L, E, ce, rfl, rfl, hx, hce, hcv, hcl, rfl, hL, rfl, rfl⟩, ?_⟩
    show Steps p.tables e below _ (((({ U with heap := s₂.heap, slotsUsed := s₂.slotsUsed } : State).setVm s₂.vm).setTop g).pushFrame (.throwing q))
    rw [← hs₂]
    exact hsteps
end
variable {p : Program} {l : Launch} {e : Env} {R : Room} {s : State} {m : MethodId} {args : Array Value} {below : List Frame} {meth : Method} {c : Code} {T : State} {H : Heap} {locs : List Loc} {cells slots : Nat}
theorem vx_callVX (X : Stand p l e R s m args below meth c T locs cells slots) (hexec : p.tables.exec = Jvm.exec) {own C : String} {index : Nat} {y : MethodName} {bytes : ByteArray} {maxL : Nat} {ret : Option FieldType} {hh : List (Nat × Nat × Nat × Nat)}
    (hown : s.vm.findClass own = some m.cls) (hlink : (Cond.methodLink own index y).before args s = true) (hinst : (Cond.instanceMethod y).before args s = true) (hsel : (Cond.selects C y y).before args s = true)
    (hcode : (Cond.codeWith y bytes maxL ret hh).before args s = true) (hy : y.cls ≠ "java/lang/invoke/MethodHandle" ∧ y.cls ≠ "java/lang/invoke/VarHandle")
    {W9 : Nat} {Pre : Pt → Array Value → Prop} {Post : Pt → Array Value → Option Value → Pt → Prop} {PostX : Pt → Array Value → Addr → Pt → Prop} (hK : vx_Back l R p e below s args y 3 W9 Pre Post PostX)
    {b : Addr} {cellB : Cell} (hcell : T.heap[b]? = some cellB) (hobj : cellB.vm.isStatics = false) (hcls : s.vm.findClass C = some cellB.cls)
    {g : JFrame} (hg : g.method = m) (hsize : g.locals.size = c.maxLocals) {argsL rest : List Value} (hlen : ∀ sig, parseMethodDescriptor y.desc = some sig → argsL.length = sig.parameters.length)
    (hstack : g.stack = argsL.reverse ++ .ref b :: rest) (hW : 2 * g.monitorRoom + (rest.map fun v => v.category).sum ≤ W9) (hdg : decode c.code g.pc = .ok (.invokevirtual index, 3))
    (hpre : ∀ vm₁, s.WarmedH vm₁ → Pre ⟨T.setVm vm₁, locs, cells, slots⟩ (Value.ref b :: argsL).toArray) :
    (∃ (v : Option Value) (vm₁ : Vm) (B : Pt), s.WarmedH vm₁ ∧ Stand p l e R s m args below meth c B.U B.locs B.cells B.slots ∧ Post ⟨T.setVm vm₁, locs, cells, slots⟩ (Value.ref b :: argsL).toArray v B ∧
      ∀ target, Steps p.tables e below (B.U.setTop { g with pc := g.pc + 3, stack := v.toList ++ rest }) target → Steps p.tables e below (T.setTop g) target) ∨
    (∃ (q : Addr) (vm₁ : Vm) (B : Pt), s.WarmedH vm₁ ∧ Stand p l e R s m args below meth c B.U B.locs B.cells B.slots ∧ PostX ⟨T.setVm vm₁, locs, cells, slots⟩ (Value.ref b :: argsL).toArray q B ∧
      Steps p.tables e below (T.setTop g) ((B.U.setTop { g with stack := rest }).pushFrame (.throwing q))) := by
  obtain ⟨mk, methM, hnamed, hmethM, hstM, habM⟩ := Cond.instanceMethod_spec hinst
  obtain ⟨m8, methM', cM, hn8, hmethM', -, -, -, -, -, -, hsigM⟩ := Cond.codeWith_spec hcode
  cases Option.some.inj (hn8.symm.trans hnamed)
  cases hmethM.symm.trans hmethM'
  obtain ⟨c2, r2, m2, q1, q2, q3, q4, kP, hkP, hkPi⟩ := Cond.selects_spec hsel
  cases hcls.symm.trans q1
  cases (State.methodFound?_of_named hnamed hy).symm.trans q2
  cases hnamed.symm.trans q3
  have hselP : selectMethod e.platform s.vm cellB.cls mk = .method mk := by rw [Launch.admits_selectMethod X.admits]; exact q4
  obtain ⟨vm₁, X₁, hstep₁⟩ := X.invokevirtual hexec hown hlink hnamed hmethM hstM hkP hkPi hy (a := b) (cell := cellB) hcell
    (fun z h => by rw [h] at hobj; cases hobj) hselP hmethM habM hkP hkPi (g := g) hg (argsL := argsL) (rest := rest) (hlen _ hsigM) hstack hdg
  rcases hK m meth c ⟨T.setVm vm₁, locs, cells, slots⟩ { g with stack := rest } (.invokevirtual index) mk (Value.ref b :: argsL).toArray X₁ hg hsize hdg hW (X₁.named hnamed) (hpre vm₁ X₁.warmed) with ⟨v, B, X', hpost, hsteps⟩ | ⟨q, B, X', hpost, hsteps⟩
  · exact Or.inl ⟨v, vm₁, B, X₁.warmed, X', hpost, fun target h => hstep₁ _ fun acts => by rw [doInvoke_state]; exact hsteps.trans h⟩
  · exact Or.inr ⟨q, vm₁, B, X₁.warmed, X', hpost, hstep₁ _ fun acts => by rw [doInvoke_state]; exact hsteps⟩
theorem vx_callSX (X : Stand p l e R s m args below meth c T locs cells slots) (hexec : p.tables.exec = Jvm.exec) {own : String} {index : Nat} {y : MethodName} {bytes : ByteArray} {maxL : Nat} {ret : Option FieldType} {hh : List (Nat × Nat × Nat × Nat)}
    (hown : s.vm.findClass own = some m.cls) (hlink : (Cond.methodLink own index y).before args s = true) (hstat : (Cond.static y).before args s = true) (hinit : (Cond.initialized y.cls).before args s = true)
    (hcode : (Cond.codeWith y bytes maxL ret hh).before args s = true) (hy : y.cls ≠ "java/lang/invoke/MethodHandle" ∧ y.cls ≠ "java/lang/invoke/VarHandle")
    {W9 : Nat} {Pre : Pt → Array Value → Prop} {Post : Pt → Array Value → Option Value → Pt → Prop} {PostX : Pt → Array Value → Addr → Pt → Prop} (hK : vx_Back l R p e below s args y 3 W9 Pre Post PostX)
    {g : JFrame} (hg : g.method = m) (hsize : g.locals.size = c.maxLocals) {argsL rest : List Value} (hlen : ∀ sig, parseMethodDescriptor y.desc = some sig → argsL.length = sig.parameters.length)
    (hstack : g.stack = argsL.reverse ++ rest) (hW : 2 * g.monitorRoom + (rest.map fun v => v.category).sum ≤ W9) (hdg : decode c.code g.pc = .ok (.invokestatic index, 3))
    (hpre : ∀ vm₁, s.WarmedH vm₁ → Pre ⟨T.setVm vm₁, locs, cells, slots⟩ argsL.toArray) :
    (∃ (v : Option Value) (vm₁ : Vm) (B : Pt), s.WarmedH vm₁ ∧ Stand p l e R s m args below meth c B.U B.locs B.cells B.slots ∧ Post ⟨T.setVm vm₁, locs, cells, slots⟩ argsL.toArray v B ∧
      ∀ target, Steps p.tables e below (B.U.setTop { g with pc := g.pc + 3, stack := v.toList ++ rest }) target → Steps p.tables e below (T.setTop g) target) ∨
    (∃ (q : Addr) (vm₁ : Vm) (B : Pt), s.WarmedH vm₁ ∧ Stand p l e R s m args below meth c B.U B.locs B.cells B.slots ∧ PostX ⟨T.setVm vm₁, locs, cells, slots⟩ argsL.toArray q B ∧
      Steps p.tables e below (T.setTop g) ((B.U.setTop { g with stack := rest }).pushFrame (.throwing q))) := by
  obtain ⟨mk, methM, cM, hnamed, hmethM, -, -, -, -, -, -, hsigM⟩ := Cond.codeWith_spec hcode
  have hstatic : methM.isStatic = true := Cond.static_spec hnamed hmethM hstat
  obtain ⟨kP, hkP, -⟩ := className_of_methodNamed hnamed
  have hinitP : kP.init = .initialized := Cond.initialized_spec (findClass_of_methodNamed hnamed) hkP hinit
  obtain ⟨vm₁, X₁, hstep₁⟩ := X.invokestatic hexec hown hlink hnamed hmethM hstatic hkP hinitP hy (g := g) hg (argsL := argsL) (rest := rest) (hlen _ hsigM) hstack hdg
  rcases hK m meth c ⟨T.setVm vm₁, locs, cells, slots⟩ { g with stack := rest } (.invokestatic index) mk argsL.toArray X₁ hg hsize hdg hW (X₁.named hnamed) (hpre vm₁ X₁.warmed) with ⟨v, B, X', hpost, hsteps⟩ | ⟨q, B, X', hpost, hsteps⟩
  · exact Or.inl ⟨v, vm₁, B, X₁.warmed, X', hpost, fun target h => hstep₁ _ fun acts => by rw [doInvoke_state]; exact hsteps.trans h⟩
  · exact Or.inr ⟨q, vm₁, B, X₁.warmed, X', hpost, hstep₁ _ fun acts => by rw [doInvoke_state]; exact hsteps⟩
theorem vx_callVW (X : Stand p l e R s m args below meth c T locs cells slots) (hexec : p.tables.exec = Jvm.exec) {own C : String} {index : Nat} {y : MethodName} {bytes : ByteArray} {maxL : Nat} {ret : Option FieldType} {hh : List (Nat × Nat × Nat × Nat)}
    (hown : s.vm.findClass own = some m.cls) (hlink : (Cond.methodLink own index y).before args s = true) (hinst : (Cond.instanceMethod y).before args s = true) (hsel : (Cond.selects C y y).before args s = true)
    (hcode : (Cond.codeWith y bytes maxL ret hh).before args s = true) (hy : y.cls ≠ "java/lang/invoke/MethodHandle" ∧ y.cls ≠ "java/lang/invoke/VarHandle")
    {W9 : Nat} {Pre : Pt → Array Value → Prop} {Post : Pt → Array Value → Option Value → Pt → Prop} (hK : Back l R p e below s args y 3 W9 Pre Post)
    {b : Addr} {cellB : Cell} (hcell : T.heap[b]? = some cellB) (hobj : cellB.vm.isStatics = false) (hcls : s.vm.findClass C = some cellB.cls)
    {g : JFrame} (hg : g.method = m) (hsize : g.locals.size = c.maxLocals) {argsL rest : List Value} (hlen : ∀ sig, parseMethodDescriptor y.desc = some sig → argsL.length = sig.parameters.length)
    (hstack : g.stack = argsL.reverse ++ .ref b :: rest) (hW : 2 * g.monitorRoom + (rest.map fun v => v.category).sum ≤ W9) (hdg : decode c.code g.pc = .ok (.invokevirtual index, 3))
    (hpre : ∀ vm₁, s.WarmedH vm₁ → Pre ⟨T.setVm vm₁, locs, cells, slots⟩ (Value.ref b :: argsL).toArray) :
    ∃ (v : Option Value) (vm₁ : Vm) (B : Pt), s.WarmedH vm₁ ∧ Stand p l e R s m args below meth c B.U B.locs B.cells B.slots ∧ Post ⟨T.setVm vm₁, locs, cells, slots⟩ (Value.ref b :: argsL).toArray v B ∧
      ∀ target, Steps p.tables e below (B.U.setTop { g with pc := g.pc + 3, stack := v.toList ++ rest }) target → Steps p.tables e below (T.setTop g) target := by
  obtain ⟨mk, methM, hnamed, hmethM, hstM, habM⟩ := Cond.instanceMethod_spec hinst
  obtain ⟨m8, methM', cM, hn8, hmethM', -, -, -, -, -, -, hsigM⟩ := Cond.codeWith_spec hcode
  cases Option.some.inj (hn8.symm.trans hnamed)
  cases hmethM.symm.trans hmethM'
  obtain ⟨c2, r2, m2, q1, q2, q3, q4, kP, hkP, hkPi⟩ := Cond.selects_spec hsel
  cases hcls.symm.trans q1
  cases (State.methodFound?_of_named hnamed hy).symm.trans q2
  cases hnamed.symm.trans q3
  have hselP : selectMethod e.platform s.vm cellB.cls mk = .method mk := by rw [Launch.admits_selectMethod X.admits]; exact q4
  obtain ⟨vm₁, X₁, hstep₁⟩ := X.invokevirtual hexec hown hlink hnamed hmethM hstM hkP hkPi hy (a := b) (cell := cellB) hcell
    (fun z h => by rw [h] at hobj; cases hobj) hselP hmethM habM hkP hkPi (g := g) hg (argsL := argsL) (rest := rest) (hlen _ hsigM) hstack hdg
  obtain ⟨v, B, X', hpost, hsteps⟩ := hK m meth c ⟨T.setVm vm₁, locs, cells, slots⟩ { g with stack := rest } (.invokevirtual index) mk (Value.ref b :: argsL).toArray X₁ hg hsize hdg hW (X₁.named hnamed) (hpre vm₁ X₁.warmed)
  exact ⟨v, vm₁, B, X₁.warmed, X', hpost, fun target h => hstep₁ _ fun acts => by rw [doInvoke_state]; exact hsteps.trans h⟩
abbrev vx_CVW (R : Room) (s : State) (args : Array Value) (own C : String) (index : Nat) (y : MethodName) (bytes : ByteArray) (maxL : Nat) (ret : Option FieldType) (hh : List (Nat × Nat × Nat × Nat)) (ws : List Cond) (rm : Room) (mc ms n : Nat) : Prop :=
  (rm.cells = mc ∧ rm.slots = ms ∧ rm.frames + 1 ≤ R.frames ∧ 8 + (maxL + 11) + rm.locals ≤ R.locals ∧ (∀ w ∈ ws, ∀ (a' : Array Value) (U : State), s.WarmedH U.vm → w.before a' U = true) ∧ Cond.codeWith y bytes maxL ret hh ∈ ws) ∧
  (Cond.codeWith y bytes maxL ret hh).before args s = true ∧ (Cond.initialized y.cls).before args s = true ∧ (y.cls ≠ "java/lang/invoke/MethodHandle" ∧ y.cls ≠ "java/lang/invoke/VarHandle") ∧
  (∀ sig, parseMethodDescriptor y.desc = some sig → n = sig.parameters.length) ∧ (Cond.methodLink own index y).before args s = true ∧ (Cond.instanceMethod y).before args s = true ∧ (Cond.selects C y y).before args s = true
theorem vx_cwVW {own C : String} {index maxL mc ms : Nat} {y : MethodName} {bytes : ByteArray} {ret : Option FieldType} {hh : List (Nat × Nat × Nat × Nat)} {Ts ws ws' : List Cond} {rm : Room} (n : Nat) (ht : ∀ w ∈ Ts, w.before args s = true) (hT : GoodIn Ts (wsV own index C y ws)) (hw : ws = Cond.codeWith y bytes maxL ret hh :: ws') (hrc : rm.cells = mc) (hrs : rm.slots = ms)
    (hd : y.cls = C ∧ y.cls ≠ "java/lang/invoke/MethodHandle" ∧ y.cls ≠ "java/lang/invoke/VarHandle" ∧ (parseMethodDescriptor y.desc).map (fun d => d.parameters.length) = some n) (hR : rm.frames + 1 ≤ R.frames ∧ 8 + (maxL + 11) + rm.locals ≤ R.locals) :
    vx_CVW R s args own C index y bytes maxL ret hh ws rm mc ms n := by
  obtain ⟨hC, hd⟩ := hd
  subst hC
  have ok : ∀ w ∈ wsV own index y.cls y ws, w.before args s = true := fun w h => ht w (hT w h).1
  have hG : GoodIn Ts ws := fun w h => hT w (by unfold wsV; exact List.mem_append_right _ h)
  have hc : Cond.codeWith y bytes maxL ret hh ∈ ws := by rw [hw]; exact List.mem_cons_self
  refine ⟨⟨hrc, hrs, hR.1, hR.2, pay_in ht hG, hc⟩, ht _ (hG _ hc).1, ok _ (by simp [wsV]), ⟨hd.1, hd.2.1⟩, fun sig h => ?_, ok _ (by simp [wsV]), ok _ (by simp [wsV]), ok _ (by simp [wsV])⟩
  have h2 := hd.2.2
  rw [h] at h2
  exact (Option.some.inj h2).symm
theorem vx_runVW {y : MethodName} {bytes cc : ByteArray} {maxL nL mc ms n index : Nat} {ret : Option FieldType} {hh : List (Nat × Nat × Nat × Nat)} {ws : List Cond} {rm : Room} {Pc : Array Value → State → Prop} {Qc : Array Value → State → Outcome → State → Prop} {free : Addr → Prop} {Ts : List Cond} {own C : String} {b : Addr} {As rest : List Value} {g : JFrame}
    (S : CallFix p m c cc nL s args Ts own) (hM : Met l y ws rm Pc Qc mc ms free) (cw : vx_CVW R s args own C index y bytes maxL ret hh ws rm mc ms n) (hp : PreV s H C b Pc As)
    (hg : g.method = m) (hn : As.length = n) (hsize : g.locals.size = nL) (hstack : g.stack = As.reverse ++ .ref b :: rest) (hW : 2 * g.monitorRoom + (rest.map fun v => v.category).sum ≤ 8) (hdg : decode cc g.pc = .ok (.invokevirtual index, 3)) (hf : cells + mc ≤ R.cells ∧ slots + ms ≤ R.slots) :
    va_Run p l e R s m args below meth c H locs cells slots mc ms g rest (Qc (Value.ref b :: As).toArray) free := by
  obtain ⟨⟨hrc, hrs, hfr, hlo, hws, hcw⟩, hcode, hini, hy, hlen, hl, hin, hse⟩ := cw
  have hK : Back l R p e below s args y 3 8 (PreOf R mc ms Pc) (PostOf Qc mc ms free) := va_backW (hh := hh) (bytes := bytes) (maxL := maxL) (ret := ret) hM hp.1 hrc hrs hfr hlo hws hcw (fun a' U hW => word_at hW (Or.inl (by first | rfl | simp [Cond.onTables, Cond.keeps, Cond.steady])) hini)
  obtain ⟨hx, hb, hml, ho, -⟩ := S
  obtain ⟨-, ⟨cellB, hcB, hoB, hclB⟩, hPc⟩ := hp
  intro T hT X
  obtain ⟨v, vm₁, ⟨U', l2, c2, s2⟩, hW₁, X', ⟨g', mk, t, L, e1, e2, hq, h1, hL, h2, h3⟩, st⟩ := vx_callVW X hx (C := C) (hh := hh) (bytes := bytes) (maxL := maxL) (ret := ret) ho hl hin hse hcode hy hK (by rw [hT]; exact hcB) hoB hclB hg (hsize.trans hml.symm) (argsL := As) (rest := rest) (fun sig h => hn.trans (hlen sig h)) hstack hW (by rw [hb]; exact hdg)
    (fun vm₁ hW₁ => ⟨hf.1, hf.2, hPc (T.setVm vm₁) hT hW₁⟩)
  dsimp only [Pt.U, Pt.locs, Pt.cells, Pt.slots] at X' e1 e2 h1 h2 h3 st
  subst h1; subst h2; subst h3
  exact ⟨v, (T.setVm vm₁).calling g' mk (Value.ref b :: As).toArray, t, U', L, hT, X', hL, e1, e2, hq, st⟩
section
variable {y : MethodName} {bytes cc : ByteArray} {maxL nL mc ms n index : Nat} {ret : Option FieldType} {ws : List Cond} {rm : Room} {Pc : Array Value → State → Prop} {Qc : Array Value → State → Outcome → State → Prop} {XC : String → State → State → Prop} {free : Addr → Prop} {Ts : List Cond} {own C : String} {b : Addr} {As rest : List Value} {g : JFrame}
theorem vx_runVX {hh : List (Nat × Nat × Nat × Nat)} (S : CallFix p m c cc nL s args Ts own) (hM : vx_Met l y ws rm Pc Qc XC mc ms free) (cw : vx_CVW R s args own C index y bytes maxL ret hh ws rm mc ms n) (hp : PreV s H C b Pc As)
    (hg : g.method = m) (hn : As.length = n) (hsize : g.locals.size = nL) (hstack : g.stack = As.reverse ++ .ref b :: rest) (hW : 2 * g.monitorRoom + (rest.map fun v => v.category).sum ≤ 8) (hdg : decode cc g.pc = .ok (.invokevirtual index, 3)) (hf : cells + mc ≤ R.cells ∧ slots + ms ≤ R.slots) :
    vx_Run p l e R s m args below meth c H locs cells slots mc ms g rest (Qc (Value.ref b :: As).toArray) XC free := by
  obtain ⟨⟨hrc, hrs, hfr, hlo, hws, hcw⟩, hcode, hini, hy, hlen, hl, hin, hse⟩ := cw
  have hK : vx_Back l R p e below s args y 3 8 (PreOf R mc ms Pc) (PostOf Qc mc ms free) (vx_Post XC mc ms free) := vx_backW (hh := hh) (bytes := bytes) (maxL := maxL) (ret := ret) hM hp.1 hrc hrs hfr hlo hws hcw (fun a' U hW => word_at hW (Or.inl (by first | rfl | simp [Cond.onTables, Cond.keeps, Cond.steady])) hini)
  obtain ⟨hx, hb, hml, ho, -⟩ := S
  obtain ⟨-, ⟨cellB, hcB, hoB, hclB⟩, hPc⟩ := hp
  intro T hT X
  rcases vx_callVX X hx (C := C) (hh := hh) (bytes := bytes) (maxL := maxL) (ret := ret) ho hl hin hse hcode hy hK (by rw [hT]; exact hcB) hoB hclB hg (hsize.trans hml.symm) (argsL := As) (rest := rest) (fun sig h => hn.trans (hlen sig h)) hstack hW (by rw [hb]; exact hdg)
    (fun vm₁ hW₁ => ⟨hf.1, hf.2, hPc (T.setVm vm₁) hT hW₁⟩) with ⟨v, vm₁, ⟨U', l2, c2, s2⟩, hW₁, X', ⟨g', mk, t, L, e1, e2, hq, h1, hL, h2, h3⟩, st⟩ | ⟨q, vm₁, ⟨U', l2, c2, s2⟩, hW₁, X', ⟨g', mk, t, L, E, ce, e1, e2, hq, hce, hcv, hcl, h1, hL, h2, h3⟩, st⟩
  · dsimp only [Pt.U, Pt.locs, Pt.cells, Pt.slots] at X' e1 e2 h1 h2 h3 st
    subst h1; subst h2; subst h3
    exact Or.inl ⟨v, (T.setVm vm₁).calling g' mk (Value.ref b :: As).toArray, t, U', L, hT, X', hL, e1, e2, hq, st⟩
  · dsimp only [Pt.U, Pt.locs, Pt.cells, Pt.slots] at X' e1 e2 h1 h2 h3 st hcl
    subst h1; subst h2; subst h3
    exact Or.inr ⟨q, (T.setVm vm₁).calling g' mk (Value.ref b :: As).toArray, t, U', L, E, ce, hT, X', hL, e1, e2, hq, hce, hcv, vx_cls hW₁ hcl, st⟩
theorem vx_runSX {hh : List (Nat × Nat × Nat × Nat)} (S : CallFix p m c cc nL s args Ts own) (hM : vx_Met l y ws rm Pc Qc XC mc ms free) (cw : vx_CSW R s args own index y bytes maxL ret hh ws rm mc ms n) (hp : PreS s H Pc As)
    (hg : g.method = m) (hn : As.length = n) (hsize : g.locals.size = nL) (hstack : g.stack = As.reverse ++ rest) (hW : 2 * g.monitorRoom + (rest.map fun v => v.category).sum ≤ 8) (hdg : decode cc g.pc = .ok (.invokestatic index, 3)) (hf : cells + mc ≤ R.cells ∧ slots + ms ≤ R.slots) :
    vx_Run p l e R s m args below meth c H locs cells slots mc ms g rest (Qc As.toArray) XC free := by
  obtain ⟨⟨hrc, hrs, hfr, hlo, hws, hcw⟩, hcode, hini, hy, hlen, hl, hstt⟩ := cw
  have hK : vx_Back l R p e below s args y 3 8 (PreOf R mc ms Pc) (PostOf Qc mc ms free) (vx_Post XC mc ms free) := vx_backW (hh := hh) (bytes := bytes) (maxL := maxL) (ret := ret) hM hp.1 hrc hrs hfr hlo hws hcw (fun a' U hW => word_at hW (Or.inl (by first | rfl | simp [Cond.onTables, Cond.keeps, Cond.steady])) hini)
  obtain ⟨hx, hb, hml, ho, -⟩ := S
  intro T hT X
  rcases vx_callSX X hx (hh := hh) (bytes := bytes) (maxL := maxL) (ret := ret) ho hl hstt hini hcode hy hK hg (hsize.trans hml.symm) (argsL := As) (rest := rest) (fun sig h => hn.trans (hlen sig h)) hstack hW (by rw [hb]; exact hdg)
    (fun vm₁ hW₁ => ⟨hf.1, hf.2, hp.2 (T.setVm vm₁) hT hW₁⟩) with ⟨v, vm₁, ⟨U', l2, c2, s2⟩, hW₁, X', ⟨g', mk, t, L, e1, e2, hq, h1, hL, h2, h3⟩, st⟩ | ⟨q, vm₁, ⟨U', l2, c2, s2⟩, hW₁, X', ⟨g', mk, t, L, E, ce, e1, e2, hq, hce, hcv, hcl, h1, hL, h2, h3⟩, st⟩
  · dsimp only [Pt.U, Pt.locs, Pt.cells, Pt.slots] at X' e1 e2 h1 h2 h3 st
    subst h1; subst h2; subst h3
    exact Or.inl ⟨v, (T.setVm vm₁).calling g' mk As.toArray, t, U', L, hT, X', hL, e1, e2, hq, st⟩
  · dsimp only [Pt.U, Pt.locs, Pt.cells, Pt.slots] at X' e1 e2 h1 h2 h3 st hcl
    subst h1; subst h2; subst h3
    exact Or.inr ⟨q, (T.setVm vm₁).calling g' mk As.toArray, t, U', L, E, ce, hT, X', hL, e1, e2, hq, hce, hcv, vx_cls hW₁ hcl, st⟩
end
end VXH
theorem vx_ofWH {l : Launch} {y : MethodName} {ws ws' : List Cond} {rm : Room} {Pc : Array Value → State → Prop} {Qc : Array Value → State → Outcome → State → Prop} {XC : String → State → State → Prop} {mc ms : Nat} {free : Addr → Prop} {cc : ByteArray} {maxL : Nat} {ret : Option FieldType} {hh : List (Nat × Nat × Nat × Nat)}
    (hy : plainName y.cls = true) (hw : ws = Cond.codeWith y cc maxL ret hh :: ws')
    (body : ∀ p e s m args below meth c s₁, BodyLoose p l y (headSpec ws rm) cc maxL ret e s m args below meth c s₁ → c.maxLocals = maxL → Pc args s →
      W p l e (headSpec ws rm).room s m args below meth c s.heap [] 0 0 (vx_MQ below Qc XC args s mc ms free) (entryFrame m args maxL)) : vx_Met l y ws rm Pc Qc XC mc ms free := by
  refine MetFree.of_bodyS (code := cc) (maxLocals := maxL) (ret := ret) hy ?_ ?_
  · intro args s m h hn
    obtain ⟨m9, meth, c, hn9, h1, h2, h3, h4, -, h5, h6, -⟩ := Cond.codeWith_spec (atoms_spec (ws := ws) h _ (by rw [hw]; exact List.mem_cons_self))
    cases hn.symm.trans hn9
    exact ⟨meth, c, h1, h2, h3, h4, h5, h6⟩
  · intro p e s m args below meth c s₁ B hml hP _
    have hh0 : s₁.heap = s.heap := by rw [B.state]; rfl
    obtain ⟨t, a1, o, b1, b2, b3⟩ := body p e s m args below meth c s₁ B hml hP s₁ hh0 (Stand.of_body B)
    exact ⟨t, o, a1, b1, b2, b3⟩
/-! ===== END ===== -/
/-! ===== BEGIN what the machine throws by itself, no traces kept ===== -/
section VXM
set_option maxHeartbeats 1000000 in
/-- the machine throws cls with the message text, no traces kept: from its note over the frame g to 'throwing' over the same frame (follows the proofs of Stand.vmThrowsMessage, Shelf/KitTracedVmS.lean, and Stand.throwsMessageColdBareV, StandMessageColdV.lean, without the step out of the frame) -/
theorem vx_vmAt {p : Program} {l : Launch} {e : Env} {R : Room} {s : State} {m₀ : MethodId} {args : Array Value} {below : List Frame} {meth : Method} {c : Code} {W : State} {locs : List Loc} {cells slots : Nat}
    (X : Stand p l e R s m₀ args below meth c W locs cells slots) (hexec : p.tables.exec = Jvm.exec) (htr : e.platform.stackTraces = false) {cls : String} {names : List String} {text : String}
    (hcls : Bundle.fit cls = true) (hnames : ∀ n ∈ names, Bundle.fit n = true) (hsoe : (cls == "java/lang/StackOverflowError") = false) (hoom : (cls == "java/lang/OutOfMemoryError") = false)
    (h : ∀ a ∈ Bundle.messageArmAtoms cls names, a.before args s = true)
    (hlocs : ∀ x ∈ locs, ∀ cell, s.heap[x.base]? = some cell → cell.vm.isStatics = false)
    (htext : (text == notModelled) = false) (hlimit : ¬ (stringBytes (stringToUtf16 text)).size > e.platform.arrayLengthLimit) (hheap : ¬ (stringBytes (stringToUtf16 text)).size * componentBytes .byte > e.platform.maxHeapBytes)
    {g : JFrame} (hg : g.method = m₀) (hsize : g.locals.size = c.maxLocals)
    (hRframes : names.length + 4 < R.frames) (hRlocals : 2 * g.monitorRoom + (g.stack.map fun v => v.category).sum + 10240 ≤ R.locals) (hshort : 13 * names.length + 55 ≤ 10240)
    (hRcells : cells + 3 ≤ R.cells) (hRslots : slots + ((stringBytes (stringToUtf16 text)).size + 4 + 6) ≤ R.slots) (hlocks : meth.locks = false) :
    ∃ (S : State) (q : Addr) (ce : Cell), (∀ target, Steps p.tables e below ((S.setTop g).pushFrame (.throwing q)) target → Steps p.tables e below ((W.setTop g).pushFrame (.throwNew cls (some text) none)) target) ∧
      Stand p l e R s m₀ args below meth c S locs (cells + 3) (slots + ((stringBytes (stringToUtf16 text)).size + 4 + 6)) ∧ S.heap[q]? = some ce ∧ s.vm.findClass cls = some ce.cls ∧ ce.vm = .none := by
  have howns : e.platform.frameOwnsMonitors = true := by rw [X.admits.platform]
  have hfin : e.platform.finalization = false := by rw [X.admits.platform]
  have hpl : e.platform.magicAccessors = ({} : Platform).magicAccessors := by rw [X.admits.platform]
  have a : ∀ x, x ∈ Bundle.messageArmAtoms cls names → x.holds args s none s [] = true := fun x hx => h x hx
  obtain ⟨T, Z0, L, -, Y⟩ := ThrowableC.of_atoms (args := args) howns hfin hpl (fun x hx => h x (by simp [Bundle.messageArmAtoms, hx]))
  obtain ⟨Z, M, LZ, LM, hnZ⟩ := Init0T.ofS_atoms (args := args) hpl L Y (fun x hx => h x (by simp [Bundle.messageArmAtoms, hx]))
  obtain ⟨P1, Ps, hlen, L1, hL, hP1m, hlink1, hlink⟩ := Bundle.chainS (args := args) hpl hnZ names cls hcls hnames (fun x hx => h x (by simp [Bundle.messageArmAtoms, hx]))
  obtain ⟨Zs, LZs, hn4, hfitv, hfitc⟩ := StringT.of_atoms (args := args) (fun x hx => h x (by simp [Bundle.messageArmAtoms, hx]))
  have hfound : s.vm.findClass cls = some P1.m.cls := findClass_of_methodNamed hP1m
  obtain ⟨c1, kX, hc1, hk, hord, -, -, hn6⟩ := Cond.instantiable_spec (a (.instantiable cls 6) (by simp [Bundle.messageArmAtoms]))
  cases Option.some.inj (hc1.symm.trans hfound)
  have hinit := Cond.initialized_spec hfound hk (a (.initialized cls) (by simp [Bundle.messageArmAtoms]))
  have hctor : kX.findMethod "<init>" "(Ljava/lang/String;)V" = some P1.m.idx := findMethod_of_methodNamed hP1m hk
  have hsel0 : selectMethod e.platform s.vm P1.m.cls T.fill0 = .method T.fill0 := by
    obtain ⟨c2, r2, m2, q1, q2, q3, q4, -⟩ := Cond.selects_spec (a (.selects cls Bundle.tFill0 Bundle.tFill0) (by simp [Bundle.messageArmAtoms]))
    cases Option.some.inj (q1.symm.trans hfound)
    cases Option.some.inj (q2.symm.trans (State.methodFound?_of_named Y.fill0 (by decide)))
    cases Option.some.inj (q3.symm.trans Y.fill0)
    rw [Launch.admits_selectMethod X.admits]; exact q4
  have hselF : selectMethod e.platform s.vm P1.m.cls T.fill = .method T.fill := by
    obtain ⟨c2, r2, m2, q1, q2, q3, q4, -⟩ := Cond.selects_spec (a (.selects cls Bundle.tFill Bundle.tFill) (by simp [Bundle.messageArmAtoms]))
    cases Option.some.inj (q1.symm.trans hfound)
    cases Option.some.inj (q2.symm.trans (State.methodFound?_of_named Y.fill (by decide)))
    cases Option.some.inj (q3.symm.trans Y.fill)
    rw [Launch.admits_selectMethod X.admits]; exact q4
  obtain ⟨cellS0, hcS0, hiss⟩ := Y.statics
  obtain ⟨u0, hu0⟩ := Cond.staticRefV Y.unassigned L.unassignedStatic L.statics hcS0 hiss (a (.isRef (.static Bundle.tN "UNASSIGNED_STACK" Bundle.steD)) (by simp [Bundle.messageArmAtoms]))
  obtain ⟨sen, hsen⟩ := Cond.staticRefV Y.sentinel L.sentinelStatic L.statics hcS0 hiss (a (.isRef (.static Bundle.tN "SUPPRESSED_SENTINEL" Bundle.listD)) (by simp [Bundle.messageArmAtoms]))
  obtain ⟨ci198, i198, fB, hk198, hg198, ha198, hsB, -, hnB, htB, hffB⟩ := Cond.ownField (t := .object "java/lang/Object") Y.found L.cls (by decide +kernel) (a (.fieldLink Bundle.tN 198 Bundle.tN "backtrace" "Ljava/lang/Object;") (by simp [Bundle.messageArmAtoms])) (a (.lays Bundle.tN Bundle.tN "backtrace" "Ljava/lang/Object;") (by simp [Bundle.messageArmAtoms])) e.platform hpl
  obtain ⟨cellS, hcS', heS, -, hkeep⟩ := X.same.2.2.2.2.2 T.aS cellS0 hcS0
  have hcellS : W.heap[T.aS]? = some cellS := hcS'
  have hout' : ∀ i, (⟨T.aS, i⟩ : Loc) ∉ locs := fun i hmem => by
    have := hlocs _ hmem cellS0 hcS0
    rw [hiss] at this; cases this
  have hknownS : cellS.vm ≠ .unknown := by
    rw [heS]; intro hu
    rw [show cellS0.vm = .unknown from hu] at hiss
    cases hiss
  have hvU : cellS.slots[T.fUnassigned.slot]? = some u0.v := by rw [hkeep _ (hout' _)]; exact hu0
  have hvSen : cellS.slots[T.fSentinel.slot]? = some sen.v := by rw [hkeep _ (hout' _)]; exact hsen
  obtain ⟨iM, hffM⟩ := Y.msg
  obtain ⟨tyC, dC, hdC, hdnC⟩ := Cond.laysAt hfound hk Y.cause (a (.lays cls Bundle.tN "cause" "Ljava/lang/Throwable;") (by simp [Bundle.messageArmAtoms]))
  obtain ⟨tyS, dS, hdS, hdnS⟩ := Cond.laysAt hfound hk Y.stack (a (.lays cls Bundle.tN "stackTrace" Bundle.steD) (by simp [Bundle.messageArmAtoms]))
  obtain ⟨tyP, dP, hdP, hdnP⟩ := Cond.laysAt hfound hk Y.supp (a (.lays cls Bundle.tN "suppressedExceptions" Bundle.listD) (by simp [Bundle.messageArmAtoms]))
  obtain ⟨tyM, dM, hdM, hdnM⟩ := Cond.laysAt hfound hk hffM (a (.lays cls Bundle.tN "detailMessage" "Ljava/lang/String;") (by simp [Bundle.messageArmAtoms]))
  obtain ⟨tyB, dB, hdB, hdnB⟩ := Cond.laysAt hfound hk hffB (a (.lays cls Bundle.tN "backtrace" "Ljava/lang/Object;") (by simp [Bundle.messageArmAtoms]))
  have bC := Cond.laysApart hdB hdC hdnB hdnC (by rw [hnB, Y.causeName]; decide)
  have bS := Cond.laysApart hdB hdS hdnB hdnS (by rw [hnB, Y.stackName]; decide)
  have bP := Cond.laysApart hdB hdP hdnB hdnP (by rw [hnB, Y.suppName]; decide)
  have hbk : ((preparedCellV T.toThrowableT (freshCell P1.m.cls kX) (W.heap.size + 2) u0 sen).withEntry W.cur).slots[fB.slot]? = some .null := by
    have := fresh_default (c := P1.m.cls) tyB
    rw [htB] at this
    simpa [preparedCellV, Cell.setSlot, Cell.withEntry, Array.getElem?_setIfInBounds, bC, bS, bP, bC.symm, bS.symm, bP.symm, defaultValue] using this
  have tkC := Takes.of_laid (v := .ref (W.heap.size + 2)) hk hord tyC (by rw [Y.causeType]; rfl)
  have tkS := Takes.of_laid (v := u0.v) hk hord tyS (by rw [Y.stackType]; exact fits_refV_array _ u0)
  have tkP := Takes.of_laid (v := sen.v) hk hord tyP (by rw [Y.suppType]; exact fits_refV_object _ sen)
  have tkM := Takes.of_laid (v := .ref (W.heap.size + 1)) hk hord tyM (by rw [Y.msgType]; rfl)
  have hskip : SkipFacts T e.platform s (fun u => u) u0 ((preparedCellV T.toThrowableT (freshCell P1.m.cls kX) (W.heap.size + 2) u0 sen).withEntry W.cur) := ⟨{ ci198 := ci198, i198 := i198, fBack := fB }, ⟨hk198, hg198, ha198, hsB⟩, hbk, fun _ _ => rfl⟩
  have h0 : At W g.method c below := by rw [hg]; exact X.here
  obtain ⟨hbeyond, hfreeW⟩ := X.vmMayThrow hsize (.throwNew cls (some text) none) (fun f hf => by cases hf) rfl hRlocals
  have hfr' : W.frames.length + Ps.length + 4 < (e.platform.stackLimits W.me).1 := by have := X.framesAbove hRframes; omega
  have hwd' : (stackUse (.java g :: W.frames.tail)).2 + 13 * Ps.length + 55 ≤ (e.platform.stackLimits W.me).2 := by have := X.stackAbove hsize (K := 13 * Ps.length + 55) (by omega); omega
  have hslots : W.slotsUsed + (stringBytes (stringToUtf16 text)).size + Zs.kS.instanceTypes.size + kX.instanceTypes.size ≤ e.platform.maxSlots := by
    have := X.slotsAbove hRslots
    rw [hn4, hn6]
    omega
  obtain ⟨vm', hW', st⟩ := Steps.vmThrowsMessageColdByV p (s₀ := s) (S := W) (g := g) h0 hexec T L Z LZ M LM X.warmed (t := W.cur) rfl Zs LZs P1 L1 Ps hL hlink1 hlink hsoe hoom hfound hk hinit hord hctor
    (Launch.admits_hotImplicitExceptions X.admits) hbeyond hfreeW htext hlimit hheap (X.cellsAbove hRcells) hslots (hfitv _) (hfitc _)
    (Nn := fun u => u) heapOnly_id (fun _ _ => rfl) (fun _ => rfl) (fun u x y => setCell_twice _ _ _ _) (fun _ => Nat.le_refl _) (cN := ((preparedCellV T.toThrowableT (freshCell P1.m.cls kX) (W.heap.size + 2) u0 sen).withEntry W.cur))
    hsel0 hcellS hknownS hvU tkS (fun _ hu => hu) (fun _ hu => hu) rfl rfl rfl (by simp [preparedCellV, Cell.setSlot, Cell.withEntry]) hskip (fun _ _ hA hW _ hroom _ hrest => L.nativeOff p htr hA hW hroom hrest) hselF hvSen tkC tkP tkM Y.objLocals rfl hfr' hwd'
  rw [plainBareV_eq T.toThrowableT (W.heap.size + 2) u0 sen (.ref (W.heap.size + 1)) W.cur rfl rfl] at st
  obtain ⟨-, -, w3, w4, -, -, -⟩ := withThrown_facts e.platform W Zs text P1.m.cls kX
  have X3 := ((X.pushed (bytesOf Zs.cB (stringToUtf16 text))).pushed (stringAt Zs.cS Zs.kS Zs.fv Zs.fc (stringToUtf16 text) W.heap.size)).pushed (freshCell P1.m.cls kX)
  rw [← withString_eq] at X3
  have X4 := X3.noted hW'
  have ha : (W.heap.size + 2) < ((withThrown W Zs text P1.m.cls kX).setVm vm').heap.size := by show _ < (withThrown W Zs text P1.m.cls kX).heap.size; rw [w3]; omega
  have hcell : ((withThrown W Zs text P1.m.cls kX).setVm vm').heap[(W.heap.size + 2)]? = some (freshCell P1.m.cls kX) := w4
  have X5 := ((((X4.stored hcell T.fCause.slot (.ref (W.heap.size + 2))).storedAgain ha T.fStack.slot u0.v).storedAgain ha T.fSupp.slot sen.v).storedAgain ha T.fStack.slot u0.v).storedAgain ha T.fMsg.slot (.ref (W.heap.size + 1))
  obtain ⟨g₁, hfrM⟩ := X5.frames_eq
  have hU : ((((withThrown W Zs text P1.m.cls kX).setVm vm').setCell (W.heap.size + 2) (plainBareV T.toThrowableT (freshCell P1.m.cls kX) (W.heap.size + 2) u0 sen (.ref (W.heap.size + 1)))).setTop g).pushFrame (.throwing (W.heap.size + 2)) = (((withThrown W Zs text P1.m.cls kX).setVm vm').setCell (W.heap.size + 2) (plainBareV T.toThrowableT (freshCell P1.m.cls kX) (W.heap.size + 2) u0 sen (.ref (W.heap.size + 1)))).setFrames (.throwing (W.heap.size + 2) :: .java g :: below) := by
    rw [State.pushFrame, State.frames_setTop _ hfrM, State.setTop_of_frames _ hfrM, State.setFrames_setFrames]
  have b1 : (bytesOf Zs.cB (stringToUtf16 text)).slots.size = (stringBytes (stringToUtf16 text)).size := by
    rw [(Cell.writeAll_facts _ _).2.2]; simp [bytes0]
  have b2 : (stringAt Zs.cS Zs.kS Zs.fv Zs.fc (stringToUtf16 text) W.heap.size).slots.size = 4 := by simp [string0, Cell.setSlot, hn4]
  have b3 : (freshCell P1.m.cls kX).slots.size = 6 := by simp [hn6]
  rw [b1, b2, b3] at X5
  have e9 : slots + (stringBytes (stringToUtf16 text)).size + 4 + 6 = slots + ((stringBytes (stringToUtf16 text)).size + 4 + 6) := by omega
  rw [e9] at X5
  simp only [List.append_assoc, List.cons_append, List.nil_append] at X5
  refine ⟨((withThrown W Zs text P1.m.cls kX).setVm vm').setCell (W.heap.size + 2) (plainBareV T.toThrowableT (freshCell P1.m.cls kX) (W.heap.size + 2) u0 sen (.ref (W.heap.size + 1))), W.heap.size + 2, _, fun target ht => st _ (by rw [X.tail, ← hU]; exact ht),
    X5.forget (fun y hy => ?_), heapAt_setCell_self _ ha, hfound, rfl⟩
  simp only [List.mem_cons, List.not_mem_nil, or_false] at hy
  have hge : s.heap.size ≤ W.heap.size := X.same.2.1
  rcases hy with rfl | rfl | rfl | rfl | rfl <;> exact Nat.le_trans hge (Nat.le_add_right _ 2)
set_option maxHeartbeats 1000000 in
/-- the machine throws NullPointerException, no traces kept: from its note over the frame g to 'throwing' over the same frame (follows the proof of Stand.vmThrowsNpe, Shelf42/KT2.lean; throwsNpeColdBareVAt, Shelf42/NT91.lean, called) -/
theorem vx_npeAt {p : Program} {l : Launch} {e : Env} {R : Room} {s : State} {m₀ : MethodId} {args : Array Value} {below : List Frame} {meth : Method} {c : Code} {W : State} {locs : List Loc} {cells slots : Nat}
    (X : Stand p l e R s m₀ args below meth c W locs cells slots) (hexec : p.tables.exec = Jvm.exec) (htr : e.platform.stackTraces = false) {n : Nat}
    (h : ∀ a ∈ Bundle.npeArmAtoms n, a.before args s = true)
    (hlocs : ∀ x ∈ locs, ∀ cell, s.heap[x.base]? = some cell → cell.vm.isStatics = false)
    {g : JFrame} (hg : g.method = m₀) (hsize : g.locals.size = c.maxLocals)
    (hRframes : 7 < R.frames) (hRlocals : 2 * g.monitorRoom + (g.stack.map fun v => v.category).sum + 10240 ≤ R.locals)
    (hRcells : cells + 1 ≤ R.cells) (hRslots : slots + n ≤ R.slots) (hlocks : meth.locks = false) :
    ∃ (S : State) (q : Addr) (ce : Cell), (∀ target, Steps p.tables e below ((S.setTop g).pushFrame (.throwing q)) target → Steps p.tables e below ((W.setTop g).pushFrame (.throwNew "java/lang/NullPointerException" none none)) target) ∧
      Stand p l e R s m₀ args below meth c S locs (cells + 1) (slots + n) ∧ S.heap[q]? = some ce ∧ s.vm.findClass "java/lang/NullPointerException" = some ce.cls ∧ ce.vm = .none := by
  have howns : e.platform.frameOwnsMonitors = true := by rw [X.admits.platform]
  have hfin : e.platform.finalization = false := by rw [X.admits.platform]
  have hpl : e.platform.magicAccessors = ({} : Platform).magicAccessors := by rw [X.admits.platform]
  have hpl2 : e.platform.arrayCloneIsPublic = true := by rw [X.admits.platform]
  have a' : ∀ x, x ∈ Bundle.npeArmAtoms n → x.holds args s none s [] = true := fun x hx => h x hx
  obtain ⟨T, Z, L, LZ, Y⟩ := ThrowableC.of_atoms (args := args) howns hfin hpl (fun x hx => h x (by simp [Bundle.npeArmAtoms, hx]))
  obtain ⟨N, LN, hcN, hnNF, hordN, hffS⟩ := NpeC.of_atoms (args := args) hpl hpl2 L Y (fun x hx => h x (by simp [Bundle.npeArmAtoms, hx]))
  obtain ⟨P1, L1, hP1m, hP1s⟩ := PassC.of_atoms (args := args) (s := s) hpl (X := Bundle.nN) (Y := Bundle.rN) (by decide) (by decide) LibCode.NullPointerException.Init0.at_0 LibCode.NullPointerException.Init0.at_1 LibCode.NullPointerException.Init0.at_4 (fun x hx => h x (by simp [Bundle.npeArmAtoms, hx]))
  obtain ⟨PR, LR, hPRm, hPRs⟩ := PassC.of_atoms (args := args) (s := s) hpl (X := Bundle.rN) (Y := Bundle.eN) (by decide) (by decide) LibCode.RuntimeException.Init0.at_0 LibCode.RuntimeException.Init0.at_1 LibCode.RuntimeException.Init0.at_4 (fun x hx => h x (by simp [Bundle.npeArmAtoms, hx]))
  obtain ⟨PE, LEx, hPEm, hPEs⟩ := PassC.of_atoms (args := args) (s := s) hpl (X := Bundle.eN) (Y := Bundle.tN) (by decide) (by decide) LibCode.Exception.Init0.at_0 LibCode.Exception.Init0.at_1 LibCode.Exception.Init0.at_4 (fun x hx => h x (by simp [Bundle.npeArmAtoms, hx]))
  have hfound : s.vm.findClass Bundle.nN = some P1.m.cls := findClass_of_methodNamed hP1m
  have ecls : N.cN = P1.m.cls := Option.some.inj (hcN.symm.trans hfound)
  have hk : s.vm.classes[P1.m.cls]? = some N.kN := by rw [← ecls]; exact LN.cls
  have hinit := Cond.initialized_spec hfound hk (a' (.initialized Bundle.nN) (by simp [Bundle.npeArmAtoms]))
  have hctor : N.kN.findMethod "<init>" "()V" = some P1.m.idx := findMethod_of_methodNamed hP1m hk
  obtain ⟨c1, k1, hc1, hk1, -, -, -, hn⟩ := Cond.instantiable_spec (a' (.instantiable Bundle.nN n) (by simp [Bundle.npeArmAtoms]))
  cases Option.some.inj (hc1.symm.trans hfound)
  cases Option.some.inj (hk1.symm.trans hk)
  have hfsz : (freshCell P1.m.cls N.kN).slots.size = n := by simp [hn]
  have hlink1 : P1.sup = PR.m := Option.some.inj (hP1s.symm.trans hPRm)
  have hlinkR : PR.sup = PE.m := Option.some.inj (hPRs.symm.trans hPEm)
  have hlinkE : PE.sup = Z.m T.toThrowableT := Option.some.inj (hPEs.symm.trans Y.init0)
  have hLs : ∀ P, P ∈ [PR, PE] → P.Links0 e.platform s := fun P hP => by
    simp only [List.mem_cons, List.not_mem_nil, or_false] at hP
    rcases hP with rfl | rfl
    · exact LR
    · exact LEx
  have hsel0 : selectMethod e.platform s.vm P1.m.cls T.fill0 = .method T.fill0 := by
    obtain ⟨c2, r2, m2, q1, q2, q3, q4, -⟩ := Cond.selects_spec (a' (.selects Bundle.nN Bundle.tFill0 Bundle.tFill0) (by simp [Bundle.npeArmAtoms]))
    cases Option.some.inj (q1.symm.trans hfound)
    cases Option.some.inj (q2.symm.trans (State.methodFound?_of_named Y.fill0 (by decide)))
    cases Option.some.inj (q3.symm.trans Y.fill0)
    rw [Launch.admits_selectMethod X.admits]; exact q4
  have hselF : selectMethod e.platform s.vm P1.m.cls T.fill = .method N.fill := by
    obtain ⟨c2, r2, m2, q1, q2, q3, q4, -⟩ := Cond.selects_spec (a' (.selects Bundle.nN Bundle.tFill Bundle.nFill) (by simp [Bundle.npeArmAtoms]))
    cases Option.some.inj (q1.symm.trans hfound)
    cases Option.some.inj (q2.symm.trans (State.methodFound?_of_named Y.fill (by decide)))
    cases Option.some.inj (q3.symm.trans hnNF)
    rw [Launch.admits_selectMethod X.admits]; exact q4
  obtain ⟨cellS0, hcS0, hiss⟩ := Y.statics
  obtain ⟨u0, hu0⟩ := Cond.staticRefV Y.unassigned L.unassignedStatic L.statics hcS0 hiss (a' (.isRef (.static Bundle.tN "UNASSIGNED_STACK" Bundle.steD)) (by simp [Bundle.npeArmAtoms]))
  obtain ⟨sen, hsen⟩ := Cond.staticRefV Y.sentinel L.sentinelStatic L.statics hcS0 hiss (a' (.isRef (.static Bundle.tN "SUPPRESSED_SENTINEL" Bundle.listD)) (by simp [Bundle.npeArmAtoms]))
  obtain ⟨ci198, i198, fB, hk198, hg198, ha198, hsB, -, hnB, htB, hffB⟩ := Cond.ownField (t := .object "java/lang/Object") Y.found L.cls (by decide +kernel) (a' (.fieldLink Bundle.tN 198 Bundle.tN "backtrace" Bundle.objD) (by simp [Bundle.npeArmAtoms])) (a' (.lays Bundle.tN Bundle.tN "backtrace" Bundle.objD) (by simp [Bundle.npeArmAtoms])) e.platform hpl
  obtain ⟨cellS, hcS', heS, -, hkeep⟩ := X.same.2.2.2.2.2 T.aS cellS0 hcS0
  have hcellS : W.heap[T.aS]? = some cellS := hcS'
  have hout' : ∀ i, (⟨T.aS, i⟩ : Loc) ∉ locs := fun i hmem => by
    have := hlocs _ hmem cellS0 hcS0
    rw [hiss] at this; cases this
  have hknownS : cellS.vm ≠ .unknown := by
    rw [heS]; intro hu
    rw [show cellS0.vm = .unknown from hu] at hiss
    cases hiss
  have hvU : cellS.slots[T.fUnassigned.slot]? = some u0.v := by rw [hkeep _ (hout' _)]; exact hu0
  have hvSen : cellS.slots[T.fSentinel.slot]? = some sen.v := by rw [hkeep _ (hout' _)]; exact hsen
  obtain ⟨tyC, dC, hdC, hdnC⟩ := Cond.laysAt hfound hk Y.cause (a' (.lays Bundle.nN Bundle.tN "cause" "Ljava/lang/Throwable;") (by simp [Bundle.npeArmAtoms]))
  obtain ⟨tyS, dS, hdS, hdnS⟩ := Cond.laysAt hfound hk Y.stack (a' (.lays Bundle.nN Bundle.tN "stackTrace" Bundle.steD) (by simp [Bundle.npeArmAtoms]))
  obtain ⟨tyP, dP, hdP, hdnP⟩ := Cond.laysAt hfound hk Y.supp (a' (.lays Bundle.nN Bundle.tN "suppressedExceptions" Bundle.listD) (by simp [Bundle.npeArmAtoms]))
  obtain ⟨tyX, dX, hdX, hdnX⟩ := Cond.laysAt hfound hk hffS (a' (.lays Bundle.nN Bundle.nN "extendedMessageState" "I") (by simp [Bundle.npeArmAtoms, Bundle.npeAtoms]))
  obtain ⟨hnX, htX⟩ := State.fieldFound?_type hffS (t := .int) (by decide +kernel)
  have xC := Cond.laysApart hdC hdX hdnC hdnX (by rw [hnX, Y.causeName]; decide)
  have xS := Cond.laysApart hdS hdX hdnS hdnX (by rw [hnX, Y.stackName]; decide)
  have xP := Cond.laysApart hdP hdX hdnP hdnX (by rw [hnX, Y.suppName]; decide)
  have hv0 : (freshCell P1.m.cls N.kN).slots[N.fState.slot]? = some (.int 0) := by
    have := fresh_default (c := P1.m.cls) tyX
    rw [htX] at this; exact this
  obtain ⟨tyB, dB, hdB, hdnB⟩ := Cond.laysAt hfound hk hffB (a' (.lays Bundle.nN Bundle.tN "backtrace" Bundle.objD) (by simp [Bundle.npeArmAtoms]))
  have bC := Cond.laysApart hdB hdC hdnB hdnC (by rw [hnB, Y.causeName]; decide)
  have bS := Cond.laysApart hdB hdS hdnB hdnS (by rw [hnB, Y.stackName]; decide)
  have bP := Cond.laysApart hdB hdP hdnB hdnP (by rw [hnB, Y.suppName]; decide)
  have bX := Cond.laysApart hdB hdX hdnB hdnX (by rw [hnB, hnX]; decide)
  have hbk : ((npeCell N.toNpeT (preparedCellV T.toThrowableT (freshCell P1.m.cls N.kN) W.heap.size u0 sen) W.cur).withEntry W.cur).slots[fB.slot]? = some .null := by
    have := fresh_default (c := P1.m.cls) tyB
    rw [htB] at this
    simpa [npeCell, preparedCellV, Cell.setSlot, Cell.withEntry, Array.getElem?_setIfInBounds, bC, bS, bP, bX, bC.symm, bS.symm, bP.symm, bX.symm, defaultValue] using this
  have tkC := Takes.of_laid (v := .ref W.heap.size) hk hordN tyC (by rw [Y.causeType]; rfl)
  have tkS := Takes.of_laid (v := u0.v) hk hordN tyS (by rw [Y.stackType]; exact fits_refV_array _ u0)
  have tkP := Takes.of_laid (v := sen.v) hk hordN tyP (by rw [Y.suppType]; exact fits_refV_object _ sen)
  have tkX := Takes.of_laid (v := .int 1) hk hordN tyX (by rw [htX]; rfl)
  have hskip : SkipFacts T e.platform s (fun u => u) u0 ((npeCell N.toNpeT (preparedCellV T.toThrowableT (freshCell P1.m.cls N.kN) W.heap.size u0 sen) W.cur).withEntry W.cur) := ⟨{ ci198 := ci198, i198 := i198, fBack := fB }, ⟨hk198, hg198, ha198, hsB⟩, hbk, fun _ _ => rfl⟩
  obtain ⟨vm', X3, st, -⟩ := X.throwsNpeColdBareVAt hexec hg hsize T L Z LZ N LN P1 L1 [PR, PE] hLs hlink1 ⟨hlinkR, hlinkE, trivial⟩ hfound hk hinit hordN hctor hsel0 hselF hcellS hknownS hvU hvSen
    hv0 xC xS xP tkC tkS tkP tkX Y.objLocals hskip (fun _ _ hA hW _ hroom _ hrest => L.nativeOff p htr hA hW hroom hrest) (by simpa using hRframes) hRlocals (by simp) hRcells (by rw [hn]; exact hRslots)
  have hlt : W.heap.size < ((W.pushCell (freshCell P1.m.cls N.kN)).setVm vm').heap.size := by
    show W.heap.size < (W.pushCell (freshCell P1.m.cls N.kN)).heap.size
    rw [State.heap_size_pushCell]; omega
  rw [hfsz] at X3
  obtain ⟨g₁, hfrM⟩ := X3.frames_eq
  have hU : ((((W.pushCell (freshCell P1.m.cls N.kN)).setVm vm').setCell W.heap.size (npeBareV T.toThrowableT N.toNpeT (freshCell P1.m.cls N.kN) W.heap.size u0 sen)).setTop g).pushFrame (.throwing W.heap.size) = (((W.pushCell (freshCell P1.m.cls N.kN)).setVm vm').setCell W.heap.size (npeBareV T.toThrowableT N.toNpeT (freshCell P1.m.cls N.kN) W.heap.size u0 sen)).setFrames (.throwing W.heap.size :: .java g :: below) := by
    rw [State.pushFrame, State.frames_setTop _ hfrM, State.setTop_of_frames _ hfrM, State.setFrames_setFrames]
  refine ⟨_, W.heap.size, _, fun target ht => st.trans (by rw [← hU]; exact ht), X3.forget (fun y hy => ?_), heapAt_setCell_self _ hlt, hfound, rfl⟩
  simp only [List.mem_cons, List.not_mem_nil, or_false] at hy
  have hge : s.heap.size ≤ W.heap.size := X.same.2.1
  rcases hy with rfl | rfl | rfl | rfl | rfl <;> exact hge
/-- the words of a machine's NullPointerException, but the four that speak of the heap -/
def vx_atN (n : Nat) : List Cond := (Bundle.npeArmAtoms n).filter vx_no
/-- the words of a machine's throw with a message, but the four that speak of the heap -/
def vx_atM (X : String) (names : List String) : List Cond := (Bundle.messageArmAtoms X names).filter vx_no
section
variable {p : Program} {l : Launch} {e : Env} {R : Room} {s : State} {m : MethodId} {args : Array Value} {below : List Frame} {meth : Method} {c : Code} {H : Heap} {locs : List Loc} {cells slots : Nat}
/-- a frame seen from a rebased start, seen from the first start again -/
theorem vx_back9 {T S : State} {R' : Room} {k n : Nat} (X : Stand p l e R s m args below meth c T locs cells slots) (Y : Stand p l e R' ((T.setVm s.vm).setFrames (.invoking m args :: below)) m args below meth c T [] 0 0) (Z : Stand p l e R' ((T.setVm s.vm).setFrames (.invoking m args :: below)) m args below meth c S [] k n) :
    Stand p l e R s m args below meth c S locs (cells + k) (slots + n) := by
  have hW0 : s.WarmedH ((T.setVm s.vm).setFrames (.invoking m args :: below)).vm := State.WarmedH.refl s
  refine { admits := X.admits, cas := X.cas, clock := X.clock, frames := X.frames, room := X.room, hears := X.hears, method := X.method, code := X.code, here := Z.here, tail := Z.tail, warmed := State.WarmedH.trans hW0 Z.warmed, limits := Z.limits.trans (Y.limits.symm.trans X.limits), bytes := Z.bytes.trans (Y.bytes.symm.trans X.bytes), same := ?_ }
  obtain ⟨e1, e2⟩ := Z.same
  rw [State.setFrames_setFrames] at e1
  have h2 : (T.setVm s.vm).sameButNew (S.setVm s.vm) [] k n := ⟨e1, e2⟩
  have h3 := X.same.trans h2
  rw [List.append_nil] at h3
  exact h3
/-- from the machine's note that E is thrown here with this text -/
def vx_Note (p : Program) (l : Launch) (e : Env) (R : Room) (s : State) (m : MethodId) (args : Array Value) (below : List Frame) (meth : Method) (c : Code) (H : Heap) (locs : List Loc) (cells slots : Nat) (Q : State → Prop) (g : JFrame) (E text : String) : Prop :=
  ∀ T : State, T.heap = H → Stand p l e R s m args below meth c T locs cells slots → ∃ t, Steps p.tables e below ((T.setTop g).pushFrame (.throwNew E (some text) none)) t ∧ Q t
theorem vx_vm {pc : Nat} {ls : Array Slot} {rest : List Value} {Q : State → Prop} (hexec : p.tables.exec = Jvm.exec) (hl : l.stackTraces = false) {cls text : String} {names : List String} {nb : Nat} {A : Nat → Prop}
    (hcls : Bundle.fit cls = true) (hnames : ∀ n ∈ names, Bundle.fit n = true) (hsoe : (cls == "java/lang/StackOverflowError") = false) (hoom : (cls == "java/lang/OutOfMemoryError") = false)
    (hat : ∀ w ∈ vx_atM cls names, w.before args s = true) (hgood : ∀ w ∈ vx_atM cls names, vx_ot w = true)
    (hU : vx_Zq Bundle.tN "UNASSIGNED_STACK" Bundle.steD A s s.heap) (hN : vx_Zq Bundle.tN "SUPPRESSED_SENTINEL" Bundle.listD A s s.heap) (hS : va_S A s.heap H locs) (hsize : ls.size = c.maxLocals)
    (htext : (text == notModelled) = false) (hnb : (stringBytes (stringToUtf16 text)).size ≤ nb) (hnb1 : nb ≤ 1000)
    (hRframes : names.length + 4 < R.frames) (hRlocals : (rest.map fun v => v.category).sum + 10240 ≤ R.locals) (hshort : 13 * names.length + 55 ≤ 10240) (hRcells : cells + 3 ≤ R.cells) (hRslots : slots + (nb + 10) ≤ R.slots) (hlocks : meth.locks = false)
    (k : ∀ (H1 : Heap) (q9 : Addr) (ce : Cell), H.size ≤ H1.size → (∀ q : Nat, q < H.size → H1[q]? = H[q]?) → va_S A s.heap H1 locs → H1[q9]? = some ce → ce.vm = .none → s.vm.findClass cls = some ce.cls → vx_W p l e R s m args below meth c H1 locs (cells + 3) (slots + (nb + 10)) Q (F0 m pc ls rest) q9) :
    vx_Note p l e R s m args below meth c H locs cells slots Q (F0 m pc ls rest) cls text := by
  intro T hT X
  have htr : e.platform.stackTraces = false := (show e.platform.stackTraces = l.stackTraces by rw [X.admits.platform]).trans hl
  have Y := vx_rebase X (R' := { frames := R.frames, locals := R.locals, cells := 3, slots := nb + 10 }) (Nat.le_refl _) (Nat.le_refl _) hRcells hRslots
  have hhp : ((T.setVm s.vm).setFrames (.invoking m args :: below)).heap = H := hT
  have hW0 : s.WarmedH ((T.setVm s.vm).setFrames (.invoking m args :: below)).vm := State.WarmedH.refl s
  have hat' : ∀ w ∈ vx_atM cls names, w.before args ((T.setVm s.vm).setFrames (.invoking m args :: below)) = true := fun w hw => vx_ot_at hW0 rfl (hgood w hw) (hat w hw)
  have hU' : vx_Zq Bundle.tN "UNASSIGNED_STACK" Bundle.steD A ((T.setVm s.vm).setFrames (.invoking m args :: below)) ((T.setVm s.vm).setFrames (.invoking m args :: below)).heap := by rw [hhp]; exact vx_Zq.moved hW0.alike (hU.kept hS.2.1)
  have hN' : vx_Zq Bundle.tN "SUPPRESSED_SENTINEL" Bundle.listD A ((T.setVm s.vm).setFrames (.invoking m args :: below)) ((T.setVm s.vm).setFrames (.invoking m args :: below)).heap := by rw [hhp]; exact vx_Zq.moved hW0.alike (hN.kept hS.2.1)
  obtain ⟨S, q, ce, st, Z, hce, hcl', hv⟩ := vx_vmAt Y hexec htr (cls := cls) (names := names) (text := text) hcls hnames hsoe hoom (vx_own hat' (vx_isRefq hU'.1) (vx_isRefq hN'.1) hU'.2.word hN'.2.word) (fun x hx => nomatch hx) htext
    (by rw [Launch.admits_arrayLengthLimit X.admits]; omega) (by rw [Launch.admits_maxHeapBytes X.admits]; simp only [componentBytes]; omega)
    (g := F0 m pc ls rest) rfl hsize hRframes (by show 2 * 0 + (rest.map fun v => v.category).sum + 10240 ≤ R.locals; omega) hshort (by show 0 + 3 ≤ 3; omega) (by show 0 + (_ + 4 + 6) ≤ nb + 10; omega) hlocks
  obtain ⟨f1, f2⟩ := vx_frame Z.same
  have f1' : H.size ≤ S.heap.size := by rw [← hT]; exact f1
  have f2' : ∀ q : Nat, q < H.size → S.heap[q]? = H[q]? := fun q hq => by
    rw [← hT]
    exact f2 q (by rw [← hT] at hq; exact hq) (fun z hz => nomatch hz)
  have X5 := vx_back9 X Y Z
  have X6 : Stand p l e R s m args below meth c S locs (cells + 3) (slots + (nb + 10)) := { X5 with same := X5.same.mono (by omega) (by omega) }
  obtain ⟨t, a1, b1⟩ := k S.heap q ce f1' f2' ⟨Nat.le_trans hS.1 f1', fun q h1 h2 => (f2' q (Nat.lt_of_lt_of_le h1 hS.1)).trans (hS.2.1 q h1 h2), hS.2.2⟩ hce hv hcl' S rfl X6
  exact ⟨t, st t a1, b1⟩
/-- from the machine's note that NullPointerException is thrown here -/
def vx_NoteN (p : Program) (l : Launch) (e : Env) (R : Room) (s : State) (m : MethodId) (args : Array Value) (below : List Frame) (meth : Method) (c : Code) (H : Heap) (locs : List Loc) (cells slots : Nat) (Q : State → Prop) (g : JFrame) : Prop :=
  ∀ T : State, T.heap = H → Stand p l e R s m args below meth c T locs cells slots → ∃ t, Steps p.tables e below ((T.setTop g).pushFrame (.throwNew "java/lang/NullPointerException" none none)) t ∧ Q t
theorem vx_npe {pc : Nat} {ls : Array Slot} {rest : List Value} {Q : State → Prop} (hexec : p.tables.exec = Jvm.exec) (hl : l.stackTraces = false) {nb : Nat} {A : Nat → Prop}
    (hat : ∀ w ∈ vx_atN nb, w.before args s = true) (hgood : ∀ w ∈ vx_atN nb, vx_ot w = true)
    (hU : vx_Zq Bundle.tN "UNASSIGNED_STACK" Bundle.steD A s s.heap) (hN : vx_Zq Bundle.tN "SUPPRESSED_SENTINEL" Bundle.listD A s s.heap) (hS : va_S A s.heap H locs) (hsize : ls.size = c.maxLocals)
    (hRframes : 7 < R.frames) (hRlocals : (rest.map fun v => v.category).sum + 10240 ≤ R.locals) (hRcells : cells + 1 ≤ R.cells) (hRslots : slots + nb ≤ R.slots) (hlocks : meth.locks = false)
    (k : ∀ (H1 : Heap) (q9 : Addr) (ce : Cell), H.size ≤ H1.size → (∀ q : Nat, q < H.size → H1[q]? = H[q]?) → va_S A s.heap H1 locs → H1[q9]? = some ce → ce.vm = .none → s.vm.findClass "java/lang/NullPointerException" = some ce.cls → vx_W p l e R s m args below meth c H1 locs (cells + 1) (slots + nb) Q (F0 m pc ls rest) q9) :
    vx_NoteN p l e R s m args below meth c H locs cells slots Q (F0 m pc ls rest) := by
  intro T hT X
  have htr : e.platform.stackTraces = false := (show e.platform.stackTraces = l.stackTraces by rw [X.admits.platform]).trans hl
  have Y := vx_rebase X (R' := { frames := R.frames, locals := R.locals, cells := 1, slots := nb }) (Nat.le_refl _) (Nat.le_refl _) hRcells hRslots
  have hhp : ((T.setVm s.vm).setFrames (.invoking m args :: below)).heap = H := hT
  have hW0 : s.WarmedH ((T.setVm s.vm).setFrames (.invoking m args :: below)).vm := State.WarmedH.refl s
  have hat' : ∀ w ∈ vx_atN nb, w.before args ((T.setVm s.vm).setFrames (.invoking m args :: below)) = true := fun w hw => vx_ot_at hW0 rfl (hgood w hw) (hat w hw)
  have hU' : vx_Zq Bundle.tN "UNASSIGNED_STACK" Bundle.steD A ((T.setVm s.vm).setFrames (.invoking m args :: below)) ((T.setVm s.vm).setFrames (.invoking m args :: below)).heap := by rw [hhp]; exact vx_Zq.moved hW0.alike (hU.kept hS.2.1)
  have hN' : vx_Zq Bundle.tN "SUPPRESSED_SENTINEL" Bundle.listD A ((T.setVm s.vm).setFrames (.invoking m args :: below)) ((T.setVm s.vm).setFrames (.invoking m args :: below)).heap := by rw [hhp]; exact vx_Zq.moved hW0.alike (hN.kept hS.2.1)
  obtain ⟨S, q, ce, st, Z, hce, hcl', hv⟩ := vx_npeAt Y hexec htr (n := nb) (vx_own hat' (vx_isRefq hU'.1) (vx_isRefq hN'.1) hU'.2.word hN'.2.word) (fun x hx => nomatch hx)
    (g := F0 m pc ls rest) rfl hsize hRframes (by show 2 * 0 + (rest.map fun v => v.category).sum + 10240 ≤ R.locals; omega) (by show 0 + 1 ≤ 1; omega) (by show 0 + nb ≤ nb; omega) hlocks
  obtain ⟨f1, f2⟩ := vx_frame Z.same
  have f1' : H.size ≤ S.heap.size := by rw [← hT]; exact f1
  have f2' : ∀ q : Nat, q < H.size → S.heap[q]? = H[q]? := fun q hq => by
    rw [← hT]
    exact f2 q (by rw [← hT] at hq; exact hq) (fun z hz => nomatch hz)
  have X5 := vx_back9 X Y Z
  have X6 : Stand p l e R s m args below meth c S locs (cells + 1) (slots + nb) := { X5 with same := X5.same.mono (by omega) (by omega) }
  obtain ⟨t, a1, b1⟩ := k S.heap q ce f1' f2' ⟨Nat.le_trans hS.1 f1', fun q h1 h2 => (f2' q (Nat.lt_of_lt_of_le h1 hS.1)).trans (hS.2.1 q h1 h2), hS.2.2⟩ hce hv hcl' S rfl X6
  exact ⟨t, st t a1, b1⟩
variable {Q : State → Prop} {cc : ByteArray} {pc : Nat} {ls : Array Slot} {rest : List Value}
theorem vx_idivZ (hexec : p.tables.exec = Jvm.exec) (hb : c.code = cc) {a b : Int32} (h0 : b = 0) (d : decode cc pc = .ok (.idiv, 1)) (k : vx_Note p l e R s m args below meth c H locs cells slots Q (F0 m pc ls rest) "java/lang/ArithmeticException" "/ by zero") :
    W p l e R s m args below meth c H locs cells slots Q (F0 m pc ls (.int b :: .int a :: rest)) := by
  intro T hT X
  obtain ⟨t, st, q⟩ := k T hT X
  exact ⟨t, X.idivZero hexec (g := F0 m pc ls (.int b :: .int a :: rest)) rfl (a := a) (rest := rest) (by rw [h0]) (by rw [hb]; exact d) t st, q⟩
theorem vx_iremZ (hexec : p.tables.exec = Jvm.exec) (hb : c.code = cc) {a b : Int32} (h0 : b = 0) (d : decode cc pc = .ok (.irem, 1)) (k : vx_Note p l e R s m args below meth c H locs cells slots Q (F0 m pc ls rest) "java/lang/ArithmeticException" "/ by zero") :
    W p l e R s m args below meth c H locs cells slots Q (F0 m pc ls (.int b :: .int a :: rest)) := by
  intro T hT X
  obtain ⟨t, st, q⟩ := k T hT X
  exact ⟨t, X.iremZero hexec (g := F0 m pc ls (.int b :: .int a :: rest)) rfl (a := a) (rest := rest) (by rw [h0]) (by rw [hb]; exact d) t st, q⟩
theorem vx_ldivZ (hexec : p.tables.exec = Jvm.exec) (hb : c.code = cc) {a b : Int64} (h0 : b = 0) (d : decode cc pc = .ok (.ldiv, 1)) (k : vx_Note p l e R s m args below meth c H locs cells slots Q (F0 m pc ls rest) "java/lang/ArithmeticException" "/ by zero") :
    W p l e R s m args below meth c H locs cells slots Q (F0 m pc ls (.long b :: .long a :: rest)) := by
  intro T hT X
  obtain ⟨t, st, q⟩ := k T hT X
  exact ⟨t, X.ldivZero hexec (g := F0 m pc ls (.long b :: .long a :: rest)) rfl (a := a) (rest := rest) (by rw [h0]) (by rw [hb]; exact d) t st, q⟩
theorem vx_lremZ (hexec : p.tables.exec = Jvm.exec) (hb : c.code = cc) {a b : Int64} (h0 : b = 0) (d : decode cc pc = .ok (.lrem, 1)) (k : vx_Note p l e R s m args below meth c H locs cells slots Q (F0 m pc ls rest) "java/lang/ArithmeticException" "/ by zero") :
    W p l e R s m args below meth c H locs cells slots Q (F0 m pc ls (.long b :: .long a :: rest)) := by
  intro T hT X
  obtain ⟨t, st, q⟩ := k T hT X
  exact ⟨t, X.lremZero hexec (g := F0 m pc ls (.long b :: .long a :: rest)) rfl (a := a) (rest := rest) (by rw [h0]) (by rw [hb]; exact d) t st, q⟩
theorem vx_ialdZ {D : va_G} {cl : List vw_C} {ws : va_W} {tys : List (ClassId × FieldType)} {a : Nat} (hexec : p.tables.exec = Jvm.exec) (hb : c.code = cc) (hK : va_K D cl tys s) (hP : va_P D cl ws H) (q0 t0 : Nat) {cA : ClassId} {n : Nat} {f : Nat → Int32} (ha : ws[q0]? = some (a, .inl (cA, n, .inl f))) (ht : tys[t0]? = some (cA, .int)) {i : Int32} (hout : ¬ vp_in i n) (hdg : decode cc pc = .ok (.iaload, 1))
    (k : ∀ tx : String, tx = (toString "Index " ++ toString i ++ toString " out of bounds for length " ++ toString n : String) → vx_Note p l e R s m args below meth c H locs cells slots Q (F0 m pc ls rest) "java/lang/ArrayIndexOutOfBoundsException" tx) : W p l e R s m args below meth c H locs cells slots Q (F0 m pc ls (.int i :: .ref a :: rest)) := by
  intro T hT X
  obtain ⟨t, st, q⟩ := k _ rfl T hT X
  refine ⟨t, ?_, q⟩
  have h1 := X.ialoadOut hexec (by rw [hT]; exact hP q0 _ ha) ((hK.2 t0 _ ht).1 n (fun j => .int (f j))) (j := i) (by show (i < 0 ∨ (arrV _ _ _).slots.size ≤ _); rw [arrV_size]; exact Classical.byContradiction hout) (g := F0 m pc ls (.int i :: .ref a :: rest)) rfl (rest := rest) rfl (by rw [hb]; exact hdg) t
  simp only [arrV_size] at h1
  exact h1 st
theorem vx_iastZ {D : va_G} {cl : List vw_C} {ws : va_W} {tys : List (ClassId × FieldType)} {a : Nat} (hexec : p.tables.exec = Jvm.exec) (hb : c.code = cc) (hK : va_K D cl tys s) (hP : va_P D cl ws H) (q0 t0 : Nat) {cA : ClassId} {n : Nat} {f : Nat → Int32} (ha : ws[q0]? = some (a, .inl (cA, n, .inl f))) (ht : tys[t0]? = some (cA, .int)) {i : Int32} {x : Int32} (hout : ¬ vp_in i n) (hdg : decode cc pc = .ok (.iastore, 1))
    (k : ∀ tx : String, tx = (toString "Index " ++ toString i ++ toString " out of bounds for length " ++ toString n : String) → vx_Note p l e R s m args below meth c H locs cells slots Q (F0 m pc ls rest) "java/lang/ArrayIndexOutOfBoundsException" tx) : W p l e R s m args below meth c H locs cells slots Q (F0 m pc ls (.int x :: .int i :: .ref a :: rest)) := by
  intro T hT X
  obtain ⟨t, st, q⟩ := k _ rfl T hT X
  refine ⟨t, ?_, q⟩
  have h1 := X.iastoreOut hexec (by rw [hT]; exact hP q0 _ ha) ((hK.2 t0 _ ht).1 n (fun j => .int (f j))) (j := i) (by show (i < 0 ∨ (arrV _ _ _).slots.size ≤ _); rw [arrV_size]; exact Classical.byContradiction hout) (g := F0 m pc ls (.int x :: .int i :: .ref a :: rest)) rfl (rest := rest) rfl (by rw [hb]; exact hdg) t
  simp only [arrV_size] at h1
  exact h1 st
theorem vx_baldZ {D : va_G} {cl : List vw_C} {ws : va_W} {tys : List (ClassId × FieldType)} {a : Nat} (hexec : p.tables.exec = Jvm.exec) (hb : c.code = cc) (hK : va_K D cl tys s) (hP : va_P D cl ws H) (q0 t0 : Nat) {cA : ClassId} {n : Nat} {f : Nat → Int32} (ha : ws[q0]? = some (a, .inl (cA, n, .inl f))) (ht : tys[t0]? = some (cA, .byte)) {i : Int32} (hout : ¬ vp_in i n) (hdg : decode cc pc = .ok (.baload, 1))
    (k : ∀ tx : String, tx = (toString "Index " ++ toString i ++ toString " out of bounds for length " ++ toString n : String) → vx_Note p l e R s m args below meth c H locs cells slots Q (F0 m pc ls rest) "java/lang/ArrayIndexOutOfBoundsException" tx) : W p l e R s m args below meth c H locs cells slots Q (F0 m pc ls (.int i :: .ref a :: rest)) := by
  intro T hT X
  obtain ⟨t, st, q⟩ := k _ rfl T hT X
  refine ⟨t, ?_, q⟩
  have h1 := X.baloadOut hexec (by rw [hT]; exact hP q0 _ ha) ((hK.2 t0 _ ht).1 n (fun j => .int (f j))) (j := i) (by show (i < 0 ∨ (arrV _ _ _).slots.size ≤ _); rw [arrV_size]; exact Classical.byContradiction hout) (g := F0 m pc ls (.int i :: .ref a :: rest)) rfl (rest := rest) rfl (by rw [hb]; exact hdg) t
  simp only [arrV_size] at h1
  exact h1 st
theorem vx_bastZ {D : va_G} {cl : List vw_C} {ws : va_W} {tys : List (ClassId × FieldType)} {a : Nat} (hexec : p.tables.exec = Jvm.exec) (hb : c.code = cc) (hK : va_K D cl tys s) (hP : va_P D cl ws H) (q0 t0 : Nat) {cA : ClassId} {n : Nat} {f : Nat → Int32} (ha : ws[q0]? = some (a, .inl (cA, n, .inl f))) (ht : tys[t0]? = some (cA, .byte)) {i : Int32} {x : Int32} (hout : ¬ vp_in i n) (hdg : decode cc pc = .ok (.bastore, 1))
    (k : ∀ tx : String, tx = (toString "Index " ++ toString i ++ toString " out of bounds for length " ++ toString n : String) → vx_Note p l e R s m args below meth c H locs cells slots Q (F0 m pc ls rest) "java/lang/ArrayIndexOutOfBoundsException" tx) : W p l e R s m args below meth c H locs cells slots Q (F0 m pc ls (.int x :: .int i :: .ref a :: rest)) := by
  intro T hT X
  obtain ⟨t, st, q⟩ := k _ rfl T hT X
  refine ⟨t, ?_, q⟩
  have h1 := X.bastoreOut hexec (by rw [hT]; exact hP q0 _ ha) ((hK.2 t0 _ ht).1 n (fun j => .int (f j))) (j := i) (by show (i < 0 ∨ (arrV _ _ _).slots.size ≤ _); rw [arrV_size]; exact Classical.byContradiction hout) (g := F0 m pc ls (.int x :: .int i :: .ref a :: rest)) rfl (rest := rest) rfl (by rw [hb]; exact hdg) t
  simp only [arrV_size] at h1
  exact h1 st
theorem vx_zaldZ {D : va_G} {cl : List vw_C} {ws : va_W} {tys : List (ClassId × FieldType)} {a : Nat} (hexec : p.tables.exec = Jvm.exec) (hb : c.code = cc) (hK : va_K D cl tys s) (hP : va_P D cl ws H) (q0 t0 : Nat) {cA : ClassId} {n : Nat} {f : Nat → Int32} (ha : ws[q0]? = some (a, .inl (cA, n, .inl f))) (ht : tys[t0]? = some (cA, .boolean)) {i : Int32} (hout : ¬ vp_in i n) (hdg : decode cc pc = .ok (.baload, 1))
    (k : ∀ tx : String, tx = (toString "Index " ++ toString i ++ toString " out of bounds for length " ++ toString n : String) → vx_Note p l e R s m args below meth c H locs cells slots Q (F0 m pc ls rest) "java/lang/ArrayIndexOutOfBoundsException" tx) : W p l e R s m args below meth c H locs cells slots Q (F0 m pc ls (.int i :: .ref a :: rest)) := by
  intro T hT X
  obtain ⟨t, st, q⟩ := k _ rfl T hT X
  refine ⟨t, ?_, q⟩
  have h1 := X.baloadOut hexec (by rw [hT]; exact hP q0 _ ha) ((hK.2 t0 _ ht).1 n (fun j => .int (f j))) (j := i) (by show (i < 0 ∨ (arrV _ _ _).slots.size ≤ _); rw [arrV_size]; exact Classical.byContradiction hout) (g := F0 m pc ls (.int i :: .ref a :: rest)) rfl (rest := rest) rfl (by rw [hb]; exact hdg) t
  simp only [arrV_size] at h1
  exact h1 st
theorem vx_zastZ {D : va_G} {cl : List vw_C} {ws : va_W} {tys : List (ClassId × FieldType)} {a : Nat} (hexec : p.tables.exec = Jvm.exec) (hb : c.code = cc) (hK : va_K D cl tys s) (hP : va_P D cl ws H) (q0 t0 : Nat) {cA : ClassId} {n : Nat} {f : Nat → Int32} (ha : ws[q0]? = some (a, .inl (cA, n, .inl f))) (ht : tys[t0]? = some (cA, .boolean)) {i : Int32} {x : Int32} (hout : ¬ vp_in i n) (hdg : decode cc pc = .ok (.bastore, 1))
    (k : ∀ tx : String, tx = (toString "Index " ++ toString i ++ toString " out of bounds for length " ++ toString n : String) → vx_Note p l e R s m args below meth c H locs cells slots Q (F0 m pc ls rest) "java/lang/ArrayIndexOutOfBoundsException" tx) : W p l e R s m args below meth c H locs cells slots Q (F0 m pc ls (.int x :: .int i :: .ref a :: rest)) := by
  intro T hT X
  obtain ⟨t, st, q⟩ := k _ rfl T hT X
  refine ⟨t, ?_, q⟩
  have h1 := X.bastoreOut hexec (by rw [hT]; exact hP q0 _ ha) ((hK.2 t0 _ ht).1 n (fun j => .int (f j))) (j := i) (by show (i < 0 ∨ (arrV _ _ _).slots.size ≤ _); rw [arrV_size]; exact Classical.byContradiction hout) (g := F0 m pc ls (.int x :: .int i :: .ref a :: rest)) rfl (rest := rest) rfl (by rw [hb]; exact hdg) t
  simp only [arrV_size] at h1
  exact h1 st
theorem vx_caldZ {D : va_G} {cl : List vw_C} {ws : va_W} {tys : List (ClassId × FieldType)} {a : Nat} (hexec : p.tables.exec = Jvm.exec) (hb : c.code = cc) (hK : va_K D cl tys s) (hP : va_P D cl ws H) (q0 t0 : Nat) {cA : ClassId} {n : Nat} {f : Nat → Int32} (ha : ws[q0]? = some (a, .inl (cA, n, .inl f))) (ht : tys[t0]? = some (cA, .char)) {i : Int32} (hout : ¬ vp_in i n) (hdg : decode cc pc = .ok (.caload, 1))
    (k : ∀ tx : String, tx = (toString "Index " ++ toString i ++ toString " out of bounds for length " ++ toString n : String) → vx_Note p l e R s m args below meth c H locs cells slots Q (F0 m pc ls rest) "java/lang/ArrayIndexOutOfBoundsException" tx) : W p l e R s m args below meth c H locs cells slots Q (F0 m pc ls (.int i :: .ref a :: rest)) := by
  intro T hT X
  obtain ⟨t, st, q⟩ := k _ rfl T hT X
  refine ⟨t, ?_, q⟩
  have h1 := X.caloadOut hexec (by rw [hT]; exact hP q0 _ ha) ((hK.2 t0 _ ht).1 n (fun j => .int (f j))) (j := i) (by show (i < 0 ∨ (arrV _ _ _).slots.size ≤ _); rw [arrV_size]; exact Classical.byContradiction hout) (g := F0 m pc ls (.int i :: .ref a :: rest)) rfl (rest := rest) rfl (by rw [hb]; exact hdg) t
  simp only [arrV_size] at h1
  exact h1 st
theorem vx_castZ {D : va_G} {cl : List vw_C} {ws : va_W} {tys : List (ClassId × FieldType)} {a : Nat} (hexec : p.tables.exec = Jvm.exec) (hb : c.code = cc) (hK : va_K D cl tys s) (hP : va_P D cl ws H) (q0 t0 : Nat) {cA : ClassId} {n : Nat} {f : Nat → Int32} (ha : ws[q0]? = some (a, .inl (cA, n, .inl f))) (ht : tys[t0]? = some (cA, .char)) {i : Int32} {x : Int32} (hout : ¬ vp_in i n) (hdg : decode cc pc = .ok (.castore, 1))
    (k : ∀ tx : String, tx = (toString "Index " ++ toString i ++ toString " out of bounds for length " ++ toString n : String) → vx_Note p l e R s m args below meth c H locs cells slots Q (F0 m pc ls rest) "java/lang/ArrayIndexOutOfBoundsException" tx) : W p l e R s m args below meth c H locs cells slots Q (F0 m pc ls (.int x :: .int i :: .ref a :: rest)) := by
  intro T hT X
  obtain ⟨t, st, q⟩ := k _ rfl T hT X
  refine ⟨t, ?_, q⟩
  have h1 := X.castoreOut hexec (by rw [hT]; exact hP q0 _ ha) ((hK.2 t0 _ ht).1 n (fun j => .int (f j))) (j := i) (by show (i < 0 ∨ (arrV _ _ _).slots.size ≤ _); rw [arrV_size]; exact Classical.byContradiction hout) (g := F0 m pc ls (.int x :: .int i :: .ref a :: rest)) rfl (rest := rest) rfl (by rw [hb]; exact hdg) t
  simp only [arrV_size] at h1
  exact h1 st
theorem vx_saldZ {D : va_G} {cl : List vw_C} {ws : va_W} {tys : List (ClassId × FieldType)} {a : Nat} (hexec : p.tables.exec = Jvm.exec) (hb : c.code = cc) (hK : va_K D cl tys s) (hP : va_P D cl ws H) (q0 t0 : Nat) {cA : ClassId} {n : Nat} {f : Nat → Int32} (ha : ws[q0]? = some (a, .inl (cA, n, .inl f))) (ht : tys[t0]? = some (cA, .short)) {i : Int32} (hout : ¬ vp_in i n) (hdg : decode cc pc = .ok (.saload, 1))
    (k : ∀ tx : String, tx = (toString "Index " ++ toString i ++ toString " out of bounds for length " ++ toString n : String) → vx_Note p l e R s m args below meth c H locs cells slots Q (F0 m pc ls rest) "java/lang/ArrayIndexOutOfBoundsException" tx) : W p l e R s m args below meth c H locs cells slots Q (F0 m pc ls (.int i :: .ref a :: rest)) := by
  intro T hT X
  obtain ⟨t, st, q⟩ := k _ rfl T hT X
  refine ⟨t, ?_, q⟩
  have h1 := X.saloadOut hexec (by rw [hT]; exact hP q0 _ ha) ((hK.2 t0 _ ht).1 n (fun j => .int (f j))) (j := i) (by show (i < 0 ∨ (arrV _ _ _).slots.size ≤ _); rw [arrV_size]; exact Classical.byContradiction hout) (g := F0 m pc ls (.int i :: .ref a :: rest)) rfl (rest := rest) rfl (by rw [hb]; exact hdg) t
  simp only [arrV_size] at h1
  exact h1 st
theorem vx_sastZ {D : va_G} {cl : List vw_C} {ws : va_W} {tys : List (ClassId × FieldType)} {a : Nat} (hexec : p.tables.exec = Jvm.exec) (hb : c.code = cc) (hK : va_K D cl tys s) (hP : va_P D cl ws H) (q0 t0 : Nat) {cA : ClassId} {n : Nat} {f : Nat → Int32} (ha : ws[q0]? = some (a, .inl (cA, n, .inl f))) (ht : tys[t0]? = some (cA, .short)) {i : Int32} {x : Int32} (hout : ¬ vp_in i n) (hdg : decode cc pc = .ok (.sastore, 1))
    (k : ∀ tx : String, tx = (toString "Index " ++ toString i ++ toString " out of bounds for length " ++ toString n : String) → vx_Note p l e R s m args below meth c H locs cells slots Q (F0 m pc ls rest) "java/lang/ArrayIndexOutOfBoundsException" tx) : W p l e R s m args below meth c H locs cells slots Q (F0 m pc ls (.int x :: .int i :: .ref a :: rest)) := by
  intro T hT X
  obtain ⟨t, st, q⟩ := k _ rfl T hT X
  refine ⟨t, ?_, q⟩
  have h1 := X.sastoreOut hexec (by rw [hT]; exact hP q0 _ ha) ((hK.2 t0 _ ht).1 n (fun j => .int (f j))) (j := i) (by show (i < 0 ∨ (arrV _ _ _).slots.size ≤ _); rw [arrV_size]; exact Classical.byContradiction hout) (g := F0 m pc ls (.int x :: .int i :: .ref a :: rest)) rfl (rest := rest) rfl (by rw [hb]; exact hdg) t
  simp only [arrV_size] at h1
  exact h1 st
theorem vx_laldZ {D : va_G} {cl : List vw_C} {ws : va_W} {tys : List (ClassId × FieldType)} {a : Nat} (hexec : p.tables.exec = Jvm.exec) (hb : c.code = cc) (hK : va_K D cl tys s) (hP : va_P D cl ws H) (q0 t0 : Nat) {cA : ClassId} {n : Nat} {f : Nat → Int64} (ha : ws[q0]? = some (a, .inl (cA, n, .inr (.inl f)))) (ht : tys[t0]? = some (cA, .long)) {i : Int32} (hout : ¬ vp_in i n) (hdg : decode cc pc = .ok (.laload, 1))
    (k : ∀ tx : String, tx = (toString "Index " ++ toString i ++ toString " out of bounds for length " ++ toString n : String) → vx_Note p l e R s m args below meth c H locs cells slots Q (F0 m pc ls rest) "java/lang/ArrayIndexOutOfBoundsException" tx) : W p l e R s m args below meth c H locs cells slots Q (F0 m pc ls (.int i :: .ref a :: rest)) := by
  intro T hT X
  obtain ⟨t, st, q⟩ := k _ rfl T hT X
  refine ⟨t, ?_, q⟩
  have h1 := X.laloadOut hexec (by rw [hT]; exact hP q0 _ ha) ((hK.2 t0 _ ht).1 n (fun j => .long (f j))) (j := i) (by show (i < 0 ∨ (arrV _ _ _).slots.size ≤ _); rw [arrV_size]; exact Classical.byContradiction hout) (g := F0 m pc ls (.int i :: .ref a :: rest)) rfl (rest := rest) rfl (by rw [hb]; exact hdg) t
  simp only [arrV_size] at h1
  exact h1 st
theorem vx_lastZ {D : va_G} {cl : List vw_C} {ws : va_W} {tys : List (ClassId × FieldType)} {a : Nat} (hexec : p.tables.exec = Jvm.exec) (hb : c.code = cc) (hK : va_K D cl tys s) (hP : va_P D cl ws H) (q0 t0 : Nat) {cA : ClassId} {n : Nat} {f : Nat → Int64} (ha : ws[q0]? = some (a, .inl (cA, n, .inr (.inl f)))) (ht : tys[t0]? = some (cA, .long)) {i : Int32} {x : Int64} (hout : ¬ vp_in i n) (hdg : decode cc pc = .ok (.lastore, 1))
    (k : ∀ tx : String, tx = (toString "Index " ++ toString i ++ toString " out of bounds for length " ++ toString n : String) → vx_Note p l e R s m args below meth c H locs cells slots Q (F0 m pc ls rest) "java/lang/ArrayIndexOutOfBoundsException" tx) : W p l e R s m args below meth c H locs cells slots Q (F0 m pc ls (.long x :: .int i :: .ref a :: rest)) := by
  intro T hT X
  obtain ⟨t, st, q⟩ := k _ rfl T hT X
  refine ⟨t, ?_, q⟩
  have h1 := X.lastoreOut hexec (by rw [hT]; exact hP q0 _ ha) ((hK.2 t0 _ ht).1 n (fun j => .long (f j))) (j := i) (by show (i < 0 ∨ (arrV _ _ _).slots.size ≤ _); rw [arrV_size]; exact Classical.byContradiction hout) (g := F0 m pc ls (.long x :: .int i :: .ref a :: rest)) rfl (rest := rest) rfl (by rw [hb]; exact hdg) t
  simp only [arrV_size] at h1
  exact h1 st
theorem vx_faldZ {D : va_G} {cl : List vw_C} {ws : va_W} {tys : List (ClassId × FieldType)} {a : Nat} (hexec : p.tables.exec = Jvm.exec) (hb : c.code = cc) (hK : va_K D cl tys s) (hP : va_P D cl ws H) (q0 t0 : Nat) {cA : ClassId} {n : Nat} {f : Nat → UInt32} (ha : ws[q0]? = some (a, .inl (cA, n, .inr (.inr (.inl f))))) (ht : tys[t0]? = some (cA, .float)) {i : Int32} (hout : ¬ vp_in i n) (hdg : decode cc pc = .ok (.faload, 1))
    (k : ∀ tx : String, tx = (toString "Index " ++ toString i ++ toString " out of bounds for length " ++ toString n : String) → vx_Note p l e R s m args below meth c H locs cells slots Q (F0 m pc ls rest) "java/lang/ArrayIndexOutOfBoundsException" tx) : W p l e R s m args below meth c H locs cells slots Q (F0 m pc ls (.int i :: .ref a :: rest)) := by
  intro T hT X
  obtain ⟨t, st, q⟩ := k _ rfl T hT X
  refine ⟨t, ?_, q⟩
  have h1 := X.faloadOut hexec (by rw [hT]; exact hP q0 _ ha) ((hK.2 t0 _ ht).1 n (fun j => .float (f j))) (j := i) (by show (i < 0 ∨ (arrV _ _ _).slots.size ≤ _); rw [arrV_size]; exact Classical.byContradiction hout) (g := F0 m pc ls (.int i :: .ref a :: rest)) rfl (rest := rest) rfl (by rw [hb]; exact hdg) t
  simp only [arrV_size] at h1
  exact h1 st
theorem vx_fastZ {D : va_G} {cl : List vw_C} {ws : va_W} {tys : List (ClassId × FieldType)} {a : Nat} (hexec : p.tables.exec = Jvm.exec) (hb : c.code = cc) (hK : va_K D cl tys s) (hP : va_P D cl ws H) (q0 t0 : Nat) {cA : ClassId} {n : Nat} {f : Nat → UInt32} (ha : ws[q0]? = some (a, .inl (cA, n, .inr (.inr (.inl f))))) (ht : tys[t0]? = some (cA, .float)) {i : Int32} {x : UInt32} (hout : ¬ vp_in i n) (hdg : decode cc pc = .ok (.fastore, 1))
    (k : ∀ tx : String, tx = (toString "Index " ++ toString i ++ toString " out of bounds for length " ++ toString n : String) → vx_Note p l e R s m args below meth c H locs cells slots Q (F0 m pc ls rest) "java/lang/ArrayIndexOutOfBoundsException" tx) : W p l e R s m args below meth c H locs cells slots Q (F0 m pc ls (.float x :: .int i :: .ref a :: rest)) := by
  intro T hT X
  obtain ⟨t, st, q⟩ := k _ rfl T hT X
  refine ⟨t, ?_, q⟩
  have h1 := X.fastoreOut hexec (by rw [hT]; exact hP q0 _ ha) ((hK.2 t0 _ ht).1 n (fun j => .float (f j))) (j := i) (by show (i < 0 ∨ (arrV _ _ _).slots.size ≤ _); rw [arrV_size]; exact Classical.byContradiction hout) (g := F0 m pc ls (.float x :: .int i :: .ref a :: rest)) rfl (rest := rest) rfl (by rw [hb]; exact hdg) t
  simp only [arrV_size] at h1
  exact h1 st
theorem vx_daldZ {D : va_G} {cl : List vw_C} {ws : va_W} {tys : List (ClassId × FieldType)} {a : Nat} (hexec : p.tables.exec = Jvm.exec) (hb : c.code = cc) (hK : va_K D cl tys s) (hP : va_P D cl ws H) (q0 t0 : Nat) {cA : ClassId} {n : Nat} {f : Nat → UInt64} (ha : ws[q0]? = some (a, .inl (cA, n, .inr (.inr (.inr (.inl f)))))) (ht : tys[t0]? = some (cA, .double)) {i : Int32} (hout : ¬ vp_in i n) (hdg : decode cc pc = .ok (.daload, 1))
    (k : ∀ tx : String, tx = (toString "Index " ++ toString i ++ toString " out of bounds for length " ++ toString n : String) → vx_Note p l e R s m args below meth c H locs cells slots Q (F0 m pc ls rest) "java/lang/ArrayIndexOutOfBoundsException" tx) : W p l e R s m args below meth c H locs cells slots Q (F0 m pc ls (.int i :: .ref a :: rest)) := by
  intro T hT X
  obtain ⟨t, st, q⟩ := k _ rfl T hT X
  refine ⟨t, ?_, q⟩
  have h1 := X.daloadOut hexec (by rw [hT]; exact hP q0 _ ha) ((hK.2 t0 _ ht).1 n (fun j => .double (f j))) (j := i) (by show (i < 0 ∨ (arrV _ _ _).slots.size ≤ _); rw [arrV_size]; exact Classical.byContradiction hout) (g := F0 m pc ls (.int i :: .ref a :: rest)) rfl (rest := rest) rfl (by rw [hb]; exact hdg) t
  simp only [arrV_size] at h1
  exact h1 st
theorem vx_dastZ {D : va_G} {cl : List vw_C} {ws : va_W} {tys : List (ClassId × FieldType)} {a : Nat} (hexec : p.tables.exec = Jvm.exec) (hb : c.code = cc) (hK : va_K D cl tys s) (hP : va_P D cl ws H) (q0 t0 : Nat) {cA : ClassId} {n : Nat} {f : Nat → UInt64} (ha : ws[q0]? = some (a, .inl (cA, n, .inr (.inr (.inr (.inl f)))))) (ht : tys[t0]? = some (cA, .double)) {i : Int32} {x : UInt64} (hout : ¬ vp_in i n) (hdg : decode cc pc = .ok (.dastore, 1))
    (k : ∀ tx : String, tx = (toString "Index " ++ toString i ++ toString " out of bounds for length " ++ toString n : String) → vx_Note p l e R s m args below meth c H locs cells slots Q (F0 m pc ls rest) "java/lang/ArrayIndexOutOfBoundsException" tx) : W p l e R s m args below meth c H locs cells slots Q (F0 m pc ls (.double x :: .int i :: .ref a :: rest)) := by
  intro T hT X
  obtain ⟨t, st, q⟩ := k _ rfl T hT X
  refine ⟨t, ?_, q⟩
  have h1 := X.dastoreOut hexec (by rw [hT]; exact hP q0 _ ha) ((hK.2 t0 _ ht).1 n (fun j => .double (f j))) (j := i) (by show (i < 0 ∨ (arrV _ _ _).slots.size ≤ _); rw [arrV_size]; exact Classical.byContradiction hout) (g := F0 m pc ls (.double x :: .int i :: .ref a :: rest)) rfl (rest := rest) rfl (by rw [hb]; exact hdg) t
  simp only [arrV_size] at h1
  exact h1 st
theorem vx_arraylengthN (hexec : p.tables.exec = Jvm.exec) (hb : c.code = cc) (hdg : decode cc pc = .ok (.arraylength, 1)) (k : vx_NoteN p l e R s m args below meth c H locs cells slots Q (F0 m pc ls rest)) : W p l e R s m args below meth c H locs cells slots Q (F0 m pc ls (.null :: rest)) := by
  intro T hT X
  obtain ⟨t, st, q⟩ := k T hT X
  exact ⟨t, X.arraylengthNull hexec (g := F0 m pc ls (.null :: rest)) rfl (rest := rest) rfl (by rw [hb]; exact hdg) t st, q⟩
theorem vx_ialoadN (hexec : p.tables.exec = Jvm.exec) (hb : c.code = cc) {i : Int32} (hdg : decode cc pc = .ok (.iaload, 1)) (k : vx_NoteN p l e R s m args below meth c H locs cells slots Q (F0 m pc ls rest)) : W p l e R s m args below meth c H locs cells slots Q (F0 m pc ls (.int i :: .null :: rest)) := by
  intro T hT X
  obtain ⟨t, st, q⟩ := k T hT X
  exact ⟨t, X.ialoadNull hexec (g := F0 m pc ls (.int i :: .null :: rest)) rfl (rest := rest) rfl (by rw [hb]; exact hdg) t st, q⟩
theorem vx_laloadN (hexec : p.tables.exec = Jvm.exec) (hb : c.code = cc) {i : Int32} (hdg : decode cc pc = .ok (.laload, 1)) (k : vx_NoteN p l e R s m args below meth c H locs cells slots Q (F0 m pc ls rest)) : W p l e R s m args below meth c H locs cells slots Q (F0 m pc ls (.int i :: .null :: rest)) := by
  intro T hT X
  obtain ⟨t, st, q⟩ := k T hT X
  exact ⟨t, X.laloadNull hexec (g := F0 m pc ls (.int i :: .null :: rest)) rfl (rest := rest) rfl (by rw [hb]; exact hdg) t st, q⟩
theorem vx_faloadN (hexec : p.tables.exec = Jvm.exec) (hb : c.code = cc) {i : Int32} (hdg : decode cc pc = .ok (.faload, 1)) (k : vx_NoteN p l e R s m args below meth c H locs cells slots Q (F0 m pc ls rest)) : W p l e R s m args below meth c H locs cells slots Q (F0 m pc ls (.int i :: .null :: rest)) := by
  intro T hT X
  obtain ⟨t, st, q⟩ := k T hT X
  exact ⟨t, X.faloadNull hexec (g := F0 m pc ls (.int i :: .null :: rest)) rfl (rest := rest) rfl (by rw [hb]; exact hdg) t st, q⟩
theorem vx_daloadN (hexec : p.tables.exec = Jvm.exec) (hb : c.code = cc) {i : Int32} (hdg : decode cc pc = .ok (.daload, 1)) (k : vx_NoteN p l e R s m args below meth c H locs cells slots Q (F0 m pc ls rest)) : W p l e R s m args below meth c H locs cells slots Q (F0 m pc ls (.int i :: .null :: rest)) := by
  intro T hT X
  obtain ⟨t, st, q⟩ := k T hT X
  exact ⟨t, X.daloadNull hexec (g := F0 m pc ls (.int i :: .null :: rest)) rfl (rest := rest) rfl (by rw [hb]; exact hdg) t st, q⟩
theorem vx_aaloadN (hexec : p.tables.exec = Jvm.exec) (hb : c.code = cc) {i : Int32} (hdg : decode cc pc = .ok (.aaload, 1)) (k : vx_NoteN p l e R s m args below meth c H locs cells slots Q (F0 m pc ls rest)) : W p l e R s m args below meth c H locs cells slots Q (F0 m pc ls (.int i :: .null :: rest)) := by
  intro T hT X
  obtain ⟨t, st, q⟩ := k T hT X
  exact ⟨t, X.aaloadNull hexec (g := F0 m pc ls (.int i :: .null :: rest)) rfl (rest := rest) rfl (by rw [hb]; exact hdg) t st, q⟩
theorem vx_baloadN (hexec : p.tables.exec = Jvm.exec) (hb : c.code = cc) {i : Int32} (hdg : decode cc pc = .ok (.baload, 1)) (k : vx_NoteN p l e R s m args below meth c H locs cells slots Q (F0 m pc ls rest)) : W p l e R s m args below meth c H locs cells slots Q (F0 m pc ls (.int i :: .null :: rest)) := by
  intro T hT X
  obtain ⟨t, st, q⟩ := k T hT X
  exact ⟨t, X.baloadNull hexec (g := F0 m pc ls (.int i :: .null :: rest)) rfl (rest := rest) rfl (by rw [hb]; exact hdg) t st, q⟩
theorem vx_caloadN (hexec : p.tables.exec = Jvm.exec) (hb : c.code = cc) {i : Int32} (hdg : decode cc pc = .ok (.caload, 1)) (k : vx_NoteN p l e R s m args below meth c H locs cells slots Q (F0 m pc ls rest)) : W p l e R s m args below meth c H locs cells slots Q (F0 m pc ls (.int i :: .null :: rest)) := by
  intro T hT X
  obtain ⟨t, st, q⟩ := k T hT X
  exact ⟨t, X.caloadNull hexec (g := F0 m pc ls (.int i :: .null :: rest)) rfl (rest := rest) rfl (by rw [hb]; exact hdg) t st, q⟩
theorem vx_saloadN (hexec : p.tables.exec = Jvm.exec) (hb : c.code = cc) {i : Int32} (hdg : decode cc pc = .ok (.saload, 1)) (k : vx_NoteN p l e R s m args below meth c H locs cells slots Q (F0 m pc ls rest)) : W p l e R s m args below meth c H locs cells slots Q (F0 m pc ls (.int i :: .null :: rest)) := by
  intro T hT X
  obtain ⟨t, st, q⟩ := k T hT X
  exact ⟨t, X.saloadNull hexec (g := F0 m pc ls (.int i :: .null :: rest)) rfl (rest := rest) rfl (by rw [hb]; exact hdg) t st, q⟩
theorem vx_iastoreN (hexec : p.tables.exec = Jvm.exec) (hb : c.code = cc) {x : Int32} {i : Int32} (hdg : decode cc pc = .ok (.iastore, 1)) (k : vx_NoteN p l e R s m args below meth c H locs cells slots Q (F0 m pc ls rest)) : W p l e R s m args below meth c H locs cells slots Q (F0 m pc ls (.int x :: .int i :: .null :: rest)) := by
  intro T hT X
  obtain ⟨t, st, q⟩ := k T hT X
  exact ⟨t, X.iastoreNull hexec (g := F0 m pc ls (.int x :: .int i :: .null :: rest)) rfl (rest := rest) rfl (by rw [hb]; exact hdg) t st, q⟩
theorem vx_lastoreN (hexec : p.tables.exec = Jvm.exec) (hb : c.code = cc) {x : Int64} {i : Int32} (hdg : decode cc pc = .ok (.lastore, 1)) (k : vx_NoteN p l e R s m args below meth c H locs cells slots Q (F0 m pc ls rest)) : W p l e R s m args below meth c H locs cells slots Q (F0 m pc ls (.long x :: .int i :: .null :: rest)) := by
  intro T hT X
  obtain ⟨t, st, q⟩ := k T hT X
  exact ⟨t, X.lastoreNull hexec (g := F0 m pc ls (.long x :: .int i :: .null :: rest)) rfl (rest := rest) rfl (by rw [hb]; exact hdg) t st, q⟩
theorem vx_fastoreN (hexec : p.tables.exec = Jvm.exec) (hb : c.code = cc) {x : UInt32} {i : Int32} (hdg : decode cc pc = .ok (.fastore, 1)) (k : vx_NoteN p l e R s m args below meth c H locs cells slots Q (F0 m pc ls rest)) : W p l e R s m args below meth c H locs cells slots Q (F0 m pc ls (.float x :: .int i :: .null :: rest)) := by
  intro T hT X
  obtain ⟨t, st, q⟩ := k T hT X
  exact ⟨t, X.fastoreNull hexec (g := F0 m pc ls (.float x :: .int i :: .null :: rest)) rfl (rest := rest) rfl (by rw [hb]; exact hdg) t st, q⟩
theorem vx_dastoreN (hexec : p.tables.exec = Jvm.exec) (hb : c.code = cc) {x : UInt64} {i : Int32} (hdg : decode cc pc = .ok (.dastore, 1)) (k : vx_NoteN p l e R s m args below meth c H locs cells slots Q (F0 m pc ls rest)) : W p l e R s m args below meth c H locs cells slots Q (F0 m pc ls (.double x :: .int i :: .null :: rest)) := by
  intro T hT X
  obtain ⟨t, st, q⟩ := k T hT X
  exact ⟨t, X.dastoreNull hexec (g := F0 m pc ls (.double x :: .int i :: .null :: rest)) rfl (rest := rest) rfl (by rw [hb]; exact hdg) t st, q⟩
theorem vx_bastoreN (hexec : p.tables.exec = Jvm.exec) (hb : c.code = cc) {x : Int32} {i : Int32} (hdg : decode cc pc = .ok (.bastore, 1)) (k : vx_NoteN p l e R s m args below meth c H locs cells slots Q (F0 m pc ls rest)) : W p l e R s m args below meth c H locs cells slots Q (F0 m pc ls (.int x :: .int i :: .null :: rest)) := by
  intro T hT X
  obtain ⟨t, st, q⟩ := k T hT X
  exact ⟨t, X.bastoreNull hexec (g := F0 m pc ls (.int x :: .int i :: .null :: rest)) rfl (rest := rest) rfl (by rw [hb]; exact hdg) t st, q⟩
theorem vx_castoreN (hexec : p.tables.exec = Jvm.exec) (hb : c.code = cc) {x : Int32} {i : Int32} (hdg : decode cc pc = .ok (.castore, 1)) (k : vx_NoteN p l e R s m args below meth c H locs cells slots Q (F0 m pc ls rest)) : W p l e R s m args below meth c H locs cells slots Q (F0 m pc ls (.int x :: .int i :: .null :: rest)) := by
  intro T hT X
  obtain ⟨t, st, q⟩ := k T hT X
  exact ⟨t, X.castoreNull hexec (g := F0 m pc ls (.int x :: .int i :: .null :: rest)) rfl (rest := rest) rfl (by rw [hb]; exact hdg) t st, q⟩
theorem vx_sastoreN (hexec : p.tables.exec = Jvm.exec) (hb : c.code = cc) {x : Int32} {i : Int32} (hdg : decode cc pc = .ok (.sastore, 1)) (k : vx_NoteN p l e R s m args below meth c H locs cells slots Q (F0 m pc ls rest)) : W p l e R s m args below meth c H locs cells slots Q (F0 m pc ls (.int x :: .int i :: .null :: rest)) := by
  intro T hT X
  obtain ⟨t, st, q⟩ := k T hT X
  exact ⟨t, X.sastoreNull hexec (g := F0 m pc ls (.int x :: .int i :: .null :: rest)) rfl (rest := rest) rfl (by rw [hb]; exact hdg) t st, q⟩
theorem vx_invokeN {own C : String} {index maxL : Nat} {y : MethodName} {bytes : ByteArray} {ret : Option FieldType} (hexec : p.tables.exec = Jvm.exec) (hb : c.code = cc) (hown : s.vm.findClass own = some m.cls) (hlink : (Cond.methodLink own index y).before args s = true) (hinst : (Cond.instanceMethod y).before args s = true) (hcode : (Cond.code y bytes maxL ret).before args s = true) (hsel : (Cond.selects C y y).before args s = true)
    (hx : y.cls ≠ "java/lang/invoke/MethodHandle" ∧ y.cls ≠ "java/lang/invoke/VarHandle") {As : List Value} (hlen : (parseMethodDescriptor y.desc).map (fun d => d.parameters.length) = some As.length) (hdg : decode cc pc = .ok (.invokevirtual index, 3))
    (k : vx_NoteN p l e R s m args below meth c H locs cells slots Q (F0 m pc ls rest)) {st0 : List Value} (hst : st0 = As.reverse ++ .null :: rest) : W p l e R s m args below meth c H locs cells slots Q (F0 m pc ls st0) := by
  intro T hT X
  obtain ⟨r0, r, hn, hrm, hstR, hsigR⟩ := va_Decl.of hinst hcode
  obtain ⟨c2, r2, m2, q1, q2, q3, q4, kP, hkP, hkPi⟩ := Cond.selects_spec hsel
  cases hn.symm.trans q3
  have hl9 : As.length = r.sig.parameters.length := by
    rw [hsigR] at hlen
    exact (Option.some.inj hlen).symm
  obtain ⟨vm', X1, st1⟩ := X.invokevirtualNull hexec hown hlink hn hrm hstR hkP hkPi hx (g := F0 m pc ls st0) rfl (argsL := As) (rest := rest) hl9 hst (by rw [hb]; exact hdg)
  obtain ⟨t, st, q⟩ := k (T.setVm vm') hT X1
  exact ⟨t, st1 t st, q⟩
theorem vx_newarrayZ {atype : ArrayType} (hexec : p.tables.exec = Jvm.exec) (hb : c.code = cc) {n : Int32} (h0 : n < 0) (hdg : decode cc pc = .ok (.newarray atype, 2)) (k : ∀ tx : String, tx = toString n → vx_Note p l e R s m args below meth c H locs cells slots Q (F0 m pc ls rest) "java/lang/NegativeArraySizeException" tx) : W p l e R s m args below meth c H locs cells slots Q (F0 m pc ls (.int n :: rest)) := by
  intro T hT X
  obtain ⟨t, st, q⟩ := k _ rfl T hT X
  exact ⟨t, X.newarrayNegative hexec (g := F0 m pc ls (.int n :: rest)) rfl h0 (rest := rest) rfl (by rw [hb]; exact hdg) t st, q⟩
end
end VXM
/-! ===== END ===== -/
/-! ===== BEGIN an exception as an object: made, kept, thrown later (no traces kept) ===== -/
section VXK
variable {p : Program} {l : Launch} {e : Env} {R : Room} {s : State} {m₀ : MethodId} {args : Array Value} {below : List Frame} {meth : Method} {c : Code} {W : State} {locs : List Loc} {cells slots : Nat}
set_option maxHeartbeats 1000000 in
theorem vx_ctorMadeS (X : Stand p l e R s m₀ args below meth c W locs cells slots) (hexec : p.tables.exec = Jvm.exec) (htr : e.platform.stackTraces = false) {own cls : String} {names : List String} {ic : Nat}
    (hown : s.vm.findClass own = some m₀.cls) (hcls : Bundle.fit cls = true) (hnames : ∀ n ∈ names, Bundle.fit n = true)
    (h : ∀ a ∈ Bundle.ownAtoms own ic cls names, a.before args s = true)
    (hlocs : ∀ x ∈ locs, ∀ cell, s.heap[x.base]? = some cell → cell.vm.isStatics = false)
    {a : Addr} {cX : ClassId} {kX : Class} (hfoundX : s.vm.findClass cls = some cX) (hkX : s.vm.classes[cX]? = some kX) (hcell : W.heap[a]? = some (freshCell cX kX)) (hnew : s.heap.size ≤ a)
    {msg : Value} (hmsg : msg.isRef = true)
    {g : JFrame} (hg : g.method = m₀) (hsize : g.locals.size = c.maxLocals) {rest : List Value} (hstack : g.stack = msg :: .ref a :: .ref a :: rest)
    (hd6 : decode c.code g.pc = .ok (.invokespecial ic, 3))
    (hRframes : names.length + 3 < R.frames) (hRlocals : 2 * g.monitorRoom + ((Value.ref a :: rest).map fun v => v.category).sum + (13 * (names.length + 1) + 42) ≤ R.locals) :
    ∃ (V : State) (ce : Cell) (L : List Loc), Stand p l e R s m₀ args below meth c (V.setCell a ce) (locs ++ L) cells slots ∧ (∀ y ∈ L, y.base = a) ∧ a < V.heap.size ∧ ce.cls = cX ∧ ce.vm = .none ∧
      ∀ target, Steps p.tables e below ((V.setCell a ce).setTop { g with stack := .ref a :: rest, pc := g.pc + 3 }) target → Steps p.tables e below (W.setTop g) target := by
  have howns : e.platform.frameOwnsMonitors = true := by rw [X.admits.platform]
  have hfin : e.platform.finalization = false := by rw [X.admits.platform]
  have hpl : e.platform.magicAccessors = ({} : Platform).magicAccessors := by rw [X.admits.platform]
  have a' : ∀ x, x ∈ Bundle.ownAtoms own ic cls names → x.holds args s none s [] = true := fun x hx => h x hx
  obtain ⟨T, Z0, L, -, Y⟩ := ThrowableC.of_atoms (args := args) howns hfin hpl (fun x hx => h x (by simp [Bundle.ownAtoms, hx]))
  obtain ⟨Z, M, LZ, LM, hnZ⟩ := Init0T.ofS_atoms (args := args) hpl L Y (fun x hx => h x (by simp [Bundle.ownAtoms, hx]))
  obtain ⟨P1, Ps, hlen, L1, hL, hP1m, hlink1, hlink⟩ := Bundle.chainS (args := args) hpl hnZ names cls hcls hnames (fun x hx => h x (by simp [Bundle.ownAtoms, hx]))
  have hfound : s.vm.findClass cls = some P1.m.cls := findClass_of_methodNamed hP1m
  cases Option.some.inj (hfoundX.symm.trans hfound)
  obtain ⟨c1, kX', hc1, hk, hord, -, -, hn6⟩ := Cond.instantiable_spec (a' (.instantiable cls 6) (by simp [Bundle.ownAtoms]))
  cases Option.some.inj (hc1.symm.trans hfound)
  cases Option.some.inj (hkX.symm.trans hk)
  have hsel0 : selectMethod e.platform s.vm P1.m.cls T.fill0 = .method T.fill0 := by
    obtain ⟨c2, r2, m2, q1, q2, q3, q4, -⟩ := Cond.selects_spec (a' (.selects cls Bundle.tFill0 Bundle.tFill0) (by simp [Bundle.ownAtoms]))
    cases Option.some.inj (q1.symm.trans hfound)
    cases Option.some.inj (q2.symm.trans (State.methodFound?_of_named Y.fill0 (by decide)))
    cases Option.some.inj (q3.symm.trans Y.fill0)
    rw [Launch.admits_selectMethod X.admits]; exact q4
  have hselF : selectMethod e.platform s.vm P1.m.cls T.fill = .method T.fill := by
    obtain ⟨c2, r2, m2, q1, q2, q3, q4, -⟩ := Cond.selects_spec (a' (.selects cls Bundle.tFill Bundle.tFill) (by simp [Bundle.ownAtoms]))
    cases Option.some.inj (q1.symm.trans hfound)
    cases Option.some.inj (q2.symm.trans (State.methodFound?_of_named Y.fill (by decide)))
    cases Option.some.inj (q3.symm.trans Y.fill)
    rw [Launch.admits_selectMethod X.admits]; exact q4
  obtain ⟨cellS0, hcS0, hiss⟩ := Y.statics
  obtain ⟨u0, hu0⟩ := Cond.staticRefV Y.unassigned L.unassignedStatic L.statics hcS0 hiss (a' (.isRef (.static Bundle.tN "UNASSIGNED_STACK" Bundle.steD)) (by simp [Bundle.ownAtoms]))
  obtain ⟨sen, hsen⟩ := Cond.staticRefV Y.sentinel L.sentinelStatic L.statics hcS0 hiss (a' (.isRef (.static Bundle.tN "SUPPRESSED_SENTINEL" Bundle.listD)) (by simp [Bundle.ownAtoms]))
  obtain ⟨ci198, i198, fB, hk198, hg198, ha198, hsB, -, hnB, htB, hffB⟩ := Cond.ownField (t := .object "java/lang/Object") Y.found L.cls (by decide +kernel) (a' (.fieldLink Bundle.tN 198 Bundle.tN "backtrace" "Ljava/lang/Object;") (by simp [Bundle.ownAtoms])) (a' (.lays Bundle.tN Bundle.tN "backtrace" "Ljava/lang/Object;") (by simp [Bundle.ownAtoms])) e.platform hpl
  obtain ⟨cellS, hcS', heS, -, hkeep⟩ := X.same.2.2.2.2.2 T.aS cellS0 hcS0
  have hcellS : W.heap[T.aS]? = some cellS := hcS'
  have hout' : ∀ i, (⟨T.aS, i⟩ : Loc) ∉ locs := fun i hmem => by
    have := hlocs _ hmem cellS0 hcS0
    rw [hiss] at this; cases this
  have hknownS : cellS.vm ≠ .unknown := by
    rw [heS]; intro hu
    rw [show cellS0.vm = .unknown from hu] at hiss
    cases hiss
  have hneS : T.aS ≠ a := Nat.ne_of_lt (Nat.lt_of_lt_of_le (Array.getElem?_eq_some_iff.mp hcS0).1 hnew)
  obtain ⟨iM, hffM⟩ := Y.msg
  obtain ⟨tyC, dC, hdC, hdnC⟩ := Cond.laysAt hfound hk Y.cause (a' (.lays cls Bundle.tN "cause" "Ljava/lang/Throwable;") (by simp [Bundle.ownAtoms]))
  obtain ⟨tyS, dS, hdS, hdnS⟩ := Cond.laysAt hfound hk Y.stack (a' (.lays cls Bundle.tN "stackTrace" Bundle.steD) (by simp [Bundle.ownAtoms]))
  obtain ⟨tyP, dP, hdP, hdnP⟩ := Cond.laysAt hfound hk Y.supp (a' (.lays cls Bundle.tN "suppressedExceptions" Bundle.listD) (by simp [Bundle.ownAtoms]))
  obtain ⟨tyM, dM, hdM, hdnM⟩ := Cond.laysAt hfound hk hffM (a' (.lays cls Bundle.tN "detailMessage" "Ljava/lang/String;") (by simp [Bundle.ownAtoms]))
  obtain ⟨tyB, dB, hdB, hdnB⟩ := Cond.laysAt hfound hk hffB (a' (.lays cls Bundle.tN "backtrace" "Ljava/lang/Object;") (by simp [Bundle.ownAtoms]))
  have bC := Cond.laysApart hdB hdC hdnB hdnC (by rw [hnB, Y.causeName]; decide)
  have bS := Cond.laysApart hdB hdS hdnB hdnS (by rw [hnB, Y.stackName]; decide)
  have bP := Cond.laysApart hdB hdP hdnB hdnP (by rw [hnB, Y.suppName]; decide)
  have hskip : SkipFacts T e.platform s (fun u => u) u0 ((preparedCellV T.toThrowableT (freshCell P1.m.cls kX) a u0 sen).withEntry W.cur) :=
    ⟨{ ci198 := ci198, i198 := i198, fBack := fB }, ⟨hk198, hg198, ha198, hsB⟩, by
      have := fresh_default (c := P1.m.cls) tyB
      rw [htB] at this
      simpa [preparedCellV, Cell.setSlot, Cell.withEntry, Array.getElem?_setIfInBounds, bC, bS, bP, bC.symm, bS.symm, bP.symm, defaultValue] using this, fun _ _ => rfl⟩
  obtain ⟨tm, methC, cdC, kC, vm₁, hnC, -, -, -, -, -, -, -, hW₁, st1⟩ := Steps.initColdS (tb := p.tables) (e := e) (below := below) (s := s) (U := W) X.here hexec X.warmed hpl hown (t := Bundle.initS cls) rfl rfl (Bundle.fit_spec hcls).2
    (a' (.methodLink own ic (Bundle.initS cls)) (by simp [Bundle.ownAtoms])) (h (.instanceMethod (Bundle.initS cls)) (by cases names <;> simp [Bundle.ownAtoms, Bundle.chainSAtoms, Bundle.passSAtoms])) (bytes := Bundle.six) (maxL := 2) (h (.code (Bundle.initS cls) Bundle.six 2 none) (by cases names <;> simp [Bundle.ownAtoms, Bundle.chainSAtoms, Bundle.passSAtoms]))
    (f := g) hg (a := a) (msg := msg) (rest := .ref a :: rest) hstack hd6
  cases Option.some.inj (hnC.symm.trans hP1m)
  have X₁ := X.noted hW₁
  obtain ⟨vm₂, X₂, st2⟩ := X₁.ctorMessageOffV hexec (g := { g with stack := .ref a :: rest }) hg hsize T L Z LZ M LM (P1 :: Ps)
    (fun P hP => by rcases List.mem_cons.mp hP with rfl | hP; exact L1; exact hL P hP) ⟨hlink1, hlink⟩ (u0 := u0) (sen := sen) (self := a) hmsg (cell := freshCell P1.m.cls kX) (cellS := cellS)
    hcell (fun _ => by simp) (by simp) rfl rfl hsel0 hselF hcellS hneS hknownS (by rw [hkeep _ (hout' _)]; exact hu0) (by rw [hkeep _ (hout' _)]; exact hsen)
    (Takes.of_laid hk hord tyC (by rw [Y.causeType]; rfl)) (Takes.of_laid hk hord tyS (by rw [Y.stackType]; exact fits_refV_array _ u0)) (Takes.of_laid hk hord tyP (by rw [Y.suppType]; exact fits_refV_object _ sen))
    (Takes.of_laid hk hord tyM (by rw [Y.msgType]; exact fits_refV_object _ ⟨msg, hmsg⟩)) Y.objLocals hskip htr [] hd6
    (by simp only [List.length_cons, hlen]; omega) (by simp only [List.length_cons, hlen]; exact hRlocals)
  have hlt : a < ((W.setVm vm₁).setVm vm₂).heap.size := (Array.getElem?_eq_some_iff.mp hcell).1
  refine ⟨(W.setVm vm₁).setVm vm₂, _, _, X₂, fun y hy => ?_, hlt, rfl, rfl, fun target hwalk => st1 _ (fun acts => ?_)⟩
  · simp only [List.mem_cons, List.not_mem_nil, or_false] at hy
    rcases hy with rfl | rfl | rfl | rfl | rfl <;> rfl
  · rw [doInvoke_state]
    exact st2 _ hwalk
set_option maxHeartbeats 1000000 in
theorem vx_ctorMade0 (X : Stand p l e R s m₀ args below meth c W locs cells slots) (hexec : p.tables.exec = Jvm.exec) (htr : e.platform.stackTraces = false) {own cls : String} {names : List String} {ic : Nat}
    (hown : s.vm.findClass own = some m₀.cls) (hcls : Bundle.fit cls = true) (hnames : ∀ n ∈ names, Bundle.fit n = true)
    (h : ∀ a ∈ Bundle.ownAtoms0 own ic cls names, a.before args s = true)
    (hlocs : ∀ x ∈ locs, ∀ cell, s.heap[x.base]? = some cell → cell.vm.isStatics = false)
    {a : Addr} {cX : ClassId} {kX : Class} (hfoundX : s.vm.findClass cls = some cX) (hkX : s.vm.classes[cX]? = some kX) (hcell : W.heap[a]? = some (freshCell cX kX)) (hnew : s.heap.size ≤ a)
    {g : JFrame} (hg : g.method = m₀) (hsize : g.locals.size = c.maxLocals) {rest : List Value} (hstack : g.stack = .ref a :: .ref a :: rest)
    (hd6 : decode c.code g.pc = .ok (.invokespecial ic, 3))
    (hRframes : names.length + 3 < R.frames) (hRlocals : 2 * g.monitorRoom + ((Value.ref a :: rest).map fun v => v.category).sum + (13 * (names.length + 1) + 41) ≤ R.locals) :
    ∃ (V : State) (ce : Cell) (L : List Loc), Stand p l e R s m₀ args below meth c (V.setCell a ce) (locs ++ L) cells slots ∧ (∀ y ∈ L, y.base = a) ∧ a < V.heap.size ∧ ce.cls = cX ∧ ce.vm = .none ∧
      ∀ target, Steps p.tables e below ((V.setCell a ce).setTop { g with stack := .ref a :: rest, pc := g.pc + 3 }) target → Steps p.tables e below (W.setTop g) target := by
  have howns : e.platform.frameOwnsMonitors = true := by rw [X.admits.platform]
  have hfin : e.platform.finalization = false := by rw [X.admits.platform]
  have hpl : e.platform.magicAccessors = ({} : Platform).magicAccessors := by rw [X.admits.platform]
  have a' : ∀ x, x ∈ Bundle.ownAtoms0 own ic cls names → x.holds args s none s [] = true := fun x hx => h x hx
  obtain ⟨T, Z, L, LZ, Y⟩ := ThrowableC.of_atoms (args := args) howns hfin hpl (fun x hx => h x (by simp [Bundle.ownAtoms0, hx]))
  obtain ⟨P1, Ps, hlen, L1, hL, hP1m, hlink1, hlink⟩ := Bundle.chain0 (args := args) hpl Y.init0 names cls hcls hnames (fun x hx => h x (by simp [Bundle.ownAtoms0, hx]))
  have hfound : s.vm.findClass cls = some P1.m.cls := findClass_of_methodNamed hP1m
  cases Option.some.inj (hfoundX.symm.trans hfound)
  obtain ⟨c1, kX', hc1, hk, hord, -, -, hn6⟩ := Cond.instantiable_spec (a' (.instantiable cls 6) (by simp [Bundle.ownAtoms0]))
  cases Option.some.inj (hc1.symm.trans hfound)
  cases Option.some.inj (hkX.symm.trans hk)
  have hsel0 : selectMethod e.platform s.vm P1.m.cls T.fill0 = .method T.fill0 := by
    obtain ⟨c2, r2, m2, q1, q2, q3, q4, -⟩ := Cond.selects_spec (a' (.selects cls Bundle.tFill0 Bundle.tFill0) (by simp [Bundle.ownAtoms0]))
    cases Option.some.inj (q1.symm.trans hfound)
    cases Option.some.inj (q2.symm.trans (State.methodFound?_of_named Y.fill0 (by decide)))
    cases Option.some.inj (q3.symm.trans Y.fill0)
    rw [Launch.admits_selectMethod X.admits]; exact q4
  have hselF : selectMethod e.platform s.vm P1.m.cls T.fill = .method T.fill := by
    obtain ⟨c2, r2, m2, q1, q2, q3, q4, -⟩ := Cond.selects_spec (a' (.selects cls Bundle.tFill Bundle.tFill) (by simp [Bundle.ownAtoms0]))
    cases Option.some.inj (q1.symm.trans hfound)
    cases Option.some.inj (q2.symm.trans (State.methodFound?_of_named Y.fill (by decide)))
    cases Option.some.inj (q3.symm.trans Y.fill)
    rw [Launch.admits_selectMethod X.admits]; exact q4
  obtain ⟨cellS0, hcS0, hiss⟩ := Y.statics
  obtain ⟨u0, hu0⟩ := Cond.staticRefV Y.unassigned L.unassignedStatic L.statics hcS0 hiss (a' (.isRef (.static Bundle.tN "UNASSIGNED_STACK" Bundle.steD)) (by simp [Bundle.ownAtoms0]))
  obtain ⟨sen, hsen⟩ := Cond.staticRefV Y.sentinel L.sentinelStatic L.statics hcS0 hiss (a' (.isRef (.static Bundle.tN "SUPPRESSED_SENTINEL" Bundle.listD)) (by simp [Bundle.ownAtoms0]))
  obtain ⟨ci198, i198, fB, hk198, hg198, ha198, hsB, -, hnB, htB, hffB⟩ := Cond.ownField (t := .object "java/lang/Object") Y.found L.cls (by decide +kernel) (a' (.fieldLink Bundle.tN 198 Bundle.tN "backtrace" "Ljava/lang/Object;") (by simp [Bundle.ownAtoms0])) (a' (.lays Bundle.tN Bundle.tN "backtrace" "Ljava/lang/Object;") (by simp [Bundle.ownAtoms0])) e.platform hpl
  obtain ⟨cellS, hcS', heS, -, hkeep⟩ := X.same.2.2.2.2.2 T.aS cellS0 hcS0
  have hcellS : W.heap[T.aS]? = some cellS := hcS'
  have hout' : ∀ i, (⟨T.aS, i⟩ : Loc) ∉ locs := fun i hmem => by
    have := hlocs _ hmem cellS0 hcS0
    rw [hiss] at this; cases this
  have hknownS : cellS.vm ≠ .unknown := by
    rw [heS]; intro hu
    rw [show cellS0.vm = .unknown from hu] at hiss
    cases hiss
  have hneS : T.aS ≠ a := Nat.ne_of_lt (Nat.lt_of_lt_of_le (Array.getElem?_eq_some_iff.mp hcS0).1 hnew)
  obtain ⟨iM, hffM⟩ := Y.msg
  obtain ⟨tyC, dC, hdC, hdnC⟩ := Cond.laysAt hfound hk Y.cause (a' (.lays cls Bundle.tN "cause" "Ljava/lang/Throwable;") (by simp [Bundle.ownAtoms0]))
  obtain ⟨tyS, dS, hdS, hdnS⟩ := Cond.laysAt hfound hk Y.stack (a' (.lays cls Bundle.tN "stackTrace" Bundle.steD) (by simp [Bundle.ownAtoms0]))
  obtain ⟨tyP, dP, hdP, hdnP⟩ := Cond.laysAt hfound hk Y.supp (a' (.lays cls Bundle.tN "suppressedExceptions" Bundle.listD) (by simp [Bundle.ownAtoms0]))
  obtain ⟨tyM, dM, hdM, hdnM⟩ := Cond.laysAt hfound hk hffM (a' (.lays cls Bundle.tN "detailMessage" "Ljava/lang/String;") (by simp [Bundle.ownAtoms0]))
  obtain ⟨tyB, dB, hdB, hdnB⟩ := Cond.laysAt hfound hk hffB (a' (.lays cls Bundle.tN "backtrace" "Ljava/lang/Object;") (by simp [Bundle.ownAtoms0]))
  have bC := Cond.laysApart hdB hdC hdnB hdnC (by rw [hnB, Y.causeName]; decide)
  have bS := Cond.laysApart hdB hdS hdnB hdnS (by rw [hnB, Y.stackName]; decide)
  have bP := Cond.laysApart hdB hdP hdnB hdnP (by rw [hnB, Y.suppName]; decide)
  have hskip : SkipFacts T e.platform s (fun u => u) u0 ((preparedCellV T.toThrowableT (freshCell P1.m.cls kX) a u0 sen).withEntry W.cur) :=
    ⟨{ ci198 := ci198, i198 := i198, fBack := fB }, ⟨hk198, hg198, ha198, hsB⟩, by
      have := fresh_default (c := P1.m.cls) tyB
      rw [htB] at this
      simpa [preparedCellV, Cell.setSlot, Cell.withEntry, Array.getElem?_setIfInBounds, bC, bS, bP, bC.symm, bS.symm, bP.symm, defaultValue] using this, fun _ _ => rfl⟩
  obtain ⟨tm, methC, cdC, kC, vm₁, hnC, -, -, -, -, -, -, -, hW₁, st1⟩ := Steps.initCold (tb := p.tables) (e := e) (below := below) (s := s) (U := W) X.here hexec X.warmed hpl hown (t := Bundle.init0 cls) rfl rfl (Bundle.fit_spec hcls).2
    (a' (.methodLink own ic (Bundle.init0 cls)) (by simp [Bundle.ownAtoms0])) (h (.instanceMethod (Bundle.init0 cls)) (by cases names <;> simp [Bundle.ownAtoms0, Bundle.chain0Atoms, Bundle.passAtoms])) (bytes := Bundle.five) (maxL := 1) (h (.code (Bundle.init0 cls) Bundle.five 1 none) (by cases names <;> simp [Bundle.ownAtoms0, Bundle.chain0Atoms, Bundle.passAtoms]))
    (f := g) hg (a := a) (rest := .ref a :: rest) hstack hd6
  cases Option.some.inj (hnC.symm.trans hP1m)
  have X₁ := X.noted hW₁
  obtain ⟨vm₂, X₂, st2⟩ := X₁.ctorPlainOffV hexec (g := { g with stack := .ref a :: rest }) hg hsize T L Z LZ (P1 :: Ps)
    (fun P hP => by rcases List.mem_cons.mp hP with rfl | hP; exact L1; exact hL P hP) ⟨hlink1, hlink⟩ (u0 := u0) (sen := sen) (self := a) (cell := freshCell P1.m.cls kX) (cellS := cellS)
    hcell (fun _ => by simp) (by simp) rfl rfl hsel0 hselF hcellS hneS hknownS (by rw [hkeep _ (hout' _)]; exact hu0) (by rw [hkeep _ (hout' _)]; exact hsen)
    (Takes.of_laid hk hord tyC (by rw [Y.causeType]; rfl)) (Takes.of_laid hk hord tyS (by rw [Y.stackType]; exact fits_refV_array _ u0)) (Takes.of_laid hk hord tyP (by rw [Y.suppType]; exact fits_refV_object _ sen)) Y.objLocals hskip htr [] hd6
    (by simp only [List.length_cons, hlen]; omega) (by simp only [List.length_cons, hlen]; exact hRlocals)
  have hlt : a < ((W.setVm vm₁).setVm vm₂).heap.size := (Array.getElem?_eq_some_iff.mp hcell).1
  refine ⟨(W.setVm vm₁).setVm vm₂, _, _, X₂, fun y hy => ?_, hlt, rfl, rfl, fun target hwalk => st1 _ (fun acts => ?_)⟩
  · simp only [List.mem_cons, List.not_mem_nil, or_false] at hy
    rcases hy with rfl | rfl | rfl | rfl <;> rfl
  · rw [doInvoke_state]
    exact st2 _ hwalk
end VXK
section VXK2
variable {p : Program} {l : Launch} {e : Env} {R : Room} {s : State} {m : MethodId} {args : Array Value} {below : List Frame} {meth : Method} {c : Code} {H : Heap} {locs : List Loc} {cells slots : Nat} {Q : State → Prop}
variable {ls : Array Slot} {rest : List Value} {D : va_G} {cl : List vw_C} {tys : List (ClassId × FieldType)} {ws : va_W}
/-- 'new E("text")' that isn't thrown at once: the object goes on the stack -/
theorem vx_makeS {cc : ByteArray} {pc : Nat} (hexec : p.tables.exec = Jvm.exec) (hb : c.code = cc) (hl : l.stackTraces = false) {own cls text : String} {names : List String} {ik is ic sa ci : Nat} {A : Nat → Prop} {T0 : u_T}
    (hown : s.vm.findClass own = some m.cls) (hcls : Bundle.fit cls = true) (hnames : ∀ n ∈ names, Bundle.fit n = true)
    (hk : (Cond.classLink own ik cls).before args s = true) (hini : (Cond.initialized cls).before args s = true) (hstr : vk_R own is text sa s) (hat : ∀ w ∈ vx_atS own ic cls names, w.before args s = true)
    (hgood : ∀ w ∈ Cond.classLink own ik cls :: Cond.initialized cls :: vx_atS own ic cls names, vx_ot w = true)
    (hU : vx_Zq Bundle.tN "UNASSIGNED_STACK" Bundle.steD A s s.heap) (hN : vx_Zq Bundle.tN "SUPPRESSED_SENTINEL" Bundle.listD A s s.heap) (hS : va_S A s.heap H locs) (hsize : ls.size = c.maxLocals)
    (d0 : decode cc pc = .ok (.new ik, 3)) (d3 : decode cc (pc + 3) = .ok (.dup, 1)) (d4 : decode cc (pc + 4) = .ok (.ldc is, 2)) (d6 : decode cc (pc + 6) = .ok (.invokespecial ic, 3))
    (hK : va_K D cl tys s) (hP : va_P D cl ws H) (hD : va_D A ws) (hA : ∀ q, s.heap.size ≤ q → A q) (hc : cl[ci]? = some (cls, T0, 0))
    (hRframes : names.length + 3 < R.frames) (hRlocals : (rest.map fun v => v.category).sum + (13 * (names.length + 1) + 43) ≤ R.locals) (hRcells : cells + 1 ≤ R.cells) (hRslots : slots + 6 ≤ R.slots)
    (kk : ∀ (q : Nat) (H1 : Heap), va_P D cl (ws ++ [(q, .inr (ci, []))]) H1 → va_D A (ws ++ [(q, .inr (ci, []))]) → va_S A s.heap H1 locs → W p l e R s m args below meth c H1 locs (cells + 1) (slots + 6) Q (F0 m (pc + 9) ls (.ref q :: rest))) :
    W p l e R s m args below meth c H locs cells slots Q (F0 m pc ls rest) := by
  intro T hT X
  subst hT
  have htr : e.platform.stackTraces = false := (show e.platform.stackTraces = l.stackTraces by rw [X.admits.platform]).trans hl
  have Y := vx_rebase X (R' := { frames := R.frames, locals := R.locals, cells := 1, slots := 6 }) (Nat.le_refl _) (Nat.le_refl _) hRcells hRslots
  obtain ⟨s', hA'⟩ : ∃ z, z = (T.setVm s.vm).setFrames (.invoking m args :: below) := ⟨_, rfl⟩
  rw [← hA'] at Y
  have hvm : s'.vm = s.vm := by rw [hA']; rfl
  have hhp : s'.heap = T.heap := by rw [hA']; rfl
  have hW0 : s.WarmedH s'.vm := by rw [hvm]; exact State.WarmedH.refl s
  have hat' : ∀ w ∈ vx_atS own ic cls names, w.before args s' = true := fun w hw => vx_ot_at hW0 hvm.symm (hgood w (List.mem_cons_of_mem _ (List.mem_cons_of_mem _ hw))) (hat w hw)
  have hk' : (Cond.classLink own ik cls).before args s' = true := vx_ot_at hW0 hvm.symm (hgood _ List.mem_cons_self) hk
  have hini' : (Cond.initialized cls).before args s' = true := vx_ot_at hW0 hvm.symm (hgood _ (List.mem_cons_of_mem _ List.mem_cons_self)) hini
  have hU' : vx_Zq Bundle.tN "UNASSIGNED_STACK" Bundle.steD A s' s'.heap := by rw [hhp]; exact vx_Zq.moved hW0.alike (hU.kept hS.2.1)
  have hN' : vx_Zq Bundle.tN "SUPPRESSED_SENTINEL" Bundle.listD A s' s'.heap := by rw [hhp]; exact vx_Zq.moved hW0.alike (hN.kept hS.2.1)
  have h : ∀ w ∈ Bundle.ownAtoms own ic cls names, w.before args s' = true := vx_own hat' (vx_isRefq hU'.1) (vx_isRefq hN'.1) hU'.2.word hN'.2.word
  have hown' : s'.vm.findClass own = some m.cls := by rw [hvm]; exact hown
  have hins : (Cond.instantiable cls 6).before args s' = true := h _ (by simp [Bundle.ownAtoms])
  obtain ⟨vm₁, cX, kX, hfX, hkX, -, -, X₁, st1⟩ := Y.newCold hexec (own := own) (C := cls) (index := ik) (n := 6) hown' hk' hins hini'
    (g := F0 m pc ls rest) rfl (by rw [hb]; exact d0) (Nat.le_refl _) (Nat.le_refl _)
  generalize hT1 : (T.setVm vm₁).pushCell { cls := cX, slots := kX.instanceTypes.map defaultValue, vm := .none } = T1 at X₁ st1
  have hcat : (Value.ref T.heap.size).category = 1 := rfl
  have hcellA : T1.heap[T.heap.size]? = some (freshCell cX kX) := by rw [← hT1]; exact State.heap_pushCell_size _ _
  have d3' : decode c.code (pc + 3) = .ok (.dup, 1) := by rw [hb]; exact d3
  have d4' : decode c.code (pc + 4) = .ok (.ldc is, 2) := by rw [hb]; exact d4
  have hstr' : vk_R own is text sa s' := vk_R.warm hW0 hstr
  obtain ⟨V, ce, L, Z, hL, hlt, hcl9, hvm9, st⟩ := vx_ctorMadeS X₁ hexec htr (own := own) (cls := cls) (names := names) (ic := ic) hown' hcls hnames h (fun x hx => nomatch hx) hfX hkX hcellA (by rw [hhp]; exact Nat.le_refl _) (msg := .ref sa) rfl
    (g := { method := m, pc := pc + 6, locals := ls, stack := .ref sa :: .ref T.heap.size :: .ref T.heap.size :: rest, locked := none }) rfl hsize (rest := rest) rfl
    (by rw [hb]; exact d6) hRframes (by simp only [List.map_cons, List.sum_cons, hcat]; omega)
  have Z0 := Stand.forget (locs := []) Z (fun y hy => by rw [hL y hy, hhp]; exact Nat.le_refl _)
  obtain ⟨f1, f2⟩ := vx_frame Z0.same
  rw [hhp] at f1 f2
  have hcid : ce.cls = D.1 ci := by
    rw [hcl9]
    have h1 := (hK.1 ci _ hc).2.1
    rw [hvm] at hfX
    exact Option.some.inj (hfX.symm.trans h1)
  have hh : (V.setCell T.heap.size ce).heap[T.heap.size]? = some ce := heapAt_setCell_self (s := V) ce hlt
  subst hA'
  have X5 := vx_back9 X Y Z0
  have X6 : Stand p l e R s m args below meth c (V.setCell T.heap.size ce) locs (cells + 1) (slots + 6) := { X5 with same := X5.same.mono (by omega) (by omega) }
  have hk9 : ∀ (k : Nat) (x : Nat × va_E), ws[k]? = some x → (V.setCell T.heap.size ce).heap[x.1]? = T.heap[x.1]? := fun k x hx => f2 x.1 ((hP k x hx).lt) (fun z hz => nomatch hz)
  obtain ⟨t, a1, b1⟩ := kk T.heap.size (V.setCell T.heap.size ce).heap ((hP.kept hk9).app (fun k x hx => by
      have hz : k < 1 := (List.getElem?_eq_some_iff.mp hx).1
      rw [show k = 0 by omega] at hx
      cases hx
      exact ⟨_, hc, ce, hh, hcid, hvm9, fun k hk => absurd hk (Nat.not_lt_zero k)⟩)) (hD.push hP rfl (hA _ hS.1)) ⟨Nat.le_trans hS.1 f1, fun q h1 h2 => (f2 q (Nat.lt_of_lt_of_le h1 hS.1) (fun z hz => nomatch hz)).trans (hS.2.1 q h1 h2), hS.2.2⟩ _ rfl X6
  refine ⟨t, st1 _ ?_, b1⟩
  show Steps p.tables e below (T1.setTop { method := m, pc := pc + 3, locals := ls, stack := .ref T.heap.size :: rest, locked := none }) _
  jvm_step X₁.here [X₁.here.top, hexec, d3', Value.category]
  exact X₁.ldcString hexec (own := own) (text := text) (index := is) (a := sa) hown' hstr'.1 hstr'.2
    (g := { method := m, pc := pc + 4, locals := ls, stack := .ref T.heap.size :: .ref T.heap.size :: rest, locked := none }) rfl d4' _ (st _ a1)
/-- 'new E()' that isn't thrown at once: the object goes on the stack -/
theorem vx_make0 {cc : ByteArray} {pc : Nat} (hexec : p.tables.exec = Jvm.exec) (hb : c.code = cc) (hl : l.stackTraces = false) {own cls : String} {names : List String} {ik ic ci : Nat} {A : Nat → Prop} {T0 : u_T}
    (hown : s.vm.findClass own = some m.cls) (hcls : Bundle.fit cls = true) (hnames : ∀ n ∈ names, Bundle.fit n = true)
    (hk : (Cond.classLink own ik cls).before args s = true) (hini : (Cond.initialized cls).before args s = true) (hat : ∀ w ∈ vx_at0 own ic cls names, w.before args s = true)
    (hgood : ∀ w ∈ Cond.classLink own ik cls :: Cond.initialized cls :: vx_at0 own ic cls names, vx_ot w = true)
    (hU : vx_Zq Bundle.tN "UNASSIGNED_STACK" Bundle.steD A s s.heap) (hN : vx_Zq Bundle.tN "SUPPRESSED_SENTINEL" Bundle.listD A s s.heap) (hS : va_S A s.heap H locs) (hsize : ls.size = c.maxLocals)
    (d0 : decode cc pc = .ok (.new ik, 3)) (d3 : decode cc (pc + 3) = .ok (.dup, 1)) (d4 : decode cc (pc + 4) = .ok (.invokespecial ic, 3))
    (hK : va_K D cl tys s) (hP : va_P D cl ws H) (hD : va_D A ws) (hA : ∀ q, s.heap.size ≤ q → A q) (hc : cl[ci]? = some (cls, T0, 0))
    (hRframes : names.length + 3 < R.frames) (hRlocals : (rest.map fun v => v.category).sum + (13 * (names.length + 1) + 42) ≤ R.locals) (hRcells : cells + 1 ≤ R.cells) (hRslots : slots + 6 ≤ R.slots)
    (kk : ∀ (q : Nat) (H1 : Heap), va_P D cl (ws ++ [(q, .inr (ci, []))]) H1 → va_D A (ws ++ [(q, .inr (ci, []))]) → va_S A s.heap H1 locs → W p l e R s m args below meth c H1 locs (cells + 1) (slots + 6) Q (F0 m (pc + 7) ls (.ref q :: rest))) :
    W p l e R s m args below meth c H locs cells slots Q (F0 m pc ls rest) := by
  intro T hT X
  subst hT
  have htr : e.platform.stackTraces = false := (show e.platform.stackTraces = l.stackTraces by rw [X.admits.platform]).trans hl
  have Y := vx_rebase X (R' := { frames := R.frames, locals := R.locals, cells := 1, slots := 6 }) (Nat.le_refl _) (Nat.le_refl _) hRcells hRslots
  obtain ⟨s', hA'⟩ : ∃ z, z = (T.setVm s.vm).setFrames (.invoking m args :: below) := ⟨_, rfl⟩
  rw [← hA'] at Y
  have hvm : s'.vm = s.vm := by rw [hA']; rfl
  have hhp : s'.heap = T.heap := by rw [hA']; rfl
  have hW0 : s.WarmedH s'.vm := by rw [hvm]; exact State.WarmedH.refl s
  have hat' : ∀ w ∈ vx_at0 own ic cls names, w.before args s' = true := fun w hw => vx_ot_at hW0 hvm.symm (hgood w (List.mem_cons_of_mem _ (List.mem_cons_of_mem _ hw))) (hat w hw)
  have hk' : (Cond.classLink own ik cls).before args s' = true := vx_ot_at hW0 hvm.symm (hgood _ List.mem_cons_self) hk
  have hini' : (Cond.initialized cls).before args s' = true := vx_ot_at hW0 hvm.symm (hgood _ (List.mem_cons_of_mem _ List.mem_cons_self)) hini
  have hU' : vx_Zq Bundle.tN "UNASSIGNED_STACK" Bundle.steD A s' s'.heap := by rw [hhp]; exact vx_Zq.moved hW0.alike (hU.kept hS.2.1)
  have hN' : vx_Zq Bundle.tN "SUPPRESSED_SENTINEL" Bundle.listD A s' s'.heap := by rw [hhp]; exact vx_Zq.moved hW0.alike (hN.kept hS.2.1)
  have h : ∀ w ∈ Bundle.ownAtoms0 own ic cls names, w.before args s' = true := vx_own hat' (vx_isRefq hU'.1) (vx_isRefq hN'.1) hU'.2.word hN'.2.word
  have hown' : s'.vm.findClass own = some m.cls := by rw [hvm]; exact hown
  have hins : (Cond.instantiable cls 6).before args s' = true := h _ (by simp [Bundle.ownAtoms0])
  obtain ⟨vm₁, cX, kX, hfX, hkX, -, -, X₁, st1⟩ := Y.newCold hexec (own := own) (C := cls) (index := ik) (n := 6) hown' hk' hins hini'
    (g := F0 m pc ls rest) rfl (by rw [hb]; exact d0) (Nat.le_refl _) (Nat.le_refl _)
  generalize hT1 : (T.setVm vm₁).pushCell { cls := cX, slots := kX.instanceTypes.map defaultValue, vm := .none } = T1 at X₁ st1
  have hcat : (Value.ref T.heap.size).category = 1 := rfl
  have hcellA : T1.heap[T.heap.size]? = some (freshCell cX kX) := by rw [← hT1]; exact State.heap_pushCell_size _ _
  have d3' : decode c.code (pc + 3) = .ok (.dup, 1) := by rw [hb]; exact d3
  obtain ⟨V, ce, L, Z, hL, hlt, hcl9, hvm9, st⟩ := vx_ctorMade0 X₁ hexec htr (own := own) (cls := cls) (names := names) (ic := ic) hown' hcls hnames h (fun x hx => nomatch hx) hfX hkX hcellA (by rw [hhp]; exact Nat.le_refl _)
    (g := { method := m, pc := pc + 4, locals := ls, stack := .ref T.heap.size :: .ref T.heap.size :: rest, locked := none }) rfl hsize (rest := rest) rfl
    (by rw [hb]; exact d4) hRframes (by simp only [List.map_cons, List.sum_cons, hcat]; omega)
  have Z0 := Stand.forget (locs := []) Z (fun y hy => by rw [hL y hy, hhp]; exact Nat.le_refl _)
  obtain ⟨f1, f2⟩ := vx_frame Z0.same
  rw [hhp] at f1 f2
  have hcid : ce.cls = D.1 ci := by
    rw [hcl9]
    have h1 := (hK.1 ci _ hc).2.1
    rw [hvm] at hfX
    exact Option.some.inj (hfX.symm.trans h1)
  have hh : (V.setCell T.heap.size ce).heap[T.heap.size]? = some ce := heapAt_setCell_self (s := V) ce hlt
  subst hA'
  have X5 := vx_back9 X Y Z0
  have X6 : Stand p l e R s m args below meth c (V.setCell T.heap.size ce) locs (cells + 1) (slots + 6) := { X5 with same := X5.same.mono (by omega) (by omega) }
  have hk9 : ∀ (k : Nat) (x : Nat × va_E), ws[k]? = some x → (V.setCell T.heap.size ce).heap[x.1]? = T.heap[x.1]? := fun k x hx => f2 x.1 ((hP k x hx).lt) (fun z hz => nomatch hz)
  obtain ⟨t, a1, b1⟩ := kk T.heap.size (V.setCell T.heap.size ce).heap ((hP.kept hk9).app (fun k x hx => by
      have hz : k < 1 := (List.getElem?_eq_some_iff.mp hx).1
      rw [show k = 0 by omega] at hx
      cases hx
      exact ⟨_, hc, ce, hh, hcid, hvm9, fun k hk => absurd hk (Nat.not_lt_zero k)⟩)) (hD.push hP rfl (hA _ hS.1)) ⟨Nat.le_trans hS.1 f1, fun q h1 h2 => (f2 q (Nat.lt_of_lt_of_le h1 hS.1) (fun z hz => nomatch hz)).trans (hS.2.1 q h1 h2), hS.2.2⟩ _ rfl X6
  refine ⟨t, st1 _ ?_, b1⟩
  show Steps p.tables e below (T1.setTop { method := m, pc := pc + 3, locals := ls, stack := .ref T.heap.size :: rest, locked := none }) _
  jvm_step X₁.here [X₁.here.top, hexec, d3', Value.category]
  exact st _ a1
/-- 'throw x' of an object that was made before -/
theorem vx_athrow {cc : ByteArray} {pc : Nat} (hexec : p.tables.exec = Jvm.exec) (hb : c.code = cc) {q : Addr} (hdg : decode cc pc = .ok (.athrow, 1)) (k : vx_W p l e R s m args below meth c H locs cells slots Q (F0 m pc ls rest) q) : W p l e R s m args below meth c H locs cells slots Q (F0 m pc ls (.ref q :: rest)) := by
  intro T hT X
  obtain ⟨t, st, hq⟩ := k T hT X
  refine ⟨t, ?_, hq⟩
  have hdg' : decode c.code pc = .ok (.athrow, 1) := by rw [hb]; exact hdg
  jvm_step X.here [X.here.top, hexec, hdg', athrow.wp_sem]
  exact st
end VXK2
/-! ===== END ===== -/
/-! ===== BEGIN a constructor that throws (launches without stack traces) ===== -/
section VXIA
variable {p : Program} {l : Launch} {e : Env} {R : Room} {s : State} {m : MethodId} {args : Array Value} {below : List Frame} {meth : Method} {c : Code} {T : State} {locs : List Loc} {cells slots : Nat}
theorem vx_callI (X : Stand p l e R s m args below meth c T locs cells slots) (hexec : p.tables.exec = Jvm.exec) {own : String} {index : Nat} {y : MethodName} {bytes : ByteArray} {maxL : Nat}
    (hown : s.vm.findClass own = some m.cls) (hy1 : y.name = "<init>") (hlink : (Cond.methodLink own index y).before args s = true) (hinst : (Cond.instanceMethod y).before args s = true)
    (hcode : (Cond.code y bytes maxL none).before args s = true) (hy : y.cls ≠ "java/lang/invoke/MethodHandle" ∧ y.cls ≠ "java/lang/invoke/VarHandle")
    {W9 : Nat} {Pre : Pt → Array Value → Prop} {Post : Pt → Array Value → Option Value → Pt → Prop} {PostX : Pt → Array Value → Addr → Pt → Prop} (hK : vx_Back l R p e below s args y 3 W9 Pre Post PostX)
    {g : JFrame} (hg : g.method = m) (hsize : g.locals.size = c.maxLocals) {a : Addr} {argsL rest : List Value} (hlen : ∀ sig, parseMethodDescriptor y.desc = some sig → argsL.length = sig.parameters.length)
    (hstack : g.stack = argsL.reverse ++ .ref a :: rest) (hW : 2 * g.monitorRoom + (rest.map fun v => v.category).sum ≤ W9) (hdg : decode c.code g.pc = .ok (.invokespecial index, 3))
    (hpre : ∀ vm₁, s.WarmedH vm₁ → Pre ⟨T.setVm vm₁, locs, cells, slots⟩ (Value.ref a :: argsL).toArray) :
    (∃ (v : Option Value) (vm₁ : Vm) (B : Pt), s.WarmedH vm₁ ∧ Stand p l e R s m args below meth c B.U B.locs B.cells B.slots ∧ Post ⟨T.setVm vm₁, locs, cells, slots⟩ (Value.ref a :: argsL).toArray v B ∧
      ∀ target, Steps p.tables e below (B.U.setTop { g with pc := g.pc + 3, stack := v.toList ++ rest }) target → Steps p.tables e below (T.setTop g) target) ∨
    (∃ (q : Addr) (vm₁ : Vm) (B : Pt), s.WarmedH vm₁ ∧ Stand p l e R s m args below meth c B.U B.locs B.cells B.slots ∧ PostX ⟨T.setVm vm₁, locs, cells, slots⟩ (Value.ref a :: argsL).toArray q B ∧
      Steps p.tables e below (T.setTop g) ((B.U.setTop { g with stack := rest }).pushFrame (.throwing q))) := by
  subst hg
  have hpl : e.platform.magicAccessors = ({} : Platform).magicAccessors := by rw [X.admits.platform]
  obtain ⟨mk, methM, cM, kP, vm₁, hnamed, hmethM, hcodeM, -, hlocalsM, -, hkP, -, hW₁, hstep₁⟩ := Steps.initColdArgs (e := e) X.here hexec X.warmed hpl hown hy1 hy hlink hinst hcode (f := g) rfl hlen hstack hdg
  have X₁ := X.noted hW₁
  rcases hK g.method meth c ⟨T.setVm vm₁, locs, cells, slots⟩ { g with stack := rest } (.invokespecial index) mk (Value.ref a :: argsL).toArray X₁ rfl hsize hdg hW (X₁.named hnamed) (hpre vm₁ X₁.warmed) with ⟨v, B, X', hpost, hsteps⟩ | ⟨q, B, X', hpost, hsteps⟩
  · exact Or.inl ⟨v, vm₁, B, X₁.warmed, X', hpost, fun target h => hstep₁ _ fun acts => by rw [doInvoke_state]; exact hsteps.trans h⟩
  · exact Or.inr ⟨q, vm₁, B, X₁.warmed, X', hpost, hstep₁ _ fun acts => by rw [doInvoke_state]; exact hsteps⟩
end VXIA
section VXIB
variable {p : Program} {l : Launch} {e : Env} {R : Room} {s : State} {m : MethodId} {args : Array Value} {below : List Frame} {meth : Method} {c : Code} {H : Heap} {locs : List Loc} {cells slots : Nat}
variable {y : MethodName} {bytes cc : ByteArray} {maxL nL mc ms n index : Nat} {ret : Option FieldType} {ws : List Cond} {rm : Room} {Pc : Array Value → State → Prop} {Qc : Array Value → State → Outcome → State → Prop} {XC : String → State → State → Prop} {free : Addr → Prop} {Ts : List Cond} {own C : String} {b : Addr} {As rest : List Value} {g : JFrame}
theorem vx_runI (S : CallFix p m c cc nL s args Ts own) (hM : vx_Met l y ws rm Pc Qc XC mc ms free) (cw : CallB R s args own index y bytes maxL none ws rm mc ms n ∧ y.name = "<init>" ∧ (Cond.instanceMethod y).before args s = true) (hp : PreS s H Pc (.ref b :: As))
    (hg : g.method = m) (hn : As.length = n) (hsize : g.locals.size = nL) (hstack : g.stack = As.reverse ++ .ref b :: rest) (hW : 2 * g.monitorRoom + (rest.map fun v => v.category).sum ≤ 8) (hdg : decode cc g.pc = .ok (.invokespecial index, 3)) (hf : cells + mc ≤ R.cells ∧ slots + ms ≤ R.slots) :
    vx_Run p l e R s m args below meth c H locs cells slots mc ms g rest (Qc (Value.ref b :: As).toArray) XC free := by
  have hK : vx_Back l R p e below s args y 3 8 (PreOf R mc ms Pc) (PostOf Qc mc ms free) (vx_Post XC mc ms free) := vx_callBack cw.1 hM hp.1
  obtain ⟨⟨-, -, -, -, -, -, hcode, -, hy, hlen, hl⟩, hy1, hin⟩ := cw
  obtain ⟨hx, hb, hml, ho, -⟩ := S
  have hPc := hp.2
  intro T hT X
  rcases vx_callI X hx (bytes := bytes) (maxL := maxL) ho hy1 hl hin hcode hy hK hg (hsize.trans hml.symm) (a := b) (argsL := As) (rest := rest) (fun sig h => hn.trans (hlen sig h)) hstack hW (by rw [hb]; exact hdg)
    (fun vm₁ hW₁ => ⟨hf.1, hf.2, hPc (T.setVm vm₁) hT hW₁⟩) with ⟨v, vm₁, ⟨U', l2, c2, s2⟩, hW₁, X', ⟨g', mk, t, L, e1, e2, hq, h1, hL, h2, h3⟩, st⟩ | ⟨q, vm₁, ⟨U', l2, c2, s2⟩, hW₁, X', ⟨g', mk, t, L, E, ce, e1, e2, hq, hce, hcv, hcl, h1, hL, h2, h3⟩, st⟩
  · dsimp only [Pt.U, Pt.locs, Pt.cells, Pt.slots] at X' e1 e2 h1 h2 h3 st
    subst h1; subst h2; subst h3
    exact Or.inl ⟨v, (T.setVm vm₁).calling g' mk (Value.ref b :: As).toArray, t, U', L, hT, X', hL, e1, e2, hq, st⟩
  · dsimp only [Pt.U, Pt.locs, Pt.cells, Pt.slots] at X' e1 e2 h1 h2 h3 st hcl
    subst h1; subst h2; subst h3
    exact Or.inr ⟨q, (T.setVm vm₁).calling g' mk (Value.ref b :: As).toArray, t, U', L, E, ce, hT, X', hL, e1, e2, hq, hce, hcv, vx_cls hW₁ hcl, st⟩
end VXIB
/-! ===== END ===== -/
/-! ===== BEGIN a private constructor of a nest mate that throws ===== -/
section VXIC
variable {p : Program} {l : Launch} {e : Env} {R : Room} {s : State} {m : MethodId} {args : Array Value} {below : List Frame} {meth : Method} {c : Code} {T : State} {locs : List Loc} {cells slots : Nat}
theorem vx_callIN (X : Stand p l e R s m args below meth c T locs cells slots) (hexec : p.tables.exec = Jvm.exec) {own : String} {index : Nat} {host : String} {y : MethodName} {bytes : ByteArray} {maxL : Nat}
    (hown : s.vm.findClass own = some m.cls) (hy1 : y.name = "<init>") (hlink : (Cond.methodLinkNest own index y host).before args s = true) (hinst : (Cond.instanceMethod y).before args s = true)
    (hcode : (Cond.code y bytes maxL none).before args s = true) (hy : y.cls ≠ "java/lang/invoke/MethodHandle" ∧ y.cls ≠ "java/lang/invoke/VarHandle")
    {W9 : Nat} {Pre : Pt → Array Value → Prop} {Post : Pt → Array Value → Option Value → Pt → Prop} {PostX : Pt → Array Value → Addr → Pt → Prop} (hK : vx_Back l R p e below s args y 3 W9 Pre Post PostX)
    {g : JFrame} (hg : g.method = m) (hsize : g.locals.size = c.maxLocals) {a : Addr} {argsL rest : List Value} (hlen : ∀ sig, parseMethodDescriptor y.desc = some sig → argsL.length = sig.parameters.length)
    (hstack : g.stack = argsL.reverse ++ .ref a :: rest) (hW : 2 * g.monitorRoom + (rest.map fun v => v.category).sum ≤ W9) (hdg : decode c.code g.pc = .ok (.invokespecial index, 3))
    (hpre : ∀ vm₁, s.WarmedH vm₁ → Pre ⟨T.setVm vm₁, locs, cells, slots⟩ (Value.ref a :: argsL).toArray) :
    (∃ (v : Option Value) (vm₁ : Vm) (B : Pt), s.WarmedH vm₁ ∧ Stand p l e R s m args below meth c B.U B.locs B.cells B.slots ∧ Post ⟨T.setVm vm₁, locs, cells, slots⟩ (Value.ref a :: argsL).toArray v B ∧
      ∀ target, Steps p.tables e below (B.U.setTop { g with pc := g.pc + 3, stack := v.toList ++ rest }) target → Steps p.tables e below (T.setTop g) target) ∨
    (∃ (q : Addr) (vm₁ : Vm) (B : Pt), s.WarmedH vm₁ ∧ Stand p l e R s m args below meth c B.U B.locs B.cells B.slots ∧ PostX ⟨T.setVm vm₁, locs, cells, slots⟩ (Value.ref a :: argsL).toArray q B ∧
      Steps p.tables e below (T.setTop g) ((B.U.setTop { g with stack := rest }).pushFrame (.throwing q))) := by
  subst hg
  have hpl : e.platform.magicAccessors = ({} : Platform).magicAccessors := by rw [X.admits.platform]
  obtain ⟨mk, methM, cM, kP, vm₁, hnamed, hmethM, hcodeM, -, hlocalsM, -, hkP, -, hW₁, hstep₁⟩ := Steps.initColdArgsNest (e := e) X.here hexec X.warmed hpl hown hy1 hy hlink hinst hcode (f := g) rfl hlen hstack hdg
  have X₁ := X.noted hW₁
  rcases hK g.method meth c ⟨T.setVm vm₁, locs, cells, slots⟩ { g with stack := rest } (.invokespecial index) mk (Value.ref a :: argsL).toArray X₁ rfl hsize hdg hW (X₁.named hnamed) (hpre vm₁ X₁.warmed) with ⟨v, B, X', hpost, hsteps⟩ | ⟨q, B, X', hpost, hsteps⟩
  · exact Or.inl ⟨v, vm₁, B, X₁.warmed, X', hpost, fun target h => hstep₁ _ fun acts => by rw [doInvoke_state]; exact hsteps.trans h⟩
  · exact Or.inr ⟨q, vm₁, B, X₁.warmed, X', hpost, hstep₁ _ fun acts => by rw [doInvoke_state]; exact hsteps⟩
end VXIC
section VXID
variable {p : Program} {l : Launch} {e : Env} {R : Room} {s : State} {m : MethodId} {args : Array Value} {below : List Frame} {meth : Method} {c : Code} {H : Heap} {locs : List Loc} {cells slots : Nat}
theorem vx_runIN {y : MethodName} {bytes cc : ByteArray} {maxL nL mc ms n index : Nat} {ws : List Cond} {rm : Room} {Pc : Array Value → State → Prop} {Qc : Array Value → State → Outcome → State → Prop} {XC : String → State → State → Prop} {free : Addr → Prop} {Ts : List Cond} {own host : String} {b : Addr} {As rest : List Value} {g : JFrame}
    (S : CallFix p m c cc nL s args Ts own) (hM : vx_Met l y ws rm Pc Qc XC mc ms free) (cw : va_CN R s args own index y host bytes maxL none ws rm mc ms n ∧ y.name = "<init>" ∧ (Cond.instanceMethod y).before args s = true) (hp : PreS s H Pc (.ref b :: As))
    (hg : g.method = m) (hn : As.length = n) (hsize : g.locals.size = nL) (hstack : g.stack = As.reverse ++ .ref b :: rest) (hW : 2 * g.monitorRoom + (rest.map fun v => v.category).sum ≤ 8) (hdg : decode cc g.pc = .ok (.invokespecial index, 3)) (hf : cells + mc ≤ R.cells ∧ slots + ms ≤ R.slots) :
    vx_Run p l e R s m args below meth c H locs cells slots mc ms g rest (Qc (Value.ref b :: As).toArray) XC free := by
  obtain ⟨⟨⟨hrc, hrs, hfr, hlo, hws, hcw⟩, hcode, hini, hy, hlen, hl⟩, hx1, hx2⟩ := cw
  have hK : vx_Back l R p e below s args y 3 8 (PreOf R mc ms Pc) (PostOf Qc mc ms free) (vx_Post XC mc ms free) := vx_back (bytes := bytes) (maxL := maxL) (ret := none) hM hp.1 hrc hrs hfr hlo hws hcw (fun a' U hW => word_at hW (Or.inl (by first | rfl | simp [Cond.onTables, Cond.keeps, Cond.steady])) hini)
  obtain ⟨hx, hb, hml, ho, -⟩ := S
  have hPc := hp.2
  intro T hT X
  rcases vx_callIN X hx (bytes := bytes) (maxL := maxL) ho hx1 hl hx2 hcode hy hK hg (hsize.trans hml.symm) (a := b) (argsL := As) (rest := rest) (fun sig h => hn.trans (hlen sig h)) hstack hW (by rw [hb]; exact hdg)
    (fun vm₁ hW₁ => ⟨hf.1, hf.2, hPc (T.setVm vm₁) hT hW₁⟩) with ⟨v, vm₁, ⟨U', l2, c2, s2⟩, hW₁, X', ⟨g', mk, t, L, e1, e2, hq, h1, hL, h2, h3⟩, st⟩ | ⟨q, vm₁, ⟨U', l2, c2, s2⟩, hW₁, X', ⟨g', mk, t, L, E, ce, e1, e2, hq, hce, hcv, hcl, h1, hL, h2, h3⟩, st⟩
  · dsimp only [Pt.U, Pt.locs, Pt.cells, Pt.slots] at X' e1 e2 h1 h2 h3 st
    subst h1; subst h2; subst h3
    exact Or.inl ⟨v, (T.setVm vm₁).calling g' mk (Value.ref b :: As).toArray, t, U', L, hT, X', hL, e1, e2, hq, st⟩
  · dsimp only [Pt.U, Pt.locs, Pt.cells, Pt.slots] at X' e1 e2 h1 h2 h3 st hcl
    subst h1; subst h2; subst h3
    exact Or.inr ⟨q, (T.setVm vm₁).calling g' mk (Value.ref b :: As).toArray, t, U', L, E, ce, hT, X', hL, e1, e2, hq, hce, hcv, vx_cls hW₁ hcl, st⟩
end VXID
/-! ===== END ===== -/
/-! ===== BEGIN a method of a class above, found by the receiver, that may throw (follows va_callVU, va_runU of this kit) ===== -/
section
variable {p : Program} {l : Launch} {e : Env} {R : Room} {s : State} {m : MethodId} {args : Array Value} {below : List Frame} {meth : Method} {c : Code} {H : Heap} {locs : List Loc} {cells slots : Nat}
theorem vx_callVU {T : State} {locs : List Loc} {cells slots : Nat} (X : Stand p l e R s m args below meth c T locs cells slots) (hexec : p.tables.exec = Jvm.exec) {own C owner : String} {index : Nat} {x y : MethodName} {bytes : ByteArray} {maxL : Nat} {ret : Option FieldType}
    (hown : s.vm.findClass own = some m.cls) (hlink : (Cond.methodLink own index x).before args s = true) (hsame : (Cond.sameMethod x.cls owner x.name x.desc).before args s = true)
    (hd0 : va_Decl s ⟨owner, x.name, x.desc⟩) (howner : owner ≠ "java/lang/invoke/MethodHandle" ∧ owner ≠ "java/lang/invoke/VarHandle")
    (hsel : (Cond.selects C x y).before args s = true) (hinst : (Cond.instanceMethod y).before args s = true) (hcode : (Cond.code y bytes maxL ret).before args s = true)
    {W : Nat} {Pre : Pt → Array Value → Prop} {Post : Pt → Array Value → Option Value → Pt → Prop} {PostX : Pt → Array Value → Addr → Pt → Prop} (hK : vx_Back l R p e below s args y 3 W Pre Post PostX)
    {b : Addr} {cellB : Cell} (hcell : T.heap[b]? = some cellB) (hobj : cellB.vm.isStatics = false) (hcls : s.vm.findClass C = some cellB.cls)
    {g : JFrame} (hg : g.method = m) (hsize : g.locals.size = c.maxLocals) {argsL rest : List Value} (hlen : ∀ sig, parseMethodDescriptor x.desc = some sig → argsL.length = sig.parameters.length)
    (hstack : g.stack = argsL.reverse ++ .ref b :: rest) (hW : 2 * g.monitorRoom + (rest.map fun v => v.category).sum ≤ W) (hdg : decode c.code g.pc = .ok (.invokevirtual index, 3))
    (hpre : ∀ vm₁, s.WarmedH vm₁ → Pre ⟨T.setVm vm₁, locs, cells, slots⟩ (Value.ref b :: argsL).toArray) :
    (∃ (v : Option Value) (vm₁ : Vm) (B : Pt), s.WarmedH vm₁ ∧ Stand p l e R s m args below meth c B.U B.locs B.cells B.slots ∧ Post ⟨T.setVm vm₁, locs, cells, slots⟩ (Value.ref b :: argsL).toArray v B ∧
      ∀ target, Steps p.tables e below (B.U.setTop { g with pc := g.pc + 3, stack := v.toList ++ rest }) target → Steps p.tables e below (T.setTop g) target) ∨
    (∃ (q : Addr) (vm₁ : Vm) (B : Pt), s.WarmedH vm₁ ∧ Stand p l e R s m args below meth c B.U B.locs B.cells B.slots ∧ PostX ⟨T.setVm vm₁, locs, cells, slots⟩ (Value.ref b :: argsL).toArray q B ∧
      Steps p.tables e below (T.setTop g) ((B.U.setTop { g with stack := rest }).pushFrame (.throwing q))) := by
  obtain ⟨r0, r, hn, hrm, hstR, hsigR⟩ := hd0
  obtain ⟨cn, ck, r1, hcn, hck, hni, hf, hn1⟩ := Cond.sameMethod_found hsame
  cases hn.symm.trans hn1
  obtain ⟨mk, methM, hnamed, hmethM, -, habM⟩ := Cond.instanceMethod_spec hinst
  obtain ⟨c2, r2, m2, q1, q2, q3, q4, kP, hkP, hkPi⟩ := Cond.selects_spec hsel
  cases hcls.symm.trans q1
  cases hf.symm.trans q2
  cases hnamed.symm.trans q3
  have hselP : selectMethod e.platform s.vm cellB.cls r0 = .method mk := by rw [Launch.admits_selectMethod X.admits]; exact q4
  obtain ⟨vm₁, X₁, hstep₁⟩ := X.invokevirtualUp hexec hown hlink hsame howner hn hrm hstR (a := b) (cell := cellB) hcell
    (fun z h => by rw [h] at hobj; cases hobj) hselP hmethM habM hkP hkPi (g := g) hg (argsL := argsL) (rest := rest) (hlen _ hsigR) hstack hdg
  rcases hK m meth c ⟨T.setVm vm₁, locs, cells, slots⟩ { g with stack := rest } (.invokevirtual index) mk (Value.ref b :: argsL).toArray X₁ hg hsize hdg hW (X₁.named hnamed) (hpre vm₁ X₁.warmed) with ⟨v, B, X', hpost, hsteps⟩ | ⟨q, B, X', hpost, hsteps⟩
  · exact Or.inl ⟨v, vm₁, B, X₁.warmed, X', hpost, fun target h => hstep₁ _ fun acts => by rw [doInvoke_state]; exact hsteps.trans h⟩
  · exact Or.inr ⟨q, vm₁, B, X₁.warmed, X', hpost, hstep₁ _ fun acts => by rw [doInvoke_state]; exact hsteps⟩
theorem vx_runU {x y : MethodName} {bytes cc : ByteArray} {maxL nL mc ms n index : Nat} {ret : Option FieldType} {ws : List Cond} {rm : Room} {Pc : Array Value → State → Prop} {Qc : Array Value → State → Outcome → State → Prop} {XC : String → State → State → Prop} {free : Addr → Prop} {Ts : List Cond} {own C owner : String} {b : Addr} {As rest : List Value} {g : JFrame}
    (S : CallFix p m c cc nL s args Ts own) (hM : vx_Met l y ws rm Pc Qc XC mc ms free) (cw : va_CU R s args own C owner index x y bytes maxL ret ws rm mc ms n) (hp : PreV s H C b Pc As)
    (hg : g.method = m) (hn : As.length = n) (hsize : g.locals.size = nL) (hstack : g.stack = As.reverse ++ .ref b :: rest) (hW : 2 * g.monitorRoom + (rest.map fun v => v.category).sum ≤ 8) (hdg : decode cc g.pc = .ok (.invokevirtual index, 3)) (hf : cells + mc ≤ R.cells ∧ slots + ms ≤ R.slots) :
    vx_Run p l e R s m args below meth c H locs cells slots mc ms g rest (Qc (Value.ref b :: As).toArray) XC free := by
  obtain ⟨hrc, hrs, hfr, hlo, hws, hcw⟩ := cw.back
  have hini := cw.init
  have hK : vx_Back l R p e below s args y 3 8 (PreOf R mc ms Pc) (PostOf Qc mc ms free) (vx_Post XC mc ms free) := vx_back (bytes := bytes) (maxL := maxL) (ret := ret) hM hp.1 hrc hrs hfr hlo hws hcw (fun a' U hW => word_at hW (Or.inl (by first | rfl | simp [Cond.onTables, Cond.keeps, Cond.steady])) hini)
  obtain ⟨hx, hb, hml, ho, -⟩ := S
  obtain ⟨-, ⟨cellB, hcB, hoB, hclB⟩, hPc⟩ := hp
  intro T hT X
  rcases vx_callVU X hx (C := C) (owner := owner) (bytes := bytes) (maxL := maxL) (ret := ret) ho cw.link cw.same cw.decl cw.notMH cw.sel cw.inst cw.code hK (by rw [hT]; exact hcB) hoB hclB hg (hsize.trans hml.symm) (argsL := As) (rest := rest) (fun sig h => hn.trans (cw.len sig h)) hstack hW (by rw [hb]; exact hdg)
    (fun vm₁ hW₁ => ⟨hf.1, hf.2, hPc (T.setVm vm₁) hT hW₁⟩) with ⟨v, vm₁, ⟨U', l2, c2, s2⟩, hW₁, X', ⟨g', mk, t, L, e1, e2, hq, h1, hL, h2, h3⟩, st⟩ | ⟨q, vm₁, ⟨U', l2, c2, s2⟩, hW₁, X', ⟨g', mk, t, L, E, ce, e1, e2, hq, hce, hcv, hcl, h1, hL, h2, h3⟩, st⟩
  · dsimp only [Pt.U, Pt.locs, Pt.cells, Pt.slots] at X' e1 e2 h1 h2 h3 st
    subst h1; subst h2; subst h3
    exact Or.inl ⟨v, (T.setVm vm₁).calling g' mk (Value.ref b :: As).toArray, t, U', L, hT, X', hL, e1, e2, hq, st⟩
  · dsimp only [Pt.U, Pt.locs, Pt.cells, Pt.slots] at X' e1 e2 h1 h2 h3 st hcl
    subst h1; subst h2; subst h3
    exact Or.inr ⟨q, (T.setVm vm₁).calling g' mk (Value.ref b :: As).toArray, t, U', L, E, ce, hT, X', hL, e1, e2, hq, hce, hcv, vx_cls hW₁ hcl, st⟩
end
/-! ===== END ===== -/
/-! ===== BEGIN super.m(..) that may throw (follows va_callSU, va_runSU) ===== -/
section
variable {p : Program} {l : Launch} {e : Env} {R : Room} {s : State} {m : MethodId} {args : Array Value} {below : List Frame} {meth : Method} {c : Code} {H : Heap} {locs : List Loc} {cells slots : Nat}
theorem vx_callSU {T : State} {locs : List Loc} {cells slots : Nat} (X : Stand p l e R s m args below meth c T locs cells slots) (hexec : p.tables.exec = Jvm.exec) {own : String} {index : Nat} {y : MethodName} {bytes : ByteArray} {maxL : Nat} {ret : Option FieldType}
    (hown : s.vm.findClass own = some m.cls) (hlink : (Cond.methodLink own index y).before args s = true) (hsame : (Cond.sameMethod y.cls y.cls y.name y.desc).before args s = true) (hsup : (Cond.superclass own y.cls).before args s = true)
    (hinst : (Cond.instanceMethod y).before args s = true) (hcode : (Cond.code y bytes maxL ret).before args s = true) (hno : y.name ≠ "<init>")
    {W : Nat} {Pre : Pt → Array Value → Prop} {Post : Pt → Array Value → Option Value → Pt → Prop} {PostX : Pt → Array Value → Addr → Pt → Prop} (hK : vx_Back l R p e below s args y 3 W Pre Post PostX)
    {b : Addr} {cellB : Cell} {kB : Class} (hcell : T.heap[b]? = some cellB) (hobj : cellB.vm.isStatics = false) (hkB : s.vm.classes[cellB.cls]? = some kB)
    {g : JFrame} (hg : g.method = m) (hsize : g.locals.size = c.maxLocals) {argsL rest : List Value} (hlen : ∀ sig, parseMethodDescriptor y.desc = some sig → argsL.length = sig.parameters.length)
    (hstack : g.stack = argsL.reverse ++ .ref b :: rest) (hW : 2 * g.monitorRoom + (rest.map fun v => v.category).sum ≤ W) (hdg : decode c.code g.pc = .ok (.invokespecial index, 3))
    (hpre : ∀ vm₁, s.WarmedH vm₁ → Pre ⟨T.setVm vm₁, locs, cells, slots⟩ (Value.ref b :: argsL).toArray) :
    (∃ (v : Option Value) (vm₁ : Vm) (B : Pt), s.WarmedH vm₁ ∧ Stand p l e R s m args below meth c B.U B.locs B.cells B.slots ∧ Post ⟨T.setVm vm₁, locs, cells, slots⟩ (Value.ref b :: argsL).toArray v B ∧
      ∀ target, Steps p.tables e below (B.U.setTop { g with pc := g.pc + 3, stack := v.toList ++ rest }) target → Steps p.tables e below (T.setTop g) target) ∨
    (∃ (q : Addr) (vm₁ : Vm) (B : Pt), s.WarmedH vm₁ ∧ Stand p l e R s m args below meth c B.U B.locs B.cells B.slots ∧ PostX ⟨T.setVm vm₁, locs, cells, slots⟩ (Value.ref b :: argsL).toArray q B ∧
      Steps p.tables e below (T.setTop g) ((B.U.setTop { g with stack := rest }).pushFrame (.throwing q))) := by
  obtain ⟨mk, methM, hnamed, hmethM, hstM, habM⟩ := Cond.instanceMethod_spec hinst
  obtain ⟨methM', cM, hmethM', -, -, -, -, -, -, hsigM⟩ := Cond.code_spec hnamed hcode
  cases hmethM.symm.trans hmethM'
  obtain ⟨ps, dk, kp, hps, hdk, hkp, hsuper, -, -, hnid⟩ := Cond.superclass_spec hown hsup
  have hn : s.methodNamed? ⟨y.cls, y.name, y.desc⟩ = some mk := hnamed
  have hpm : ps = mk.cls := Option.some.inj (hps.symm.trans (findClass_of_methodNamed hnamed))
  have hsub : s.vm.isSubclass ps mk.cls = true := by rw [hpm]; simp [Vm.isSubclass, Vm.isSubclassAux]
  obtain ⟨vm₁, X₁, hstep₁⟩ := X.invokespecialUp hexec hown hlink hsame hn hmethM hstM habM hno hdk hnid hps hsuper hsub (a := b) (cell := cellB) hcell
    (fun z h => by rw [h] at hobj; cases hobj) hkB (g := g) hg (argsL := argsL) (rest := rest) (hlen _ hsigM) hstack hdg
  rcases hK m meth c ⟨T.setVm vm₁, locs, cells, slots⟩ { g with stack := rest } (.invokespecial index) mk (Value.ref b :: argsL).toArray X₁ hg hsize hdg hW (X₁.named hnamed) (hpre vm₁ X₁.warmed) with ⟨v, B, X', hpost, hsteps⟩ | ⟨q, B, X', hpost, hsteps⟩
  · exact Or.inl ⟨v, vm₁, B, X₁.warmed, X', hpost, fun target h => hstep₁ _ (by rw [doInvoke_state]; exact hsteps.trans h)⟩
  · exact Or.inr ⟨q, vm₁, B, X₁.warmed, X', hpost, hstep₁ _ (by rw [doInvoke_state]; exact hsteps)⟩
theorem vx_runSU {y : MethodName} {bytes cc : ByteArray} {maxL nL mc ms n index : Nat} {ret : Option FieldType} {ws : List Cond} {rm : Room} {Pc : Array Value → State → Prop} {Qc : Array Value → State → Outcome → State → Prop} {XC : String → State → State → Prop} {free : Addr → Prop} {Ts : List Cond} {own C : String} {cC : ClassId} {b : Addr} {As rest : List Value} {g : JFrame}
    (hat : ClassAt s C cC) (S : CallFix p m c cc nL s args Ts own) (hM : vx_Met l y ws rm Pc Qc XC mc ms free) (cw : va_CS R s args own index y bytes maxL ret ws rm mc ms n) (hp : PreV s H C b Pc As)
    (hg : g.method = m) (hn : As.length = n) (hsize : g.locals.size = nL) (hstack : g.stack = As.reverse ++ .ref b :: rest) (hW : 2 * g.monitorRoom + (rest.map fun v => v.category).sum ≤ 8) (hdg : decode cc g.pc = .ok (.invokespecial index, 3)) (hf : cells + mc ≤ R.cells ∧ slots + ms ≤ R.slots) :
    vx_Run p l e R s m args below meth c H locs cells slots mc ms g rest (Qc (Value.ref b :: As).toArray) XC free := by
  obtain ⟨⟨hrc, hrs, hfr, hlo, hws, hcw⟩, hl1, hl2, hl3, hl4, hini, hcode, hno, hlen⟩ := cw
  have hK : vx_Back l R p e below s args y 3 8 (PreOf R mc ms Pc) (PostOf Qc mc ms free) (vx_Post XC mc ms free) := vx_back (bytes := bytes) (maxL := maxL) (ret := ret) hM hp.1 hrc hrs hfr hlo hws hcw (fun a' U hW => word_at hW (Or.inl (by first | rfl | simp [Cond.onTables, Cond.keeps, Cond.steady])) hini)
  obtain ⟨hx, hb, hml, ho, -⟩ := S
  obtain ⟨-, ⟨cellB, hcB, hoB, hclB⟩, hPc⟩ := hp
  obtain ⟨hfc, kB, hkB, -⟩ := hat
  cases hfc.symm.trans hclB
  intro T hT X
  rcases vx_callSU X hx (bytes := bytes) (maxL := maxL) (ret := ret) ho hl1 hl2 hl3 hl4 hcode hno hK (by rw [hT]; exact hcB) hoB hkB hg (hsize.trans hml.symm) (argsL := As) (rest := rest) (fun sig h => hn.trans (hlen sig h)) hstack hW (by rw [hb]; exact hdg)
    (fun vm₁ hW₁ => ⟨hf.1, hf.2, hPc (T.setVm vm₁) hT hW₁⟩) with ⟨v, vm₁, ⟨U', l2, c2, s2⟩, hW₁, X', ⟨g', mk, t, L, e1, e2, hq, h1, hL, h2, h3⟩, st⟩ | ⟨q, vm₁, ⟨U', l2, c2, s2⟩, hW₁, X', ⟨g', mk, t, L, E, ce, e1, e2, hq, hce, hcv, hcl, h1, hL, h2, h3⟩, st⟩
  · dsimp only [Pt.U, Pt.locs, Pt.cells, Pt.slots] at X' e1 e2 h1 h2 h3 st
    subst h1; subst h2; subst h3
    exact Or.inl ⟨v, (T.setVm vm₁).calling g' mk (Value.ref b :: As).toArray, t, U', L, hT, X', hL, e1, e2, hq, st⟩
  · dsimp only [Pt.U, Pt.locs, Pt.cells, Pt.slots] at X' e1 e2 h1 h2 h3 st hcl
    subst h1; subst h2; subst h3
    exact Or.inr ⟨q, (T.setVm vm₁).calling g' mk (Value.ref b :: As).toArray, t, U', L, E, ce, hT, X', hL, e1, e2, hq, hce, hcv, vx_cls hW₁ hcl, st⟩
end
/-! ===== END ===== -/
/-! ===== BEGIN a private method of a nest mate that may throw (follows va_callVN, va_callSN, va_runVN, va_runSN) ===== -/
section
variable {p : Program} {l : Launch} {e : Env} {R : Room} {s : State} {m : MethodId} {args : Array Value} {below : List Frame} {meth : Method} {c : Code} {H : Heap} {locs : List Loc} {cells slots : Nat}
variable {T : State}
theorem vx_callVN (X : Stand p l e R s m args below meth c T locs cells slots) (hexec : p.tables.exec = Jvm.exec) {own C : String} {index : Nat} {host : String} {y : MethodName} {bytes : ByteArray} {maxL : Nat} {ret : Option FieldType}
    (hown : s.vm.findClass own = some m.cls) (hlink : (Cond.methodLinkNest own index y host).before args s = true) (hinst : (Cond.instanceMethod y).before args s = true) (hsel : (Cond.selects C y y).before args s = true)
    (hcode : (Cond.code y bytes maxL ret).before args s = true) (hy : y.cls ≠ "java/lang/invoke/MethodHandle" ∧ y.cls ≠ "java/lang/invoke/VarHandle")
    {W : Nat} {Pre : Pt → Array Value → Prop} {Post : Pt → Array Value → Option Value → Pt → Prop} {PostX : Pt → Array Value → Addr → Pt → Prop} (hK : vx_Back l R p e below s args y 3 W Pre Post PostX)
    {b : Addr} {cellB : Cell} (hcell : T.heap[b]? = some cellB) (hobj : cellB.vm.isStatics = false) (hcls : s.vm.findClass C = some cellB.cls)
    {g : JFrame} (hg : g.method = m) (hsize : g.locals.size = c.maxLocals) {argsL rest : List Value} (hlen : ∀ sig, parseMethodDescriptor y.desc = some sig → argsL.length = sig.parameters.length)
    (hstack : g.stack = argsL.reverse ++ .ref b :: rest) (hW : 2 * g.monitorRoom + (rest.map fun v => v.category).sum ≤ W) (hdg : decode c.code g.pc = .ok (.invokevirtual index, 3))
    (hpre : ∀ vm₁, s.WarmedH vm₁ → Pre ⟨T.setVm vm₁, locs, cells, slots⟩ (Value.ref b :: argsL).toArray) :
    (∃ (v : Option Value) (vm₁ : Vm) (B : Pt), s.WarmedH vm₁ ∧ Stand p l e R s m args below meth c B.U B.locs B.cells B.slots ∧ Post ⟨T.setVm vm₁, locs, cells, slots⟩ (Value.ref b :: argsL).toArray v B ∧
      ∀ target, Steps p.tables e below (B.U.setTop { g with pc := g.pc + 3, stack := v.toList ++ rest }) target → Steps p.tables e below (T.setTop g) target) ∨
    (∃ (q : Addr) (vm₁ : Vm) (B : Pt), s.WarmedH vm₁ ∧ Stand p l e R s m args below meth c B.U B.locs B.cells B.slots ∧ PostX ⟨T.setVm vm₁, locs, cells, slots⟩ (Value.ref b :: argsL).toArray q B ∧
      Steps p.tables e below (T.setTop g) ((B.U.setTop { g with stack := rest }).pushFrame (.throwing q))) := by
  obtain ⟨mk, methM, hnamed, hmethM, hstM, habM⟩ := Cond.instanceMethod_spec hinst
  obtain ⟨methM', cM, hmethM', -, -, -, -, -, -, hsigM⟩ := Cond.code_spec hnamed hcode
  cases hmethM.symm.trans hmethM'
  obtain ⟨c2, r2, m2, q1, q2, q3, q4, kP, hkP, hkPi⟩ := Cond.selects_spec hsel
  cases hcls.symm.trans q1
  cases (State.methodFound?_of_named hnamed hy).symm.trans q2
  cases hnamed.symm.trans q3
  have hselP : selectMethod e.platform s.vm cellB.cls mk = .method mk := by rw [Launch.admits_selectMethod X.admits]; exact q4
  obtain ⟨vm₁, X₁, hstep₁⟩ := X.invokevirtualNest hexec hown hlink hnamed hmethM hstM hkP hkPi hy (a := b) (cell := cellB) hcell
    (fun z h => by rw [h] at hobj; cases hobj) hselP hmethM habM hkP hkPi (g := g) hg (argsL := argsL) (rest := rest) (hlen _ hsigM) hstack hdg
  rcases hK m meth c ⟨T.setVm vm₁, locs, cells, slots⟩ { g with stack := rest } (.invokevirtual index) mk (Value.ref b :: argsL).toArray X₁ hg hsize hdg hW (X₁.named hnamed) (hpre vm₁ X₁.warmed) with ⟨v, B, X', hpost, hsteps⟩ | ⟨q, B, X', hpost, hsteps⟩
  · exact Or.inl ⟨v, vm₁, B, X₁.warmed, X', hpost, fun target h => hstep₁ _ fun acts => by rw [doInvoke_state]; exact hsteps.trans h⟩
  · exact Or.inr ⟨q, vm₁, B, X₁.warmed, X', hpost, hstep₁ _ fun acts => by rw [doInvoke_state]; exact hsteps⟩
theorem vx_callSN (X : Stand p l e R s m args below meth c T locs cells slots) (hexec : p.tables.exec = Jvm.exec) {own : String} {index : Nat} {host : String} {y : MethodName} {bytes : ByteArray} {maxL : Nat} {ret : Option FieldType}
    (hown : s.vm.findClass own = some m.cls) (hlink : (Cond.methodLinkNest own index y host).before args s = true) (hstat : (Cond.static y).before args s = true) (hinit : (Cond.initialized y.cls).before args s = true)
    (hcode : (Cond.code y bytes maxL ret).before args s = true) (hy : y.cls ≠ "java/lang/invoke/MethodHandle" ∧ y.cls ≠ "java/lang/invoke/VarHandle")
    {W : Nat} {Pre : Pt → Array Value → Prop} {Post : Pt → Array Value → Option Value → Pt → Prop} {PostX : Pt → Array Value → Addr → Pt → Prop} (hK : vx_Back l R p e below s args y 3 W Pre Post PostX)
    {g : JFrame} (hg : g.method = m) (hsize : g.locals.size = c.maxLocals) {argsL rest : List Value} (hlen : ∀ sig, parseMethodDescriptor y.desc = some sig → argsL.length = sig.parameters.length)
    (hstack : g.stack = argsL.reverse ++ rest) (hW : 2 * g.monitorRoom + (rest.map fun v => v.category).sum ≤ W) (hdg : decode c.code g.pc = .ok (.invokestatic index, 3))
    (hpre : ∀ vm₁, s.WarmedH vm₁ → Pre ⟨T.setVm vm₁, locs, cells, slots⟩ argsL.toArray) :
    (∃ (v : Option Value) (vm₁ : Vm) (B : Pt), s.WarmedH vm₁ ∧ Stand p l e R s m args below meth c B.U B.locs B.cells B.slots ∧ Post ⟨T.setVm vm₁, locs, cells, slots⟩ argsL.toArray v B ∧
      ∀ target, Steps p.tables e below (B.U.setTop { g with pc := g.pc + 3, stack := v.toList ++ rest }) target → Steps p.tables e below (T.setTop g) target) ∨
    (∃ (q : Addr) (vm₁ : Vm) (B : Pt), s.WarmedH vm₁ ∧ Stand p l e R s m args below meth c B.U B.locs B.cells B.slots ∧ PostX ⟨T.setVm vm₁, locs, cells, slots⟩ argsL.toArray q B ∧
      Steps p.tables e below (T.setTop g) ((B.U.setTop { g with stack := rest }).pushFrame (.throwing q))) := by
  obtain ⟨mk, hnamed⟩ := Cond.code_named hcode
  obtain ⟨methM, cM, hmethM, -, -, -, -, -, -, hsigM⟩ := Cond.code_spec hnamed hcode
  have hstatic : methM.isStatic = true := Cond.static_spec hnamed hmethM hstat
  obtain ⟨kP, hkP, -⟩ := className_of_methodNamed hnamed
  have hinitP : kP.init = .initialized := Cond.initialized_spec (findClass_of_methodNamed hnamed) hkP hinit
  obtain ⟨vm₁, X₁, hstep₁⟩ := X.invokestaticNest hexec hown hlink hnamed hmethM hstatic hkP hinitP hy (g := g) hg (argsL := argsL) (rest := rest) (hlen _ hsigM) hstack hdg
  rcases hK m meth c ⟨T.setVm vm₁, locs, cells, slots⟩ { g with stack := rest } (.invokestatic index) mk argsL.toArray X₁ hg hsize hdg hW (X₁.named hnamed) (hpre vm₁ X₁.warmed) with ⟨v, B, X', hpost, hsteps⟩ | ⟨q, B, X', hpost, hsteps⟩
  · exact Or.inl ⟨v, vm₁, B, X₁.warmed, X', hpost, fun target h => hstep₁ _ fun acts => by rw [doInvoke_state]; exact hsteps.trans h⟩
  · exact Or.inr ⟨q, vm₁, B, X₁.warmed, X', hpost, hstep₁ _ fun acts => by rw [doInvoke_state]; exact hsteps⟩
theorem vx_runVN {y : MethodName} {bytes cc : ByteArray} {maxL nL mc ms n index : Nat} {ret : Option FieldType} {ws : List Cond} {rm : Room} {Pc : Array Value → State → Prop} {Qc : Array Value → State → Outcome → State → Prop} {XC : String → State → State → Prop} {free : Addr → Prop} {Ts : List Cond} {own C host : String} {b : Addr} {As rest : List Value} {g : JFrame}
    (S : CallFix p m c cc nL s args Ts own) (hM : vx_Met l y ws rm Pc Qc XC mc ms free) (cw : va_CN R s args own index y host bytes maxL ret ws rm mc ms n ∧ (Cond.instanceMethod y).before args s = true ∧ (Cond.selects C y y).before args s = true) (hp : PreV s H C b Pc As)
    (hg : g.method = m) (hn : As.length = n) (hsize : g.locals.size = nL) (hstack : g.stack = As.reverse ++ .ref b :: rest) (hW : 2 * g.monitorRoom + (rest.map fun v => v.category).sum ≤ 8) (hdg : decode cc g.pc = .ok (.invokevirtual index, 3)) (hf : cells + mc ≤ R.cells ∧ slots + ms ≤ R.slots) :
    vx_Run p l e R s m args below meth c H locs cells slots mc ms g rest (Qc (Value.ref b :: As).toArray) XC free := by
  obtain ⟨⟨⟨hrc, hrs, hfr, hlo, hws, hcw⟩, hcode, hini, hy, hlen, hl⟩, hx1, hx2⟩ := cw
  have hK : vx_Back l R p e below s args y 3 8 (PreOf R mc ms Pc) (PostOf Qc mc ms free) (vx_Post XC mc ms free) := vx_back (bytes := bytes) (maxL := maxL) (ret := ret) hM hp.1 hrc hrs hfr hlo hws hcw (fun a' U hW => word_at hW (Or.inl (by first | rfl | simp [Cond.onTables, Cond.keeps, Cond.steady])) hini)
  obtain ⟨hx, hb, hml, ho, -⟩ := S
  obtain ⟨-, ⟨cellB, hcB, hoB, hclB⟩, hPc⟩ := hp
  intro T hT X
  rcases vx_callVN X hx (C := C) (bytes := bytes) (maxL := maxL) (ret := ret) ho hl hx1 hx2 hcode hy hK (by rw [hT]; exact hcB) hoB hclB hg (hsize.trans hml.symm) (argsL := As) (rest := rest) (fun sig h => hn.trans (hlen sig h)) hstack hW (by rw [hb]; exact hdg)
    (fun vm₁ hW₁ => ⟨hf.1, hf.2, hPc (T.setVm vm₁) hT hW₁⟩) with ⟨v, vm₁, ⟨U', l2, c2, s2⟩, hW₁, X', ⟨g', mk, t, L, e1, e2, hq, h1, hL, h2, h3⟩, st⟩ | ⟨q, vm₁, ⟨U', l2, c2, s2⟩, hW₁, X', ⟨g', mk, t, L, E, ce, e1, e2, hq, hce, hcv, hcl, h1, hL, h2, h3⟩, st⟩
  · dsimp only [Pt.U, Pt.locs, Pt.cells, Pt.slots] at X' e1 e2 h1 h2 h3 st
    subst h1; subst h2; subst h3
    exact Or.inl ⟨v, (T.setVm vm₁).calling g' mk (Value.ref b :: As).toArray, t, U', L, hT, X', hL, e1, e2, hq, st⟩
  · dsimp only [Pt.U, Pt.locs, Pt.cells, Pt.slots] at X' e1 e2 h1 h2 h3 st hcl
    subst h1; subst h2; subst h3
    exact Or.inr ⟨q, (T.setVm vm₁).calling g' mk (Value.ref b :: As).toArray, t, U', L, E, ce, hT, X', hL, e1, e2, hq, hce, hcv, vx_cls hW₁ hcl, st⟩
theorem vx_runSN {y : MethodName} {bytes cc : ByteArray} {maxL nL mc ms n index : Nat} {ret : Option FieldType} {ws : List Cond} {rm : Room} {Pc : Array Value → State → Prop} {Qc : Array Value → State → Outcome → State → Prop} {XC : String → State → State → Prop} {free : Addr → Prop} {Ts : List Cond} {own host : String} {As rest : List Value} {g : JFrame}
    (S : CallFix p m c cc nL s args Ts own) (hM : vx_Met l y ws rm Pc Qc XC mc ms free) (cw : va_CN R s args own index y host bytes maxL ret ws rm mc ms n ∧ (Cond.static y).before args s = true ∧ True) (hp : PreS s H Pc As)
    (hg : g.method = m) (hn : As.length = n) (hsize : g.locals.size = nL) (hstack : g.stack = As.reverse ++ rest) (hW : 2 * g.monitorRoom + (rest.map fun v => v.category).sum ≤ 8) (hdg : decode cc g.pc = .ok (.invokestatic index, 3)) (hf : cells + mc ≤ R.cells ∧ slots + ms ≤ R.slots) :
    vx_Run p l e R s m args below meth c H locs cells slots mc ms g rest (Qc As.toArray) XC free := by
  obtain ⟨⟨⟨hrc, hrs, hfr, hlo, hws, hcw⟩, hcode, hini, hy, hlen, hl⟩, hx1, hx2⟩ := cw
  have hK : vx_Back l R p e below s args y 3 8 (PreOf R mc ms Pc) (PostOf Qc mc ms free) (vx_Post XC mc ms free) := vx_back (bytes := bytes) (maxL := maxL) (ret := ret) hM hp.1 hrc hrs hfr hlo hws hcw (fun a' U hW => word_at hW (Or.inl (by first | rfl | simp [Cond.onTables, Cond.keeps, Cond.steady])) hini)
  obtain ⟨hx, hb, hml, ho, -⟩ := S
  have hPc := hp.2
  intro T hT X
  rcases vx_callSN X hx (bytes := bytes) (maxL := maxL) (ret := ret) ho hl hx1 hini hcode hy hK hg (hsize.trans hml.symm) (argsL := As) (rest := rest) (fun sig h => hn.trans (hlen sig h)) hstack hW (by rw [hb]; exact hdg)
    (fun vm₁ hW₁ => ⟨hf.1, hf.2, hPc (T.setVm vm₁) hT hW₁⟩) with ⟨v, vm₁, ⟨U', l2, c2, s2⟩, hW₁, X', ⟨g', mk, t, L, e1, e2, hq, h1, hL, h2, h3⟩, st⟩ | ⟨q, vm₁, ⟨U', l2, c2, s2⟩, hW₁, X', ⟨g', mk, t, L, E, ce, e1, e2, hq, hce, hcv, hcl, h1, hL, h2, h3⟩, st⟩
  · dsimp only [Pt.U, Pt.locs, Pt.cells, Pt.slots] at X' e1 e2 h1 h2 h3 st
    subst h1; subst h2; subst h3
    exact Or.inl ⟨v, (T.setVm vm₁).calling g' mk As.toArray, t, U', L, hT, X', hL, e1, e2, hq, st⟩
  · dsimp only [Pt.U, Pt.locs, Pt.cells, Pt.slots] at X' e1 e2 h1 h2 h3 st hcl
    subst h1; subst h2; subst h3
    exact Or.inr ⟨q, (T.setVm vm₁).calling g' mk As.toArray, t, U', L, E, ce, hT, X', hL, e1, e2, hq, hce, hcv, vx_cls hW₁ hcl, st⟩
end
/-! ===== END ===== -/
/-! ===== BEGIN calls by an interface of methods that may throw (vx_callIF, vx_runF follow va_callIF, va_runF of this kit) ===== -/
section
variable {p : Program} {l : Launch} {e : Env} {R : Room} {s : State} {m : MethodId} {args : Array Value} {below : List Frame} {meth : Method} {c : Code} {H : Heap} {locs : List Loc} {cells slots : Nat} {Q : State → Prop}
variable {mc ms : Nat} {free : Addr → Prop} {A0 A1 : Nat → Prop} {H0 : Heap} {a : Array Value} {pc : Nat} {ls : Array Slot} {st0 rest : List Value}
def vx_Run5 (p : Program) (l : Launch) (e : Env) (R : Room) (s : State) (m : MethodId) (args : Array Value) (below : List Frame) (meth : Method) (c : Code) (H : Heap) (locs : List Loc) (cells slots mc ms : Nat) (g : JFrame) (rest : List Value) (Qa : State → Outcome → State → Prop) (XC : String → State → State → Prop) (free : Addr → Prop) : Prop :=
  ∀ T : State, T.heap = H → Stand p l e R s m args below meth c T locs cells slots →
    (∃ (v : Option Value) (st₀ t T' : State) (L : List Loc), st₀.heap = H ∧ Stand p l e R s m args below meth c T' (locs ++ L) (cells + mc) (slots + ms) ∧ (∀ q ∈ L, free q.base) ∧ T'.heap = t.heap ∧ T'.vm = t.vm ∧ Qa st₀ (.returned v) t ∧
      Goes p e below T g T' { g with pc := g.pc + 5, stack := v.toList ++ rest }) ∨
    (∃ (q : Addr) (st₀ t T' : State) (L : List Loc) (E : String) (ce : Cell), st₀.heap = H ∧ Stand p l e R s m args below meth c T' (locs ++ L) (cells + mc) (slots + ms) ∧ (∀ z ∈ L, free z.base) ∧ T'.heap = t.heap ∧ T'.vm = t.vm ∧ XC E st₀ t ∧ t.heap[q]? = some ce ∧ ce.vm = .none ∧ s.vm.findClass E = some ce.cls ∧
      Steps p.tables e below (T.setTop g) ((T'.setTop { g with stack := rest }).pushFrame (.throwing q)))
theorem vx_callIF {T : State} (X : Stand p l e R s m args below meth c T locs cells slots) (hexec : p.tables.exec = Jvm.exec) {own C : String} {index count : Nat} {x y : MethodName} {bytes : ByteArray} {maxL : Nat} {ret : Option FieldType}
    (hown : s.vm.findClass own = some m.cls) (hlink : (Cond.methodLink own index x).before args s = true) (hdecl : (Cond.declares x).before args s = true) (hface : (Cond.interfaceMethod x.cls x.cls x.name x.desc).before args s = true)
    (hsel : (Cond.selects C x y).before args s = true) (hinst : (Cond.instanceMethod y).before args s = true) (hpub : (Cond.publicMethod y).before args s = true) (hunh : (Cond.unhidden C x.name x.desc).before args s = true)
    (hcast : (Cond.castable C x.cls).before args s = true) (hcode : (Cond.code y bytes maxL ret).before args s = true) (hx : x.cls ≠ "java/lang/invoke/MethodHandle" ∧ x.cls ≠ "java/lang/invoke/VarHandle")
    {W9 : Nat} {Pre : Pt → Array Value → Prop} {Post : Pt → Array Value → Option Value → Pt → Prop} {PostX : Pt → Array Value → Addr → Pt → Prop} (hK : vx_Back l R p e below s args y 5 W9 Pre Post PostX)
    {b : Addr} {cellB : Cell} {kB : Class} (hcell : T.heap[b]? = some cellB) (hobj : cellB.vm.isStatics = false) (hcls : s.vm.findClass C = some cellB.cls) (hkB : s.vm.classes[cellB.cls]? = some kB)
    {g : JFrame} (hg : g.method = m) (hsize : g.locals.size = c.maxLocals) {argsL rest : List Value} (hlen : ∀ sig, parseMethodDescriptor x.desc = some sig → argsL.length = sig.parameters.length)
    (hstack : g.stack = argsL.reverse ++ .ref b :: rest) (hW : 2 * g.monitorRoom + (rest.map fun v => v.category).sum ≤ W9) (hdg : decode c.code g.pc = .ok (.invokeinterface index count, 5))
    (hpre : ∀ vm₁, s.WarmedH vm₁ → Pre ⟨T.setVm vm₁, locs, cells, slots⟩ (Value.ref b :: argsL).toArray) :
    (∃ (v : Option Value) (vm₁ : Vm) (B : Pt), s.WarmedH vm₁ ∧ Stand p l e R s m args below meth c B.U B.locs B.cells B.slots ∧ Post ⟨T.setVm vm₁, locs, cells, slots⟩ (Value.ref b :: argsL).toArray v B ∧
      ∀ target, Steps p.tables e below (B.U.setTop { g with pc := g.pc + 5, stack := v.toList ++ rest }) target → Steps p.tables e below (T.setTop g) target) ∨
    (∃ (q : Addr) (vm₁ : Vm) (B : Pt), s.WarmedH vm₁ ∧ Stand p l e R s m args below meth c B.U B.locs B.cells B.slots ∧ PostX ⟨T.setVm vm₁, locs, cells, slots⟩ (Value.ref b :: argsL).toArray q B ∧
      Steps p.tables e below (T.setTop g) ((B.U.setTop { g with stack := rest }).pushFrame (.throwing q))) := by
  obtain ⟨r0, r, hn, hrm, hstR, hsigR⟩ := Cond.declares_spec hdecl
  obtain ⟨cL, kL, r1, hcL, hkL, hiL, hfoundL, hn1⟩ := Cond.interfaceMethod_spec hface
  cases hn.symm.trans hn1
  have hr0cls : r0.cls = cL := Option.some.inj ((findClass_of_methodNamed hn).symm.trans hcL)
  obtain ⟨hnameR, hdescR⟩ := name_of_methodNamed hn hrm
  obtain ⟨mk, methM, hnamed, hmethM, -, habM⟩ := Cond.instanceMethod_spec hinst
  obtain ⟨c2, r2, m2, q1, q2, q3, q4, -⟩ := Cond.selects_spec hsel
  cases hcls.symm.trans q1
  cases hfoundL.symm.trans q2
  cases hnamed.symm.trans q3
  have hselP : selectMethod e.platform s.vm cellB.cls r0 = .method mk := by rw [Launch.admits_selectMethod X.admits]; exact q4
  have hpubM : hasFlag methM.accessFlags Acc.public_ = true := Cond.publicMethod_spec hnamed hmethM hpub
  have hway : ((cellB.cls :: s.vm.superclasses cellB.cls).any fun k => (declaredIn s.vm r.name r.desc k).any fun (_, z) => z.isPrivate || z.isStatic) = false := by
    rw [hnameR, hdescR]; exact Cond.unhidden_spec hcls hunh
  obtain ⟨c3, t3, w1, w2, w3⟩ := Cond.castable_spec hcast
  cases hcls.symm.trans w1
  cases hcL.symm.trans w2
  obtain ⟨vm₁, X₁, hstep₁⟩ := X.invokeinterface hexec hown hlink hn hrm hstR (by rw [hr0cls]; exact hkL) hiL hx (a := b) (cell := cellB) (kcell := kB) hcell
    (fun z h => by rw [h] at hobj; cases hobj) hkB (by rw [hr0cls]; exact w3) hselP hmethM hway hpubM habM (g := g) hg (argsL := argsL) (rest := rest) (hlen _ hsigR) hstack hdg
  rcases hK m meth c ⟨T.setVm vm₁, locs, cells, slots⟩ { g with stack := rest } (.invokeinterface index count) mk (Value.ref b :: argsL).toArray X₁ hg hsize hdg hW (X₁.named hnamed) (hpre vm₁ X₁.warmed) with ⟨v, B, X', hpost, hsteps⟩ | ⟨q, B, X', hpost, hsteps⟩
  · exact Or.inl ⟨v, vm₁, B, X₁.warmed, X', hpost, fun target h => hstep₁ _ fun acts => by rw [doInvoke_state]; exact hsteps.trans h⟩
  · exact Or.inr ⟨q, vm₁, B, X₁.warmed, X', hpost, hstep₁ _ fun acts => by rw [doInvoke_state]; exact hsteps⟩
theorem vx_runF {x y : MethodName} {bytes cc : ByteArray} {maxL nL mc ms n index count : Nat} {ret : Option FieldType} {ws : List Cond} {rm : Room} {Pc : Array Value → State → Prop} {Qc : Array Value → State → Outcome → State → Prop} {XC : String → State → State → Prop} {free : Addr → Prop} {Ts : List Cond} {own C : String} {cC : ClassId} {b : Addr} {As rest : List Value} {g : JFrame}
    (hat : ClassAt s C cC) (S : CallFix p m c cc nL s args Ts own) (hM : vx_Met l y ws rm Pc Qc XC mc ms free) (cw : va_CI R s args own C index x y bytes maxL ret ws rm mc ms n) (hp : PreV s H C b Pc As)
    (hg : g.method = m) (hn : As.length = n) (hsize : g.locals.size = nL) (hstack : g.stack = As.reverse ++ .ref b :: rest) (hW : 2 * g.monitorRoom + (rest.map fun v => v.category).sum ≤ 8) (hdg : decode cc g.pc = .ok (.invokeinterface index count, 5)) (hf : cells + mc ≤ R.cells ∧ slots + ms ≤ R.slots) :
    vx_Run5 p l e R s m args below meth c H locs cells slots mc ms g rest (Qc (Value.ref b :: As).toArray) XC free := by
  obtain ⟨hrc, hrs, hfr, hlo, hws, hcw⟩ := cw.back
  have hini := cw.init
  have hK : vx_Back l R p e below s args y 5 8 (PreOf R mc ms Pc) (PostOf Qc mc ms free) (vx_Post XC mc ms free) := vx_back (bytes := bytes) (maxL := maxL) (ret := ret) hM hp.1 hrc hrs hfr hlo hws hcw (fun a' U hW => word_at hW (Or.inl (by first | rfl | simp [Cond.onTables, Cond.keeps, Cond.steady])) hini)
  obtain ⟨hx, hb, hml, ho, -⟩ := S
  obtain ⟨-, ⟨cellB, hcB, hoB, hclB⟩, hPc⟩ := hp
  obtain ⟨hfc, kB, hkB, -⟩ := hat
  cases hfc.symm.trans hclB
  intro T hT X
  rcases vx_callIF X hx (C := C) (bytes := bytes) (maxL := maxL) (ret := ret) ho cw.link cw.decl cw.face cw.sel cw.inst cw.pub cw.unh cw.cast cw.code cw.notMH hK (by rw [hT]; exact hcB) hoB hclB hkB hg (hsize.trans hml.symm) (argsL := As) (rest := rest) (fun sig h => hn.trans (cw.len sig h)) hstack hW (by rw [hb]; exact hdg)
    (fun vm₁ hW₁ => ⟨hf.1, hf.2, hPc (T.setVm vm₁) hT hW₁⟩) with ⟨v, vm₁, ⟨U', l2, c2, s2⟩, hW₁, X', ⟨g', mk, t, L, e1, e2, hq, h1, hL, h2, h3⟩, st⟩ | ⟨q, vm₁, ⟨U', l2, c2, s2⟩, hW₁, X', ⟨g', mk, t, L, E, ce, e1, e2, hq, hce, hcv, hcl, h1, hL, h2, h3⟩, st⟩
  · dsimp only [Pt.U, Pt.locs, Pt.cells, Pt.slots] at X' e1 e2 h1 h2 h3 st
    subst h1; subst h2; subst h3
    exact Or.inl ⟨v, (T.setVm vm₁).calling g' mk (Value.ref b :: As).toArray, t, U', L, hT, X', hL, e1, e2, hq, st⟩
  · dsimp only [Pt.U, Pt.locs, Pt.cells, Pt.slots] at X' e1 e2 h1 h2 h3 st hcl
    subst h1; subst h2; subst h3
    exact Or.inr ⟨q, (T.setVm vm₁).calling g' mk (Value.ref b :: As).toArray, t, U', L, E, ce, hT, X', hL, e1, e2, hq, hce, hcv, vx_cls hW₁ hcl, st⟩
theorem vx_callFv {S SX : Type} {post : S → Prop} {px : SX → Prop} {B : S → State → Prop} {BX : String → SX → State → Prop} {AX : Nat → Prop} (hr : vx_Run5 p l e R s m args below meth c H locs cells slots mc ms (F0 m pc ls st0) rest (va_Qv post B A1 a) (vx_X px BX AX) free) (hS : va_S A0 H0 H locs) (hA : ∀ q, q < H.size → A1 q → A0 q) (hf : ∀ q, free q → A0 q) (hAX : ∀ q, q < H.size → AX q → A0 q)
    (kx : ∀ (E : String) (ce : Cell) (q9 : Addr) (u : SX) (t : State) (H1 : Heap) (locs1 : List Loc), t.heap = H1 → s.vm.Alike t.vm → px u → BX E u t → H.size ≤ H1.size → (∀ q : Nat, q < H.size → ¬ AX q → H1[q]? = H[q]?) → va_S A0 H0 H1 locs1 → H1[q9]? = some ce → ce.vm = .none → s.vm.findClass E = some ce.cls → vx_W p l e R s m args below meth c H1 locs1 (cells + mc) (slots + ms) Q (F0 m pc ls rest) q9)
    (kk : ∀ (u : S) (t : State) (H1 : Heap) (locs1 : List Loc), t.heap = H1 → s.vm.Alike t.vm → post u → B u t → H.size ≤ H1.size → (∀ q : Nat, q < H.size → ¬ A1 q → H1[q]? = H[q]?) → va_S A0 H0 H1 locs1 → W p l e R s m args below meth c H1 locs1 (cells + mc) (slots + ms) Q (F0 m (pc + 5) ls (rest))) : W p l e R s m args below meth c H locs cells slots Q (F0 m pc ls st0) := by
  intro T hT X
  rcases hr T hT X with ⟨v, st₀, t, T', L, h0, X', hL, e1, e2, ⟨⟨u, hv, hp, hb⟩, hF⟩, st⟩ | ⟨q, st₀, t, T', L, E, ce, h0, X', hL, e1, e2, ⟨u, hp, hb, hF⟩, hce, hcv, hcl, st⟩
  · cases hv
    obtain ⟨k1, k2, k3⟩ := vx_keep h0 e1 hS hA hf hL hF
    obtain ⟨t2, a1, b1⟩ := kk u t T'.heap (locs ++ L) e1.symm (by rw [← e2]; exact X'.warmed.alike) hp hb k1 k2 k3 T' rfl X'
    exact ⟨t2, st t2 a1, b1⟩
  · obtain ⟨k1, k2, k3⟩ := vx_keep h0 e1 hS hAX hf hL hF
    obtain ⟨t2, a1, b1⟩ := kx E ce q u t T'.heap (locs ++ L) e1.symm (by rw [← e2]; exact X'.warmed.alike) hp hb k1 k2 k3 (by rw [e1]; exact hce) hcv hcl T' rfl X'
    exact ⟨t2, st.trans a1, b1⟩
theorem vx_callFi {S SX : Type} {post : Int32 → S → Prop} {px : SX → Prop} {B : S → State → Prop} {BX : String → SX → State → Prop} {AX : Nat → Prop} (hr : vx_Run5 p l e R s m args below meth c H locs cells slots mc ms (F0 m pc ls st0) rest (va_Qi post B A1 a) (vx_X px BX AX) free) (hS : va_S A0 H0 H locs) (hA : ∀ q, q < H.size → A1 q → A0 q) (hf : ∀ q, free q → A0 q) (hAX : ∀ q, q < H.size → AX q → A0 q)
    (kx : ∀ (E : String) (ce : Cell) (q9 : Addr) (u : SX) (t : State) (H1 : Heap) (locs1 : List Loc), t.heap = H1 → s.vm.Alike t.vm → px u → BX E u t → H.size ≤ H1.size → (∀ q : Nat, q < H.size → ¬ AX q → H1[q]? = H[q]?) → va_S A0 H0 H1 locs1 → H1[q9]? = some ce → ce.vm = .none → s.vm.findClass E = some ce.cls → vx_W p l e R s m args below meth c H1 locs1 (cells + mc) (slots + ms) Q (F0 m pc ls rest) q9)
    (kk : ∀ (r : Int32) (u : S) (t : State) (H1 : Heap) (locs1 : List Loc), t.heap = H1 → s.vm.Alike t.vm → post r u → B u t → H.size ≤ H1.size → (∀ q : Nat, q < H.size → ¬ A1 q → H1[q]? = H[q]?) → va_S A0 H0 H1 locs1 → W p l e R s m args below meth c H1 locs1 (cells + mc) (slots + ms) Q (F0 m (pc + 5) ls (.int r :: rest))) : W p l e R s m args below meth c H locs cells slots Q (F0 m pc ls st0) := by
  intro T hT X
  rcases hr T hT X with ⟨v, st₀, t, T', L, h0, X', hL, e1, e2, ⟨⟨r, u, hv, hp, hb⟩, hF⟩, st⟩ | ⟨q, st₀, t, T', L, E, ce, h0, X', hL, e1, e2, ⟨u, hp, hb, hF⟩, hce, hcv, hcl, st⟩
  · cases hv
    obtain ⟨k1, k2, k3⟩ := vx_keep h0 e1 hS hA hf hL hF
    obtain ⟨t2, a1, b1⟩ := kk r u t T'.heap (locs ++ L) e1.symm (by rw [← e2]; exact X'.warmed.alike) hp hb k1 k2 k3 T' rfl X'
    exact ⟨t2, st t2 a1, b1⟩
  · obtain ⟨k1, k2, k3⟩ := vx_keep h0 e1 hS hAX hf hL hF
    obtain ⟨t2, a1, b1⟩ := kx E ce q u t T'.heap (locs ++ L) e1.symm (by rw [← e2]; exact X'.warmed.alike) hp hb k1 k2 k3 (by rw [e1]; exact hce) hcv hcl T' rfl X'
    exact ⟨t2, st.trans a1, b1⟩
theorem vx_callFl {S SX : Type} {post : Int64 → S → Prop} {px : SX → Prop} {B : S → State → Prop} {BX : String → SX → State → Prop} {AX : Nat → Prop} (hr : vx_Run5 p l e R s m args below meth c H locs cells slots mc ms (F0 m pc ls st0) rest (va_Ql post B A1 a) (vx_X px BX AX) free) (hS : va_S A0 H0 H locs) (hA : ∀ q, q < H.size → A1 q → A0 q) (hf : ∀ q, free q → A0 q) (hAX : ∀ q, q < H.size → AX q → A0 q)
    (kx : ∀ (E : String) (ce : Cell) (q9 : Addr) (u : SX) (t : State) (H1 : Heap) (locs1 : List Loc), t.heap = H1 → s.vm.Alike t.vm → px u → BX E u t → H.size ≤ H1.size → (∀ q : Nat, q < H.size → ¬ AX q → H1[q]? = H[q]?) → va_S A0 H0 H1 locs1 → H1[q9]? = some ce → ce.vm = .none → s.vm.findClass E = some ce.cls → vx_W p l e R s m args below meth c H1 locs1 (cells + mc) (slots + ms) Q (F0 m pc ls rest) q9)
    (kk : ∀ (r : Int64) (u : S) (t : State) (H1 : Heap) (locs1 : List Loc), t.heap = H1 → s.vm.Alike t.vm → post r u → B u t → H.size ≤ H1.size → (∀ q : Nat, q < H.size → ¬ A1 q → H1[q]? = H[q]?) → va_S A0 H0 H1 locs1 → W p l e R s m args below meth c H1 locs1 (cells + mc) (slots + ms) Q (F0 m (pc + 5) ls (.long r :: rest))) : W p l e R s m args below meth c H locs cells slots Q (F0 m pc ls st0) := by
  intro T hT X
  rcases hr T hT X with ⟨v, st₀, t, T', L, h0, X', hL, e1, e2, ⟨⟨r, u, hv, hp, hb⟩, hF⟩, st⟩ | ⟨q, st₀, t, T', L, E, ce, h0, X', hL, e1, e2, ⟨u, hp, hb, hF⟩, hce, hcv, hcl, st⟩
  · cases hv
    obtain ⟨k1, k2, k3⟩ := vx_keep h0 e1 hS hA hf hL hF
    obtain ⟨t2, a1, b1⟩ := kk r u t T'.heap (locs ++ L) e1.symm (by rw [← e2]; exact X'.warmed.alike) hp hb k1 k2 k3 T' rfl X'
    exact ⟨t2, st t2 a1, b1⟩
  · obtain ⟨k1, k2, k3⟩ := vx_keep h0 e1 hS hAX hf hL hF
    obtain ⟨t2, a1, b1⟩ := kx E ce q u t T'.heap (locs ++ L) e1.symm (by rw [← e2]; exact X'.warmed.alike) hp hb k1 k2 k3 (by rw [e1]; exact hce) hcv hcl T' rfl X'
    exact ⟨t2, st.trans a1, b1⟩
theorem vx_callFf {S SX : Type} {post : UInt32 → S → Prop} {px : SX → Prop} {B : S → State → Prop} {BX : String → SX → State → Prop} {AX : Nat → Prop} (hr : vx_Run5 p l e R s m args below meth c H locs cells slots mc ms (F0 m pc ls st0) rest (va_Qf post B A1 a) (vx_X px BX AX) free) (hS : va_S A0 H0 H locs) (hA : ∀ q, q < H.size → A1 q → A0 q) (hf : ∀ q, free q → A0 q) (hAX : ∀ q, q < H.size → AX q → A0 q)
    (kx : ∀ (E : String) (ce : Cell) (q9 : Addr) (u : SX) (t : State) (H1 : Heap) (locs1 : List Loc), t.heap = H1 → s.vm.Alike t.vm → px u → BX E u t → H.size ≤ H1.size → (∀ q : Nat, q < H.size → ¬ AX q → H1[q]? = H[q]?) → va_S A0 H0 H1 locs1 → H1[q9]? = some ce → ce.vm = .none → s.vm.findClass E = some ce.cls → vx_W p l e R s m args below meth c H1 locs1 (cells + mc) (slots + ms) Q (F0 m pc ls rest) q9)
    (kk : ∀ (r : UInt32) (u : S) (t : State) (H1 : Heap) (locs1 : List Loc), t.heap = H1 → s.vm.Alike t.vm → post r u → B u t → H.size ≤ H1.size → (∀ q : Nat, q < H.size → ¬ A1 q → H1[q]? = H[q]?) → va_S A0 H0 H1 locs1 → W p l e R s m args below meth c H1 locs1 (cells + mc) (slots + ms) Q (F0 m (pc + 5) ls (.float r :: rest))) : W p l e R s m args below meth c H locs cells slots Q (F0 m pc ls st0) := by
  intro T hT X
  rcases hr T hT X with ⟨v, st₀, t, T', L, h0, X', hL, e1, e2, ⟨⟨r, u, hv, hp, hb⟩, hF⟩, st⟩ | ⟨q, st₀, t, T', L, E, ce, h0, X', hL, e1, e2, ⟨u, hp, hb, hF⟩, hce, hcv, hcl, st⟩
  · cases hv
    obtain ⟨k1, k2, k3⟩ := vx_keep h0 e1 hS hA hf hL hF
    obtain ⟨t2, a1, b1⟩ := kk r u t T'.heap (locs ++ L) e1.symm (by rw [← e2]; exact X'.warmed.alike) hp hb k1 k2 k3 T' rfl X'
    exact ⟨t2, st t2 a1, b1⟩
  · obtain ⟨k1, k2, k3⟩ := vx_keep h0 e1 hS hAX hf hL hF
    obtain ⟨t2, a1, b1⟩ := kx E ce q u t T'.heap (locs ++ L) e1.symm (by rw [← e2]; exact X'.warmed.alike) hp hb k1 k2 k3 (by rw [e1]; exact hce) hcv hcl T' rfl X'
    exact ⟨t2, st.trans a1, b1⟩
theorem vx_callFd {S SX : Type} {post : UInt64 → S → Prop} {px : SX → Prop} {B : S → State → Prop} {BX : String → SX → State → Prop} {AX : Nat → Prop} (hr : vx_Run5 p l e R s m args below meth c H locs cells slots mc ms (F0 m pc ls st0) rest (va_Qd post B A1 a) (vx_X px BX AX) free) (hS : va_S A0 H0 H locs) (hA : ∀ q, q < H.size → A1 q → A0 q) (hf : ∀ q, free q → A0 q) (hAX : ∀ q, q < H.size → AX q → A0 q)
    (kx : ∀ (E : String) (ce : Cell) (q9 : Addr) (u : SX) (t : State) (H1 : Heap) (locs1 : List Loc), t.heap = H1 → s.vm.Alike t.vm → px u → BX E u t → H.size ≤ H1.size → (∀ q : Nat, q < H.size → ¬ AX q → H1[q]? = H[q]?) → va_S A0 H0 H1 locs1 → H1[q9]? = some ce → ce.vm = .none → s.vm.findClass E = some ce.cls → vx_W p l e R s m args below meth c H1 locs1 (cells + mc) (slots + ms) Q (F0 m pc ls rest) q9)
    (kk : ∀ (r : UInt64) (u : S) (t : State) (H1 : Heap) (locs1 : List Loc), t.heap = H1 → s.vm.Alike t.vm → post r u → B u t → H.size ≤ H1.size → (∀ q : Nat, q < H.size → ¬ A1 q → H1[q]? = H[q]?) → va_S A0 H0 H1 locs1 → W p l e R s m args below meth c H1 locs1 (cells + mc) (slots + ms) Q (F0 m (pc + 5) ls (.double r :: rest))) : W p l e R s m args below meth c H locs cells slots Q (F0 m pc ls st0) := by
  intro T hT X
  rcases hr T hT X with ⟨v, st₀, t, T', L, h0, X', hL, e1, e2, ⟨⟨r, u, hv, hp, hb⟩, hF⟩, st⟩ | ⟨q, st₀, t, T', L, E, ce, h0, X', hL, e1, e2, ⟨u, hp, hb, hF⟩, hce, hcv, hcl, st⟩
  · cases hv
    obtain ⟨k1, k2, k3⟩ := vx_keep h0 e1 hS hA hf hL hF
    obtain ⟨t2, a1, b1⟩ := kk r u t T'.heap (locs ++ L) e1.symm (by rw [← e2]; exact X'.warmed.alike) hp hb k1 k2 k3 T' rfl X'
    exact ⟨t2, st t2 a1, b1⟩
  · obtain ⟨k1, k2, k3⟩ := vx_keep h0 e1 hS hAX hf hL hF
    obtain ⟨t2, a1, b1⟩ := kx E ce q u t T'.heap (locs ++ L) e1.symm (by rw [← e2]; exact X'.warmed.alike) hp hb k1 k2 k3 (by rw [e1]; exact hce) hcv hcl T' rfl X'
    exact ⟨t2, st.trans a1, b1⟩
end
/-! ===== END ===== -/
/-! ===== BEGIN by an interface, a method with a table of its own that may throw (follows va_callIFW, va_runFW) ===== -/
section
variable {p : Program} {l : Launch} {e : Env} {R : Room} {s : State} {m : MethodId} {args : Array Value} {below : List Frame} {meth : Method} {c : Code} {H : Heap} {locs : List Loc} {cells slots : Nat}
theorem vx_callIFW {T : State} (X : Stand p l e R s m args below meth c T locs cells slots) (hexec : p.tables.exec = Jvm.exec) {own C : String} {index count : Nat} {x y : MethodName} {bytes : ByteArray} {maxL : Nat} {ret : Option FieldType} {hh : List (Nat × Nat × Nat × Nat)}
    (hown : s.vm.findClass own = some m.cls) (hlink : (Cond.methodLink own index x).before args s = true) (hdecl : (Cond.declares x).before args s = true) (hface : (Cond.interfaceMethod x.cls x.cls x.name x.desc).before args s = true)
    (hsel : (Cond.selects C x y).before args s = true) (hinst : (Cond.instanceMethod y).before args s = true) (hpub : (Cond.publicMethod y).before args s = true) (hunh : (Cond.unhidden C x.name x.desc).before args s = true)
    (hcast : (Cond.castable C x.cls).before args s = true) (hcode : (Cond.codeWith y bytes maxL ret hh).before args s = true) (hx : x.cls ≠ "java/lang/invoke/MethodHandle" ∧ x.cls ≠ "java/lang/invoke/VarHandle")
    {W : Nat} {Pre : Pt → Array Value → Prop} {Post : Pt → Array Value → Option Value → Pt → Prop} {PostX : Pt → Array Value → Addr → Pt → Prop} (hK : vx_Back l R p e below s args y 5 W Pre Post PostX)
    {b : Addr} {cellB : Cell} {kB : Class} (hcell : T.heap[b]? = some cellB) (hobj : cellB.vm.isStatics = false) (hcls : s.vm.findClass C = some cellB.cls) (hkB : s.vm.classes[cellB.cls]? = some kB)
    {g : JFrame} (hg : g.method = m) (hsize : g.locals.size = c.maxLocals) {argsL rest : List Value} (hlen : ∀ sig, parseMethodDescriptor x.desc = some sig → argsL.length = sig.parameters.length)
    (hstack : g.stack = argsL.reverse ++ .ref b :: rest) (hW : 2 * g.monitorRoom + (rest.map fun v => v.category).sum ≤ W) (hdg : decode c.code g.pc = .ok (.invokeinterface index count, 5))
    (hpre : ∀ vm₁, s.WarmedH vm₁ → Pre ⟨T.setVm vm₁, locs, cells, slots⟩ (Value.ref b :: argsL).toArray) :
    (∃ (v : Option Value) (vm₁ : Vm) (B : Pt), s.WarmedH vm₁ ∧ Stand p l e R s m args below meth c B.U B.locs B.cells B.slots ∧ Post ⟨T.setVm vm₁, locs, cells, slots⟩ (Value.ref b :: argsL).toArray v B ∧
      ∀ target, Steps p.tables e below (B.U.setTop { g with pc := g.pc + 5, stack := v.toList ++ rest }) target → Steps p.tables e below (T.setTop g) target) ∨
    (∃ (q : Addr) (vm₁ : Vm) (B : Pt), s.WarmedH vm₁ ∧ Stand p l e R s m args below meth c B.U B.locs B.cells B.slots ∧ PostX ⟨T.setVm vm₁, locs, cells, slots⟩ (Value.ref b :: argsL).toArray q B ∧
      Steps p.tables e below (T.setTop g) ((B.U.setTop { g with stack := rest }).pushFrame (.throwing q))) := by
  obtain ⟨r0, r, hn, hrm, hstR, hsigR⟩ := Cond.declares_spec hdecl
  obtain ⟨cL, kL, r1, hcL, hkL, hiL, hfoundL, hn1⟩ := Cond.interfaceMethod_spec hface
  cases hn.symm.trans hn1
  have hr0cls : r0.cls = cL := Option.some.inj ((findClass_of_methodNamed hn).symm.trans hcL)
  obtain ⟨hnameR, hdescR⟩ := name_of_methodNamed hn hrm
  obtain ⟨mk, methM, hnamed, hmethM, -, habM⟩ := Cond.instanceMethod_spec hinst
  obtain ⟨c2, r2, m2, q1, q2, q3, q4, -⟩ := Cond.selects_spec hsel
  cases hcls.symm.trans q1
  cases hfoundL.symm.trans q2
  cases hnamed.symm.trans q3
  have hselP : selectMethod e.platform s.vm cellB.cls r0 = .method mk := by rw [Launch.admits_selectMethod X.admits]; exact q4
  have hpubM : hasFlag methM.accessFlags Acc.public_ = true := Cond.publicMethod_spec hnamed hmethM hpub
  have hway : ((cellB.cls :: s.vm.superclasses cellB.cls).any fun k => (declaredIn s.vm r.name r.desc k).any fun (_, z) => z.isPrivate || z.isStatic) = false := by
    rw [hnameR, hdescR]; exact Cond.unhidden_spec hcls hunh
  obtain ⟨c3, t3, w1, w2, w3⟩ := Cond.castable_spec hcast
  cases hcls.symm.trans w1
  cases hcL.symm.trans w2
  obtain ⟨vm₁, X₁, hstep₁⟩ := X.invokeinterface hexec hown hlink hn hrm hstR (by rw [hr0cls]; exact hkL) hiL hx (a := b) (cell := cellB) (kcell := kB) hcell
    (fun z h => by rw [h] at hobj; cases hobj) hkB (by rw [hr0cls]; exact w3) hselP hmethM hway hpubM habM (g := g) hg (argsL := argsL) (rest := rest) (hlen _ hsigR) hstack hdg
  rcases hK m meth c ⟨T.setVm vm₁, locs, cells, slots⟩ { g with stack := rest } (.invokeinterface index count) mk (Value.ref b :: argsL).toArray X₁ hg hsize hdg hW (X₁.named hnamed) (hpre vm₁ X₁.warmed) with ⟨v, B, X', hpost, hsteps⟩ | ⟨q, B, X', hpost, hsteps⟩
  · exact Or.inl ⟨v, vm₁, B, X₁.warmed, X', hpost, fun target h => hstep₁ _ fun acts => by rw [doInvoke_state]; exact hsteps.trans h⟩
  · exact Or.inr ⟨q, vm₁, B, X₁.warmed, X', hpost, hstep₁ _ fun acts => by rw [doInvoke_state]; exact hsteps⟩
theorem vx_runFW {x y : MethodName} {bytes cc : ByteArray} {maxL nL mc ms n index count : Nat} {ret : Option FieldType} {hh : List (Nat × Nat × Nat × Nat)} {ws : List Cond} {rm : Room} {Pc : Array Value → State → Prop} {Qc : Array Value → State → Outcome → State → Prop} {XC : String → State → State → Prop} {free : Addr → Prop} {Ts : List Cond} {own C : String} {cC : ClassId} {b : Addr} {As rest : List Value} {g : JFrame}
    (hat : ClassAt s C cC) (S : CallFix p m c cc nL s args Ts own) (hM : vx_Met l y ws rm Pc Qc XC mc ms free) (cw : va_CIW R s args own C index x y bytes maxL ret hh ws rm mc ms n) (hp : PreV s H C b Pc As)
    (hg : g.method = m) (hn : As.length = n) (hsize : g.locals.size = nL) (hstack : g.stack = As.reverse ++ .ref b :: rest) (hW : 2 * g.monitorRoom + (rest.map fun v => v.category).sum ≤ 8) (hdg : decode cc g.pc = .ok (.invokeinterface index count, 5)) (hf : cells + mc ≤ R.cells ∧ slots + ms ≤ R.slots) :
    vx_Run5 p l e R s m args below meth c H locs cells slots mc ms g rest (Qc (Value.ref b :: As).toArray) XC free := by
  obtain ⟨hrc, hrs, hfr, hlo, hws, hcw⟩ := cw.back
  have hini := cw.init
  have hK : vx_Back l R p e below s args y 5 8 (PreOf R mc ms Pc) (PostOf Qc mc ms free) (vx_Post XC mc ms free) := vx_backW (hh := hh) (bytes := bytes) (maxL := maxL) (ret := ret) hM hp.1 hrc hrs hfr hlo hws hcw (fun a' U hW => word_at hW (Or.inl (by first | rfl | simp [Cond.onTables, Cond.keeps, Cond.steady])) hini)
  obtain ⟨hx, hb, hml, ho, -⟩ := S
  obtain ⟨-, ⟨cellB, hcB, hoB, hclB⟩, hPc⟩ := hp
  obtain ⟨hfc, kB, hkB, -⟩ := hat
  cases hfc.symm.trans hclB
  intro T hT X
  rcases vx_callIFW X hx (C := C) (hh := hh) (bytes := bytes) (maxL := maxL) (ret := ret) ho cw.link cw.decl cw.face cw.sel cw.inst cw.pub cw.unh cw.cast cw.code cw.notMH hK (by rw [hT]; exact hcB) hoB hclB hkB hg (hsize.trans hml.symm) (argsL := As) (rest := rest) (fun sig h => hn.trans (cw.len sig h)) hstack hW (by rw [hb]; exact hdg)
    (fun vm₁ hW₁ => ⟨hf.1, hf.2, hPc (T.setVm vm₁) hT hW₁⟩) with ⟨v, vm₁, ⟨U', l2, c2, s2⟩, hW₁, X', ⟨g', mk, t, L, e1, e2, hq, h1, hL, h2, h3⟩, st⟩ | ⟨q, vm₁, ⟨U', l2, c2, s2⟩, hW₁, X', ⟨g', mk, t, L, E, ce, e1, e2, hq, hce, hcv, hcl, h1, hL, h2, h3⟩, st⟩
  · dsimp only [Pt.U, Pt.locs, Pt.cells, Pt.slots] at X' e1 e2 h1 h2 h3 st
    subst h1; subst h2; subst h3
    exact Or.inl ⟨v, (T.setVm vm₁).calling g' mk (Value.ref b :: As).toArray, t, U', L, hT, X', hL, e1, e2, hq, st⟩
  · dsimp only [Pt.U, Pt.locs, Pt.cells, Pt.slots] at X' e1 e2 h1 h2 h3 st hcl
    subst h1; subst h2; subst h3
    exact Or.inr ⟨q, (T.setVm vm₁).calling g' mk (Value.ref b :: As).toArray, t, U', L, E, ce, hT, X', hL, e1, e2, hq, hce, hcv, vx_cls hW₁ hcl, st⟩
end
/-! ===== END ===== -/
/-! ===== BEGIN .. of methods that hand back an object of the pool ===== -/
section
variable {p : Program} {l : Launch} {e : Env} {R : Room} {s : State} {m : MethodId} {args : Array Value} {below : List Frame} {meth : Method} {c : Code} {H : Heap} {locs : List Loc} {cells slots : Nat} {Q : State → Prop}
variable {mc ms : Nat} {free : Addr → Prop} {A0 A1 : Nat → Prop} {H0 : Heap} {a : Array Value} {pc : Nat} {ls : Array Slot} {st0 rest : List Value}
theorem vx_callq {S SX : Type} {post : Option Nat → S → Prop} {px : SX → Prop} {B : S → State → Prop} {BX : String → SX → State → Prop} {AX : Nat → Prop} (hr : vx_Run p l e R s m args below meth c H locs cells slots mc ms (F0 m pc ls st0) rest (va_Qq post B A1 a) (vx_X px BX AX) free) (hS : va_S A0 H0 H locs) (hA : ∀ q, q < H.size → A1 q → A0 q) (hf : ∀ q, free q → A0 q) (hAX : ∀ q, q < H.size → AX q → A0 q)
    (kx : ∀ (E : String) (ce : Cell) (q9 : Addr) (u : SX) (t : State) (H1 : Heap) (locs1 : List Loc), t.heap = H1 → s.vm.Alike t.vm → px u → BX E u t → H.size ≤ H1.size → (∀ q : Nat, q < H.size → ¬ AX q → H1[q]? = H[q]?) → va_S A0 H0 H1 locs1 → H1[q9]? = some ce → ce.vm = .none → s.vm.findClass E = some ce.cls → vx_W p l e R s m args below meth c H1 locs1 (cells + mc) (slots + ms) Q (F0 m pc ls rest) q9)
    (kk : ∀ (r : Option Nat) (u : S) (t : State) (H1 : Heap) (locs1 : List Loc), t.heap = H1 → s.vm.Alike t.vm → post r u → B u t → H.size ≤ H1.size → (∀ q : Nat, q < H.size → ¬ A1 q → H1[q]? = H[q]?) → va_S A0 H0 H1 locs1 → W p l e R s m args below meth c H1 locs1 (cells + mc) (slots + ms) Q (F0 m (pc + 3) ls (va_rf r :: rest))) : W p l e R s m args below meth c H locs cells slots Q (F0 m pc ls st0) := by
  intro T hT X
  rcases hr T hT X with ⟨v, st₀, t, T', L, h0, X', hL, e1, e2, ⟨⟨r, u, hv, hp, hb⟩, hF⟩, st⟩ | ⟨q, st₀, t, T', L, E, ce, h0, X', hL, e1, e2, ⟨u, hp, hb, hF⟩, hce, hcv, hcl, st⟩
  · cases hv
    obtain ⟨k1, k2, k3⟩ := vx_keep h0 e1 hS hA hf hL hF
    obtain ⟨t2, a1, b1⟩ := kk r u t T'.heap (locs ++ L) e1.symm (by rw [← e2]; exact X'.warmed.alike) hp hb k1 k2 k3 T' rfl X'
    exact ⟨t2, st t2 a1, b1⟩
  · obtain ⟨k1, k2, k3⟩ := vx_keep h0 e1 hS hAX hf hL hF
    obtain ⟨t2, a1, b1⟩ := kx E ce q u t T'.heap (locs ++ L) e1.symm (by rw [← e2]; exact X'.warmed.alike) hp hb k1 k2 k3 (by rw [e1]; exact hce) hcv hcl T' rfl X'
    exact ⟨t2, st.trans a1, b1⟩
end
/-! ===== END ===== -/
/-! ===== BEGIN .. a constant ===== -/
section
variable {p : Program} {l : Launch} {e : Env} {R : Room} {s : State} {m : MethodId} {args : Array Value} {below : List Frame} {meth : Method} {c : Code} {H : Heap} {locs : List Loc} {cells slots : Nat} {Q : State → Prop}
variable {mc ms : Nat} {free : Addr → Prop} {A0 A1 : Nat → Prop} {H0 : Heap} {a : Array Value} {pc : Nat} {ls : Array Slot} {st0 rest : List Value}
theorem vx_calle {ad : Nat → Nat} {S SX : Type} {post : Option Nat → S → Prop} {px : SX → Prop} {B : S → State → Prop} {BX : String → SX → State → Prop} {AX : Nat → Prop} (hr : vx_Run p l e R s m args below meth c H locs cells slots mc ms (F0 m pc ls st0) rest (va_Qe ad post B A1 a) (vx_X px BX AX) free) (hS : va_S A0 H0 H locs) (hA : ∀ q, q < H.size → A1 q → A0 q) (hf : ∀ q, free q → A0 q) (hAX : ∀ q, q < H.size → AX q → A0 q)
    (kx : ∀ (E : String) (ce : Cell) (q9 : Addr) (u : SX) (t : State) (H1 : Heap) (locs1 : List Loc), t.heap = H1 → s.vm.Alike t.vm → px u → BX E u t → H.size ≤ H1.size → (∀ q : Nat, q < H.size → ¬ AX q → H1[q]? = H[q]?) → va_S A0 H0 H1 locs1 → H1[q9]? = some ce → ce.vm = .none → s.vm.findClass E = some ce.cls → vx_W p l e R s m args below meth c H1 locs1 (cells + mc) (slots + ms) Q (F0 m pc ls rest) q9)
    (kk : ∀ (r : Option Nat) (u : S) (t : State) (H1 : Heap) (locs1 : List Loc), t.heap = H1 → s.vm.Alike t.vm → post r u → B u t → H.size ≤ H1.size → (∀ q : Nat, q < H.size → ¬ A1 q → H1[q]? = H[q]?) → va_S A0 H0 H1 locs1 → W p l e R s m args below meth c H1 locs1 (cells + mc) (slots + ms) Q (F0 m (pc + 3) ls (va_re ad r :: rest))) : W p l e R s m args below meth c H locs cells slots Q (F0 m pc ls st0) := by
  intro T hT X
  rcases hr T hT X with ⟨v, st₀, t, T', L, h0, X', hL, e1, e2, ⟨⟨r, u, hv, hp, hb⟩, hF⟩, st⟩ | ⟨q, st₀, t, T', L, E, ce, h0, X', hL, e1, e2, ⟨u, hp, hb, hF⟩, hce, hcv, hcl, st⟩
  · cases hv
    obtain ⟨k1, k2, k3⟩ := vx_keep h0 e1 hS hA hf hL hF
    obtain ⟨t2, a1, b1⟩ := kk r u t T'.heap (locs ++ L) e1.symm (by rw [← e2]; exact X'.warmed.alike) hp hb k1 k2 k3 T' rfl X'
    exact ⟨t2, st t2 a1, b1⟩
  · obtain ⟨k1, k2, k3⟩ := vx_keep h0 e1 hS hAX hf hL hF
    obtain ⟨t2, a1, b1⟩ := kx E ce q u t T'.heap (locs ++ L) e1.symm (by rw [← e2]; exact X'.warmed.alike) hp hb k1 k2 k3 (by rw [e1]; exact hce) hcv hcl T' rfl X'
    exact ⟨t2, st.trans a1, b1⟩
end
/-! ===== END ===== -/
/-! ===== BEGIN .. by an interface, an object ===== -/
section
variable {p : Program} {l : Launch} {e : Env} {R : Room} {s : State} {m : MethodId} {args : Array Value} {below : List Frame} {meth : Method} {c : Code} {H : Heap} {locs : List Loc} {cells slots : Nat} {Q : State → Prop}
variable {mc ms : Nat} {free : Addr → Prop} {A0 A1 : Nat → Prop} {H0 : Heap} {a : Array Value} {pc : Nat} {ls : Array Slot} {st0 rest : List Value}
theorem vx_callFq {S SX : Type} {post : Option Nat → S → Prop} {px : SX → Prop} {B : S → State → Prop} {BX : String → SX → State → Prop} {AX : Nat → Prop} (hr : vx_Run5 p l e R s m args below meth c H locs cells slots mc ms (F0 m pc ls st0) rest (va_Qq post B A1 a) (vx_X px BX AX) free) (hS : va_S A0 H0 H locs) (hA : ∀ q, q < H.size → A1 q → A0 q) (hf : ∀ q, free q → A0 q) (hAX : ∀ q, q < H.size → AX q → A0 q)
    (kx : ∀ (E : String) (ce : Cell) (q9 : Addr) (u : SX) (t : State) (H1 : Heap) (locs1 : List Loc), t.heap = H1 → s.vm.Alike t.vm → px u → BX E u t → H.size ≤ H1.size → (∀ q : Nat, q < H.size → ¬ AX q → H1[q]? = H[q]?) → va_S A0 H0 H1 locs1 → H1[q9]? = some ce → ce.vm = .none → s.vm.findClass E = some ce.cls → vx_W p l e R s m args below meth c H1 locs1 (cells + mc) (slots + ms) Q (F0 m pc ls rest) q9)
    (kk : ∀ (r : Option Nat) (u : S) (t : State) (H1 : Heap) (locs1 : List Loc), t.heap = H1 → s.vm.Alike t.vm → post r u → B u t → H.size ≤ H1.size → (∀ q : Nat, q < H.size → ¬ A1 q → H1[q]? = H[q]?) → va_S A0 H0 H1 locs1 → W p l e R s m args below meth c H1 locs1 (cells + mc) (slots + ms) Q (F0 m (pc + 5) ls (va_rf r :: rest))) : W p l e R s m args below meth c H locs cells slots Q (F0 m pc ls st0) := by
  intro T hT X
  rcases hr T hT X with ⟨v, st₀, t, T', L, h0, X', hL, e1, e2, ⟨⟨r, u, hv, hp, hb⟩, hF⟩, st⟩ | ⟨q, st₀, t, T', L, E, ce, h0, X', hL, e1, e2, ⟨u, hp, hb, hF⟩, hce, hcv, hcl, st⟩
  · cases hv
    obtain ⟨k1, k2, k3⟩ := vx_keep h0 e1 hS hA hf hL hF
    obtain ⟨t2, a1, b1⟩ := kk r u t T'.heap (locs ++ L) e1.symm (by rw [← e2]; exact X'.warmed.alike) hp hb k1 k2 k3 T' rfl X'
    exact ⟨t2, st t2 a1, b1⟩
  · obtain ⟨k1, k2, k3⟩ := vx_keep h0 e1 hS hAX hf hL hF
    obtain ⟨t2, a1, b1⟩ := kx E ce q u t T'.heap (locs ++ L) e1.symm (by rw [← e2]; exact X'.warmed.alike) hp hb k1 k2 k3 (by rw [e1]; exact hce) hcv hcl T' rfl X'
    exact ⟨t2, st.trans a1, b1⟩
end
/-! ===== END ===== -/
/-! ===== BEGIN .. by an interface, a constant ===== -/
section
variable {p : Program} {l : Launch} {e : Env} {R : Room} {s : State} {m : MethodId} {args : Array Value} {below : List Frame} {meth : Method} {c : Code} {H : Heap} {locs : List Loc} {cells slots : Nat} {Q : State → Prop}
variable {mc ms : Nat} {free : Addr → Prop} {A0 A1 : Nat → Prop} {H0 : Heap} {a : Array Value} {pc : Nat} {ls : Array Slot} {st0 rest : List Value}
theorem vx_callFe {ad : Nat → Nat} {S SX : Type} {post : Option Nat → S → Prop} {px : SX → Prop} {B : S → State → Prop} {BX : String → SX → State → Prop} {AX : Nat → Prop} (hr : vx_Run5 p l e R s m args below meth c H locs cells slots mc ms (F0 m pc ls st0) rest (va_Qe ad post B A1 a) (vx_X px BX AX) free) (hS : va_S A0 H0 H locs) (hA : ∀ q, q < H.size → A1 q → A0 q) (hf : ∀ q, free q → A0 q) (hAX : ∀ q, q < H.size → AX q → A0 q)
    (kx : ∀ (E : String) (ce : Cell) (q9 : Addr) (u : SX) (t : State) (H1 : Heap) (locs1 : List Loc), t.heap = H1 → s.vm.Alike t.vm → px u → BX E u t → H.size ≤ H1.size → (∀ q : Nat, q < H.size → ¬ AX q → H1[q]? = H[q]?) → va_S A0 H0 H1 locs1 → H1[q9]? = some ce → ce.vm = .none → s.vm.findClass E = some ce.cls → vx_W p l e R s m args below meth c H1 locs1 (cells + mc) (slots + ms) Q (F0 m pc ls rest) q9)
    (kk : ∀ (r : Option Nat) (u : S) (t : State) (H1 : Heap) (locs1 : List Loc), t.heap = H1 → s.vm.Alike t.vm → post r u → B u t → H.size ≤ H1.size → (∀ q : Nat, q < H.size → ¬ A1 q → H1[q]? = H[q]?) → va_S A0 H0 H1 locs1 → W p l e R s m args below meth c H1 locs1 (cells + mc) (slots + ms) Q (F0 m (pc + 5) ls (va_re ad r :: rest))) : W p l e R s m args below meth c H locs cells slots Q (F0 m pc ls st0) := by
  intro T hT X
  rcases hr T hT X with ⟨v, st₀, t, T', L, h0, X', hL, e1, e2, ⟨⟨r, u, hv, hp, hb⟩, hF⟩, st⟩ | ⟨q, st₀, t, T', L, E, ce, h0, X', hL, e1, e2, ⟨u, hp, hb, hF⟩, hce, hcv, hcl, st⟩
  · cases hv
    obtain ⟨k1, k2, k3⟩ := vx_keep h0 e1 hS hA hf hL hF
    obtain ⟨t2, a1, b1⟩ := kk r u t T'.heap (locs ++ L) e1.symm (by rw [← e2]; exact X'.warmed.alike) hp hb k1 k2 k3 T' rfl X'
    exact ⟨t2, st t2 a1, b1⟩
  · obtain ⟨k1, k2, k3⟩ := vx_keep h0 e1 hS hAX hf hL hF
    obtain ⟨t2, a1, b1⟩ := kx E ce q u t T'.heap (locs ++ L) e1.symm (by rw [← e2]; exact X'.warmed.alike) hp hb k1 k2 k3 (by rw [e1]; exact hce) hcv hcl T' rfl X'
    exact ⟨t2, st.trans a1, b1⟩
end
/-! ===== END ===== -/
/-! ===== BEGIN what the machine throws by itself: null at a field, at athrow ===== -/
section VXM2
variable {p : Program} {l : Launch} {e : Env} {R : Room} {s : State} {m : MethodId} {args : Array Value} {below : List Frame} {meth : Method} {c : Code} {H : Heap} {locs : List Loc} {cells slots : Nat}
variable {Q : State → Prop} {cc : ByteArray} {pc : Nat} {ls : Array Slot} {rest : List Value}
theorem vx_getfN {D cl tys} {own ref C : String} {T : u_T} {N ci index : Nat} {Ts : List Cond} (hexec : p.tables.exec = Jvm.exec) (hb : c.code = cc) (hts : ∀ w ∈ Ts, w.before args s = true) (hin : ∀ w ∈ u_ws C T N, w ∈ Ts) (hown : s.vm.findClass own = some m.cls) (hK : va_K D cl tys s) (hc : cl[ci]? = some (C, T, N)) (k : Nat) (hk : k < N) (hlink : (Cond.fieldLink own index ref (T k).2.1 (T k).2.2.1).before args s = true) (hsame : ∀ x, s.fieldFound? (T k).1 (T k).2.1 (T k).2.2.1 = some x → s.fieldFound? ref (T k).2.1 (T k).2.2.1 = some x) (hdg : decode cc pc = .ok (.getfield index, 3)) (kk : vx_NoteN p l e R s m args below meth c H locs cells slots Q (F0 m pc ls rest)) : W p l e R s m args below meth c H locs cells slots Q (F0 m pc ls (.null :: rest)) := by
  obtain ⟨hS, hfc, kC, hkC, -⟩ := hK.1 ci _ hc
  obtain ⟨cf, kf, fi, f, hi, -⟩ := hS k hk
  intro U hU X
  obtain ⟨vm', X1, st1⟩ := X.getfieldNull hexec hown hlink (hsame _ hi) (u_facts hfc hkC (u_lays hts hin hk) hi).1 (g := F0 m pc ls (.null :: rest)) rfl (rest := rest) rfl (by rw [hb]; exact hdg)
  obtain ⟨t, st, q⟩ := kk (U.setVm vm') hU X1
  exact ⟨t, st1 t st, q⟩
theorem vx_getfNN {D cl tys} {own ref C host : String} {T : u_T} {N ci index : Nat} {Ts : List Cond} (hexec : p.tables.exec = Jvm.exec) (hb : c.code = cc) (hts : ∀ w ∈ Ts, w.before args s = true) (hin : ∀ w ∈ u_ws C T N, w ∈ Ts) (hown : s.vm.findClass own = some m.cls) (hK : va_K D cl tys s) (hc : cl[ci]? = some (C, T, N)) (k : Nat) (hk : k < N) (hlink : (Cond.fieldLinkNest own index ref (T k).2.1 (T k).2.2.1 host).before args s = true) (hsame : ∀ x, s.fieldFound? (T k).1 (T k).2.1 (T k).2.2.1 = some x → s.fieldFound? ref (T k).2.1 (T k).2.2.1 = some x) (hdg : decode cc pc = .ok (.getfield index, 3)) (kk : vx_NoteN p l e R s m args below meth c H locs cells slots Q (F0 m pc ls rest)) : W p l e R s m args below meth c H locs cells slots Q (F0 m pc ls (.null :: rest)) := by
  obtain ⟨hS, hfc, kC, hkC, -⟩ := hK.1 ci _ hc
  obtain ⟨cf, kf, fi, f, hi, -⟩ := hS k hk
  intro U hU X
  obtain ⟨vm', X1, st1⟩ := X.getfieldNullNest hexec hown hlink (hsame _ hi) (u_facts hfc hkC (u_lays hts hin hk) hi).1 (g := F0 m pc ls (.null :: rest)) rfl (rest := rest) rfl (by rw [hb]; exact hdg)
  obtain ⟨t, st, q⟩ := kk (U.setVm vm') hU X1
  exact ⟨t, st1 t st, q⟩
theorem vx_putfN {D cl tys} {own ref C : String} {T : u_T} {N ci index : Nat} {Ts : List Cond} (hexec : p.tables.exec = Jvm.exec) (hb : c.code = cc) (hts : ∀ w ∈ Ts, w.before args s = true) (hin : ∀ w ∈ u_ws C T N, w ∈ Ts) (hown : s.vm.findClass own = some m.cls) (hK : va_K D cl tys s) (hc : cl[ci]? = some (C, T, N)) (k : Nat) (hk : k < N) (hlink : (Cond.fieldLink own index ref (T k).2.1 (T k).2.2.1).before args s = true) (hsame : ∀ x, s.fieldFound? (T k).1 (T k).2.1 (T k).2.2.1 = some x → s.fieldFound? ref (T k).2.1 (T k).2.2.1 = some x) (hfin : (T k).2.2.2 = false) {v : Value} (hdg : decode cc pc = .ok (.putfield index, 3)) (kk : vx_NoteN p l e R s m args below meth c H locs cells slots Q (F0 m pc ls rest)) : W p l e R s m args below meth c H locs cells slots Q (F0 m pc ls (v :: .null :: rest)) := by
  obtain ⟨hS, hfc, kC, hkC, -⟩ := hK.1 ci _ hc
  obtain ⟨cf, kf, fi, f, hi, -⟩ := hS k hk
  have hlay := hts _ (hin _ (u_in_lay hk))
  unfold u_lay at hlay
  rw [if_neg (by rw [hfin]; decide)] at hlay
  obtain ⟨c9, k9, cf9, kf9, fi9, f9, -, -, hi9, hst9, hnf9, -⟩ := Cond.lays_spec hlay
  cases hi.symm.trans hi9
  intro U hU X
  obtain ⟨vm', X1, st1⟩ := X.putfieldNull hexec hown hlink (hsame _ hi) hst9 hnf9 (g := F0 m pc ls (v :: .null :: rest)) rfl (v := v) (rest := rest) rfl (by rw [hb]; exact hdg)
  obtain ⟨t, st, q⟩ := kk (U.setVm vm') hU X1
  exact ⟨t, st1 t st, q⟩
theorem vx_putfNN {D cl tys} {own ref C host : String} {T : u_T} {N ci index : Nat} {Ts : List Cond} (hexec : p.tables.exec = Jvm.exec) (hb : c.code = cc) (hts : ∀ w ∈ Ts, w.before args s = true) (hin : ∀ w ∈ u_ws C T N, w ∈ Ts) (hown : s.vm.findClass own = some m.cls) (hK : va_K D cl tys s) (hc : cl[ci]? = some (C, T, N)) (k : Nat) (hk : k < N) (hlink : (Cond.fieldLinkNest own index ref (T k).2.1 (T k).2.2.1 host).before args s = true) (hsame : ∀ x, s.fieldFound? (T k).1 (T k).2.1 (T k).2.2.1 = some x → s.fieldFound? ref (T k).2.1 (T k).2.2.1 = some x) (hfin : (T k).2.2.2 = false) {v : Value} (hdg : decode cc pc = .ok (.putfield index, 3)) (kk : vx_NoteN p l e R s m args below meth c H locs cells slots Q (F0 m pc ls rest)) : W p l e R s m args below meth c H locs cells slots Q (F0 m pc ls (v :: .null :: rest)) := by
  obtain ⟨hS, hfc, kC, hkC, -⟩ := hK.1 ci _ hc
  obtain ⟨cf, kf, fi, f, hi, -⟩ := hS k hk
  have hlay := hts _ (hin _ (u_in_lay hk))
  unfold u_lay at hlay
  rw [if_neg (by rw [hfin]; decide)] at hlay
  obtain ⟨c9, k9, cf9, kf9, fi9, f9, -, -, hi9, hst9, hnf9, -⟩ := Cond.lays_spec hlay
  cases hi.symm.trans hi9
  intro U hU X
  obtain ⟨vm', X1, st1⟩ := X.putfieldNullNest hexec hown hlink (hsame _ hi) hst9 hnf9 (g := F0 m pc ls (v :: .null :: rest)) rfl (v := v) (rest := rest) rfl (by rw [hb]; exact hdg)
  obtain ⟨t, st, q⟩ := kk (U.setVm vm') hU X1
  exact ⟨t, st1 t st, q⟩
theorem vx_athrowN (hexec : p.tables.exec = Jvm.exec) (hb : c.code = cc) (hdg : decode cc pc = .ok (.athrow, 1)) (k : vx_NoteN p l e R s m args below meth c H locs cells slots Q (F0 m pc ls rest)) : W p l e R s m args below meth c H locs cells slots Q (F0 m pc ls (.null :: rest)) := by
  intro T hT X
  obtain ⟨t, st, q⟩ := k T hT X
  exact ⟨t, X.athrowNull hexec (g := F0 m pc ls (.null :: rest)) rfl (rest := rest) rfl (by rw [hb]; exact hdg) t st, q⟩
end VXM2
/-! ===== END ===== -/
end
section
def RX0 : String := "Dronegrade$Band"
def TX0 : u_T := fun k => match k with
  | 0 => ("Dronegrade$Band", "number", "I", true)
  | 1 => ("Dronegrade$Band", "marks", "[I", true)
  | 2 => ("Dronegrade$Band", "places", "[I", true)
  | 3 => ("Dronegrade$Band", "grade", "I", false)
  | 4 => ("Dronegrade$Band", "nextGrade", "I", false)
  | 5 => ("Dronegrade$Band", "points", "I", false)
  | 6 => ("Dronegrade$Band", "rank", "I", false)
  | 7 => ("Dronegrade$Band", "sum", "I", false)
  | 8 => ("Dronegrade$Band", "firsts", "I", false)
  | _ => ("Dronegrade$Band", "takesPart", "Z", false)
def tyX0 : Nat → FieldType := fun k => match k with
  | 0 => .int
  | 1 => .array .int
  | 2 => .array .int
  | 3 => .int
  | 4 => .int
  | 5 => .int
  | 6 => .int
  | 7 => .int
  | 8 => .int
  | _ => .boolean
abbrev wsX00 : List Cond := u_ws RX0 TX0 10
theorem nmX0 : ∀ a, a < 10 → ∀ b, b < 10 → a ≠ b → (TX0 a).2.1 ≠ (TX0 b).2.1 := by decide +kernel
theorem tyX0_ok : ∀ k, k < 10 → parseFieldDescriptor (TX0 k).2.2.1 = some (tyX0 k) := by decide +kernel
abbrev cX0_init : ByteArray := prog_2_method_1_code
def yX0_init : MethodName := ⟨RX0, "<init>", "(II)V"⟩
abbrev cX0_forgetMarks : ByteArray := prog_2_method_2_code
def yX0_forgetMarks : MethodName := ⟨RX0, "forgetMarks", "()V"⟩
abbrev cX0_markBy : ByteArray := prog_2_method_3_code
def yX0_markBy : MethodName := ⟨RX0, "markBy", "(I)I"⟩
abbrev cX0_takeMark : ByteArray := prog_2_method_4_code
def yX0_takeMark : MethodName := ⟨RX0, "takeMark", "(II)V"⟩
abbrev cX0_placeBy : ByteArray := prog_2_method_5_code
def yX0_placeBy : MethodName := ⟨RX0, "placeBy", "(I)I"⟩
abbrev cX0_takePlace : ByteArray := prog_2_method_6_code
def yX0_takePlace : MethodName := ⟨RX0, "takePlace", "(II)V"⟩
abbrev cX0_forgetResult : ByteArray := prog_2_method_7_code
def yX0_forgetResult : MethodName := ⟨RX0, "forgetResult", "()V"⟩
abbrev cX0_takeRank : ByteArray := prog_2_method_8_code
def yX0_takeRank : MethodName := ⟨RX0, "takeRank", "(I)V"⟩
abbrev cX0_isRankedAheadOf : ByteArray := prog_2_method_9_code
def yX0_isRankedAheadOf : MethodName := ⟨RX0, "isRankedAheadOf", "(LDronegrade$Band;)Z"⟩
abbrev cX0_beginSeason : ByteArray := prog_2_method_10_code
def yX0_beginSeason : MethodName := ⟨RX0, "beginSeason", "()Z"⟩
abbrev cX0_tell : ByteArray := prog_2_method_11_code
def yX0_tell : MethodName := ⟨RX0, "tell", "(I)I"⟩
def RX1 : String := "Dronegrade$Piper"
def TX1 : u_T := fun k => match k with
  | 0 => ("Dronegrade$Piper", "reed", "I", false)
  | 1 => ("Dronegrade$Piper", "pressure", "I", false)
  | 2 => ("Dronegrade$Piper", "breath", "I", false)
  | 3 => ("Dronegrade$Piper", "seat", "I", false)
  | 4 => ("Dronegrade$Piper", "warmth", "I", false)
  | 5 => ("Dronegrade$Piper", "wet", "I", false)
  | _ => ("Dronegrade$Piper", "isResting", "Z", false)
def tyX1 : Nat → FieldType := fun k => match k with
  | 0 => .int
  | 1 => .int
  | 2 => .int
  | 3 => .int
  | 4 => .int
  | 5 => .int
  | _ => .boolean
abbrev wsX10 : List Cond := u_ws RX1 TX1 7
theorem nmX1 : ∀ a, a < 7 → ∀ b, b < 7 → a ≠ b → (TX1 a).2.1 ≠ (TX1 b).2.1 := by decide +kernel
theorem tyX1_ok : ∀ k, k < 7 → parseFieldDescriptor (TX1 k).2.2.1 = some (tyX1 k) := by decide +kernel
abbrev cX1_init : ByteArray := prog_3_method_1_code
def yX1_init : MethodName := ⟨RX1, "<init>", "(III)V"⟩
abbrev cX1_becomeLike : ByteArray := prog_3_method_2_code
def yX1_becomeLike : MethodName := ⟨RX1, "becomeLike", "(LDronegrade$Piper;)V"⟩
abbrev cX1_pitch : ByteArray := prog_3_method_3_code
def yX1_pitch : MethodName := ⟨RX1, "pitch", "()I"⟩
abbrev cX1_goThrough : ByteArray := prog_3_method_4_code
def yX1_goThrough : MethodName := ⟨RX1, "goThrough", "(III)V"⟩
abbrev cX1_restAMinute : ByteArray := prog_3_method_5_code
def yX1_restAMinute : MethodName := ⟨RX1, "restAMinute", "()V"⟩
abbrev cX1_playAMinute : ByteArray := prog_3_method_6_code
def yX1_playAMinute : MethodName := ⟨RX1, "playAMinute", "(II)V"⟩
abbrev cX1_tell : ByteArray := prog_3_method_7_code
def yX1_tell : MethodName := ⟨RX1, "tell", "(I)I"⟩
def RX2 : String := "Dronegrade$Pitches"
def TX2 : u_T := fun k => match k with
  | 0 => ("Dronegrade$Pitches", "row", "[I", true)
  | _ => ("Dronegrade$Pitches", "count", "I", false)
def tyX2 : Nat → FieldType := fun k => match k with
  | 0 => .array .int
  | _ => .int
abbrev wsX20 : List Cond := u_ws RX2 TX2 2
theorem nmX2 : ∀ a, a < 2 → ∀ b, b < 2 → a ≠ b → (TX2 a).2.1 ≠ (TX2 b).2.1 := by decide +kernel
theorem tyX2_ok : ∀ k, k < 2 → parseFieldDescriptor (TX2 k).2.2.1 = some (tyX2 k) := by decide +kernel
abbrev cX2_init : ByteArray := prog_4_method_1_code
def yX2_init : MethodName := ⟨RX2, "<init>", "()V"⟩
abbrev cX2_empty : ByteArray := prog_4_method_2_code
def yX2_empty : MethodName := ⟨RX2, "empty", "()V"⟩
abbrev cX2_put : ByteArray := prog_4_method_3_code
def yX2_put : MethodName := ⟨RX2, "put", "(I)V"⟩
abbrev cX2_range : ByteArray := prog_4_method_4_code
def yX2_range : MethodName := ⟨RX2, "range", "()I"⟩
abbrev cX2_middle : ByteArray := prog_4_method_5_code
def yX2_middle : MethodName := ⟨RX2, "middle", "()I"⟩
def RX3 : String := "Dronegrade$Tune"
def TX3 : u_T := fun k => match k with
  | 0 => ("Dronegrade$Tune", "number", "I", true)
  | 1 => ("Dronegrade$Tune", "kind", "I", true)
  | 2 => ("Dronegrade$Tune", "heights", "[I", true)
  | 3 => ("Dronegrade$Tune", "lengths", "[I", true)
  | 4 => ("Dronegrade$Tune", "graces", "[I", true)
  | 5 => ("Dronegrade$Tune", "parts", "[I", true)
  | 6 => ("Dronegrade$Tune", "playedNotes", "[I", true)
  | 7 => ("Dronegrade$Tune", "writtenCount", "I", false)
  | 8 => ("Dronegrade$Tune", "firstOpen", "I", false)
  | 9 => ("Dronegrade$Tune", "openUnits", "I", false)
  | 10 => ("Dronegrade$Tune", "partCount", "I", false)
  | _ => ("Dronegrade$Tune", "playedCount", "I", false)
def tyX3 : Nat → FieldType := fun k => match k with
  | 0 => .int
  | 1 => .int
  | 2 => .array .int
  | 3 => .array .int
  | 4 => .array .int
  | 5 => .array .int
  | 6 => .array .int
  | 7 => .int
  | 8 => .int
  | 9 => .int
  | 10 => .int
  | _ => .int
abbrev wsX30 : List Cond := u_ws RX3 TX3 12
theorem nmX3 : ∀ a, a < 12 → ∀ b, b < 12 → a ≠ b → (TX3 a).2.1 ≠ (TX3 b).2.1 := by decide +kernel
theorem tyX3_ok : ∀ k, k < 12 → parseFieldDescriptor (TX3 k).2.2.1 = some (tyX3 k) := by decide +kernel
abbrev cX3_init : ByteArray := prog_5_method_1_code
def yX3_init : MethodName := ⟨RX3, "<init>", "(II)V"⟩
abbrev cX3_barUnits : ByteArray := prog_5_method_2_code
def yX3_barUnits : MethodName := ⟨RX3, "barUnits", "()I"⟩
abbrev cX3_canTake : ByteArray := prog_5_method_3_code
def yX3_canTake : MethodName := ⟨RX3, "canTake", "(III)Z"⟩
abbrev cX3_isLawful : ByteArray := prog_5_method_4_code
def yX3_isLawful : MethodName := ⟨RX3, "isLawful", "(II)Z"⟩
abbrev cX3_lastWrittenHeight : ByteArray := prog_5_method_5_code
def yX3_lastWrittenHeight : MethodName := ⟨RX3, "lastWrittenHeight", "()I"⟩
abbrev cX3_write : ByteArray := prog_5_method_6_code
def yX3_write : MethodName := ⟨RX3, "write", "(III)I"⟩
abbrev cX3_canEndPart : ByteArray := prog_5_method_7_code
def yX3_canEndPart : MethodName := ⟨RX3, "canEndPart", "()Z"⟩
abbrev cX3_endPart : ByteArray := prog_5_method_8_code
def yX3_endPart : MethodName := ⟨RX3, "endPart", "(Z)I"⟩
abbrev cX3_playOpenNotes : ByteArray := prog_5_method_9_code
def yX3_playOpenNotes : MethodName := ⟨RX3, "playOpenNotes", "()V"⟩
abbrev cX3_ofPlayed : ByteArray := prog_5_method_10_code
def yX3_ofPlayed : MethodName := ⟨RX3, "ofPlayed", "([II)I"⟩
abbrev cX3_heightAt : ByteArray := prog_5_method_11_code
def yX3_heightAt : MethodName := ⟨RX3, "heightAt", "(I)I"⟩
abbrev cX3_graceAt : ByteArray := prog_5_method_12_code
def yX3_graceAt : MethodName := ⟨RX3, "graceAt", "(I)I"⟩
abbrev cX3_unitsAhead : ByteArray := prog_5_method_13_code
def yX3_unitsAhead : MethodName := ⟨RX3, "unitsAhead", "(I)I"⟩
abbrev cX3_unitsPlayed : ByteArray := prog_5_method_14_code
def yX3_unitsPlayed : MethodName := ⟨RX3, "unitsPlayed", "()I"⟩
abbrev cX3_tellPlayed : ByteArray := prog_5_method_15_code
def yX3_tellPlayed : MethodName := ⟨RX3, "tellPlayed", "(II)I"⟩
abbrev cX3_tell : ByteArray := prog_5_method_16_code
def yX3_tell : MethodName := ⟨RX3, "tell", "(I)I"⟩
abbrev cX3_clashes : ByteArray := prog_5_method_17_code
def yX3_clashes : MethodName := ⟨RX3, "clashes", "()I"⟩
abbrev cX3_smallNotes : ByteArray := prog_5_method_18_code
def yX3_smallNotes : MethodName := ⟨RX3, "smallNotes", "()I"⟩
abbrev cX3_smallNotesOf : ByteArray := prog_5_method_19_code
def yX3_smallNotesOf : MethodName := ⟨RX3, "smallNotesOf", "(I)I"⟩
abbrev cX3_likenessByShifts : ByteArray := prog_5_method_20_code
def yX3_likenessByShifts : MethodName := ⟨RX3, "likenessByShifts", "(LDronegrade$Tune;)I"⟩
abbrev cX3_likenessByBeginnings : ByteArray := prog_5_method_21_code
def yX3_likenessByBeginnings : MethodName := ⟨RX3, "likenessByBeginnings", "(LDronegrade$Tune;)I"⟩
abbrev cX3_runFrom : ByteArray := prog_5_method_22_code
def yX3_runFrom : MethodName := ⟨RX3, "runFrom", "(ILDronegrade$Tune;I)I"⟩
def RX4 : String := "Dronegrade"
def TX4 : u_T := fun k => match k with
  | 0 => ("Dronegrade", "tunes", "Ljava/util/ArrayList;", true)
  | 1 => ("Dronegrade", "set", "Ljava/util/ArrayList;", true)
  | 2 => ("Dronegrade", "tempi", "[I", true)
  | 3 => ("Dronegrade", "pipers", "Ljava/util/ArrayList;", true)
  | 4 => ("Dronegrade", "trial", "LDronegrade$Piper;", true)
  | 5 => ("Dronegrade", "pitches", "LDronegrade$Pitches;", true)
  | 6 => ("Dronegrade", "bands", "Ljava/util/ArrayList;", true)
  | 7 => ("Dronegrade", "isContestOpen", "Z", false)
  | _ => ("Dronegrade", "missingMarks", "I", false)
def tyX4 : Nat → FieldType := fun k => match k with
  | 0 => .object "java/util/ArrayList"
  | 1 => .object "java/util/ArrayList"
  | 2 => .array .int
  | 3 => .object "java/util/ArrayList"
  | 4 => .object "Dronegrade$Piper"
  | 5 => .object "Dronegrade$Pitches"
  | 6 => .object "java/util/ArrayList"
  | 7 => .boolean
  | _ => .int
abbrev wsX40 : List Cond := u_ws RX4 TX4 9
theorem nmX4 : ∀ a, a < 9 → ∀ b, b < 9 → a ≠ b → (TX4 a).2.1 ≠ (TX4 b).2.1 := by decide +kernel
theorem tyX4_ok : ∀ k, k < 9 → parseFieldDescriptor (TX4 k).2.2.1 = some (tyX4 k) := by decide +kernel
abbrev cX4_init : ByteArray := prog_1_method_1_code
def yX4_init : MethodName := ⟨RX4, "<init>", "()V"⟩
abbrev cX4_tune : ByteArray := prog_1_method_2_code
def yX4_tune : MethodName := ⟨RX4, "tune", "(I)I"⟩
abbrev cX4_note : ByteArray := prog_1_method_3_code
def yX4_note : MethodName := ⟨RX4, "note", "(IIII)I"⟩
abbrev cX4_part : ByteArray := prog_1_method_4_code
def yX4_part : MethodName := ⟨RX4, "part", "(IZ)I"⟩
abbrev cX4_played : ByteArray := prog_1_method_5_code
def yX4_played : MethodName := ⟨RX4, "played", "(III)I"⟩
abbrev cX4_ofTune : ByteArray := prog_1_method_6_code
def yX4_ofTune : MethodName := ⟨RX4, "ofTune", "(II)I"⟩
abbrev cX4_alike : ByteArray := prog_1_method_7_code
def yX4_alike : MethodName := ⟨RX4, "alike", "(II)I"⟩
abbrev cX4_alikeAnew : ByteArray := prog_1_method_8_code
def yX4_alikeAnew : MethodName := ⟨RX4, "alikeAnew", "(II)I"⟩
abbrev cX4_tuneOfNumber : ByteArray := prog_1_method_9_code
def yX4_tuneOfNumber : MethodName := ⟨RX4, "tuneOfNumber", "(I)LDronegrade$Tune;"⟩
abbrev cX4_follow : ByteArray := prog_1_method_10_code
def yX4_follow : MethodName := ⟨RX4, "follow", "(II)I"⟩
abbrev cX4_drop : ByteArray := prog_1_method_11_code
def yX4_drop : MethodName := ⟨RX4, "drop", "()I"⟩
abbrev cX4_time : ByteArray := prog_1_method_12_code
def yX4_time : MethodName := ⟨RX4, "time", "()J"⟩
abbrev cX4_mayFollow : ByteArray := prog_1_method_13_code
def yX4_mayFollow : MethodName := ⟨RX4, "mayFollow", "(LDronegrade$Tune;I)Z"⟩
abbrev cX4_piper : ByteArray := prog_1_method_14_code
def yX4_piper : MethodName := ⟨RX4, "piper", "(III)I"⟩
abbrev cX4_seat : ByteArray := prog_1_method_15_code
def yX4_seat : MethodName := ⟨RX4, "seat", "(II)I"⟩
abbrev cX4_rest : ByteArray := prog_1_method_16_code
def yX4_rest : MethodName := ⟨RX4, "rest", "(IZ)Z"⟩
abbrev cX4_play : ByteArray := prog_1_method_17_code
def yX4_play : MethodName := ⟨RX4, "play", "(III)I"⟩
abbrev cX4_ofPiper : ByteArray := prog_1_method_18_code
def yX4_ofPiper : MethodName := ⟨RX4, "ofPiper", "(II)I"⟩
abbrev cX4_spread : ByteArray := prog_1_method_19_code
def yX4_spread : MethodName := ⟨RX4, "spread", "()I"⟩
abbrev cX4_odd : ByteArray := prog_1_method_20_code
def yX4_odd : MethodName := ⟨RX4, "odd", "()I"⟩
abbrev cX4_beats : ByteArray := prog_1_method_21_code
def yX4_beats : MethodName := ⟨RX4, "beats", "(II)F"⟩
abbrev cX4_ahead : ByteArray := prog_1_method_22_code
def yX4_ahead : MethodName := ⟨RX4, "ahead", "(III)I"⟩
abbrev cX4_piperOfNumber : ByteArray := prog_1_method_23_code
def yX4_piperOfNumber : MethodName := ⟨RX4, "piperOfNumber", "(I)LDronegrade$Piper;"⟩
abbrev cX4_isWeather : ByteArray := prog_1_method_24_code
def yX4_isWeather : MethodName := ⟨RX4, "isWeather", "(III)Z"⟩
abbrev cX4_gatherPitchesWithout : ByteArray := prog_1_method_25_code
def yX4_gatherPitchesWithout : MethodName := ⟨RX4, "gatherPitchesWithout", "(I)V"⟩
abbrev cX4_spreadWithout : ByteArray := prog_1_method_26_code
def yX4_spreadWithout : MethodName := ⟨RX4, "spreadWithout", "(I)I"⟩
abbrev cX4_seatToMiddle : ByteArray := prog_1_method_27_code
def yX4_seatToMiddle : MethodName := ⟨RX4, "seatToMiddle", "(LDronegrade$Piper;)I"⟩
abbrev cX4_band : ByteArray := prog_1_method_28_code
def yX4_band : MethodName := ⟨RX4, "band", "(I)I"⟩
abbrev cX4_contest : ByteArray := prog_1_method_29_code
def yX4_contest : MethodName := ⟨RX4, "contest", "(I)I"⟩
abbrev cX4_mark : ByteArray := prog_1_method_30_code
def yX4_mark : MethodName := ⟨RX4, "mark", "(III)I"⟩
abbrev cX4_close : ByteArray := prog_1_method_31_code
def yX4_close : MethodName := ⟨RX4, "close", "()I"⟩
abbrev cX4_season : ByteArray := prog_1_method_32_code
def yX4_season : MethodName := ⟨RX4, "season", "()I"⟩
abbrev cX4_ofBand : ByteArray := prog_1_method_33_code
def yX4_ofBand : MethodName := ⟨RX4, "ofBand", "(II)I"⟩
abbrev cX4_bandOfNumber : ByteArray := prog_1_method_34_code
def yX4_bandOfNumber : MethodName := ⟨RX4, "bandOfNumber", "(I)LDronegrade$Band;"⟩
abbrev cX4_bandsOfGrade : ByteArray := prog_1_method_35_code
def yX4_bandsOfGrade : MethodName := ⟨RX4, "bandsOfGrade", "(I)I"⟩
abbrev cX4_findPlaces : ByteArray := prog_1_method_36_code
def yX4_findPlaces : MethodName := ⟨RX4, "findPlaces", "(LDronegrade$Band;)V"⟩
abbrev cX4_rankBands : ByteArray := prog_1_method_37_code
def yX4_rankBands : MethodName := ⟨RX4, "rankBands", "()I"⟩
abbrev cX4_bandsAheadOf : ByteArray := prog_1_method_38_code
def yX4_bandsAheadOf : MethodName := ⟨RX4, "bandsAheadOf", "(LDronegrade$Band;)I"⟩
abbrev cX4_sendUpFrom : ByteArray := prog_1_method_39_code
def yX4_sendUpFrom : MethodName := ⟨RX4, "sendUpFrom", "(I)V"⟩
abbrev cX4_sendDownFrom : ByteArray := prog_1_method_40_code
def yX4_sendDownFrom : MethodName := ⟨RX4, "sendDownFrom", "(I)V"⟩
abbrev cX4_isWithin : ByteArray := prog_1_method_41_code
def yX4_isWithin : MethodName := ⟨RX4, "isWithin", "(III)Z"⟩
def RX5 : String := "DronegradeModel"
def TX5 : u_T := fun k => match k with
  | 0 => ("DronegradeModel", "tunes", "I", false)
  | 1 => ("DronegradeModel", "kind", "[I", true)
  | 2 => ("DronegradeModel", "notes", "[I", true)
  | 3 => ("DronegradeModel", "parts", "[I", true)
  | 4 => ("DronegradeModel", "height", "[I", true)
  | 5 => ("DronegradeModel", "length", "[I", true)
  | 6 => ("DronegradeModel", "grace", "[I", true)
  | 7 => ("DronegradeModel", "partEnd", "[I", true)
  | 8 => ("DronegradeModel", "isTwice", "[Z", true)
  | 9 => ("DronegradeModel", "many", "I", false)
  | 10 => ("DronegradeModel", "row", "[I", true)
  | 11 => ("DronegradeModel", "partOf", "[I", true)
  | 12 => ("DronegradeModel", "other", "[I", true)
  | 13 => ("DronegradeModel", "runs", "[I", true)
  | 14 => ("DronegradeModel", "inSet", "I", false)
  | 15 => ("DronegradeModel", "setTune", "[I", true)
  | 16 => ("DronegradeModel", "setTempo", "[I", true)
  | 17 => ("DronegradeModel", "pipers", "I", false)
  | 18 => ("DronegradeModel", "reed", "[I", true)
  | 19 => ("DronegradeModel", "pressure", "[I", true)
  | 20 => ("DronegradeModel", "breath", "[I", true)
  | 21 => ("DronegradeModel", "seat", "[I", true)
  | 22 => ("DronegradeModel", "warmth", "[I", true)
  | 23 => ("DronegradeModel", "wet", "[I", true)
  | 24 => ("DronegradeModel", "rests", "[Z", true)
  | 25 => ("DronegradeModel", "keptReed", "[I", true)
  | 26 => ("DronegradeModel", "keptWarmth", "[I", true)
  | 27 => ("DronegradeModel", "keptWet", "[I", true)
  | 28 => ("DronegradeModel", "pitches", "[I", true)
  | 29 => ("DronegradeModel", "bands", "I", false)
  | 30 => ("DronegradeModel", "grade", "[I", true)
  | 31 => ("DronegradeModel", "points", "[I", true)
  | 32 => ("DronegradeModel", "rank", "[I", true)
  | 33 => ("DronegradeModel", "total", "[I", true)
  | 34 => ("DronegradeModel", "firsts", "[I", true)
  | 35 => ("DronegradeModel", "nextGrade", "[I", true)
  | 36 => ("DronegradeModel", "isOpen", "Z", false)
  | 37 => ("DronegradeModel", "partaking", "I", false)
  | 38 => ("DronegradeModel", "marks", "[I", true)
  | _ => ("DronegradeModel", "thrown", "I", false)
def tyX5 : Nat → FieldType := fun k => match k with
  | 0 => .int
  | 1 => .array .int
  | 2 => .array .int
  | 3 => .array .int
  | 4 => .array .int
  | 5 => .array .int
  | 6 => .array .int
  | 7 => .array .int
  | 8 => .array .boolean
  | 9 => .int
  | 10 => .array .int
  | 11 => .array .int
  | 12 => .array .int
  | 13 => .array .int
  | 14 => .int
  | 15 => .array .int
  | 16 => .array .int
  | 17 => .int
  | 18 => .array .int
  | 19 => .array .int
  | 20 => .array .int
  | 21 => .array .int
  | 22 => .array .int
  | 23 => .array .int
  | 24 => .array .boolean
  | 25 => .array .int
  | 26 => .array .int
  | 27 => .array .int
  | 28 => .array .int
  | 29 => .int
  | 30 => .array .int
  | 31 => .array .int
  | 32 => .array .int
  | 33 => .array .int
  | 34 => .array .int
  | 35 => .array .int
  | 36 => .boolean
  | 37 => .int
  | 38 => .array .int
  | _ => .int
abbrev wsX50 : List Cond := u_ws RX5 TX5 40
theorem nmX5 : ∀ a, a < 40 → ∀ b, b < 40 → a ≠ b → (TX5 a).2.1 ≠ (TX5 b).2.1 := by decide +kernel
theorem tyX5_ok : ∀ k, k < 40 → parseFieldDescriptor (TX5 k).2.2.1 = some (tyX5 k) := by decide +kernel
abbrev cX5_init : ByteArray := prog_7_method_1_code
def yX5_init : MethodName := ⟨RX5, "<init>", "()V"⟩
abbrev cX5_thrown : ByteArray := prog_7_method_2_code
def yX5_thrown : MethodName := ⟨RX5, "thrown", "()I"⟩
abbrev cX5_isIn : ByteArray := prog_7_method_3_code
def yX5_isIn : MethodName := ⟨RX5, "isIn", "(III)Z"⟩
abbrev cX5_isTune : ByteArray := prog_7_method_4_code
def yX5_isTune : MethodName := ⟨RX5, "isTune", "(I)Z"⟩
abbrev cX5_barOf : ByteArray := prog_7_method_5_code
def yX5_barOf : MethodName := ⟨RX5, "barOf", "(I)I"⟩
abbrev cX5_tune : ByteArray := prog_7_method_6_code
def yX5_tune : MethodName := ⟨RX5, "tune", "(I)I"⟩
abbrev cX5_openFrom : ByteArray := prog_7_method_7_code
def yX5_openFrom : MethodName := ⟨RX5, "openFrom", "(I)I"⟩
abbrev cX5_openUnits : ByteArray := prog_7_method_8_code
def yX5_openUnits : MethodName := ⟨RX5, "openUnits", "(I)I"⟩
abbrev cX5_heightOf : ByteArray := prog_7_method_9_code
def yX5_heightOf : MethodName := ⟨RX5, "heightOf", "(I)I"⟩
abbrev cX5_isLawful : ByteArray := prog_7_method_10_code
def yX5_isLawful : MethodName := ⟨RX5, "isLawful", "(III)Z"⟩
abbrev cX5_note : ByteArray := prog_7_method_11_code
def yX5_note : MethodName := ⟨RX5, "note", "(IIII)I"⟩
abbrev cX5_part : ByteArray := prog_7_method_12_code
def yX5_part : MethodName := ⟨RX5, "part", "(IZ)I"⟩
abbrev cX5_plays : ByteArray := prog_7_method_13_code
def yX5_plays : MethodName := ⟨RX5, "plays", "(I)V"⟩
abbrev cX5_unitsTo : ByteArray := prog_7_method_14_code
def yX5_unitsTo : MethodName := ⟨RX5, "unitsTo", "(I)I"⟩
abbrev cX5_played : ByteArray := prog_7_method_15_code
def yX5_played : MethodName := ⟨RX5, "played", "(III)I"⟩
abbrev cX5_clashes : ByteArray := prog_7_method_16_code
def yX5_clashes : MethodName := ⟨RX5, "clashes", "()I"⟩
abbrev cX5_small : ByteArray := prog_7_method_17_code
def yX5_small : MethodName := ⟨RX5, "small", "()I"⟩
abbrev cX5_ofTune : ByteArray := prog_7_method_18_code
def yX5_ofTune : MethodName := ⟨RX5, "ofTune", "(II)I"⟩
abbrev cX5_tellsAlike : ByteArray := prog_7_method_19_code
def yX5_tellsAlike : MethodName := ⟨RX5, "tellsAlike", "(II)I"⟩
abbrev cX5_alike : ByteArray := prog_7_method_20_code
def yX5_alike : MethodName := ⟨RX5, "alike", "(II)I"⟩
abbrev cX5_alikeAnew : ByteArray := prog_7_method_21_code
def yX5_alikeAnew : MethodName := ⟨RX5, "alikeAnew", "(II)I"⟩
abbrev cX5_mayFollow : ByteArray := prog_7_method_22_code
def yX5_mayFollow : MethodName := ⟨RX5, "mayFollow", "(II)Z"⟩
abbrev cX5_follow : ByteArray := prog_7_method_23_code
def yX5_follow : MethodName := ⟨RX5, "follow", "(II)I"⟩
abbrev cX5_drop : ByteArray := prog_7_method_24_code
def yX5_drop : MethodName := ⟨RX5, "drop", "()I"⟩
abbrev cX5_time : ByteArray := prog_7_method_25_code
def yX5_time : MethodName := ⟨RX5, "time", "()J"⟩
abbrev cX5_isPiper : ByteArray := prog_7_method_26_code
def yX5_isPiper : MethodName := ⟨RX5, "isPiper", "(I)Z"⟩
abbrev cX5_piper : ByteArray := prog_7_method_27_code
def yX5_piper : MethodName := ⟨RX5, "piper", "(III)I"⟩
abbrev cX5_seat : ByteArray := prog_7_method_28_code
def yX5_seat : MethodName := ⟨RX5, "seat", "(II)I"⟩
abbrev cX5_rest : ByteArray := prog_7_method_29_code
def yX5_rest : MethodName := ⟨RX5, "rest", "(IZ)Z"⟩
abbrev cX5_pitch : ByteArray := prog_7_method_30_code
def yX5_pitch : MethodName := ⟨RX5, "pitch", "(I)I"⟩
abbrev cX5_spreadBut : ByteArray := prog_7_method_31_code
def yX5_spreadBut : MethodName := ⟨RX5, "spreadBut", "(I)I"⟩
abbrev cX5_goesOn : ByteArray := prog_7_method_32_code
def yX5_goesOn : MethodName := ⟨RX5, "goesOn", "(III)V"⟩
abbrev cX5_goes : ByteArray := prog_7_method_33_code
def yX5_goes : MethodName := ⟨RX5, "goes", "(III)I"⟩
abbrev cX5_isMinute : ByteArray := prog_7_method_34_code
def yX5_isMinute : MethodName := ⟨RX5, "isMinute", "(III)Z"⟩
abbrev cX5_play : ByteArray := prog_7_method_35_code
def yX5_play : MethodName := ⟨RX5, "play", "(III)I"⟩
abbrev cX5_ahead : ByteArray := prog_7_method_36_code
def yX5_ahead : MethodName := ⟨RX5, "ahead", "(III)I"⟩
abbrev cX5_playing : ByteArray := prog_7_method_37_code
def yX5_playing : MethodName := ⟨RX5, "playing", "()I"⟩
abbrev cX5_middle : ByteArray := prog_7_method_38_code
def yX5_middle : MethodName := ⟨RX5, "middle", "()I"⟩
abbrev cX5_ofPiper : ByteArray := prog_7_method_39_code
def yX5_ofPiper : MethodName := ⟨RX5, "ofPiper", "(II)I"⟩
abbrev cX5_spread : ByteArray := prog_7_method_40_code
def yX5_spread : MethodName := ⟨RX5, "spread", "()I"⟩
abbrev cX5_odd : ByteArray := prog_7_method_41_code
def yX5_odd : MethodName := ⟨RX5, "odd", "()I"⟩
abbrev cX5_beats : ByteArray := prog_7_method_42_code
def yX5_beats : MethodName := ⟨RX5, "beats", "(II)F"⟩
abbrev cX5_isBand : ByteArray := prog_7_method_43_code
def yX5_isBand : MethodName := ⟨RX5, "isBand", "(I)Z"⟩
abbrev cX5_band : ByteArray := prog_7_method_44_code
def yX5_band : MethodName := ⟨RX5, "band", "(I)I"⟩
abbrev cX5_ofGrade : ByteArray := prog_7_method_45_code
def yX5_ofGrade : MethodName := ⟨RX5, "ofGrade", "(I)I"⟩
abbrev cX5_contest : ByteArray := prog_7_method_46_code
def yX5_contest : MethodName := ⟨RX5, "contest", "(I)I"⟩
abbrev cX5_takesPart : ByteArray := prog_7_method_47_code
def yX5_takesPart : MethodName := ⟨RX5, "takesPart", "(I)Z"⟩
abbrev cX5_missing : ByteArray := prog_7_method_48_code
def yX5_missing : MethodName := ⟨RX5, "missing", "()I"⟩
abbrev cX5_mark : ByteArray := prog_7_method_49_code
def yX5_mark : MethodName := ⟨RX5, "mark", "(III)I"⟩
abbrev cX5_place : ByteArray := prog_7_method_50_code
def yX5_place : MethodName := ⟨RX5, "place", "(II)I"⟩
abbrev cX5_sumOf : ByteArray := prog_7_method_51_code
def yX5_sumOf : MethodName := ⟨RX5, "sumOf", "(I)I"⟩
abbrev cX5_isAhead : ByteArray := prog_7_method_52_code
def yX5_isAhead : MethodName := ⟨RX5, "isAhead", "(II)Z"⟩
abbrev cX5_close : ByteArray := prog_7_method_53_code
def yX5_close : MethodName := ⟨RX5, "close", "()I"⟩
abbrev cX5_season : ByteArray := prog_7_method_54_code
def yX5_season : MethodName := ⟨RX5, "season", "()I"⟩
abbrev cX5_ofBand : ByteArray := prog_7_method_55_code
def yX5_ofBand : MethodName := ⟨RX5, "ofBand", "(II)I"⟩
def RJx145de : String := "java/io/Serializable"
def TJx145de : u_T := fun k => match k with
  | _ => ("", "", "", false)
def tyJx145de : Nat → FieldType := fun k => match k with
  | _ => .int
abbrev wsJx145de0 : List Cond := u_ws RJx145de TJx145de 0
theorem nmJx145de : ∀ a, a < 0 → ∀ b, b < 0 → a ≠ b → (TJx145de a).2.1 ≠ (TJx145de b).2.1 := by decide +kernel
theorem tyJx145de_ok : ∀ k, k < 0 → parseFieldDescriptor (TJx145de k).2.2.1 = some (tyJx145de k) := by decide +kernel
def RJx8e188 : String := "java/lang/Cloneable"
def TJx8e188 : u_T := fun k => match k with
  | _ => ("", "", "", false)
def tyJx8e188 : Nat → FieldType := fun k => match k with
  | _ => .int
abbrev wsJx8e1880 : List Cond := u_ws RJx8e188 TJx8e188 0
theorem nmJx8e188 : ∀ a, a < 0 → ∀ b, b < 0 → a ≠ b → (TJx8e188 a).2.1 ≠ (TJx8e188 b).2.1 := by decide +kernel
theorem tyJx8e188_ok : ∀ k, k < 0 → parseFieldDescriptor (TJx8e188 k).2.2.1 = some (tyJx8e188 k) := by decide +kernel
def RJxab1ab : String := "java/lang/Iterable"
def TJxab1ab : u_T := fun k => match k with
  | _ => ("", "", "", false)
def tyJxab1ab : Nat → FieldType := fun k => match k with
  | _ => .int
abbrev wsJxab1ab0 : List Cond := u_ws RJxab1ab TJxab1ab 0
theorem nmJxab1ab : ∀ a, a < 0 → ∀ b, b < 0 → a ≠ b → (TJxab1ab a).2.1 ≠ (TJxab1ab b).2.1 := by decide +kernel
theorem tyJxab1ab_ok : ∀ k, k < 0 → parseFieldDescriptor (TJxab1ab k).2.2.1 = some (tyJxab1ab k) := by decide +kernel
def RJ9 : String := "java/lang/Math"
def TJ9 : u_T := fun k => match k with
  | _ => ("", "", "", false)
def tyJ9 : Nat → FieldType := fun k => match k with
  | _ => .int
abbrev wsJ90 : List Cond := u_ws RJ9 TJ9 0
theorem nmJ9 : ∀ a, a < 0 → ∀ b, b < 0 → a ≠ b → (TJ9 a).2.1 ≠ (TJ9 b).2.1 := by decide +kernel
theorem tyJ9_ok : ∀ k, k < 0 → parseFieldDescriptor (TJ9 k).2.2.1 = some (tyJ9 k) := by decide +kernel
abbrev cJ9_abs_0f7a4 : ByteArray := prog_15_method_59_code
def yJ9_abs_0f7a4 : MethodName := ⟨RJ9, "abs", "(I)I"⟩
abbrev cJ9_max_7cf53 : ByteArray := prog_15_method_65_code
def yJ9_max_7cf53 : MethodName := ⟨RJ9, "max", "(II)I"⟩
abbrev cJ9_min_7cf53 : ByteArray := prog_15_method_69_code
def yJ9_min_7cf53 : MethodName := ⟨RJ9, "min", "(II)I"⟩
def RJ0 : String := "java/lang/String"
def TJ0 : u_T := fun k => match k with
  | _ => ("", "", "", false)
def tyJ0 : Nat → FieldType := fun k => match k with
  | _ => .int
abbrev wsJ00 : List Cond := u_ws RJ0 TJ0 0
theorem nmJ0 : ∀ a, a < 0 → ∀ b, b < 0 → a ≠ b → (TJ0 a).2.1 ≠ (TJ0 b).2.1 := by decide +kernel
theorem tyJ0_ok : ∀ k, k < 0 → parseFieldDescriptor (TJ0 k).2.2.1 = some (tyJ0 k) := by decide +kernel
def RJ10 : String := "java/lang/System"
def TJ10 : u_T := fun k => match k with
  | _ => ("", "", "", false)
def tyJ10 : Nat → FieldType := fun k => match k with
  | _ => .int
abbrev wsJ100 : List Cond := u_ws RJ10 TJ10 0
theorem nmJ10 : ∀ a, a < 0 → ∀ b, b < 0 → a ≠ b → (TJ10 a).2.1 ≠ (TJ10 b).2.1 := by decide +kernel
theorem tyJ10_ok : ∀ k, k < 0 → parseFieldDescriptor (TJ10 k).2.2.1 = some (tyJ10 k) := by decide +kernel
def RJxa1e45 : String := "java/util/AbstractCollection"
def TJxa1e45 : u_T := fun k => match k with
  | _ => ("", "", "", false)
def tyJxa1e45 : Nat → FieldType := fun k => match k with
  | _ => .int
abbrev wsJxa1e450 : List Cond := u_ws RJxa1e45 TJxa1e45 0
theorem nmJxa1e45 : ∀ a, a < 0 → ∀ b, b < 0 → a ≠ b → (TJxa1e45 a).2.1 ≠ (TJxa1e45 b).2.1 := by decide +kernel
theorem tyJxa1e45_ok : ∀ k, k < 0 → parseFieldDescriptor (TJxa1e45 k).2.2.1 = some (tyJxa1e45 k) := by decide +kernel
abbrev cJxa1e45_init_da8c8 : ByteArray := prog_20_method_1_code
def yJxa1e45_init_da8c8 : MethodName := ⟨RJxa1e45, "<init>", "()V"⟩
def RJxc12de : String := "java/util/AbstractList"
def TJxc12de : u_T := fun k => match k with
  | _ => ("", "", "", false)
def tyJxc12de : Nat → FieldType := fun k => match k with
  | _ => .int
abbrev wsJxc12de0 : List Cond := u_ws RJxc12de TJxc12de 0
theorem nmJxc12de : ∀ a, a < 0 → ∀ b, b < 0 → a ≠ b → (TJxc12de a).2.1 ≠ (TJxc12de b).2.1 := by decide +kernel
theorem tyJxc12de_ok : ∀ k, k < 0 → parseFieldDescriptor (TJxc12de k).2.2.1 = some (tyJxc12de k) := by decide +kernel
abbrev cJxc12de_init_da8c8 : ByteArray := prog_21_method_1_code
def yJxc12de_init_da8c8 : MethodName := ⟨RJxc12de, "<init>", "()V"⟩
def RJx4a65c : String := "java/util/ArrayList"
def TJx4a65c : u_T := fun k => match k with
  | 0 => ("java/util/AbstractList", "modCount", "I", false)
  | 1 => ("java/util/ArrayList", "elementData", "[Ljava/lang/Object;", false)
  | _ => ("java/util/ArrayList", "size", "I", false)
def tyJx4a65c : Nat → FieldType := fun k => match k with
  | 0 => .int
  | 1 => .array (.object "java/lang/Object")
  | _ => .int
abbrev wsJx4a65c0 : List Cond := u_ws RJx4a65c TJx4a65c 3
theorem nmJx4a65c : ∀ a, a < 3 → ∀ b, b < 3 → a ≠ b → (TJx4a65c a).2.1 ≠ (TJx4a65c b).2.1 := by decide +kernel
theorem tyJx4a65c_ok : ∀ k, k < 3 → parseFieldDescriptor (TJx4a65c k).2.2.1 = some (tyJx4a65c k) := by decide +kernel
abbrev cJx4a65c_init_da8c8 : ByteArray := prog_22_method_2_code
def yJx4a65c_init_da8c8 : MethodName := ⟨RJx4a65c, "<init>", "()V"⟩
abbrev cJx4a65c_grow_92f84 : ByteArray := prog_22_method_6_code
def yJx4a65c_grow_92f84 : MethodName := ⟨RJx4a65c, "grow", "(I)[Ljava/lang/Object;"⟩
abbrev cJx4a65c_grow_d5877 : ByteArray := prog_22_method_7_code
def yJx4a65c_grow_d5877 : MethodName := ⟨RJx4a65c, "grow", "()[Ljava/lang/Object;"⟩
abbrev cJx4a65c_size_8abf5 : ByteArray := prog_22_method_8_code
def yJx4a65c_size_8abf5 : MethodName := ⟨RJx4a65c, "size", "()I"⟩
abbrev cJx4a65c_elementData_915e3 : ByteArray := prog_22_method_18_code
def yJx4a65c_elementData_915e3 : MethodName := ⟨RJx4a65c, "elementData", "(I)Ljava/lang/Object;"⟩
abbrev cJx4a65c_get_915e3 : ByteArray := prog_22_method_20_code
def yJx4a65c_get_915e3 : MethodName := ⟨RJx4a65c, "get", "(I)Ljava/lang/Object;"⟩
abbrev cJx4a65c_add_72be8 : ByteArray := prog_22_method_24_code
def yJx4a65c_add_72be8 : MethodName := ⟨RJx4a65c, "add", "(Ljava/lang/Object;[Ljava/lang/Object;I)V"⟩
abbrev cJx4a65c_add_9ea2d : ByteArray := prog_22_method_25_code
def yJx4a65c_add_9ea2d : MethodName := ⟨RJx4a65c, "add", "(Ljava/lang/Object;)Z"⟩
abbrev cJx4a65c_remove_915e3 : ByteArray := prog_22_method_29_code
def yJx4a65c_remove_915e3 : MethodName := ⟨RJx4a65c, "remove", "(I)Ljava/lang/Object;"⟩
abbrev cJx4a65c_fastRemove_b59b0 : ByteArray := prog_22_method_39_code
def yJx4a65c_fastRemove_b59b0 : MethodName := ⟨RJx4a65c, "fastRemove", "([Ljava/lang/Object;I)V"⟩
def RJ7 : String := "java/util/Arrays"
def TJ7 : u_T := fun k => match k with
  | _ => ("", "", "", false)
def tyJ7 : Nat → FieldType := fun k => match k with
  | _ => .int
abbrev wsJ70 : List Cond := u_ws RJ7 TJ7 0
theorem nmJ7 : ∀ a, a < 0 → ∀ b, b < 0 → a ≠ b → (TJ7 a).2.1 ≠ (TJ7 b).2.1 := by decide +kernel
theorem tyJ7_ok : ∀ k, k < 0 → parseFieldDescriptor (TJ7 k).2.2.1 = some (tyJ7 k) := by decide +kernel
abbrev cJ7_copyOf_1904c : ByteArray := prog_23_method_119_code
def yJ7_copyOf_1904c : MethodName := ⟨RJ7, "copyOf", "([Ljava/lang/Object;I)[Ljava/lang/Object;"⟩
abbrev cJ7_copyOf_6403c : ByteArray := prog_23_method_120_code
def yJ7_copyOf_6403c : MethodName := ⟨RJ7, "copyOf", "([Ljava/lang/Object;ILjava/lang/Class;)[Ljava/lang/Object;"⟩
def RJx5ef63 : String := "java/util/Collection"
def TJx5ef63 : u_T := fun k => match k with
  | _ => ("", "", "", false)
def tyJx5ef63 : Nat → FieldType := fun k => match k with
  | _ => .int
abbrev wsJx5ef630 : List Cond := u_ws RJx5ef63 TJx5ef63 0
theorem nmJx5ef63 : ∀ a, a < 0 → ∀ b, b < 0 → a ≠ b → (TJx5ef63 a).2.1 ≠ (TJx5ef63 b).2.1 := by decide +kernel
theorem tyJx5ef63_ok : ∀ k, k < 0 → parseFieldDescriptor (TJx5ef63 k).2.2.1 = some (tyJx5ef63 k) := by decide +kernel
def RJxbd725 : String := "java/util/List"
def TJxbd725 : u_T := fun k => match k with
  | _ => ("", "", "", false)
def tyJxbd725 : Nat → FieldType := fun k => match k with
  | _ => .int
abbrev wsJxbd7250 : List Cond := u_ws RJxbd725 TJxbd725 0
theorem nmJxbd725 : ∀ a, a < 0 → ∀ b, b < 0 → a ≠ b → (TJxbd725 a).2.1 ≠ (TJxbd725 b).2.1 := by decide +kernel
theorem tyJxbd725_ok : ∀ k, k < 0 → parseFieldDescriptor (TJxbd725 k).2.2.1 = some (tyJxbd725 k) := by decide +kernel
def RJ15 : String := "java/util/Objects"
def TJ15 : u_T := fun k => match k with
  | _ => ("", "", "", false)
def tyJ15 : Nat → FieldType := fun k => match k with
  | _ => .int
abbrev wsJ150 : List Cond := u_ws RJ15 TJ15 0
theorem nmJ15 : ∀ a, a < 0 → ∀ b, b < 0 → a ≠ b → (TJ15 a).2.1 ≠ (TJ15 b).2.1 := by decide +kernel
theorem tyJ15_ok : ∀ k, k < 0 → parseFieldDescriptor (TJ15 k).2.2.1 = some (tyJ15 k) := by decide +kernel
abbrev cJ15_checkIndex_7cf53 : ByteArray := prog_26_method_17_code
def yJ15_checkIndex_7cf53 : MethodName := ⟨RJ15, "checkIndex", "(II)I"⟩
def RJxf0a74 : String := "java/util/RandomAccess"
def TJxf0a74 : u_T := fun k => match k with
  | _ => ("", "", "", false)
def tyJxf0a74 : Nat → FieldType := fun k => match k with
  | _ => .int
abbrev wsJxf0a740 : List Cond := u_ws RJxf0a74 TJxf0a74 0
theorem nmJxf0a74 : ∀ a, a < 0 → ∀ b, b < 0 → a ≠ b → (TJxf0a74 a).2.1 ≠ (TJxf0a74 b).2.1 := by decide +kernel
theorem tyJxf0a74_ok : ∀ k, k < 0 → parseFieldDescriptor (TJxf0a74 k).2.2.1 = some (tyJxf0a74 k) := by decide +kernel
def RJxa66e6 : String := "java/util/SequencedCollection"
def TJxa66e6 : u_T := fun k => match k with
  | _ => ("", "", "", false)
def tyJxa66e6 : Nat → FieldType := fun k => match k with
  | _ => .int
abbrev wsJxa66e60 : List Cond := u_ws RJxa66e6 TJxa66e6 0
theorem nmJxa66e6 : ∀ a, a < 0 → ∀ b, b < 0 → a ≠ b → (TJxa66e6 a).2.1 ≠ (TJxa66e6 b).2.1 := by decide +kernel
theorem tyJxa66e6_ok : ∀ k, k < 0 → parseFieldDescriptor (TJxa66e6 k).2.2.1 = some (tyJxa66e6 k) := by decide +kernel
def RJ8 : String := "jdk/internal/util/ArraysSupport"
def TJ8 : u_T := fun k => match k with
  | _ => ("", "", "", false)
def tyJ8 : Nat → FieldType := fun k => match k with
  | _ => .int
abbrev wsJ80 : List Cond := u_ws RJ8 TJ8 0
theorem nmJ8 : ∀ a, a < 0 → ∀ b, b < 0 → a ≠ b → (TJ8 a).2.1 ≠ (TJ8 b).2.1 := by decide +kernel
theorem tyJ8_ok : ∀ k, k < 0 → parseFieldDescriptor (TJ8 k).2.2.1 = some (tyJ8 k) := by decide +kernel
abbrev cJ8_newLength_cabcc : ByteArray := prog_29_method_27_code
def yJ8_newLength_cabcc : MethodName := ⟨RJ8, "newLength", "(III)I"⟩
abbrev cJ8_hugeLength_7cf53 : ByteArray := prog_29_method_28_code
def yJ8_hugeLength_7cf53 : MethodName := ⟨RJ8, "hugeLength", "(II)I"⟩
def RJ3 : String := "jdk/internal/util/Preconditions"
def TJ3 : u_T := fun k => match k with
  | _ => ("", "", "", false)
def tyJ3 : Nat → FieldType := fun k => match k with
  | _ => .int
abbrev wsJ30 : List Cond := u_ws RJ3 TJ3 0
theorem nmJ3 : ∀ a, a < 0 → ∀ b, b < 0 → a ≠ b → (TJ3 a).2.1 ≠ (TJ3 b).2.1 := by decide +kernel
theorem tyJ3_ok : ∀ k, k < 0 → parseFieldDescriptor (TJ3 k).2.2.1 = some (tyJ3 k) := by decide +kernel
abbrev cJ3_checkIndex_8e157 : ByteArray := prog_30_method_11_code
def yJ3_checkIndex_8e157 : MethodName := ⟨RJ3, "checkIndex", "(IILjava/util/function/BiFunction;)I"⟩
def RL : String := "DronegradeLaw"
abbrev cL_tune : ByteArray := method_3_code
def yL_tune : MethodName := ⟨RL, "tune", "(LDronegrade;I[J)I"⟩
abbrev cL_note : ByteArray := method_4_code
def yL_note : MethodName := ⟨RL, "note", "(LDronegrade;IIII[J)I"⟩
abbrev cL_part : ByteArray := method_5_code
def yL_part : MethodName := ⟨RL, "part", "(LDronegrade;IZ[J)I"⟩
abbrev cL_played : ByteArray := method_6_code
def yL_played : MethodName := ⟨RL, "played", "(LDronegrade;III[J)I"⟩
abbrev cL_ofTune : ByteArray := method_7_code
def yL_ofTune : MethodName := ⟨RL, "ofTune", "(LDronegrade;II[J)I"⟩
abbrev cL_alike : ByteArray := method_8_code
def yL_alike : MethodName := ⟨RL, "alike", "(LDronegrade;II[J)I"⟩
abbrev cL_alikeAnew : ByteArray := method_9_code
def yL_alikeAnew : MethodName := ⟨RL, "alikeAnew", "(LDronegrade;II[J)I"⟩
abbrev cL_follow : ByteArray := method_10_code
def yL_follow : MethodName := ⟨RL, "follow", "(LDronegrade;II[J)I"⟩
abbrev cL_drop : ByteArray := method_11_code
def yL_drop : MethodName := ⟨RL, "drop", "(LDronegrade;[J)I"⟩
abbrev cL_piper : ByteArray := method_12_code
def yL_piper : MethodName := ⟨RL, "piper", "(LDronegrade;III[J)I"⟩
abbrev cL_seat : ByteArray := method_13_code
def yL_seat : MethodName := ⟨RL, "seat", "(LDronegrade;II[J)I"⟩
abbrev cL_rest : ByteArray := method_14_code
def yL_rest : MethodName := ⟨RL, "rest", "(LDronegrade;IZ[J)I"⟩
abbrev cL_play : ByteArray := method_15_code
def yL_play : MethodName := ⟨RL, "play", "(LDronegrade;III[J)I"⟩
abbrev cL_ofPiper : ByteArray := method_16_code
def yL_ofPiper : MethodName := ⟨RL, "ofPiper", "(LDronegrade;II[J)I"⟩
abbrev cL_beats : ByteArray := method_17_code
def yL_beats : MethodName := ⟨RL, "beats", "(LDronegrade;II[D)I"⟩
abbrev cL_ahead : ByteArray := method_18_code
def yL_ahead : MethodName := ⟨RL, "ahead", "(LDronegrade;III[J)I"⟩
abbrev cL_band : ByteArray := method_19_code
def yL_band : MethodName := ⟨RL, "band", "(LDronegrade;I[J)I"⟩
abbrev cL_contest : ByteArray := method_20_code
def yL_contest : MethodName := ⟨RL, "contest", "(LDronegrade;I[J)I"⟩
abbrev cL_mark : ByteArray := method_21_code
def yL_mark : MethodName := ⟨RL, "mark", "(LDronegrade;III[J)I"⟩
abbrev cL_close : ByteArray := method_22_code
def yL_close : MethodName := ⟨RL, "close", "(LDronegrade;[J)I"⟩
abbrev cL_season : ByteArray := method_23_code
def yL_season : MethodName := ⟨RL, "season", "(LDronegrade;[J)I"⟩
abbrev cL_ofBand : ByteArray := method_24_code
def yL_ofBand : MethodName := ⟨RL, "ofBand", "(LDronegrade;II[J)I"⟩
abbrev cL_law : ByteArray := code
def yL_law : MethodName := ⟨RL, "law", "([I)Z"⟩
abbrev vwCl : List vw_C := [(RJx4a65c, TJx4a65c, 3), (RX0, TX0, 10), (RX1, TX1, 7), (RX2, TX2, 2), (RX3, TX3, 12), (RX4, TX4, 9), (RX5, TX5, 40)]
end
section
theorem dX0_init_0 : decode cX0_init 0 = .ok (.aload_n 0, 1) := by decide +kernel
theorem dX0_init_1 : decode cX0_init 1 = .ok (.invokespecial 3, 3) := by decide +kernel
theorem dX0_init_4 : decode cX0_init 4 = .ok (.aload_n 0, 1) := by decide +kernel
theorem dX0_init_5 : decode cX0_init 5 = .ok (.iload_n 1, 1) := by decide +kernel
theorem dX0_init_6 : decode cX0_init 6 = .ok (.putfield 9, 3) := by decide +kernel
theorem dX0_init_9 : decode cX0_init 9 = .ok (.aload_n 0, 1) := by decide +kernel
theorem dX0_init_10 : decode cX0_init 10 = .ok (.iload_n 2, 1) := by decide +kernel
theorem dX0_init_11 : decode cX0_init 11 = .ok (.putfield 15, 3) := by decide +kernel
theorem dX0_init_14 : decode cX0_init 14 = .ok (.aload_n 0, 1) := by decide +kernel
theorem dX0_init_15 : decode cX0_init 15 = .ok (.iload_n 2, 1) := by decide +kernel
theorem dX0_init_16 : decode cX0_init 16 = .ok (.putfield 18, 3) := by decide +kernel
theorem dX0_init_19 : decode cX0_init 19 = .ok (.aload_n 0, 1) := by decide +kernel
theorem dX0_init_20 : decode cX0_init 20 = .ok (.iconst (-1), 1) := by decide +kernel
theorem dX0_init_21 : decode cX0_init 21 = .ok (.putfield 21, 3) := by decide +kernel
theorem dX0_init_24 : decode cX0_init 24 = .ok (.aload_n 0, 1) := by decide +kernel
theorem dX0_init_25 : decode cX0_init 25 = .ok (.iconst (-1), 1) := by decide +kernel
theorem dX0_init_26 : decode cX0_init 26 = .ok (.putfield 24, 3) := by decide +kernel
theorem dX0_init_29 : decode cX0_init 29 = .ok (.aload_n 0, 1) := by decide +kernel
theorem dX0_init_30 : decode cX0_init 30 = .ok (.iconst 4, 1) := by decide +kernel
theorem dX0_init_31 : decode cX0_init 31 = .ok (.newarray .int, 2) := by decide +kernel
theorem dX0_init_33 : decode cX0_init 33 = .ok (.putfield 27, 3) := by decide +kernel
theorem dX0_init_36 : decode cX0_init 36 = .ok (.aload_n 0, 1) := by decide +kernel
theorem dX0_init_37 : decode cX0_init 37 = .ok (.iconst 4, 1) := by decide +kernel
theorem dX0_init_38 : decode cX0_init 38 = .ok (.newarray .int, 2) := by decide +kernel
theorem dX0_init_40 : decode cX0_init 40 = .ok (.putfield 31, 3) := by decide +kernel
theorem dX0_init_43 : decode cX0_init 43 = .ok (.return_, 1) := by decide +kernel
theorem dX0_forgetMarks_0 : decode cX0_forgetMarks 0 = .ok (.iconst 0, 1) := by decide +kernel
theorem dX0_forgetMarks_1 : decode cX0_forgetMarks 1 = .ok (.istore_n 1, 1) := by decide +kernel
theorem dX0_forgetMarks_2 : decode cX0_forgetMarks 2 = .ok (.iload_n 1, 1) := by decide +kernel
theorem dX0_forgetMarks_3 : decode cX0_forgetMarks 3 = .ok (.aload_n 0, 1) := by decide +kernel
theorem dX0_forgetMarks_4 : decode cX0_forgetMarks 4 = .ok (.getfield 27, 3) := by decide +kernel
theorem dX0_forgetMarks_7 : decode cX0_forgetMarks 7 = .ok (.arraylength, 1) := by decide +kernel
theorem dX0_forgetMarks_8 : decode cX0_forgetMarks 8 = .ok (.if_icmp .ge 16, 3) := by decide +kernel
theorem dX0_forgetMarks_11 : decode cX0_forgetMarks 11 = .ok (.aload_n 0, 1) := by decide +kernel
theorem dX0_forgetMarks_12 : decode cX0_forgetMarks 12 = .ok (.getfield 27, 3) := by decide +kernel
theorem dX0_forgetMarks_15 : decode cX0_forgetMarks 15 = .ok (.iload_n 1, 1) := by decide +kernel
theorem dX0_forgetMarks_16 : decode cX0_forgetMarks 16 = .ok (.iconst (-1), 1) := by decide +kernel
theorem dX0_forgetMarks_17 : decode cX0_forgetMarks 17 = .ok (.iastore, 1) := by decide +kernel
theorem dX0_forgetMarks_18 : decode cX0_forgetMarks 18 = .ok (.iinc 1 1, 3) := by decide +kernel
theorem dX0_forgetMarks_21 : decode cX0_forgetMarks 21 = .ok (.goto (-19), 3) := by decide +kernel
theorem dX0_forgetMarks_24 : decode cX0_forgetMarks 24 = .ok (.return_, 1) := by decide +kernel
theorem dX0_markBy_0 : decode cX0_markBy 0 = .ok (.iload_n 1, 1) := by decide +kernel
theorem dX0_markBy_1 : decode cX0_markBy 1 = .ok (.ifCond .lt 21, 3) := by decide +kernel
theorem dX0_markBy_4 : decode cX0_markBy 4 = .ok (.iload_n 1, 1) := by decide +kernel
theorem dX0_markBy_5 : decode cX0_markBy 5 = .ok (.aload_n 0, 1) := by decide +kernel
theorem dX0_markBy_6 : decode cX0_markBy 6 = .ok (.getfield 27, 3) := by decide +kernel
theorem dX0_markBy_9 : decode cX0_markBy 9 = .ok (.arraylength, 1) := by decide +kernel
theorem dX0_markBy_10 : decode cX0_markBy 10 = .ok (.if_icmp .ge 12, 3) := by decide +kernel
theorem dX0_markBy_13 : decode cX0_markBy 13 = .ok (.aload_n 0, 1) := by decide +kernel
theorem dX0_markBy_14 : decode cX0_markBy 14 = .ok (.getfield 27, 3) := by decide +kernel
theorem dX0_markBy_17 : decode cX0_markBy 17 = .ok (.iload_n 1, 1) := by decide +kernel
theorem dX0_markBy_18 : decode cX0_markBy 18 = .ok (.iaload, 1) := by decide +kernel
theorem dX0_markBy_19 : decode cX0_markBy 19 = .ok (.goto 4, 3) := by decide +kernel
theorem dX0_markBy_22 : decode cX0_markBy 22 = .ok (.iconst (-1), 1) := by decide +kernel
theorem dX0_markBy_23 : decode cX0_markBy 23 = .ok (.ireturn, 1) := by decide +kernel
theorem dX0_takeMark_0 : decode cX0_takeMark 0 = .ok (.iload_n 1, 1) := by decide +kernel
theorem dX0_takeMark_1 : decode cX0_takeMark 1 = .ok (.ifCond .lt 19, 3) := by decide +kernel
theorem dX0_takeMark_4 : decode cX0_takeMark 4 = .ok (.iload_n 1, 1) := by decide +kernel
theorem dX0_takeMark_5 : decode cX0_takeMark 5 = .ok (.aload_n 0, 1) := by decide +kernel
theorem dX0_takeMark_6 : decode cX0_takeMark 6 = .ok (.getfield 27, 3) := by decide +kernel
theorem dX0_takeMark_9 : decode cX0_takeMark 9 = .ok (.arraylength, 1) := by decide +kernel
theorem dX0_takeMark_10 : decode cX0_takeMark 10 = .ok (.if_icmp .ge 10, 3) := by decide +kernel
theorem dX0_takeMark_13 : decode cX0_takeMark 13 = .ok (.aload_n 0, 1) := by decide +kernel
theorem dX0_takeMark_14 : decode cX0_takeMark 14 = .ok (.getfield 27, 3) := by decide +kernel
theorem dX0_takeMark_17 : decode cX0_takeMark 17 = .ok (.iload_n 1, 1) := by decide +kernel
theorem dX0_takeMark_18 : decode cX0_takeMark 18 = .ok (.iload_n 2, 1) := by decide +kernel
theorem dX0_takeMark_19 : decode cX0_takeMark 19 = .ok (.iastore, 1) := by decide +kernel
theorem dX0_takeMark_20 : decode cX0_takeMark 20 = .ok (.return_, 1) := by decide +kernel
theorem dX0_placeBy_0 : decode cX0_placeBy 0 = .ok (.iload_n 1, 1) := by decide +kernel
theorem dX0_placeBy_1 : decode cX0_placeBy 1 = .ok (.ifCond .lt 21, 3) := by decide +kernel
theorem dX0_placeBy_4 : decode cX0_placeBy 4 = .ok (.iload_n 1, 1) := by decide +kernel
theorem dX0_placeBy_5 : decode cX0_placeBy 5 = .ok (.aload_n 0, 1) := by decide +kernel
theorem dX0_placeBy_6 : decode cX0_placeBy 6 = .ok (.getfield 31, 3) := by decide +kernel
theorem dX0_placeBy_9 : decode cX0_placeBy 9 = .ok (.arraylength, 1) := by decide +kernel
theorem dX0_placeBy_10 : decode cX0_placeBy 10 = .ok (.if_icmp .ge 12, 3) := by decide +kernel
theorem dX0_placeBy_13 : decode cX0_placeBy 13 = .ok (.aload_n 0, 1) := by decide +kernel
theorem dX0_placeBy_14 : decode cX0_placeBy 14 = .ok (.getfield 31, 3) := by decide +kernel
theorem dX0_placeBy_17 : decode cX0_placeBy 17 = .ok (.iload_n 1, 1) := by decide +kernel
theorem dX0_placeBy_18 : decode cX0_placeBy 18 = .ok (.iaload, 1) := by decide +kernel
theorem dX0_placeBy_19 : decode cX0_placeBy 19 = .ok (.goto 4, 3) := by decide +kernel
theorem dX0_placeBy_22 : decode cX0_placeBy 22 = .ok (.iconst (-1), 1) := by decide +kernel
theorem dX0_placeBy_23 : decode cX0_placeBy 23 = .ok (.ireturn, 1) := by decide +kernel
theorem dX0_takePlace_0 : decode cX0_takePlace 0 = .ok (.iload_n 1, 1) := by decide +kernel
theorem dX0_takePlace_1 : decode cX0_takePlace 1 = .ok (.ifCond .lt 19, 3) := by decide +kernel
theorem dX0_takePlace_4 : decode cX0_takePlace 4 = .ok (.iload_n 1, 1) := by decide +kernel
theorem dX0_takePlace_5 : decode cX0_takePlace 5 = .ok (.aload_n 0, 1) := by decide +kernel
theorem dX0_takePlace_6 : decode cX0_takePlace 6 = .ok (.getfield 31, 3) := by decide +kernel
theorem dX0_takePlace_9 : decode cX0_takePlace 9 = .ok (.arraylength, 1) := by decide +kernel
theorem dX0_takePlace_10 : decode cX0_takePlace 10 = .ok (.if_icmp .ge 10, 3) := by decide +kernel
theorem dX0_takePlace_13 : decode cX0_takePlace 13 = .ok (.aload_n 0, 1) := by decide +kernel
theorem dX0_takePlace_14 : decode cX0_takePlace 14 = .ok (.getfield 31, 3) := by decide +kernel
theorem dX0_takePlace_17 : decode cX0_takePlace 17 = .ok (.iload_n 1, 1) := by decide +kernel
theorem dX0_takePlace_18 : decode cX0_takePlace 18 = .ok (.iload_n 2, 1) := by decide +kernel
theorem dX0_takePlace_19 : decode cX0_takePlace 19 = .ok (.iastore, 1) := by decide +kernel
theorem dX0_takePlace_20 : decode cX0_takePlace 20 = .ok (.return_, 1) := by decide +kernel
theorem dX0_forgetResult_0 : decode cX0_forgetResult 0 = .ok (.aload_n 0, 1) := by decide +kernel
theorem dX0_forgetResult_1 : decode cX0_forgetResult 1 = .ok (.iconst (-1), 1) := by decide +kernel
theorem dX0_forgetResult_2 : decode cX0_forgetResult 2 = .ok (.putfield 21, 3) := by decide +kernel
theorem dX0_forgetResult_5 : decode cX0_forgetResult 5 = .ok (.aload_n 0, 1) := by decide +kernel
theorem dX0_forgetResult_6 : decode cX0_forgetResult 6 = .ok (.iconst (-1), 1) := by decide +kernel
theorem dX0_forgetResult_7 : decode cX0_forgetResult 7 = .ok (.putfield 24, 3) := by decide +kernel
theorem dX0_forgetResult_10 : decode cX0_forgetResult 10 = .ok (.return_, 1) := by decide +kernel
theorem dX0_takeRank_0 : decode cX0_takeRank 0 = .ok (.aload_n 0, 1) := by decide +kernel
theorem dX0_takeRank_1 : decode cX0_takeRank 1 = .ok (.iload_n 1, 1) := by decide +kernel
theorem dX0_takeRank_2 : decode cX0_takeRank 2 = .ok (.putfield 21, 3) := by decide +kernel
theorem dX0_takeRank_5 : decode cX0_takeRank 5 = .ok (.aload_n 0, 1) := by decide +kernel
theorem dX0_takeRank_6 : decode cX0_takeRank 6 = .ok (.getfield 21, 3) := by decide +kernel
theorem dX0_takeRank_9 : decode cX0_takeRank 9 = .ok (.iconst 1, 1) := by decide +kernel
theorem dX0_takeRank_10 : decode cX0_takeRank 10 = .ok (.if_icmp .ne 13, 3) := by decide +kernel
theorem dX0_takeRank_13 : decode cX0_takeRank 13 = .ok (.aload_n 0, 1) := by decide +kernel
theorem dX0_takeRank_14 : decode cX0_takeRank 14 = .ok (.dup, 1) := by decide +kernel
theorem dX0_takeRank_15 : decode cX0_takeRank 15 = .ok (.getfield 34, 3) := by decide +kernel
theorem dX0_takeRank_18 : decode cX0_takeRank 18 = .ok (.iconst 1, 1) := by decide +kernel
theorem dX0_takeRank_19 : decode cX0_takeRank 19 = .ok (.iadd, 1) := by decide +kernel
theorem dX0_takeRank_20 : decode cX0_takeRank 20 = .ok (.putfield 34, 3) := by decide +kernel
theorem dX0_takeRank_23 : decode cX0_takeRank 23 = .ok (.aload_n 0, 1) := by decide +kernel
theorem dX0_takeRank_24 : decode cX0_takeRank 24 = .ok (.getfield 21, 3) := by decide +kernel
theorem dX0_takeRank_27 : decode cX0_takeRank 27 = .ok (.iconst 1, 1) := by decide +kernel
theorem dX0_takeRank_28 : decode cX0_takeRank 28 = .ok (.if_icmp .lt 33, 3) := by decide +kernel
theorem dX0_takeRank_31 : decode cX0_takeRank 31 = .ok (.aload_n 0, 1) := by decide +kernel
theorem dX0_takeRank_32 : decode cX0_takeRank 32 = .ok (.getfield 21, 3) := by decide +kernel
theorem dX0_takeRank_35 : decode cX0_takeRank 35 = .ok (.getstatic 37, 3) := by decide +kernel
theorem dX0_takeRank_38 : decode cX0_takeRank 38 = .ok (.arraylength, 1) := by decide +kernel
theorem dX0_takeRank_39 : decode cX0_takeRank 39 = .ok (.if_icmp .gt 22, 3) := by decide +kernel
theorem dX0_takeRank_42 : decode cX0_takeRank 42 = .ok (.aload_n 0, 1) := by decide +kernel
theorem dX0_takeRank_43 : decode cX0_takeRank 43 = .ok (.dup, 1) := by decide +kernel
theorem dX0_takeRank_44 : decode cX0_takeRank 44 = .ok (.getfield 40, 3) := by decide +kernel
theorem dX0_takeRank_47 : decode cX0_takeRank 47 = .ok (.getstatic 37, 3) := by decide +kernel
theorem dX0_takeRank_50 : decode cX0_takeRank 50 = .ok (.aload_n 0, 1) := by decide +kernel
theorem dX0_takeRank_51 : decode cX0_takeRank 51 = .ok (.getfield 21, 3) := by decide +kernel
theorem dX0_takeRank_54 : decode cX0_takeRank 54 = .ok (.iconst 1, 1) := by decide +kernel
theorem dX0_takeRank_55 : decode cX0_takeRank 55 = .ok (.isub, 1) := by decide +kernel
theorem dX0_takeRank_56 : decode cX0_takeRank 56 = .ok (.iaload, 1) := by decide +kernel
theorem dX0_takeRank_57 : decode cX0_takeRank 57 = .ok (.iadd, 1) := by decide +kernel
theorem dX0_takeRank_58 : decode cX0_takeRank 58 = .ok (.putfield 40, 3) := by decide +kernel
theorem dX0_takeRank_61 : decode cX0_takeRank 61 = .ok (.return_, 1) := by decide +kernel
theorem dX0_isRankedAheadOf_0 : decode cX0_isRankedAheadOf 0 = .ok (.aload_n 0, 1) := by decide +kernel
theorem dX0_isRankedAheadOf_1 : decode cX0_isRankedAheadOf 1 = .ok (.getfield 24, 3) := by decide +kernel
theorem dX0_isRankedAheadOf_4 : decode cX0_isRankedAheadOf 4 = .ok (.aload_n 1, 1) := by decide +kernel
theorem dX0_isRankedAheadOf_5 : decode cX0_isRankedAheadOf 5 = .ok (.getfield 24, 3) := by decide +kernel
theorem dX0_isRankedAheadOf_8 : decode cX0_isRankedAheadOf 8 = .ok (.if_icmp .eq 20, 3) := by decide +kernel
theorem dX0_isRankedAheadOf_11 : decode cX0_isRankedAheadOf 11 = .ok (.aload_n 0, 1) := by decide +kernel
theorem dX0_isRankedAheadOf_12 : decode cX0_isRankedAheadOf 12 = .ok (.getfield 24, 3) := by decide +kernel
theorem dX0_isRankedAheadOf_15 : decode cX0_isRankedAheadOf 15 = .ok (.aload_n 1, 1) := by decide +kernel
theorem dX0_isRankedAheadOf_16 : decode cX0_isRankedAheadOf 16 = .ok (.getfield 24, 3) := by decide +kernel
theorem dX0_isRankedAheadOf_19 : decode cX0_isRankedAheadOf 19 = .ok (.if_icmp .ge 7, 3) := by decide +kernel
theorem dX0_isRankedAheadOf_22 : decode cX0_isRankedAheadOf 22 = .ok (.iconst 1, 1) := by decide +kernel
theorem dX0_isRankedAheadOf_23 : decode cX0_isRankedAheadOf 23 = .ok (.goto 4, 3) := by decide +kernel
theorem dX0_isRankedAheadOf_26 : decode cX0_isRankedAheadOf 26 = .ok (.iconst 0, 1) := by decide +kernel
theorem dX0_isRankedAheadOf_27 : decode cX0_isRankedAheadOf 27 = .ok (.ireturn, 1) := by decide +kernel
theorem dX0_isRankedAheadOf_28 : decode cX0_isRankedAheadOf 28 = .ok (.aload_n 0, 1) := by decide +kernel
theorem dX0_isRankedAheadOf_29 : decode cX0_isRankedAheadOf 29 = .ok (.iconst 3, 1) := by decide +kernel
theorem dX0_isRankedAheadOf_30 : decode cX0_isRankedAheadOf 30 = .ok (.invokevirtual 43, 3) := by decide +kernel
theorem dX0_isRankedAheadOf_33 : decode cX0_isRankedAheadOf 33 = .ok (.aload_n 1, 1) := by decide +kernel
theorem dX0_isRankedAheadOf_34 : decode cX0_isRankedAheadOf 34 = .ok (.iconst 3, 1) := by decide +kernel
theorem dX0_isRankedAheadOf_35 : decode cX0_isRankedAheadOf 35 = .ok (.invokevirtual 43, 3) := by decide +kernel
theorem dX0_isRankedAheadOf_38 : decode cX0_isRankedAheadOf 38 = .ok (.if_icmp .eq 22, 3) := by decide +kernel
theorem dX0_isRankedAheadOf_41 : decode cX0_isRankedAheadOf 41 = .ok (.aload_n 0, 1) := by decide +kernel
theorem dX0_isRankedAheadOf_42 : decode cX0_isRankedAheadOf 42 = .ok (.iconst 3, 1) := by decide +kernel
theorem dX0_isRankedAheadOf_43 : decode cX0_isRankedAheadOf 43 = .ok (.invokevirtual 43, 3) := by decide +kernel
theorem dX0_isRankedAheadOf_46 : decode cX0_isRankedAheadOf 46 = .ok (.aload_n 1, 1) := by decide +kernel
theorem dX0_isRankedAheadOf_47 : decode cX0_isRankedAheadOf 47 = .ok (.iconst 3, 1) := by decide +kernel
theorem dX0_isRankedAheadOf_48 : decode cX0_isRankedAheadOf 48 = .ok (.invokevirtual 43, 3) := by decide +kernel
theorem dX0_isRankedAheadOf_51 : decode cX0_isRankedAheadOf 51 = .ok (.if_icmp .ge 7, 3) := by decide +kernel
theorem dX0_isRankedAheadOf_54 : decode cX0_isRankedAheadOf 54 = .ok (.iconst 1, 1) := by decide +kernel
theorem dX0_isRankedAheadOf_55 : decode cX0_isRankedAheadOf 55 = .ok (.goto 4, 3) := by decide +kernel
theorem dX0_isRankedAheadOf_58 : decode cX0_isRankedAheadOf 58 = .ok (.iconst 0, 1) := by decide +kernel
theorem dX0_isRankedAheadOf_59 : decode cX0_isRankedAheadOf 59 = .ok (.ireturn, 1) := by decide +kernel
theorem dX0_isRankedAheadOf_60 : decode cX0_isRankedAheadOf 60 = .ok (.aload_n 0, 1) := by decide +kernel
theorem dX0_isRankedAheadOf_61 : decode cX0_isRankedAheadOf 61 = .ok (.iconst 0, 1) := by decide +kernel
theorem dX0_isRankedAheadOf_62 : decode cX0_isRankedAheadOf 62 = .ok (.invokevirtual 43, 3) := by decide +kernel
theorem dX0_isRankedAheadOf_65 : decode cX0_isRankedAheadOf 65 = .ok (.aload_n 0, 1) := by decide +kernel
theorem dX0_isRankedAheadOf_66 : decode cX0_isRankedAheadOf 66 = .ok (.iconst 1, 1) := by decide +kernel
theorem dX0_isRankedAheadOf_67 : decode cX0_isRankedAheadOf 67 = .ok (.invokevirtual 43, 3) := by decide +kernel
theorem dX0_isRankedAheadOf_70 : decode cX0_isRankedAheadOf 70 = .ok (.iadd, 1) := by decide +kernel
theorem dX0_isRankedAheadOf_71 : decode cX0_isRankedAheadOf 71 = .ok (.istore_n 2, 1) := by decide +kernel
theorem dX0_isRankedAheadOf_72 : decode cX0_isRankedAheadOf 72 = .ok (.aload_n 1, 1) := by decide +kernel
theorem dX0_isRankedAheadOf_73 : decode cX0_isRankedAheadOf 73 = .ok (.iconst 0, 1) := by decide +kernel
theorem dX0_isRankedAheadOf_74 : decode cX0_isRankedAheadOf 74 = .ok (.invokevirtual 43, 3) := by decide +kernel
theorem dX0_isRankedAheadOf_77 : decode cX0_isRankedAheadOf 77 = .ok (.aload_n 1, 1) := by decide +kernel
theorem dX0_isRankedAheadOf_78 : decode cX0_isRankedAheadOf 78 = .ok (.iconst 1, 1) := by decide +kernel
theorem dX0_isRankedAheadOf_79 : decode cX0_isRankedAheadOf 79 = .ok (.invokevirtual 43, 3) := by decide +kernel
theorem dX0_isRankedAheadOf_82 : decode cX0_isRankedAheadOf 82 = .ok (.iadd, 1) := by decide +kernel
theorem dX0_isRankedAheadOf_83 : decode cX0_isRankedAheadOf 83 = .ok (.istore_n 3, 1) := by decide +kernel
theorem dX0_isRankedAheadOf_84 : decode cX0_isRankedAheadOf 84 = .ok (.iload_n 2, 1) := by decide +kernel
theorem dX0_isRankedAheadOf_85 : decode cX0_isRankedAheadOf 85 = .ok (.iload_n 3, 1) := by decide +kernel
theorem dX0_isRankedAheadOf_86 : decode cX0_isRankedAheadOf 86 = .ok (.if_icmp .eq 14, 3) := by decide +kernel
theorem dX0_isRankedAheadOf_89 : decode cX0_isRankedAheadOf 89 = .ok (.iload_n 2, 1) := by decide +kernel
theorem dX0_isRankedAheadOf_90 : decode cX0_isRankedAheadOf 90 = .ok (.iload_n 3, 1) := by decide +kernel
theorem dX0_isRankedAheadOf_91 : decode cX0_isRankedAheadOf 91 = .ok (.if_icmp .ge 7, 3) := by decide +kernel
theorem dX0_isRankedAheadOf_94 : decode cX0_isRankedAheadOf 94 = .ok (.iconst 1, 1) := by decide +kernel
theorem dX0_isRankedAheadOf_95 : decode cX0_isRankedAheadOf 95 = .ok (.goto 4, 3) := by decide +kernel
theorem dX0_isRankedAheadOf_98 : decode cX0_isRankedAheadOf 98 = .ok (.iconst 0, 1) := by decide +kernel
theorem dX0_isRankedAheadOf_99 : decode cX0_isRankedAheadOf 99 = .ok (.ireturn, 1) := by decide +kernel
theorem dX0_isRankedAheadOf_100 : decode cX0_isRankedAheadOf 100 = .ok (.aload_n 0, 1) := by decide +kernel
theorem dX0_isRankedAheadOf_101 : decode cX0_isRankedAheadOf 101 = .ok (.getfield 9, 3) := by decide +kernel
theorem dX0_isRankedAheadOf_104 : decode cX0_isRankedAheadOf 104 = .ok (.aload_n 1, 1) := by decide +kernel
theorem dX0_isRankedAheadOf_105 : decode cX0_isRankedAheadOf 105 = .ok (.getfield 9, 3) := by decide +kernel
theorem dX0_isRankedAheadOf_108 : decode cX0_isRankedAheadOf 108 = .ok (.if_icmp .ge 7, 3) := by decide +kernel
theorem dX0_isRankedAheadOf_111 : decode cX0_isRankedAheadOf 111 = .ok (.iconst 1, 1) := by decide +kernel
theorem dX0_isRankedAheadOf_112 : decode cX0_isRankedAheadOf 112 = .ok (.goto 4, 3) := by decide +kernel
theorem dX0_isRankedAheadOf_115 : decode cX0_isRankedAheadOf 115 = .ok (.iconst 0, 1) := by decide +kernel
theorem dX0_isRankedAheadOf_116 : decode cX0_isRankedAheadOf 116 = .ok (.ireturn, 1) := by decide +kernel
theorem dX0_beginSeason_0 : decode cX0_beginSeason 0 = .ok (.aload_n 0, 1) := by decide +kernel
theorem dX0_beginSeason_1 : decode cX0_beginSeason 1 = .ok (.getfield 15, 3) := by decide +kernel
theorem dX0_beginSeason_4 : decode cX0_beginSeason 4 = .ok (.aload_n 0, 1) := by decide +kernel
theorem dX0_beginSeason_5 : decode cX0_beginSeason 5 = .ok (.getfield 18, 3) := by decide +kernel
theorem dX0_beginSeason_8 : decode cX0_beginSeason 8 = .ok (.if_icmp .eq 7, 3) := by decide +kernel
theorem dX0_beginSeason_11 : decode cX0_beginSeason 11 = .ok (.iconst 1, 1) := by decide +kernel
theorem dX0_beginSeason_12 : decode cX0_beginSeason 12 = .ok (.goto 4, 3) := by decide +kernel
theorem dX0_beginSeason_15 : decode cX0_beginSeason 15 = .ok (.iconst 0, 1) := by decide +kernel
theorem dX0_beginSeason_16 : decode cX0_beginSeason 16 = .ok (.istore_n 1, 1) := by decide +kernel
theorem dX0_beginSeason_17 : decode cX0_beginSeason 17 = .ok (.aload_n 0, 1) := by decide +kernel
theorem dX0_beginSeason_18 : decode cX0_beginSeason 18 = .ok (.aload_n 0, 1) := by decide +kernel
theorem dX0_beginSeason_19 : decode cX0_beginSeason 19 = .ok (.getfield 18, 3) := by decide +kernel
theorem dX0_beginSeason_22 : decode cX0_beginSeason 22 = .ok (.putfield 15, 3) := by decide +kernel
theorem dX0_beginSeason_25 : decode cX0_beginSeason 25 = .ok (.aload_n 0, 1) := by decide +kernel
theorem dX0_beginSeason_26 : decode cX0_beginSeason 26 = .ok (.iconst 0, 1) := by decide +kernel
theorem dX0_beginSeason_27 : decode cX0_beginSeason 27 = .ok (.putfield 40, 3) := by decide +kernel
theorem dX0_beginSeason_30 : decode cX0_beginSeason 30 = .ok (.iload_n 1, 1) := by decide +kernel
theorem dX0_beginSeason_31 : decode cX0_beginSeason 31 = .ok (.ireturn, 1) := by decide +kernel
theorem dX0_tell_0 : decode cX0_tell 0 = .ok (.iload_n 1, 1) := by decide +kernel
theorem dX0_tell_1 : decode cX0_tell 1 = .ok (.tableswitch 51 0 3 #[31, 36, 41, 46], 31) := by decide +kernel
theorem dX0_tell_32 : decode cX0_tell 32 = .ok (.aload_n 0, 1) := by decide +kernel
theorem dX0_tell_33 : decode cX0_tell 33 = .ok (.getfield 15, 3) := by decide +kernel
theorem dX0_tell_36 : decode cX0_tell 36 = .ok (.ireturn, 1) := by decide +kernel
theorem dX0_tell_37 : decode cX0_tell 37 = .ok (.aload_n 0, 1) := by decide +kernel
theorem dX0_tell_38 : decode cX0_tell 38 = .ok (.getfield 40, 3) := by decide +kernel
theorem dX0_tell_41 : decode cX0_tell 41 = .ok (.ireturn, 1) := by decide +kernel
theorem dX0_tell_42 : decode cX0_tell 42 = .ok (.aload_n 0, 1) := by decide +kernel
theorem dX0_tell_43 : decode cX0_tell 43 = .ok (.getfield 21, 3) := by decide +kernel
theorem dX0_tell_46 : decode cX0_tell 46 = .ok (.ireturn, 1) := by decide +kernel
theorem dX0_tell_47 : decode cX0_tell 47 = .ok (.aload_n 0, 1) := by decide +kernel
theorem dX0_tell_48 : decode cX0_tell 48 = .ok (.getfield 24, 3) := by decide +kernel
theorem dX0_tell_51 : decode cX0_tell 51 = .ok (.ireturn, 1) := by decide +kernel
theorem dX0_tell_52 : decode cX0_tell 52 = .ok (.aload_n 0, 1) := by decide +kernel
theorem dX0_tell_53 : decode cX0_tell 53 = .ok (.getfield 34, 3) := by decide +kernel
theorem dX0_tell_56 : decode cX0_tell 56 = .ok (.ireturn, 1) := by decide +kernel
theorem dX1_init_0 : decode cX1_init 0 = .ok (.aload_n 0, 1) := by decide +kernel
theorem dX1_init_1 : decode cX1_init 1 = .ok (.invokespecial 1, 3) := by decide +kernel
theorem dX1_init_4 : decode cX1_init 4 = .ok (.aload_n 0, 1) := by decide +kernel
theorem dX1_init_5 : decode cX1_init 5 = .ok (.iload_n 1, 1) := by decide +kernel
theorem dX1_init_6 : decode cX1_init 6 = .ok (.putfield 7, 3) := by decide +kernel
theorem dX1_init_9 : decode cX1_init 9 = .ok (.aload_n 0, 1) := by decide +kernel
theorem dX1_init_10 : decode cX1_init 10 = .ok (.iload_n 2, 1) := by decide +kernel
theorem dX1_init_11 : decode cX1_init 11 = .ok (.putfield 13, 3) := by decide +kernel
theorem dX1_init_14 : decode cX1_init 14 = .ok (.aload_n 0, 1) := by decide +kernel
theorem dX1_init_15 : decode cX1_init 15 = .ok (.iload_n 3, 1) := by decide +kernel
theorem dX1_init_16 : decode cX1_init 16 = .ok (.putfield 16, 3) := by decide +kernel
theorem dX1_init_19 : decode cX1_init 19 = .ok (.return_, 1) := by decide +kernel
theorem dX1_becomeLike_0 : decode cX1_becomeLike 0 = .ok (.aload_n 0, 1) := by decide +kernel
theorem dX1_becomeLike_1 : decode cX1_becomeLike 1 = .ok (.aload_n 1, 1) := by decide +kernel
theorem dX1_becomeLike_2 : decode cX1_becomeLike 2 = .ok (.getfield 7, 3) := by decide +kernel
theorem dX1_becomeLike_5 : decode cX1_becomeLike 5 = .ok (.putfield 7, 3) := by decide +kernel
theorem dX1_becomeLike_8 : decode cX1_becomeLike 8 = .ok (.aload_n 0, 1) := by decide +kernel
theorem dX1_becomeLike_9 : decode cX1_becomeLike 9 = .ok (.aload_n 1, 1) := by decide +kernel
theorem dX1_becomeLike_10 : decode cX1_becomeLike 10 = .ok (.getfield 13, 3) := by decide +kernel
theorem dX1_becomeLike_13 : decode cX1_becomeLike 13 = .ok (.putfield 13, 3) := by decide +kernel
theorem dX1_becomeLike_16 : decode cX1_becomeLike 16 = .ok (.aload_n 0, 1) := by decide +kernel
theorem dX1_becomeLike_17 : decode cX1_becomeLike 17 = .ok (.aload_n 1, 1) := by decide +kernel
theorem dX1_becomeLike_18 : decode cX1_becomeLike 18 = .ok (.getfield 16, 3) := by decide +kernel
theorem dX1_becomeLike_21 : decode cX1_becomeLike 21 = .ok (.putfield 16, 3) := by decide +kernel
theorem dX1_becomeLike_24 : decode cX1_becomeLike 24 = .ok (.aload_n 0, 1) := by decide +kernel
theorem dX1_becomeLike_25 : decode cX1_becomeLike 25 = .ok (.aload_n 1, 1) := by decide +kernel
theorem dX1_becomeLike_26 : decode cX1_becomeLike 26 = .ok (.getfield 19, 3) := by decide +kernel
theorem dX1_becomeLike_29 : decode cX1_becomeLike 29 = .ok (.putfield 19, 3) := by decide +kernel
theorem dX1_becomeLike_32 : decode cX1_becomeLike 32 = .ok (.aload_n 0, 1) := by decide +kernel
theorem dX1_becomeLike_33 : decode cX1_becomeLike 33 = .ok (.aload_n 1, 1) := by decide +kernel
theorem dX1_becomeLike_34 : decode cX1_becomeLike 34 = .ok (.getfield 22, 3) := by decide +kernel
theorem dX1_becomeLike_37 : decode cX1_becomeLike 37 = .ok (.putfield 22, 3) := by decide +kernel
theorem dX1_becomeLike_40 : decode cX1_becomeLike 40 = .ok (.aload_n 0, 1) := by decide +kernel
theorem dX1_becomeLike_41 : decode cX1_becomeLike 41 = .ok (.aload_n 1, 1) := by decide +kernel
theorem dX1_becomeLike_42 : decode cX1_becomeLike 42 = .ok (.getfield 25, 3) := by decide +kernel
theorem dX1_becomeLike_45 : decode cX1_becomeLike 45 = .ok (.putfield 25, 3) := by decide +kernel
theorem dX1_becomeLike_48 : decode cX1_becomeLike 48 = .ok (.aload_n 0, 1) := by decide +kernel
theorem dX1_becomeLike_49 : decode cX1_becomeLike 49 = .ok (.aload_n 1, 1) := by decide +kernel
theorem dX1_becomeLike_50 : decode cX1_becomeLike 50 = .ok (.getfield 28, 3) := by decide +kernel
theorem dX1_becomeLike_53 : decode cX1_becomeLike 53 = .ok (.putfield 28, 3) := by decide +kernel
theorem dX1_becomeLike_56 : decode cX1_becomeLike 56 = .ok (.return_, 1) := by decide +kernel
theorem dX1_pitch_0 : decode cX1_pitch 0 = .ok (.aload_n 0, 1) := by decide +kernel
theorem dX1_pitch_1 : decode cX1_pitch 1 = .ok (.getfield 7, 3) := by decide +kernel
theorem dX1_pitch_4 : decode cX1_pitch 4 = .ok (.aload_n 0, 1) := by decide +kernel
theorem dX1_pitch_5 : decode cX1_pitch 5 = .ok (.getfield 19, 3) := by decide +kernel
theorem dX1_pitch_8 : decode cX1_pitch 8 = .ok (.iadd, 1) := by decide +kernel
theorem dX1_pitch_9 : decode cX1_pitch 9 = .ok (.iconst 2, 1) := by decide +kernel
theorem dX1_pitch_10 : decode cX1_pitch 10 = .ok (.aload_n 0, 1) := by decide +kernel
theorem dX1_pitch_11 : decode cX1_pitch 11 = .ok (.getfield 13, 3) := by decide +kernel
theorem dX1_pitch_14 : decode cX1_pitch 14 = .ok (.imul, 1) := by decide +kernel
theorem dX1_pitch_15 : decode cX1_pitch 15 = .ok (.iadd, 1) := by decide +kernel
theorem dX1_pitch_16 : decode cX1_pitch 16 = .ok (.iconst 3, 1) := by decide +kernel
theorem dX1_pitch_17 : decode cX1_pitch 17 = .ok (.aload_n 0, 1) := by decide +kernel
theorem dX1_pitch_18 : decode cX1_pitch 18 = .ok (.getfield 22, 3) := by decide +kernel
theorem dX1_pitch_21 : decode cX1_pitch 21 = .ok (.imul, 1) := by decide +kernel
theorem dX1_pitch_22 : decode cX1_pitch 22 = .ok (.iadd, 1) := by decide +kernel
theorem dX1_pitch_23 : decode cX1_pitch 23 = .ok (.aload_n 0, 1) := by decide +kernel
theorem dX1_pitch_24 : decode cX1_pitch 24 = .ok (.getfield 25, 3) := by decide +kernel
theorem dX1_pitch_27 : decode cX1_pitch 27 = .ok (.isub, 1) := by decide +kernel
theorem dX1_pitch_28 : decode cX1_pitch 28 = .ok (.ireturn, 1) := by decide +kernel
theorem dX1_goThrough_0 : decode cX1_goThrough 0 = .ok (.iconst 0, 1) := by decide +kernel
theorem dX1_goThrough_1 : decode cX1_goThrough 1 = .ok (.istore 4, 2) := by decide +kernel
theorem dX1_goThrough_3 : decode cX1_goThrough 3 = .ok (.iload 4, 2) := by decide +kernel
theorem dX1_goThrough_5 : decode cX1_goThrough 5 = .ok (.iload_n 1, 1) := by decide +kernel
theorem dX1_goThrough_6 : decode cX1_goThrough 6 = .ok (.if_icmp .ge 29, 3) := by decide +kernel
theorem dX1_goThrough_9 : decode cX1_goThrough 9 = .ok (.aload_n 0, 1) := by decide +kernel
theorem dX1_goThrough_10 : decode cX1_goThrough 10 = .ok (.getfield 28, 3) := by decide +kernel
theorem dX1_goThrough_13 : decode cX1_goThrough 13 = .ok (.ifCond .eq 10, 3) := by decide +kernel
theorem dX1_goThrough_16 : decode cX1_goThrough 16 = .ok (.aload_n 0, 1) := by decide +kernel
theorem dX1_goThrough_17 : decode cX1_goThrough 17 = .ok (.invokevirtual 32, 3) := by decide +kernel
theorem dX1_goThrough_20 : decode cX1_goThrough 20 = .ok (.goto 9, 3) := by decide +kernel
theorem dX1_goThrough_23 : decode cX1_goThrough 23 = .ok (.aload_n 0, 1) := by decide +kernel
theorem dX1_goThrough_24 : decode cX1_goThrough 24 = .ok (.iload_n 2, 1) := by decide +kernel
theorem dX1_goThrough_25 : decode cX1_goThrough 25 = .ok (.iload_n 3, 1) := by decide +kernel
theorem dX1_goThrough_26 : decode cX1_goThrough 26 = .ok (.invokevirtual 35, 3) := by decide +kernel
theorem dX1_goThrough_29 : decode cX1_goThrough 29 = .ok (.iinc 4 1, 3) := by decide +kernel
theorem dX1_goThrough_32 : decode cX1_goThrough 32 = .ok (.goto (-29), 3) := by decide +kernel
theorem dX1_goThrough_35 : decode cX1_goThrough 35 = .ok (.return_, 1) := by decide +kernel
theorem dX1_restAMinute_0 : decode cX1_restAMinute 0 = .ok (.aload_n 0, 1) := by decide +kernel
theorem dX1_restAMinute_1 : decode cX1_restAMinute 1 = .ok (.iconst 0, 1) := by decide +kernel
theorem dX1_restAMinute_2 : decode cX1_restAMinute 2 = .ok (.aload_n 0, 1) := by decide +kernel
theorem dX1_restAMinute_3 : decode cX1_restAMinute 3 = .ok (.getfield 25, 3) := by decide +kernel
theorem dX1_restAMinute_6 : decode cX1_restAMinute 6 = .ok (.iconst 2, 1) := by decide +kernel
theorem dX1_restAMinute_7 : decode cX1_restAMinute 7 = .ok (.isub, 1) := by decide +kernel
theorem dX1_restAMinute_8 : decode cX1_restAMinute 8 = .ok (.invokestatic 39, 3) := by decide +kernel
theorem dX1_restAMinute_11 : decode cX1_restAMinute 11 = .ok (.putfield 25, 3) := by decide +kernel
theorem dX1_restAMinute_14 : decode cX1_restAMinute 14 = .ok (.aload_n 0, 1) := by decide +kernel
theorem dX1_restAMinute_15 : decode cX1_restAMinute 15 = .ok (.iconst 0, 1) := by decide +kernel
theorem dX1_restAMinute_16 : decode cX1_restAMinute 16 = .ok (.aload_n 0, 1) := by decide +kernel
theorem dX1_restAMinute_17 : decode cX1_restAMinute 17 = .ok (.getfield 22, 3) := by decide +kernel
theorem dX1_restAMinute_20 : decode cX1_restAMinute 20 = .ok (.iconst 1, 1) := by decide +kernel
theorem dX1_restAMinute_21 : decode cX1_restAMinute 21 = .ok (.isub, 1) := by decide +kernel
theorem dX1_restAMinute_22 : decode cX1_restAMinute 22 = .ok (.invokestatic 39, 3) := by decide +kernel
theorem dX1_restAMinute_25 : decode cX1_restAMinute 25 = .ok (.putfield 22, 3) := by decide +kernel
theorem dX1_restAMinute_28 : decode cX1_restAMinute 28 = .ok (.return_, 1) := by decide +kernel
theorem dX1_playAMinute_0 : decode cX1_playAMinute 0 = .ok (.aload_n 0, 1) := by decide +kernel
theorem dX1_playAMinute_1 : decode cX1_playAMinute 1 = .ok (.bipush 100, 2) := by decide +kernel
theorem dX1_playAMinute_3 : decode cX1_playAMinute 3 = .ok (.aload_n 0, 1) := by decide +kernel
theorem dX1_playAMinute_4 : decode cX1_playAMinute 4 = .ok (.getfield 25, 3) := by decide +kernel
theorem dX1_playAMinute_7 : decode cX1_playAMinute 7 = .ok (.aload_n 0, 1) := by decide +kernel
theorem dX1_playAMinute_8 : decode cX1_playAMinute 8 = .ok (.getfield 16, 3) := by decide +kernel
theorem dX1_playAMinute_11 : decode cX1_playAMinute 11 = .ok (.iadd, 1) := by decide +kernel
theorem dX1_playAMinute_12 : decode cX1_playAMinute 12 = .ok (.iload_n 1, 1) := by decide +kernel
theorem dX1_playAMinute_13 : decode cX1_playAMinute 13 = .ok (.iadd, 1) := by decide +kernel
theorem dX1_playAMinute_14 : decode cX1_playAMinute 14 = .ok (.invokestatic 45, 3) := by decide +kernel
theorem dX1_playAMinute_17 : decode cX1_playAMinute 17 = .ok (.putfield 25, 3) := by decide +kernel
theorem dX1_playAMinute_20 : decode cX1_playAMinute 20 = .ok (.aload_n 0, 1) := by decide +kernel
theorem dX1_playAMinute_21 : decode cX1_playAMinute 21 = .ok (.getfield 22, 3) := by decide +kernel
theorem dX1_playAMinute_24 : decode cX1_playAMinute 24 = .ok (.iload_n 2, 1) := by decide +kernel
theorem dX1_playAMinute_25 : decode cX1_playAMinute 25 = .ok (.if_icmp .ge 16, 3) := by decide +kernel
theorem dX1_playAMinute_28 : decode cX1_playAMinute 28 = .ok (.aload_n 0, 1) := by decide +kernel
theorem dX1_playAMinute_29 : decode cX1_playAMinute 29 = .ok (.dup, 1) := by decide +kernel
theorem dX1_playAMinute_30 : decode cX1_playAMinute 30 = .ok (.getfield 22, 3) := by decide +kernel
theorem dX1_playAMinute_33 : decode cX1_playAMinute 33 = .ok (.iconst 1, 1) := by decide +kernel
theorem dX1_playAMinute_34 : decode cX1_playAMinute 34 = .ok (.iadd, 1) := by decide +kernel
theorem dX1_playAMinute_35 : decode cX1_playAMinute 35 = .ok (.putfield 22, 3) := by decide +kernel
theorem dX1_playAMinute_38 : decode cX1_playAMinute 38 = .ok (.goto 21, 3) := by decide +kernel
theorem dX1_playAMinute_41 : decode cX1_playAMinute 41 = .ok (.aload_n 0, 1) := by decide +kernel
theorem dX1_playAMinute_42 : decode cX1_playAMinute 42 = .ok (.getfield 22, 3) := by decide +kernel
theorem dX1_playAMinute_45 : decode cX1_playAMinute 45 = .ok (.iload_n 2, 1) := by decide +kernel
theorem dX1_playAMinute_46 : decode cX1_playAMinute 46 = .ok (.if_icmp .le 13, 3) := by decide +kernel
theorem dX1_playAMinute_49 : decode cX1_playAMinute 49 = .ok (.aload_n 0, 1) := by decide +kernel
theorem dX1_playAMinute_50 : decode cX1_playAMinute 50 = .ok (.dup, 1) := by decide +kernel
theorem dX1_playAMinute_51 : decode cX1_playAMinute 51 = .ok (.getfield 22, 3) := by decide +kernel
theorem dX1_playAMinute_54 : decode cX1_playAMinute 54 = .ok (.iconst 1, 1) := by decide +kernel
theorem dX1_playAMinute_55 : decode cX1_playAMinute 55 = .ok (.isub, 1) := by decide +kernel
theorem dX1_playAMinute_56 : decode cX1_playAMinute 56 = .ok (.putfield 22, 3) := by decide +kernel
theorem dX1_playAMinute_59 : decode cX1_playAMinute 59 = .ok (.aload_n 0, 1) := by decide +kernel
theorem dX1_playAMinute_60 : decode cX1_playAMinute 60 = .ok (.getfield 25, 3) := by decide +kernel
theorem dX1_playAMinute_63 : decode cX1_playAMinute 63 = .ok (.bipush 100, 2) := by decide +kernel
theorem dX1_playAMinute_65 : decode cX1_playAMinute 65 = .ok (.if_icmp .ne 18, 3) := by decide +kernel
theorem dX1_playAMinute_68 : decode cX1_playAMinute 68 = .ok (.aload_n 0, 1) := by decide +kernel
theorem dX1_playAMinute_69 : decode cX1_playAMinute 69 = .ok (.bipush (-100), 2) := by decide +kernel
theorem dX1_playAMinute_71 : decode cX1_playAMinute 71 = .ok (.aload_n 0, 1) := by decide +kernel
theorem dX1_playAMinute_72 : decode cX1_playAMinute 72 = .ok (.getfield 7, 3) := by decide +kernel
theorem dX1_playAMinute_75 : decode cX1_playAMinute 75 = .ok (.iconst 1, 1) := by decide +kernel
theorem dX1_playAMinute_76 : decode cX1_playAMinute 76 = .ok (.isub, 1) := by decide +kernel
theorem dX1_playAMinute_77 : decode cX1_playAMinute 77 = .ok (.invokestatic 39, 3) := by decide +kernel
theorem dX1_playAMinute_80 : decode cX1_playAMinute 80 = .ok (.putfield 7, 3) := by decide +kernel
theorem dX1_playAMinute_83 : decode cX1_playAMinute 83 = .ok (.return_, 1) := by decide +kernel
theorem dX1_tell_0 : decode cX1_tell 0 = .ok (.iload_n 1, 1) := by decide +kernel
theorem dX1_tell_1 : decode cX1_tell 1 = .ok (.tableswitch 51 0 3 #[31, 36, 41, 46], 31) := by decide +kernel
theorem dX1_tell_32 : decode cX1_tell 32 = .ok (.aload_n 0, 1) := by decide +kernel
theorem dX1_tell_33 : decode cX1_tell 33 = .ok (.invokevirtual 48, 3) := by decide +kernel
theorem dX1_tell_36 : decode cX1_tell 36 = .ok (.ireturn, 1) := by decide +kernel
theorem dX1_tell_37 : decode cX1_tell 37 = .ok (.aload_n 0, 1) := by decide +kernel
theorem dX1_tell_38 : decode cX1_tell 38 = .ok (.getfield 7, 3) := by decide +kernel
theorem dX1_tell_41 : decode cX1_tell 41 = .ok (.ireturn, 1) := by decide +kernel
theorem dX1_tell_42 : decode cX1_tell 42 = .ok (.aload_n 0, 1) := by decide +kernel
theorem dX1_tell_43 : decode cX1_tell 43 = .ok (.getfield 19, 3) := by decide +kernel
theorem dX1_tell_46 : decode cX1_tell 46 = .ok (.ireturn, 1) := by decide +kernel
theorem dX1_tell_47 : decode cX1_tell 47 = .ok (.aload_n 0, 1) := by decide +kernel
theorem dX1_tell_48 : decode cX1_tell 48 = .ok (.getfield 22, 3) := by decide +kernel
theorem dX1_tell_51 : decode cX1_tell 51 = .ok (.ireturn, 1) := by decide +kernel
theorem dX1_tell_52 : decode cX1_tell 52 = .ok (.aload_n 0, 1) := by decide +kernel
theorem dX1_tell_53 : decode cX1_tell 53 = .ok (.getfield 25, 3) := by decide +kernel
theorem dX1_tell_56 : decode cX1_tell 56 = .ok (.ireturn, 1) := by decide +kernel
theorem dX2_init_0 : decode cX2_init 0 = .ok (.aload_n 0, 1) := by decide +kernel
theorem dX2_init_1 : decode cX2_init 1 = .ok (.invokespecial 3, 3) := by decide +kernel
theorem dX2_init_4 : decode cX2_init 4 = .ok (.aload_n 0, 1) := by decide +kernel
theorem dX2_init_5 : decode cX2_init 5 = .ok (.bipush 8, 2) := by decide +kernel
theorem dX2_init_7 : decode cX2_init 7 = .ok (.newarray .int, 2) := by decide +kernel
theorem dX2_init_9 : decode cX2_init 9 = .ok (.putfield 9, 3) := by decide +kernel
theorem dX2_init_12 : decode cX2_init 12 = .ok (.return_, 1) := by decide +kernel
theorem dX2_empty_0 : decode cX2_empty 0 = .ok (.aload_n 0, 1) := by decide +kernel
theorem dX2_empty_1 : decode cX2_empty 1 = .ok (.iconst 0, 1) := by decide +kernel
theorem dX2_empty_2 : decode cX2_empty 2 = .ok (.putfield 15, 3) := by decide +kernel
theorem dX2_empty_5 : decode cX2_empty 5 = .ok (.return_, 1) := by decide +kernel
theorem dX2_put_0 : decode cX2_put 0 = .ok (.aload_n 0, 1) := by decide +kernel
theorem dX2_put_1 : decode cX2_put 1 = .ok (.getfield 15, 3) := by decide +kernel
theorem dX2_put_4 : decode cX2_put 4 = .ok (.ifCond .lt 15, 3) := by decide +kernel
theorem dX2_put_7 : decode cX2_put 7 = .ok (.aload_n 0, 1) := by decide +kernel
theorem dX2_put_8 : decode cX2_put 8 = .ok (.getfield 15, 3) := by decide +kernel
theorem dX2_put_11 : decode cX2_put 11 = .ok (.aload_n 0, 1) := by decide +kernel
theorem dX2_put_12 : decode cX2_put 12 = .ok (.getfield 9, 3) := by decide +kernel
theorem dX2_put_15 : decode cX2_put 15 = .ok (.arraylength, 1) := by decide +kernel
theorem dX2_put_16 : decode cX2_put 16 = .ok (.if_icmp .lt 4, 3) := by decide +kernel
theorem dX2_put_19 : decode cX2_put 19 = .ok (.return_, 1) := by decide +kernel
theorem dX2_put_20 : decode cX2_put 20 = .ok (.aload_n 0, 1) := by decide +kernel
theorem dX2_put_21 : decode cX2_put 21 = .ok (.getfield 15, 3) := by decide +kernel
theorem dX2_put_24 : decode cX2_put 24 = .ok (.istore_n 2, 1) := by decide +kernel
theorem dX2_put_25 : decode cX2_put 25 = .ok (.iload_n 2, 1) := by decide +kernel
theorem dX2_put_26 : decode cX2_put 26 = .ok (.ifCond .le 35, 3) := by decide +kernel
theorem dX2_put_29 : decode cX2_put 29 = .ok (.aload_n 0, 1) := by decide +kernel
theorem dX2_put_30 : decode cX2_put 30 = .ok (.getfield 9, 3) := by decide +kernel
theorem dX2_put_33 : decode cX2_put 33 = .ok (.iload_n 2, 1) := by decide +kernel
theorem dX2_put_34 : decode cX2_put 34 = .ok (.iconst 1, 1) := by decide +kernel
theorem dX2_put_35 : decode cX2_put 35 = .ok (.isub, 1) := by decide +kernel
theorem dX2_put_36 : decode cX2_put 36 = .ok (.iaload, 1) := by decide +kernel
theorem dX2_put_37 : decode cX2_put 37 = .ok (.iload_n 1, 1) := by decide +kernel
theorem dX2_put_38 : decode cX2_put 38 = .ok (.if_icmp .le 23, 3) := by decide +kernel
theorem dX2_put_41 : decode cX2_put 41 = .ok (.aload_n 0, 1) := by decide +kernel
theorem dX2_put_42 : decode cX2_put 42 = .ok (.getfield 9, 3) := by decide +kernel
theorem dX2_put_45 : decode cX2_put 45 = .ok (.iload_n 2, 1) := by decide +kernel
theorem dX2_put_46 : decode cX2_put 46 = .ok (.aload_n 0, 1) := by decide +kernel
theorem dX2_put_47 : decode cX2_put 47 = .ok (.getfield 9, 3) := by decide +kernel
theorem dX2_put_50 : decode cX2_put 50 = .ok (.iload_n 2, 1) := by decide +kernel
theorem dX2_put_51 : decode cX2_put 51 = .ok (.iconst 1, 1) := by decide +kernel
theorem dX2_put_52 : decode cX2_put 52 = .ok (.isub, 1) := by decide +kernel
theorem dX2_put_53 : decode cX2_put 53 = .ok (.iaload, 1) := by decide +kernel
theorem dX2_put_54 : decode cX2_put 54 = .ok (.iastore, 1) := by decide +kernel
theorem dX2_put_55 : decode cX2_put 55 = .ok (.iinc 2 (-1), 3) := by decide +kernel
theorem dX2_put_58 : decode cX2_put 58 = .ok (.goto (-33), 3) := by decide +kernel
theorem dX2_put_61 : decode cX2_put 61 = .ok (.aload_n 0, 1) := by decide +kernel
theorem dX2_put_62 : decode cX2_put 62 = .ok (.getfield 9, 3) := by decide +kernel
theorem dX2_put_65 : decode cX2_put 65 = .ok (.iload_n 2, 1) := by decide +kernel
theorem dX2_put_66 : decode cX2_put 66 = .ok (.iload_n 1, 1) := by decide +kernel
theorem dX2_put_67 : decode cX2_put 67 = .ok (.iastore, 1) := by decide +kernel
theorem dX2_put_68 : decode cX2_put 68 = .ok (.aload_n 0, 1) := by decide +kernel
theorem dX2_put_69 : decode cX2_put 69 = .ok (.dup, 1) := by decide +kernel
theorem dX2_put_70 : decode cX2_put 70 = .ok (.getfield 15, 3) := by decide +kernel
theorem dX2_put_73 : decode cX2_put 73 = .ok (.iconst 1, 1) := by decide +kernel
theorem dX2_put_74 : decode cX2_put 74 = .ok (.iadd, 1) := by decide +kernel
theorem dX2_put_75 : decode cX2_put 75 = .ok (.putfield 15, 3) := by decide +kernel
theorem dX2_put_78 : decode cX2_put 78 = .ok (.return_, 1) := by decide +kernel
theorem dX2_range_0 : decode cX2_range 0 = .ok (.aload_n 0, 1) := by decide +kernel
theorem dX2_range_1 : decode cX2_range 1 = .ok (.getfield 15, 3) := by decide +kernel
theorem dX2_range_4 : decode cX2_range 4 = .ok (.iconst 1, 1) := by decide +kernel
theorem dX2_range_5 : decode cX2_range 5 = .ok (.if_icmp .lt 15, 3) := by decide +kernel
theorem dX2_range_8 : decode cX2_range 8 = .ok (.aload_n 0, 1) := by decide +kernel
theorem dX2_range_9 : decode cX2_range 9 = .ok (.getfield 15, 3) := by decide +kernel
theorem dX2_range_12 : decode cX2_range 12 = .ok (.aload_n 0, 1) := by decide +kernel
theorem dX2_range_13 : decode cX2_range 13 = .ok (.getfield 9, 3) := by decide +kernel
theorem dX2_range_16 : decode cX2_range 16 = .ok (.arraylength, 1) := by decide +kernel
theorem dX2_range_17 : decode cX2_range 17 = .ok (.if_icmp .le 7, 3) := by decide +kernel
theorem dX2_range_20 : decode cX2_range 20 = .ok (.iconst 0, 1) := by decide +kernel
theorem dX2_range_21 : decode cX2_range 21 = .ok (.goto 21, 3) := by decide +kernel
theorem dX2_range_24 : decode cX2_range 24 = .ok (.aload_n 0, 1) := by decide +kernel
theorem dX2_range_25 : decode cX2_range 25 = .ok (.getfield 9, 3) := by decide +kernel
theorem dX2_range_28 : decode cX2_range 28 = .ok (.aload_n 0, 1) := by decide +kernel
theorem dX2_range_29 : decode cX2_range 29 = .ok (.getfield 15, 3) := by decide +kernel
theorem dX2_range_32 : decode cX2_range 32 = .ok (.iconst 1, 1) := by decide +kernel
theorem dX2_range_33 : decode cX2_range 33 = .ok (.isub, 1) := by decide +kernel
theorem dX2_range_34 : decode cX2_range 34 = .ok (.iaload, 1) := by decide +kernel
theorem dX2_range_35 : decode cX2_range 35 = .ok (.aload_n 0, 1) := by decide +kernel
theorem dX2_range_36 : decode cX2_range 36 = .ok (.getfield 9, 3) := by decide +kernel
theorem dX2_range_39 : decode cX2_range 39 = .ok (.iconst 0, 1) := by decide +kernel
theorem dX2_range_40 : decode cX2_range 40 = .ok (.iaload, 1) := by decide +kernel
theorem dX2_range_41 : decode cX2_range 41 = .ok (.isub, 1) := by decide +kernel
theorem dX2_range_42 : decode cX2_range 42 = .ok (.ireturn, 1) := by decide +kernel
theorem dX2_middle_0 : decode cX2_middle 0 = .ok (.aload_n 0, 1) := by decide +kernel
theorem dX2_middle_1 : decode cX2_middle 1 = .ok (.getfield 15, 3) := by decide +kernel
theorem dX2_middle_4 : decode cX2_middle 4 = .ok (.iconst 1, 1) := by decide +kernel
theorem dX2_middle_5 : decode cX2_middle 5 = .ok (.if_icmp .lt 15, 3) := by decide +kernel
theorem dX2_middle_8 : decode cX2_middle 8 = .ok (.aload_n 0, 1) := by decide +kernel
theorem dX2_middle_9 : decode cX2_middle 9 = .ok (.getfield 15, 3) := by decide +kernel
theorem dX2_middle_12 : decode cX2_middle 12 = .ok (.aload_n 0, 1) := by decide +kernel
theorem dX2_middle_13 : decode cX2_middle 13 = .ok (.getfield 9, 3) := by decide +kernel
theorem dX2_middle_16 : decode cX2_middle 16 = .ok (.arraylength, 1) := by decide +kernel
theorem dX2_middle_17 : decode cX2_middle 17 = .ok (.if_icmp .le 7, 3) := by decide +kernel
theorem dX2_middle_20 : decode cX2_middle 20 = .ok (.iconst 0, 1) := by decide +kernel
theorem dX2_middle_21 : decode cX2_middle 21 = .ok (.goto 16, 3) := by decide +kernel
theorem dX2_middle_24 : decode cX2_middle 24 = .ok (.aload_n 0, 1) := by decide +kernel
theorem dX2_middle_25 : decode cX2_middle 25 = .ok (.getfield 9, 3) := by decide +kernel
theorem dX2_middle_28 : decode cX2_middle 28 = .ok (.aload_n 0, 1) := by decide +kernel
theorem dX2_middle_29 : decode cX2_middle 29 = .ok (.getfield 15, 3) := by decide +kernel
theorem dX2_middle_32 : decode cX2_middle 32 = .ok (.iconst 1, 1) := by decide +kernel
theorem dX2_middle_33 : decode cX2_middle 33 = .ok (.isub, 1) := by decide +kernel
theorem dX2_middle_34 : decode cX2_middle 34 = .ok (.iconst 2, 1) := by decide +kernel
theorem dX2_middle_35 : decode cX2_middle 35 = .ok (.idiv, 1) := by decide +kernel
theorem dX2_middle_36 : decode cX2_middle 36 = .ok (.iaload, 1) := by decide +kernel
theorem dX2_middle_37 : decode cX2_middle 37 = .ok (.ireturn, 1) := by decide +kernel
theorem dJ9_abs_0f7a4_0 : decode cJ9_abs_0f7a4 0 = .ok (.iload_n 0, 1) := by decide +kernel
theorem dJ9_abs_0f7a4_1 : decode cJ9_abs_0f7a4 1 = .ok (.ifCond .ge 8, 3) := by decide +kernel
theorem dJ9_abs_0f7a4_4 : decode cJ9_abs_0f7a4 4 = .ok (.iload_n 0, 1) := by decide +kernel
theorem dJ9_abs_0f7a4_5 : decode cJ9_abs_0f7a4 5 = .ok (.ineg, 1) := by decide +kernel
theorem dJ9_abs_0f7a4_6 : decode cJ9_abs_0f7a4 6 = .ok (.goto 4, 3) := by decide +kernel
theorem dJ9_abs_0f7a4_9 : decode cJ9_abs_0f7a4 9 = .ok (.iload_n 0, 1) := by decide +kernel
theorem dJ9_abs_0f7a4_10 : decode cJ9_abs_0f7a4 10 = .ok (.ireturn, 1) := by decide +kernel
theorem dJ9_max_7cf53_0 : decode cJ9_max_7cf53 0 = .ok (.iload_n 0, 1) := by decide +kernel
theorem dJ9_max_7cf53_1 : decode cJ9_max_7cf53 1 = .ok (.iload_n 1, 1) := by decide +kernel
theorem dJ9_max_7cf53_2 : decode cJ9_max_7cf53 2 = .ok (.if_icmp .lt 7, 3) := by decide +kernel
theorem dJ9_max_7cf53_5 : decode cJ9_max_7cf53 5 = .ok (.iload_n 0, 1) := by decide +kernel
theorem dJ9_max_7cf53_6 : decode cJ9_max_7cf53 6 = .ok (.goto 4, 3) := by decide +kernel
theorem dJ9_max_7cf53_9 : decode cJ9_max_7cf53 9 = .ok (.iload_n 1, 1) := by decide +kernel
theorem dJ9_max_7cf53_10 : decode cJ9_max_7cf53 10 = .ok (.ireturn, 1) := by decide +kernel
theorem dJ9_min_7cf53_0 : decode cJ9_min_7cf53 0 = .ok (.iload_n 0, 1) := by decide +kernel
theorem dJ9_min_7cf53_1 : decode cJ9_min_7cf53 1 = .ok (.iload_n 1, 1) := by decide +kernel
theorem dJ9_min_7cf53_2 : decode cJ9_min_7cf53 2 = .ok (.if_icmp .gt 7, 3) := by decide +kernel
theorem dJ9_min_7cf53_5 : decode cJ9_min_7cf53 5 = .ok (.iload_n 0, 1) := by decide +kernel
theorem dJ9_min_7cf53_6 : decode cJ9_min_7cf53 6 = .ok (.goto 4, 3) := by decide +kernel
theorem dJ9_min_7cf53_9 : decode cJ9_min_7cf53 9 = .ok (.iload_n 1, 1) := by decide +kernel
theorem dJ9_min_7cf53_10 : decode cJ9_min_7cf53 10 = .ok (.ireturn, 1) := by decide +kernel
theorem dJxa1e45_init_da8c8_0 : decode cJxa1e45_init_da8c8 0 = .ok (.aload_n 0, 1) := by decide +kernel
theorem dJxa1e45_init_da8c8_1 : decode cJxa1e45_init_da8c8 1 = .ok (.invokespecial 1, 3) := by decide +kernel
theorem dJxa1e45_init_da8c8_4 : decode cJxa1e45_init_da8c8 4 = .ok (.return_, 1) := by decide +kernel
theorem dJxc12de_init_da8c8_0 : decode cJxc12de_init_da8c8 0 = .ok (.aload_n 0, 1) := by decide +kernel
theorem dJxc12de_init_da8c8_1 : decode cJxc12de_init_da8c8 1 = .ok (.invokespecial 1, 3) := by decide +kernel
theorem dJxc12de_init_da8c8_4 : decode cJxc12de_init_da8c8 4 = .ok (.aload_n 0, 1) := by decide +kernel
theorem dJxc12de_init_da8c8_5 : decode cJxc12de_init_da8c8 5 = .ok (.iconst 0, 1) := by decide +kernel
theorem dJxc12de_init_da8c8_6 : decode cJxc12de_init_da8c8 6 = .ok (.putfield 7, 3) := by decide +kernel
theorem dJxc12de_init_da8c8_9 : decode cJxc12de_init_da8c8 9 = .ok (.return_, 1) := by decide +kernel
theorem dJx4a65c_init_da8c8_0 : decode cJx4a65c_init_da8c8 0 = .ok (.aload_n 0, 1) := by decide +kernel
theorem dJx4a65c_init_da8c8_1 : decode cJx4a65c_init_da8c8 1 = .ok (.invokespecial 1, 3) := by decide +kernel
theorem dJx4a65c_init_da8c8_4 : decode cJx4a65c_init_da8c8 4 = .ok (.aload_n 0, 1) := by decide +kernel
theorem dJx4a65c_init_da8c8_5 : decode cJx4a65c_init_da8c8 5 = .ok (.getstatic 39, 3) := by decide +kernel
theorem dJx4a65c_init_da8c8_8 : decode cJx4a65c_init_da8c8 8 = .ok (.putfield 9, 3) := by decide +kernel
theorem dJx4a65c_init_da8c8_11 : decode cJx4a65c_init_da8c8 11 = .ok (.return_, 1) := by decide +kernel
theorem dJx4a65c_grow_92f84_0 : decode cJx4a65c_grow_92f84 0 = .ok (.aload_n 0, 1) := by decide +kernel
theorem dJx4a65c_grow_92f84_1 : decode cJx4a65c_grow_92f84 1 = .ok (.getfield 9, 3) := by decide +kernel
theorem dJx4a65c_grow_92f84_4 : decode cJx4a65c_grow_92f84 4 = .ok (.arraylength, 1) := by decide +kernel
theorem dJx4a65c_grow_92f84_5 : decode cJx4a65c_grow_92f84 5 = .ok (.istore_n 2, 1) := by decide +kernel
theorem dJx4a65c_grow_92f84_6 : decode cJx4a65c_grow_92f84 6 = .ok (.iload_n 2, 1) := by decide +kernel
theorem dJx4a65c_grow_92f84_7 : decode cJx4a65c_grow_92f84 7 = .ok (.ifCond .gt 13, 3) := by decide +kernel
theorem dJx4a65c_grow_92f84_10 : decode cJx4a65c_grow_92f84 10 = .ok (.aload_n 0, 1) := by decide +kernel
theorem dJx4a65c_grow_92f84_11 : decode cJx4a65c_grow_92f84 11 = .ok (.getfield 9, 3) := by decide +kernel
theorem dJx4a65c_grow_92f84_14 : decode cJx4a65c_grow_92f84 14 = .ok (.getstatic 39, 3) := by decide +kernel
theorem dJx4a65c_grow_92f84_17 : decode cJx4a65c_grow_92f84 17 = .ok (.if_acmp .eq 28, 3) := by decide +kernel
theorem dJx4a65c_grow_92f84_20 : decode cJx4a65c_grow_92f84 20 = .ok (.iload_n 2, 1) := by decide +kernel
theorem dJx4a65c_grow_92f84_21 : decode cJx4a65c_grow_92f84 21 = .ok (.iload_n 1, 1) := by decide +kernel
theorem dJx4a65c_grow_92f84_22 : decode cJx4a65c_grow_92f84 22 = .ok (.iload_n 2, 1) := by decide +kernel
theorem dJx4a65c_grow_92f84_23 : decode cJx4a65c_grow_92f84 23 = .ok (.isub, 1) := by decide +kernel
theorem dJx4a65c_grow_92f84_24 : decode cJx4a65c_grow_92f84 24 = .ok (.iload_n 2, 1) := by decide +kernel
theorem dJx4a65c_grow_92f84_25 : decode cJx4a65c_grow_92f84 25 = .ok (.iconst 1, 1) := by decide +kernel
theorem dJx4a65c_grow_92f84_26 : decode cJx4a65c_grow_92f84 26 = .ok (.ishr, 1) := by decide +kernel
theorem dJx4a65c_grow_92f84_27 : decode cJx4a65c_grow_92f84 27 = .ok (.invokestatic 73, 3) := by decide +kernel
theorem dJx4a65c_grow_92f84_30 : decode cJx4a65c_grow_92f84 30 = .ok (.istore_n 3, 1) := by decide +kernel
theorem dJx4a65c_grow_92f84_31 : decode cJx4a65c_grow_92f84 31 = .ok (.aload_n 0, 1) := by decide +kernel
theorem dJx4a65c_grow_92f84_32 : decode cJx4a65c_grow_92f84 32 = .ok (.aload_n 0, 1) := by decide +kernel
theorem dJx4a65c_grow_92f84_33 : decode cJx4a65c_grow_92f84 33 = .ok (.getfield 9, 3) := by decide +kernel
theorem dJx4a65c_grow_92f84_36 : decode cJx4a65c_grow_92f84 36 = .ok (.iload_n 3, 1) := by decide +kernel
theorem dJx4a65c_grow_92f84_37 : decode cJx4a65c_grow_92f84 37 = .ok (.invokestatic 66, 3) := by decide +kernel
theorem dJx4a65c_grow_92f84_40 : decode cJx4a65c_grow_92f84 40 = .ok (.dup_x1, 1) := by decide +kernel
theorem dJx4a65c_grow_92f84_41 : decode cJx4a65c_grow_92f84 41 = .ok (.putfield 9, 3) := by decide +kernel
theorem dJx4a65c_grow_92f84_44 : decode cJx4a65c_grow_92f84 44 = .ok (.areturn, 1) := by decide +kernel
theorem dJx4a65c_grow_92f84_45 : decode cJx4a65c_grow_92f84 45 = .ok (.aload_n 0, 1) := by decide +kernel
theorem dJx4a65c_grow_92f84_46 : decode cJx4a65c_grow_92f84 46 = .ok (.bipush 10, 2) := by decide +kernel
theorem dJx4a65c_grow_92f84_48 : decode cJx4a65c_grow_92f84 48 = .ok (.iload_n 1, 1) := by decide +kernel
theorem dJx4a65c_grow_92f84_49 : decode cJx4a65c_grow_92f84 49 = .ok (.invokestatic 79, 3) := by decide +kernel
theorem dJx4a65c_grow_92f84_52 : decode cJx4a65c_grow_92f84 52 = .ok (.anewarray 7, 3) := by decide +kernel
theorem dJx4a65c_grow_92f84_55 : decode cJx4a65c_grow_92f84 55 = .ok (.dup_x1, 1) := by decide +kernel
theorem dJx4a65c_grow_92f84_56 : decode cJx4a65c_grow_92f84 56 = .ok (.putfield 9, 3) := by decide +kernel
theorem dJx4a65c_grow_92f84_59 : decode cJx4a65c_grow_92f84 59 = .ok (.areturn, 1) := by decide +kernel
theorem dJx4a65c_grow_d5877_0 : decode cJx4a65c_grow_d5877 0 = .ok (.aload_n 0, 1) := by decide +kernel
theorem dJx4a65c_grow_d5877_1 : decode cJx4a65c_grow_d5877 1 = .ok (.aload_n 0, 1) := by decide +kernel
theorem dJx4a65c_grow_d5877_2 : decode cJx4a65c_grow_d5877 2 = .ok (.getfield 48, 3) := by decide +kernel
theorem dJx4a65c_grow_d5877_5 : decode cJx4a65c_grow_d5877 5 = .ok (.iconst 1, 1) := by decide +kernel
theorem dJx4a65c_grow_d5877_6 : decode cJx4a65c_grow_d5877 6 = .ok (.iadd, 1) := by decide +kernel
theorem dJx4a65c_grow_d5877_7 : decode cJx4a65c_grow_d5877 7 = .ok (.invokevirtual 69, 3) := by decide +kernel
theorem dJx4a65c_grow_d5877_10 : decode cJx4a65c_grow_d5877 10 = .ok (.areturn, 1) := by decide +kernel
theorem dJx4a65c_size_8abf5_0 : decode cJx4a65c_size_8abf5 0 = .ok (.aload_n 0, 1) := by decide +kernel
theorem dJx4a65c_size_8abf5_1 : decode cJx4a65c_size_8abf5 1 = .ok (.getfield 48, 3) := by decide +kernel
theorem dJx4a65c_size_8abf5_4 : decode cJx4a65c_size_8abf5 4 = .ok (.ireturn, 1) := by decide +kernel
theorem dJx4a65c_elementData_915e3_0 : decode cJx4a65c_elementData_915e3 0 = .ok (.aload_n 0, 1) := by decide +kernel
theorem dJx4a65c_elementData_915e3_1 : decode cJx4a65c_elementData_915e3 1 = .ok (.getfield 9, 3) := by decide +kernel
theorem dJx4a65c_elementData_915e3_4 : decode cJx4a65c_elementData_915e3 4 = .ok (.iload_n 1, 1) := by decide +kernel
theorem dJx4a65c_elementData_915e3_5 : decode cJx4a65c_elementData_915e3 5 = .ok (.aaload, 1) := by decide +kernel
theorem dJx4a65c_elementData_915e3_6 : decode cJx4a65c_elementData_915e3 6 = .ok (.areturn, 1) := by decide +kernel
theorem dJx4a65c_get_915e3_0 : decode cJx4a65c_get_915e3 0 = .ok (.iload_n 1, 1) := by decide +kernel
theorem dJx4a65c_get_915e3_1 : decode cJx4a65c_get_915e3 1 = .ok (.aload_n 0, 1) := by decide +kernel
theorem dJx4a65c_get_915e3_2 : decode cJx4a65c_get_915e3 2 = .ok (.getfield 48, 3) := by decide +kernel
theorem dJx4a65c_get_915e3_5 : decode cJx4a65c_get_915e3 5 = .ok (.invokestatic 118, 3) := by decide +kernel
theorem dJx4a65c_get_915e3_8 : decode cJx4a65c_get_915e3 8 = .ok (.pop, 1) := by decide +kernel
theorem dJx4a65c_get_915e3_9 : decode cJx4a65c_get_915e3 9 = .ok (.aload_n 0, 1) := by decide +kernel
theorem dJx4a65c_get_915e3_10 : decode cJx4a65c_get_915e3 10 = .ok (.iload_n 1, 1) := by decide +kernel
theorem dJx4a65c_get_915e3_11 : decode cJx4a65c_get_915e3 11 = .ok (.invokevirtual 123, 3) := by decide +kernel
theorem dJx4a65c_get_915e3_14 : decode cJx4a65c_get_915e3 14 = .ok (.areturn, 1) := by decide +kernel
theorem dJx4a65c_add_72be8_0 : decode cJx4a65c_add_72be8 0 = .ok (.iload_n 3, 1) := by decide +kernel
theorem dJx4a65c_add_72be8_1 : decode cJx4a65c_add_72be8 1 = .ok (.aload_n 2, 1) := by decide +kernel
theorem dJx4a65c_add_72be8_2 : decode cJx4a65c_add_72be8 2 = .ok (.arraylength, 1) := by decide +kernel
theorem dJx4a65c_add_72be8_3 : decode cJx4a65c_add_72be8 3 = .ok (.if_icmp .ne 8, 3) := by decide +kernel
theorem dJx4a65c_add_72be8_6 : decode cJx4a65c_add_72be8 6 = .ok (.aload_n 0, 1) := by decide +kernel
theorem dJx4a65c_add_72be8_7 : decode cJx4a65c_add_72be8 7 = .ok (.invokevirtual 129, 3) := by decide +kernel
theorem dJx4a65c_add_72be8_10 : decode cJx4a65c_add_72be8 10 = .ok (.astore_n 2, 1) := by decide +kernel
theorem dJx4a65c_add_72be8_11 : decode cJx4a65c_add_72be8 11 = .ok (.aload_n 2, 1) := by decide +kernel
theorem dJx4a65c_add_72be8_12 : decode cJx4a65c_add_72be8 12 = .ok (.iload_n 3, 1) := by decide +kernel
theorem dJx4a65c_add_72be8_13 : decode cJx4a65c_add_72be8 13 = .ok (.aload_n 1, 1) := by decide +kernel
theorem dJx4a65c_add_72be8_14 : decode cJx4a65c_add_72be8 14 = .ok (.aastore, 1) := by decide +kernel
theorem dJx4a65c_add_72be8_15 : decode cJx4a65c_add_72be8 15 = .ok (.aload_n 0, 1) := by decide +kernel
theorem dJx4a65c_add_72be8_16 : decode cJx4a65c_add_72be8 16 = .ok (.iload_n 3, 1) := by decide +kernel
theorem dJx4a65c_add_72be8_17 : decode cJx4a65c_add_72be8 17 = .ok (.iconst 1, 1) := by decide +kernel
theorem dJx4a65c_add_72be8_18 : decode cJx4a65c_add_72be8 18 = .ok (.iadd, 1) := by decide +kernel
theorem dJx4a65c_add_72be8_19 : decode cJx4a65c_add_72be8 19 = .ok (.putfield 48, 3) := by decide +kernel
theorem dJx4a65c_add_72be8_22 : decode cJx4a65c_add_72be8 22 = .ok (.return_, 1) := by decide +kernel
theorem dJx4a65c_add_9ea2d_0 : decode cJx4a65c_add_9ea2d 0 = .ok (.aload_n 0, 1) := by decide +kernel
theorem dJx4a65c_add_9ea2d_1 : decode cJx4a65c_add_9ea2d 1 = .ok (.dup, 1) := by decide +kernel
theorem dJx4a65c_add_9ea2d_2 : decode cJx4a65c_add_9ea2d 2 = .ok (.getfield 63, 3) := by decide +kernel
theorem dJx4a65c_add_9ea2d_5 : decode cJx4a65c_add_9ea2d 5 = .ok (.iconst 1, 1) := by decide +kernel
theorem dJx4a65c_add_9ea2d_6 : decode cJx4a65c_add_9ea2d 6 = .ok (.iadd, 1) := by decide +kernel
theorem dJx4a65c_add_9ea2d_7 : decode cJx4a65c_add_9ea2d 7 = .ok (.putfield 63, 3) := by decide +kernel
theorem dJx4a65c_add_9ea2d_10 : decode cJx4a65c_add_9ea2d 10 = .ok (.aload_n 0, 1) := by decide +kernel
theorem dJx4a65c_add_9ea2d_11 : decode cJx4a65c_add_9ea2d 11 = .ok (.aload_n 1, 1) := by decide +kernel
theorem dJx4a65c_add_9ea2d_12 : decode cJx4a65c_add_9ea2d 12 = .ok (.aload_n 0, 1) := by decide +kernel
theorem dJx4a65c_add_9ea2d_13 : decode cJx4a65c_add_9ea2d 13 = .ok (.getfield 9, 3) := by decide +kernel
theorem dJx4a65c_add_9ea2d_16 : decode cJx4a65c_add_9ea2d 16 = .ok (.aload_n 0, 1) := by decide +kernel
theorem dJx4a65c_add_9ea2d_17 : decode cJx4a65c_add_9ea2d 17 = .ok (.getfield 48, 3) := by decide +kernel
theorem dJx4a65c_add_9ea2d_20 : decode cJx4a65c_add_9ea2d 20 = .ok (.invokevirtual 131, 3) := by decide +kernel
theorem dJx4a65c_add_9ea2d_23 : decode cJx4a65c_add_9ea2d 23 = .ok (.iconst 1, 1) := by decide +kernel
theorem dJx4a65c_add_9ea2d_24 : decode cJx4a65c_add_9ea2d 24 = .ok (.ireturn, 1) := by decide +kernel
theorem dJx4a65c_remove_915e3_0 : decode cJx4a65c_remove_915e3 0 = .ok (.iload_n 1, 1) := by decide +kernel
theorem dJx4a65c_remove_915e3_1 : decode cJx4a65c_remove_915e3 1 = .ok (.aload_n 0, 1) := by decide +kernel
theorem dJx4a65c_remove_915e3_2 : decode cJx4a65c_remove_915e3 2 = .ok (.getfield 48, 3) := by decide +kernel
theorem dJx4a65c_remove_915e3_5 : decode cJx4a65c_remove_915e3 5 = .ok (.invokestatic 118, 3) := by decide +kernel
theorem dJx4a65c_remove_915e3_8 : decode cJx4a65c_remove_915e3 8 = .ok (.pop, 1) := by decide +kernel
theorem dJx4a65c_remove_915e3_9 : decode cJx4a65c_remove_915e3 9 = .ok (.aload_n 0, 1) := by decide +kernel
theorem dJx4a65c_remove_915e3_10 : decode cJx4a65c_remove_915e3 10 = .ok (.getfield 9, 3) := by decide +kernel
theorem dJx4a65c_remove_915e3_13 : decode cJx4a65c_remove_915e3 13 = .ok (.astore_n 2, 1) := by decide +kernel
theorem dJx4a65c_remove_915e3_14 : decode cJx4a65c_remove_915e3 14 = .ok (.aload_n 2, 1) := by decide +kernel
theorem dJx4a65c_remove_915e3_15 : decode cJx4a65c_remove_915e3 15 = .ok (.iload_n 1, 1) := by decide +kernel
theorem dJx4a65c_remove_915e3_16 : decode cJx4a65c_remove_915e3 16 = .ok (.aaload, 1) := by decide +kernel
theorem dJx4a65c_remove_915e3_17 : decode cJx4a65c_remove_915e3 17 = .ok (.astore_n 3, 1) := by decide +kernel
theorem dJx4a65c_remove_915e3_18 : decode cJx4a65c_remove_915e3 18 = .ok (.aload_n 0, 1) := by decide +kernel
theorem dJx4a65c_remove_915e3_19 : decode cJx4a65c_remove_915e3 19 = .ok (.aload_n 2, 1) := by decide +kernel
theorem dJx4a65c_remove_915e3_20 : decode cJx4a65c_remove_915e3 20 = .ok (.iload_n 1, 1) := by decide +kernel
theorem dJx4a65c_remove_915e3_21 : decode cJx4a65c_remove_915e3 21 = .ok (.invokevirtual 144, 3) := by decide +kernel
theorem dJx4a65c_remove_915e3_24 : decode cJx4a65c_remove_915e3 24 = .ok (.aload_n 3, 1) := by decide +kernel
theorem dJx4a65c_remove_915e3_25 : decode cJx4a65c_remove_915e3 25 = .ok (.areturn, 1) := by decide +kernel
theorem dJx4a65c_fastRemove_b59b0_0 : decode cJx4a65c_fastRemove_b59b0 0 = .ok (.aload_n 0, 1) := by decide +kernel
theorem dJx4a65c_fastRemove_b59b0_1 : decode cJx4a65c_fastRemove_b59b0 1 = .ok (.dup, 1) := by decide +kernel
theorem dJx4a65c_fastRemove_b59b0_2 : decode cJx4a65c_fastRemove_b59b0 2 = .ok (.getfield 63, 3) := by decide +kernel
theorem dJx4a65c_fastRemove_b59b0_5 : decode cJx4a65c_fastRemove_b59b0 5 = .ok (.iconst 1, 1) := by decide +kernel
theorem dJx4a65c_fastRemove_b59b0_6 : decode cJx4a65c_fastRemove_b59b0 6 = .ok (.iadd, 1) := by decide +kernel
theorem dJx4a65c_fastRemove_b59b0_7 : decode cJx4a65c_fastRemove_b59b0 7 = .ok (.putfield 63, 3) := by decide +kernel
theorem dJx4a65c_fastRemove_b59b0_10 : decode cJx4a65c_fastRemove_b59b0 10 = .ok (.aload_n 0, 1) := by decide +kernel
theorem dJx4a65c_fastRemove_b59b0_11 : decode cJx4a65c_fastRemove_b59b0 11 = .ok (.getfield 48, 3) := by decide +kernel
theorem dJx4a65c_fastRemove_b59b0_14 : decode cJx4a65c_fastRemove_b59b0 14 = .ok (.iconst 1, 1) := by decide +kernel
theorem dJx4a65c_fastRemove_b59b0_15 : decode cJx4a65c_fastRemove_b59b0 15 = .ok (.isub, 1) := by decide +kernel
theorem dJx4a65c_fastRemove_b59b0_16 : decode cJx4a65c_fastRemove_b59b0 16 = .ok (.dup, 1) := by decide +kernel
theorem dJx4a65c_fastRemove_b59b0_17 : decode cJx4a65c_fastRemove_b59b0 17 = .ok (.istore_n 3, 1) := by decide +kernel
theorem dJx4a65c_fastRemove_b59b0_18 : decode cJx4a65c_fastRemove_b59b0 18 = .ok (.iload_n 2, 1) := by decide +kernel
theorem dJx4a65c_fastRemove_b59b0_19 : decode cJx4a65c_fastRemove_b59b0 19 = .ok (.if_icmp .le 15, 3) := by decide +kernel
theorem dJx4a65c_fastRemove_b59b0_22 : decode cJx4a65c_fastRemove_b59b0 22 = .ok (.aload_n 1, 1) := by decide +kernel
theorem dJx4a65c_fastRemove_b59b0_23 : decode cJx4a65c_fastRemove_b59b0 23 = .ok (.iload_n 2, 1) := by decide +kernel
theorem dJx4a65c_fastRemove_b59b0_24 : decode cJx4a65c_fastRemove_b59b0 24 = .ok (.iconst 1, 1) := by decide +kernel
theorem dJx4a65c_fastRemove_b59b0_25 : decode cJx4a65c_fastRemove_b59b0 25 = .ok (.iadd, 1) := by decide +kernel
theorem dJx4a65c_fastRemove_b59b0_26 : decode cJx4a65c_fastRemove_b59b0 26 = .ok (.aload_n 1, 1) := by decide +kernel
theorem dJx4a65c_fastRemove_b59b0_27 : decode cJx4a65c_fastRemove_b59b0 27 = .ok (.iload_n 2, 1) := by decide +kernel
theorem dJx4a65c_fastRemove_b59b0_28 : decode cJx4a65c_fastRemove_b59b0 28 = .ok (.iload_n 3, 1) := by decide +kernel
theorem dJx4a65c_fastRemove_b59b0_29 : decode cJx4a65c_fastRemove_b59b0 29 = .ok (.iload_n 2, 1) := by decide +kernel
theorem dJx4a65c_fastRemove_b59b0_30 : decode cJx4a65c_fastRemove_b59b0 30 = .ok (.isub, 1) := by decide +kernel
theorem dJx4a65c_fastRemove_b59b0_31 : decode cJx4a65c_fastRemove_b59b0 31 = .ok (.invokestatic 112, 3) := by decide +kernel
theorem dJx4a65c_fastRemove_b59b0_34 : decode cJx4a65c_fastRemove_b59b0 34 = .ok (.aload_n 1, 1) := by decide +kernel
theorem dJx4a65c_fastRemove_b59b0_35 : decode cJx4a65c_fastRemove_b59b0 35 = .ok (.aload_n 0, 1) := by decide +kernel
theorem dJx4a65c_fastRemove_b59b0_36 : decode cJx4a65c_fastRemove_b59b0 36 = .ok (.iload_n 3, 1) := by decide +kernel
theorem dJx4a65c_fastRemove_b59b0_37 : decode cJx4a65c_fastRemove_b59b0 37 = .ok (.dup_x1, 1) := by decide +kernel
theorem dJx4a65c_fastRemove_b59b0_38 : decode cJx4a65c_fastRemove_b59b0 38 = .ok (.putfield 48, 3) := by decide +kernel
theorem dJx4a65c_fastRemove_b59b0_41 : decode cJx4a65c_fastRemove_b59b0 41 = .ok (.aconst_null, 1) := by decide +kernel
theorem dJx4a65c_fastRemove_b59b0_42 : decode cJx4a65c_fastRemove_b59b0 42 = .ok (.aastore, 1) := by decide +kernel
theorem dJx4a65c_fastRemove_b59b0_43 : decode cJx4a65c_fastRemove_b59b0 43 = .ok (.return_, 1) := by decide +kernel
theorem dJ7_copyOf_1904c_0 : decode cJ7_copyOf_1904c 0 = .ok (.aload_n 0, 1) := by decide +kernel
theorem dJ7_copyOf_1904c_1 : decode cJ7_copyOf_1904c 1 = .ok (.iload_n 1, 1) := by decide +kernel
theorem dJ7_copyOf_1904c_2 : decode cJ7_copyOf_1904c 2 = .ok (.aload_n 0, 1) := by decide +kernel
theorem dJ7_copyOf_1904c_3 : decode cJ7_copyOf_1904c 3 = .ok (.invokevirtual 86, 3) := by decide +kernel
theorem dJ7_copyOf_1904c_6 : decode cJ7_copyOf_1904c 6 = .ok (.invokestatic 300, 3) := by decide +kernel
theorem dJ7_copyOf_1904c_9 : decode cJ7_copyOf_1904c 9 = .ok (.areturn, 1) := by decide +kernel
theorem dJ7_copyOf_6403c_0 : decode cJ7_copyOf_6403c 0 = .ok (.aload_n 2, 1) := by decide +kernel
theorem dJ7_copyOf_6403c_1 : decode cJ7_copyOf_6403c 1 = .ok (.ldc 110, 2) := by decide +kernel
theorem dJ7_copyOf_6403c_3 : decode cJ7_copyOf_6403c 3 = .ok (.if_acmp .ne 10, 3) := by decide +kernel
theorem dJ7_copyOf_6403c_6 : decode cJ7_copyOf_6403c 6 = .ok (.iload_n 1, 1) := by decide +kernel
theorem dJ7_copyOf_6403c_7 : decode cJ7_copyOf_6403c 7 = .ok (.anewarray 2, 3) := by decide +kernel
theorem dJ7_copyOf_6403c_10 : decode cJ7_copyOf_6403c 10 = .ok (.goto 14, 3) := by decide +kernel
theorem dJ7_copyOf_6403c_13 : decode cJ7_copyOf_6403c 13 = .ok (.aload_n 2, 1) := by decide +kernel
theorem dJ7_copyOf_6403c_14 : decode cJ7_copyOf_6403c 14 = .ok (.invokevirtual 90, 3) := by decide +kernel
theorem dJ7_copyOf_6403c_17 : decode cJ7_copyOf_6403c 17 = .ok (.iload_n 1, 1) := by decide +kernel
theorem dJ7_copyOf_6403c_18 : decode cJ7_copyOf_6403c 18 = .ok (.invokestatic 95, 3) := by decide +kernel
theorem dJ7_copyOf_6403c_21 : decode cJ7_copyOf_6403c 21 = .ok (.checkcast 110, 3) := by decide +kernel
theorem dJ7_copyOf_6403c_24 : decode cJ7_copyOf_6403c 24 = .ok (.astore_n 3, 1) := by decide +kernel
theorem dJ7_copyOf_6403c_25 : decode cJ7_copyOf_6403c 25 = .ok (.aload_n 0, 1) := by decide +kernel
theorem dJ7_copyOf_6403c_26 : decode cJ7_copyOf_6403c 26 = .ok (.iconst 0, 1) := by decide +kernel
theorem dJ7_copyOf_6403c_27 : decode cJ7_copyOf_6403c 27 = .ok (.aload_n 3, 1) := by decide +kernel
theorem dJ7_copyOf_6403c_28 : decode cJ7_copyOf_6403c 28 = .ok (.iconst 0, 1) := by decide +kernel
theorem dJ7_copyOf_6403c_29 : decode cJ7_copyOf_6403c 29 = .ok (.aload_n 0, 1) := by decide +kernel
theorem dJ7_copyOf_6403c_30 : decode cJ7_copyOf_6403c 30 = .ok (.arraylength, 1) := by decide +kernel
theorem dJ7_copyOf_6403c_31 : decode cJ7_copyOf_6403c 31 = .ok (.iload_n 1, 1) := by decide +kernel
theorem dJ7_copyOf_6403c_32 : decode cJ7_copyOf_6403c 32 = .ok (.invokestatic 304, 3) := by decide +kernel
theorem dJ7_copyOf_6403c_35 : decode cJ7_copyOf_6403c 35 = .ok (.invokestatic 150, 3) := by decide +kernel
theorem dJ7_copyOf_6403c_38 : decode cJ7_copyOf_6403c 38 = .ok (.aload_n 3, 1) := by decide +kernel
theorem dJ7_copyOf_6403c_39 : decode cJ7_copyOf_6403c 39 = .ok (.areturn, 1) := by decide +kernel
theorem dJ15_checkIndex_7cf53_0 : decode cJ15_checkIndex_7cf53 0 = .ok (.iload_n 0, 1) := by decide +kernel
theorem dJ15_checkIndex_7cf53_1 : decode cJ15_checkIndex_7cf53 1 = .ok (.iload_n 1, 1) := by decide +kernel
theorem dJ15_checkIndex_7cf53_2 : decode cJ15_checkIndex_7cf53 2 = .ok (.aconst_null, 1) := by decide +kernel
theorem dJ15_checkIndex_7cf53_3 : decode cJ15_checkIndex_7cf53 3 = .ok (.invokestatic 105, 3) := by decide +kernel
theorem dJ15_checkIndex_7cf53_6 : decode cJ15_checkIndex_7cf53 6 = .ok (.ireturn, 1) := by decide +kernel
theorem dJ8_newLength_cabcc_0 : decode cJ8_newLength_cabcc 0 = .ok (.iload_n 0, 1) := by decide +kernel
theorem dJ8_newLength_cabcc_1 : decode cJ8_newLength_cabcc 1 = .ok (.iload_n 1, 1) := by decide +kernel
theorem dJ8_newLength_cabcc_2 : decode cJ8_newLength_cabcc 2 = .ok (.iload_n 2, 1) := by decide +kernel
theorem dJ8_newLength_cabcc_3 : decode cJ8_newLength_cabcc 3 = .ok (.invokestatic 194, 3) := by decide +kernel
theorem dJ8_newLength_cabcc_6 : decode cJ8_newLength_cabcc 6 = .ok (.iadd, 1) := by decide +kernel
theorem dJ8_newLength_cabcc_7 : decode cJ8_newLength_cabcc 7 = .ok (.istore_n 3, 1) := by decide +kernel
theorem dJ8_newLength_cabcc_8 : decode cJ8_newLength_cabcc 8 = .ok (.iconst 0, 1) := by decide +kernel
theorem dJ8_newLength_cabcc_9 : decode cJ8_newLength_cabcc 9 = .ok (.iload_n 3, 1) := by decide +kernel
theorem dJ8_newLength_cabcc_10 : decode cJ8_newLength_cabcc 10 = .ok (.if_icmp .ge 11, 3) := by decide +kernel
theorem dJ8_newLength_cabcc_13 : decode cJ8_newLength_cabcc 13 = .ok (.iload_n 3, 1) := by decide +kernel
theorem dJ8_newLength_cabcc_14 : decode cJ8_newLength_cabcc 14 = .ok (.ldc 200, 2) := by decide +kernel
theorem dJ8_newLength_cabcc_16 : decode cJ8_newLength_cabcc 16 = .ok (.if_icmp .gt 5, 3) := by decide +kernel
theorem dJ8_newLength_cabcc_19 : decode cJ8_newLength_cabcc 19 = .ok (.iload_n 3, 1) := by decide +kernel
theorem dJ8_newLength_cabcc_20 : decode cJ8_newLength_cabcc 20 = .ok (.ireturn, 1) := by decide +kernel
theorem dJ8_newLength_cabcc_21 : decode cJ8_newLength_cabcc 21 = .ok (.iload_n 0, 1) := by decide +kernel
theorem dJ8_newLength_cabcc_22 : decode cJ8_newLength_cabcc 22 = .ok (.iload_n 1, 1) := by decide +kernel
theorem dJ8_newLength_cabcc_23 : decode cJ8_newLength_cabcc 23 = .ok (.invokestatic 201, 3) := by decide +kernel
theorem dJ8_newLength_cabcc_26 : decode cJ8_newLength_cabcc 26 = .ok (.ireturn, 1) := by decide +kernel
theorem dJ8_hugeLength_7cf53_0 : decode cJ8_hugeLength_7cf53 0 = .ok (.iload_n 0, 1) := by decide +kernel
theorem dJ8_hugeLength_7cf53_1 : decode cJ8_hugeLength_7cf53 1 = .ok (.iload_n 1, 1) := by decide +kernel
theorem dJ8_hugeLength_7cf53_2 : decode cJ8_hugeLength_7cf53 2 = .ok (.iadd, 1) := by decide +kernel
theorem dJ8_hugeLength_7cf53_3 : decode cJ8_hugeLength_7cf53 3 = .ok (.istore_n 2, 1) := by decide +kernel
theorem dJ8_hugeLength_7cf53_4 : decode cJ8_hugeLength_7cf53 4 = .ok (.iload_n 2, 1) := by decide +kernel
theorem dJ8_hugeLength_7cf53_5 : decode cJ8_hugeLength_7cf53 5 = .ok (.ifCond .ge 44, 3) := by decide +kernel
theorem dJ8_hugeLength_7cf53_8 : decode cJ8_hugeLength_7cf53 8 = .ok (.new 204, 3) := by decide +kernel
theorem dJ8_hugeLength_7cf53_11 : decode cJ8_hugeLength_7cf53 11 = .ok (.dup, 1) := by decide +kernel
theorem dJ8_hugeLength_7cf53_12 : decode cJ8_hugeLength_7cf53 12 = .ok (.new 89, 3) := by decide +kernel
theorem dJ8_hugeLength_7cf53_15 : decode cJ8_hugeLength_7cf53 15 = .ok (.dup, 1) := by decide +kernel
theorem dJ8_hugeLength_7cf53_16 : decode cJ8_hugeLength_7cf53 16 = .ok (.invokespecial 91, 3) := by decide +kernel
theorem dJ8_hugeLength_7cf53_19 : decode cJ8_hugeLength_7cf53 19 = .ok (.ldc 206, 2) := by decide +kernel
theorem dJ8_hugeLength_7cf53_21 : decode cJ8_hugeLength_7cf53 21 = .ok (.invokevirtual 94, 3) := by decide +kernel
theorem dJ8_hugeLength_7cf53_24 : decode cJ8_hugeLength_7cf53 24 = .ok (.iload_n 0, 1) := by decide +kernel
theorem dJ8_hugeLength_7cf53_25 : decode cJ8_hugeLength_7cf53 25 = .ok (.invokevirtual 98, 3) := by decide +kernel
theorem dJ8_hugeLength_7cf53_28 : decode cJ8_hugeLength_7cf53 28 = .ok (.ldc 208, 2) := by decide +kernel
theorem dJ8_hugeLength_7cf53_30 : decode cJ8_hugeLength_7cf53 30 = .ok (.invokevirtual 94, 3) := by decide +kernel
theorem dJ8_hugeLength_7cf53_33 : decode cJ8_hugeLength_7cf53 33 = .ok (.iload_n 1, 1) := by decide +kernel
theorem dJ8_hugeLength_7cf53_34 : decode cJ8_hugeLength_7cf53 34 = .ok (.invokevirtual 98, 3) := by decide +kernel
theorem dJ8_hugeLength_7cf53_37 : decode cJ8_hugeLength_7cf53 37 = .ok (.ldc 210, 2) := by decide +kernel
theorem dJ8_hugeLength_7cf53_39 : decode cJ8_hugeLength_7cf53 39 = .ok (.invokevirtual 94, 3) := by decide +kernel
theorem dJ8_hugeLength_7cf53_42 : decode cJ8_hugeLength_7cf53 42 = .ok (.invokevirtual 101, 3) := by decide +kernel
theorem dJ8_hugeLength_7cf53_45 : decode cJ8_hugeLength_7cf53 45 = .ok (.invokespecial 212, 3) := by decide +kernel
theorem dJ8_hugeLength_7cf53_48 : decode cJ8_hugeLength_7cf53 48 = .ok (.athrow, 1) := by decide +kernel
theorem dJ8_hugeLength_7cf53_49 : decode cJ8_hugeLength_7cf53 49 = .ok (.iload_n 2, 1) := by decide +kernel
theorem dJ8_hugeLength_7cf53_50 : decode cJ8_hugeLength_7cf53 50 = .ok (.ldc 200, 2) := by decide +kernel
theorem dJ8_hugeLength_7cf53_52 : decode cJ8_hugeLength_7cf53 52 = .ok (.if_icmp .gt 6, 3) := by decide +kernel
theorem dJ8_hugeLength_7cf53_55 : decode cJ8_hugeLength_7cf53 55 = .ok (.ldc 200, 2) := by decide +kernel
theorem dJ8_hugeLength_7cf53_57 : decode cJ8_hugeLength_7cf53 57 = .ok (.ireturn, 1) := by decide +kernel
theorem dJ8_hugeLength_7cf53_58 : decode cJ8_hugeLength_7cf53 58 = .ok (.iload_n 2, 1) := by decide +kernel
theorem dJ8_hugeLength_7cf53_59 : decode cJ8_hugeLength_7cf53 59 = .ok (.ireturn, 1) := by decide +kernel
theorem dJ3_checkIndex_8e157_0 : decode cJ3_checkIndex_8e157 0 = .ok (.iload_n 0, 1) := by decide +kernel
theorem dJ3_checkIndex_8e157_1 : decode cJ3_checkIndex_8e157 1 = .ok (.ifCond .lt 8, 3) := by decide +kernel
theorem dJ3_checkIndex_8e157_4 : decode cJ3_checkIndex_8e157 4 = .ok (.iload_n 0, 1) := by decide +kernel
theorem dJ3_checkIndex_8e157_5 : decode cJ3_checkIndex_8e157 5 = .ok (.iload_n 1, 1) := by decide +kernel
theorem dJ3_checkIndex_8e157_6 : decode cJ3_checkIndex_8e157 6 = .ok (.if_icmp .lt 10, 3) := by decide +kernel
theorem dJ3_checkIndex_8e157_9 : decode cJ3_checkIndex_8e157 9 = .ok (.aload_n 2, 1) := by decide +kernel
theorem dJ3_checkIndex_8e157_10 : decode cJ3_checkIndex_8e157 10 = .ok (.iload_n 0, 1) := by decide +kernel
theorem dJ3_checkIndex_8e157_11 : decode cJ3_checkIndex_8e157 11 = .ok (.iload_n 1, 1) := by decide +kernel
theorem dJ3_checkIndex_8e157_12 : decode cJ3_checkIndex_8e157 12 = .ok (.invokestatic 95, 3) := by decide +kernel
theorem dJ3_checkIndex_8e157_15 : decode cJ3_checkIndex_8e157 15 = .ok (.athrow, 1) := by decide +kernel
theorem dJ3_checkIndex_8e157_16 : decode cJ3_checkIndex_8e157 16 = .ok (.iload_n 0, 1) := by decide +kernel
theorem dJ3_checkIndex_8e157_17 : decode cJ3_checkIndex_8e157 17 = .ok (.ireturn, 1) := by decide +kernel
end
section
theorem dX3_init_0 : decode cX3_init 0 = .ok (.aload_n 0, 1) := by decide +kernel
theorem dX3_init_1 : decode cX3_init 1 = .ok (.invokespecial 3, 3) := by decide +kernel
theorem dX3_init_4 : decode cX3_init 4 = .ok (.aload_n 0, 1) := by decide +kernel
theorem dX3_init_5 : decode cX3_init 5 = .ok (.iload_n 1, 1) := by decide +kernel
theorem dX3_init_6 : decode cX3_init 6 = .ok (.putfield 9, 3) := by decide +kernel
theorem dX3_init_9 : decode cX3_init 9 = .ok (.aload_n 0, 1) := by decide +kernel
theorem dX3_init_10 : decode cX3_init 10 = .ok (.iload_n 2, 1) := by decide +kernel
theorem dX3_init_11 : decode cX3_init 11 = .ok (.putfield 15, 3) := by decide +kernel
theorem dX3_init_14 : decode cX3_init 14 = .ok (.aload_n 0, 1) := by decide +kernel
theorem dX3_init_15 : decode cX3_init 15 = .ok (.bipush 64, 2) := by decide +kernel
theorem dX3_init_17 : decode cX3_init 17 = .ok (.newarray .int, 2) := by decide +kernel
theorem dX3_init_19 : decode cX3_init 19 = .ok (.putfield 18, 3) := by decide +kernel
theorem dX3_init_22 : decode cX3_init 22 = .ok (.aload_n 0, 1) := by decide +kernel
theorem dX3_init_23 : decode cX3_init 23 = .ok (.bipush 64, 2) := by decide +kernel
theorem dX3_init_25 : decode cX3_init 25 = .ok (.newarray .int, 2) := by decide +kernel
theorem dX3_init_27 : decode cX3_init 27 = .ok (.putfield 22, 3) := by decide +kernel
theorem dX3_init_30 : decode cX3_init 30 = .ok (.aload_n 0, 1) := by decide +kernel
theorem dX3_init_31 : decode cX3_init 31 = .ok (.bipush 64, 2) := by decide +kernel
theorem dX3_init_33 : decode cX3_init 33 = .ok (.newarray .int, 2) := by decide +kernel
theorem dX3_init_35 : decode cX3_init 35 = .ok (.putfield 25, 3) := by decide +kernel
theorem dX3_init_38 : decode cX3_init 38 = .ok (.aload_n 0, 1) := by decide +kernel
theorem dX3_init_39 : decode cX3_init 39 = .ok (.bipush 64, 2) := by decide +kernel
theorem dX3_init_41 : decode cX3_init 41 = .ok (.newarray .int, 2) := by decide +kernel
theorem dX3_init_43 : decode cX3_init 43 = .ok (.putfield 28, 3) := by decide +kernel
theorem dX3_init_46 : decode cX3_init 46 = .ok (.aload_n 0, 1) := by decide +kernel
theorem dX3_init_47 : decode cX3_init 47 = .ok (.sipush 128, 3) := by decide +kernel
theorem dX3_init_50 : decode cX3_init 50 = .ok (.newarray .int, 2) := by decide +kernel
theorem dX3_init_52 : decode cX3_init 52 = .ok (.putfield 31, 3) := by decide +kernel
theorem dX3_init_55 : decode cX3_init 55 = .ok (.return_, 1) := by decide +kernel
theorem dX3_barUnits_0 : decode cX3_barUnits 0 = .ok (.aload_n 0, 1) := by decide +kernel
theorem dX3_barUnits_1 : decode cX3_barUnits 1 = .ok (.getfield 15, 3) := by decide +kernel
theorem dX3_barUnits_4 : decode cX3_barUnits 4 = .ok (.lookupswitch 34 #[(1, 28), (3, 31)], 28) := by decide +kernel
theorem dX3_barUnits_32 : decode cX3_barUnits 32 = .ok (.bipush 16, 2) := by decide +kernel
theorem dX3_barUnits_34 : decode cX3_barUnits 34 = .ok (.ireturn, 1) := by decide +kernel
theorem dX3_barUnits_35 : decode cX3_barUnits 35 = .ok (.bipush 6, 2) := by decide +kernel
theorem dX3_barUnits_37 : decode cX3_barUnits 37 = .ok (.ireturn, 1) := by decide +kernel
theorem dX3_barUnits_38 : decode cX3_barUnits 38 = .ok (.bipush 8, 2) := by decide +kernel
theorem dX3_barUnits_40 : decode cX3_barUnits 40 = .ok (.ireturn, 1) := by decide +kernel
theorem dX3_canTake_0 : decode cX3_canTake 0 = .ok (.aload_n 0, 1) := by decide +kernel
theorem dX3_canTake_1 : decode cX3_canTake 1 = .ok (.invokevirtual 34, 3) := by decide +kernel
theorem dX3_canTake_4 : decode cX3_canTake 4 = .ok (.aload_n 0, 1) := by decide +kernel
theorem dX3_canTake_5 : decode cX3_canTake 5 = .ok (.getfield 38, 3) := by decide +kernel
theorem dX3_canTake_8 : decode cX3_canTake 8 = .ok (.aload_n 0, 1) := by decide +kernel
theorem dX3_canTake_9 : decode cX3_canTake 9 = .ok (.invokevirtual 34, 3) := by decide +kernel
theorem dX3_canTake_12 : decode cX3_canTake 12 = .ok (.irem, 1) := by decide +kernel
theorem dX3_canTake_13 : decode cX3_canTake 13 = .ok (.isub, 1) := by decide +kernel
theorem dX3_canTake_14 : decode cX3_canTake 14 = .ok (.istore 4, 2) := by decide +kernel
theorem dX3_canTake_16 : decode cX3_canTake 16 = .ok (.aload_n 0, 1) := by decide +kernel
theorem dX3_canTake_17 : decode cX3_canTake 17 = .ok (.getfield 41, 3) := by decide +kernel
theorem dX3_canTake_20 : decode cX3_canTake 20 = .ok (.bipush 64, 2) := by decide +kernel
theorem dX3_canTake_22 : decode cX3_canTake 22 = .ok (.if_icmp .ge 22, 3) := by decide +kernel
theorem dX3_canTake_25 : decode cX3_canTake 25 = .ok (.iload_n 2, 1) := by decide +kernel
theorem dX3_canTake_26 : decode cX3_canTake 26 = .ok (.iload 4, 2) := by decide +kernel
theorem dX3_canTake_28 : decode cX3_canTake 28 = .ok (.if_icmp .gt 16, 3) := by decide +kernel
theorem dX3_canTake_31 : decode cX3_canTake 31 = .ok (.aload_n 0, 1) := by decide +kernel
theorem dX3_canTake_32 : decode cX3_canTake 32 = .ok (.iload_n 1, 1) := by decide +kernel
theorem dX3_canTake_33 : decode cX3_canTake 33 = .ok (.iload_n 3, 1) := by decide +kernel
theorem dX3_canTake_34 : decode cX3_canTake 34 = .ok (.invokevirtual 44, 3) := by decide +kernel
theorem dX3_canTake_37 : decode cX3_canTake 37 = .ok (.ifCond .eq 7, 3) := by decide +kernel
theorem dX3_canTake_40 : decode cX3_canTake 40 = .ok (.iconst 1, 1) := by decide +kernel
theorem dX3_canTake_41 : decode cX3_canTake 41 = .ok (.goto 4, 3) := by decide +kernel
theorem dX3_canTake_44 : decode cX3_canTake 44 = .ok (.iconst 0, 1) := by decide +kernel
theorem dX3_canTake_45 : decode cX3_canTake 45 = .ok (.ireturn, 1) := by decide +kernel
theorem dX3_isLawful_0 : decode cX3_isLawful 0 = .ok (.iload_n 2, 1) := by decide +kernel
theorem dX3_isLawful_1 : decode cX3_isLawful 1 = .ok (.tableswitch 156 0 8 #[51, 65, 76, 87, 99, 111, 123, 134, 145], 51) := by decide +kernel
theorem dX3_isLawful_52 : decode cX3_isLawful 52 = .ok (.aload_n 0, 1) := by decide +kernel
theorem dX3_isLawful_53 : decode cX3_isLawful 53 = .ok (.invokevirtual 48, 3) := by decide +kernel
theorem dX3_isLawful_56 : decode cX3_isLawful 56 = .ok (.iload_n 1, 1) := by decide +kernel
theorem dX3_isLawful_57 : decode cX3_isLawful 57 = .ok (.if_icmp .eq 7, 3) := by decide +kernel
theorem dX3_isLawful_60 : decode cX3_isLawful 60 = .ok (.iconst 1, 1) := by decide +kernel
theorem dX3_isLawful_61 : decode cX3_isLawful 61 = .ok (.goto 4, 3) := by decide +kernel
theorem dX3_isLawful_64 : decode cX3_isLawful 64 = .ok (.iconst 0, 1) := by decide +kernel
theorem dX3_isLawful_65 : decode cX3_isLawful 65 = .ok (.ireturn, 1) := by decide +kernel
theorem dX3_isLawful_66 : decode cX3_isLawful 66 = .ok (.iload_n 1, 1) := by decide +kernel
theorem dX3_isLawful_67 : decode cX3_isLawful 67 = .ok (.iconst 4, 1) := by decide +kernel
theorem dX3_isLawful_68 : decode cX3_isLawful 68 = .ok (.if_icmp .ge 7, 3) := by decide +kernel
theorem dX3_isLawful_71 : decode cX3_isLawful 71 = .ok (.iconst 1, 1) := by decide +kernel
theorem dX3_isLawful_72 : decode cX3_isLawful 72 = .ok (.goto 4, 3) := by decide +kernel
theorem dX3_isLawful_75 : decode cX3_isLawful 75 = .ok (.iconst 0, 1) := by decide +kernel
theorem dX3_isLawful_76 : decode cX3_isLawful 76 = .ok (.ireturn, 1) := by decide +kernel
theorem dX3_isLawful_77 : decode cX3_isLawful 77 = .ok (.iload_n 1, 1) := by decide +kernel
theorem dX3_isLawful_78 : decode cX3_isLawful 78 = .ok (.iconst 5, 1) := by decide +kernel
theorem dX3_isLawful_79 : decode cX3_isLawful 79 = .ok (.if_icmp .ge 7, 3) := by decide +kernel
theorem dX3_isLawful_82 : decode cX3_isLawful 82 = .ok (.iconst 1, 1) := by decide +kernel
theorem dX3_isLawful_83 : decode cX3_isLawful 83 = .ok (.goto 4, 3) := by decide +kernel
theorem dX3_isLawful_86 : decode cX3_isLawful 86 = .ok (.iconst 0, 1) := by decide +kernel
theorem dX3_isLawful_87 : decode cX3_isLawful 87 = .ok (.ireturn, 1) := by decide +kernel
theorem dX3_isLawful_88 : decode cX3_isLawful 88 = .ok (.iload_n 1, 1) := by decide +kernel
theorem dX3_isLawful_89 : decode cX3_isLawful 89 = .ok (.bipush 7, 2) := by decide +kernel
theorem dX3_isLawful_91 : decode cX3_isLawful 91 = .ok (.if_icmp .ge 7, 3) := by decide +kernel
theorem dX3_isLawful_94 : decode cX3_isLawful 94 = .ok (.iconst 1, 1) := by decide +kernel
theorem dX3_isLawful_95 : decode cX3_isLawful 95 = .ok (.goto 4, 3) := by decide +kernel
theorem dX3_isLawful_98 : decode cX3_isLawful 98 = .ok (.iconst 0, 1) := by decide +kernel
theorem dX3_isLawful_99 : decode cX3_isLawful 99 = .ok (.ireturn, 1) := by decide +kernel
theorem dX3_isLawful_100 : decode cX3_isLawful 100 = .ok (.iload_n 1, 1) := by decide +kernel
theorem dX3_isLawful_101 : decode cX3_isLawful 101 = .ok (.bipush 8, 2) := by decide +kernel
theorem dX3_isLawful_103 : decode cX3_isLawful 103 = .ok (.if_icmp .ge 7, 3) := by decide +kernel
theorem dX3_isLawful_106 : decode cX3_isLawful 106 = .ok (.iconst 1, 1) := by decide +kernel
theorem dX3_isLawful_107 : decode cX3_isLawful 107 = .ok (.goto 4, 3) := by decide +kernel
theorem dX3_isLawful_110 : decode cX3_isLawful 110 = .ok (.iconst 0, 1) := by decide +kernel
theorem dX3_isLawful_111 : decode cX3_isLawful 111 = .ok (.ireturn, 1) := by decide +kernel
theorem dX3_isLawful_112 : decode cX3_isLawful 112 = .ok (.iload_n 1, 1) := by decide +kernel
theorem dX3_isLawful_113 : decode cX3_isLawful 113 = .ok (.bipush 6, 2) := by decide +kernel
theorem dX3_isLawful_115 : decode cX3_isLawful 115 = .ok (.if_icmp .gt 7, 3) := by decide +kernel
theorem dX3_isLawful_118 : decode cX3_isLawful 118 = .ok (.iconst 1, 1) := by decide +kernel
theorem dX3_isLawful_119 : decode cX3_isLawful 119 = .ok (.goto 4, 3) := by decide +kernel
theorem dX3_isLawful_122 : decode cX3_isLawful 122 = .ok (.iconst 0, 1) := by decide +kernel
theorem dX3_isLawful_123 : decode cX3_isLawful 123 = .ok (.ireturn, 1) := by decide +kernel
theorem dX3_isLawful_124 : decode cX3_isLawful 124 = .ok (.iload_n 1, 1) := by decide +kernel
theorem dX3_isLawful_125 : decode cX3_isLawful 125 = .ok (.iconst 1, 1) := by decide +kernel
theorem dX3_isLawful_126 : decode cX3_isLawful 126 = .ok (.if_icmp .lt 7, 3) := by decide +kernel
theorem dX3_isLawful_129 : decode cX3_isLawful 129 = .ok (.iconst 1, 1) := by decide +kernel
theorem dX3_isLawful_130 : decode cX3_isLawful 130 = .ok (.goto 4, 3) := by decide +kernel
theorem dX3_isLawful_133 : decode cX3_isLawful 133 = .ok (.iconst 0, 1) := by decide +kernel
theorem dX3_isLawful_134 : decode cX3_isLawful 134 = .ok (.ireturn, 1) := by decide +kernel
theorem dX3_isLawful_135 : decode cX3_isLawful 135 = .ok (.iload_n 1, 1) := by decide +kernel
theorem dX3_isLawful_136 : decode cX3_isLawful 136 = .ok (.iconst 4, 1) := by decide +kernel
theorem dX3_isLawful_137 : decode cX3_isLawful 137 = .ok (.if_icmp .ne 7, 3) := by decide +kernel
theorem dX3_isLawful_140 : decode cX3_isLawful 140 = .ok (.iconst 1, 1) := by decide +kernel
theorem dX3_isLawful_141 : decode cX3_isLawful 141 = .ok (.goto 4, 3) := by decide +kernel
theorem dX3_isLawful_144 : decode cX3_isLawful 144 = .ok (.iconst 0, 1) := by decide +kernel
theorem dX3_isLawful_145 : decode cX3_isLawful 145 = .ok (.ireturn, 1) := by decide +kernel
theorem dX3_isLawful_146 : decode cX3_isLawful 146 = .ok (.iload_n 1, 1) := by decide +kernel
theorem dX3_isLawful_147 : decode cX3_isLawful 147 = .ok (.iconst 1, 1) := by decide +kernel
theorem dX3_isLawful_148 : decode cX3_isLawful 148 = .ok (.if_icmp .ne 7, 3) := by decide +kernel
theorem dX3_isLawful_151 : decode cX3_isLawful 151 = .ok (.iconst 1, 1) := by decide +kernel
theorem dX3_isLawful_152 : decode cX3_isLawful 152 = .ok (.goto 4, 3) := by decide +kernel
theorem dX3_isLawful_155 : decode cX3_isLawful 155 = .ok (.iconst 0, 1) := by decide +kernel
theorem dX3_isLawful_156 : decode cX3_isLawful 156 = .ok (.ireturn, 1) := by decide +kernel
theorem dX3_isLawful_157 : decode cX3_isLawful 157 = .ok (.iconst 0, 1) := by decide +kernel
theorem dX3_isLawful_158 : decode cX3_isLawful 158 = .ok (.ireturn, 1) := by decide +kernel
theorem dX3_lastWrittenHeight_0 : decode cX3_lastWrittenHeight 0 = .ok (.aload_n 0, 1) := by decide +kernel
theorem dX3_lastWrittenHeight_1 : decode cX3_lastWrittenHeight 1 = .ok (.getfield 41, 3) := by decide +kernel
theorem dX3_lastWrittenHeight_4 : decode cX3_lastWrittenHeight 4 = .ok (.iconst 1, 1) := by decide +kernel
theorem dX3_lastWrittenHeight_5 : decode cX3_lastWrittenHeight 5 = .ok (.isub, 1) := by decide +kernel
theorem dX3_lastWrittenHeight_6 : decode cX3_lastWrittenHeight 6 = .ok (.istore_n 1, 1) := by decide +kernel
theorem dX3_lastWrittenHeight_7 : decode cX3_lastWrittenHeight 7 = .ok (.iload_n 1, 1) := by decide +kernel
theorem dX3_lastWrittenHeight_8 : decode cX3_lastWrittenHeight 8 = .ok (.ifCond .lt 21, 3) := by decide +kernel
theorem dX3_lastWrittenHeight_11 : decode cX3_lastWrittenHeight 11 = .ok (.iload_n 1, 1) := by decide +kernel
theorem dX3_lastWrittenHeight_12 : decode cX3_lastWrittenHeight 12 = .ok (.aload_n 0, 1) := by decide +kernel
theorem dX3_lastWrittenHeight_13 : decode cX3_lastWrittenHeight 13 = .ok (.getfield 18, 3) := by decide +kernel
theorem dX3_lastWrittenHeight_16 : decode cX3_lastWrittenHeight 16 = .ok (.arraylength, 1) := by decide +kernel
theorem dX3_lastWrittenHeight_17 : decode cX3_lastWrittenHeight 17 = .ok (.if_icmp .ge 12, 3) := by decide +kernel
theorem dX3_lastWrittenHeight_20 : decode cX3_lastWrittenHeight 20 = .ok (.aload_n 0, 1) := by decide +kernel
theorem dX3_lastWrittenHeight_21 : decode cX3_lastWrittenHeight 21 = .ok (.getfield 18, 3) := by decide +kernel
theorem dX3_lastWrittenHeight_24 : decode cX3_lastWrittenHeight 24 = .ok (.iload_n 1, 1) := by decide +kernel
theorem dX3_lastWrittenHeight_25 : decode cX3_lastWrittenHeight 25 = .ok (.iaload, 1) := by decide +kernel
theorem dX3_lastWrittenHeight_26 : decode cX3_lastWrittenHeight 26 = .ok (.goto 4, 3) := by decide +kernel
theorem dX3_lastWrittenHeight_29 : decode cX3_lastWrittenHeight 29 = .ok (.iconst (-1), 1) := by decide +kernel
theorem dX3_lastWrittenHeight_30 : decode cX3_lastWrittenHeight 30 = .ok (.ireturn, 1) := by decide +kernel
theorem dX3_write_0 : decode cX3_write 0 = .ok (.aload_n 0, 1) := by decide +kernel
theorem dX3_write_1 : decode cX3_write 1 = .ok (.getfield 41, 3) := by decide +kernel
theorem dX3_write_4 : decode cX3_write 4 = .ok (.istore 4, 2) := by decide +kernel
theorem dX3_write_6 : decode cX3_write 6 = .ok (.iload 4, 2) := by decide +kernel
theorem dX3_write_8 : decode cX3_write 8 = .ok (.ifCond .lt 54, 3) := by decide +kernel
theorem dX3_write_11 : decode cX3_write 11 = .ok (.iload 4, 2) := by decide +kernel
theorem dX3_write_13 : decode cX3_write 13 = .ok (.bipush 64, 2) := by decide +kernel
theorem dX3_write_15 : decode cX3_write 15 = .ok (.if_icmp .ge 47, 3) := by decide +kernel
theorem dX3_write_18 : decode cX3_write 18 = .ok (.aload_n 0, 1) := by decide +kernel
theorem dX3_write_19 : decode cX3_write 19 = .ok (.getfield 18, 3) := by decide +kernel
theorem dX3_write_22 : decode cX3_write 22 = .ok (.iload 4, 2) := by decide +kernel
theorem dX3_write_24 : decode cX3_write 24 = .ok (.iload_n 1, 1) := by decide +kernel
theorem dX3_write_25 : decode cX3_write 25 = .ok (.iastore, 1) := by decide +kernel
theorem dX3_write_26 : decode cX3_write 26 = .ok (.aload_n 0, 1) := by decide +kernel
theorem dX3_write_27 : decode cX3_write 27 = .ok (.getfield 22, 3) := by decide +kernel
theorem dX3_write_30 : decode cX3_write 30 = .ok (.iload 4, 2) := by decide +kernel
theorem dX3_write_32 : decode cX3_write 32 = .ok (.iload_n 2, 1) := by decide +kernel
theorem dX3_write_33 : decode cX3_write 33 = .ok (.iastore, 1) := by decide +kernel
theorem dX3_write_34 : decode cX3_write 34 = .ok (.aload_n 0, 1) := by decide +kernel
theorem dX3_write_35 : decode cX3_write 35 = .ok (.getfield 25, 3) := by decide +kernel
theorem dX3_write_38 : decode cX3_write 38 = .ok (.iload 4, 2) := by decide +kernel
theorem dX3_write_40 : decode cX3_write 40 = .ok (.iload_n 3, 1) := by decide +kernel
theorem dX3_write_41 : decode cX3_write 41 = .ok (.iastore, 1) := by decide +kernel
theorem dX3_write_42 : decode cX3_write 42 = .ok (.aload_n 0, 1) := by decide +kernel
theorem dX3_write_43 : decode cX3_write 43 = .ok (.dup, 1) := by decide +kernel
theorem dX3_write_44 : decode cX3_write 44 = .ok (.getfield 38, 3) := by decide +kernel
theorem dX3_write_47 : decode cX3_write 47 = .ok (.iload_n 2, 1) := by decide +kernel
theorem dX3_write_48 : decode cX3_write 48 = .ok (.iadd, 1) := by decide +kernel
theorem dX3_write_49 : decode cX3_write 49 = .ok (.putfield 38, 3) := by decide +kernel
theorem dX3_write_52 : decode cX3_write 52 = .ok (.aload_n 0, 1) := by decide +kernel
theorem dX3_write_53 : decode cX3_write 53 = .ok (.dup, 1) := by decide +kernel
theorem dX3_write_54 : decode cX3_write 54 = .ok (.getfield 41, 3) := by decide +kernel
theorem dX3_write_57 : decode cX3_write 57 = .ok (.iconst 1, 1) := by decide +kernel
theorem dX3_write_58 : decode cX3_write 58 = .ok (.iadd, 1) := by decide +kernel
theorem dX3_write_59 : decode cX3_write 59 = .ok (.putfield 41, 3) := by decide +kernel
theorem dX3_write_62 : decode cX3_write 62 = .ok (.aload_n 0, 1) := by decide +kernel
theorem dX3_write_63 : decode cX3_write 63 = .ok (.getfield 41, 3) := by decide +kernel
theorem dX3_write_66 : decode cX3_write 66 = .ok (.ireturn, 1) := by decide +kernel
theorem dX3_canEndPart_0 : decode cX3_canEndPart 0 = .ok (.aload_n 0, 1) := by decide +kernel
theorem dX3_canEndPart_1 : decode cX3_canEndPart 1 = .ok (.getfield 51, 3) := by decide +kernel
theorem dX3_canEndPart_4 : decode cX3_canEndPart 4 = .ok (.bipush 8, 2) := by decide +kernel
theorem dX3_canEndPart_6 : decode cX3_canEndPart 6 = .ok (.if_icmp .ge 30, 3) := by decide +kernel
theorem dX3_canEndPart_9 : decode cX3_canEndPart 9 = .ok (.aload_n 0, 1) := by decide +kernel
theorem dX3_canEndPart_10 : decode cX3_canEndPart 10 = .ok (.getfield 54, 3) := by decide +kernel
theorem dX3_canEndPart_13 : decode cX3_canEndPart 13 = .ok (.aload_n 0, 1) := by decide +kernel
theorem dX3_canEndPart_14 : decode cX3_canEndPart 14 = .ok (.getfield 41, 3) := by decide +kernel
theorem dX3_canEndPart_17 : decode cX3_canEndPart 17 = .ok (.if_icmp .ge 19, 3) := by decide +kernel
theorem dX3_canEndPart_20 : decode cX3_canEndPart 20 = .ok (.aload_n 0, 1) := by decide +kernel
theorem dX3_canEndPart_21 : decode cX3_canEndPart 21 = .ok (.getfield 38, 3) := by decide +kernel
theorem dX3_canEndPart_24 : decode cX3_canEndPart 24 = .ok (.aload_n 0, 1) := by decide +kernel
theorem dX3_canEndPart_25 : decode cX3_canEndPart 25 = .ok (.invokevirtual 34, 3) := by decide +kernel
theorem dX3_canEndPart_28 : decode cX3_canEndPart 28 = .ok (.irem, 1) := by decide +kernel
theorem dX3_canEndPart_29 : decode cX3_canEndPart 29 = .ok (.ifCond .ne 7, 3) := by decide +kernel
theorem dX3_canEndPart_32 : decode cX3_canEndPart 32 = .ok (.iconst 1, 1) := by decide +kernel
theorem dX3_canEndPart_33 : decode cX3_canEndPart 33 = .ok (.goto 4, 3) := by decide +kernel
theorem dX3_canEndPart_36 : decode cX3_canEndPart 36 = .ok (.iconst 0, 1) := by decide +kernel
theorem dX3_canEndPart_37 : decode cX3_canEndPart 37 = .ok (.ireturn, 1) := by decide +kernel
theorem dX3_endPart_0 : decode cX3_endPart 0 = .ok (.aload_n 0, 1) := by decide +kernel
theorem dX3_endPart_1 : decode cX3_endPart 1 = .ok (.getfield 54, 3) := by decide +kernel
theorem dX3_endPart_4 : decode cX3_endPart 4 = .ok (.istore_n 2, 1) := by decide +kernel
theorem dX3_endPart_5 : decode cX3_endPart 5 = .ok (.iload_n 2, 1) := by decide +kernel
theorem dX3_endPart_6 : decode cX3_endPart 6 = .ok (.ifCond .lt 36, 3) := by decide +kernel
theorem dX3_endPart_9 : decode cX3_endPart 9 = .ok (.iload_n 2, 1) := by decide +kernel
theorem dX3_endPart_10 : decode cX3_endPart 10 = .ok (.aload_n 0, 1) := by decide +kernel
theorem dX3_endPart_11 : decode cX3_endPart 11 = .ok (.getfield 41, 3) := by decide +kernel
theorem dX3_endPart_14 : decode cX3_endPart 14 = .ok (.if_icmp .ge 28, 3) := by decide +kernel
theorem dX3_endPart_17 : decode cX3_endPart 17 = .ok (.iload_n 2, 1) := by decide +kernel
theorem dX3_endPart_18 : decode cX3_endPart 18 = .ok (.aload_n 0, 1) := by decide +kernel
theorem dX3_endPart_19 : decode cX3_endPart 19 = .ok (.getfield 28, 3) := by decide +kernel
theorem dX3_endPart_22 : decode cX3_endPart 22 = .ok (.arraylength, 1) := by decide +kernel
theorem dX3_endPart_23 : decode cX3_endPart 23 = .ok (.if_icmp .ge 19, 3) := by decide +kernel
theorem dX3_endPart_26 : decode cX3_endPart 26 = .ok (.aload_n 0, 1) := by decide +kernel
theorem dX3_endPart_27 : decode cX3_endPart 27 = .ok (.getfield 28, 3) := by decide +kernel
theorem dX3_endPart_30 : decode cX3_endPart 30 = .ok (.iload_n 2, 1) := by decide +kernel
theorem dX3_endPart_31 : decode cX3_endPart 31 = .ok (.aload_n 0, 1) := by decide +kernel
theorem dX3_endPart_32 : decode cX3_endPart 32 = .ok (.getfield 51, 3) := by decide +kernel
theorem dX3_endPart_35 : decode cX3_endPart 35 = .ok (.iastore, 1) := by decide +kernel
theorem dX3_endPart_36 : decode cX3_endPart 36 = .ok (.iinc 2 1, 3) := by decide +kernel
theorem dX3_endPart_39 : decode cX3_endPart 39 = .ok (.goto (-34), 3) := by decide +kernel
theorem dX3_endPart_42 : decode cX3_endPart 42 = .ok (.aload_n 0, 1) := by decide +kernel
theorem dX3_endPart_43 : decode cX3_endPart 43 = .ok (.invokevirtual 57, 3) := by decide +kernel
theorem dX3_endPart_46 : decode cX3_endPart 46 = .ok (.iload_n 1, 1) := by decide +kernel
theorem dX3_endPart_47 : decode cX3_endPart 47 = .ok (.ifCond .eq 7, 3) := by decide +kernel
theorem dX3_endPart_50 : decode cX3_endPart 50 = .ok (.aload_n 0, 1) := by decide +kernel
theorem dX3_endPart_51 : decode cX3_endPart 51 = .ok (.invokevirtual 57, 3) := by decide +kernel
theorem dX3_endPart_54 : decode cX3_endPart 54 = .ok (.aload_n 0, 1) := by decide +kernel
theorem dX3_endPart_55 : decode cX3_endPart 55 = .ok (.getfield 38, 3) := by decide +kernel
theorem dX3_endPart_58 : decode cX3_endPart 58 = .ok (.aload_n 0, 1) := by decide +kernel
theorem dX3_endPart_59 : decode cX3_endPart 59 = .ok (.invokevirtual 34, 3) := by decide +kernel
theorem dX3_endPart_62 : decode cX3_endPart 62 = .ok (.idiv, 1) := by decide +kernel
theorem dX3_endPart_63 : decode cX3_endPart 63 = .ok (.istore_n 2, 1) := by decide +kernel
theorem dX3_endPart_64 : decode cX3_endPart 64 = .ok (.aload_n 0, 1) := by decide +kernel
theorem dX3_endPart_65 : decode cX3_endPart 65 = .ok (.aload_n 0, 1) := by decide +kernel
theorem dX3_endPart_66 : decode cX3_endPart 66 = .ok (.getfield 41, 3) := by decide +kernel
theorem dX3_endPart_69 : decode cX3_endPart 69 = .ok (.putfield 54, 3) := by decide +kernel
theorem dX3_endPart_72 : decode cX3_endPart 72 = .ok (.aload_n 0, 1) := by decide +kernel
theorem dX3_endPart_73 : decode cX3_endPart 73 = .ok (.iconst 0, 1) := by decide +kernel
theorem dX3_endPart_74 : decode cX3_endPart 74 = .ok (.putfield 38, 3) := by decide +kernel
theorem dX3_endPart_77 : decode cX3_endPart 77 = .ok (.aload_n 0, 1) := by decide +kernel
theorem dX3_endPart_78 : decode cX3_endPart 78 = .ok (.dup, 1) := by decide +kernel
theorem dX3_endPart_79 : decode cX3_endPart 79 = .ok (.getfield 51, 3) := by decide +kernel
theorem dX3_endPart_82 : decode cX3_endPart 82 = .ok (.iconst 1, 1) := by decide +kernel
theorem dX3_endPart_83 : decode cX3_endPart 83 = .ok (.iadd, 1) := by decide +kernel
theorem dX3_endPart_84 : decode cX3_endPart 84 = .ok (.putfield 51, 3) := by decide +kernel
theorem dX3_endPart_87 : decode cX3_endPart 87 = .ok (.iload_n 2, 1) := by decide +kernel
theorem dX3_endPart_88 : decode cX3_endPart 88 = .ok (.ireturn, 1) := by decide +kernel
theorem dX3_playOpenNotes_0 : decode cX3_playOpenNotes 0 = .ok (.aload_n 0, 1) := by decide +kernel
theorem dX3_playOpenNotes_1 : decode cX3_playOpenNotes 1 = .ok (.getfield 54, 3) := by decide +kernel
theorem dX3_playOpenNotes_4 : decode cX3_playOpenNotes 4 = .ok (.istore_n 1, 1) := by decide +kernel
theorem dX3_playOpenNotes_5 : decode cX3_playOpenNotes 5 = .ok (.iload_n 1, 1) := by decide +kernel
theorem dX3_playOpenNotes_6 : decode cX3_playOpenNotes 6 = .ok (.aload_n 0, 1) := by decide +kernel
theorem dX3_playOpenNotes_7 : decode cX3_playOpenNotes 7 = .ok (.getfield 41, 3) := by decide +kernel
theorem dX3_playOpenNotes_10 : decode cX3_playOpenNotes 10 = .ok (.if_icmp .ge 41, 3) := by decide +kernel
theorem dX3_playOpenNotes_13 : decode cX3_playOpenNotes 13 = .ok (.aload_n 0, 1) := by decide +kernel
theorem dX3_playOpenNotes_14 : decode cX3_playOpenNotes 14 = .ok (.getfield 60, 3) := by decide +kernel
theorem dX3_playOpenNotes_17 : decode cX3_playOpenNotes 17 = .ok (.aload_n 0, 1) := by decide +kernel
theorem dX3_playOpenNotes_18 : decode cX3_playOpenNotes 18 = .ok (.getfield 31, 3) := by decide +kernel
theorem dX3_playOpenNotes_21 : decode cX3_playOpenNotes 21 = .ok (.arraylength, 1) := by decide +kernel
theorem dX3_playOpenNotes_22 : decode cX3_playOpenNotes 22 = .ok (.if_icmp .ge 29, 3) := by decide +kernel
theorem dX3_playOpenNotes_25 : decode cX3_playOpenNotes 25 = .ok (.aload_n 0, 1) := by decide +kernel
theorem dX3_playOpenNotes_26 : decode cX3_playOpenNotes 26 = .ok (.getfield 31, 3) := by decide +kernel
theorem dX3_playOpenNotes_29 : decode cX3_playOpenNotes 29 = .ok (.aload_n 0, 1) := by decide +kernel
theorem dX3_playOpenNotes_30 : decode cX3_playOpenNotes 30 = .ok (.getfield 60, 3) := by decide +kernel
theorem dX3_playOpenNotes_33 : decode cX3_playOpenNotes 33 = .ok (.iload_n 1, 1) := by decide +kernel
theorem dX3_playOpenNotes_34 : decode cX3_playOpenNotes 34 = .ok (.iastore, 1) := by decide +kernel
theorem dX3_playOpenNotes_35 : decode cX3_playOpenNotes 35 = .ok (.aload_n 0, 1) := by decide +kernel
theorem dX3_playOpenNotes_36 : decode cX3_playOpenNotes 36 = .ok (.dup, 1) := by decide +kernel
theorem dX3_playOpenNotes_37 : decode cX3_playOpenNotes 37 = .ok (.getfield 60, 3) := by decide +kernel
theorem dX3_playOpenNotes_40 : decode cX3_playOpenNotes 40 = .ok (.iconst 1, 1) := by decide +kernel
theorem dX3_playOpenNotes_41 : decode cX3_playOpenNotes 41 = .ok (.iadd, 1) := by decide +kernel
theorem dX3_playOpenNotes_42 : decode cX3_playOpenNotes 42 = .ok (.putfield 60, 3) := by decide +kernel
theorem dX3_playOpenNotes_45 : decode cX3_playOpenNotes 45 = .ok (.iinc 1 1, 3) := by decide +kernel
theorem dX3_playOpenNotes_48 : decode cX3_playOpenNotes 48 = .ok (.goto (-43), 3) := by decide +kernel
theorem dX3_playOpenNotes_51 : decode cX3_playOpenNotes 51 = .ok (.return_, 1) := by decide +kernel
theorem dX3_ofPlayed_0 : decode cX3_ofPlayed 0 = .ok (.iload_n 2, 1) := by decide +kernel
theorem dX3_ofPlayed_1 : decode cX3_ofPlayed 1 = .ok (.ifCond .lt 20, 3) := by decide +kernel
theorem dX3_ofPlayed_4 : decode cX3_ofPlayed 4 = .ok (.iload_n 2, 1) := by decide +kernel
theorem dX3_ofPlayed_5 : decode cX3_ofPlayed 5 = .ok (.aload_n 0, 1) := by decide +kernel
theorem dX3_ofPlayed_6 : decode cX3_ofPlayed 6 = .ok (.getfield 60, 3) := by decide +kernel
theorem dX3_ofPlayed_9 : decode cX3_ofPlayed 9 = .ok (.if_icmp .ge 12, 3) := by decide +kernel
theorem dX3_ofPlayed_12 : decode cX3_ofPlayed 12 = .ok (.iload_n 2, 1) := by decide +kernel
theorem dX3_ofPlayed_13 : decode cX3_ofPlayed 13 = .ok (.aload_n 0, 1) := by decide +kernel
theorem dX3_ofPlayed_14 : decode cX3_ofPlayed 14 = .ok (.getfield 31, 3) := by decide +kernel
theorem dX3_ofPlayed_17 : decode cX3_ofPlayed 17 = .ok (.arraylength, 1) := by decide +kernel
theorem dX3_ofPlayed_18 : decode cX3_ofPlayed 18 = .ok (.if_icmp .lt 5, 3) := by decide +kernel
theorem dX3_ofPlayed_21 : decode cX3_ofPlayed 21 = .ok (.iconst (-1), 1) := by decide +kernel
theorem dX3_ofPlayed_22 : decode cX3_ofPlayed 22 = .ok (.ireturn, 1) := by decide +kernel
theorem dX3_ofPlayed_23 : decode cX3_ofPlayed 23 = .ok (.aload_n 0, 1) := by decide +kernel
theorem dX3_ofPlayed_24 : decode cX3_ofPlayed 24 = .ok (.getfield 31, 3) := by decide +kernel
theorem dX3_ofPlayed_27 : decode cX3_ofPlayed 27 = .ok (.iload_n 2, 1) := by decide +kernel
theorem dX3_ofPlayed_28 : decode cX3_ofPlayed 28 = .ok (.iaload, 1) := by decide +kernel
theorem dX3_ofPlayed_29 : decode cX3_ofPlayed 29 = .ok (.istore_n 3, 1) := by decide +kernel
theorem dX3_ofPlayed_30 : decode cX3_ofPlayed 30 = .ok (.iload_n 3, 1) := by decide +kernel
theorem dX3_ofPlayed_31 : decode cX3_ofPlayed 31 = .ok (.ifCond .lt 15, 3) := by decide +kernel
theorem dX3_ofPlayed_34 : decode cX3_ofPlayed 34 = .ok (.iload_n 3, 1) := by decide +kernel
theorem dX3_ofPlayed_35 : decode cX3_ofPlayed 35 = .ok (.aload_n 1, 1) := by decide +kernel
theorem dX3_ofPlayed_36 : decode cX3_ofPlayed 36 = .ok (.arraylength, 1) := by decide +kernel
theorem dX3_ofPlayed_37 : decode cX3_ofPlayed 37 = .ok (.if_icmp .ge 9, 3) := by decide +kernel
theorem dX3_ofPlayed_40 : decode cX3_ofPlayed 40 = .ok (.aload_n 1, 1) := by decide +kernel
theorem dX3_ofPlayed_41 : decode cX3_ofPlayed 41 = .ok (.iload_n 3, 1) := by decide +kernel
theorem dX3_ofPlayed_42 : decode cX3_ofPlayed 42 = .ok (.iaload, 1) := by decide +kernel
theorem dX3_ofPlayed_43 : decode cX3_ofPlayed 43 = .ok (.goto 4, 3) := by decide +kernel
theorem dX3_ofPlayed_46 : decode cX3_ofPlayed 46 = .ok (.iconst (-1), 1) := by decide +kernel
theorem dX3_ofPlayed_47 : decode cX3_ofPlayed 47 = .ok (.ireturn, 1) := by decide +kernel
theorem dX3_heightAt_0 : decode cX3_heightAt 0 = .ok (.aload_n 0, 1) := by decide +kernel
theorem dX3_heightAt_1 : decode cX3_heightAt 1 = .ok (.aload_n 0, 1) := by decide +kernel
theorem dX3_heightAt_2 : decode cX3_heightAt 2 = .ok (.getfield 18, 3) := by decide +kernel
theorem dX3_heightAt_5 : decode cX3_heightAt 5 = .ok (.iload_n 1, 1) := by decide +kernel
theorem dX3_heightAt_6 : decode cX3_heightAt 6 = .ok (.invokevirtual 63, 3) := by decide +kernel
theorem dX3_heightAt_9 : decode cX3_heightAt 9 = .ok (.ireturn, 1) := by decide +kernel
theorem dX3_graceAt_0 : decode cX3_graceAt 0 = .ok (.aload_n 0, 1) := by decide +kernel
theorem dX3_graceAt_1 : decode cX3_graceAt 1 = .ok (.aload_n 0, 1) := by decide +kernel
theorem dX3_graceAt_2 : decode cX3_graceAt 2 = .ok (.getfield 25, 3) := by decide +kernel
theorem dX3_graceAt_5 : decode cX3_graceAt 5 = .ok (.iload_n 1, 1) := by decide +kernel
theorem dX3_graceAt_6 : decode cX3_graceAt 6 = .ok (.invokevirtual 63, 3) := by decide +kernel
theorem dX3_graceAt_9 : decode cX3_graceAt 9 = .ok (.ireturn, 1) := by decide +kernel
theorem dX3_unitsAhead_0 : decode cX3_unitsAhead 0 = .ok (.iconst 0, 1) := by decide +kernel
theorem dX3_unitsAhead_1 : decode cX3_unitsAhead 1 = .ok (.istore_n 2, 1) := by decide +kernel
theorem dX3_unitsAhead_2 : decode cX3_unitsAhead 2 = .ok (.iconst 0, 1) := by decide +kernel
theorem dX3_unitsAhead_3 : decode cX3_unitsAhead 3 = .ok (.istore_n 3, 1) := by decide +kernel
theorem dX3_unitsAhead_4 : decode cX3_unitsAhead 4 = .ok (.iload_n 3, 1) := by decide +kernel
theorem dX3_unitsAhead_5 : decode cX3_unitsAhead 5 = .ok (.iload_n 1, 1) := by decide +kernel
theorem dX3_unitsAhead_6 : decode cX3_unitsAhead 6 = .ok (.if_icmp .ge 29, 3) := by decide +kernel
theorem dX3_unitsAhead_9 : decode cX3_unitsAhead 9 = .ok (.iload_n 3, 1) := by decide +kernel
theorem dX3_unitsAhead_10 : decode cX3_unitsAhead 10 = .ok (.aload_n 0, 1) := by decide +kernel
theorem dX3_unitsAhead_11 : decode cX3_unitsAhead 11 = .ok (.getfield 60, 3) := by decide +kernel
theorem dX3_unitsAhead_14 : decode cX3_unitsAhead 14 = .ok (.if_icmp .ge 21, 3) := by decide +kernel
theorem dX3_unitsAhead_17 : decode cX3_unitsAhead 17 = .ok (.iload_n 2, 1) := by decide +kernel
theorem dX3_unitsAhead_18 : decode cX3_unitsAhead 18 = .ok (.aload_n 0, 1) := by decide +kernel
theorem dX3_unitsAhead_19 : decode cX3_unitsAhead 19 = .ok (.aload_n 0, 1) := by decide +kernel
theorem dX3_unitsAhead_20 : decode cX3_unitsAhead 20 = .ok (.getfield 22, 3) := by decide +kernel
theorem dX3_unitsAhead_23 : decode cX3_unitsAhead 23 = .ok (.iload_n 3, 1) := by decide +kernel
theorem dX3_unitsAhead_24 : decode cX3_unitsAhead 24 = .ok (.invokevirtual 63, 3) := by decide +kernel
theorem dX3_unitsAhead_27 : decode cX3_unitsAhead 27 = .ok (.iadd, 1) := by decide +kernel
theorem dX3_unitsAhead_28 : decode cX3_unitsAhead 28 = .ok (.istore_n 2, 1) := by decide +kernel
theorem dX3_unitsAhead_29 : decode cX3_unitsAhead 29 = .ok (.iinc 3 1, 3) := by decide +kernel
theorem dX3_unitsAhead_32 : decode cX3_unitsAhead 32 = .ok (.goto (-28), 3) := by decide +kernel
theorem dX3_unitsAhead_35 : decode cX3_unitsAhead 35 = .ok (.iload_n 2, 1) := by decide +kernel
theorem dX3_unitsAhead_36 : decode cX3_unitsAhead 36 = .ok (.ireturn, 1) := by decide +kernel
theorem dX3_unitsPlayed_0 : decode cX3_unitsPlayed 0 = .ok (.aload_n 0, 1) := by decide +kernel
theorem dX3_unitsPlayed_1 : decode cX3_unitsPlayed 1 = .ok (.aload_n 0, 1) := by decide +kernel
theorem dX3_unitsPlayed_2 : decode cX3_unitsPlayed 2 = .ok (.getfield 60, 3) := by decide +kernel
theorem dX3_unitsPlayed_5 : decode cX3_unitsPlayed 5 = .ok (.invokevirtual 67, 3) := by decide +kernel
theorem dX3_unitsPlayed_8 : decode cX3_unitsPlayed 8 = .ok (.ireturn, 1) := by decide +kernel
theorem dX3_tellPlayed_0 : decode cX3_tellPlayed 0 = .ok (.iload_n 2, 1) := by decide +kernel
theorem dX3_tellPlayed_1 : decode cX3_tellPlayed 1 = .ok (.tableswitch 59 0 3 #[31, 37, 47, 53], 31) := by decide +kernel
theorem dX3_tellPlayed_32 : decode cX3_tellPlayed 32 = .ok (.aload_n 0, 1) := by decide +kernel
theorem dX3_tellPlayed_33 : decode cX3_tellPlayed 33 = .ok (.iload_n 1, 1) := by decide +kernel
theorem dX3_tellPlayed_34 : decode cX3_tellPlayed 34 = .ok (.invokevirtual 71, 3) := by decide +kernel
theorem dX3_tellPlayed_37 : decode cX3_tellPlayed 37 = .ok (.ireturn, 1) := by decide +kernel
theorem dX3_tellPlayed_38 : decode cX3_tellPlayed 38 = .ok (.aload_n 0, 1) := by decide +kernel
theorem dX3_tellPlayed_39 : decode cX3_tellPlayed 39 = .ok (.aload_n 0, 1) := by decide +kernel
theorem dX3_tellPlayed_40 : decode cX3_tellPlayed 40 = .ok (.getfield 22, 3) := by decide +kernel
theorem dX3_tellPlayed_43 : decode cX3_tellPlayed 43 = .ok (.iload_n 1, 1) := by decide +kernel
theorem dX3_tellPlayed_44 : decode cX3_tellPlayed 44 = .ok (.invokevirtual 63, 3) := by decide +kernel
theorem dX3_tellPlayed_47 : decode cX3_tellPlayed 47 = .ok (.ireturn, 1) := by decide +kernel
theorem dX3_tellPlayed_48 : decode cX3_tellPlayed 48 = .ok (.aload_n 0, 1) := by decide +kernel
theorem dX3_tellPlayed_49 : decode cX3_tellPlayed 49 = .ok (.iload_n 1, 1) := by decide +kernel
theorem dX3_tellPlayed_50 : decode cX3_tellPlayed 50 = .ok (.invokevirtual 74, 3) := by decide +kernel
theorem dX3_tellPlayed_53 : decode cX3_tellPlayed 53 = .ok (.ireturn, 1) := by decide +kernel
theorem dX3_tellPlayed_54 : decode cX3_tellPlayed 54 = .ok (.aload_n 0, 1) := by decide +kernel
theorem dX3_tellPlayed_55 : decode cX3_tellPlayed 55 = .ok (.iload_n 1, 1) := by decide +kernel
theorem dX3_tellPlayed_56 : decode cX3_tellPlayed 56 = .ok (.invokevirtual 67, 3) := by decide +kernel
theorem dX3_tellPlayed_59 : decode cX3_tellPlayed 59 = .ok (.ireturn, 1) := by decide +kernel
theorem dX3_tellPlayed_60 : decode cX3_tellPlayed 60 = .ok (.aload_n 0, 1) := by decide +kernel
theorem dX3_tellPlayed_61 : decode cX3_tellPlayed 61 = .ok (.aload_n 0, 1) := by decide +kernel
theorem dX3_tellPlayed_62 : decode cX3_tellPlayed 62 = .ok (.getfield 28, 3) := by decide +kernel
theorem dX3_tellPlayed_65 : decode cX3_tellPlayed 65 = .ok (.iload_n 1, 1) := by decide +kernel
theorem dX3_tellPlayed_66 : decode cX3_tellPlayed 66 = .ok (.invokevirtual 63, 3) := by decide +kernel
theorem dX3_tellPlayed_69 : decode cX3_tellPlayed 69 = .ok (.ireturn, 1) := by decide +kernel
theorem dX3_tell_0 : decode cX3_tell 0 = .ok (.iload_n 1, 1) := by decide +kernel
theorem dX3_tell_1 : decode cX3_tell 1 = .ok (.tableswitch 69 0 5 #[39, 44, 49, 54, 59, 64], 39) := by decide +kernel
theorem dX3_tell_40 : decode cX3_tell 40 = .ok (.aload_n 0, 1) := by decide +kernel
theorem dX3_tell_41 : decode cX3_tell 41 = .ok (.getfield 15, 3) := by decide +kernel
theorem dX3_tell_44 : decode cX3_tell 44 = .ok (.ireturn, 1) := by decide +kernel
theorem dX3_tell_45 : decode cX3_tell 45 = .ok (.aload_n 0, 1) := by decide +kernel
theorem dX3_tell_46 : decode cX3_tell 46 = .ok (.getfield 60, 3) := by decide +kernel
theorem dX3_tell_49 : decode cX3_tell 49 = .ok (.ireturn, 1) := by decide +kernel
theorem dX3_tell_50 : decode cX3_tell 50 = .ok (.aload_n 0, 1) := by decide +kernel
theorem dX3_tell_51 : decode cX3_tell 51 = .ok (.invokevirtual 77, 3) := by decide +kernel
theorem dX3_tell_54 : decode cX3_tell 54 = .ok (.ireturn, 1) := by decide +kernel
theorem dX3_tell_55 : decode cX3_tell 55 = .ok (.aload_n 0, 1) := by decide +kernel
theorem dX3_tell_56 : decode cX3_tell 56 = .ok (.invokevirtual 80, 3) := by decide +kernel
theorem dX3_tell_59 : decode cX3_tell 59 = .ok (.ireturn, 1) := by decide +kernel
theorem dX3_tell_60 : decode cX3_tell 60 = .ok (.aload_n 0, 1) := by decide +kernel
theorem dX3_tell_61 : decode cX3_tell 61 = .ok (.invokevirtual 83, 3) := by decide +kernel
theorem dX3_tell_64 : decode cX3_tell 64 = .ok (.ireturn, 1) := by decide +kernel
theorem dX3_tell_65 : decode cX3_tell 65 = .ok (.aload_n 0, 1) := by decide +kernel
theorem dX3_tell_66 : decode cX3_tell 66 = .ok (.getfield 51, 3) := by decide +kernel
theorem dX3_tell_69 : decode cX3_tell 69 = .ok (.ireturn, 1) := by decide +kernel
theorem dX3_tell_70 : decode cX3_tell 70 = .ok (.aload_n 0, 1) := by decide +kernel
theorem dX3_tell_71 : decode cX3_tell 71 = .ok (.getfield 41, 3) := by decide +kernel
theorem dX3_tell_74 : decode cX3_tell 74 = .ok (.aload_n 0, 1) := by decide +kernel
theorem dX3_tell_75 : decode cX3_tell 75 = .ok (.getfield 54, 3) := by decide +kernel
theorem dX3_tell_78 : decode cX3_tell 78 = .ok (.isub, 1) := by decide +kernel
theorem dX3_tell_79 : decode cX3_tell 79 = .ok (.ireturn, 1) := by decide +kernel
theorem dX3_clashes_0 : decode cX3_clashes 0 = .ok (.iconst 0, 1) := by decide +kernel
theorem dX3_clashes_1 : decode cX3_clashes 1 = .ok (.istore_n 1, 1) := by decide +kernel
theorem dX3_clashes_2 : decode cX3_clashes 2 = .ok (.iconst 1, 1) := by decide +kernel
theorem dX3_clashes_3 : decode cX3_clashes 3 = .ok (.istore_n 2, 1) := by decide +kernel
theorem dX3_clashes_4 : decode cX3_clashes 4 = .ok (.iload_n 2, 1) := by decide +kernel
theorem dX3_clashes_5 : decode cX3_clashes 5 = .ok (.aload_n 0, 1) := by decide +kernel
theorem dX3_clashes_6 : decode cX3_clashes 6 = .ok (.getfield 60, 3) := by decide +kernel
theorem dX3_clashes_9 : decode cX3_clashes 9 = .ok (.if_icmp .ge 35, 3) := by decide +kernel
theorem dX3_clashes_12 : decode cX3_clashes 12 = .ok (.aload_n 0, 1) := by decide +kernel
theorem dX3_clashes_13 : decode cX3_clashes 13 = .ok (.iload_n 2, 1) := by decide +kernel
theorem dX3_clashes_14 : decode cX3_clashes 14 = .ok (.invokevirtual 74, 3) := by decide +kernel
theorem dX3_clashes_17 : decode cX3_clashes 17 = .ok (.ifCond .ne 21, 3) := by decide +kernel
theorem dX3_clashes_20 : decode cX3_clashes 20 = .ok (.aload_n 0, 1) := by decide +kernel
theorem dX3_clashes_21 : decode cX3_clashes 21 = .ok (.iload_n 2, 1) := by decide +kernel
theorem dX3_clashes_22 : decode cX3_clashes 22 = .ok (.invokevirtual 71, 3) := by decide +kernel
theorem dX3_clashes_25 : decode cX3_clashes 25 = .ok (.aload_n 0, 1) := by decide +kernel
theorem dX3_clashes_26 : decode cX3_clashes 26 = .ok (.iload_n 2, 1) := by decide +kernel
theorem dX3_clashes_27 : decode cX3_clashes 27 = .ok (.iconst 1, 1) := by decide +kernel
theorem dX3_clashes_28 : decode cX3_clashes 28 = .ok (.isub, 1) := by decide +kernel
theorem dX3_clashes_29 : decode cX3_clashes 29 = .ok (.invokevirtual 71, 3) := by decide +kernel
theorem dX3_clashes_32 : decode cX3_clashes 32 = .ok (.if_icmp .ne 6, 3) := by decide +kernel
theorem dX3_clashes_35 : decode cX3_clashes 35 = .ok (.iinc 1 1, 3) := by decide +kernel
theorem dX3_clashes_38 : decode cX3_clashes 38 = .ok (.iinc 2 1, 3) := by decide +kernel
theorem dX3_clashes_41 : decode cX3_clashes 41 = .ok (.goto (-37), 3) := by decide +kernel
theorem dX3_clashes_44 : decode cX3_clashes 44 = .ok (.iload_n 1, 1) := by decide +kernel
theorem dX3_clashes_45 : decode cX3_clashes 45 = .ok (.ireturn, 1) := by decide +kernel
theorem dX3_smallNotes_0 : decode cX3_smallNotes 0 = .ok (.iconst 0, 1) := by decide +kernel
theorem dX3_smallNotes_1 : decode cX3_smallNotes 1 = .ok (.istore_n 1, 1) := by decide +kernel
theorem dX3_smallNotes_2 : decode cX3_smallNotes 2 = .ok (.iconst 0, 1) := by decide +kernel
theorem dX3_smallNotes_3 : decode cX3_smallNotes 3 = .ok (.istore_n 2, 1) := by decide +kernel
theorem dX3_smallNotes_4 : decode cX3_smallNotes 4 = .ok (.iload_n 2, 1) := by decide +kernel
theorem dX3_smallNotes_5 : decode cX3_smallNotes 5 = .ok (.aload_n 0, 1) := by decide +kernel
theorem dX3_smallNotes_6 : decode cX3_smallNotes 6 = .ok (.getfield 60, 3) := by decide +kernel
theorem dX3_smallNotes_9 : decode cX3_smallNotes 9 = .ok (.if_icmp .ge 20, 3) := by decide +kernel
theorem dX3_smallNotes_12 : decode cX3_smallNotes 12 = .ok (.iload_n 1, 1) := by decide +kernel
theorem dX3_smallNotes_13 : decode cX3_smallNotes 13 = .ok (.aload_n 0, 1) := by decide +kernel
theorem dX3_smallNotes_14 : decode cX3_smallNotes 14 = .ok (.iload_n 2, 1) := by decide +kernel
theorem dX3_smallNotes_15 : decode cX3_smallNotes 15 = .ok (.invokevirtual 74, 3) := by decide +kernel
theorem dX3_smallNotes_18 : decode cX3_smallNotes 18 = .ok (.invokestatic 86, 3) := by decide +kernel
theorem dX3_smallNotes_21 : decode cX3_smallNotes 21 = .ok (.iadd, 1) := by decide +kernel
theorem dX3_smallNotes_22 : decode cX3_smallNotes 22 = .ok (.istore_n 1, 1) := by decide +kernel
theorem dX3_smallNotes_23 : decode cX3_smallNotes 23 = .ok (.iinc 2 1, 3) := by decide +kernel
theorem dX3_smallNotes_26 : decode cX3_smallNotes 26 = .ok (.goto (-22), 3) := by decide +kernel
theorem dX3_smallNotes_29 : decode cX3_smallNotes 29 = .ok (.iload_n 1, 1) := by decide +kernel
theorem dX3_smallNotes_30 : decode cX3_smallNotes 30 = .ok (.ireturn, 1) := by decide +kernel
theorem dX3_smallNotesOf_0 : decode cX3_smallNotesOf 0 = .ok (.iload_n 0, 1) := by decide +kernel
theorem dX3_smallNotesOf_1 : decode cX3_smallNotesOf 1 = .ok (.tableswitch 57 0 8 #[51, 57, 57, 57, 57, 53, 53, 53, 55], 51) := by decide +kernel
theorem dX3_smallNotesOf_52 : decode cX3_smallNotesOf 52 = .ok (.iconst 0, 1) := by decide +kernel
theorem dX3_smallNotesOf_53 : decode cX3_smallNotesOf 53 = .ok (.ireturn, 1) := by decide +kernel
theorem dX3_smallNotesOf_54 : decode cX3_smallNotesOf 54 = .ok (.iconst 3, 1) := by decide +kernel
theorem dX3_smallNotesOf_55 : decode cX3_smallNotesOf 55 = .ok (.ireturn, 1) := by decide +kernel
theorem dX3_smallNotesOf_56 : decode cX3_smallNotesOf 56 = .ok (.iconst 4, 1) := by decide +kernel
theorem dX3_smallNotesOf_57 : decode cX3_smallNotesOf 57 = .ok (.ireturn, 1) := by decide +kernel
theorem dX3_smallNotesOf_58 : decode cX3_smallNotesOf 58 = .ok (.iconst 1, 1) := by decide +kernel
theorem dX3_smallNotesOf_59 : decode cX3_smallNotesOf 59 = .ok (.ireturn, 1) := by decide +kernel
theorem dX3_likenessByShifts_0 : decode cX3_likenessByShifts 0 = .ok (.iconst 0, 1) := by decide +kernel
theorem dX3_likenessByShifts_1 : decode cX3_likenessByShifts 1 = .ok (.istore_n 2, 1) := by decide +kernel
theorem dX3_likenessByShifts_2 : decode cX3_likenessByShifts 2 = .ok (.iconst 1, 1) := by decide +kernel
theorem dX3_likenessByShifts_3 : decode cX3_likenessByShifts 3 = .ok (.aload_n 1, 1) := by decide +kernel
theorem dX3_likenessByShifts_4 : decode cX3_likenessByShifts 4 = .ok (.getfield 60, 3) := by decide +kernel
theorem dX3_likenessByShifts_7 : decode cX3_likenessByShifts 7 = .ok (.isub, 1) := by decide +kernel
theorem dX3_likenessByShifts_8 : decode cX3_likenessByShifts 8 = .ok (.istore_n 3, 1) := by decide +kernel
theorem dX3_likenessByShifts_9 : decode cX3_likenessByShifts 9 = .ok (.iload_n 3, 1) := by decide +kernel
theorem dX3_likenessByShifts_10 : decode cX3_likenessByShifts 10 = .ok (.aload_n 0, 1) := by decide +kernel
theorem dX3_likenessByShifts_11 : decode cX3_likenessByShifts 11 = .ok (.getfield 60, 3) := by decide +kernel
theorem dX3_likenessByShifts_14 : decode cX3_likenessByShifts 14 = .ok (.if_icmp .ge 79, 3) := by decide +kernel
theorem dX3_likenessByShifts_17 : decode cX3_likenessByShifts 17 = .ok (.iconst 0, 1) := by decide +kernel
theorem dX3_likenessByShifts_18 : decode cX3_likenessByShifts 18 = .ok (.istore 4, 2) := by decide +kernel
theorem dX3_likenessByShifts_20 : decode cX3_likenessByShifts 20 = .ok (.iconst 0, 1) := by decide +kernel
theorem dX3_likenessByShifts_21 : decode cX3_likenessByShifts 21 = .ok (.iload_n 3, 1) := by decide +kernel
theorem dX3_likenessByShifts_22 : decode cX3_likenessByShifts 22 = .ok (.invokestatic 89, 3) := by decide +kernel
theorem dX3_likenessByShifts_25 : decode cX3_likenessByShifts 25 = .ok (.istore 5, 2) := by decide +kernel
theorem dX3_likenessByShifts_27 : decode cX3_likenessByShifts 27 = .ok (.iload 5, 2) := by decide +kernel
theorem dX3_likenessByShifts_29 : decode cX3_likenessByShifts 29 = .ok (.aload_n 0, 1) := by decide +kernel
theorem dX3_likenessByShifts_30 : decode cX3_likenessByShifts 30 = .ok (.getfield 60, 3) := by decide +kernel
theorem dX3_likenessByShifts_33 : decode cX3_likenessByShifts 33 = .ok (.if_icmp .ge 54, 3) := by decide +kernel
theorem dX3_likenessByShifts_36 : decode cX3_likenessByShifts 36 = .ok (.iload 5, 2) := by decide +kernel
theorem dX3_likenessByShifts_38 : decode cX3_likenessByShifts 38 = .ok (.iload_n 3, 1) := by decide +kernel
theorem dX3_likenessByShifts_39 : decode cX3_likenessByShifts 39 = .ok (.isub, 1) := by decide +kernel
theorem dX3_likenessByShifts_40 : decode cX3_likenessByShifts 40 = .ok (.aload_n 1, 1) := by decide +kernel
theorem dX3_likenessByShifts_41 : decode cX3_likenessByShifts 41 = .ok (.getfield 60, 3) := by decide +kernel
theorem dX3_likenessByShifts_44 : decode cX3_likenessByShifts 44 = .ok (.if_icmp .ge 43, 3) := by decide +kernel
theorem dX3_likenessByShifts_47 : decode cX3_likenessByShifts 47 = .ok (.aload_n 0, 1) := by decide +kernel
theorem dX3_likenessByShifts_48 : decode cX3_likenessByShifts 48 = .ok (.iload 5, 2) := by decide +kernel
theorem dX3_likenessByShifts_50 : decode cX3_likenessByShifts 50 = .ok (.invokevirtual 71, 3) := by decide +kernel
theorem dX3_likenessByShifts_53 : decode cX3_likenessByShifts 53 = .ok (.aload_n 1, 1) := by decide +kernel
theorem dX3_likenessByShifts_54 : decode cX3_likenessByShifts 54 = .ok (.iload 5, 2) := by decide +kernel
theorem dX3_likenessByShifts_56 : decode cX3_likenessByShifts 56 = .ok (.iload_n 3, 1) := by decide +kernel
theorem dX3_likenessByShifts_57 : decode cX3_likenessByShifts 57 = .ok (.isub, 1) := by decide +kernel
theorem dX3_likenessByShifts_58 : decode cX3_likenessByShifts 58 = .ok (.invokevirtual 71, 3) := by decide +kernel
theorem dX3_likenessByShifts_61 : decode cX3_likenessByShifts 61 = .ok (.if_icmp .ne 10, 3) := by decide +kernel
theorem dX3_likenessByShifts_64 : decode cX3_likenessByShifts 64 = .ok (.iload 4, 2) := by decide +kernel
theorem dX3_likenessByShifts_66 : decode cX3_likenessByShifts 66 = .ok (.iconst 1, 1) := by decide +kernel
theorem dX3_likenessByShifts_67 : decode cX3_likenessByShifts 67 = .ok (.iadd, 1) := by decide +kernel
theorem dX3_likenessByShifts_68 : decode cX3_likenessByShifts 68 = .ok (.goto 4, 3) := by decide +kernel
theorem dX3_likenessByShifts_71 : decode cX3_likenessByShifts 71 = .ok (.iconst 0, 1) := by decide +kernel
theorem dX3_likenessByShifts_72 : decode cX3_likenessByShifts 72 = .ok (.istore 4, 2) := by decide +kernel
theorem dX3_likenessByShifts_74 : decode cX3_likenessByShifts 74 = .ok (.iload_n 2, 1) := by decide +kernel
theorem dX3_likenessByShifts_75 : decode cX3_likenessByShifts 75 = .ok (.iload 4, 2) := by decide +kernel
theorem dX3_likenessByShifts_77 : decode cX3_likenessByShifts 77 = .ok (.invokestatic 89, 3) := by decide +kernel
theorem dX3_likenessByShifts_80 : decode cX3_likenessByShifts 80 = .ok (.istore_n 2, 1) := by decide +kernel
theorem dX3_likenessByShifts_81 : decode cX3_likenessByShifts 81 = .ok (.iinc 5 1, 3) := by decide +kernel
theorem dX3_likenessByShifts_84 : decode cX3_likenessByShifts 84 = .ok (.goto (-57), 3) := by decide +kernel
theorem dX3_likenessByShifts_87 : decode cX3_likenessByShifts 87 = .ok (.iinc 3 1, 3) := by decide +kernel
theorem dX3_likenessByShifts_90 : decode cX3_likenessByShifts 90 = .ok (.goto (-81), 3) := by decide +kernel
theorem dX3_likenessByShifts_93 : decode cX3_likenessByShifts 93 = .ok (.iload_n 2, 1) := by decide +kernel
theorem dX3_likenessByShifts_94 : decode cX3_likenessByShifts 94 = .ok (.ireturn, 1) := by decide +kernel
theorem dX3_likenessByBeginnings_0 : decode cX3_likenessByBeginnings 0 = .ok (.iconst 0, 1) := by decide +kernel
theorem dX3_likenessByBeginnings_1 : decode cX3_likenessByBeginnings 1 = .ok (.istore_n 2, 1) := by decide +kernel
theorem dX3_likenessByBeginnings_2 : decode cX3_likenessByBeginnings 2 = .ok (.iconst 0, 1) := by decide +kernel
theorem dX3_likenessByBeginnings_3 : decode cX3_likenessByBeginnings 3 = .ok (.istore_n 3, 1) := by decide +kernel
theorem dX3_likenessByBeginnings_4 : decode cX3_likenessByBeginnings 4 = .ok (.iload_n 3, 1) := by decide +kernel
theorem dX3_likenessByBeginnings_5 : decode cX3_likenessByBeginnings 5 = .ok (.iload_n 2, 1) := by decide +kernel
theorem dX3_likenessByBeginnings_6 : decode cX3_likenessByBeginnings 6 = .ok (.iadd, 1) := by decide +kernel
theorem dX3_likenessByBeginnings_7 : decode cX3_likenessByBeginnings 7 = .ok (.aload_n 0, 1) := by decide +kernel
theorem dX3_likenessByBeginnings_8 : decode cX3_likenessByBeginnings 8 = .ok (.getfield 60, 3) := by decide +kernel
theorem dX3_likenessByBeginnings_11 : decode cX3_likenessByBeginnings 11 = .ok (.if_icmp .ge 42, 3) := by decide +kernel
theorem dX3_likenessByBeginnings_14 : decode cX3_likenessByBeginnings 14 = .ok (.iconst 0, 1) := by decide +kernel
theorem dX3_likenessByBeginnings_15 : decode cX3_likenessByBeginnings 15 = .ok (.istore 4, 2) := by decide +kernel
theorem dX3_likenessByBeginnings_17 : decode cX3_likenessByBeginnings 17 = .ok (.iload 4, 2) := by decide +kernel
theorem dX3_likenessByBeginnings_19 : decode cX3_likenessByBeginnings 19 = .ok (.iload_n 2, 1) := by decide +kernel
theorem dX3_likenessByBeginnings_20 : decode cX3_likenessByBeginnings 20 = .ok (.iadd, 1) := by decide +kernel
theorem dX3_likenessByBeginnings_21 : decode cX3_likenessByBeginnings 21 = .ok (.aload_n 1, 1) := by decide +kernel
theorem dX3_likenessByBeginnings_22 : decode cX3_likenessByBeginnings 22 = .ok (.getfield 60, 3) := by decide +kernel
theorem dX3_likenessByBeginnings_25 : decode cX3_likenessByBeginnings 25 = .ok (.if_icmp .ge 22, 3) := by decide +kernel
theorem dX3_likenessByBeginnings_28 : decode cX3_likenessByBeginnings 28 = .ok (.iload_n 2, 1) := by decide +kernel
theorem dX3_likenessByBeginnings_29 : decode cX3_likenessByBeginnings 29 = .ok (.aload_n 0, 1) := by decide +kernel
theorem dX3_likenessByBeginnings_30 : decode cX3_likenessByBeginnings 30 = .ok (.iload_n 3, 1) := by decide +kernel
theorem dX3_likenessByBeginnings_31 : decode cX3_likenessByBeginnings 31 = .ok (.aload_n 1, 1) := by decide +kernel
theorem dX3_likenessByBeginnings_32 : decode cX3_likenessByBeginnings 32 = .ok (.iload 4, 2) := by decide +kernel
theorem dX3_likenessByBeginnings_34 : decode cX3_likenessByBeginnings 34 = .ok (.invokevirtual 95, 3) := by decide +kernel
theorem dX3_likenessByBeginnings_37 : decode cX3_likenessByBeginnings 37 = .ok (.invokestatic 89, 3) := by decide +kernel
theorem dX3_likenessByBeginnings_40 : decode cX3_likenessByBeginnings 40 = .ok (.istore_n 2, 1) := by decide +kernel
theorem dX3_likenessByBeginnings_41 : decode cX3_likenessByBeginnings 41 = .ok (.iinc 4 1, 3) := by decide +kernel
theorem dX3_likenessByBeginnings_44 : decode cX3_likenessByBeginnings 44 = .ok (.goto (-27), 3) := by decide +kernel
theorem dX3_likenessByBeginnings_47 : decode cX3_likenessByBeginnings 47 = .ok (.iinc 3 1, 3) := by decide +kernel
theorem dX3_likenessByBeginnings_50 : decode cX3_likenessByBeginnings 50 = .ok (.goto (-46), 3) := by decide +kernel
theorem dX3_likenessByBeginnings_53 : decode cX3_likenessByBeginnings 53 = .ok (.iload_n 2, 1) := by decide +kernel
theorem dX3_likenessByBeginnings_54 : decode cX3_likenessByBeginnings 54 = .ok (.ireturn, 1) := by decide +kernel
theorem dX3_runFrom_0 : decode cX3_runFrom 0 = .ok (.iconst 0, 1) := by decide +kernel
theorem dX3_runFrom_1 : decode cX3_runFrom 1 = .ok (.istore 4, 2) := by decide +kernel
theorem dX3_runFrom_3 : decode cX3_runFrom 3 = .ok (.iload_n 1, 1) := by decide +kernel
theorem dX3_runFrom_4 : decode cX3_runFrom 4 = .ok (.iload 4, 2) := by decide +kernel
theorem dX3_runFrom_6 : decode cX3_runFrom 6 = .ok (.iadd, 1) := by decide +kernel
theorem dX3_runFrom_7 : decode cX3_runFrom 7 = .ok (.aload_n 0, 1) := by decide +kernel
theorem dX3_runFrom_8 : decode cX3_runFrom 8 = .ok (.getfield 60, 3) := by decide +kernel
theorem dX3_runFrom_11 : decode cX3_runFrom 11 = .ok (.if_icmp .ge 39, 3) := by decide +kernel
theorem dX3_runFrom_14 : decode cX3_runFrom 14 = .ok (.iload_n 3, 1) := by decide +kernel
theorem dX3_runFrom_15 : decode cX3_runFrom 15 = .ok (.iload 4, 2) := by decide +kernel
theorem dX3_runFrom_17 : decode cX3_runFrom 17 = .ok (.iadd, 1) := by decide +kernel
theorem dX3_runFrom_18 : decode cX3_runFrom 18 = .ok (.aload_n 2, 1) := by decide +kernel
theorem dX3_runFrom_19 : decode cX3_runFrom 19 = .ok (.getfield 60, 3) := by decide +kernel
theorem dX3_runFrom_22 : decode cX3_runFrom 22 = .ok (.if_icmp .ge 28, 3) := by decide +kernel
theorem dX3_runFrom_25 : decode cX3_runFrom 25 = .ok (.aload_n 0, 1) := by decide +kernel
theorem dX3_runFrom_26 : decode cX3_runFrom 26 = .ok (.iload_n 1, 1) := by decide +kernel
theorem dX3_runFrom_27 : decode cX3_runFrom 27 = .ok (.iload 4, 2) := by decide +kernel
theorem dX3_runFrom_29 : decode cX3_runFrom 29 = .ok (.iadd, 1) := by decide +kernel
theorem dX3_runFrom_30 : decode cX3_runFrom 30 = .ok (.invokevirtual 71, 3) := by decide +kernel
theorem dX3_runFrom_33 : decode cX3_runFrom 33 = .ok (.aload_n 2, 1) := by decide +kernel
theorem dX3_runFrom_34 : decode cX3_runFrom 34 = .ok (.iload_n 3, 1) := by decide +kernel
theorem dX3_runFrom_35 : decode cX3_runFrom 35 = .ok (.iload 4, 2) := by decide +kernel
theorem dX3_runFrom_37 : decode cX3_runFrom 37 = .ok (.iadd, 1) := by decide +kernel
theorem dX3_runFrom_38 : decode cX3_runFrom 38 = .ok (.invokevirtual 71, 3) := by decide +kernel
theorem dX3_runFrom_41 : decode cX3_runFrom 41 = .ok (.if_icmp .ne 9, 3) := by decide +kernel
theorem dX3_runFrom_44 : decode cX3_runFrom 44 = .ok (.iinc 4 1, 3) := by decide +kernel
theorem dX3_runFrom_47 : decode cX3_runFrom 47 = .ok (.goto (-44), 3) := by decide +kernel
theorem dX3_runFrom_50 : decode cX3_runFrom 50 = .ok (.iload 4, 2) := by decide +kernel
theorem dX3_runFrom_52 : decode cX3_runFrom 52 = .ok (.ireturn, 1) := by decide +kernel
theorem dX4_init_0 : decode cX4_init 0 = .ok (.aload_n 0, 1) := by decide +kernel
theorem dX4_init_1 : decode cX4_init 1 = .ok (.invokespecial 1, 3) := by decide +kernel
theorem dX4_init_4 : decode cX4_init 4 = .ok (.aload_n 0, 1) := by decide +kernel
theorem dX4_init_5 : decode cX4_init 5 = .ok (.new 7, 3) := by decide +kernel
theorem dX4_init_8 : decode cX4_init 8 = .ok (.dup, 1) := by decide +kernel
theorem dX4_init_9 : decode cX4_init 9 = .ok (.invokespecial 9, 3) := by decide +kernel
theorem dX4_init_12 : decode cX4_init 12 = .ok (.putfield 10, 3) := by decide +kernel
theorem dX4_init_15 : decode cX4_init 15 = .ok (.aload_n 0, 1) := by decide +kernel
theorem dX4_init_16 : decode cX4_init 16 = .ok (.new 7, 3) := by decide +kernel
theorem dX4_init_19 : decode cX4_init 19 = .ok (.dup, 1) := by decide +kernel
theorem dX4_init_20 : decode cX4_init 20 = .ok (.invokespecial 9, 3) := by decide +kernel
theorem dX4_init_23 : decode cX4_init 23 = .ok (.putfield 16, 3) := by decide +kernel
theorem dX4_init_26 : decode cX4_init 26 = .ok (.aload_n 0, 1) := by decide +kernel
theorem dX4_init_27 : decode cX4_init 27 = .ok (.bipush 8, 2) := by decide +kernel
theorem dX4_init_29 : decode cX4_init 29 = .ok (.newarray .int, 2) := by decide +kernel
theorem dX4_init_31 : decode cX4_init 31 = .ok (.putfield 19, 3) := by decide +kernel
theorem dX4_init_34 : decode cX4_init 34 = .ok (.aload_n 0, 1) := by decide +kernel
theorem dX4_init_35 : decode cX4_init 35 = .ok (.new 7, 3) := by decide +kernel
theorem dX4_init_38 : decode cX4_init 38 = .ok (.dup, 1) := by decide +kernel
theorem dX4_init_39 : decode cX4_init 39 = .ok (.invokespecial 9, 3) := by decide +kernel
theorem dX4_init_42 : decode cX4_init 42 = .ok (.putfield 23, 3) := by decide +kernel
theorem dX4_init_45 : decode cX4_init 45 = .ok (.aload_n 0, 1) := by decide +kernel
theorem dX4_init_46 : decode cX4_init 46 = .ok (.new 26, 3) := by decide +kernel
theorem dX4_init_49 : decode cX4_init 49 = .ok (.dup, 1) := by decide +kernel
theorem dX4_init_50 : decode cX4_init 50 = .ok (.iconst 0, 1) := by decide +kernel
theorem dX4_init_51 : decode cX4_init 51 = .ok (.iconst 0, 1) := by decide +kernel
theorem dX4_init_52 : decode cX4_init 52 = .ok (.iconst 0, 1) := by decide +kernel
theorem dX4_init_53 : decode cX4_init 53 = .ok (.invokespecial 28, 3) := by decide +kernel
theorem dX4_init_56 : decode cX4_init 56 = .ok (.putfield 31, 3) := by decide +kernel
theorem dX4_init_59 : decode cX4_init 59 = .ok (.aload_n 0, 1) := by decide +kernel
theorem dX4_init_60 : decode cX4_init 60 = .ok (.new 35, 3) := by decide +kernel
theorem dX4_init_63 : decode cX4_init 63 = .ok (.dup, 1) := by decide +kernel
theorem dX4_init_64 : decode cX4_init 64 = .ok (.invokespecial 37, 3) := by decide +kernel
theorem dX4_init_67 : decode cX4_init 67 = .ok (.putfield 38, 3) := by decide +kernel
theorem dX4_init_70 : decode cX4_init 70 = .ok (.aload_n 0, 1) := by decide +kernel
theorem dX4_init_71 : decode cX4_init 71 = .ok (.new 7, 3) := by decide +kernel
theorem dX4_init_74 : decode cX4_init 74 = .ok (.dup, 1) := by decide +kernel
theorem dX4_init_75 : decode cX4_init 75 = .ok (.invokespecial 9, 3) := by decide +kernel
theorem dX4_init_78 : decode cX4_init 78 = .ok (.putfield 42, 3) := by decide +kernel
theorem dX4_init_81 : decode cX4_init 81 = .ok (.aload_n 0, 1) := by decide +kernel
theorem dX4_init_82 : decode cX4_init 82 = .ok (.iconst 0, 1) := by decide +kernel
theorem dX4_init_83 : decode cX4_init 83 = .ok (.putfield 45, 3) := by decide +kernel
theorem dX4_init_86 : decode cX4_init 86 = .ok (.aload_n 0, 1) := by decide +kernel
theorem dX4_init_87 : decode cX4_init 87 = .ok (.iconst 0, 1) := by decide +kernel
theorem dX4_init_88 : decode cX4_init 88 = .ok (.putfield 49, 3) := by decide +kernel
theorem dX4_init_91 : decode cX4_init 91 = .ok (.return_, 1) := by decide +kernel
theorem dX4_tune_0 : decode cX4_tune 0 = .ok (.iload_n 1, 1) := by decide +kernel
theorem dX4_tune_1 : decode cX4_tune 1 = .ok (.iconst 0, 1) := by decide +kernel
theorem dX4_tune_2 : decode cX4_tune 2 = .ok (.iconst 3, 1) := by decide +kernel
theorem dX4_tune_3 : decode cX4_tune 3 = .ok (.invokestatic 53, 3) := by decide +kernel
theorem dX4_tune_6 : decode cX4_tune 6 = .ok (.ifCond .ne 13, 3) := by decide +kernel
theorem dX4_tune_9 : decode cX4_tune 9 = .ok (.new 57, 3) := by decide +kernel
theorem dX4_tune_12 : decode cX4_tune 12 = .ok (.dup, 1) := by decide +kernel
theorem dX4_tune_13 : decode cX4_tune 13 = .ok (.ldc 59, 2) := by decide +kernel
theorem dX4_tune_15 : decode cX4_tune 15 = .ok (.invokespecial 61, 3) := by decide +kernel
theorem dX4_tune_18 : decode cX4_tune 18 = .ok (.athrow, 1) := by decide +kernel
theorem dX4_tune_19 : decode cX4_tune 19 = .ok (.aload_n 0, 1) := by decide +kernel
theorem dX4_tune_20 : decode cX4_tune 20 = .ok (.getfield 10, 3) := by decide +kernel
theorem dX4_tune_23 : decode cX4_tune 23 = .ok (.invokevirtual 64, 3) := by decide +kernel
theorem dX4_tune_26 : decode cX4_tune 26 = .ok (.bipush 10, 2) := by decide +kernel
theorem dX4_tune_28 : decode cX4_tune 28 = .ok (.if_icmp .lt 13, 3) := by decide +kernel
theorem dX4_tune_31 : decode cX4_tune 31 = .ok (.new 68, 3) := by decide +kernel
theorem dX4_tune_34 : decode cX4_tune 34 = .ok (.dup, 1) := by decide +kernel
theorem dX4_tune_35 : decode cX4_tune 35 = .ok (.ldc 70, 2) := by decide +kernel
theorem dX4_tune_37 : decode cX4_tune 37 = .ok (.invokespecial 72, 3) := by decide +kernel
theorem dX4_tune_40 : decode cX4_tune 40 = .ok (.athrow, 1) := by decide +kernel
theorem dX4_tune_41 : decode cX4_tune 41 = .ok (.aload_n 0, 1) := by decide +kernel
theorem dX4_tune_42 : decode cX4_tune 42 = .ok (.getfield 10, 3) := by decide +kernel
theorem dX4_tune_45 : decode cX4_tune 45 = .ok (.invokevirtual 64, 3) := by decide +kernel
theorem dX4_tune_48 : decode cX4_tune 48 = .ok (.istore_n 2, 1) := by decide +kernel
theorem dX4_tune_49 : decode cX4_tune 49 = .ok (.aload_n 0, 1) := by decide +kernel
theorem dX4_tune_50 : decode cX4_tune 50 = .ok (.getfield 10, 3) := by decide +kernel
theorem dX4_tune_53 : decode cX4_tune 53 = .ok (.new 73, 3) := by decide +kernel
theorem dX4_tune_56 : decode cX4_tune 56 = .ok (.dup, 1) := by decide +kernel
theorem dX4_tune_57 : decode cX4_tune 57 = .ok (.iload_n 2, 1) := by decide +kernel
theorem dX4_tune_58 : decode cX4_tune 58 = .ok (.iload_n 1, 1) := by decide +kernel
theorem dX4_tune_59 : decode cX4_tune 59 = .ok (.invokespecial 75, 3) := by decide +kernel
theorem dX4_tune_62 : decode cX4_tune 62 = .ok (.invokevirtual 78, 3) := by decide +kernel
theorem dX4_tune_65 : decode cX4_tune 65 = .ok (.pop, 1) := by decide +kernel
theorem dX4_tune_66 : decode cX4_tune 66 = .ok (.iload_n 2, 1) := by decide +kernel
theorem dX4_tune_67 : decode cX4_tune 67 = .ok (.ireturn, 1) := by decide +kernel
theorem dX4_note_0 : decode cX4_note 0 = .ok (.aload_n 0, 1) := by decide +kernel
theorem dX4_note_1 : decode cX4_note 1 = .ok (.iload_n 1, 1) := by decide +kernel
theorem dX4_note_2 : decode cX4_note 2 = .ok (.invokevirtual 82, 3) := by decide +kernel
theorem dX4_note_5 : decode cX4_note 5 = .ok (.astore 5, 2) := by decide +kernel
theorem dX4_note_7 : decode cX4_note 7 = .ok (.iload_n 2, 1) := by decide +kernel
theorem dX4_note_8 : decode cX4_note 8 = .ok (.iconst 0, 1) := by decide +kernel
theorem dX4_note_9 : decode cX4_note 9 = .ok (.bipush 8, 2) := by decide +kernel
theorem dX4_note_11 : decode cX4_note 11 = .ok (.invokestatic 53, 3) := by decide +kernel
theorem dX4_note_14 : decode cX4_note 14 = .ok (.ifCond .eq 24, 3) := by decide +kernel
theorem dX4_note_17 : decode cX4_note 17 = .ok (.iload_n 3, 1) := by decide +kernel
theorem dX4_note_18 : decode cX4_note 18 = .ok (.iconst 1, 1) := by decide +kernel
theorem dX4_note_19 : decode cX4_note 19 = .ok (.bipush 16, 2) := by decide +kernel
theorem dX4_note_21 : decode cX4_note 21 = .ok (.invokestatic 53, 3) := by decide +kernel
theorem dX4_note_24 : decode cX4_note 24 = .ok (.ifCond .eq 14, 3) := by decide +kernel
theorem dX4_note_27 : decode cX4_note 27 = .ok (.iload 4, 2) := by decide +kernel
theorem dX4_note_29 : decode cX4_note 29 = .ok (.iconst 0, 1) := by decide +kernel
theorem dX4_note_30 : decode cX4_note 30 = .ok (.bipush 8, 2) := by decide +kernel
theorem dX4_note_32 : decode cX4_note 32 = .ok (.invokestatic 53, 3) := by decide +kernel
theorem dX4_note_35 : decode cX4_note 35 = .ok (.ifCond .ne 13, 3) := by decide +kernel
theorem dX4_note_38 : decode cX4_note 38 = .ok (.new 57, 3) := by decide +kernel
theorem dX4_note_41 : decode cX4_note 41 = .ok (.dup, 1) := by decide +kernel
theorem dX4_note_42 : decode cX4_note 42 = .ok (.ldc 86, 2) := by decide +kernel
theorem dX4_note_44 : decode cX4_note 44 = .ok (.invokespecial 61, 3) := by decide +kernel
theorem dX4_note_47 : decode cX4_note 47 = .ok (.athrow, 1) := by decide +kernel
theorem dX4_note_48 : decode cX4_note 48 = .ok (.aload 5, 2) := by decide +kernel
theorem dX4_note_50 : decode cX4_note 50 = .ok (.iload_n 2, 1) := by decide +kernel
theorem dX4_note_51 : decode cX4_note 51 = .ok (.iload_n 3, 1) := by decide +kernel
theorem dX4_note_52 : decode cX4_note 52 = .ok (.iload 4, 2) := by decide +kernel
theorem dX4_note_54 : decode cX4_note 54 = .ok (.invokevirtual 88, 3) := by decide +kernel
theorem dX4_note_57 : decode cX4_note 57 = .ok (.ifCond .ne 13, 3) := by decide +kernel
theorem dX4_note_60 : decode cX4_note 60 = .ok (.new 68, 3) := by decide +kernel
theorem dX4_note_63 : decode cX4_note 63 = .ok (.dup, 1) := by decide +kernel
theorem dX4_note_64 : decode cX4_note 64 = .ok (.ldc 91, 2) := by decide +kernel
theorem dX4_note_66 : decode cX4_note 66 = .ok (.invokespecial 72, 3) := by decide +kernel
theorem dX4_note_69 : decode cX4_note 69 = .ok (.athrow, 1) := by decide +kernel
theorem dX4_note_70 : decode cX4_note 70 = .ok (.aload 5, 2) := by decide +kernel
theorem dX4_note_72 : decode cX4_note 72 = .ok (.iload_n 2, 1) := by decide +kernel
theorem dX4_note_73 : decode cX4_note 73 = .ok (.iload_n 3, 1) := by decide +kernel
theorem dX4_note_74 : decode cX4_note 74 = .ok (.iload 4, 2) := by decide +kernel
theorem dX4_note_76 : decode cX4_note 76 = .ok (.invokevirtual 93, 3) := by decide +kernel
theorem dX4_note_79 : decode cX4_note 79 = .ok (.ireturn, 1) := by decide +kernel
theorem dX4_part_0 : decode cX4_part 0 = .ok (.aload_n 0, 1) := by decide +kernel
theorem dX4_part_1 : decode cX4_part 1 = .ok (.iload_n 1, 1) := by decide +kernel
theorem dX4_part_2 : decode cX4_part 2 = .ok (.invokevirtual 82, 3) := by decide +kernel
theorem dX4_part_5 : decode cX4_part 5 = .ok (.astore_n 3, 1) := by decide +kernel
theorem dX4_part_6 : decode cX4_part 6 = .ok (.aload_n 3, 1) := by decide +kernel
theorem dX4_part_7 : decode cX4_part 7 = .ok (.invokevirtual 97, 3) := by decide +kernel
theorem dX4_part_10 : decode cX4_part 10 = .ok (.ifCond .ne 13, 3) := by decide +kernel
theorem dX4_part_13 : decode cX4_part 13 = .ok (.new 68, 3) := by decide +kernel
theorem dX4_part_16 : decode cX4_part 16 = .ok (.dup, 1) := by decide +kernel
theorem dX4_part_17 : decode cX4_part 17 = .ok (.ldc 101, 2) := by decide +kernel
theorem dX4_part_19 : decode cX4_part 19 = .ok (.invokespecial 72, 3) := by decide +kernel
theorem dX4_part_22 : decode cX4_part 22 = .ok (.athrow, 1) := by decide +kernel
theorem dX4_part_23 : decode cX4_part 23 = .ok (.aload_n 3, 1) := by decide +kernel
theorem dX4_part_24 : decode cX4_part 24 = .ok (.iload_n 2, 1) := by decide +kernel
theorem dX4_part_25 : decode cX4_part 25 = .ok (.invokevirtual 103, 3) := by decide +kernel
theorem dX4_part_28 : decode cX4_part 28 = .ok (.ireturn, 1) := by decide +kernel
theorem dX4_played_0 : decode cX4_played 0 = .ok (.aload_n 0, 1) := by decide +kernel
theorem dX4_played_1 : decode cX4_played 1 = .ok (.iload_n 1, 1) := by decide +kernel
theorem dX4_played_2 : decode cX4_played 2 = .ok (.invokevirtual 82, 3) := by decide +kernel
theorem dX4_played_5 : decode cX4_played 5 = .ok (.astore 4, 2) := by decide +kernel
theorem dX4_played_7 : decode cX4_played 7 = .ok (.iload_n 2, 1) := by decide +kernel
theorem dX4_played_8 : decode cX4_played 8 = .ok (.ifCond .lt 12, 3) := by decide +kernel
theorem dX4_played_11 : decode cX4_played 11 = .ok (.iload_n 2, 1) := by decide +kernel
theorem dX4_played_12 : decode cX4_played 12 = .ok (.aload 4, 2) := by decide +kernel
theorem dX4_played_14 : decode cX4_played 14 = .ok (.getfield 107, 3) := by decide +kernel
theorem dX4_played_17 : decode cX4_played 17 = .ok (.if_icmp .lt 13, 3) := by decide +kernel
theorem dX4_played_20 : decode cX4_played 20 = .ok (.new 110, 3) := by decide +kernel
theorem dX4_played_23 : decode cX4_played 23 = .ok (.dup, 1) := by decide +kernel
theorem dX4_played_24 : decode cX4_played 24 = .ok (.ldc 112, 2) := by decide +kernel
theorem dX4_played_26 : decode cX4_played 26 = .ok (.invokespecial 114, 3) := by decide +kernel
theorem dX4_played_29 : decode cX4_played 29 = .ok (.athrow, 1) := by decide +kernel
theorem dX4_played_30 : decode cX4_played 30 = .ok (.iload_n 3, 1) := by decide +kernel
theorem dX4_played_31 : decode cX4_played 31 = .ok (.iconst 0, 1) := by decide +kernel
theorem dX4_played_32 : decode cX4_played 32 = .ok (.iconst 4, 1) := by decide +kernel
theorem dX4_played_33 : decode cX4_played 33 = .ok (.invokestatic 53, 3) := by decide +kernel
theorem dX4_played_36 : decode cX4_played 36 = .ok (.ifCond .ne 13, 3) := by decide +kernel
theorem dX4_played_39 : decode cX4_played 39 = .ok (.new 57, 3) := by decide +kernel
theorem dX4_played_42 : decode cX4_played 42 = .ok (.dup, 1) := by decide +kernel
theorem dX4_played_43 : decode cX4_played 43 = .ok (.ldc 115, 2) := by decide +kernel
theorem dX4_played_45 : decode cX4_played 45 = .ok (.invokespecial 61, 3) := by decide +kernel
theorem dX4_played_48 : decode cX4_played 48 = .ok (.athrow, 1) := by decide +kernel
theorem dX4_played_49 : decode cX4_played 49 = .ok (.aload 4, 2) := by decide +kernel
theorem dX4_played_51 : decode cX4_played 51 = .ok (.iload_n 2, 1) := by decide +kernel
theorem dX4_played_52 : decode cX4_played 52 = .ok (.iload_n 3, 1) := by decide +kernel
theorem dX4_played_53 : decode cX4_played 53 = .ok (.invokevirtual 117, 3) := by decide +kernel
theorem dX4_played_56 : decode cX4_played 56 = .ok (.ireturn, 1) := by decide +kernel
theorem dX4_ofTune_0 : decode cX4_ofTune 0 = .ok (.aload_n 0, 1) := by decide +kernel
theorem dX4_ofTune_1 : decode cX4_ofTune 1 = .ok (.iload_n 1, 1) := by decide +kernel
theorem dX4_ofTune_2 : decode cX4_ofTune 2 = .ok (.invokevirtual 82, 3) := by decide +kernel
theorem dX4_ofTune_5 : decode cX4_ofTune 5 = .ok (.astore_n 3, 1) := by decide +kernel
theorem dX4_ofTune_6 : decode cX4_ofTune 6 = .ok (.iload_n 2, 1) := by decide +kernel
theorem dX4_ofTune_7 : decode cX4_ofTune 7 = .ok (.iconst 0, 1) := by decide +kernel
theorem dX4_ofTune_8 : decode cX4_ofTune 8 = .ok (.bipush 6, 2) := by decide +kernel
theorem dX4_ofTune_10 : decode cX4_ofTune 10 = .ok (.invokestatic 53, 3) := by decide +kernel
theorem dX4_ofTune_13 : decode cX4_ofTune 13 = .ok (.ifCond .ne 13, 3) := by decide +kernel
theorem dX4_ofTune_16 : decode cX4_ofTune 16 = .ok (.new 57, 3) := by decide +kernel
theorem dX4_ofTune_19 : decode cX4_ofTune 19 = .ok (.dup, 1) := by decide +kernel
theorem dX4_ofTune_20 : decode cX4_ofTune 20 = .ok (.ldc 115, 2) := by decide +kernel
theorem dX4_ofTune_22 : decode cX4_ofTune 22 = .ok (.invokespecial 61, 3) := by decide +kernel
theorem dX4_ofTune_25 : decode cX4_ofTune 25 = .ok (.athrow, 1) := by decide +kernel
theorem dX4_ofTune_26 : decode cX4_ofTune 26 = .ok (.aload_n 3, 1) := by decide +kernel
theorem dX4_ofTune_27 : decode cX4_ofTune 27 = .ok (.iload_n 2, 1) := by decide +kernel
theorem dX4_ofTune_28 : decode cX4_ofTune 28 = .ok (.invokevirtual 121, 3) := by decide +kernel
theorem dX4_ofTune_31 : decode cX4_ofTune 31 = .ok (.ireturn, 1) := by decide +kernel
theorem dX4_alike_0 : decode cX4_alike 0 = .ok (.aload_n 0, 1) := by decide +kernel
theorem dX4_alike_1 : decode cX4_alike 1 = .ok (.iload_n 1, 1) := by decide +kernel
theorem dX4_alike_2 : decode cX4_alike 2 = .ok (.invokevirtual 82, 3) := by decide +kernel
theorem dX4_alike_5 : decode cX4_alike 5 = .ok (.astore_n 3, 1) := by decide +kernel
theorem dX4_alike_6 : decode cX4_alike 6 = .ok (.aload_n 3, 1) := by decide +kernel
theorem dX4_alike_7 : decode cX4_alike 7 = .ok (.aload_n 0, 1) := by decide +kernel
theorem dX4_alike_8 : decode cX4_alike 8 = .ok (.iload_n 2, 1) := by decide +kernel
theorem dX4_alike_9 : decode cX4_alike 9 = .ok (.invokevirtual 82, 3) := by decide +kernel
theorem dX4_alike_12 : decode cX4_alike 12 = .ok (.invokevirtual 125, 3) := by decide +kernel
theorem dX4_alike_15 : decode cX4_alike 15 = .ok (.ireturn, 1) := by decide +kernel
theorem dX4_alikeAnew_0 : decode cX4_alikeAnew 0 = .ok (.aload_n 0, 1) := by decide +kernel
theorem dX4_alikeAnew_1 : decode cX4_alikeAnew 1 = .ok (.iload_n 1, 1) := by decide +kernel
theorem dX4_alikeAnew_2 : decode cX4_alikeAnew 2 = .ok (.invokevirtual 82, 3) := by decide +kernel
theorem dX4_alikeAnew_5 : decode cX4_alikeAnew 5 = .ok (.astore_n 3, 1) := by decide +kernel
theorem dX4_alikeAnew_6 : decode cX4_alikeAnew 6 = .ok (.aload_n 3, 1) := by decide +kernel
theorem dX4_alikeAnew_7 : decode cX4_alikeAnew 7 = .ok (.aload_n 0, 1) := by decide +kernel
theorem dX4_alikeAnew_8 : decode cX4_alikeAnew 8 = .ok (.iload_n 2, 1) := by decide +kernel
theorem dX4_alikeAnew_9 : decode cX4_alikeAnew 9 = .ok (.invokevirtual 82, 3) := by decide +kernel
theorem dX4_alikeAnew_12 : decode cX4_alikeAnew 12 = .ok (.invokevirtual 129, 3) := by decide +kernel
theorem dX4_alikeAnew_15 : decode cX4_alikeAnew 15 = .ok (.ireturn, 1) := by decide +kernel
theorem dX4_tuneOfNumber_0 : decode cX4_tuneOfNumber 0 = .ok (.iload_n 1, 1) := by decide +kernel
theorem dX4_tuneOfNumber_1 : decode cX4_tuneOfNumber 1 = .ok (.ifCond .lt 14, 3) := by decide +kernel
theorem dX4_tuneOfNumber_4 : decode cX4_tuneOfNumber 4 = .ok (.iload_n 1, 1) := by decide +kernel
theorem dX4_tuneOfNumber_5 : decode cX4_tuneOfNumber 5 = .ok (.aload_n 0, 1) := by decide +kernel
theorem dX4_tuneOfNumber_6 : decode cX4_tuneOfNumber 6 = .ok (.getfield 10, 3) := by decide +kernel
theorem dX4_tuneOfNumber_9 : decode cX4_tuneOfNumber 9 = .ok (.invokevirtual 64, 3) := by decide +kernel
theorem dX4_tuneOfNumber_12 : decode cX4_tuneOfNumber 12 = .ok (.if_icmp .lt 13, 3) := by decide +kernel
theorem dX4_tuneOfNumber_15 : decode cX4_tuneOfNumber 15 = .ok (.new 110, 3) := by decide +kernel
theorem dX4_tuneOfNumber_18 : decode cX4_tuneOfNumber 18 = .ok (.dup, 1) := by decide +kernel
theorem dX4_tuneOfNumber_19 : decode cX4_tuneOfNumber 19 = .ok (.ldc 132, 2) := by decide +kernel
theorem dX4_tuneOfNumber_21 : decode cX4_tuneOfNumber 21 = .ok (.invokespecial 114, 3) := by decide +kernel
theorem dX4_tuneOfNumber_24 : decode cX4_tuneOfNumber 24 = .ok (.athrow, 1) := by decide +kernel
theorem dX4_tuneOfNumber_25 : decode cX4_tuneOfNumber 25 = .ok (.aload_n 0, 1) := by decide +kernel
theorem dX4_tuneOfNumber_26 : decode cX4_tuneOfNumber 26 = .ok (.getfield 10, 3) := by decide +kernel
theorem dX4_tuneOfNumber_29 : decode cX4_tuneOfNumber 29 = .ok (.iload_n 1, 1) := by decide +kernel
theorem dX4_tuneOfNumber_30 : decode cX4_tuneOfNumber 30 = .ok (.invokevirtual 134, 3) := by decide +kernel
theorem dX4_tuneOfNumber_33 : decode cX4_tuneOfNumber 33 = .ok (.checkcast 73, 3) := by decide +kernel
theorem dX4_tuneOfNumber_36 : decode cX4_tuneOfNumber 36 = .ok (.areturn, 1) := by decide +kernel
theorem dX4_follow_0 : decode cX4_follow 0 = .ok (.aload_n 0, 1) := by decide +kernel
theorem dX4_follow_1 : decode cX4_follow 1 = .ok (.iload_n 1, 1) := by decide +kernel
theorem dX4_follow_2 : decode cX4_follow 2 = .ok (.invokevirtual 82, 3) := by decide +kernel
theorem dX4_follow_5 : decode cX4_follow 5 = .ok (.astore_n 3, 1) := by decide +kernel
theorem dX4_follow_6 : decode cX4_follow 6 = .ok (.iload_n 2, 1) := by decide +kernel
theorem dX4_follow_7 : decode cX4_follow 7 = .ok (.bipush 30, 2) := by decide +kernel
theorem dX4_follow_9 : decode cX4_follow 9 = .ok (.sipush 600, 3) := by decide +kernel
theorem dX4_follow_12 : decode cX4_follow 12 = .ok (.invokestatic 53, 3) := by decide +kernel
theorem dX4_follow_15 : decode cX4_follow 15 = .ok (.ifCond .ne 13, 3) := by decide +kernel
theorem dX4_follow_18 : decode cX4_follow 18 = .ok (.new 57, 3) := by decide +kernel
theorem dX4_follow_21 : decode cX4_follow 21 = .ok (.dup, 1) := by decide +kernel
theorem dX4_follow_22 : decode cX4_follow 22 = .ok (.ldc 138, 2) := by decide +kernel
theorem dX4_follow_24 : decode cX4_follow 24 = .ok (.invokespecial 61, 3) := by decide +kernel
theorem dX4_follow_27 : decode cX4_follow 27 = .ok (.athrow, 1) := by decide +kernel
theorem dX4_follow_28 : decode cX4_follow 28 = .ok (.aload_n 0, 1) := by decide +kernel
theorem dX4_follow_29 : decode cX4_follow 29 = .ok (.getfield 16, 3) := by decide +kernel
theorem dX4_follow_32 : decode cX4_follow 32 = .ok (.invokevirtual 64, 3) := by decide +kernel
theorem dX4_follow_35 : decode cX4_follow 35 = .ok (.istore 4, 2) := by decide +kernel
theorem dX4_follow_37 : decode cX4_follow 37 = .ok (.iload 4, 2) := by decide +kernel
theorem dX4_follow_39 : decode cX4_follow 39 = .ok (.bipush 8, 2) := by decide +kernel
theorem dX4_follow_41 : decode cX4_follow 41 = .ok (.if_icmp .ge 22, 3) := by decide +kernel
theorem dX4_follow_44 : decode cX4_follow 44 = .ok (.iload 4, 2) := by decide +kernel
theorem dX4_follow_46 : decode cX4_follow 46 = .ok (.aload_n 0, 1) := by decide +kernel
theorem dX4_follow_47 : decode cX4_follow 47 = .ok (.getfield 19, 3) := by decide +kernel
theorem dX4_follow_50 : decode cX4_follow 50 = .ok (.arraylength, 1) := by decide +kernel
theorem dX4_follow_51 : decode cX4_follow 51 = .ok (.if_icmp .ge 12, 3) := by decide +kernel
theorem dX4_follow_54 : decode cX4_follow 54 = .ok (.aload_n 0, 1) := by decide +kernel
theorem dX4_follow_55 : decode cX4_follow 55 = .ok (.aload_n 3, 1) := by decide +kernel
theorem dX4_follow_56 : decode cX4_follow 56 = .ok (.iload_n 2, 1) := by decide +kernel
theorem dX4_follow_57 : decode cX4_follow 57 = .ok (.invokevirtual 140, 3) := by decide +kernel
theorem dX4_follow_60 : decode cX4_follow 60 = .ok (.ifCond .ne 13, 3) := by decide +kernel
theorem dX4_follow_63 : decode cX4_follow 63 = .ok (.new 68, 3) := by decide +kernel
theorem dX4_follow_66 : decode cX4_follow 66 = .ok (.dup, 1) := by decide +kernel
theorem dX4_follow_67 : decode cX4_follow 67 = .ok (.ldc 144, 2) := by decide +kernel
theorem dX4_follow_69 : decode cX4_follow 69 = .ok (.invokespecial 72, 3) := by decide +kernel
theorem dX4_follow_72 : decode cX4_follow 72 = .ok (.athrow, 1) := by decide +kernel
theorem dX4_follow_73 : decode cX4_follow 73 = .ok (.aload_n 0, 1) := by decide +kernel
theorem dX4_follow_74 : decode cX4_follow 74 = .ok (.getfield 16, 3) := by decide +kernel
theorem dX4_follow_77 : decode cX4_follow 77 = .ok (.aload_n 3, 1) := by decide +kernel
theorem dX4_follow_78 : decode cX4_follow 78 = .ok (.invokevirtual 78, 3) := by decide +kernel
theorem dX4_follow_81 : decode cX4_follow 81 = .ok (.pop, 1) := by decide +kernel
theorem dX4_follow_82 : decode cX4_follow 82 = .ok (.aload_n 0, 1) := by decide +kernel
theorem dX4_follow_83 : decode cX4_follow 83 = .ok (.getfield 19, 3) := by decide +kernel
theorem dX4_follow_86 : decode cX4_follow 86 = .ok (.iload 4, 2) := by decide +kernel
theorem dX4_follow_88 : decode cX4_follow 88 = .ok (.iload_n 2, 1) := by decide +kernel
theorem dX4_follow_89 : decode cX4_follow 89 = .ok (.iastore, 1) := by decide +kernel
theorem dX4_follow_90 : decode cX4_follow 90 = .ok (.iload 4, 2) := by decide +kernel
theorem dX4_follow_92 : decode cX4_follow 92 = .ok (.iconst 1, 1) := by decide +kernel
theorem dX4_follow_93 : decode cX4_follow 93 = .ok (.iadd, 1) := by decide +kernel
theorem dX4_follow_94 : decode cX4_follow 94 = .ok (.ireturn, 1) := by decide +kernel
theorem dX4_drop_0 : decode cX4_drop 0 = .ok (.aload_n 0, 1) := by decide +kernel
theorem dX4_drop_1 : decode cX4_drop 1 = .ok (.getfield 16, 3) := by decide +kernel
theorem dX4_drop_4 : decode cX4_drop 4 = .ok (.invokevirtual 64, 3) := by decide +kernel
theorem dX4_drop_7 : decode cX4_drop 7 = .ok (.istore_n 1, 1) := by decide +kernel
theorem dX4_drop_8 : decode cX4_drop 8 = .ok (.iload_n 1, 1) := by decide +kernel
theorem dX4_drop_9 : decode cX4_drop 9 = .ok (.iconst 1, 1) := by decide +kernel
theorem dX4_drop_10 : decode cX4_drop 10 = .ok (.if_icmp .ge 13, 3) := by decide +kernel
theorem dX4_drop_13 : decode cX4_drop 13 = .ok (.new 68, 3) := by decide +kernel
theorem dX4_drop_16 : decode cX4_drop 16 = .ok (.dup, 1) := by decide +kernel
theorem dX4_drop_17 : decode cX4_drop 17 = .ok (.ldc 146, 2) := by decide +kernel
theorem dX4_drop_19 : decode cX4_drop 19 = .ok (.invokespecial 72, 3) := by decide +kernel
theorem dX4_drop_22 : decode cX4_drop 22 = .ok (.athrow, 1) := by decide +kernel
theorem dX4_drop_23 : decode cX4_drop 23 = .ok (.aload_n 0, 1) := by decide +kernel
theorem dX4_drop_24 : decode cX4_drop 24 = .ok (.getfield 16, 3) := by decide +kernel
theorem dX4_drop_27 : decode cX4_drop 27 = .ok (.iload_n 1, 1) := by decide +kernel
theorem dX4_drop_28 : decode cX4_drop 28 = .ok (.iconst 1, 1) := by decide +kernel
theorem dX4_drop_29 : decode cX4_drop 29 = .ok (.isub, 1) := by decide +kernel
theorem dX4_drop_30 : decode cX4_drop 30 = .ok (.invokevirtual 148, 3) := by decide +kernel
theorem dX4_drop_33 : decode cX4_drop 33 = .ok (.checkcast 73, 3) := by decide +kernel
theorem dX4_drop_36 : decode cX4_drop 36 = .ok (.getfield 151, 3) := by decide +kernel
theorem dX4_drop_39 : decode cX4_drop 39 = .ok (.ireturn, 1) := by decide +kernel
theorem dX4_time_0 : decode cX4_time 0 = .ok (.lconst 0, 1) := by decide +kernel
theorem dX4_time_1 : decode cX4_time 1 = .ok (.lstore_n 1, 1) := by decide +kernel
theorem dX4_time_2 : decode cX4_time 2 = .ok (.iconst 0, 1) := by decide +kernel
theorem dX4_time_3 : decode cX4_time 3 = .ok (.istore_n 3, 1) := by decide +kernel
theorem dX4_time_4 : decode cX4_time 4 = .ok (.iload_n 3, 1) := by decide +kernel
theorem dX4_time_5 : decode cX4_time 5 = .ok (.aload_n 0, 1) := by decide +kernel
theorem dX4_time_6 : decode cX4_time 6 = .ok (.getfield 16, 3) := by decide +kernel
theorem dX4_time_9 : decode cX4_time 9 = .ok (.invokevirtual 64, 3) := by decide +kernel
theorem dX4_time_12 : decode cX4_time 12 = .ok (.if_icmp .ge 57, 3) := by decide +kernel
theorem dX4_time_15 : decode cX4_time 15 = .ok (.iload_n 3, 1) := by decide +kernel
theorem dX4_time_16 : decode cX4_time 16 = .ok (.aload_n 0, 1) := by decide +kernel
theorem dX4_time_17 : decode cX4_time 17 = .ok (.getfield 19, 3) := by decide +kernel
theorem dX4_time_20 : decode cX4_time 20 = .ok (.arraylength, 1) := by decide +kernel
theorem dX4_time_21 : decode cX4_time 21 = .ok (.if_icmp .ge 48, 3) := by decide +kernel
theorem dX4_time_24 : decode cX4_time 24 = .ok (.aload_n 0, 1) := by decide +kernel
theorem dX4_time_25 : decode cX4_time 25 = .ok (.getfield 19, 3) := by decide +kernel
theorem dX4_time_28 : decode cX4_time 28 = .ok (.iload_n 3, 1) := by decide +kernel
theorem dX4_time_29 : decode cX4_time 29 = .ok (.iaload, 1) := by decide +kernel
theorem dX4_time_30 : decode cX4_time 30 = .ok (.ifCond .le 33, 3) := by decide +kernel
theorem dX4_time_33 : decode cX4_time 33 = .ok (.lload_n 1, 1) := by decide +kernel
theorem dX4_time_34 : decode cX4_time 34 = .ok (.ldc2_w 154, 3) := by decide +kernel
theorem dX4_time_37 : decode cX4_time 37 = .ok (.aload_n 0, 1) := by decide +kernel
theorem dX4_time_38 : decode cX4_time 38 = .ok (.getfield 16, 3) := by decide +kernel
theorem dX4_time_41 : decode cX4_time 41 = .ok (.iload_n 3, 1) := by decide +kernel
theorem dX4_time_42 : decode cX4_time 42 = .ok (.invokevirtual 134, 3) := by decide +kernel
theorem dX4_time_45 : decode cX4_time 45 = .ok (.checkcast 73, 3) := by decide +kernel
theorem dX4_time_48 : decode cX4_time 48 = .ok (.invokevirtual 156, 3) := by decide +kernel
theorem dX4_time_51 : decode cX4_time 51 = .ok (.i2l, 1) := by decide +kernel
theorem dX4_time_52 : decode cX4_time 52 = .ok (.lmul, 1) := by decide +kernel
theorem dX4_time_53 : decode cX4_time 53 = .ok (.aload_n 0, 1) := by decide +kernel
theorem dX4_time_54 : decode cX4_time 54 = .ok (.getfield 19, 3) := by decide +kernel
theorem dX4_time_57 : decode cX4_time 57 = .ok (.iload_n 3, 1) := by decide +kernel
theorem dX4_time_58 : decode cX4_time 58 = .ok (.iaload, 1) := by decide +kernel
theorem dX4_time_59 : decode cX4_time 59 = .ok (.i2l, 1) := by decide +kernel
theorem dX4_time_60 : decode cX4_time 60 = .ok (.ldiv, 1) := by decide +kernel
theorem dX4_time_61 : decode cX4_time 61 = .ok (.ladd, 1) := by decide +kernel
theorem dX4_time_62 : decode cX4_time 62 = .ok (.lstore_n 1, 1) := by decide +kernel
theorem dX4_time_63 : decode cX4_time 63 = .ok (.iinc 3 1, 3) := by decide +kernel
theorem dX4_time_66 : decode cX4_time 66 = .ok (.goto (-62), 3) := by decide +kernel
theorem dX4_time_69 : decode cX4_time 69 = .ok (.lload_n 1, 1) := by decide +kernel
theorem dX4_time_70 : decode cX4_time 70 = .ok (.lreturn, 1) := by decide +kernel
theorem dX4_mayFollow_0 : decode cX4_mayFollow 0 = .ok (.aload_n 1, 1) := by decide +kernel
theorem dX4_mayFollow_1 : decode cX4_mayFollow 1 = .ok (.getfield 107, 3) := by decide +kernel
theorem dX4_mayFollow_4 : decode cX4_mayFollow 4 = .ok (.iconst 1, 1) := by decide +kernel
theorem dX4_mayFollow_5 : decode cX4_mayFollow 5 = .ok (.if_icmp .ge 5, 3) := by decide +kernel
theorem dX4_mayFollow_8 : decode cX4_mayFollow 8 = .ok (.iconst 0, 1) := by decide +kernel
theorem dX4_mayFollow_9 : decode cX4_mayFollow 9 = .ok (.ireturn, 1) := by decide +kernel
theorem dX4_mayFollow_10 : decode cX4_mayFollow 10 = .ok (.aload_n 0, 1) := by decide +kernel
theorem dX4_mayFollow_11 : decode cX4_mayFollow 11 = .ok (.getfield 16, 3) := by decide +kernel
theorem dX4_mayFollow_14 : decode cX4_mayFollow 14 = .ok (.invokevirtual 64, 3) := by decide +kernel
theorem dX4_mayFollow_17 : decode cX4_mayFollow 17 = .ok (.iconst 1, 1) := by decide +kernel
theorem dX4_mayFollow_18 : decode cX4_mayFollow 18 = .ok (.isub, 1) := by decide +kernel
theorem dX4_mayFollow_19 : decode cX4_mayFollow 19 = .ok (.istore_n 3, 1) := by decide +kernel
theorem dX4_mayFollow_20 : decode cX4_mayFollow 20 = .ok (.iload_n 3, 1) := by decide +kernel
theorem dX4_mayFollow_21 : decode cX4_mayFollow 21 = .ok (.ifCond .lt 12, 3) := by decide +kernel
theorem dX4_mayFollow_24 : decode cX4_mayFollow 24 = .ok (.iload_n 3, 1) := by decide +kernel
theorem dX4_mayFollow_25 : decode cX4_mayFollow 25 = .ok (.aload_n 0, 1) := by decide +kernel
theorem dX4_mayFollow_26 : decode cX4_mayFollow 26 = .ok (.getfield 19, 3) := by decide +kernel
theorem dX4_mayFollow_29 : decode cX4_mayFollow 29 = .ok (.arraylength, 1) := by decide +kernel
theorem dX4_mayFollow_30 : decode cX4_mayFollow 30 = .ok (.if_icmp .lt 5, 3) := by decide +kernel
theorem dX4_mayFollow_33 : decode cX4_mayFollow 33 = .ok (.iconst 1, 1) := by decide +kernel
theorem dX4_mayFollow_34 : decode cX4_mayFollow 34 = .ok (.ireturn, 1) := by decide +kernel
theorem dX4_mayFollow_35 : decode cX4_mayFollow 35 = .ok (.aload_n 0, 1) := by decide +kernel
theorem dX4_mayFollow_36 : decode cX4_mayFollow 36 = .ok (.getfield 16, 3) := by decide +kernel
theorem dX4_mayFollow_39 : decode cX4_mayFollow 39 = .ok (.iload_n 3, 1) := by decide +kernel
theorem dX4_mayFollow_40 : decode cX4_mayFollow 40 = .ok (.invokevirtual 134, 3) := by decide +kernel
theorem dX4_mayFollow_43 : decode cX4_mayFollow 43 = .ok (.checkcast 73, 3) := by decide +kernel
theorem dX4_mayFollow_46 : decode cX4_mayFollow 46 = .ok (.astore 4, 2) := by decide +kernel
theorem dX4_mayFollow_48 : decode cX4_mayFollow 48 = .ok (.aload 4, 2) := by decide +kernel
theorem dX4_mayFollow_50 : decode cX4_mayFollow 50 = .ok (.getfield 159, 3) := by decide +kernel
theorem dX4_mayFollow_53 : decode cX4_mayFollow 53 = .ok (.aload_n 1, 1) := by decide +kernel
theorem dX4_mayFollow_54 : decode cX4_mayFollow 54 = .ok (.getfield 159, 3) := by decide +kernel
theorem dX4_mayFollow_57 : decode cX4_mayFollow 57 = .ok (.if_icmp .ne 15, 3) := by decide +kernel
theorem dX4_mayFollow_60 : decode cX4_mayFollow 60 = .ok (.iload_n 2, 1) := by decide +kernel
theorem dX4_mayFollow_61 : decode cX4_mayFollow 61 = .ok (.aload_n 0, 1) := by decide +kernel
theorem dX4_mayFollow_62 : decode cX4_mayFollow 62 = .ok (.getfield 19, 3) := by decide +kernel
theorem dX4_mayFollow_65 : decode cX4_mayFollow 65 = .ok (.iload_n 3, 1) := by decide +kernel
theorem dX4_mayFollow_66 : decode cX4_mayFollow 66 = .ok (.iaload, 1) := by decide +kernel
theorem dX4_mayFollow_67 : decode cX4_mayFollow 67 = .ok (.if_icmp .ge 5, 3) := by decide +kernel
theorem dX4_mayFollow_70 : decode cX4_mayFollow 70 = .ok (.iconst 0, 1) := by decide +kernel
theorem dX4_mayFollow_71 : decode cX4_mayFollow 71 = .ok (.ireturn, 1) := by decide +kernel
theorem dX4_mayFollow_72 : decode cX4_mayFollow 72 = .ok (.aload_n 1, 1) := by decide +kernel
theorem dX4_mayFollow_73 : decode cX4_mayFollow 73 = .ok (.iconst 0, 1) := by decide +kernel
theorem dX4_mayFollow_74 : decode cX4_mayFollow 74 = .ok (.invokevirtual 162, 3) := by decide +kernel
theorem dX4_mayFollow_77 : decode cX4_mayFollow 77 = .ok (.ifCond .ne 23, 3) := by decide +kernel
theorem dX4_mayFollow_80 : decode cX4_mayFollow 80 = .ok (.aload_n 1, 1) := by decide +kernel
theorem dX4_mayFollow_81 : decode cX4_mayFollow 81 = .ok (.iconst 0, 1) := by decide +kernel
theorem dX4_mayFollow_82 : decode cX4_mayFollow 82 = .ok (.invokevirtual 165, 3) := by decide +kernel
theorem dX4_mayFollow_85 : decode cX4_mayFollow 85 = .ok (.aload 4, 2) := by decide +kernel
theorem dX4_mayFollow_87 : decode cX4_mayFollow 87 = .ok (.aload 4, 2) := by decide +kernel
theorem dX4_mayFollow_89 : decode cX4_mayFollow 89 = .ok (.getfield 107, 3) := by decide +kernel
theorem dX4_mayFollow_92 : decode cX4_mayFollow 92 = .ok (.iconst 1, 1) := by decide +kernel
theorem dX4_mayFollow_93 : decode cX4_mayFollow 93 = .ok (.isub, 1) := by decide +kernel
theorem dX4_mayFollow_94 : decode cX4_mayFollow 94 = .ok (.invokevirtual 165, 3) := by decide +kernel
theorem dX4_mayFollow_97 : decode cX4_mayFollow 97 = .ok (.if_icmp .eq 7, 3) := by decide +kernel
theorem dX4_mayFollow_100 : decode cX4_mayFollow 100 = .ok (.iconst 1, 1) := by decide +kernel
theorem dX4_mayFollow_101 : decode cX4_mayFollow 101 = .ok (.goto 4, 3) := by decide +kernel
theorem dX4_mayFollow_104 : decode cX4_mayFollow 104 = .ok (.iconst 0, 1) := by decide +kernel
theorem dX4_mayFollow_105 : decode cX4_mayFollow 105 = .ok (.ireturn, 1) := by decide +kernel
theorem dX4_piper_0 : decode cX4_piper 0 = .ok (.iload_n 1, 1) := by decide +kernel
theorem dX4_piper_1 : decode cX4_piper 1 = .ok (.bipush (-100), 2) := by decide +kernel
theorem dX4_piper_3 : decode cX4_piper 3 = .ok (.bipush 100, 2) := by decide +kernel
theorem dX4_piper_5 : decode cX4_piper 5 = .ok (.invokestatic 53, 3) := by decide +kernel
theorem dX4_piper_8 : decode cX4_piper 8 = .ok (.ifCond .eq 24, 3) := by decide +kernel
theorem dX4_piper_11 : decode cX4_piper 11 = .ok (.iload_n 2, 1) := by decide +kernel
theorem dX4_piper_12 : decode cX4_piper 12 = .ok (.bipush 10, 2) := by decide +kernel
theorem dX4_piper_14 : decode cX4_piper 14 = .ok (.bipush 40, 2) := by decide +kernel
theorem dX4_piper_16 : decode cX4_piper 16 = .ok (.invokestatic 53, 3) := by decide +kernel
theorem dX4_piper_19 : decode cX4_piper 19 = .ok (.ifCond .eq 13, 3) := by decide +kernel
theorem dX4_piper_22 : decode cX4_piper 22 = .ok (.iload_n 3, 1) := by decide +kernel
theorem dX4_piper_23 : decode cX4_piper 23 = .ok (.iconst 0, 1) := by decide +kernel
theorem dX4_piper_24 : decode cX4_piper 24 = .ok (.bipush 9, 2) := by decide +kernel
theorem dX4_piper_26 : decode cX4_piper 26 = .ok (.invokestatic 53, 3) := by decide +kernel
theorem dX4_piper_29 : decode cX4_piper 29 = .ok (.ifCond .ne 13, 3) := by decide +kernel
theorem dX4_piper_32 : decode cX4_piper 32 = .ok (.new 57, 3) := by decide +kernel
theorem dX4_piper_35 : decode cX4_piper 35 = .ok (.dup, 1) := by decide +kernel
theorem dX4_piper_36 : decode cX4_piper 36 = .ok (.ldc 168, 2) := by decide +kernel
theorem dX4_piper_38 : decode cX4_piper 38 = .ok (.invokespecial 61, 3) := by decide +kernel
theorem dX4_piper_41 : decode cX4_piper 41 = .ok (.athrow, 1) := by decide +kernel
theorem dX4_piper_42 : decode cX4_piper 42 = .ok (.aload_n 0, 1) := by decide +kernel
theorem dX4_piper_43 : decode cX4_piper 43 = .ok (.getfield 23, 3) := by decide +kernel
theorem dX4_piper_46 : decode cX4_piper 46 = .ok (.invokevirtual 64, 3) := by decide +kernel
theorem dX4_piper_49 : decode cX4_piper 49 = .ok (.bipush 8, 2) := by decide +kernel
theorem dX4_piper_51 : decode cX4_piper 51 = .ok (.if_icmp .lt 13, 3) := by decide +kernel
theorem dX4_piper_54 : decode cX4_piper 54 = .ok (.new 68, 3) := by decide +kernel
theorem dX4_piper_57 : decode cX4_piper 57 = .ok (.dup, 1) := by decide +kernel
theorem dX4_piper_58 : decode cX4_piper 58 = .ok (.ldc 170, 2) := by decide +kernel
theorem dX4_piper_60 : decode cX4_piper 60 = .ok (.invokespecial 72, 3) := by decide +kernel
theorem dX4_piper_63 : decode cX4_piper 63 = .ok (.athrow, 1) := by decide +kernel
theorem dX4_piper_64 : decode cX4_piper 64 = .ok (.aload_n 0, 1) := by decide +kernel
theorem dX4_piper_65 : decode cX4_piper 65 = .ok (.getfield 23, 3) := by decide +kernel
theorem dX4_piper_68 : decode cX4_piper 68 = .ok (.new 26, 3) := by decide +kernel
theorem dX4_piper_71 : decode cX4_piper 71 = .ok (.dup, 1) := by decide +kernel
theorem dX4_piper_72 : decode cX4_piper 72 = .ok (.iload_n 1, 1) := by decide +kernel
theorem dX4_piper_73 : decode cX4_piper 73 = .ok (.iload_n 2, 1) := by decide +kernel
theorem dX4_piper_74 : decode cX4_piper 74 = .ok (.iload_n 3, 1) := by decide +kernel
theorem dX4_piper_75 : decode cX4_piper 75 = .ok (.invokespecial 28, 3) := by decide +kernel
theorem dX4_piper_78 : decode cX4_piper 78 = .ok (.invokevirtual 78, 3) := by decide +kernel
theorem dX4_piper_81 : decode cX4_piper 81 = .ok (.pop, 1) := by decide +kernel
theorem dX4_piper_82 : decode cX4_piper 82 = .ok (.aload_n 0, 1) := by decide +kernel
theorem dX4_piper_83 : decode cX4_piper 83 = .ok (.getfield 23, 3) := by decide +kernel
theorem dX4_piper_86 : decode cX4_piper 86 = .ok (.invokevirtual 64, 3) := by decide +kernel
theorem dX4_piper_89 : decode cX4_piper 89 = .ok (.iconst 1, 1) := by decide +kernel
theorem dX4_piper_90 : decode cX4_piper 90 = .ok (.isub, 1) := by decide +kernel
theorem dX4_piper_91 : decode cX4_piper 91 = .ok (.ireturn, 1) := by decide +kernel
theorem dX4_seat_0 : decode cX4_seat 0 = .ok (.aload_n 0, 1) := by decide +kernel
theorem dX4_seat_1 : decode cX4_seat 1 = .ok (.iload_n 1, 1) := by decide +kernel
theorem dX4_seat_2 : decode cX4_seat 2 = .ok (.invokevirtual 172, 3) := by decide +kernel
theorem dX4_seat_5 : decode cX4_seat 5 = .ok (.astore_n 3, 1) := by decide +kernel
theorem dX4_seat_6 : decode cX4_seat 6 = .ok (.iload_n 2, 1) := by decide +kernel
theorem dX4_seat_7 : decode cX4_seat 7 = .ok (.bipush (-100), 2) := by decide +kernel
theorem dX4_seat_9 : decode cX4_seat 9 = .ok (.bipush 100, 2) := by decide +kernel
theorem dX4_seat_11 : decode cX4_seat 11 = .ok (.invokestatic 53, 3) := by decide +kernel
theorem dX4_seat_14 : decode cX4_seat 14 = .ok (.ifCond .eq 19, 3) := by decide +kernel
theorem dX4_seat_17 : decode cX4_seat 17 = .ok (.aload_n 3, 1) := by decide +kernel
theorem dX4_seat_18 : decode cX4_seat 18 = .ok (.getfield 176, 3) := by decide +kernel
theorem dX4_seat_21 : decode cX4_seat 21 = .ok (.iload_n 2, 1) := by decide +kernel
theorem dX4_seat_22 : decode cX4_seat 22 = .ok (.iadd, 1) := by decide +kernel
theorem dX4_seat_23 : decode cX4_seat 23 = .ok (.bipush (-100), 2) := by decide +kernel
theorem dX4_seat_25 : decode cX4_seat 25 = .ok (.bipush 100, 2) := by decide +kernel
theorem dX4_seat_27 : decode cX4_seat 27 = .ok (.invokestatic 53, 3) := by decide +kernel
theorem dX4_seat_30 : decode cX4_seat 30 = .ok (.ifCond .ne 13, 3) := by decide +kernel
theorem dX4_seat_33 : decode cX4_seat 33 = .ok (.new 57, 3) := by decide +kernel
theorem dX4_seat_36 : decode cX4_seat 36 = .ok (.dup, 1) := by decide +kernel
theorem dX4_seat_37 : decode cX4_seat 37 = .ok (.ldc 179, 2) := by decide +kernel
theorem dX4_seat_39 : decode cX4_seat 39 = .ok (.invokespecial 61, 3) := by decide +kernel
theorem dX4_seat_42 : decode cX4_seat 42 = .ok (.athrow, 1) := by decide +kernel
theorem dX4_seat_43 : decode cX4_seat 43 = .ok (.aload_n 3, 1) := by decide +kernel
theorem dX4_seat_44 : decode cX4_seat 44 = .ok (.dup, 1) := by decide +kernel
theorem dX4_seat_45 : decode cX4_seat 45 = .ok (.getfield 176, 3) := by decide +kernel
theorem dX4_seat_48 : decode cX4_seat 48 = .ok (.iload_n 2, 1) := by decide +kernel
theorem dX4_seat_49 : decode cX4_seat 49 = .ok (.iadd, 1) := by decide +kernel
theorem dX4_seat_50 : decode cX4_seat 50 = .ok (.putfield 176, 3) := by decide +kernel
theorem dX4_seat_53 : decode cX4_seat 53 = .ok (.aload_n 3, 1) := by decide +kernel
theorem dX4_seat_54 : decode cX4_seat 54 = .ok (.getfield 176, 3) := by decide +kernel
theorem dX4_seat_57 : decode cX4_seat 57 = .ok (.ireturn, 1) := by decide +kernel
theorem dX4_rest_0 : decode cX4_rest 0 = .ok (.aload_n 0, 1) := by decide +kernel
theorem dX4_rest_1 : decode cX4_rest 1 = .ok (.iload_n 1, 1) := by decide +kernel
theorem dX4_rest_2 : decode cX4_rest 2 = .ok (.invokevirtual 172, 3) := by decide +kernel
theorem dX4_rest_5 : decode cX4_rest 5 = .ok (.astore_n 3, 1) := by decide +kernel
theorem dX4_rest_6 : decode cX4_rest 6 = .ok (.aload_n 3, 1) := by decide +kernel
theorem dX4_rest_7 : decode cX4_rest 7 = .ok (.getfield 181, 3) := by decide +kernel
theorem dX4_rest_10 : decode cX4_rest 10 = .ok (.istore 4, 2) := by decide +kernel
theorem dX4_rest_12 : decode cX4_rest 12 = .ok (.aload_n 3, 1) := by decide +kernel
theorem dX4_rest_13 : decode cX4_rest 13 = .ok (.iload_n 2, 1) := by decide +kernel
theorem dX4_rest_14 : decode cX4_rest 14 = .ok (.putfield 181, 3) := by decide +kernel
theorem dX4_rest_17 : decode cX4_rest 17 = .ok (.iload 4, 2) := by decide +kernel
theorem dX4_rest_19 : decode cX4_rest 19 = .ok (.ireturn, 1) := by decide +kernel
theorem dX4_play_0 : decode cX4_play 0 = .ok (.iload_n 1, 1) := by decide +kernel
theorem dX4_play_1 : decode cX4_play 1 = .ok (.iload_n 2, 1) := by decide +kernel
theorem dX4_play_2 : decode cX4_play 2 = .ok (.iload_n 3, 1) := by decide +kernel
theorem dX4_play_3 : decode cX4_play 3 = .ok (.invokestatic 184, 3) := by decide +kernel
theorem dX4_play_6 : decode cX4_play 6 = .ok (.ifCond .ne 13, 3) := by decide +kernel
theorem dX4_play_9 : decode cX4_play 9 = .ok (.new 57, 3) := by decide +kernel
theorem dX4_play_12 : decode cX4_play 12 = .ok (.dup, 1) := by decide +kernel
theorem dX4_play_13 : decode cX4_play 13 = .ok (.ldc 187, 2) := by decide +kernel
theorem dX4_play_15 : decode cX4_play 15 = .ok (.invokespecial 61, 3) := by decide +kernel
theorem dX4_play_18 : decode cX4_play 18 = .ok (.athrow, 1) := by decide +kernel
theorem dX4_play_19 : decode cX4_play 19 = .ok (.iconst 0, 1) := by decide +kernel
theorem dX4_play_20 : decode cX4_play 20 = .ok (.istore 4, 2) := by decide +kernel
theorem dX4_play_22 : decode cX4_play 22 = .ok (.iload 4, 2) := by decide +kernel
theorem dX4_play_24 : decode cX4_play 24 = .ok (.aload_n 0, 1) := by decide +kernel
theorem dX4_play_25 : decode cX4_play 25 = .ok (.getfield 23, 3) := by decide +kernel
theorem dX4_play_28 : decode cX4_play 28 = .ok (.invokevirtual 64, 3) := by decide +kernel
theorem dX4_play_31 : decode cX4_play 31 = .ok (.if_icmp .ge 27, 3) := by decide +kernel
theorem dX4_play_34 : decode cX4_play 34 = .ok (.aload_n 0, 1) := by decide +kernel
theorem dX4_play_35 : decode cX4_play 35 = .ok (.getfield 23, 3) := by decide +kernel
theorem dX4_play_38 : decode cX4_play 38 = .ok (.iload 4, 2) := by decide +kernel
theorem dX4_play_40 : decode cX4_play 40 = .ok (.invokevirtual 134, 3) := by decide +kernel
theorem dX4_play_43 : decode cX4_play 43 = .ok (.checkcast 26, 3) := by decide +kernel
theorem dX4_play_46 : decode cX4_play 46 = .ok (.iload_n 1, 1) := by decide +kernel
theorem dX4_play_47 : decode cX4_play 47 = .ok (.iload_n 2, 1) := by decide +kernel
theorem dX4_play_48 : decode cX4_play 48 = .ok (.iload_n 3, 1) := by decide +kernel
theorem dX4_play_49 : decode cX4_play 49 = .ok (.invokevirtual 189, 3) := by decide +kernel
theorem dX4_play_52 : decode cX4_play 52 = .ok (.iinc 4 1, 3) := by decide +kernel
theorem dX4_play_55 : decode cX4_play 55 = .ok (.goto (-33), 3) := by decide +kernel
theorem dX4_play_58 : decode cX4_play 58 = .ok (.aload_n 0, 1) := by decide +kernel
theorem dX4_play_59 : decode cX4_play 59 = .ok (.iconst (-1), 1) := by decide +kernel
theorem dX4_play_60 : decode cX4_play 60 = .ok (.invokevirtual 192, 3) := by decide +kernel
theorem dX4_play_63 : decode cX4_play 63 = .ok (.ireturn, 1) := by decide +kernel
theorem dX4_ofPiper_0 : decode cX4_ofPiper 0 = .ok (.aload_n 0, 1) := by decide +kernel
theorem dX4_ofPiper_1 : decode cX4_ofPiper 1 = .ok (.iload_n 1, 1) := by decide +kernel
theorem dX4_ofPiper_2 : decode cX4_ofPiper 2 = .ok (.invokevirtual 172, 3) := by decide +kernel
theorem dX4_ofPiper_5 : decode cX4_ofPiper 5 = .ok (.astore_n 3, 1) := by decide +kernel
theorem dX4_ofPiper_6 : decode cX4_ofPiper 6 = .ok (.iload_n 2, 1) := by decide +kernel
theorem dX4_ofPiper_7 : decode cX4_ofPiper 7 = .ok (.iconst 0, 1) := by decide +kernel
theorem dX4_ofPiper_8 : decode cX4_ofPiper 8 = .ok (.iconst 5, 1) := by decide +kernel
theorem dX4_ofPiper_9 : decode cX4_ofPiper 9 = .ok (.invokestatic 53, 3) := by decide +kernel
theorem dX4_ofPiper_12 : decode cX4_ofPiper 12 = .ok (.ifCond .ne 13, 3) := by decide +kernel
theorem dX4_ofPiper_15 : decode cX4_ofPiper 15 = .ok (.new 57, 3) := by decide +kernel
theorem dX4_ofPiper_18 : decode cX4_ofPiper 18 = .ok (.dup, 1) := by decide +kernel
theorem dX4_ofPiper_19 : decode cX4_ofPiper 19 = .ok (.ldc 115, 2) := by decide +kernel
theorem dX4_ofPiper_21 : decode cX4_ofPiper 21 = .ok (.invokespecial 61, 3) := by decide +kernel
theorem dX4_ofPiper_24 : decode cX4_ofPiper 24 = .ok (.athrow, 1) := by decide +kernel
theorem dX4_ofPiper_25 : decode cX4_ofPiper 25 = .ok (.iload_n 2, 1) := by decide +kernel
theorem dX4_ofPiper_26 : decode cX4_ofPiper 26 = .ok (.iconst 5, 1) := by decide +kernel
theorem dX4_ofPiper_27 : decode cX4_ofPiper 27 = .ok (.if_icmp .ne 11, 3) := by decide +kernel
theorem dX4_ofPiper_30 : decode cX4_ofPiper 30 = .ok (.aload_n 0, 1) := by decide +kernel
theorem dX4_ofPiper_31 : decode cX4_ofPiper 31 = .ok (.aload_n 3, 1) := by decide +kernel
theorem dX4_ofPiper_32 : decode cX4_ofPiper 32 = .ok (.invokevirtual 195, 3) := by decide +kernel
theorem dX4_ofPiper_35 : decode cX4_ofPiper 35 = .ok (.goto 8, 3) := by decide +kernel
theorem dX4_ofPiper_38 : decode cX4_ofPiper 38 = .ok (.aload_n 3, 1) := by decide +kernel
theorem dX4_ofPiper_39 : decode cX4_ofPiper 39 = .ok (.iload_n 2, 1) := by decide +kernel
theorem dX4_ofPiper_40 : decode cX4_ofPiper 40 = .ok (.invokevirtual 199, 3) := by decide +kernel
theorem dX4_ofPiper_43 : decode cX4_ofPiper 43 = .ok (.ireturn, 1) := by decide +kernel
theorem dX4_spread_0 : decode cX4_spread 0 = .ok (.aload_n 0, 1) := by decide +kernel
theorem dX4_spread_1 : decode cX4_spread 1 = .ok (.iconst (-1), 1) := by decide +kernel
theorem dX4_spread_2 : decode cX4_spread 2 = .ok (.invokevirtual 192, 3) := by decide +kernel
theorem dX4_spread_5 : decode cX4_spread 5 = .ok (.ireturn, 1) := by decide +kernel
theorem dX4_odd_0 : decode cX4_odd 0 = .ok (.aload_n 0, 1) := by decide +kernel
theorem dX4_odd_1 : decode cX4_odd 1 = .ok (.iconst (-1), 1) := by decide +kernel
theorem dX4_odd_2 : decode cX4_odd 2 = .ok (.invokevirtual 200, 3) := by decide +kernel
theorem dX4_odd_5 : decode cX4_odd 5 = .ok (.aload_n 0, 1) := by decide +kernel
theorem dX4_odd_6 : decode cX4_odd 6 = .ok (.getfield 38, 3) := by decide +kernel
theorem dX4_odd_9 : decode cX4_odd 9 = .ok (.getfield 204, 3) := by decide +kernel
theorem dX4_odd_12 : decode cX4_odd 12 = .ok (.iconst 2, 1) := by decide +kernel
theorem dX4_odd_13 : decode cX4_odd 13 = .ok (.if_icmp .ge 5, 3) := by decide +kernel
theorem dX4_odd_16 : decode cX4_odd 16 = .ok (.iconst (-1), 1) := by decide +kernel
theorem dX4_odd_17 : decode cX4_odd 17 = .ok (.ireturn, 1) := by decide +kernel
theorem dX4_odd_18 : decode cX4_odd 18 = .ok (.iconst (-1), 1) := by decide +kernel
theorem dX4_odd_19 : decode cX4_odd 19 = .ok (.istore_n 1, 1) := by decide +kernel
theorem dX4_odd_20 : decode cX4_odd 20 = .ok (.iconst 0, 1) := by decide +kernel
theorem dX4_odd_21 : decode cX4_odd 21 = .ok (.istore_n 2, 1) := by decide +kernel
theorem dX4_odd_22 : decode cX4_odd 22 = .ok (.iconst 0, 1) := by decide +kernel
theorem dX4_odd_23 : decode cX4_odd 23 = .ok (.istore_n 3, 1) := by decide +kernel
theorem dX4_odd_24 : decode cX4_odd 24 = .ok (.iload_n 3, 1) := by decide +kernel
theorem dX4_odd_25 : decode cX4_odd 25 = .ok (.aload_n 0, 1) := by decide +kernel
theorem dX4_odd_26 : decode cX4_odd 26 = .ok (.getfield 23, 3) := by decide +kernel
theorem dX4_odd_29 : decode cX4_odd 29 = .ok (.invokevirtual 64, 3) := by decide +kernel
theorem dX4_odd_32 : decode cX4_odd 32 = .ok (.if_icmp .ge 52, 3) := by decide +kernel
theorem dX4_odd_35 : decode cX4_odd 35 = .ok (.aload_n 0, 1) := by decide +kernel
theorem dX4_odd_36 : decode cX4_odd 36 = .ok (.getfield 23, 3) := by decide +kernel
theorem dX4_odd_39 : decode cX4_odd 39 = .ok (.iload_n 3, 1) := by decide +kernel
theorem dX4_odd_40 : decode cX4_odd 40 = .ok (.invokevirtual 134, 3) := by decide +kernel
theorem dX4_odd_43 : decode cX4_odd 43 = .ok (.checkcast 26, 3) := by decide +kernel
theorem dX4_odd_46 : decode cX4_odd 46 = .ok (.getfield 181, 3) := by decide +kernel
theorem dX4_odd_49 : decode cX4_odd 49 = .ok (.ifCond .eq 6, 3) := by decide +kernel
theorem dX4_odd_52 : decode cX4_odd 52 = .ok (.goto 26, 3) := by decide +kernel
theorem dX4_odd_55 : decode cX4_odd 55 = .ok (.aload_n 0, 1) := by decide +kernel
theorem dX4_odd_56 : decode cX4_odd 56 = .ok (.iload_n 3, 1) := by decide +kernel
theorem dX4_odd_57 : decode cX4_odd 57 = .ok (.invokevirtual 192, 3) := by decide +kernel
theorem dX4_odd_60 : decode cX4_odd 60 = .ok (.istore 4, 2) := by decide +kernel
theorem dX4_odd_62 : decode cX4_odd 62 = .ok (.iload_n 1, 1) := by decide +kernel
theorem dX4_odd_63 : decode cX4_odd 63 = .ok (.iconst (-1), 1) := by decide +kernel
theorem dX4_odd_64 : decode cX4_odd 64 = .ok (.if_icmp .eq 9, 3) := by decide +kernel
theorem dX4_odd_67 : decode cX4_odd 67 = .ok (.iload 4, 2) := by decide +kernel
theorem dX4_odd_69 : decode cX4_odd 69 = .ok (.iload_n 2, 1) := by decide +kernel
theorem dX4_odd_70 : decode cX4_odd 70 = .ok (.if_icmp .ge 8, 3) := by decide +kernel
theorem dX4_odd_73 : decode cX4_odd 73 = .ok (.iload_n 3, 1) := by decide +kernel
theorem dX4_odd_74 : decode cX4_odd 74 = .ok (.istore_n 1, 1) := by decide +kernel
theorem dX4_odd_75 : decode cX4_odd 75 = .ok (.iload 4, 2) := by decide +kernel
theorem dX4_odd_77 : decode cX4_odd 77 = .ok (.istore_n 2, 1) := by decide +kernel
theorem dX4_odd_78 : decode cX4_odd 78 = .ok (.iinc 3 1, 3) := by decide +kernel
theorem dX4_odd_81 : decode cX4_odd 81 = .ok (.goto (-57), 3) := by decide +kernel
theorem dX4_odd_84 : decode cX4_odd 84 = .ok (.iload_n 1, 1) := by decide +kernel
theorem dX4_odd_85 : decode cX4_odd 85 = .ok (.ireturn, 1) := by decide +kernel
theorem dX4_beats_0 : decode cX4_beats 0 = .ok (.aload_n 0, 1) := by decide +kernel
theorem dX4_beats_1 : decode cX4_beats 1 = .ok (.iload_n 1, 1) := by decide +kernel
theorem dX4_beats_2 : decode cX4_beats 2 = .ok (.invokevirtual 172, 3) := by decide +kernel
theorem dX4_beats_5 : decode cX4_beats 5 = .ok (.invokevirtual 207, 3) := by decide +kernel
theorem dX4_beats_8 : decode cX4_beats 8 = .ok (.aload_n 0, 1) := by decide +kernel
theorem dX4_beats_9 : decode cX4_beats 9 = .ok (.iload_n 2, 1) := by decide +kernel
theorem dX4_beats_10 : decode cX4_beats 10 = .ok (.invokevirtual 172, 3) := by decide +kernel
theorem dX4_beats_13 : decode cX4_beats 13 = .ok (.invokevirtual 207, 3) := by decide +kernel
theorem dX4_beats_16 : decode cX4_beats 16 = .ok (.isub, 1) := by decide +kernel
theorem dX4_beats_17 : decode cX4_beats 17 = .ok (.istore_n 3, 1) := by decide +kernel
theorem dX4_beats_18 : decode cX4_beats 18 = .ok (.sipush 480, 3) := by decide +kernel
theorem dX4_beats_21 : decode cX4_beats 21 = .ok (.iload_n 3, 1) := by decide +kernel
theorem dX4_beats_22 : decode cX4_beats 22 = .ok (.invokestatic 210, 3) := by decide +kernel
theorem dX4_beats_25 : decode cX4_beats 25 = .ok (.imul, 1) := by decide +kernel
theorem dX4_beats_26 : decode cX4_beats 26 = .ok (.i2f, 1) := by decide +kernel
theorem dX4_beats_27 : decode cX4_beats 27 = .ok (.ldc 215, 2) := by decide +kernel
theorem dX4_beats_29 : decode cX4_beats 29 = .ok (.fdiv, 1) := by decide +kernel
theorem dX4_beats_30 : decode cX4_beats 30 = .ok (.freturn, 1) := by decide +kernel
theorem dX4_ahead_0 : decode cX4_ahead 0 = .ok (.iload_n 1, 1) := by decide +kernel
theorem dX4_ahead_1 : decode cX4_ahead 1 = .ok (.iload_n 2, 1) := by decide +kernel
theorem dX4_ahead_2 : decode cX4_ahead 2 = .ok (.iload_n 3, 1) := by decide +kernel
theorem dX4_ahead_3 : decode cX4_ahead 3 = .ok (.invokestatic 184, 3) := by decide +kernel
theorem dX4_ahead_6 : decode cX4_ahead 6 = .ok (.ifCond .ne 13, 3) := by decide +kernel
theorem dX4_ahead_9 : decode cX4_ahead 9 = .ok (.new 57, 3) := by decide +kernel
theorem dX4_ahead_12 : decode cX4_ahead 12 = .ok (.dup, 1) := by decide +kernel
theorem dX4_ahead_13 : decode cX4_ahead 13 = .ok (.ldc 187, 2) := by decide +kernel
theorem dX4_ahead_15 : decode cX4_ahead 15 = .ok (.invokespecial 61, 3) := by decide +kernel
theorem dX4_ahead_18 : decode cX4_ahead 18 = .ok (.athrow, 1) := by decide +kernel
theorem dX4_ahead_19 : decode cX4_ahead 19 = .ok (.aload_n 0, 1) := by decide +kernel
theorem dX4_ahead_20 : decode cX4_ahead 20 = .ok (.getfield 38, 3) := by decide +kernel
theorem dX4_ahead_23 : decode cX4_ahead 23 = .ok (.invokevirtual 216, 3) := by decide +kernel
theorem dX4_ahead_26 : decode cX4_ahead 26 = .ok (.iconst 0, 1) := by decide +kernel
theorem dX4_ahead_27 : decode cX4_ahead 27 = .ok (.istore 4, 2) := by decide +kernel
theorem dX4_ahead_29 : decode cX4_ahead 29 = .ok (.iload 4, 2) := by decide +kernel
theorem dX4_ahead_31 : decode cX4_ahead 31 = .ok (.aload_n 0, 1) := by decide +kernel
theorem dX4_ahead_32 : decode cX4_ahead 32 = .ok (.getfield 23, 3) := by decide +kernel
theorem dX4_ahead_35 : decode cX4_ahead 35 = .ok (.invokevirtual 64, 3) := by decide +kernel
theorem dX4_ahead_38 : decode cX4_ahead 38 = .ok (.if_icmp .ge 64, 3) := by decide +kernel
theorem dX4_ahead_41 : decode cX4_ahead 41 = .ok (.aload_n 0, 1) := by decide +kernel
theorem dX4_ahead_42 : decode cX4_ahead 42 = .ok (.getfield 23, 3) := by decide +kernel
theorem dX4_ahead_45 : decode cX4_ahead 45 = .ok (.iload 4, 2) := by decide +kernel
theorem dX4_ahead_47 : decode cX4_ahead 47 = .ok (.invokevirtual 134, 3) := by decide +kernel
theorem dX4_ahead_50 : decode cX4_ahead 50 = .ok (.checkcast 26, 3) := by decide +kernel
theorem dX4_ahead_53 : decode cX4_ahead 53 = .ok (.astore 5, 2) := by decide +kernel
theorem dX4_ahead_55 : decode cX4_ahead 55 = .ok (.aload 5, 2) := by decide +kernel
theorem dX4_ahead_57 : decode cX4_ahead 57 = .ok (.getfield 181, 3) := by decide +kernel
theorem dX4_ahead_60 : decode cX4_ahead 60 = .ok (.ifCond .ne 36, 3) := by decide +kernel
theorem dX4_ahead_63 : decode cX4_ahead 63 = .ok (.aload_n 0, 1) := by decide +kernel
theorem dX4_ahead_64 : decode cX4_ahead 64 = .ok (.getfield 31, 3) := by decide +kernel
theorem dX4_ahead_67 : decode cX4_ahead 67 = .ok (.aload 5, 2) := by decide +kernel
theorem dX4_ahead_69 : decode cX4_ahead 69 = .ok (.invokevirtual 219, 3) := by decide +kernel
theorem dX4_ahead_72 : decode cX4_ahead 72 = .ok (.aload_n 0, 1) := by decide +kernel
theorem dX4_ahead_73 : decode cX4_ahead 73 = .ok (.getfield 31, 3) := by decide +kernel
theorem dX4_ahead_76 : decode cX4_ahead 76 = .ok (.iload_n 1, 1) := by decide +kernel
theorem dX4_ahead_77 : decode cX4_ahead 77 = .ok (.iload_n 2, 1) := by decide +kernel
theorem dX4_ahead_78 : decode cX4_ahead 78 = .ok (.iload_n 3, 1) := by decide +kernel
theorem dX4_ahead_79 : decode cX4_ahead 79 = .ok (.invokevirtual 189, 3) := by decide +kernel
theorem dX4_ahead_82 : decode cX4_ahead 82 = .ok (.aload_n 0, 1) := by decide +kernel
theorem dX4_ahead_83 : decode cX4_ahead 83 = .ok (.getfield 38, 3) := by decide +kernel
theorem dX4_ahead_86 : decode cX4_ahead 86 = .ok (.aload_n 0, 1) := by decide +kernel
theorem dX4_ahead_87 : decode cX4_ahead 87 = .ok (.getfield 31, 3) := by decide +kernel
theorem dX4_ahead_90 : decode cX4_ahead 90 = .ok (.invokevirtual 207, 3) := by decide +kernel
theorem dX4_ahead_93 : decode cX4_ahead 93 = .ok (.invokevirtual 223, 3) := by decide +kernel
theorem dX4_ahead_96 : decode cX4_ahead 96 = .ok (.iinc 4 1, 3) := by decide +kernel
theorem dX4_ahead_99 : decode cX4_ahead 99 = .ok (.goto (-70), 3) := by decide +kernel
theorem dX4_ahead_102 : decode cX4_ahead 102 = .ok (.aload_n 0, 1) := by decide +kernel
theorem dX4_ahead_103 : decode cX4_ahead 103 = .ok (.getfield 38, 3) := by decide +kernel
theorem dX4_ahead_106 : decode cX4_ahead 106 = .ok (.invokevirtual 226, 3) := by decide +kernel
theorem dX4_ahead_109 : decode cX4_ahead 109 = .ok (.ireturn, 1) := by decide +kernel
theorem dX4_piperOfNumber_0 : decode cX4_piperOfNumber 0 = .ok (.iload_n 1, 1) := by decide +kernel
theorem dX4_piperOfNumber_1 : decode cX4_piperOfNumber 1 = .ok (.ifCond .lt 14, 3) := by decide +kernel
theorem dX4_piperOfNumber_4 : decode cX4_piperOfNumber 4 = .ok (.iload_n 1, 1) := by decide +kernel
theorem dX4_piperOfNumber_5 : decode cX4_piperOfNumber 5 = .ok (.aload_n 0, 1) := by decide +kernel
theorem dX4_piperOfNumber_6 : decode cX4_piperOfNumber 6 = .ok (.getfield 23, 3) := by decide +kernel
theorem dX4_piperOfNumber_9 : decode cX4_piperOfNumber 9 = .ok (.invokevirtual 64, 3) := by decide +kernel
theorem dX4_piperOfNumber_12 : decode cX4_piperOfNumber 12 = .ok (.if_icmp .lt 13, 3) := by decide +kernel
theorem dX4_piperOfNumber_15 : decode cX4_piperOfNumber 15 = .ok (.new 110, 3) := by decide +kernel
theorem dX4_piperOfNumber_18 : decode cX4_piperOfNumber 18 = .ok (.dup, 1) := by decide +kernel
theorem dX4_piperOfNumber_19 : decode cX4_piperOfNumber 19 = .ok (.ldc 229, 2) := by decide +kernel
theorem dX4_piperOfNumber_21 : decode cX4_piperOfNumber 21 = .ok (.invokespecial 114, 3) := by decide +kernel
theorem dX4_piperOfNumber_24 : decode cX4_piperOfNumber 24 = .ok (.athrow, 1) := by decide +kernel
theorem dX4_piperOfNumber_25 : decode cX4_piperOfNumber 25 = .ok (.aload_n 0, 1) := by decide +kernel
theorem dX4_piperOfNumber_26 : decode cX4_piperOfNumber 26 = .ok (.getfield 23, 3) := by decide +kernel
theorem dX4_piperOfNumber_29 : decode cX4_piperOfNumber 29 = .ok (.iload_n 1, 1) := by decide +kernel
theorem dX4_piperOfNumber_30 : decode cX4_piperOfNumber 30 = .ok (.invokevirtual 134, 3) := by decide +kernel
theorem dX4_piperOfNumber_33 : decode cX4_piperOfNumber 33 = .ok (.checkcast 26, 3) := by decide +kernel
theorem dX4_piperOfNumber_36 : decode cX4_piperOfNumber 36 = .ok (.areturn, 1) := by decide +kernel
theorem dX4_isWeather_0 : decode cX4_isWeather 0 = .ok (.iload_n 0, 1) := by decide +kernel
theorem dX4_isWeather_1 : decode cX4_isWeather 1 = .ok (.iconst 1, 1) := by decide +kernel
theorem dX4_isWeather_2 : decode cX4_isWeather 2 = .ok (.bipush 120, 2) := by decide +kernel
theorem dX4_isWeather_4 : decode cX4_isWeather 4 = .ok (.invokestatic 53, 3) := by decide +kernel
theorem dX4_isWeather_7 : decode cX4_isWeather 7 = .ok (.ifCond .eq 27, 3) := by decide +kernel
theorem dX4_isWeather_10 : decode cX4_isWeather 10 = .ok (.iload_n 1, 1) := by decide +kernel
theorem dX4_isWeather_11 : decode cX4_isWeather 11 = .ok (.iconst 0, 1) := by decide +kernel
theorem dX4_isWeather_12 : decode cX4_isWeather 12 = .ok (.bipush 9, 2) := by decide +kernel
theorem dX4_isWeather_14 : decode cX4_isWeather 14 = .ok (.invokestatic 53, 3) := by decide +kernel
theorem dX4_isWeather_17 : decode cX4_isWeather 17 = .ok (.ifCond .eq 17, 3) := by decide +kernel
theorem dX4_isWeather_20 : decode cX4_isWeather 20 = .ok (.iload_n 2, 1) := by decide +kernel
theorem dX4_isWeather_21 : decode cX4_isWeather 21 = .ok (.iconst 0, 1) := by decide +kernel
theorem dX4_isWeather_22 : decode cX4_isWeather 22 = .ok (.bipush 40, 2) := by decide +kernel
theorem dX4_isWeather_24 : decode cX4_isWeather 24 = .ok (.invokestatic 53, 3) := by decide +kernel
theorem dX4_isWeather_27 : decode cX4_isWeather 27 = .ok (.ifCond .eq 7, 3) := by decide +kernel
theorem dX4_isWeather_30 : decode cX4_isWeather 30 = .ok (.iconst 1, 1) := by decide +kernel
theorem dX4_isWeather_31 : decode cX4_isWeather 31 = .ok (.goto 4, 3) := by decide +kernel
theorem dX4_isWeather_34 : decode cX4_isWeather 34 = .ok (.iconst 0, 1) := by decide +kernel
theorem dX4_isWeather_35 : decode cX4_isWeather 35 = .ok (.ireturn, 1) := by decide +kernel
theorem dX4_gatherPitchesWithout_0 : decode cX4_gatherPitchesWithout 0 = .ok (.aload_n 0, 1) := by decide +kernel
theorem dX4_gatherPitchesWithout_1 : decode cX4_gatherPitchesWithout 1 = .ok (.getfield 38, 3) := by decide +kernel
theorem dX4_gatherPitchesWithout_4 : decode cX4_gatherPitchesWithout 4 = .ok (.invokevirtual 216, 3) := by decide +kernel
theorem dX4_gatherPitchesWithout_7 : decode cX4_gatherPitchesWithout 7 = .ok (.iconst 0, 1) := by decide +kernel
theorem dX4_gatherPitchesWithout_8 : decode cX4_gatherPitchesWithout 8 = .ok (.istore_n 2, 1) := by decide +kernel
theorem dX4_gatherPitchesWithout_9 : decode cX4_gatherPitchesWithout 9 = .ok (.iload_n 2, 1) := by decide +kernel
theorem dX4_gatherPitchesWithout_10 : decode cX4_gatherPitchesWithout 10 = .ok (.aload_n 0, 1) := by decide +kernel
theorem dX4_gatherPitchesWithout_11 : decode cX4_gatherPitchesWithout 11 = .ok (.getfield 23, 3) := by decide +kernel
theorem dX4_gatherPitchesWithout_14 : decode cX4_gatherPitchesWithout 14 = .ok (.invokevirtual 64, 3) := by decide +kernel
theorem dX4_gatherPitchesWithout_17 : decode cX4_gatherPitchesWithout 17 = .ok (.if_icmp .ge 44, 3) := by decide +kernel
theorem dX4_gatherPitchesWithout_20 : decode cX4_gatherPitchesWithout 20 = .ok (.aload_n 0, 1) := by decide +kernel
theorem dX4_gatherPitchesWithout_21 : decode cX4_gatherPitchesWithout 21 = .ok (.getfield 23, 3) := by decide +kernel
theorem dX4_gatherPitchesWithout_24 : decode cX4_gatherPitchesWithout 24 = .ok (.iload_n 2, 1) := by decide +kernel
theorem dX4_gatherPitchesWithout_25 : decode cX4_gatherPitchesWithout 25 = .ok (.invokevirtual 134, 3) := by decide +kernel
theorem dX4_gatherPitchesWithout_28 : decode cX4_gatherPitchesWithout 28 = .ok (.checkcast 26, 3) := by decide +kernel
theorem dX4_gatherPitchesWithout_31 : decode cX4_gatherPitchesWithout 31 = .ok (.astore_n 3, 1) := by decide +kernel
theorem dX4_gatherPitchesWithout_32 : decode cX4_gatherPitchesWithout 32 = .ok (.iload_n 2, 1) := by decide +kernel
theorem dX4_gatherPitchesWithout_33 : decode cX4_gatherPitchesWithout 33 = .ok (.iload_n 1, 1) := by decide +kernel
theorem dX4_gatherPitchesWithout_34 : decode cX4_gatherPitchesWithout 34 = .ok (.if_icmp .eq 21, 3) := by decide +kernel
theorem dX4_gatherPitchesWithout_37 : decode cX4_gatherPitchesWithout 37 = .ok (.aload_n 3, 1) := by decide +kernel
theorem dX4_gatherPitchesWithout_38 : decode cX4_gatherPitchesWithout 38 = .ok (.getfield 181, 3) := by decide +kernel
theorem dX4_gatherPitchesWithout_41 : decode cX4_gatherPitchesWithout 41 = .ok (.ifCond .ne 14, 3) := by decide +kernel
theorem dX4_gatherPitchesWithout_44 : decode cX4_gatherPitchesWithout 44 = .ok (.aload_n 0, 1) := by decide +kernel
theorem dX4_gatherPitchesWithout_45 : decode cX4_gatherPitchesWithout 45 = .ok (.getfield 38, 3) := by decide +kernel
theorem dX4_gatherPitchesWithout_48 : decode cX4_gatherPitchesWithout 48 = .ok (.aload_n 3, 1) := by decide +kernel
theorem dX4_gatherPitchesWithout_49 : decode cX4_gatherPitchesWithout 49 = .ok (.invokevirtual 207, 3) := by decide +kernel
theorem dX4_gatherPitchesWithout_52 : decode cX4_gatherPitchesWithout 52 = .ok (.invokevirtual 223, 3) := by decide +kernel
theorem dX4_gatherPitchesWithout_55 : decode cX4_gatherPitchesWithout 55 = .ok (.iinc 2 1, 3) := by decide +kernel
theorem dX4_gatherPitchesWithout_58 : decode cX4_gatherPitchesWithout 58 = .ok (.goto (-49), 3) := by decide +kernel
theorem dX4_gatherPitchesWithout_61 : decode cX4_gatherPitchesWithout 61 = .ok (.return_, 1) := by decide +kernel
theorem dX4_spreadWithout_0 : decode cX4_spreadWithout 0 = .ok (.aload_n 0, 1) := by decide +kernel
theorem dX4_spreadWithout_1 : decode cX4_spreadWithout 1 = .ok (.iload_n 1, 1) := by decide +kernel
theorem dX4_spreadWithout_2 : decode cX4_spreadWithout 2 = .ok (.invokevirtual 200, 3) := by decide +kernel
theorem dX4_spreadWithout_5 : decode cX4_spreadWithout 5 = .ok (.aload_n 0, 1) := by decide +kernel
theorem dX4_spreadWithout_6 : decode cX4_spreadWithout 6 = .ok (.getfield 38, 3) := by decide +kernel
theorem dX4_spreadWithout_9 : decode cX4_spreadWithout 9 = .ok (.invokevirtual 226, 3) := by decide +kernel
theorem dX4_spreadWithout_12 : decode cX4_spreadWithout 12 = .ok (.ireturn, 1) := by decide +kernel
theorem dX4_seatToMiddle_0 : decode cX4_seatToMiddle 0 = .ok (.aload_n 0, 1) := by decide +kernel
theorem dX4_seatToMiddle_1 : decode cX4_seatToMiddle 1 = .ok (.iconst (-1), 1) := by decide +kernel
theorem dX4_seatToMiddle_2 : decode cX4_seatToMiddle 2 = .ok (.invokevirtual 200, 3) := by decide +kernel
theorem dX4_seatToMiddle_5 : decode cX4_seatToMiddle 5 = .ok (.aload_n 0, 1) := by decide +kernel
theorem dX4_seatToMiddle_6 : decode cX4_seatToMiddle 6 = .ok (.getfield 38, 3) := by decide +kernel
theorem dX4_seatToMiddle_9 : decode cX4_seatToMiddle 9 = .ok (.getfield 204, 3) := by decide +kernel
theorem dX4_seatToMiddle_12 : decode cX4_seatToMiddle 12 = .ok (.iconst 1, 1) := by decide +kernel
theorem dX4_seatToMiddle_13 : decode cX4_seatToMiddle 13 = .ok (.if_icmp .ge 7, 3) := by decide +kernel
theorem dX4_seatToMiddle_16 : decode cX4_seatToMiddle 16 = .ok (.iconst 0, 1) := by decide +kernel
theorem dX4_seatToMiddle_17 : decode cX4_seatToMiddle 17 = .ok (.goto 15, 3) := by decide +kernel
theorem dX4_seatToMiddle_20 : decode cX4_seatToMiddle 20 = .ok (.aload_n 0, 1) := by decide +kernel
theorem dX4_seatToMiddle_21 : decode cX4_seatToMiddle 21 = .ok (.getfield 38, 3) := by decide +kernel
theorem dX4_seatToMiddle_24 : decode cX4_seatToMiddle 24 = .ok (.invokevirtual 231, 3) := by decide +kernel
theorem dX4_seatToMiddle_27 : decode cX4_seatToMiddle 27 = .ok (.aload_n 1, 1) := by decide +kernel
theorem dX4_seatToMiddle_28 : decode cX4_seatToMiddle 28 = .ok (.invokevirtual 207, 3) := by decide +kernel
theorem dX4_seatToMiddle_31 : decode cX4_seatToMiddle 31 = .ok (.isub, 1) := by decide +kernel
theorem dX4_seatToMiddle_32 : decode cX4_seatToMiddle 32 = .ok (.ireturn, 1) := by decide +kernel
theorem dX4_band_0 : decode cX4_band 0 = .ok (.iload_n 1, 1) := by decide +kernel
theorem dX4_band_1 : decode cX4_band 1 = .ok (.iconst 1, 1) := by decide +kernel
theorem dX4_band_2 : decode cX4_band 2 = .ok (.iconst 5, 1) := by decide +kernel
theorem dX4_band_3 : decode cX4_band 3 = .ok (.invokestatic 53, 3) := by decide +kernel
theorem dX4_band_6 : decode cX4_band 6 = .ok (.ifCond .ne 13, 3) := by decide +kernel
theorem dX4_band_9 : decode cX4_band 9 = .ok (.new 57, 3) := by decide +kernel
theorem dX4_band_12 : decode cX4_band 12 = .ok (.dup, 1) := by decide +kernel
theorem dX4_band_13 : decode cX4_band 13 = .ok (.ldc 234, 2) := by decide +kernel
theorem dX4_band_15 : decode cX4_band 15 = .ok (.invokespecial 61, 3) := by decide +kernel
theorem dX4_band_18 : decode cX4_band 18 = .ok (.athrow, 1) := by decide +kernel
theorem dX4_band_19 : decode cX4_band 19 = .ok (.aload_n 0, 1) := by decide +kernel
theorem dX4_band_20 : decode cX4_band 20 = .ok (.getfield 42, 3) := by decide +kernel
theorem dX4_band_23 : decode cX4_band 23 = .ok (.invokevirtual 64, 3) := by decide +kernel
theorem dX4_band_26 : decode cX4_band 26 = .ok (.bipush 8, 2) := by decide +kernel
theorem dX4_band_28 : decode cX4_band 28 = .ok (.if_icmp .lt 13, 3) := by decide +kernel
theorem dX4_band_31 : decode cX4_band 31 = .ok (.new 68, 3) := by decide +kernel
theorem dX4_band_34 : decode cX4_band 34 = .ok (.dup, 1) := by decide +kernel
theorem dX4_band_35 : decode cX4_band 35 = .ok (.ldc 236, 2) := by decide +kernel
theorem dX4_band_37 : decode cX4_band 37 = .ok (.invokespecial 72, 3) := by decide +kernel
theorem dX4_band_40 : decode cX4_band 40 = .ok (.athrow, 1) := by decide +kernel
theorem dX4_band_41 : decode cX4_band 41 = .ok (.aload_n 0, 1) := by decide +kernel
theorem dX4_band_42 : decode cX4_band 42 = .ok (.getfield 42, 3) := by decide +kernel
theorem dX4_band_45 : decode cX4_band 45 = .ok (.invokevirtual 64, 3) := by decide +kernel
theorem dX4_band_48 : decode cX4_band 48 = .ok (.istore_n 2, 1) := by decide +kernel
theorem dX4_band_49 : decode cX4_band 49 = .ok (.aload_n 0, 1) := by decide +kernel
theorem dX4_band_50 : decode cX4_band 50 = .ok (.getfield 42, 3) := by decide +kernel
theorem dX4_band_53 : decode cX4_band 53 = .ok (.new 238, 3) := by decide +kernel
theorem dX4_band_56 : decode cX4_band 56 = .ok (.dup, 1) := by decide +kernel
theorem dX4_band_57 : decode cX4_band 57 = .ok (.iload_n 2, 1) := by decide +kernel
theorem dX4_band_58 : decode cX4_band 58 = .ok (.iload_n 1, 1) := by decide +kernel
theorem dX4_band_59 : decode cX4_band 59 = .ok (.invokespecial 240, 3) := by decide +kernel
theorem dX4_band_62 : decode cX4_band 62 = .ok (.invokevirtual 78, 3) := by decide +kernel
theorem dX4_band_65 : decode cX4_band 65 = .ok (.pop, 1) := by decide +kernel
theorem dX4_band_66 : decode cX4_band 66 = .ok (.iload_n 2, 1) := by decide +kernel
theorem dX4_band_67 : decode cX4_band 67 = .ok (.ireturn, 1) := by decide +kernel
theorem dX4_contest_0 : decode cX4_contest 0 = .ok (.iload_n 1, 1) := by decide +kernel
theorem dX4_contest_1 : decode cX4_contest 1 = .ok (.iconst 1, 1) := by decide +kernel
theorem dX4_contest_2 : decode cX4_contest 2 = .ok (.iconst 5, 1) := by decide +kernel
theorem dX4_contest_3 : decode cX4_contest 3 = .ok (.invokestatic 53, 3) := by decide +kernel
theorem dX4_contest_6 : decode cX4_contest 6 = .ok (.ifCond .ne 13, 3) := by decide +kernel
theorem dX4_contest_9 : decode cX4_contest 9 = .ok (.new 57, 3) := by decide +kernel
theorem dX4_contest_12 : decode cX4_contest 12 = .ok (.dup, 1) := by decide +kernel
theorem dX4_contest_13 : decode cX4_contest 13 = .ok (.ldc 234, 2) := by decide +kernel
theorem dX4_contest_15 : decode cX4_contest 15 = .ok (.invokespecial 61, 3) := by decide +kernel
theorem dX4_contest_18 : decode cX4_contest 18 = .ok (.athrow, 1) := by decide +kernel
theorem dX4_contest_19 : decode cX4_contest 19 = .ok (.aload_n 0, 1) := by decide +kernel
theorem dX4_contest_20 : decode cX4_contest 20 = .ok (.iload_n 1, 1) := by decide +kernel
theorem dX4_contest_21 : decode cX4_contest 21 = .ok (.invokevirtual 241, 3) := by decide +kernel
theorem dX4_contest_24 : decode cX4_contest 24 = .ok (.istore_n 2, 1) := by decide +kernel
theorem dX4_contest_25 : decode cX4_contest 25 = .ok (.aload_n 0, 1) := by decide +kernel
theorem dX4_contest_26 : decode cX4_contest 26 = .ok (.getfield 45, 3) := by decide +kernel
theorem dX4_contest_29 : decode cX4_contest 29 = .ok (.ifCond .ne 8, 3) := by decide +kernel
theorem dX4_contest_32 : decode cX4_contest 32 = .ok (.iload_n 2, 1) := by decide +kernel
theorem dX4_contest_33 : decode cX4_contest 33 = .ok (.iconst 2, 1) := by decide +kernel
theorem dX4_contest_34 : decode cX4_contest 34 = .ok (.if_icmp .ge 13, 3) := by decide +kernel
theorem dX4_contest_37 : decode cX4_contest 37 = .ok (.new 68, 3) := by decide +kernel
theorem dX4_contest_40 : decode cX4_contest 40 = .ok (.dup, 1) := by decide +kernel
theorem dX4_contest_41 : decode cX4_contest 41 = .ok (.ldc 244, 2) := by decide +kernel
theorem dX4_contest_43 : decode cX4_contest 43 = .ok (.invokespecial 72, 3) := by decide +kernel
theorem dX4_contest_46 : decode cX4_contest 46 = .ok (.athrow, 1) := by decide +kernel
theorem dX4_contest_47 : decode cX4_contest 47 = .ok (.iconst 0, 1) := by decide +kernel
theorem dX4_contest_48 : decode cX4_contest 48 = .ok (.istore_n 3, 1) := by decide +kernel
theorem dX4_contest_49 : decode cX4_contest 49 = .ok (.iload_n 3, 1) := by decide +kernel
theorem dX4_contest_50 : decode cX4_contest 50 = .ok (.aload_n 0, 1) := by decide +kernel
theorem dX4_contest_51 : decode cX4_contest 51 = .ok (.getfield 42, 3) := by decide +kernel
theorem dX4_contest_54 : decode cX4_contest 54 = .ok (.invokevirtual 64, 3) := by decide +kernel
theorem dX4_contest_57 : decode cX4_contest 57 = .ok (.if_icmp .ge 46, 3) := by decide +kernel
theorem dX4_contest_60 : decode cX4_contest 60 = .ok (.aload_n 0, 1) := by decide +kernel
theorem dX4_contest_61 : decode cX4_contest 61 = .ok (.getfield 42, 3) := by decide +kernel
theorem dX4_contest_64 : decode cX4_contest 64 = .ok (.iload_n 3, 1) := by decide +kernel
theorem dX4_contest_65 : decode cX4_contest 65 = .ok (.invokevirtual 134, 3) := by decide +kernel
theorem dX4_contest_68 : decode cX4_contest 68 = .ok (.checkcast 238, 3) := by decide +kernel
theorem dX4_contest_71 : decode cX4_contest 71 = .ok (.astore 4, 2) := by decide +kernel
theorem dX4_contest_73 : decode cX4_contest 73 = .ok (.aload 4, 2) := by decide +kernel
theorem dX4_contest_75 : decode cX4_contest 75 = .ok (.aload 4, 2) := by decide +kernel
theorem dX4_contest_77 : decode cX4_contest 77 = .ok (.getfield 246, 3) := by decide +kernel
theorem dX4_contest_80 : decode cX4_contest 80 = .ok (.iload_n 1, 1) := by decide +kernel
theorem dX4_contest_81 : decode cX4_contest 81 = .ok (.if_icmp .ne 7, 3) := by decide +kernel
theorem dX4_contest_84 : decode cX4_contest 84 = .ok (.iconst 1, 1) := by decide +kernel
theorem dX4_contest_85 : decode cX4_contest 85 = .ok (.goto 4, 3) := by decide +kernel
theorem dX4_contest_88 : decode cX4_contest 88 = .ok (.iconst 0, 1) := by decide +kernel
theorem dX4_contest_89 : decode cX4_contest 89 = .ok (.putfield 249, 3) := by decide +kernel
theorem dX4_contest_92 : decode cX4_contest 92 = .ok (.aload 4, 2) := by decide +kernel
theorem dX4_contest_94 : decode cX4_contest 94 = .ok (.invokevirtual 252, 3) := by decide +kernel
theorem dX4_contest_97 : decode cX4_contest 97 = .ok (.iinc 3 1, 3) := by decide +kernel
theorem dX4_contest_100 : decode cX4_contest 100 = .ok (.goto (-51), 3) := by decide +kernel
theorem dX4_contest_103 : decode cX4_contest 103 = .ok (.aload_n 0, 1) := by decide +kernel
theorem dX4_contest_104 : decode cX4_contest 104 = .ok (.iconst 1, 1) := by decide +kernel
theorem dX4_contest_105 : decode cX4_contest 105 = .ok (.putfield 45, 3) := by decide +kernel
theorem dX4_contest_108 : decode cX4_contest 108 = .ok (.aload_n 0, 1) := by decide +kernel
theorem dX4_contest_109 : decode cX4_contest 109 = .ok (.iload_n 2, 1) := by decide +kernel
theorem dX4_contest_110 : decode cX4_contest 110 = .ok (.iconst 4, 1) := by decide +kernel
theorem dX4_contest_111 : decode cX4_contest 111 = .ok (.imul, 1) := by decide +kernel
theorem dX4_contest_112 : decode cX4_contest 112 = .ok (.putfield 49, 3) := by decide +kernel
theorem dX4_contest_115 : decode cX4_contest 115 = .ok (.iload_n 2, 1) := by decide +kernel
theorem dX4_contest_116 : decode cX4_contest 116 = .ok (.ireturn, 1) := by decide +kernel
theorem dX4_mark_0 : decode cX4_mark 0 = .ok (.iload_n 1, 1) := by decide +kernel
theorem dX4_mark_1 : decode cX4_mark 1 = .ok (.iconst 0, 1) := by decide +kernel
theorem dX4_mark_2 : decode cX4_mark 2 = .ok (.iconst 3, 1) := by decide +kernel
theorem dX4_mark_3 : decode cX4_mark 3 = .ok (.invokestatic 53, 3) := by decide +kernel
theorem dX4_mark_6 : decode cX4_mark 6 = .ok (.ifCond .ne 13, 3) := by decide +kernel
theorem dX4_mark_9 : decode cX4_mark 9 = .ok (.new 110, 3) := by decide +kernel
theorem dX4_mark_12 : decode cX4_mark 12 = .ok (.dup, 1) := by decide +kernel
theorem dX4_mark_13 : decode cX4_mark 13 = .ok (.ldc 255, 2) := by decide +kernel
theorem dX4_mark_15 : decode cX4_mark 15 = .ok (.invokespecial 114, 3) := by decide +kernel
theorem dX4_mark_18 : decode cX4_mark 18 = .ok (.athrow, 1) := by decide +kernel
theorem dX4_mark_19 : decode cX4_mark 19 = .ok (.aload_n 0, 1) := by decide +kernel
theorem dX4_mark_20 : decode cX4_mark 20 = .ok (.iload_n 2, 1) := by decide +kernel
theorem dX4_mark_21 : decode cX4_mark 21 = .ok (.invokevirtual 257, 3) := by decide +kernel
theorem dX4_mark_24 : decode cX4_mark 24 = .ok (.astore 4, 2) := by decide +kernel
theorem dX4_mark_26 : decode cX4_mark 26 = .ok (.iload_n 3, 1) := by decide +kernel
theorem dX4_mark_27 : decode cX4_mark 27 = .ok (.iconst 0, 1) := by decide +kernel
theorem dX4_mark_28 : decode cX4_mark 28 = .ok (.bipush 100, 2) := by decide +kernel
theorem dX4_mark_30 : decode cX4_mark 30 = .ok (.invokestatic 53, 3) := by decide +kernel
theorem dX4_mark_33 : decode cX4_mark 33 = .ok (.ifCond .ne 14, 3) := by decide +kernel
theorem dX4_mark_36 : decode cX4_mark 36 = .ok (.new 57, 3) := by decide +kernel
theorem dX4_mark_39 : decode cX4_mark 39 = .ok (.dup, 1) := by decide +kernel
theorem dX4_mark_40 : decode cX4_mark 40 = .ok (.ldc_w 261, 3) := by decide +kernel
theorem dX4_mark_43 : decode cX4_mark 43 = .ok (.invokespecial 61, 3) := by decide +kernel
theorem dX4_mark_46 : decode cX4_mark 46 = .ok (.athrow, 1) := by decide +kernel
theorem dX4_mark_47 : decode cX4_mark 47 = .ok (.aload_n 0, 1) := by decide +kernel
theorem dX4_mark_48 : decode cX4_mark 48 = .ok (.getfield 45, 3) := by decide +kernel
theorem dX4_mark_51 : decode cX4_mark 51 = .ok (.ifCond .eq 21, 3) := by decide +kernel
theorem dX4_mark_54 : decode cX4_mark 54 = .ok (.aload 4, 2) := by decide +kernel
theorem dX4_mark_56 : decode cX4_mark 56 = .ok (.getfield 249, 3) := by decide +kernel
theorem dX4_mark_59 : decode cX4_mark 59 = .ok (.ifCond .eq 13, 3) := by decide +kernel
theorem dX4_mark_62 : decode cX4_mark 62 = .ok (.aload 4, 2) := by decide +kernel
theorem dX4_mark_64 : decode cX4_mark 64 = .ok (.iload_n 1, 1) := by decide +kernel
theorem dX4_mark_65 : decode cX4_mark 65 = .ok (.invokevirtual 263, 3) := by decide +kernel
theorem dX4_mark_68 : decode cX4_mark 68 = .ok (.iconst (-1), 1) := by decide +kernel
theorem dX4_mark_69 : decode cX4_mark 69 = .ok (.if_icmp .eq 14, 3) := by decide +kernel
theorem dX4_mark_72 : decode cX4_mark 72 = .ok (.new 68, 3) := by decide +kernel
theorem dX4_mark_75 : decode cX4_mark 75 = .ok (.dup, 1) := by decide +kernel
theorem dX4_mark_76 : decode cX4_mark 76 = .ok (.ldc_w 266, 3) := by decide +kernel
theorem dX4_mark_79 : decode cX4_mark 79 = .ok (.invokespecial 72, 3) := by decide +kernel
theorem dX4_mark_82 : decode cX4_mark 82 = .ok (.athrow, 1) := by decide +kernel
theorem dX4_mark_83 : decode cX4_mark 83 = .ok (.aload 4, 2) := by decide +kernel
theorem dX4_mark_85 : decode cX4_mark 85 = .ok (.iload_n 1, 1) := by decide +kernel
theorem dX4_mark_86 : decode cX4_mark 86 = .ok (.iload_n 3, 1) := by decide +kernel
theorem dX4_mark_87 : decode cX4_mark 87 = .ok (.invokevirtual 268, 3) := by decide +kernel
theorem dX4_mark_90 : decode cX4_mark 90 = .ok (.aload_n 0, 1) := by decide +kernel
theorem dX4_mark_91 : decode cX4_mark 91 = .ok (.dup, 1) := by decide +kernel
theorem dX4_mark_92 : decode cX4_mark 92 = .ok (.getfield 49, 3) := by decide +kernel
theorem dX4_mark_95 : decode cX4_mark 95 = .ok (.iconst 1, 1) := by decide +kernel
theorem dX4_mark_96 : decode cX4_mark 96 = .ok (.isub, 1) := by decide +kernel
theorem dX4_mark_97 : decode cX4_mark 97 = .ok (.putfield 49, 3) := by decide +kernel
theorem dX4_mark_100 : decode cX4_mark 100 = .ok (.aload_n 0, 1) := by decide +kernel
theorem dX4_mark_101 : decode cX4_mark 101 = .ok (.getfield 49, 3) := by decide +kernel
theorem dX4_mark_104 : decode cX4_mark 104 = .ok (.ireturn, 1) := by decide +kernel
theorem dX4_close_0 : decode cX4_close 0 = .ok (.aload_n 0, 1) := by decide +kernel
theorem dX4_close_1 : decode cX4_close 1 = .ok (.getfield 45, 3) := by decide +kernel
theorem dX4_close_4 : decode cX4_close 4 = .ok (.ifCond .eq 10, 3) := by decide +kernel
theorem dX4_close_7 : decode cX4_close 7 = .ok (.aload_n 0, 1) := by decide +kernel
theorem dX4_close_8 : decode cX4_close 8 = .ok (.getfield 49, 3) := by decide +kernel
theorem dX4_close_11 : decode cX4_close 11 = .ok (.ifCond .le 14, 3) := by decide +kernel
theorem dX4_close_14 : decode cX4_close 14 = .ok (.new 68, 3) := by decide +kernel
theorem dX4_close_17 : decode cX4_close 17 = .ok (.dup, 1) := by decide +kernel
theorem dX4_close_18 : decode cX4_close 18 = .ok (.ldc_w 271, 3) := by decide +kernel
theorem dX4_close_21 : decode cX4_close 21 = .ok (.invokespecial 72, 3) := by decide +kernel
theorem dX4_close_24 : decode cX4_close 24 = .ok (.athrow, 1) := by decide +kernel
theorem dX4_close_25 : decode cX4_close 25 = .ok (.iconst 0, 1) := by decide +kernel
theorem dX4_close_26 : decode cX4_close 26 = .ok (.istore_n 1, 1) := by decide +kernel
theorem dX4_close_27 : decode cX4_close 27 = .ok (.iload_n 1, 1) := by decide +kernel
theorem dX4_close_28 : decode cX4_close 28 = .ok (.aload_n 0, 1) := by decide +kernel
theorem dX4_close_29 : decode cX4_close 29 = .ok (.getfield 42, 3) := by decide +kernel
theorem dX4_close_32 : decode cX4_close 32 = .ok (.invokevirtual 64, 3) := by decide +kernel
theorem dX4_close_35 : decode cX4_close 35 = .ok (.if_icmp .ge 37, 3) := by decide +kernel
theorem dX4_close_38 : decode cX4_close 38 = .ok (.aload_n 0, 1) := by decide +kernel
theorem dX4_close_39 : decode cX4_close 39 = .ok (.getfield 42, 3) := by decide +kernel
theorem dX4_close_42 : decode cX4_close 42 = .ok (.iload_n 1, 1) := by decide +kernel
theorem dX4_close_43 : decode cX4_close 43 = .ok (.invokevirtual 134, 3) := by decide +kernel
theorem dX4_close_46 : decode cX4_close 46 = .ok (.checkcast 238, 3) := by decide +kernel
theorem dX4_close_49 : decode cX4_close 49 = .ok (.astore_n 2, 1) := by decide +kernel
theorem dX4_close_50 : decode cX4_close 50 = .ok (.aload_n 2, 1) := by decide +kernel
theorem dX4_close_51 : decode cX4_close 51 = .ok (.invokevirtual 273, 3) := by decide +kernel
theorem dX4_close_54 : decode cX4_close 54 = .ok (.aload_n 2, 1) := by decide +kernel
theorem dX4_close_55 : decode cX4_close 55 = .ok (.getfield 249, 3) := by decide +kernel
theorem dX4_close_58 : decode cX4_close 58 = .ok (.ifCond .eq 8, 3) := by decide +kernel
theorem dX4_close_61 : decode cX4_close 61 = .ok (.aload_n 0, 1) := by decide +kernel
theorem dX4_close_62 : decode cX4_close 62 = .ok (.aload_n 2, 1) := by decide +kernel
theorem dX4_close_63 : decode cX4_close 63 = .ok (.invokevirtual 276, 3) := by decide +kernel
theorem dX4_close_66 : decode cX4_close 66 = .ok (.iinc 1 1, 3) := by decide +kernel
theorem dX4_close_69 : decode cX4_close 69 = .ok (.goto (-42), 3) := by decide +kernel
theorem dX4_close_72 : decode cX4_close 72 = .ok (.aload_n 0, 1) := by decide +kernel
theorem dX4_close_73 : decode cX4_close 73 = .ok (.invokevirtual 280, 3) := by decide +kernel
theorem dX4_close_76 : decode cX4_close 76 = .ok (.istore_n 1, 1) := by decide +kernel
theorem dX4_close_77 : decode cX4_close 77 = .ok (.aload_n 0, 1) := by decide +kernel
theorem dX4_close_78 : decode cX4_close 78 = .ok (.iconst 0, 1) := by decide +kernel
theorem dX4_close_79 : decode cX4_close 79 = .ok (.putfield 45, 3) := by decide +kernel
theorem dX4_close_82 : decode cX4_close 82 = .ok (.iload_n 1, 1) := by decide +kernel
theorem dX4_close_83 : decode cX4_close 83 = .ok (.ireturn, 1) := by decide +kernel
theorem dX4_season_0 : decode cX4_season 0 = .ok (.aload_n 0, 1) := by decide +kernel
theorem dX4_season_1 : decode cX4_season 1 = .ok (.getfield 45, 3) := by decide +kernel
theorem dX4_season_4 : decode cX4_season 4 = .ok (.ifCond .eq 14, 3) := by decide +kernel
theorem dX4_season_7 : decode cX4_season 7 = .ok (.new 68, 3) := by decide +kernel
theorem dX4_season_10 : decode cX4_season 10 = .ok (.dup, 1) := by decide +kernel
theorem dX4_season_11 : decode cX4_season 11 = .ok (.ldc_w 283, 3) := by decide +kernel
theorem dX4_season_14 : decode cX4_season 14 = .ok (.invokespecial 72, 3) := by decide +kernel
theorem dX4_season_17 : decode cX4_season 17 = .ok (.athrow, 1) := by decide +kernel
theorem dX4_season_18 : decode cX4_season 18 = .ok (.iconst 1, 1) := by decide +kernel
theorem dX4_season_19 : decode cX4_season 19 = .ok (.istore_n 1, 1) := by decide +kernel
theorem dX4_season_20 : decode cX4_season 20 = .ok (.iload_n 1, 1) := by decide +kernel
theorem dX4_season_21 : decode cX4_season 21 = .ok (.iconst 5, 1) := by decide +kernel
theorem dX4_season_22 : decode cX4_season 22 = .ok (.if_icmp .ge 21, 3) := by decide +kernel
theorem dX4_season_25 : decode cX4_season 25 = .ok (.aload_n 0, 1) := by decide +kernel
theorem dX4_season_26 : decode cX4_season 26 = .ok (.iload_n 1, 1) := by decide +kernel
theorem dX4_season_27 : decode cX4_season 27 = .ok (.iconst 1, 1) := by decide +kernel
theorem dX4_season_28 : decode cX4_season 28 = .ok (.iadd, 1) := by decide +kernel
theorem dX4_season_29 : decode cX4_season 29 = .ok (.invokevirtual 285, 3) := by decide +kernel
theorem dX4_season_32 : decode cX4_season 32 = .ok (.aload_n 0, 1) := by decide +kernel
theorem dX4_season_33 : decode cX4_season 33 = .ok (.iload_n 1, 1) := by decide +kernel
theorem dX4_season_34 : decode cX4_season 34 = .ok (.invokevirtual 288, 3) := by decide +kernel
theorem dX4_season_37 : decode cX4_season 37 = .ok (.iinc 1 1, 3) := by decide +kernel
theorem dX4_season_40 : decode cX4_season 40 = .ok (.goto (-20), 3) := by decide +kernel
theorem dX4_season_43 : decode cX4_season 43 = .ok (.iconst 0, 1) := by decide +kernel
theorem dX4_season_44 : decode cX4_season 44 = .ok (.istore_n 1, 1) := by decide +kernel
theorem dX4_season_45 : decode cX4_season 45 = .ok (.iconst 0, 1) := by decide +kernel
theorem dX4_season_46 : decode cX4_season 46 = .ok (.istore_n 2, 1) := by decide +kernel
theorem dX4_season_47 : decode cX4_season 47 = .ok (.iload_n 2, 1) := by decide +kernel
theorem dX4_season_48 : decode cX4_season 48 = .ok (.aload_n 0, 1) := by decide +kernel
theorem dX4_season_49 : decode cX4_season 49 = .ok (.getfield 42, 3) := by decide +kernel
theorem dX4_season_52 : decode cX4_season 52 = .ok (.invokevirtual 64, 3) := by decide +kernel
theorem dX4_season_55 : decode cX4_season 55 = .ok (.if_icmp .ge 34, 3) := by decide +kernel
theorem dX4_season_58 : decode cX4_season 58 = .ok (.iload_n 1, 1) := by decide +kernel
theorem dX4_season_59 : decode cX4_season 59 = .ok (.aload_n 0, 1) := by decide +kernel
theorem dX4_season_60 : decode cX4_season 60 = .ok (.getfield 42, 3) := by decide +kernel
theorem dX4_season_63 : decode cX4_season 63 = .ok (.iload_n 2, 1) := by decide +kernel
theorem dX4_season_64 : decode cX4_season 64 = .ok (.invokevirtual 134, 3) := by decide +kernel
theorem dX4_season_67 : decode cX4_season 67 = .ok (.checkcast 238, 3) := by decide +kernel
theorem dX4_season_70 : decode cX4_season 70 = .ok (.invokevirtual 291, 3) := by decide +kernel
theorem dX4_season_73 : decode cX4_season 73 = .ok (.ifCond .eq 7, 3) := by decide +kernel
theorem dX4_season_76 : decode cX4_season 76 = .ok (.iconst 1, 1) := by decide +kernel
theorem dX4_season_77 : decode cX4_season 77 = .ok (.goto 4, 3) := by decide +kernel
theorem dX4_season_80 : decode cX4_season 80 = .ok (.iconst 0, 1) := by decide +kernel
theorem dX4_season_81 : decode cX4_season 81 = .ok (.iadd, 1) := by decide +kernel
theorem dX4_season_82 : decode cX4_season 82 = .ok (.istore_n 1, 1) := by decide +kernel
theorem dX4_season_83 : decode cX4_season 83 = .ok (.iinc 2 1, 3) := by decide +kernel
theorem dX4_season_86 : decode cX4_season 86 = .ok (.goto (-39), 3) := by decide +kernel
theorem dX4_season_89 : decode cX4_season 89 = .ok (.iload_n 1, 1) := by decide +kernel
theorem dX4_season_90 : decode cX4_season 90 = .ok (.ireturn, 1) := by decide +kernel
theorem dX4_ofBand_0 : decode cX4_ofBand 0 = .ok (.aload_n 0, 1) := by decide +kernel
theorem dX4_ofBand_1 : decode cX4_ofBand 1 = .ok (.iload_n 1, 1) := by decide +kernel
theorem dX4_ofBand_2 : decode cX4_ofBand 2 = .ok (.invokevirtual 257, 3) := by decide +kernel
theorem dX4_ofBand_5 : decode cX4_ofBand 5 = .ok (.astore_n 3, 1) := by decide +kernel
theorem dX4_ofBand_6 : decode cX4_ofBand 6 = .ok (.iload_n 2, 1) := by decide +kernel
theorem dX4_ofBand_7 : decode cX4_ofBand 7 = .ok (.iconst 0, 1) := by decide +kernel
theorem dX4_ofBand_8 : decode cX4_ofBand 8 = .ok (.iconst 4, 1) := by decide +kernel
theorem dX4_ofBand_9 : decode cX4_ofBand 9 = .ok (.invokestatic 53, 3) := by decide +kernel
theorem dX4_ofBand_12 : decode cX4_ofBand 12 = .ok (.ifCond .ne 13, 3) := by decide +kernel
theorem dX4_ofBand_15 : decode cX4_ofBand 15 = .ok (.new 57, 3) := by decide +kernel
theorem dX4_ofBand_18 : decode cX4_ofBand 18 = .ok (.dup, 1) := by decide +kernel
theorem dX4_ofBand_19 : decode cX4_ofBand 19 = .ok (.ldc 115, 2) := by decide +kernel
theorem dX4_ofBand_21 : decode cX4_ofBand 21 = .ok (.invokespecial 61, 3) := by decide +kernel
theorem dX4_ofBand_24 : decode cX4_ofBand 24 = .ok (.athrow, 1) := by decide +kernel
theorem dX4_ofBand_25 : decode cX4_ofBand 25 = .ok (.aload_n 3, 1) := by decide +kernel
theorem dX4_ofBand_26 : decode cX4_ofBand 26 = .ok (.iload_n 2, 1) := by decide +kernel
theorem dX4_ofBand_27 : decode cX4_ofBand 27 = .ok (.invokevirtual 294, 3) := by decide +kernel
theorem dX4_ofBand_30 : decode cX4_ofBand 30 = .ok (.ireturn, 1) := by decide +kernel
theorem dX4_bandOfNumber_0 : decode cX4_bandOfNumber 0 = .ok (.iload_n 1, 1) := by decide +kernel
theorem dX4_bandOfNumber_1 : decode cX4_bandOfNumber 1 = .ok (.ifCond .lt 14, 3) := by decide +kernel
theorem dX4_bandOfNumber_4 : decode cX4_bandOfNumber 4 = .ok (.iload_n 1, 1) := by decide +kernel
theorem dX4_bandOfNumber_5 : decode cX4_bandOfNumber 5 = .ok (.aload_n 0, 1) := by decide +kernel
theorem dX4_bandOfNumber_6 : decode cX4_bandOfNumber 6 = .ok (.getfield 42, 3) := by decide +kernel
theorem dX4_bandOfNumber_9 : decode cX4_bandOfNumber 9 = .ok (.invokevirtual 64, 3) := by decide +kernel
theorem dX4_bandOfNumber_12 : decode cX4_bandOfNumber 12 = .ok (.if_icmp .lt 14, 3) := by decide +kernel
theorem dX4_bandOfNumber_15 : decode cX4_bandOfNumber 15 = .ok (.new 110, 3) := by decide +kernel
theorem dX4_bandOfNumber_18 : decode cX4_bandOfNumber 18 = .ok (.dup, 1) := by decide +kernel
theorem dX4_bandOfNumber_19 : decode cX4_bandOfNumber 19 = .ok (.ldc_w 295, 3) := by decide +kernel
theorem dX4_bandOfNumber_22 : decode cX4_bandOfNumber 22 = .ok (.invokespecial 114, 3) := by decide +kernel
theorem dX4_bandOfNumber_25 : decode cX4_bandOfNumber 25 = .ok (.athrow, 1) := by decide +kernel
theorem dX4_bandOfNumber_26 : decode cX4_bandOfNumber 26 = .ok (.aload_n 0, 1) := by decide +kernel
theorem dX4_bandOfNumber_27 : decode cX4_bandOfNumber 27 = .ok (.getfield 42, 3) := by decide +kernel
theorem dX4_bandOfNumber_30 : decode cX4_bandOfNumber 30 = .ok (.iload_n 1, 1) := by decide +kernel
theorem dX4_bandOfNumber_31 : decode cX4_bandOfNumber 31 = .ok (.invokevirtual 134, 3) := by decide +kernel
theorem dX4_bandOfNumber_34 : decode cX4_bandOfNumber 34 = .ok (.checkcast 238, 3) := by decide +kernel
theorem dX4_bandOfNumber_37 : decode cX4_bandOfNumber 37 = .ok (.areturn, 1) := by decide +kernel
theorem dX4_bandsOfGrade_0 : decode cX4_bandsOfGrade 0 = .ok (.iconst 0, 1) := by decide +kernel
theorem dX4_bandsOfGrade_1 : decode cX4_bandsOfGrade 1 = .ok (.istore_n 2, 1) := by decide +kernel
theorem dX4_bandsOfGrade_2 : decode cX4_bandsOfGrade 2 = .ok (.iconst 0, 1) := by decide +kernel
theorem dX4_bandsOfGrade_3 : decode cX4_bandsOfGrade 3 = .ok (.istore_n 3, 1) := by decide +kernel
theorem dX4_bandsOfGrade_4 : decode cX4_bandsOfGrade 4 = .ok (.iload_n 3, 1) := by decide +kernel
theorem dX4_bandsOfGrade_5 : decode cX4_bandsOfGrade 5 = .ok (.aload_n 0, 1) := by decide +kernel
theorem dX4_bandsOfGrade_6 : decode cX4_bandsOfGrade 6 = .ok (.getfield 42, 3) := by decide +kernel
theorem dX4_bandsOfGrade_9 : decode cX4_bandsOfGrade 9 = .ok (.invokevirtual 64, 3) := by decide +kernel
theorem dX4_bandsOfGrade_12 : decode cX4_bandsOfGrade 12 = .ok (.if_icmp .ge 35, 3) := by decide +kernel
theorem dX4_bandsOfGrade_15 : decode cX4_bandsOfGrade 15 = .ok (.iload_n 2, 1) := by decide +kernel
theorem dX4_bandsOfGrade_16 : decode cX4_bandsOfGrade 16 = .ok (.aload_n 0, 1) := by decide +kernel
theorem dX4_bandsOfGrade_17 : decode cX4_bandsOfGrade 17 = .ok (.getfield 42, 3) := by decide +kernel
theorem dX4_bandsOfGrade_20 : decode cX4_bandsOfGrade 20 = .ok (.iload_n 3, 1) := by decide +kernel
theorem dX4_bandsOfGrade_21 : decode cX4_bandsOfGrade 21 = .ok (.invokevirtual 134, 3) := by decide +kernel
theorem dX4_bandsOfGrade_24 : decode cX4_bandsOfGrade 24 = .ok (.checkcast 238, 3) := by decide +kernel
theorem dX4_bandsOfGrade_27 : decode cX4_bandsOfGrade 27 = .ok (.getfield 246, 3) := by decide +kernel
theorem dX4_bandsOfGrade_30 : decode cX4_bandsOfGrade 30 = .ok (.iload_n 1, 1) := by decide +kernel
theorem dX4_bandsOfGrade_31 : decode cX4_bandsOfGrade 31 = .ok (.if_icmp .ne 7, 3) := by decide +kernel
theorem dX4_bandsOfGrade_34 : decode cX4_bandsOfGrade 34 = .ok (.iconst 1, 1) := by decide +kernel
theorem dX4_bandsOfGrade_35 : decode cX4_bandsOfGrade 35 = .ok (.goto 4, 3) := by decide +kernel
theorem dX4_bandsOfGrade_38 : decode cX4_bandsOfGrade 38 = .ok (.iconst 0, 1) := by decide +kernel
theorem dX4_bandsOfGrade_39 : decode cX4_bandsOfGrade 39 = .ok (.iadd, 1) := by decide +kernel
theorem dX4_bandsOfGrade_40 : decode cX4_bandsOfGrade 40 = .ok (.istore_n 2, 1) := by decide +kernel
theorem dX4_bandsOfGrade_41 : decode cX4_bandsOfGrade 41 = .ok (.iinc 3 1, 3) := by decide +kernel
theorem dX4_bandsOfGrade_44 : decode cX4_bandsOfGrade 44 = .ok (.goto (-40), 3) := by decide +kernel
theorem dX4_bandsOfGrade_47 : decode cX4_bandsOfGrade 47 = .ok (.iload_n 2, 1) := by decide +kernel
theorem dX4_bandsOfGrade_48 : decode cX4_bandsOfGrade 48 = .ok (.ireturn, 1) := by decide +kernel
theorem dX4_findPlaces_0 : decode cX4_findPlaces 0 = .ok (.iconst 0, 1) := by decide +kernel
theorem dX4_findPlaces_1 : decode cX4_findPlaces 1 = .ok (.istore_n 2, 1) := by decide +kernel
theorem dX4_findPlaces_2 : decode cX4_findPlaces 2 = .ok (.iconst 0, 1) := by decide +kernel
theorem dX4_findPlaces_3 : decode cX4_findPlaces 3 = .ok (.istore_n 3, 1) := by decide +kernel
theorem dX4_findPlaces_4 : decode cX4_findPlaces 4 = .ok (.iload_n 3, 1) := by decide +kernel
theorem dX4_findPlaces_5 : decode cX4_findPlaces 5 = .ok (.iconst 4, 1) := by decide +kernel
theorem dX4_findPlaces_6 : decode cX4_findPlaces 6 = .ok (.if_icmp .ge 84, 3) := by decide +kernel
theorem dX4_findPlaces_9 : decode cX4_findPlaces 9 = .ok (.iconst 1, 1) := by decide +kernel
theorem dX4_findPlaces_10 : decode cX4_findPlaces 10 = .ok (.istore 4, 2) := by decide +kernel
theorem dX4_findPlaces_12 : decode cX4_findPlaces 12 = .ok (.iconst 0, 1) := by decide +kernel
theorem dX4_findPlaces_13 : decode cX4_findPlaces 13 = .ok (.istore 5, 2) := by decide +kernel
theorem dX4_findPlaces_15 : decode cX4_findPlaces 15 = .ok (.iload 5, 2) := by decide +kernel
theorem dX4_findPlaces_17 : decode cX4_findPlaces 17 = .ok (.aload_n 0, 1) := by decide +kernel
theorem dX4_findPlaces_18 : decode cX4_findPlaces 18 = .ok (.getfield 42, 3) := by decide +kernel
theorem dX4_findPlaces_21 : decode cX4_findPlaces 21 = .ok (.invokevirtual 64, 3) := by decide +kernel
theorem dX4_findPlaces_24 : decode cX4_findPlaces 24 = .ok (.if_icmp .ge 48, 3) := by decide +kernel
theorem dX4_findPlaces_27 : decode cX4_findPlaces 27 = .ok (.aload_n 0, 1) := by decide +kernel
theorem dX4_findPlaces_28 : decode cX4_findPlaces 28 = .ok (.getfield 42, 3) := by decide +kernel
theorem dX4_findPlaces_31 : decode cX4_findPlaces 31 = .ok (.iload 5, 2) := by decide +kernel
theorem dX4_findPlaces_33 : decode cX4_findPlaces 33 = .ok (.invokevirtual 134, 3) := by decide +kernel
theorem dX4_findPlaces_36 : decode cX4_findPlaces 36 = .ok (.checkcast 238, 3) := by decide +kernel
theorem dX4_findPlaces_39 : decode cX4_findPlaces 39 = .ok (.astore 6, 2) := by decide +kernel
theorem dX4_findPlaces_41 : decode cX4_findPlaces 41 = .ok (.aload 6, 2) := by decide +kernel
theorem dX4_findPlaces_43 : decode cX4_findPlaces 43 = .ok (.getfield 249, 3) := by decide +kernel
theorem dX4_findPlaces_46 : decode cX4_findPlaces 46 = .ok (.ifCond .eq 20, 3) := by decide +kernel
theorem dX4_findPlaces_49 : decode cX4_findPlaces 49 = .ok (.aload 6, 2) := by decide +kernel
theorem dX4_findPlaces_51 : decode cX4_findPlaces 51 = .ok (.iload_n 3, 1) := by decide +kernel
theorem dX4_findPlaces_52 : decode cX4_findPlaces 52 = .ok (.invokevirtual 263, 3) := by decide +kernel
theorem dX4_findPlaces_55 : decode cX4_findPlaces 55 = .ok (.aload_n 1, 1) := by decide +kernel
theorem dX4_findPlaces_56 : decode cX4_findPlaces 56 = .ok (.iload_n 3, 1) := by decide +kernel
theorem dX4_findPlaces_57 : decode cX4_findPlaces 57 = .ok (.invokevirtual 263, 3) := by decide +kernel
theorem dX4_findPlaces_60 : decode cX4_findPlaces 60 = .ok (.if_icmp .le 6, 3) := by decide +kernel
theorem dX4_findPlaces_63 : decode cX4_findPlaces 63 = .ok (.iinc 4 1, 3) := by decide +kernel
theorem dX4_findPlaces_66 : decode cX4_findPlaces 66 = .ok (.iinc 5 1, 3) := by decide +kernel
theorem dX4_findPlaces_69 : decode cX4_findPlaces 69 = .ok (.goto (-54), 3) := by decide +kernel
theorem dX4_findPlaces_72 : decode cX4_findPlaces 72 = .ok (.aload_n 1, 1) := by decide +kernel
theorem dX4_findPlaces_73 : decode cX4_findPlaces 73 = .ok (.iload_n 3, 1) := by decide +kernel
theorem dX4_findPlaces_74 : decode cX4_findPlaces 74 = .ok (.iload 4, 2) := by decide +kernel
theorem dX4_findPlaces_76 : decode cX4_findPlaces 76 = .ok (.invokevirtual 297, 3) := by decide +kernel
theorem dX4_findPlaces_79 : decode cX4_findPlaces 79 = .ok (.iload_n 2, 1) := by decide +kernel
theorem dX4_findPlaces_80 : decode cX4_findPlaces 80 = .ok (.iload 4, 2) := by decide +kernel
theorem dX4_findPlaces_82 : decode cX4_findPlaces 82 = .ok (.iadd, 1) := by decide +kernel
theorem dX4_findPlaces_83 : decode cX4_findPlaces 83 = .ok (.istore_n 2, 1) := by decide +kernel
theorem dX4_findPlaces_84 : decode cX4_findPlaces 84 = .ok (.iinc 3 1, 3) := by decide +kernel
theorem dX4_findPlaces_87 : decode cX4_findPlaces 87 = .ok (.goto (-83), 3) := by decide +kernel
theorem dX4_findPlaces_90 : decode cX4_findPlaces 90 = .ok (.aload_n 1, 1) := by decide +kernel
theorem dX4_findPlaces_91 : decode cX4_findPlaces 91 = .ok (.iload_n 2, 1) := by decide +kernel
theorem dX4_findPlaces_92 : decode cX4_findPlaces 92 = .ok (.putfield 300, 3) := by decide +kernel
theorem dX4_findPlaces_95 : decode cX4_findPlaces 95 = .ok (.return_, 1) := by decide +kernel
theorem dX4_rankBands_0 : decode cX4_rankBands 0 = .ok (.iconst (-1), 1) := by decide +kernel
theorem dX4_rankBands_1 : decode cX4_rankBands 1 = .ok (.istore_n 1, 1) := by decide +kernel
theorem dX4_rankBands_2 : decode cX4_rankBands 2 = .ok (.iconst 0, 1) := by decide +kernel
theorem dX4_rankBands_3 : decode cX4_rankBands 3 = .ok (.istore_n 2, 1) := by decide +kernel
theorem dX4_rankBands_4 : decode cX4_rankBands 4 = .ok (.iload_n 2, 1) := by decide +kernel
theorem dX4_rankBands_5 : decode cX4_rankBands 5 = .ok (.aload_n 0, 1) := by decide +kernel
theorem dX4_rankBands_6 : decode cX4_rankBands 6 = .ok (.getfield 42, 3) := by decide +kernel
theorem dX4_rankBands_9 : decode cX4_rankBands 9 = .ok (.invokevirtual 64, 3) := by decide +kernel
theorem dX4_rankBands_12 : decode cX4_rankBands 12 = .ok (.if_icmp .ge 54, 3) := by decide +kernel
theorem dX4_rankBands_15 : decode cX4_rankBands 15 = .ok (.aload_n 0, 1) := by decide +kernel
theorem dX4_rankBands_16 : decode cX4_rankBands 16 = .ok (.getfield 42, 3) := by decide +kernel
theorem dX4_rankBands_19 : decode cX4_rankBands 19 = .ok (.iload_n 2, 1) := by decide +kernel
theorem dX4_rankBands_20 : decode cX4_rankBands 20 = .ok (.invokevirtual 134, 3) := by decide +kernel
theorem dX4_rankBands_23 : decode cX4_rankBands 23 = .ok (.checkcast 238, 3) := by decide +kernel
theorem dX4_rankBands_26 : decode cX4_rankBands 26 = .ok (.astore_n 3, 1) := by decide +kernel
theorem dX4_rankBands_27 : decode cX4_rankBands 27 = .ok (.aload_n 3, 1) := by decide +kernel
theorem dX4_rankBands_28 : decode cX4_rankBands 28 = .ok (.getfield 249, 3) := by decide +kernel
theorem dX4_rankBands_31 : decode cX4_rankBands 31 = .ok (.ifCond .ne 6, 3) := by decide +kernel
theorem dX4_rankBands_34 : decode cX4_rankBands 34 = .ok (.goto 26, 3) := by decide +kernel
theorem dX4_rankBands_37 : decode cX4_rankBands 37 = .ok (.iconst 1, 1) := by decide +kernel
theorem dX4_rankBands_38 : decode cX4_rankBands 38 = .ok (.aload_n 0, 1) := by decide +kernel
theorem dX4_rankBands_39 : decode cX4_rankBands 39 = .ok (.aload_n 3, 1) := by decide +kernel
theorem dX4_rankBands_40 : decode cX4_rankBands 40 = .ok (.invokevirtual 303, 3) := by decide +kernel
theorem dX4_rankBands_43 : decode cX4_rankBands 43 = .ok (.iadd, 1) := by decide +kernel
theorem dX4_rankBands_44 : decode cX4_rankBands 44 = .ok (.istore 4, 2) := by decide +kernel
theorem dX4_rankBands_46 : decode cX4_rankBands 46 = .ok (.aload_n 3, 1) := by decide +kernel
theorem dX4_rankBands_47 : decode cX4_rankBands 47 = .ok (.iload 4, 2) := by decide +kernel
theorem dX4_rankBands_49 : decode cX4_rankBands 49 = .ok (.invokevirtual 307, 3) := by decide +kernel
theorem dX4_rankBands_52 : decode cX4_rankBands 52 = .ok (.iload 4, 2) := by decide +kernel
theorem dX4_rankBands_54 : decode cX4_rankBands 54 = .ok (.iconst 1, 1) := by decide +kernel
theorem dX4_rankBands_55 : decode cX4_rankBands 55 = .ok (.if_icmp .ne 5, 3) := by decide +kernel
theorem dX4_rankBands_58 : decode cX4_rankBands 58 = .ok (.iload_n 2, 1) := by decide +kernel
theorem dX4_rankBands_59 : decode cX4_rankBands 59 = .ok (.istore_n 1, 1) := by decide +kernel
theorem dX4_rankBands_60 : decode cX4_rankBands 60 = .ok (.iinc 2 1, 3) := by decide +kernel
theorem dX4_rankBands_63 : decode cX4_rankBands 63 = .ok (.goto (-59), 3) := by decide +kernel
theorem dX4_rankBands_66 : decode cX4_rankBands 66 = .ok (.iload_n 1, 1) := by decide +kernel
theorem dX4_rankBands_67 : decode cX4_rankBands 67 = .ok (.ireturn, 1) := by decide +kernel
theorem dX4_bandsAheadOf_0 : decode cX4_bandsAheadOf 0 = .ok (.iconst 0, 1) := by decide +kernel
theorem dX4_bandsAheadOf_1 : decode cX4_bandsAheadOf 1 = .ok (.istore_n 2, 1) := by decide +kernel
theorem dX4_bandsAheadOf_2 : decode cX4_bandsAheadOf 2 = .ok (.iconst 0, 1) := by decide +kernel
theorem dX4_bandsAheadOf_3 : decode cX4_bandsAheadOf 3 = .ok (.istore_n 3, 1) := by decide +kernel
theorem dX4_bandsAheadOf_4 : decode cX4_bandsAheadOf 4 = .ok (.iload_n 3, 1) := by decide +kernel
theorem dX4_bandsAheadOf_5 : decode cX4_bandsAheadOf 5 = .ok (.aload_n 0, 1) := by decide +kernel
theorem dX4_bandsAheadOf_6 : decode cX4_bandsAheadOf 6 = .ok (.getfield 42, 3) := by decide +kernel
theorem dX4_bandsAheadOf_9 : decode cX4_bandsAheadOf 9 = .ok (.invokevirtual 64, 3) := by decide +kernel
theorem dX4_bandsAheadOf_12 : decode cX4_bandsAheadOf 12 = .ok (.if_icmp .ge 42, 3) := by decide +kernel
theorem dX4_bandsAheadOf_15 : decode cX4_bandsAheadOf 15 = .ok (.aload_n 0, 1) := by decide +kernel
theorem dX4_bandsAheadOf_16 : decode cX4_bandsAheadOf 16 = .ok (.getfield 42, 3) := by decide +kernel
theorem dX4_bandsAheadOf_19 : decode cX4_bandsAheadOf 19 = .ok (.iload_n 3, 1) := by decide +kernel
theorem dX4_bandsAheadOf_20 : decode cX4_bandsAheadOf 20 = .ok (.invokevirtual 134, 3) := by decide +kernel
theorem dX4_bandsAheadOf_23 : decode cX4_bandsAheadOf 23 = .ok (.checkcast 238, 3) := by decide +kernel
theorem dX4_bandsAheadOf_26 : decode cX4_bandsAheadOf 26 = .ok (.astore 4, 2) := by decide +kernel
theorem dX4_bandsAheadOf_28 : decode cX4_bandsAheadOf 28 = .ok (.aload 4, 2) := by decide +kernel
theorem dX4_bandsAheadOf_30 : decode cX4_bandsAheadOf 30 = .ok (.getfield 249, 3) := by decide +kernel
theorem dX4_bandsAheadOf_33 : decode cX4_bandsAheadOf 33 = .ok (.ifCond .eq 15, 3) := by decide +kernel
theorem dX4_bandsAheadOf_36 : decode cX4_bandsAheadOf 36 = .ok (.aload 4, 2) := by decide +kernel
theorem dX4_bandsAheadOf_38 : decode cX4_bandsAheadOf 38 = .ok (.aload_n 1, 1) := by decide +kernel
theorem dX4_bandsAheadOf_39 : decode cX4_bandsAheadOf 39 = .ok (.invokevirtual 310, 3) := by decide +kernel
theorem dX4_bandsAheadOf_42 : decode cX4_bandsAheadOf 42 = .ok (.ifCond .eq 6, 3) := by decide +kernel
theorem dX4_bandsAheadOf_45 : decode cX4_bandsAheadOf 45 = .ok (.iinc 2 1, 3) := by decide +kernel
theorem dX4_bandsAheadOf_48 : decode cX4_bandsAheadOf 48 = .ok (.iinc 3 1, 3) := by decide +kernel
theorem dX4_bandsAheadOf_51 : decode cX4_bandsAheadOf 51 = .ok (.goto (-47), 3) := by decide +kernel
theorem dX4_bandsAheadOf_54 : decode cX4_bandsAheadOf 54 = .ok (.iload_n 2, 1) := by decide +kernel
theorem dX4_bandsAheadOf_55 : decode cX4_bandsAheadOf 55 = .ok (.ireturn, 1) := by decide +kernel
theorem dX4_sendUpFrom_0 : decode cX4_sendUpFrom 0 = .ok (.iconst (-1), 1) := by decide +kernel
theorem dX4_sendUpFrom_1 : decode cX4_sendUpFrom 1 = .ok (.istore_n 2, 1) := by decide +kernel
theorem dX4_sendUpFrom_2 : decode cX4_sendUpFrom 2 = .ok (.iconst 0, 1) := by decide +kernel
theorem dX4_sendUpFrom_3 : decode cX4_sendUpFrom 3 = .ok (.istore_n 3, 1) := by decide +kernel
theorem dX4_sendUpFrom_4 : decode cX4_sendUpFrom 4 = .ok (.iconst 0, 1) := by decide +kernel
theorem dX4_sendUpFrom_5 : decode cX4_sendUpFrom 5 = .ok (.istore 4, 2) := by decide +kernel
theorem dX4_sendUpFrom_7 : decode cX4_sendUpFrom 7 = .ok (.iload 4, 2) := by decide +kernel
theorem dX4_sendUpFrom_9 : decode cX4_sendUpFrom 9 = .ok (.aload_n 0, 1) := by decide +kernel
theorem dX4_sendUpFrom_10 : decode cX4_sendUpFrom 10 = .ok (.getfield 42, 3) := by decide +kernel
theorem dX4_sendUpFrom_13 : decode cX4_sendUpFrom 13 = .ok (.invokevirtual 64, 3) := by decide +kernel
theorem dX4_sendUpFrom_16 : decode cX4_sendUpFrom 16 = .ok (.if_icmp .ge 50, 3) := by decide +kernel
theorem dX4_sendUpFrom_19 : decode cX4_sendUpFrom 19 = .ok (.aload_n 0, 1) := by decide +kernel
theorem dX4_sendUpFrom_20 : decode cX4_sendUpFrom 20 = .ok (.getfield 42, 3) := by decide +kernel
theorem dX4_sendUpFrom_23 : decode cX4_sendUpFrom 23 = .ok (.iload 4, 2) := by decide +kernel
theorem dX4_sendUpFrom_25 : decode cX4_sendUpFrom 25 = .ok (.invokevirtual 134, 3) := by decide +kernel
theorem dX4_sendUpFrom_28 : decode cX4_sendUpFrom 28 = .ok (.checkcast 238, 3) := by decide +kernel
theorem dX4_sendUpFrom_31 : decode cX4_sendUpFrom 31 = .ok (.astore 5, 2) := by decide +kernel
theorem dX4_sendUpFrom_33 : decode cX4_sendUpFrom 33 = .ok (.aload 5, 2) := by decide +kernel
theorem dX4_sendUpFrom_35 : decode cX4_sendUpFrom 35 = .ok (.getfield 246, 3) := by decide +kernel
theorem dX4_sendUpFrom_38 : decode cX4_sendUpFrom 38 = .ok (.iload_n 1, 1) := by decide +kernel
theorem dX4_sendUpFrom_39 : decode cX4_sendUpFrom 39 = .ok (.if_icmp .ne 21, 3) := by decide +kernel
theorem dX4_sendUpFrom_42 : decode cX4_sendUpFrom 42 = .ok (.aload 5, 2) := by decide +kernel
theorem dX4_sendUpFrom_44 : decode cX4_sendUpFrom 44 = .ok (.getfield 314, 3) := by decide +kernel
theorem dX4_sendUpFrom_47 : decode cX4_sendUpFrom 47 = .ok (.iload_n 3, 1) := by decide +kernel
theorem dX4_sendUpFrom_48 : decode cX4_sendUpFrom 48 = .ok (.if_icmp .le 12, 3) := by decide +kernel
theorem dX4_sendUpFrom_51 : decode cX4_sendUpFrom 51 = .ok (.iload 4, 2) := by decide +kernel
theorem dX4_sendUpFrom_53 : decode cX4_sendUpFrom 53 = .ok (.istore_n 2, 1) := by decide +kernel
theorem dX4_sendUpFrom_54 : decode cX4_sendUpFrom 54 = .ok (.aload 5, 2) := by decide +kernel
theorem dX4_sendUpFrom_56 : decode cX4_sendUpFrom 56 = .ok (.getfield 314, 3) := by decide +kernel
theorem dX4_sendUpFrom_59 : decode cX4_sendUpFrom 59 = .ok (.istore_n 3, 1) := by decide +kernel
theorem dX4_sendUpFrom_60 : decode cX4_sendUpFrom 60 = .ok (.iinc 4 1, 3) := by decide +kernel
theorem dX4_sendUpFrom_63 : decode cX4_sendUpFrom 63 = .ok (.goto (-56), 3) := by decide +kernel
theorem dX4_sendUpFrom_66 : decode cX4_sendUpFrom 66 = .ok (.iload_n 2, 1) := by decide +kernel
theorem dX4_sendUpFrom_67 : decode cX4_sendUpFrom 67 = .ok (.ifCond .lt 31, 3) := by decide +kernel
theorem dX4_sendUpFrom_70 : decode cX4_sendUpFrom 70 = .ok (.iload_n 2, 1) := by decide +kernel
theorem dX4_sendUpFrom_71 : decode cX4_sendUpFrom 71 = .ok (.aload_n 0, 1) := by decide +kernel
theorem dX4_sendUpFrom_72 : decode cX4_sendUpFrom 72 = .ok (.getfield 42, 3) := by decide +kernel
theorem dX4_sendUpFrom_75 : decode cX4_sendUpFrom 75 = .ok (.invokevirtual 64, 3) := by decide +kernel
theorem dX4_sendUpFrom_78 : decode cX4_sendUpFrom 78 = .ok (.if_icmp .ge 20, 3) := by decide +kernel
theorem dX4_sendUpFrom_81 : decode cX4_sendUpFrom 81 = .ok (.aload_n 0, 1) := by decide +kernel
theorem dX4_sendUpFrom_82 : decode cX4_sendUpFrom 82 = .ok (.getfield 42, 3) := by decide +kernel
theorem dX4_sendUpFrom_85 : decode cX4_sendUpFrom 85 = .ok (.iload_n 2, 1) := by decide +kernel
theorem dX4_sendUpFrom_86 : decode cX4_sendUpFrom 86 = .ok (.invokevirtual 134, 3) := by decide +kernel
theorem dX4_sendUpFrom_89 : decode cX4_sendUpFrom 89 = .ok (.checkcast 238, 3) := by decide +kernel
theorem dX4_sendUpFrom_92 : decode cX4_sendUpFrom 92 = .ok (.iload_n 1, 1) := by decide +kernel
theorem dX4_sendUpFrom_93 : decode cX4_sendUpFrom 93 = .ok (.iconst 1, 1) := by decide +kernel
theorem dX4_sendUpFrom_94 : decode cX4_sendUpFrom 94 = .ok (.isub, 1) := by decide +kernel
theorem dX4_sendUpFrom_95 : decode cX4_sendUpFrom 95 = .ok (.putfield 317, 3) := by decide +kernel
theorem dX4_sendUpFrom_98 : decode cX4_sendUpFrom 98 = .ok (.return_, 1) := by decide +kernel
theorem dX4_sendDownFrom_0 : decode cX4_sendDownFrom 0 = .ok (.iconst (-1), 1) := by decide +kernel
theorem dX4_sendDownFrom_1 : decode cX4_sendDownFrom 1 = .ok (.istore_n 2, 1) := by decide +kernel
theorem dX4_sendDownFrom_2 : decode cX4_sendDownFrom 2 = .ok (.iconst 0, 1) := by decide +kernel
theorem dX4_sendDownFrom_3 : decode cX4_sendDownFrom 3 = .ok (.istore_n 3, 1) := by decide +kernel
theorem dX4_sendDownFrom_4 : decode cX4_sendDownFrom 4 = .ok (.iconst 0, 1) := by decide +kernel
theorem dX4_sendDownFrom_5 : decode cX4_sendDownFrom 5 = .ok (.istore 4, 2) := by decide +kernel
theorem dX4_sendDownFrom_7 : decode cX4_sendDownFrom 7 = .ok (.iload 4, 2) := by decide +kernel
theorem dX4_sendDownFrom_9 : decode cX4_sendDownFrom 9 = .ok (.aload_n 0, 1) := by decide +kernel
theorem dX4_sendDownFrom_10 : decode cX4_sendDownFrom 10 = .ok (.getfield 42, 3) := by decide +kernel
theorem dX4_sendDownFrom_13 : decode cX4_sendDownFrom 13 = .ok (.invokevirtual 64, 3) := by decide +kernel
theorem dX4_sendDownFrom_16 : decode cX4_sendDownFrom 16 = .ok (.if_icmp .ge 55, 3) := by decide +kernel
theorem dX4_sendDownFrom_19 : decode cX4_sendDownFrom 19 = .ok (.aload_n 0, 1) := by decide +kernel
theorem dX4_sendDownFrom_20 : decode cX4_sendDownFrom 20 = .ok (.getfield 42, 3) := by decide +kernel
theorem dX4_sendDownFrom_23 : decode cX4_sendDownFrom 23 = .ok (.iload 4, 2) := by decide +kernel
theorem dX4_sendDownFrom_25 : decode cX4_sendDownFrom 25 = .ok (.invokevirtual 134, 3) := by decide +kernel
theorem dX4_sendDownFrom_28 : decode cX4_sendDownFrom 28 = .ok (.checkcast 238, 3) := by decide +kernel
theorem dX4_sendDownFrom_31 : decode cX4_sendDownFrom 31 = .ok (.astore 5, 2) := by decide +kernel
theorem dX4_sendDownFrom_33 : decode cX4_sendDownFrom 33 = .ok (.aload 5, 2) := by decide +kernel
theorem dX4_sendDownFrom_35 : decode cX4_sendDownFrom 35 = .ok (.getfield 246, 3) := by decide +kernel
theorem dX4_sendDownFrom_38 : decode cX4_sendDownFrom 38 = .ok (.iload_n 1, 1) := by decide +kernel
theorem dX4_sendDownFrom_39 : decode cX4_sendDownFrom 39 = .ok (.if_icmp .ne 26, 3) := by decide +kernel
theorem dX4_sendDownFrom_42 : decode cX4_sendDownFrom 42 = .ok (.iload_n 2, 1) := by decide +kernel
theorem dX4_sendDownFrom_43 : decode cX4_sendDownFrom 43 = .ok (.iconst (-1), 1) := by decide +kernel
theorem dX4_sendDownFrom_44 : decode cX4_sendDownFrom 44 = .ok (.if_icmp .eq 12, 3) := by decide +kernel
theorem dX4_sendDownFrom_47 : decode cX4_sendDownFrom 47 = .ok (.aload 5, 2) := by decide +kernel
theorem dX4_sendDownFrom_49 : decode cX4_sendDownFrom 49 = .ok (.getfield 314, 3) := by decide +kernel
theorem dX4_sendDownFrom_52 : decode cX4_sendDownFrom 52 = .ok (.iload_n 3, 1) := by decide +kernel
theorem dX4_sendDownFrom_53 : decode cX4_sendDownFrom 53 = .ok (.if_icmp .gt 12, 3) := by decide +kernel
theorem dX4_sendDownFrom_56 : decode cX4_sendDownFrom 56 = .ok (.iload 4, 2) := by decide +kernel
theorem dX4_sendDownFrom_58 : decode cX4_sendDownFrom 58 = .ok (.istore_n 2, 1) := by decide +kernel
theorem dX4_sendDownFrom_59 : decode cX4_sendDownFrom 59 = .ok (.aload 5, 2) := by decide +kernel
theorem dX4_sendDownFrom_61 : decode cX4_sendDownFrom 61 = .ok (.getfield 314, 3) := by decide +kernel
theorem dX4_sendDownFrom_64 : decode cX4_sendDownFrom 64 = .ok (.istore_n 3, 1) := by decide +kernel
theorem dX4_sendDownFrom_65 : decode cX4_sendDownFrom 65 = .ok (.iinc 4 1, 3) := by decide +kernel
theorem dX4_sendDownFrom_68 : decode cX4_sendDownFrom 68 = .ok (.goto (-61), 3) := by decide +kernel
theorem dX4_sendDownFrom_71 : decode cX4_sendDownFrom 71 = .ok (.aload_n 0, 1) := by decide +kernel
theorem dX4_sendDownFrom_72 : decode cX4_sendDownFrom 72 = .ok (.iload_n 1, 1) := by decide +kernel
theorem dX4_sendDownFrom_73 : decode cX4_sendDownFrom 73 = .ok (.invokevirtual 241, 3) := by decide +kernel
theorem dX4_sendDownFrom_76 : decode cX4_sendDownFrom 76 = .ok (.iconst 2, 1) := by decide +kernel
theorem dX4_sendDownFrom_77 : decode cX4_sendDownFrom 77 = .ok (.if_icmp .lt 35, 3) := by decide +kernel
theorem dX4_sendDownFrom_80 : decode cX4_sendDownFrom 80 = .ok (.iload_n 2, 1) := by decide +kernel
theorem dX4_sendDownFrom_81 : decode cX4_sendDownFrom 81 = .ok (.ifCond .lt 31, 3) := by decide +kernel
theorem dX4_sendDownFrom_84 : decode cX4_sendDownFrom 84 = .ok (.iload_n 2, 1) := by decide +kernel
theorem dX4_sendDownFrom_85 : decode cX4_sendDownFrom 85 = .ok (.aload_n 0, 1) := by decide +kernel
theorem dX4_sendDownFrom_86 : decode cX4_sendDownFrom 86 = .ok (.getfield 42, 3) := by decide +kernel
theorem dX4_sendDownFrom_89 : decode cX4_sendDownFrom 89 = .ok (.invokevirtual 64, 3) := by decide +kernel
theorem dX4_sendDownFrom_92 : decode cX4_sendDownFrom 92 = .ok (.if_icmp .ge 20, 3) := by decide +kernel
theorem dX4_sendDownFrom_95 : decode cX4_sendDownFrom 95 = .ok (.aload_n 0, 1) := by decide +kernel
theorem dX4_sendDownFrom_96 : decode cX4_sendDownFrom 96 = .ok (.getfield 42, 3) := by decide +kernel
theorem dX4_sendDownFrom_99 : decode cX4_sendDownFrom 99 = .ok (.iload_n 2, 1) := by decide +kernel
theorem dX4_sendDownFrom_100 : decode cX4_sendDownFrom 100 = .ok (.invokevirtual 134, 3) := by decide +kernel
theorem dX4_sendDownFrom_103 : decode cX4_sendDownFrom 103 = .ok (.checkcast 238, 3) := by decide +kernel
theorem dX4_sendDownFrom_106 : decode cX4_sendDownFrom 106 = .ok (.iload_n 1, 1) := by decide +kernel
theorem dX4_sendDownFrom_107 : decode cX4_sendDownFrom 107 = .ok (.iconst 1, 1) := by decide +kernel
theorem dX4_sendDownFrom_108 : decode cX4_sendDownFrom 108 = .ok (.iadd, 1) := by decide +kernel
theorem dX4_sendDownFrom_109 : decode cX4_sendDownFrom 109 = .ok (.putfield 317, 3) := by decide +kernel
theorem dX4_sendDownFrom_112 : decode cX4_sendDownFrom 112 = .ok (.return_, 1) := by decide +kernel
theorem dX4_isWithin_0 : decode cX4_isWithin 0 = .ok (.iload_n 0, 1) := by decide +kernel
theorem dX4_isWithin_1 : decode cX4_isWithin 1 = .ok (.iload_n 1, 1) := by decide +kernel
theorem dX4_isWithin_2 : decode cX4_isWithin 2 = .ok (.if_icmp .lt 12, 3) := by decide +kernel
theorem dX4_isWithin_5 : decode cX4_isWithin 5 = .ok (.iload_n 0, 1) := by decide +kernel
theorem dX4_isWithin_6 : decode cX4_isWithin 6 = .ok (.iload_n 2, 1) := by decide +kernel
theorem dX4_isWithin_7 : decode cX4_isWithin 7 = .ok (.if_icmp .gt 7, 3) := by decide +kernel
theorem dX4_isWithin_10 : decode cX4_isWithin 10 = .ok (.iconst 1, 1) := by decide +kernel
theorem dX4_isWithin_11 : decode cX4_isWithin 11 = .ok (.goto 4, 3) := by decide +kernel
theorem dX4_isWithin_14 : decode cX4_isWithin 14 = .ok (.iconst 0, 1) := by decide +kernel
theorem dX4_isWithin_15 : decode cX4_isWithin 15 = .ok (.ireturn, 1) := by decide +kernel
end
section
theorem dX5_init_0 : decode cX5_init 0 = .ok (.aload_n 0, 1) := by decide +kernel
theorem dX5_init_1 : decode cX5_init 1 = .ok (.invokespecial 1, 3) := by decide +kernel
theorem dX5_init_4 : decode cX5_init 4 = .ok (.aload_n 0, 1) := by decide +kernel
theorem dX5_init_5 : decode cX5_init 5 = .ok (.bipush 10, 2) := by decide +kernel
theorem dX5_init_7 : decode cX5_init 7 = .ok (.newarray .int, 2) := by decide +kernel
theorem dX5_init_9 : decode cX5_init 9 = .ok (.putfield 7, 3) := by decide +kernel
theorem dX5_init_12 : decode cX5_init 12 = .ok (.aload_n 0, 1) := by decide +kernel
theorem dX5_init_13 : decode cX5_init 13 = .ok (.bipush 10, 2) := by decide +kernel
theorem dX5_init_15 : decode cX5_init 15 = .ok (.newarray .int, 2) := by decide +kernel
theorem dX5_init_17 : decode cX5_init 17 = .ok (.putfield 13, 3) := by decide +kernel
theorem dX5_init_20 : decode cX5_init 20 = .ok (.aload_n 0, 1) := by decide +kernel
theorem dX5_init_21 : decode cX5_init 21 = .ok (.bipush 10, 2) := by decide +kernel
theorem dX5_init_23 : decode cX5_init 23 = .ok (.newarray .int, 2) := by decide +kernel
theorem dX5_init_25 : decode cX5_init 25 = .ok (.putfield 16, 3) := by decide +kernel
theorem dX5_init_28 : decode cX5_init 28 = .ok (.aload_n 0, 1) := by decide +kernel
theorem dX5_init_29 : decode cX5_init 29 = .ok (.sipush 640, 3) := by decide +kernel
theorem dX5_init_32 : decode cX5_init 32 = .ok (.newarray .int, 2) := by decide +kernel
theorem dX5_init_34 : decode cX5_init 34 = .ok (.putfield 19, 3) := by decide +kernel
theorem dX5_init_37 : decode cX5_init 37 = .ok (.aload_n 0, 1) := by decide +kernel
theorem dX5_init_38 : decode cX5_init 38 = .ok (.sipush 640, 3) := by decide +kernel
theorem dX5_init_41 : decode cX5_init 41 = .ok (.newarray .int, 2) := by decide +kernel
theorem dX5_init_43 : decode cX5_init 43 = .ok (.putfield 22, 3) := by decide +kernel
theorem dX5_init_46 : decode cX5_init 46 = .ok (.aload_n 0, 1) := by decide +kernel
theorem dX5_init_47 : decode cX5_init 47 = .ok (.sipush 640, 3) := by decide +kernel
theorem dX5_init_50 : decode cX5_init 50 = .ok (.newarray .int, 2) := by decide +kernel
theorem dX5_init_52 : decode cX5_init 52 = .ok (.putfield 25, 3) := by decide +kernel
theorem dX5_init_55 : decode cX5_init 55 = .ok (.aload_n 0, 1) := by decide +kernel
theorem dX5_init_56 : decode cX5_init 56 = .ok (.bipush 80, 2) := by decide +kernel
theorem dX5_init_58 : decode cX5_init 58 = .ok (.newarray .int, 2) := by decide +kernel
theorem dX5_init_60 : decode cX5_init 60 = .ok (.putfield 28, 3) := by decide +kernel
theorem dX5_init_63 : decode cX5_init 63 = .ok (.aload_n 0, 1) := by decide +kernel
theorem dX5_init_64 : decode cX5_init 64 = .ok (.bipush 80, 2) := by decide +kernel
theorem dX5_init_66 : decode cX5_init 66 = .ok (.newarray .boolean, 2) := by decide +kernel
theorem dX5_init_68 : decode cX5_init 68 = .ok (.putfield 31, 3) := by decide +kernel
theorem dX5_init_71 : decode cX5_init 71 = .ok (.aload_n 0, 1) := by decide +kernel
theorem dX5_init_72 : decode cX5_init 72 = .ok (.sipush 128, 3) := by decide +kernel
theorem dX5_init_75 : decode cX5_init 75 = .ok (.newarray .int, 2) := by decide +kernel
theorem dX5_init_77 : decode cX5_init 77 = .ok (.putfield 35, 3) := by decide +kernel
theorem dX5_init_80 : decode cX5_init 80 = .ok (.aload_n 0, 1) := by decide +kernel
theorem dX5_init_81 : decode cX5_init 81 = .ok (.sipush 128, 3) := by decide +kernel
theorem dX5_init_84 : decode cX5_init 84 = .ok (.newarray .int, 2) := by decide +kernel
theorem dX5_init_86 : decode cX5_init 86 = .ok (.putfield 38, 3) := by decide +kernel
theorem dX5_init_89 : decode cX5_init 89 = .ok (.aload_n 0, 1) := by decide +kernel
theorem dX5_init_90 : decode cX5_init 90 = .ok (.sipush 128, 3) := by decide +kernel
theorem dX5_init_93 : decode cX5_init 93 = .ok (.newarray .int, 2) := by decide +kernel
theorem dX5_init_95 : decode cX5_init 95 = .ok (.putfield 41, 3) := by decide +kernel
theorem dX5_init_98 : decode cX5_init 98 = .ok (.aload_n 0, 1) := by decide +kernel
theorem dX5_init_99 : decode cX5_init 99 = .ok (.sipush 129, 3) := by decide +kernel
theorem dX5_init_102 : decode cX5_init 102 = .ok (.newarray .int, 2) := by decide +kernel
theorem dX5_init_104 : decode cX5_init 104 = .ok (.putfield 44, 3) := by decide +kernel
theorem dX5_init_107 : decode cX5_init 107 = .ok (.aload_n 0, 1) := by decide +kernel
theorem dX5_init_108 : decode cX5_init 108 = .ok (.bipush 8, 2) := by decide +kernel
theorem dX5_init_110 : decode cX5_init 110 = .ok (.newarray .int, 2) := by decide +kernel
theorem dX5_init_112 : decode cX5_init 112 = .ok (.putfield 47, 3) := by decide +kernel
theorem dX5_init_115 : decode cX5_init 115 = .ok (.aload_n 0, 1) := by decide +kernel
theorem dX5_init_116 : decode cX5_init 116 = .ok (.bipush 8, 2) := by decide +kernel
theorem dX5_init_118 : decode cX5_init 118 = .ok (.newarray .int, 2) := by decide +kernel
theorem dX5_init_120 : decode cX5_init 120 = .ok (.putfield 50, 3) := by decide +kernel
theorem dX5_init_123 : decode cX5_init 123 = .ok (.aload_n 0, 1) := by decide +kernel
theorem dX5_init_124 : decode cX5_init 124 = .ok (.bipush 8, 2) := by decide +kernel
theorem dX5_init_126 : decode cX5_init 126 = .ok (.newarray .int, 2) := by decide +kernel
theorem dX5_init_128 : decode cX5_init 128 = .ok (.putfield 53, 3) := by decide +kernel
theorem dX5_init_131 : decode cX5_init 131 = .ok (.aload_n 0, 1) := by decide +kernel
theorem dX5_init_132 : decode cX5_init 132 = .ok (.bipush 8, 2) := by decide +kernel
theorem dX5_init_134 : decode cX5_init 134 = .ok (.newarray .int, 2) := by decide +kernel
theorem dX5_init_136 : decode cX5_init 136 = .ok (.putfield 56, 3) := by decide +kernel
theorem dX5_init_139 : decode cX5_init 139 = .ok (.aload_n 0, 1) := by decide +kernel
theorem dX5_init_140 : decode cX5_init 140 = .ok (.bipush 8, 2) := by decide +kernel
theorem dX5_init_142 : decode cX5_init 142 = .ok (.newarray .int, 2) := by decide +kernel
theorem dX5_init_144 : decode cX5_init 144 = .ok (.putfield 59, 3) := by decide +kernel
theorem dX5_init_147 : decode cX5_init 147 = .ok (.aload_n 0, 1) := by decide +kernel
theorem dX5_init_148 : decode cX5_init 148 = .ok (.bipush 8, 2) := by decide +kernel
theorem dX5_init_150 : decode cX5_init 150 = .ok (.newarray .int, 2) := by decide +kernel
theorem dX5_init_152 : decode cX5_init 152 = .ok (.putfield 62, 3) := by decide +kernel
theorem dX5_init_155 : decode cX5_init 155 = .ok (.aload_n 0, 1) := by decide +kernel
theorem dX5_init_156 : decode cX5_init 156 = .ok (.bipush 8, 2) := by decide +kernel
theorem dX5_init_158 : decode cX5_init 158 = .ok (.newarray .int, 2) := by decide +kernel
theorem dX5_init_160 : decode cX5_init 160 = .ok (.putfield 65, 3) := by decide +kernel
theorem dX5_init_163 : decode cX5_init 163 = .ok (.aload_n 0, 1) := by decide +kernel
theorem dX5_init_164 : decode cX5_init 164 = .ok (.bipush 8, 2) := by decide +kernel
theorem dX5_init_166 : decode cX5_init 166 = .ok (.newarray .int, 2) := by decide +kernel
theorem dX5_init_168 : decode cX5_init 168 = .ok (.putfield 68, 3) := by decide +kernel
theorem dX5_init_171 : decode cX5_init 171 = .ok (.aload_n 0, 1) := by decide +kernel
theorem dX5_init_172 : decode cX5_init 172 = .ok (.bipush 8, 2) := by decide +kernel
theorem dX5_init_174 : decode cX5_init 174 = .ok (.newarray .boolean, 2) := by decide +kernel
theorem dX5_init_176 : decode cX5_init 176 = .ok (.putfield 71, 3) := by decide +kernel
theorem dX5_init_179 : decode cX5_init 179 = .ok (.aload_n 0, 1) := by decide +kernel
theorem dX5_init_180 : decode cX5_init 180 = .ok (.bipush 8, 2) := by decide +kernel
theorem dX5_init_182 : decode cX5_init 182 = .ok (.newarray .int, 2) := by decide +kernel
theorem dX5_init_184 : decode cX5_init 184 = .ok (.putfield 74, 3) := by decide +kernel
theorem dX5_init_187 : decode cX5_init 187 = .ok (.aload_n 0, 1) := by decide +kernel
theorem dX5_init_188 : decode cX5_init 188 = .ok (.bipush 8, 2) := by decide +kernel
theorem dX5_init_190 : decode cX5_init 190 = .ok (.newarray .int, 2) := by decide +kernel
theorem dX5_init_192 : decode cX5_init 192 = .ok (.putfield 77, 3) := by decide +kernel
theorem dX5_init_195 : decode cX5_init 195 = .ok (.aload_n 0, 1) := by decide +kernel
theorem dX5_init_196 : decode cX5_init 196 = .ok (.bipush 8, 2) := by decide +kernel
theorem dX5_init_198 : decode cX5_init 198 = .ok (.newarray .int, 2) := by decide +kernel
theorem dX5_init_200 : decode cX5_init 200 = .ok (.putfield 80, 3) := by decide +kernel
theorem dX5_init_203 : decode cX5_init 203 = .ok (.aload_n 0, 1) := by decide +kernel
theorem dX5_init_204 : decode cX5_init 204 = .ok (.bipush 8, 2) := by decide +kernel
theorem dX5_init_206 : decode cX5_init 206 = .ok (.newarray .int, 2) := by decide +kernel
theorem dX5_init_208 : decode cX5_init 208 = .ok (.putfield 83, 3) := by decide +kernel
theorem dX5_init_211 : decode cX5_init 211 = .ok (.aload_n 0, 1) := by decide +kernel
theorem dX5_init_212 : decode cX5_init 212 = .ok (.bipush 8, 2) := by decide +kernel
theorem dX5_init_214 : decode cX5_init 214 = .ok (.newarray .int, 2) := by decide +kernel
theorem dX5_init_216 : decode cX5_init 216 = .ok (.putfield 86, 3) := by decide +kernel
theorem dX5_init_219 : decode cX5_init 219 = .ok (.aload_n 0, 1) := by decide +kernel
theorem dX5_init_220 : decode cX5_init 220 = .ok (.bipush 8, 2) := by decide +kernel
theorem dX5_init_222 : decode cX5_init 222 = .ok (.newarray .int, 2) := by decide +kernel
theorem dX5_init_224 : decode cX5_init 224 = .ok (.putfield 89, 3) := by decide +kernel
theorem dX5_init_227 : decode cX5_init 227 = .ok (.aload_n 0, 1) := by decide +kernel
theorem dX5_init_228 : decode cX5_init 228 = .ok (.bipush 8, 2) := by decide +kernel
theorem dX5_init_230 : decode cX5_init 230 = .ok (.newarray .int, 2) := by decide +kernel
theorem dX5_init_232 : decode cX5_init 232 = .ok (.putfield 92, 3) := by decide +kernel
theorem dX5_init_235 : decode cX5_init 235 = .ok (.aload_n 0, 1) := by decide +kernel
theorem dX5_init_236 : decode cX5_init 236 = .ok (.bipush 8, 2) := by decide +kernel
theorem dX5_init_238 : decode cX5_init 238 = .ok (.newarray .int, 2) := by decide +kernel
theorem dX5_init_240 : decode cX5_init 240 = .ok (.putfield 95, 3) := by decide +kernel
theorem dX5_init_243 : decode cX5_init 243 = .ok (.aload_n 0, 1) := by decide +kernel
theorem dX5_init_244 : decode cX5_init 244 = .ok (.bipush 8, 2) := by decide +kernel
theorem dX5_init_246 : decode cX5_init 246 = .ok (.newarray .int, 2) := by decide +kernel
theorem dX5_init_248 : decode cX5_init 248 = .ok (.putfield 98, 3) := by decide +kernel
theorem dX5_init_251 : decode cX5_init 251 = .ok (.aload_n 0, 1) := by decide +kernel
theorem dX5_init_252 : decode cX5_init 252 = .ok (.bipush 8, 2) := by decide +kernel
theorem dX5_init_254 : decode cX5_init 254 = .ok (.newarray .int, 2) := by decide +kernel
theorem dX5_init_256 : decode cX5_init 256 = .ok (.putfield 101, 3) := by decide +kernel
theorem dX5_init_259 : decode cX5_init 259 = .ok (.aload_n 0, 1) := by decide +kernel
theorem dX5_init_260 : decode cX5_init 260 = .ok (.bipush 32, 2) := by decide +kernel
theorem dX5_init_262 : decode cX5_init 262 = .ok (.newarray .int, 2) := by decide +kernel
theorem dX5_init_264 : decode cX5_init 264 = .ok (.putfield 104, 3) := by decide +kernel
theorem dX5_init_267 : decode cX5_init 267 = .ok (.return_, 1) := by decide +kernel
theorem dX5_thrown_0 : decode cX5_thrown 0 = .ok (.aload_n 0, 1) := by decide +kernel
theorem dX5_thrown_1 : decode cX5_thrown 1 = .ok (.getfield 107, 3) := by decide +kernel
theorem dX5_thrown_4 : decode cX5_thrown 4 = .ok (.ireturn, 1) := by decide +kernel
theorem dX5_isIn_0 : decode cX5_isIn 0 = .ok (.iload_n 0, 1) := by decide +kernel
theorem dX5_isIn_1 : decode cX5_isIn 1 = .ok (.iload_n 1, 1) := by decide +kernel
theorem dX5_isIn_2 : decode cX5_isIn 2 = .ok (.if_icmp .lt 12, 3) := by decide +kernel
theorem dX5_isIn_5 : decode cX5_isIn 5 = .ok (.iload_n 0, 1) := by decide +kernel
theorem dX5_isIn_6 : decode cX5_isIn 6 = .ok (.iload_n 2, 1) := by decide +kernel
theorem dX5_isIn_7 : decode cX5_isIn 7 = .ok (.if_icmp .gt 7, 3) := by decide +kernel
theorem dX5_isIn_10 : decode cX5_isIn 10 = .ok (.iconst 1, 1) := by decide +kernel
theorem dX5_isIn_11 : decode cX5_isIn 11 = .ok (.goto 4, 3) := by decide +kernel
theorem dX5_isIn_14 : decode cX5_isIn 14 = .ok (.iconst 0, 1) := by decide +kernel
theorem dX5_isIn_15 : decode cX5_isIn 15 = .ok (.ireturn, 1) := by decide +kernel
theorem dX5_isTune_0 : decode cX5_isTune 0 = .ok (.iload_n 1, 1) := by decide +kernel
theorem dX5_isTune_1 : decode cX5_isTune 1 = .ok (.iconst 0, 1) := by decide +kernel
theorem dX5_isTune_2 : decode cX5_isTune 2 = .ok (.aload_n 0, 1) := by decide +kernel
theorem dX5_isTune_3 : decode cX5_isTune 3 = .ok (.getfield 111, 3) := by decide +kernel
theorem dX5_isTune_6 : decode cX5_isTune 6 = .ok (.iconst 1, 1) := by decide +kernel
theorem dX5_isTune_7 : decode cX5_isTune 7 = .ok (.isub, 1) := by decide +kernel
theorem dX5_isTune_8 : decode cX5_isTune 8 = .ok (.invokestatic 114, 3) := by decide +kernel
theorem dX5_isTune_11 : decode cX5_isTune 11 = .ok (.ireturn, 1) := by decide +kernel
theorem dX5_barOf_0 : decode cX5_barOf 0 = .ok (.iload_n 0, 1) := by decide +kernel
theorem dX5_barOf_1 : decode cX5_barOf 1 = .ok (.iconst 1, 1) := by decide +kernel
theorem dX5_barOf_2 : decode cX5_barOf 2 = .ok (.if_icmp .ne 8, 3) := by decide +kernel
theorem dX5_barOf_5 : decode cX5_barOf 5 = .ok (.bipush 16, 2) := by decide +kernel
theorem dX5_barOf_7 : decode cX5_barOf 7 = .ok (.goto 15, 3) := by decide +kernel
theorem dX5_barOf_10 : decode cX5_barOf 10 = .ok (.iload_n 0, 1) := by decide +kernel
theorem dX5_barOf_11 : decode cX5_barOf 11 = .ok (.iconst 3, 1) := by decide +kernel
theorem dX5_barOf_12 : decode cX5_barOf 12 = .ok (.if_icmp .ne 8, 3) := by decide +kernel
theorem dX5_barOf_15 : decode cX5_barOf 15 = .ok (.bipush 6, 2) := by decide +kernel
theorem dX5_barOf_17 : decode cX5_barOf 17 = .ok (.goto 5, 3) := by decide +kernel
theorem dX5_barOf_20 : decode cX5_barOf 20 = .ok (.bipush 8, 2) := by decide +kernel
theorem dX5_barOf_22 : decode cX5_barOf 22 = .ok (.ireturn, 1) := by decide +kernel
theorem dX5_tune_0 : decode cX5_tune 0 = .ok (.aload_n 0, 1) := by decide +kernel
theorem dX5_tune_1 : decode cX5_tune 1 = .ok (.iload_n 1, 1) := by decide +kernel
theorem dX5_tune_2 : decode cX5_tune 2 = .ok (.iconst 0, 1) := by decide +kernel
theorem dX5_tune_3 : decode cX5_tune 3 = .ok (.iconst 3, 1) := by decide +kernel
theorem dX5_tune_4 : decode cX5_tune 4 = .ok (.invokestatic 114, 3) := by decide +kernel
theorem dX5_tune_7 : decode cX5_tune 7 = .ok (.ifCond .ne 7, 3) := by decide +kernel
theorem dX5_tune_10 : decode cX5_tune 10 = .ok (.iconst 1, 1) := by decide +kernel
theorem dX5_tune_11 : decode cX5_tune 11 = .ok (.goto 17, 3) := by decide +kernel
theorem dX5_tune_14 : decode cX5_tune 14 = .ok (.aload_n 0, 1) := by decide +kernel
theorem dX5_tune_15 : decode cX5_tune 15 = .ok (.getfield 111, 3) := by decide +kernel
theorem dX5_tune_18 : decode cX5_tune 18 = .ok (.bipush 10, 2) := by decide +kernel
theorem dX5_tune_20 : decode cX5_tune 20 = .ok (.if_icmp .ne 7, 3) := by decide +kernel
theorem dX5_tune_23 : decode cX5_tune 23 = .ok (.iconst 2, 1) := by decide +kernel
theorem dX5_tune_24 : decode cX5_tune 24 = .ok (.goto 4, 3) := by decide +kernel
theorem dX5_tune_27 : decode cX5_tune 27 = .ok (.iconst 0, 1) := by decide +kernel
theorem dX5_tune_28 : decode cX5_tune 28 = .ok (.putfield 107, 3) := by decide +kernel
theorem dX5_tune_31 : decode cX5_tune 31 = .ok (.aload_n 0, 1) := by decide +kernel
theorem dX5_tune_32 : decode cX5_tune 32 = .ok (.getfield 107, 3) := by decide +kernel
theorem dX5_tune_35 : decode cX5_tune 35 = .ok (.ifCond .le 5, 3) := by decide +kernel
theorem dX5_tune_38 : decode cX5_tune 38 = .ok (.iconst 0, 1) := by decide +kernel
theorem dX5_tune_39 : decode cX5_tune 39 = .ok (.ireturn, 1) := by decide +kernel
theorem dX5_tune_40 : decode cX5_tune 40 = .ok (.aload_n 0, 1) := by decide +kernel
theorem dX5_tune_41 : decode cX5_tune 41 = .ok (.getfield 7, 3) := by decide +kernel
theorem dX5_tune_44 : decode cX5_tune 44 = .ok (.aload_n 0, 1) := by decide +kernel
theorem dX5_tune_45 : decode cX5_tune 45 = .ok (.getfield 111, 3) := by decide +kernel
theorem dX5_tune_48 : decode cX5_tune 48 = .ok (.iload_n 1, 1) := by decide +kernel
theorem dX5_tune_49 : decode cX5_tune 49 = .ok (.iastore, 1) := by decide +kernel
theorem dX5_tune_50 : decode cX5_tune 50 = .ok (.aload_n 0, 1) := by decide +kernel
theorem dX5_tune_51 : decode cX5_tune 51 = .ok (.dup, 1) := by decide +kernel
theorem dX5_tune_52 : decode cX5_tune 52 = .ok (.getfield 111, 3) := by decide +kernel
theorem dX5_tune_55 : decode cX5_tune 55 = .ok (.iconst 1, 1) := by decide +kernel
theorem dX5_tune_56 : decode cX5_tune 56 = .ok (.iadd, 1) := by decide +kernel
theorem dX5_tune_57 : decode cX5_tune 57 = .ok (.putfield 111, 3) := by decide +kernel
theorem dX5_tune_60 : decode cX5_tune 60 = .ok (.aload_n 0, 1) := by decide +kernel
theorem dX5_tune_61 : decode cX5_tune 61 = .ok (.getfield 111, 3) := by decide +kernel
theorem dX5_tune_64 : decode cX5_tune 64 = .ok (.iconst 1, 1) := by decide +kernel
theorem dX5_tune_65 : decode cX5_tune 65 = .ok (.isub, 1) := by decide +kernel
theorem dX5_tune_66 : decode cX5_tune 66 = .ok (.ireturn, 1) := by decide +kernel
theorem dX5_openFrom_0 : decode cX5_openFrom 0 = .ok (.aload_n 0, 1) := by decide +kernel
theorem dX5_openFrom_1 : decode cX5_openFrom 1 = .ok (.getfield 16, 3) := by decide +kernel
theorem dX5_openFrom_4 : decode cX5_openFrom 4 = .ok (.iload_n 1, 1) := by decide +kernel
theorem dX5_openFrom_5 : decode cX5_openFrom 5 = .ok (.iaload, 1) := by decide +kernel
theorem dX5_openFrom_6 : decode cX5_openFrom 6 = .ok (.ifCond .ne 7, 3) := by decide +kernel
theorem dX5_openFrom_9 : decode cX5_openFrom 9 = .ok (.iconst 0, 1) := by decide +kernel
theorem dX5_openFrom_10 : decode cX5_openFrom 10 = .ok (.goto 21, 3) := by decide +kernel
theorem dX5_openFrom_13 : decode cX5_openFrom 13 = .ok (.aload_n 0, 1) := by decide +kernel
theorem dX5_openFrom_14 : decode cX5_openFrom 14 = .ok (.getfield 28, 3) := by decide +kernel
theorem dX5_openFrom_17 : decode cX5_openFrom 17 = .ok (.bipush 8, 2) := by decide +kernel
theorem dX5_openFrom_19 : decode cX5_openFrom 19 = .ok (.iload_n 1, 1) := by decide +kernel
theorem dX5_openFrom_20 : decode cX5_openFrom 20 = .ok (.imul, 1) := by decide +kernel
theorem dX5_openFrom_21 : decode cX5_openFrom 21 = .ok (.aload_n 0, 1) := by decide +kernel
theorem dX5_openFrom_22 : decode cX5_openFrom 22 = .ok (.getfield 16, 3) := by decide +kernel
theorem dX5_openFrom_25 : decode cX5_openFrom 25 = .ok (.iload_n 1, 1) := by decide +kernel
theorem dX5_openFrom_26 : decode cX5_openFrom 26 = .ok (.iaload, 1) := by decide +kernel
theorem dX5_openFrom_27 : decode cX5_openFrom 27 = .ok (.iadd, 1) := by decide +kernel
theorem dX5_openFrom_28 : decode cX5_openFrom 28 = .ok (.iconst 1, 1) := by decide +kernel
theorem dX5_openFrom_29 : decode cX5_openFrom 29 = .ok (.isub, 1) := by decide +kernel
theorem dX5_openFrom_30 : decode cX5_openFrom 30 = .ok (.iaload, 1) := by decide +kernel
theorem dX5_openFrom_31 : decode cX5_openFrom 31 = .ok (.ireturn, 1) := by decide +kernel
theorem dX5_openUnits_0 : decode cX5_openUnits 0 = .ok (.iconst 0, 1) := by decide +kernel
theorem dX5_openUnits_1 : decode cX5_openUnits 1 = .ok (.istore_n 2, 1) := by decide +kernel
theorem dX5_openUnits_2 : decode cX5_openUnits 2 = .ok (.aload_n 0, 1) := by decide +kernel
theorem dX5_openUnits_3 : decode cX5_openUnits 3 = .ok (.iload_n 1, 1) := by decide +kernel
theorem dX5_openUnits_4 : decode cX5_openUnits 4 = .ok (.invokevirtual 118, 3) := by decide +kernel
theorem dX5_openUnits_7 : decode cX5_openUnits 7 = .ok (.istore_n 3, 1) := by decide +kernel
theorem dX5_openUnits_8 : decode cX5_openUnits 8 = .ok (.iload_n 3, 1) := by decide +kernel
theorem dX5_openUnits_9 : decode cX5_openUnits 9 = .ok (.aload_n 0, 1) := by decide +kernel
theorem dX5_openUnits_10 : decode cX5_openUnits 10 = .ok (.getfield 13, 3) := by decide +kernel
theorem dX5_openUnits_13 : decode cX5_openUnits 13 = .ok (.iload_n 1, 1) := by decide +kernel
theorem dX5_openUnits_14 : decode cX5_openUnits 14 = .ok (.iaload, 1) := by decide +kernel
theorem dX5_openUnits_15 : decode cX5_openUnits 15 = .ok (.if_icmp .ge 23, 3) := by decide +kernel
theorem dX5_openUnits_18 : decode cX5_openUnits 18 = .ok (.iload_n 2, 1) := by decide +kernel
theorem dX5_openUnits_19 : decode cX5_openUnits 19 = .ok (.aload_n 0, 1) := by decide +kernel
theorem dX5_openUnits_20 : decode cX5_openUnits 20 = .ok (.getfield 22, 3) := by decide +kernel
theorem dX5_openUnits_23 : decode cX5_openUnits 23 = .ok (.bipush 64, 2) := by decide +kernel
theorem dX5_openUnits_25 : decode cX5_openUnits 25 = .ok (.iload_n 1, 1) := by decide +kernel
theorem dX5_openUnits_26 : decode cX5_openUnits 26 = .ok (.imul, 1) := by decide +kernel
theorem dX5_openUnits_27 : decode cX5_openUnits 27 = .ok (.iload_n 3, 1) := by decide +kernel
theorem dX5_openUnits_28 : decode cX5_openUnits 28 = .ok (.iadd, 1) := by decide +kernel
theorem dX5_openUnits_29 : decode cX5_openUnits 29 = .ok (.iaload, 1) := by decide +kernel
theorem dX5_openUnits_30 : decode cX5_openUnits 30 = .ok (.iadd, 1) := by decide +kernel
theorem dX5_openUnits_31 : decode cX5_openUnits 31 = .ok (.istore_n 2, 1) := by decide +kernel
theorem dX5_openUnits_32 : decode cX5_openUnits 32 = .ok (.iinc 3 1, 3) := by decide +kernel
theorem dX5_openUnits_35 : decode cX5_openUnits 35 = .ok (.goto (-27), 3) := by decide +kernel
theorem dX5_openUnits_38 : decode cX5_openUnits 38 = .ok (.iload_n 2, 1) := by decide +kernel
theorem dX5_openUnits_39 : decode cX5_openUnits 39 = .ok (.ireturn, 1) := by decide +kernel
theorem dX5_heightOf_0 : decode cX5_heightOf 0 = .ok (.iload_n 0, 1) := by decide +kernel
theorem dX5_heightOf_1 : decode cX5_heightOf 1 = .ok (.iconst 3, 1) := by decide +kernel
theorem dX5_heightOf_2 : decode cX5_heightOf 2 = .ok (.if_icmp .ge 9, 3) := by decide +kernel
theorem dX5_heightOf_5 : decode cX5_heightOf 5 = .ok (.iconst 3, 1) := by decide +kernel
theorem dX5_heightOf_6 : decode cX5_heightOf 6 = .ok (.iload_n 0, 1) := by decide +kernel
theorem dX5_heightOf_7 : decode cX5_heightOf 7 = .ok (.iadd, 1) := by decide +kernel
theorem dX5_heightOf_8 : decode cX5_heightOf 8 = .ok (.goto 6, 3) := by decide +kernel
theorem dX5_heightOf_11 : decode cX5_heightOf 11 = .ok (.iconst 4, 1) := by decide +kernel
theorem dX5_heightOf_12 : decode cX5_heightOf 12 = .ok (.iload_n 0, 1) := by decide +kernel
theorem dX5_heightOf_13 : decode cX5_heightOf 13 = .ok (.iadd, 1) := by decide +kernel
theorem dX5_heightOf_14 : decode cX5_heightOf 14 = .ok (.ireturn, 1) := by decide +kernel
theorem dX5_isLawful_0 : decode cX5_isLawful 0 = .ok (.iload_n 3, 1) := by decide +kernel
theorem dX5_isLawful_1 : decode cX5_isLawful 1 = .ok (.ifCond .ne 40, 3) := by decide +kernel
theorem dX5_isLawful_4 : decode cX5_isLawful 4 = .ok (.aload_n 0, 1) := by decide +kernel
theorem dX5_isLawful_5 : decode cX5_isLawful 5 = .ok (.getfield 13, 3) := by decide +kernel
theorem dX5_isLawful_8 : decode cX5_isLawful 8 = .ok (.iload_n 1, 1) := by decide +kernel
theorem dX5_isLawful_9 : decode cX5_isLawful 9 = .ok (.iaload, 1) := by decide +kernel
theorem dX5_isLawful_10 : decode cX5_isLawful 10 = .ok (.ifCond .eq 25, 3) := by decide +kernel
theorem dX5_isLawful_13 : decode cX5_isLawful 13 = .ok (.aload_n 0, 1) := by decide +kernel
theorem dX5_isLawful_14 : decode cX5_isLawful 14 = .ok (.getfield 19, 3) := by decide +kernel
theorem dX5_isLawful_17 : decode cX5_isLawful 17 = .ok (.bipush 64, 2) := by decide +kernel
theorem dX5_isLawful_19 : decode cX5_isLawful 19 = .ok (.iload_n 1, 1) := by decide +kernel
theorem dX5_isLawful_20 : decode cX5_isLawful 20 = .ok (.imul, 1) := by decide +kernel
theorem dX5_isLawful_21 : decode cX5_isLawful 21 = .ok (.aload_n 0, 1) := by decide +kernel
theorem dX5_isLawful_22 : decode cX5_isLawful 22 = .ok (.getfield 13, 3) := by decide +kernel
theorem dX5_isLawful_25 : decode cX5_isLawful 25 = .ok (.iload_n 1, 1) := by decide +kernel
theorem dX5_isLawful_26 : decode cX5_isLawful 26 = .ok (.iaload, 1) := by decide +kernel
theorem dX5_isLawful_27 : decode cX5_isLawful 27 = .ok (.iadd, 1) := by decide +kernel
theorem dX5_isLawful_28 : decode cX5_isLawful 28 = .ok (.iconst 1, 1) := by decide +kernel
theorem dX5_isLawful_29 : decode cX5_isLawful 29 = .ok (.isub, 1) := by decide +kernel
theorem dX5_isLawful_30 : decode cX5_isLawful 30 = .ok (.iaload, 1) := by decide +kernel
theorem dX5_isLawful_31 : decode cX5_isLawful 31 = .ok (.iload_n 2, 1) := by decide +kernel
theorem dX5_isLawful_32 : decode cX5_isLawful 32 = .ok (.if_icmp .eq 7, 3) := by decide +kernel
theorem dX5_isLawful_35 : decode cX5_isLawful 35 = .ok (.iconst 1, 1) := by decide +kernel
theorem dX5_isLawful_36 : decode cX5_isLawful 36 = .ok (.goto 4, 3) := by decide +kernel
theorem dX5_isLawful_39 : decode cX5_isLawful 39 = .ok (.iconst 0, 1) := by decide +kernel
theorem dX5_isLawful_40 : decode cX5_isLawful 40 = .ok (.ireturn, 1) := by decide +kernel
theorem dX5_isLawful_41 : decode cX5_isLawful 41 = .ok (.iload_n 3, 1) := by decide +kernel
theorem dX5_isLawful_42 : decode cX5_isLawful 42 = .ok (.iconst 4, 1) := by decide +kernel
theorem dX5_isLawful_43 : decode cX5_isLawful 43 = .ok (.if_icmp .gt 19, 3) := by decide +kernel
theorem dX5_isLawful_46 : decode cX5_isLawful 46 = .ok (.iload_n 3, 1) := by decide +kernel
theorem dX5_isLawful_47 : decode cX5_isLawful 47 = .ok (.invokestatic 122, 3) := by decide +kernel
theorem dX5_isLawful_50 : decode cX5_isLawful 50 = .ok (.iload_n 2, 1) := by decide +kernel
theorem dX5_isLawful_51 : decode cX5_isLawful 51 = .ok (.if_icmp .le 7, 3) := by decide +kernel
theorem dX5_isLawful_54 : decode cX5_isLawful 54 = .ok (.iconst 1, 1) := by decide +kernel
theorem dX5_isLawful_55 : decode cX5_isLawful 55 = .ok (.goto 74, 3) := by decide +kernel
theorem dX5_isLawful_58 : decode cX5_isLawful 58 = .ok (.iconst 0, 1) := by decide +kernel
theorem dX5_isLawful_59 : decode cX5_isLawful 59 = .ok (.goto 70, 3) := by decide +kernel
theorem dX5_isLawful_62 : decode cX5_isLawful 62 = .ok (.iload_n 3, 1) := by decide +kernel
theorem dX5_isLawful_63 : decode cX5_isLawful 63 = .ok (.iconst 5, 1) := by decide +kernel
theorem dX5_isLawful_64 : decode cX5_isLawful 64 = .ok (.if_icmp .ne 17, 3) := by decide +kernel
theorem dX5_isLawful_67 : decode cX5_isLawful 67 = .ok (.iload_n 2, 1) := by decide +kernel
theorem dX5_isLawful_68 : decode cX5_isLawful 68 = .ok (.bipush 6, 2) := by decide +kernel
theorem dX5_isLawful_70 : decode cX5_isLawful 70 = .ok (.if_icmp .gt 7, 3) := by decide +kernel
theorem dX5_isLawful_73 : decode cX5_isLawful 73 = .ok (.iconst 1, 1) := by decide +kernel
theorem dX5_isLawful_74 : decode cX5_isLawful 74 = .ok (.goto 55, 3) := by decide +kernel
theorem dX5_isLawful_77 : decode cX5_isLawful 77 = .ok (.iconst 0, 1) := by decide +kernel
theorem dX5_isLawful_78 : decode cX5_isLawful 78 = .ok (.goto 51, 3) := by decide +kernel
theorem dX5_isLawful_81 : decode cX5_isLawful 81 = .ok (.iload_n 3, 1) := by decide +kernel
theorem dX5_isLawful_82 : decode cX5_isLawful 82 = .ok (.bipush 6, 2) := by decide +kernel
theorem dX5_isLawful_84 : decode cX5_isLawful 84 = .ok (.if_icmp .ne 16, 3) := by decide +kernel
theorem dX5_isLawful_87 : decode cX5_isLawful 87 = .ok (.iload_n 2, 1) := by decide +kernel
theorem dX5_isLawful_88 : decode cX5_isLawful 88 = .ok (.iconst 1, 1) := by decide +kernel
theorem dX5_isLawful_89 : decode cX5_isLawful 89 = .ok (.if_icmp .lt 7, 3) := by decide +kernel
theorem dX5_isLawful_92 : decode cX5_isLawful 92 = .ok (.iconst 1, 1) := by decide +kernel
theorem dX5_isLawful_93 : decode cX5_isLawful 93 = .ok (.goto 36, 3) := by decide +kernel
theorem dX5_isLawful_96 : decode cX5_isLawful 96 = .ok (.iconst 0, 1) := by decide +kernel
theorem dX5_isLawful_97 : decode cX5_isLawful 97 = .ok (.goto 32, 3) := by decide +kernel
theorem dX5_isLawful_100 : decode cX5_isLawful 100 = .ok (.iload_n 3, 1) := by decide +kernel
theorem dX5_isLawful_101 : decode cX5_isLawful 101 = .ok (.bipush 7, 2) := by decide +kernel
theorem dX5_isLawful_103 : decode cX5_isLawful 103 = .ok (.if_icmp .ne 16, 3) := by decide +kernel
theorem dX5_isLawful_106 : decode cX5_isLawful 106 = .ok (.iload_n 2, 1) := by decide +kernel
theorem dX5_isLawful_107 : decode cX5_isLawful 107 = .ok (.iconst 4, 1) := by decide +kernel
theorem dX5_isLawful_108 : decode cX5_isLawful 108 = .ok (.if_icmp .ne 7, 3) := by decide +kernel
theorem dX5_isLawful_111 : decode cX5_isLawful 111 = .ok (.iconst 1, 1) := by decide +kernel
theorem dX5_isLawful_112 : decode cX5_isLawful 112 = .ok (.goto 17, 3) := by decide +kernel
theorem dX5_isLawful_115 : decode cX5_isLawful 115 = .ok (.iconst 0, 1) := by decide +kernel
theorem dX5_isLawful_116 : decode cX5_isLawful 116 = .ok (.goto 13, 3) := by decide +kernel
theorem dX5_isLawful_119 : decode cX5_isLawful 119 = .ok (.iload_n 2, 1) := by decide +kernel
theorem dX5_isLawful_120 : decode cX5_isLawful 120 = .ok (.iconst 1, 1) := by decide +kernel
theorem dX5_isLawful_121 : decode cX5_isLawful 121 = .ok (.if_icmp .ne 7, 3) := by decide +kernel
theorem dX5_isLawful_124 : decode cX5_isLawful 124 = .ok (.iconst 1, 1) := by decide +kernel
theorem dX5_isLawful_125 : decode cX5_isLawful 125 = .ok (.goto 4, 3) := by decide +kernel
theorem dX5_isLawful_128 : decode cX5_isLawful 128 = .ok (.iconst 0, 1) := by decide +kernel
theorem dX5_isLawful_129 : decode cX5_isLawful 129 = .ok (.ireturn, 1) := by decide +kernel
theorem dX5_note_0 : decode cX5_note 0 = .ok (.aload_n 0, 1) := by decide +kernel
theorem dX5_note_1 : decode cX5_note 1 = .ok (.aload_n 0, 1) := by decide +kernel
theorem dX5_note_2 : decode cX5_note 2 = .ok (.iload_n 1, 1) := by decide +kernel
theorem dX5_note_3 : decode cX5_note 3 = .ok (.invokevirtual 125, 3) := by decide +kernel
theorem dX5_note_6 : decode cX5_note 6 = .ok (.ifCond .ne 7, 3) := by decide +kernel
theorem dX5_note_9 : decode cX5_note 9 = .ok (.iconst 1, 1) := by decide +kernel
theorem dX5_note_10 : decode cX5_note 10 = .ok (.goto 39, 3) := by decide +kernel
theorem dX5_note_13 : decode cX5_note 13 = .ok (.iload_n 2, 1) := by decide +kernel
theorem dX5_note_14 : decode cX5_note 14 = .ok (.iconst 0, 1) := by decide +kernel
theorem dX5_note_15 : decode cX5_note 15 = .ok (.bipush 8, 2) := by decide +kernel
theorem dX5_note_17 : decode cX5_note 17 = .ok (.invokestatic 114, 3) := by decide +kernel
theorem dX5_note_20 : decode cX5_note 20 = .ok (.ifCond .eq 24, 3) := by decide +kernel
theorem dX5_note_23 : decode cX5_note 23 = .ok (.iload_n 3, 1) := by decide +kernel
theorem dX5_note_24 : decode cX5_note 24 = .ok (.iconst 1, 1) := by decide +kernel
theorem dX5_note_25 : decode cX5_note 25 = .ok (.bipush 16, 2) := by decide +kernel
theorem dX5_note_27 : decode cX5_note 27 = .ok (.invokestatic 114, 3) := by decide +kernel
theorem dX5_note_30 : decode cX5_note 30 = .ok (.ifCond .eq 14, 3) := by decide +kernel
theorem dX5_note_33 : decode cX5_note 33 = .ok (.iload 4, 2) := by decide +kernel
theorem dX5_note_35 : decode cX5_note 35 = .ok (.iconst 0, 1) := by decide +kernel
theorem dX5_note_36 : decode cX5_note 36 = .ok (.bipush 8, 2) := by decide +kernel
theorem dX5_note_38 : decode cX5_note 38 = .ok (.invokestatic 114, 3) := by decide +kernel
theorem dX5_note_41 : decode cX5_note 41 = .ok (.ifCond .ne 7, 3) := by decide +kernel
theorem dX5_note_44 : decode cX5_note 44 = .ok (.iconst 2, 1) := by decide +kernel
theorem dX5_note_45 : decode cX5_note 45 = .ok (.goto 4, 3) := by decide +kernel
theorem dX5_note_48 : decode cX5_note 48 = .ok (.iconst 0, 1) := by decide +kernel
theorem dX5_note_49 : decode cX5_note 49 = .ok (.putfield 107, 3) := by decide +kernel
theorem dX5_note_52 : decode cX5_note 52 = .ok (.aload_n 0, 1) := by decide +kernel
theorem dX5_note_53 : decode cX5_note 53 = .ok (.getfield 107, 3) := by decide +kernel
theorem dX5_note_56 : decode cX5_note 56 = .ok (.ifCond .le 5, 3) := by decide +kernel
theorem dX5_note_59 : decode cX5_note 59 = .ok (.iconst 0, 1) := by decide +kernel
theorem dX5_note_60 : decode cX5_note 60 = .ok (.ireturn, 1) := by decide +kernel
theorem dX5_note_61 : decode cX5_note 61 = .ok (.aload_n 0, 1) := by decide +kernel
theorem dX5_note_62 : decode cX5_note 62 = .ok (.getfield 7, 3) := by decide +kernel
theorem dX5_note_65 : decode cX5_note 65 = .ok (.iload_n 1, 1) := by decide +kernel
theorem dX5_note_66 : decode cX5_note 66 = .ok (.iaload, 1) := by decide +kernel
theorem dX5_note_67 : decode cX5_note 67 = .ok (.invokestatic 129, 3) := by decide +kernel
theorem dX5_note_70 : decode cX5_note 70 = .ok (.istore 5, 2) := by decide +kernel
theorem dX5_note_72 : decode cX5_note 72 = .ok (.aload_n 0, 1) := by decide +kernel
theorem dX5_note_73 : decode cX5_note 73 = .ok (.iload_n 1, 1) := by decide +kernel
theorem dX5_note_74 : decode cX5_note 74 = .ok (.iload_n 2, 1) := by decide +kernel
theorem dX5_note_75 : decode cX5_note 75 = .ok (.iload 4, 2) := by decide +kernel
theorem dX5_note_77 : decode cX5_note 77 = .ok (.invokevirtual 132, 3) := by decide +kernel
theorem dX5_note_80 : decode cX5_note 80 = .ok (.ifCond .eq 33, 3) := by decide +kernel
theorem dX5_note_83 : decode cX5_note 83 = .ok (.aload_n 0, 1) := by decide +kernel
theorem dX5_note_84 : decode cX5_note 84 = .ok (.iload_n 1, 1) := by decide +kernel
theorem dX5_note_85 : decode cX5_note 85 = .ok (.invokevirtual 135, 3) := by decide +kernel
theorem dX5_note_88 : decode cX5_note 88 = .ok (.iload 5, 2) := by decide +kernel
theorem dX5_note_90 : decode cX5_note 90 = .ok (.irem, 1) := by decide +kernel
theorem dX5_note_91 : decode cX5_note 91 = .ok (.iload_n 3, 1) := by decide +kernel
theorem dX5_note_92 : decode cX5_note 92 = .ok (.iadd, 1) := by decide +kernel
theorem dX5_note_93 : decode cX5_note 93 = .ok (.iload 5, 2) := by decide +kernel
theorem dX5_note_95 : decode cX5_note 95 = .ok (.if_icmp .gt 18, 3) := by decide +kernel
theorem dX5_note_98 : decode cX5_note 98 = .ok (.aload_n 0, 1) := by decide +kernel
theorem dX5_note_99 : decode cX5_note 99 = .ok (.getfield 13, 3) := by decide +kernel
theorem dX5_note_102 : decode cX5_note 102 = .ok (.iload_n 1, 1) := by decide +kernel
theorem dX5_note_103 : decode cX5_note 103 = .ok (.iaload, 1) := by decide +kernel
theorem dX5_note_104 : decode cX5_note 104 = .ok (.bipush 64, 2) := by decide +kernel
theorem dX5_note_106 : decode cX5_note 106 = .ok (.if_icmp .ge 7, 3) := by decide +kernel
theorem dX5_note_109 : decode cX5_note 109 = .ok (.iconst 1, 1) := by decide +kernel
theorem dX5_note_110 : decode cX5_note 110 = .ok (.goto 4, 3) := by decide +kernel
theorem dX5_note_113 : decode cX5_note 113 = .ok (.iconst 0, 1) := by decide +kernel
theorem dX5_note_114 : decode cX5_note 114 = .ok (.istore 6, 2) := by decide +kernel
theorem dX5_note_116 : decode cX5_note 116 = .ok (.aload_n 0, 1) := by decide +kernel
theorem dX5_note_117 : decode cX5_note 117 = .ok (.iload 6, 2) := by decide +kernel
theorem dX5_note_119 : decode cX5_note 119 = .ok (.ifCond .eq 7, 3) := by decide +kernel
theorem dX5_note_122 : decode cX5_note 122 = .ok (.iconst 0, 1) := by decide +kernel
theorem dX5_note_123 : decode cX5_note 123 = .ok (.goto 4, 3) := by decide +kernel
theorem dX5_note_126 : decode cX5_note 126 = .ok (.iconst 3, 1) := by decide +kernel
theorem dX5_note_127 : decode cX5_note 127 = .ok (.putfield 107, 3) := by decide +kernel
theorem dX5_note_130 : decode cX5_note 130 = .ok (.aload_n 0, 1) := by decide +kernel
theorem dX5_note_131 : decode cX5_note 131 = .ok (.getfield 107, 3) := by decide +kernel
theorem dX5_note_134 : decode cX5_note 134 = .ok (.ifCond .le 5, 3) := by decide +kernel
theorem dX5_note_137 : decode cX5_note 137 = .ok (.iconst 0, 1) := by decide +kernel
theorem dX5_note_138 : decode cX5_note 138 = .ok (.ireturn, 1) := by decide +kernel
theorem dX5_note_139 : decode cX5_note 139 = .ok (.bipush 64, 2) := by decide +kernel
theorem dX5_note_141 : decode cX5_note 141 = .ok (.iload_n 1, 1) := by decide +kernel
theorem dX5_note_142 : decode cX5_note 142 = .ok (.imul, 1) := by decide +kernel
theorem dX5_note_143 : decode cX5_note 143 = .ok (.aload_n 0, 1) := by decide +kernel
theorem dX5_note_144 : decode cX5_note 144 = .ok (.getfield 13, 3) := by decide +kernel
theorem dX5_note_147 : decode cX5_note 147 = .ok (.iload_n 1, 1) := by decide +kernel
theorem dX5_note_148 : decode cX5_note 148 = .ok (.iaload, 1) := by decide +kernel
theorem dX5_note_149 : decode cX5_note 149 = .ok (.iadd, 1) := by decide +kernel
theorem dX5_note_150 : decode cX5_note 150 = .ok (.istore 7, 2) := by decide +kernel
theorem dX5_note_152 : decode cX5_note 152 = .ok (.aload_n 0, 1) := by decide +kernel
theorem dX5_note_153 : decode cX5_note 153 = .ok (.getfield 19, 3) := by decide +kernel
theorem dX5_note_156 : decode cX5_note 156 = .ok (.iload 7, 2) := by decide +kernel
theorem dX5_note_158 : decode cX5_note 158 = .ok (.iload_n 2, 1) := by decide +kernel
theorem dX5_note_159 : decode cX5_note 159 = .ok (.iastore, 1) := by decide +kernel
theorem dX5_note_160 : decode cX5_note 160 = .ok (.aload_n 0, 1) := by decide +kernel
theorem dX5_note_161 : decode cX5_note 161 = .ok (.getfield 22, 3) := by decide +kernel
theorem dX5_note_164 : decode cX5_note 164 = .ok (.iload 7, 2) := by decide +kernel
theorem dX5_note_166 : decode cX5_note 166 = .ok (.iload_n 3, 1) := by decide +kernel
theorem dX5_note_167 : decode cX5_note 167 = .ok (.iastore, 1) := by decide +kernel
theorem dX5_note_168 : decode cX5_note 168 = .ok (.aload_n 0, 1) := by decide +kernel
theorem dX5_note_169 : decode cX5_note 169 = .ok (.getfield 25, 3) := by decide +kernel
theorem dX5_note_172 : decode cX5_note 172 = .ok (.iload 7, 2) := by decide +kernel
theorem dX5_note_174 : decode cX5_note 174 = .ok (.iload 4, 2) := by decide +kernel
theorem dX5_note_176 : decode cX5_note 176 = .ok (.iastore, 1) := by decide +kernel
theorem dX5_note_177 : decode cX5_note 177 = .ok (.aload_n 0, 1) := by decide +kernel
theorem dX5_note_178 : decode cX5_note 178 = .ok (.getfield 13, 3) := by decide +kernel
theorem dX5_note_181 : decode cX5_note 181 = .ok (.iload_n 1, 1) := by decide +kernel
theorem dX5_note_182 : decode cX5_note 182 = .ok (.dup2, 1) := by decide +kernel
theorem dX5_note_183 : decode cX5_note 183 = .ok (.iaload, 1) := by decide +kernel
theorem dX5_note_184 : decode cX5_note 184 = .ok (.iconst 1, 1) := by decide +kernel
theorem dX5_note_185 : decode cX5_note 185 = .ok (.iadd, 1) := by decide +kernel
theorem dX5_note_186 : decode cX5_note 186 = .ok (.iastore, 1) := by decide +kernel
theorem dX5_note_187 : decode cX5_note 187 = .ok (.aload_n 0, 1) := by decide +kernel
theorem dX5_note_188 : decode cX5_note 188 = .ok (.getfield 13, 3) := by decide +kernel
theorem dX5_note_191 : decode cX5_note 191 = .ok (.iload_n 1, 1) := by decide +kernel
theorem dX5_note_192 : decode cX5_note 192 = .ok (.iaload, 1) := by decide +kernel
theorem dX5_note_193 : decode cX5_note 193 = .ok (.ireturn, 1) := by decide +kernel
theorem dX5_part_0 : decode cX5_part 0 = .ok (.aload_n 0, 1) := by decide +kernel
theorem dX5_part_1 : decode cX5_part 1 = .ok (.aload_n 0, 1) := by decide +kernel
theorem dX5_part_2 : decode cX5_part 2 = .ok (.iload_n 1, 1) := by decide +kernel
theorem dX5_part_3 : decode cX5_part 3 = .ok (.invokevirtual 125, 3) := by decide +kernel
theorem dX5_part_6 : decode cX5_part 6 = .ok (.ifCond .eq 7, 3) := by decide +kernel
theorem dX5_part_9 : decode cX5_part 9 = .ok (.iconst 0, 1) := by decide +kernel
theorem dX5_part_10 : decode cX5_part 10 = .ok (.goto 4, 3) := by decide +kernel
theorem dX5_part_13 : decode cX5_part 13 = .ok (.iconst 1, 1) := by decide +kernel
theorem dX5_part_14 : decode cX5_part 14 = .ok (.putfield 107, 3) := by decide +kernel
theorem dX5_part_17 : decode cX5_part 17 = .ok (.aload_n 0, 1) := by decide +kernel
theorem dX5_part_18 : decode cX5_part 18 = .ok (.getfield 107, 3) := by decide +kernel
theorem dX5_part_21 : decode cX5_part 21 = .ok (.ifCond .le 5, 3) := by decide +kernel
theorem dX5_part_24 : decode cX5_part 24 = .ok (.iconst 0, 1) := by decide +kernel
theorem dX5_part_25 : decode cX5_part 25 = .ok (.ireturn, 1) := by decide +kernel
theorem dX5_part_26 : decode cX5_part 26 = .ok (.aload_n 0, 1) := by decide +kernel
theorem dX5_part_27 : decode cX5_part 27 = .ok (.iload_n 1, 1) := by decide +kernel
theorem dX5_part_28 : decode cX5_part 28 = .ok (.invokevirtual 135, 3) := by decide +kernel
theorem dX5_part_31 : decode cX5_part 31 = .ok (.istore_n 3, 1) := by decide +kernel
theorem dX5_part_32 : decode cX5_part 32 = .ok (.aload_n 0, 1) := by decide +kernel
theorem dX5_part_33 : decode cX5_part 33 = .ok (.getfield 7, 3) := by decide +kernel
theorem dX5_part_36 : decode cX5_part 36 = .ok (.iload_n 1, 1) := by decide +kernel
theorem dX5_part_37 : decode cX5_part 37 = .ok (.iaload, 1) := by decide +kernel
theorem dX5_part_38 : decode cX5_part 38 = .ok (.invokestatic 129, 3) := by decide +kernel
theorem dX5_part_41 : decode cX5_part 41 = .ok (.istore 4, 2) := by decide +kernel
theorem dX5_part_43 : decode cX5_part 43 = .ok (.aload_n 0, 1) := by decide +kernel
theorem dX5_part_44 : decode cX5_part 44 = .ok (.iload_n 3, 1) := by decide +kernel
theorem dX5_part_45 : decode cX5_part 45 = .ok (.ifCond .eq 21, 3) := by decide +kernel
theorem dX5_part_48 : decode cX5_part 48 = .ok (.iload_n 3, 1) := by decide +kernel
theorem dX5_part_49 : decode cX5_part 49 = .ok (.iload 4, 2) := by decide +kernel
theorem dX5_part_51 : decode cX5_part 51 = .ok (.irem, 1) := by decide +kernel
theorem dX5_part_52 : decode cX5_part 52 = .ok (.ifCond .gt 14, 3) := by decide +kernel
theorem dX5_part_55 : decode cX5_part 55 = .ok (.aload_n 0, 1) := by decide +kernel
theorem dX5_part_56 : decode cX5_part 56 = .ok (.getfield 16, 3) := by decide +kernel
theorem dX5_part_59 : decode cX5_part 59 = .ok (.iload_n 1, 1) := by decide +kernel
theorem dX5_part_60 : decode cX5_part 60 = .ok (.iaload, 1) := by decide +kernel
theorem dX5_part_61 : decode cX5_part 61 = .ok (.bipush 8, 2) := by decide +kernel
theorem dX5_part_63 : decode cX5_part 63 = .ok (.if_icmp .ne 7, 3) := by decide +kernel
theorem dX5_part_66 : decode cX5_part 66 = .ok (.iconst 2, 1) := by decide +kernel
theorem dX5_part_67 : decode cX5_part 67 = .ok (.goto 4, 3) := by decide +kernel
theorem dX5_part_70 : decode cX5_part 70 = .ok (.iconst 0, 1) := by decide +kernel
theorem dX5_part_71 : decode cX5_part 71 = .ok (.putfield 107, 3) := by decide +kernel
theorem dX5_part_74 : decode cX5_part 74 = .ok (.aload_n 0, 1) := by decide +kernel
theorem dX5_part_75 : decode cX5_part 75 = .ok (.getfield 107, 3) := by decide +kernel
theorem dX5_part_78 : decode cX5_part 78 = .ok (.ifCond .le 5, 3) := by decide +kernel
theorem dX5_part_81 : decode cX5_part 81 = .ok (.iconst 0, 1) := by decide +kernel
theorem dX5_part_82 : decode cX5_part 82 = .ok (.ireturn, 1) := by decide +kernel
theorem dX5_part_83 : decode cX5_part 83 = .ok (.aload_n 0, 1) := by decide +kernel
theorem dX5_part_84 : decode cX5_part 84 = .ok (.getfield 28, 3) := by decide +kernel
theorem dX5_part_87 : decode cX5_part 87 = .ok (.bipush 8, 2) := by decide +kernel
theorem dX5_part_89 : decode cX5_part 89 = .ok (.iload_n 1, 1) := by decide +kernel
theorem dX5_part_90 : decode cX5_part 90 = .ok (.imul, 1) := by decide +kernel
theorem dX5_part_91 : decode cX5_part 91 = .ok (.aload_n 0, 1) := by decide +kernel
theorem dX5_part_92 : decode cX5_part 92 = .ok (.getfield 16, 3) := by decide +kernel
theorem dX5_part_95 : decode cX5_part 95 = .ok (.iload_n 1, 1) := by decide +kernel
theorem dX5_part_96 : decode cX5_part 96 = .ok (.iaload, 1) := by decide +kernel
theorem dX5_part_97 : decode cX5_part 97 = .ok (.iadd, 1) := by decide +kernel
theorem dX5_part_98 : decode cX5_part 98 = .ok (.aload_n 0, 1) := by decide +kernel
theorem dX5_part_99 : decode cX5_part 99 = .ok (.getfield 13, 3) := by decide +kernel
theorem dX5_part_102 : decode cX5_part 102 = .ok (.iload_n 1, 1) := by decide +kernel
theorem dX5_part_103 : decode cX5_part 103 = .ok (.iaload, 1) := by decide +kernel
theorem dX5_part_104 : decode cX5_part 104 = .ok (.iastore, 1) := by decide +kernel
theorem dX5_part_105 : decode cX5_part 105 = .ok (.aload_n 0, 1) := by decide +kernel
theorem dX5_part_106 : decode cX5_part 106 = .ok (.getfield 31, 3) := by decide +kernel
theorem dX5_part_109 : decode cX5_part 109 = .ok (.bipush 8, 2) := by decide +kernel
theorem dX5_part_111 : decode cX5_part 111 = .ok (.iload_n 1, 1) := by decide +kernel
theorem dX5_part_112 : decode cX5_part 112 = .ok (.imul, 1) := by decide +kernel
theorem dX5_part_113 : decode cX5_part 113 = .ok (.aload_n 0, 1) := by decide +kernel
theorem dX5_part_114 : decode cX5_part 114 = .ok (.getfield 16, 3) := by decide +kernel
theorem dX5_part_117 : decode cX5_part 117 = .ok (.iload_n 1, 1) := by decide +kernel
theorem dX5_part_118 : decode cX5_part 118 = .ok (.iaload, 1) := by decide +kernel
theorem dX5_part_119 : decode cX5_part 119 = .ok (.iadd, 1) := by decide +kernel
theorem dX5_part_120 : decode cX5_part 120 = .ok (.iload_n 2, 1) := by decide +kernel
theorem dX5_part_121 : decode cX5_part 121 = .ok (.bastore, 1) := by decide +kernel
theorem dX5_part_122 : decode cX5_part 122 = .ok (.aload_n 0, 1) := by decide +kernel
theorem dX5_part_123 : decode cX5_part 123 = .ok (.getfield 16, 3) := by decide +kernel
theorem dX5_part_126 : decode cX5_part 126 = .ok (.iload_n 1, 1) := by decide +kernel
theorem dX5_part_127 : decode cX5_part 127 = .ok (.dup2, 1) := by decide +kernel
theorem dX5_part_128 : decode cX5_part 128 = .ok (.iaload, 1) := by decide +kernel
theorem dX5_part_129 : decode cX5_part 129 = .ok (.iconst 1, 1) := by decide +kernel
theorem dX5_part_130 : decode cX5_part 130 = .ok (.iadd, 1) := by decide +kernel
theorem dX5_part_131 : decode cX5_part 131 = .ok (.iastore, 1) := by decide +kernel
theorem dX5_part_132 : decode cX5_part 132 = .ok (.iload_n 3, 1) := by decide +kernel
theorem dX5_part_133 : decode cX5_part 133 = .ok (.iload 4, 2) := by decide +kernel
theorem dX5_part_135 : decode cX5_part 135 = .ok (.idiv, 1) := by decide +kernel
theorem dX5_part_136 : decode cX5_part 136 = .ok (.ireturn, 1) := by decide +kernel
theorem dX5_plays_0 : decode cX5_plays 0 = .ok (.aload_n 0, 1) := by decide +kernel
theorem dX5_plays_1 : decode cX5_plays 1 = .ok (.iconst 0, 1) := by decide +kernel
theorem dX5_plays_2 : decode cX5_plays 2 = .ok (.putfield 138, 3) := by decide +kernel
theorem dX5_plays_5 : decode cX5_plays 5 = .ok (.iconst 0, 1) := by decide +kernel
theorem dX5_plays_6 : decode cX5_plays 6 = .ok (.istore_n 2, 1) := by decide +kernel
theorem dX5_plays_7 : decode cX5_plays 7 = .ok (.iload_n 2, 1) := by decide +kernel
theorem dX5_plays_8 : decode cX5_plays 8 = .ok (.aload_n 0, 1) := by decide +kernel
theorem dX5_plays_9 : decode cX5_plays 9 = .ok (.getfield 16, 3) := by decide +kernel
theorem dX5_plays_12 : decode cX5_plays 12 = .ok (.iload_n 1, 1) := by decide +kernel
theorem dX5_plays_13 : decode cX5_plays 13 = .ok (.iaload, 1) := by decide +kernel
theorem dX5_plays_14 : decode cX5_plays 14 = .ok (.if_icmp .ge 129, 3) := by decide +kernel
theorem dX5_plays_17 : decode cX5_plays 17 = .ok (.iload_n 2, 1) := by decide +kernel
theorem dX5_plays_18 : decode cX5_plays 18 = .ok (.ifCond .ne 7, 3) := by decide +kernel
theorem dX5_plays_21 : decode cX5_plays 21 = .ok (.iconst 0, 1) := by decide +kernel
theorem dX5_plays_22 : decode cX5_plays 22 = .ok (.goto 16, 3) := by decide +kernel
theorem dX5_plays_25 : decode cX5_plays 25 = .ok (.aload_n 0, 1) := by decide +kernel
theorem dX5_plays_26 : decode cX5_plays 26 = .ok (.getfield 28, 3) := by decide +kernel
theorem dX5_plays_29 : decode cX5_plays 29 = .ok (.bipush 8, 2) := by decide +kernel
theorem dX5_plays_31 : decode cX5_plays 31 = .ok (.iload_n 1, 1) := by decide +kernel
theorem dX5_plays_32 : decode cX5_plays 32 = .ok (.imul, 1) := by decide +kernel
theorem dX5_plays_33 : decode cX5_plays 33 = .ok (.iload_n 2, 1) := by decide +kernel
theorem dX5_plays_34 : decode cX5_plays 34 = .ok (.iadd, 1) := by decide +kernel
theorem dX5_plays_35 : decode cX5_plays 35 = .ok (.iconst 1, 1) := by decide +kernel
theorem dX5_plays_36 : decode cX5_plays 36 = .ok (.isub, 1) := by decide +kernel
theorem dX5_plays_37 : decode cX5_plays 37 = .ok (.iaload, 1) := by decide +kernel
theorem dX5_plays_38 : decode cX5_plays 38 = .ok (.istore_n 3, 1) := by decide +kernel
theorem dX5_plays_39 : decode cX5_plays 39 = .ok (.aload_n 0, 1) := by decide +kernel
theorem dX5_plays_40 : decode cX5_plays 40 = .ok (.getfield 31, 3) := by decide +kernel
theorem dX5_plays_43 : decode cX5_plays 43 = .ok (.bipush 8, 2) := by decide +kernel
theorem dX5_plays_45 : decode cX5_plays 45 = .ok (.iload_n 1, 1) := by decide +kernel
theorem dX5_plays_46 : decode cX5_plays 46 = .ok (.imul, 1) := by decide +kernel
theorem dX5_plays_47 : decode cX5_plays 47 = .ok (.iload_n 2, 1) := by decide +kernel
theorem dX5_plays_48 : decode cX5_plays 48 = .ok (.iadd, 1) := by decide +kernel
theorem dX5_plays_49 : decode cX5_plays 49 = .ok (.baload, 1) := by decide +kernel
theorem dX5_plays_50 : decode cX5_plays 50 = .ok (.ifCond .eq 7, 3) := by decide +kernel
theorem dX5_plays_53 : decode cX5_plays 53 = .ok (.iconst 2, 1) := by decide +kernel
theorem dX5_plays_54 : decode cX5_plays 54 = .ok (.goto 4, 3) := by decide +kernel
theorem dX5_plays_57 : decode cX5_plays 57 = .ok (.iconst 1, 1) := by decide +kernel
theorem dX5_plays_58 : decode cX5_plays 58 = .ok (.istore 4, 2) := by decide +kernel
theorem dX5_plays_60 : decode cX5_plays 60 = .ok (.iconst 0, 1) := by decide +kernel
theorem dX5_plays_61 : decode cX5_plays 61 = .ok (.istore 5, 2) := by decide +kernel
theorem dX5_plays_63 : decode cX5_plays 63 = .ok (.iload 5, 2) := by decide +kernel
theorem dX5_plays_65 : decode cX5_plays 65 = .ok (.iload 4, 2) := by decide +kernel
theorem dX5_plays_67 : decode cX5_plays 67 = .ok (.if_icmp .ge 70, 3) := by decide +kernel
theorem dX5_plays_70 : decode cX5_plays 70 = .ok (.iload_n 3, 1) := by decide +kernel
theorem dX5_plays_71 : decode cX5_plays 71 = .ok (.istore 6, 2) := by decide +kernel
theorem dX5_plays_73 : decode cX5_plays 73 = .ok (.iload 6, 2) := by decide +kernel
theorem dX5_plays_75 : decode cX5_plays 75 = .ok (.aload_n 0, 1) := by decide +kernel
theorem dX5_plays_76 : decode cX5_plays 76 = .ok (.getfield 28, 3) := by decide +kernel
theorem dX5_plays_79 : decode cX5_plays 79 = .ok (.bipush 8, 2) := by decide +kernel
theorem dX5_plays_81 : decode cX5_plays 81 = .ok (.iload_n 1, 1) := by decide +kernel
theorem dX5_plays_82 : decode cX5_plays 82 = .ok (.imul, 1) := by decide +kernel
theorem dX5_plays_83 : decode cX5_plays 83 = .ok (.iload_n 2, 1) := by decide +kernel
theorem dX5_plays_84 : decode cX5_plays 84 = .ok (.iadd, 1) := by decide +kernel
theorem dX5_plays_85 : decode cX5_plays 85 = .ok (.iaload, 1) := by decide +kernel
theorem dX5_plays_86 : decode cX5_plays 86 = .ok (.if_icmp .ge 45, 3) := by decide +kernel
theorem dX5_plays_89 : decode cX5_plays 89 = .ok (.aload_n 0, 1) := by decide +kernel
theorem dX5_plays_90 : decode cX5_plays 90 = .ok (.getfield 35, 3) := by decide +kernel
theorem dX5_plays_93 : decode cX5_plays 93 = .ok (.aload_n 0, 1) := by decide +kernel
theorem dX5_plays_94 : decode cX5_plays 94 = .ok (.getfield 138, 3) := by decide +kernel
theorem dX5_plays_97 : decode cX5_plays 97 = .ok (.bipush 64, 2) := by decide +kernel
theorem dX5_plays_99 : decode cX5_plays 99 = .ok (.iload_n 1, 1) := by decide +kernel
theorem dX5_plays_100 : decode cX5_plays 100 = .ok (.imul, 1) := by decide +kernel
theorem dX5_plays_101 : decode cX5_plays 101 = .ok (.iload 6, 2) := by decide +kernel
theorem dX5_plays_103 : decode cX5_plays 103 = .ok (.iadd, 1) := by decide +kernel
theorem dX5_plays_104 : decode cX5_plays 104 = .ok (.iastore, 1) := by decide +kernel
theorem dX5_plays_105 : decode cX5_plays 105 = .ok (.aload_n 0, 1) := by decide +kernel
theorem dX5_plays_106 : decode cX5_plays 106 = .ok (.getfield 38, 3) := by decide +kernel
theorem dX5_plays_109 : decode cX5_plays 109 = .ok (.aload_n 0, 1) := by decide +kernel
theorem dX5_plays_110 : decode cX5_plays 110 = .ok (.getfield 138, 3) := by decide +kernel
theorem dX5_plays_113 : decode cX5_plays 113 = .ok (.iload_n 2, 1) := by decide +kernel
theorem dX5_plays_114 : decode cX5_plays 114 = .ok (.iastore, 1) := by decide +kernel
theorem dX5_plays_115 : decode cX5_plays 115 = .ok (.aload_n 0, 1) := by decide +kernel
theorem dX5_plays_116 : decode cX5_plays 116 = .ok (.dup, 1) := by decide +kernel
theorem dX5_plays_117 : decode cX5_plays 117 = .ok (.getfield 138, 3) := by decide +kernel
theorem dX5_plays_120 : decode cX5_plays 120 = .ok (.iconst 1, 1) := by decide +kernel
theorem dX5_plays_121 : decode cX5_plays 121 = .ok (.iadd, 1) := by decide +kernel
theorem dX5_plays_122 : decode cX5_plays 122 = .ok (.putfield 138, 3) := by decide +kernel
theorem dX5_plays_125 : decode cX5_plays 125 = .ok (.iinc 6 1, 3) := by decide +kernel
theorem dX5_plays_128 : decode cX5_plays 128 = .ok (.goto (-55), 3) := by decide +kernel
theorem dX5_plays_131 : decode cX5_plays 131 = .ok (.iinc 5 1, 3) := by decide +kernel
theorem dX5_plays_134 : decode cX5_plays 134 = .ok (.goto (-71), 3) := by decide +kernel
theorem dX5_plays_137 : decode cX5_plays 137 = .ok (.iinc 2 1, 3) := by decide +kernel
theorem dX5_plays_140 : decode cX5_plays 140 = .ok (.goto (-133), 3) := by decide +kernel
theorem dX5_plays_143 : decode cX5_plays 143 = .ok (.return_, 1) := by decide +kernel
theorem dX5_unitsTo_0 : decode cX5_unitsTo 0 = .ok (.iconst 0, 1) := by decide +kernel
theorem dX5_unitsTo_1 : decode cX5_unitsTo 1 = .ok (.istore_n 2, 1) := by decide +kernel
theorem dX5_unitsTo_2 : decode cX5_unitsTo 2 = .ok (.iconst 0, 1) := by decide +kernel
theorem dX5_unitsTo_3 : decode cX5_unitsTo 3 = .ok (.istore_n 3, 1) := by decide +kernel
theorem dX5_unitsTo_4 : decode cX5_unitsTo 4 = .ok (.iload_n 3, 1) := by decide +kernel
theorem dX5_unitsTo_5 : decode cX5_unitsTo 5 = .ok (.iload_n 1, 1) := by decide +kernel
theorem dX5_unitsTo_6 : decode cX5_unitsTo 6 = .ok (.if_icmp .ge 23, 3) := by decide +kernel
theorem dX5_unitsTo_9 : decode cX5_unitsTo 9 = .ok (.iload_n 2, 1) := by decide +kernel
theorem dX5_unitsTo_10 : decode cX5_unitsTo 10 = .ok (.aload_n 0, 1) := by decide +kernel
theorem dX5_unitsTo_11 : decode cX5_unitsTo 11 = .ok (.getfield 22, 3) := by decide +kernel
theorem dX5_unitsTo_14 : decode cX5_unitsTo 14 = .ok (.aload_n 0, 1) := by decide +kernel
theorem dX5_unitsTo_15 : decode cX5_unitsTo 15 = .ok (.getfield 35, 3) := by decide +kernel
theorem dX5_unitsTo_18 : decode cX5_unitsTo 18 = .ok (.iload_n 3, 1) := by decide +kernel
theorem dX5_unitsTo_19 : decode cX5_unitsTo 19 = .ok (.iaload, 1) := by decide +kernel
theorem dX5_unitsTo_20 : decode cX5_unitsTo 20 = .ok (.iaload, 1) := by decide +kernel
theorem dX5_unitsTo_21 : decode cX5_unitsTo 21 = .ok (.iadd, 1) := by decide +kernel
theorem dX5_unitsTo_22 : decode cX5_unitsTo 22 = .ok (.istore_n 2, 1) := by decide +kernel
theorem dX5_unitsTo_23 : decode cX5_unitsTo 23 = .ok (.iinc 3 1, 3) := by decide +kernel
theorem dX5_unitsTo_26 : decode cX5_unitsTo 26 = .ok (.goto (-22), 3) := by decide +kernel
theorem dX5_unitsTo_29 : decode cX5_unitsTo 29 = .ok (.iload_n 2, 1) := by decide +kernel
theorem dX5_unitsTo_30 : decode cX5_unitsTo 30 = .ok (.ireturn, 1) := by decide +kernel
theorem dX5_played_0 : decode cX5_played 0 = .ok (.aload_n 0, 1) := by decide +kernel
theorem dX5_played_1 : decode cX5_played 1 = .ok (.aload_n 0, 1) := by decide +kernel
theorem dX5_played_2 : decode cX5_played 2 = .ok (.iload_n 1, 1) := by decide +kernel
theorem dX5_played_3 : decode cX5_played 3 = .ok (.invokevirtual 125, 3) := by decide +kernel
theorem dX5_played_6 : decode cX5_played 6 = .ok (.ifCond .eq 7, 3) := by decide +kernel
theorem dX5_played_9 : decode cX5_played 9 = .ok (.iconst 0, 1) := by decide +kernel
theorem dX5_played_10 : decode cX5_played 10 = .ok (.goto 4, 3) := by decide +kernel
theorem dX5_played_13 : decode cX5_played 13 = .ok (.iconst 1, 1) := by decide +kernel
theorem dX5_played_14 : decode cX5_played 14 = .ok (.putfield 107, 3) := by decide +kernel
theorem dX5_played_17 : decode cX5_played 17 = .ok (.aload_n 0, 1) := by decide +kernel
theorem dX5_played_18 : decode cX5_played 18 = .ok (.getfield 107, 3) := by decide +kernel
theorem dX5_played_21 : decode cX5_played 21 = .ok (.ifCond .le 5, 3) := by decide +kernel
theorem dX5_played_24 : decode cX5_played 24 = .ok (.iconst 0, 1) := by decide +kernel
theorem dX5_played_25 : decode cX5_played 25 = .ok (.ireturn, 1) := by decide +kernel
theorem dX5_played_26 : decode cX5_played 26 = .ok (.aload_n 0, 1) := by decide +kernel
theorem dX5_played_27 : decode cX5_played 27 = .ok (.iload_n 1, 1) := by decide +kernel
theorem dX5_played_28 : decode cX5_played 28 = .ok (.invokevirtual 141, 3) := by decide +kernel
theorem dX5_played_31 : decode cX5_played 31 = .ok (.aload_n 0, 1) := by decide +kernel
theorem dX5_played_32 : decode cX5_played 32 = .ok (.iload_n 2, 1) := by decide +kernel
theorem dX5_played_33 : decode cX5_played 33 = .ok (.iconst 0, 1) := by decide +kernel
theorem dX5_played_34 : decode cX5_played 34 = .ok (.aload_n 0, 1) := by decide +kernel
theorem dX5_played_35 : decode cX5_played 35 = .ok (.getfield 138, 3) := by decide +kernel
theorem dX5_played_38 : decode cX5_played 38 = .ok (.iconst 1, 1) := by decide +kernel
theorem dX5_played_39 : decode cX5_played 39 = .ok (.isub, 1) := by decide +kernel
theorem dX5_played_40 : decode cX5_played 40 = .ok (.invokestatic 114, 3) := by decide +kernel
theorem dX5_played_43 : decode cX5_played 43 = .ok (.ifCond .ne 7, 3) := by decide +kernel
theorem dX5_played_46 : decode cX5_played 46 = .ok (.iconst 1, 1) := by decide +kernel
theorem dX5_played_47 : decode cX5_played 47 = .ok (.goto 17, 3) := by decide +kernel
theorem dX5_played_50 : decode cX5_played 50 = .ok (.iload_n 3, 1) := by decide +kernel
theorem dX5_played_51 : decode cX5_played 51 = .ok (.iconst 0, 1) := by decide +kernel
theorem dX5_played_52 : decode cX5_played 52 = .ok (.iconst 4, 1) := by decide +kernel
theorem dX5_played_53 : decode cX5_played 53 = .ok (.invokestatic 114, 3) := by decide +kernel
theorem dX5_played_56 : decode cX5_played 56 = .ok (.ifCond .ne 7, 3) := by decide +kernel
theorem dX5_played_59 : decode cX5_played 59 = .ok (.iconst 2, 1) := by decide +kernel
theorem dX5_played_60 : decode cX5_played 60 = .ok (.goto 4, 3) := by decide +kernel
theorem dX5_played_63 : decode cX5_played 63 = .ok (.iconst 0, 1) := by decide +kernel
theorem dX5_played_64 : decode cX5_played 64 = .ok (.putfield 107, 3) := by decide +kernel
theorem dX5_played_67 : decode cX5_played 67 = .ok (.aload_n 0, 1) := by decide +kernel
theorem dX5_played_68 : decode cX5_played 68 = .ok (.getfield 107, 3) := by decide +kernel
theorem dX5_played_71 : decode cX5_played 71 = .ok (.ifCond .le 5, 3) := by decide +kernel
theorem dX5_played_74 : decode cX5_played 74 = .ok (.iconst 0, 1) := by decide +kernel
theorem dX5_played_75 : decode cX5_played 75 = .ok (.ireturn, 1) := by decide +kernel
theorem dX5_played_76 : decode cX5_played 76 = .ok (.aload_n 0, 1) := by decide +kernel
theorem dX5_played_77 : decode cX5_played 77 = .ok (.getfield 35, 3) := by decide +kernel
theorem dX5_played_80 : decode cX5_played 80 = .ok (.iload_n 2, 1) := by decide +kernel
theorem dX5_played_81 : decode cX5_played 81 = .ok (.iaload, 1) := by decide +kernel
theorem dX5_played_82 : decode cX5_played 82 = .ok (.istore 4, 2) := by decide +kernel
theorem dX5_played_84 : decode cX5_played 84 = .ok (.iload_n 3, 1) := by decide +kernel
theorem dX5_played_85 : decode cX5_played 85 = .ok (.ifCond .ne 13, 3) := by decide +kernel
theorem dX5_played_88 : decode cX5_played 88 = .ok (.aload_n 0, 1) := by decide +kernel
theorem dX5_played_89 : decode cX5_played 89 = .ok (.getfield 19, 3) := by decide +kernel
theorem dX5_played_92 : decode cX5_played 92 = .ok (.iload 4, 2) := by decide +kernel
theorem dX5_played_94 : decode cX5_played 94 = .ok (.iaload, 1) := by decide +kernel
theorem dX5_played_95 : decode cX5_played 95 = .ok (.goto 52, 3) := by decide +kernel
theorem dX5_played_98 : decode cX5_played 98 = .ok (.iload_n 3, 1) := by decide +kernel
theorem dX5_played_99 : decode cX5_played 99 = .ok (.iconst 1, 1) := by decide +kernel
theorem dX5_played_100 : decode cX5_played 100 = .ok (.if_icmp .ne 13, 3) := by decide +kernel
theorem dX5_played_103 : decode cX5_played 103 = .ok (.aload_n 0, 1) := by decide +kernel
theorem dX5_played_104 : decode cX5_played 104 = .ok (.getfield 22, 3) := by decide +kernel
theorem dX5_played_107 : decode cX5_played 107 = .ok (.iload 4, 2) := by decide +kernel
theorem dX5_played_109 : decode cX5_played 109 = .ok (.iaload, 1) := by decide +kernel
theorem dX5_played_110 : decode cX5_played 110 = .ok (.goto 37, 3) := by decide +kernel
theorem dX5_played_113 : decode cX5_played 113 = .ok (.iload_n 3, 1) := by decide +kernel
theorem dX5_played_114 : decode cX5_played 114 = .ok (.iconst 2, 1) := by decide +kernel
theorem dX5_played_115 : decode cX5_played 115 = .ok (.if_icmp .ne 13, 3) := by decide +kernel
theorem dX5_played_118 : decode cX5_played 118 = .ok (.aload_n 0, 1) := by decide +kernel
theorem dX5_played_119 : decode cX5_played 119 = .ok (.getfield 25, 3) := by decide +kernel
theorem dX5_played_122 : decode cX5_played 122 = .ok (.iload 4, 2) := by decide +kernel
theorem dX5_played_124 : decode cX5_played 124 = .ok (.iaload, 1) := by decide +kernel
theorem dX5_played_125 : decode cX5_played 125 = .ok (.goto 22, 3) := by decide +kernel
theorem dX5_played_128 : decode cX5_played 128 = .ok (.iload_n 3, 1) := by decide +kernel
theorem dX5_played_129 : decode cX5_played 129 = .ok (.iconst 3, 1) := by decide +kernel
theorem dX5_played_130 : decode cX5_played 130 = .ok (.if_icmp .ne 11, 3) := by decide +kernel
theorem dX5_played_133 : decode cX5_played 133 = .ok (.aload_n 0, 1) := by decide +kernel
theorem dX5_played_134 : decode cX5_played 134 = .ok (.iload_n 2, 1) := by decide +kernel
theorem dX5_played_135 : decode cX5_played 135 = .ok (.invokevirtual 145, 3) := by decide +kernel
theorem dX5_played_138 : decode cX5_played 138 = .ok (.goto 9, 3) := by decide +kernel
theorem dX5_played_141 : decode cX5_played 141 = .ok (.aload_n 0, 1) := by decide +kernel
theorem dX5_played_142 : decode cX5_played 142 = .ok (.getfield 38, 3) := by decide +kernel
theorem dX5_played_145 : decode cX5_played 145 = .ok (.iload_n 2, 1) := by decide +kernel
theorem dX5_played_146 : decode cX5_played 146 = .ok (.iaload, 1) := by decide +kernel
theorem dX5_played_147 : decode cX5_played 147 = .ok (.ireturn, 1) := by decide +kernel
theorem dX5_clashes_0 : decode cX5_clashes 0 = .ok (.iconst 0, 1) := by decide +kernel
theorem dX5_clashes_1 : decode cX5_clashes 1 = .ok (.istore_n 1, 1) := by decide +kernel
theorem dX5_clashes_2 : decode cX5_clashes 2 = .ok (.iconst 1, 1) := by decide +kernel
theorem dX5_clashes_3 : decode cX5_clashes 3 = .ok (.istore_n 2, 1) := by decide +kernel
theorem dX5_clashes_4 : decode cX5_clashes 4 = .ok (.iload_n 2, 1) := by decide +kernel
theorem dX5_clashes_5 : decode cX5_clashes 5 = .ok (.aload_n 0, 1) := by decide +kernel
theorem dX5_clashes_6 : decode cX5_clashes 6 = .ok (.getfield 138, 3) := by decide +kernel
theorem dX5_clashes_9 : decode cX5_clashes 9 = .ok (.if_icmp .ge 58, 3) := by decide +kernel
theorem dX5_clashes_12 : decode cX5_clashes 12 = .ok (.iload_n 1, 1) := by decide +kernel
theorem dX5_clashes_13 : decode cX5_clashes 13 = .ok (.aload_n 0, 1) := by decide +kernel
theorem dX5_clashes_14 : decode cX5_clashes 14 = .ok (.getfield 25, 3) := by decide +kernel
theorem dX5_clashes_17 : decode cX5_clashes 17 = .ok (.aload_n 0, 1) := by decide +kernel
theorem dX5_clashes_18 : decode cX5_clashes 18 = .ok (.getfield 35, 3) := by decide +kernel
theorem dX5_clashes_21 : decode cX5_clashes 21 = .ok (.iload_n 2, 1) := by decide +kernel
theorem dX5_clashes_22 : decode cX5_clashes 22 = .ok (.iaload, 1) := by decide +kernel
theorem dX5_clashes_23 : decode cX5_clashes 23 = .ok (.iaload, 1) := by decide +kernel
theorem dX5_clashes_24 : decode cX5_clashes 24 = .ok (.ifCond .ne 34, 3) := by decide +kernel
theorem dX5_clashes_27 : decode cX5_clashes 27 = .ok (.aload_n 0, 1) := by decide +kernel
theorem dX5_clashes_28 : decode cX5_clashes 28 = .ok (.getfield 19, 3) := by decide +kernel
theorem dX5_clashes_31 : decode cX5_clashes 31 = .ok (.aload_n 0, 1) := by decide +kernel
theorem dX5_clashes_32 : decode cX5_clashes 32 = .ok (.getfield 35, 3) := by decide +kernel
theorem dX5_clashes_35 : decode cX5_clashes 35 = .ok (.iload_n 2, 1) := by decide +kernel
theorem dX5_clashes_36 : decode cX5_clashes 36 = .ok (.iaload, 1) := by decide +kernel
theorem dX5_clashes_37 : decode cX5_clashes 37 = .ok (.iaload, 1) := by decide +kernel
theorem dX5_clashes_38 : decode cX5_clashes 38 = .ok (.aload_n 0, 1) := by decide +kernel
theorem dX5_clashes_39 : decode cX5_clashes 39 = .ok (.getfield 19, 3) := by decide +kernel
theorem dX5_clashes_42 : decode cX5_clashes 42 = .ok (.aload_n 0, 1) := by decide +kernel
theorem dX5_clashes_43 : decode cX5_clashes 43 = .ok (.getfield 35, 3) := by decide +kernel
theorem dX5_clashes_46 : decode cX5_clashes 46 = .ok (.iload_n 2, 1) := by decide +kernel
theorem dX5_clashes_47 : decode cX5_clashes 47 = .ok (.iconst 1, 1) := by decide +kernel
theorem dX5_clashes_48 : decode cX5_clashes 48 = .ok (.isub, 1) := by decide +kernel
theorem dX5_clashes_49 : decode cX5_clashes 49 = .ok (.iaload, 1) := by decide +kernel
theorem dX5_clashes_50 : decode cX5_clashes 50 = .ok (.iaload, 1) := by decide +kernel
theorem dX5_clashes_51 : decode cX5_clashes 51 = .ok (.if_icmp .ne 7, 3) := by decide +kernel
theorem dX5_clashes_54 : decode cX5_clashes 54 = .ok (.iconst 1, 1) := by decide +kernel
theorem dX5_clashes_55 : decode cX5_clashes 55 = .ok (.goto 4, 3) := by decide +kernel
theorem dX5_clashes_58 : decode cX5_clashes 58 = .ok (.iconst 0, 1) := by decide +kernel
theorem dX5_clashes_59 : decode cX5_clashes 59 = .ok (.iadd, 1) := by decide +kernel
theorem dX5_clashes_60 : decode cX5_clashes 60 = .ok (.istore_n 1, 1) := by decide +kernel
theorem dX5_clashes_61 : decode cX5_clashes 61 = .ok (.iinc 2 1, 3) := by decide +kernel
theorem dX5_clashes_64 : decode cX5_clashes 64 = .ok (.goto (-60), 3) := by decide +kernel
theorem dX5_clashes_67 : decode cX5_clashes 67 = .ok (.iload_n 1, 1) := by decide +kernel
theorem dX5_clashes_68 : decode cX5_clashes 68 = .ok (.ireturn, 1) := by decide +kernel
theorem dX5_small_0 : decode cX5_small 0 = .ok (.iconst 0, 1) := by decide +kernel
theorem dX5_small_1 : decode cX5_small 1 = .ok (.istore_n 1, 1) := by decide +kernel
theorem dX5_small_2 : decode cX5_small 2 = .ok (.iconst 0, 1) := by decide +kernel
theorem dX5_small_3 : decode cX5_small 3 = .ok (.istore_n 2, 1) := by decide +kernel
theorem dX5_small_4 : decode cX5_small 4 = .ok (.iload_n 2, 1) := by decide +kernel
theorem dX5_small_5 : decode cX5_small 5 = .ok (.aload_n 0, 1) := by decide +kernel
theorem dX5_small_6 : decode cX5_small 6 = .ok (.getfield 138, 3) := by decide +kernel
theorem dX5_small_9 : decode cX5_small 9 = .ok (.if_icmp .ge 52, 3) := by decide +kernel
theorem dX5_small_12 : decode cX5_small 12 = .ok (.aload_n 0, 1) := by decide +kernel
theorem dX5_small_13 : decode cX5_small 13 = .ok (.getfield 25, 3) := by decide +kernel
theorem dX5_small_16 : decode cX5_small 16 = .ok (.aload_n 0, 1) := by decide +kernel
theorem dX5_small_17 : decode cX5_small 17 = .ok (.getfield 35, 3) := by decide +kernel
theorem dX5_small_20 : decode cX5_small 20 = .ok (.iload_n 2, 1) := by decide +kernel
theorem dX5_small_21 : decode cX5_small 21 = .ok (.iaload, 1) := by decide +kernel
theorem dX5_small_22 : decode cX5_small 22 = .ok (.iaload, 1) := by decide +kernel
theorem dX5_small_23 : decode cX5_small 23 = .ok (.istore_n 3, 1) := by decide +kernel
theorem dX5_small_24 : decode cX5_small 24 = .ok (.iload_n 1, 1) := by decide +kernel
theorem dX5_small_25 : decode cX5_small 25 = .ok (.iload_n 3, 1) := by decide +kernel
theorem dX5_small_26 : decode cX5_small 26 = .ok (.ifCond .ne 7, 3) := by decide +kernel
theorem dX5_small_29 : decode cX5_small 29 = .ok (.iconst 0, 1) := by decide +kernel
theorem dX5_small_30 : decode cX5_small 30 = .ok (.goto 23, 3) := by decide +kernel
theorem dX5_small_33 : decode cX5_small 33 = .ok (.iload_n 3, 1) := by decide +kernel
theorem dX5_small_34 : decode cX5_small 34 = .ok (.iconst 4, 1) := by decide +kernel
theorem dX5_small_35 : decode cX5_small 35 = .ok (.if_icmp .gt 7, 3) := by decide +kernel
theorem dX5_small_38 : decode cX5_small 38 = .ok (.iconst 1, 1) := by decide +kernel
theorem dX5_small_39 : decode cX5_small 39 = .ok (.goto 14, 3) := by decide +kernel
theorem dX5_small_42 : decode cX5_small 42 = .ok (.iload_n 3, 1) := by decide +kernel
theorem dX5_small_43 : decode cX5_small 43 = .ok (.bipush 8, 2) := by decide +kernel
theorem dX5_small_45 : decode cX5_small 45 = .ok (.if_icmp .ne 7, 3) := by decide +kernel
theorem dX5_small_48 : decode cX5_small 48 = .ok (.iconst 4, 1) := by decide +kernel
theorem dX5_small_49 : decode cX5_small 49 = .ok (.goto 4, 3) := by decide +kernel
theorem dX5_small_52 : decode cX5_small 52 = .ok (.iconst 3, 1) := by decide +kernel
theorem dX5_small_53 : decode cX5_small 53 = .ok (.iadd, 1) := by decide +kernel
theorem dX5_small_54 : decode cX5_small 54 = .ok (.istore_n 1, 1) := by decide +kernel
theorem dX5_small_55 : decode cX5_small 55 = .ok (.iinc 2 1, 3) := by decide +kernel
theorem dX5_small_58 : decode cX5_small 58 = .ok (.goto (-54), 3) := by decide +kernel
theorem dX5_small_61 : decode cX5_small 61 = .ok (.iload_n 1, 1) := by decide +kernel
theorem dX5_small_62 : decode cX5_small 62 = .ok (.ireturn, 1) := by decide +kernel
theorem dX5_ofTune_0 : decode cX5_ofTune 0 = .ok (.aload_n 0, 1) := by decide +kernel
theorem dX5_ofTune_1 : decode cX5_ofTune 1 = .ok (.aload_n 0, 1) := by decide +kernel
theorem dX5_ofTune_2 : decode cX5_ofTune 2 = .ok (.iload_n 1, 1) := by decide +kernel
theorem dX5_ofTune_3 : decode cX5_ofTune 3 = .ok (.invokevirtual 125, 3) := by decide +kernel
theorem dX5_ofTune_6 : decode cX5_ofTune 6 = .ok (.ifCond .ne 7, 3) := by decide +kernel
theorem dX5_ofTune_9 : decode cX5_ofTune 9 = .ok (.iconst 1, 1) := by decide +kernel
theorem dX5_ofTune_10 : decode cX5_ofTune 10 = .ok (.goto 18, 3) := by decide +kernel
theorem dX5_ofTune_13 : decode cX5_ofTune 13 = .ok (.iload_n 2, 1) := by decide +kernel
theorem dX5_ofTune_14 : decode cX5_ofTune 14 = .ok (.iconst 0, 1) := by decide +kernel
theorem dX5_ofTune_15 : decode cX5_ofTune 15 = .ok (.bipush 6, 2) := by decide +kernel
theorem dX5_ofTune_17 : decode cX5_ofTune 17 = .ok (.invokestatic 114, 3) := by decide +kernel
theorem dX5_ofTune_20 : decode cX5_ofTune 20 = .ok (.ifCond .ne 7, 3) := by decide +kernel
theorem dX5_ofTune_23 : decode cX5_ofTune 23 = .ok (.iconst 2, 1) := by decide +kernel
theorem dX5_ofTune_24 : decode cX5_ofTune 24 = .ok (.goto 4, 3) := by decide +kernel
theorem dX5_ofTune_27 : decode cX5_ofTune 27 = .ok (.iconst 0, 1) := by decide +kernel
theorem dX5_ofTune_28 : decode cX5_ofTune 28 = .ok (.putfield 107, 3) := by decide +kernel
theorem dX5_ofTune_31 : decode cX5_ofTune 31 = .ok (.aload_n 0, 1) := by decide +kernel
theorem dX5_ofTune_32 : decode cX5_ofTune 32 = .ok (.getfield 107, 3) := by decide +kernel
theorem dX5_ofTune_35 : decode cX5_ofTune 35 = .ok (.ifCond .le 5, 3) := by decide +kernel
theorem dX5_ofTune_38 : decode cX5_ofTune 38 = .ok (.iconst 0, 1) := by decide +kernel
theorem dX5_ofTune_39 : decode cX5_ofTune 39 = .ok (.ireturn, 1) := by decide +kernel
theorem dX5_ofTune_40 : decode cX5_ofTune 40 = .ok (.aload_n 0, 1) := by decide +kernel
theorem dX5_ofTune_41 : decode cX5_ofTune 41 = .ok (.iload_n 1, 1) := by decide +kernel
theorem dX5_ofTune_42 : decode cX5_ofTune 42 = .ok (.invokevirtual 141, 3) := by decide +kernel
theorem dX5_ofTune_45 : decode cX5_ofTune 45 = .ok (.iload_n 2, 1) := by decide +kernel
theorem dX5_ofTune_46 : decode cX5_ofTune 46 = .ok (.tableswitch 76 0 5 #[38, 45, 50, 59, 64, 69], 38) := by decide +kernel
theorem dX5_ofTune_84 : decode cX5_ofTune 84 = .ok (.aload_n 0, 1) := by decide +kernel
theorem dX5_ofTune_85 : decode cX5_ofTune 85 = .ok (.getfield 7, 3) := by decide +kernel
theorem dX5_ofTune_88 : decode cX5_ofTune 88 = .ok (.iload_n 1, 1) := by decide +kernel
theorem dX5_ofTune_89 : decode cX5_ofTune 89 = .ok (.iaload, 1) := by decide +kernel
theorem dX5_ofTune_90 : decode cX5_ofTune 90 = .ok (.ireturn, 1) := by decide +kernel
theorem dX5_ofTune_91 : decode cX5_ofTune 91 = .ok (.aload_n 0, 1) := by decide +kernel
theorem dX5_ofTune_92 : decode cX5_ofTune 92 = .ok (.getfield 138, 3) := by decide +kernel
theorem dX5_ofTune_95 : decode cX5_ofTune 95 = .ok (.ireturn, 1) := by decide +kernel
theorem dX5_ofTune_96 : decode cX5_ofTune 96 = .ok (.aload_n 0, 1) := by decide +kernel
theorem dX5_ofTune_97 : decode cX5_ofTune 97 = .ok (.aload_n 0, 1) := by decide +kernel
theorem dX5_ofTune_98 : decode cX5_ofTune 98 = .ok (.getfield 138, 3) := by decide +kernel
theorem dX5_ofTune_101 : decode cX5_ofTune 101 = .ok (.invokevirtual 145, 3) := by decide +kernel
theorem dX5_ofTune_104 : decode cX5_ofTune 104 = .ok (.ireturn, 1) := by decide +kernel
theorem dX5_ofTune_105 : decode cX5_ofTune 105 = .ok (.aload_n 0, 1) := by decide +kernel
theorem dX5_ofTune_106 : decode cX5_ofTune 106 = .ok (.invokevirtual 148, 3) := by decide +kernel
theorem dX5_ofTune_109 : decode cX5_ofTune 109 = .ok (.ireturn, 1) := by decide +kernel
theorem dX5_ofTune_110 : decode cX5_ofTune 110 = .ok (.aload_n 0, 1) := by decide +kernel
theorem dX5_ofTune_111 : decode cX5_ofTune 111 = .ok (.invokevirtual 152, 3) := by decide +kernel
theorem dX5_ofTune_114 : decode cX5_ofTune 114 = .ok (.ireturn, 1) := by decide +kernel
theorem dX5_ofTune_115 : decode cX5_ofTune 115 = .ok (.aload_n 0, 1) := by decide +kernel
theorem dX5_ofTune_116 : decode cX5_ofTune 116 = .ok (.getfield 16, 3) := by decide +kernel
theorem dX5_ofTune_119 : decode cX5_ofTune 119 = .ok (.iload_n 1, 1) := by decide +kernel
theorem dX5_ofTune_120 : decode cX5_ofTune 120 = .ok (.iaload, 1) := by decide +kernel
theorem dX5_ofTune_121 : decode cX5_ofTune 121 = .ok (.ireturn, 1) := by decide +kernel
theorem dX5_ofTune_122 : decode cX5_ofTune 122 = .ok (.aload_n 0, 1) := by decide +kernel
theorem dX5_ofTune_123 : decode cX5_ofTune 123 = .ok (.getfield 13, 3) := by decide +kernel
theorem dX5_ofTune_126 : decode cX5_ofTune 126 = .ok (.iload_n 1, 1) := by decide +kernel
theorem dX5_ofTune_127 : decode cX5_ofTune 127 = .ok (.iaload, 1) := by decide +kernel
theorem dX5_ofTune_128 : decode cX5_ofTune 128 = .ok (.aload_n 0, 1) := by decide +kernel
theorem dX5_ofTune_129 : decode cX5_ofTune 129 = .ok (.iload_n 1, 1) := by decide +kernel
theorem dX5_ofTune_130 : decode cX5_ofTune 130 = .ok (.invokevirtual 118, 3) := by decide +kernel
theorem dX5_ofTune_133 : decode cX5_ofTune 133 = .ok (.isub, 1) := by decide +kernel
theorem dX5_ofTune_134 : decode cX5_ofTune 134 = .ok (.ireturn, 1) := by decide +kernel
theorem dX5_tellsAlike_0 : decode cX5_tellsAlike 0 = .ok (.aload_n 0, 1) := by decide +kernel
theorem dX5_tellsAlike_1 : decode cX5_tellsAlike 1 = .ok (.aload_n 0, 1) := by decide +kernel
theorem dX5_tellsAlike_2 : decode cX5_tellsAlike 2 = .ok (.iload_n 1, 1) := by decide +kernel
theorem dX5_tellsAlike_3 : decode cX5_tellsAlike 3 = .ok (.invokevirtual 125, 3) := by decide +kernel
theorem dX5_tellsAlike_6 : decode cX5_tellsAlike 6 = .ok (.ifCond .eq 15, 3) := by decide +kernel
theorem dX5_tellsAlike_9 : decode cX5_tellsAlike 9 = .ok (.aload_n 0, 1) := by decide +kernel
theorem dX5_tellsAlike_10 : decode cX5_tellsAlike 10 = .ok (.iload_n 2, 1) := by decide +kernel
theorem dX5_tellsAlike_11 : decode cX5_tellsAlike 11 = .ok (.invokevirtual 125, 3) := by decide +kernel
theorem dX5_tellsAlike_14 : decode cX5_tellsAlike 14 = .ok (.ifCond .eq 7, 3) := by decide +kernel
theorem dX5_tellsAlike_17 : decode cX5_tellsAlike 17 = .ok (.iconst 0, 1) := by decide +kernel
theorem dX5_tellsAlike_18 : decode cX5_tellsAlike 18 = .ok (.goto 4, 3) := by decide +kernel
theorem dX5_tellsAlike_21 : decode cX5_tellsAlike 21 = .ok (.iconst 1, 1) := by decide +kernel
theorem dX5_tellsAlike_22 : decode cX5_tellsAlike 22 = .ok (.putfield 107, 3) := by decide +kernel
theorem dX5_tellsAlike_25 : decode cX5_tellsAlike 25 = .ok (.aload_n 0, 1) := by decide +kernel
theorem dX5_tellsAlike_26 : decode cX5_tellsAlike 26 = .ok (.getfield 107, 3) := by decide +kernel
theorem dX5_tellsAlike_29 : decode cX5_tellsAlike 29 = .ok (.ifCond .le 5, 3) := by decide +kernel
theorem dX5_tellsAlike_32 : decode cX5_tellsAlike 32 = .ok (.iconst 0, 1) := by decide +kernel
theorem dX5_tellsAlike_33 : decode cX5_tellsAlike 33 = .ok (.ireturn, 1) := by decide +kernel
theorem dX5_tellsAlike_34 : decode cX5_tellsAlike 34 = .ok (.aload_n 0, 1) := by decide +kernel
theorem dX5_tellsAlike_35 : decode cX5_tellsAlike 35 = .ok (.iload_n 2, 1) := by decide +kernel
theorem dX5_tellsAlike_36 : decode cX5_tellsAlike 36 = .ok (.invokevirtual 141, 3) := by decide +kernel
theorem dX5_tellsAlike_39 : decode cX5_tellsAlike 39 = .ok (.aload_n 0, 1) := by decide +kernel
theorem dX5_tellsAlike_40 : decode cX5_tellsAlike 40 = .ok (.getfield 138, 3) := by decide +kernel
theorem dX5_tellsAlike_43 : decode cX5_tellsAlike 43 = .ok (.istore_n 3, 1) := by decide +kernel
theorem dX5_tellsAlike_44 : decode cX5_tellsAlike 44 = .ok (.iconst 0, 1) := by decide +kernel
theorem dX5_tellsAlike_45 : decode cX5_tellsAlike 45 = .ok (.istore 4, 2) := by decide +kernel
theorem dX5_tellsAlike_47 : decode cX5_tellsAlike 47 = .ok (.iload 4, 2) := by decide +kernel
theorem dX5_tellsAlike_49 : decode cX5_tellsAlike 49 = .ok (.iload_n 3, 1) := by decide +kernel
theorem dX5_tellsAlike_50 : decode cX5_tellsAlike 50 = .ok (.if_icmp .ge 36, 3) := by decide +kernel
theorem dX5_tellsAlike_53 : decode cX5_tellsAlike 53 = .ok (.aload_n 0, 1) := by decide +kernel
theorem dX5_tellsAlike_54 : decode cX5_tellsAlike 54 = .ok (.getfield 41, 3) := by decide +kernel
theorem dX5_tellsAlike_57 : decode cX5_tellsAlike 57 = .ok (.iload 4, 2) := by decide +kernel
theorem dX5_tellsAlike_59 : decode cX5_tellsAlike 59 = .ok (.aload_n 0, 1) := by decide +kernel
theorem dX5_tellsAlike_60 : decode cX5_tellsAlike 60 = .ok (.getfield 19, 3) := by decide +kernel
theorem dX5_tellsAlike_63 : decode cX5_tellsAlike 63 = .ok (.aload_n 0, 1) := by decide +kernel
theorem dX5_tellsAlike_64 : decode cX5_tellsAlike 64 = .ok (.getfield 35, 3) := by decide +kernel
theorem dX5_tellsAlike_67 : decode cX5_tellsAlike 67 = .ok (.iload 4, 2) := by decide +kernel
theorem dX5_tellsAlike_69 : decode cX5_tellsAlike 69 = .ok (.iaload, 1) := by decide +kernel
theorem dX5_tellsAlike_70 : decode cX5_tellsAlike 70 = .ok (.iaload, 1) := by decide +kernel
theorem dX5_tellsAlike_71 : decode cX5_tellsAlike 71 = .ok (.iastore, 1) := by decide +kernel
theorem dX5_tellsAlike_72 : decode cX5_tellsAlike 72 = .ok (.aload_n 0, 1) := by decide +kernel
theorem dX5_tellsAlike_73 : decode cX5_tellsAlike 73 = .ok (.getfield 44, 3) := by decide +kernel
theorem dX5_tellsAlike_76 : decode cX5_tellsAlike 76 = .ok (.iload 4, 2) := by decide +kernel
theorem dX5_tellsAlike_78 : decode cX5_tellsAlike 78 = .ok (.iconst 0, 1) := by decide +kernel
theorem dX5_tellsAlike_79 : decode cX5_tellsAlike 79 = .ok (.iastore, 1) := by decide +kernel
theorem dX5_tellsAlike_80 : decode cX5_tellsAlike 80 = .ok (.iinc 4 1, 3) := by decide +kernel
theorem dX5_tellsAlike_83 : decode cX5_tellsAlike 83 = .ok (.goto (-36), 3) := by decide +kernel
theorem dX5_tellsAlike_86 : decode cX5_tellsAlike 86 = .ok (.aload_n 0, 1) := by decide +kernel
theorem dX5_tellsAlike_87 : decode cX5_tellsAlike 87 = .ok (.getfield 44, 3) := by decide +kernel
theorem dX5_tellsAlike_90 : decode cX5_tellsAlike 90 = .ok (.iload_n 3, 1) := by decide +kernel
theorem dX5_tellsAlike_91 : decode cX5_tellsAlike 91 = .ok (.iconst 0, 1) := by decide +kernel
theorem dX5_tellsAlike_92 : decode cX5_tellsAlike 92 = .ok (.iastore, 1) := by decide +kernel
theorem dX5_tellsAlike_93 : decode cX5_tellsAlike 93 = .ok (.aload_n 0, 1) := by decide +kernel
theorem dX5_tellsAlike_94 : decode cX5_tellsAlike 94 = .ok (.iload_n 1, 1) := by decide +kernel
theorem dX5_tellsAlike_95 : decode cX5_tellsAlike 95 = .ok (.invokevirtual 141, 3) := by decide +kernel
theorem dX5_tellsAlike_98 : decode cX5_tellsAlike 98 = .ok (.iconst 0, 1) := by decide +kernel
theorem dX5_tellsAlike_99 : decode cX5_tellsAlike 99 = .ok (.istore 4, 2) := by decide +kernel
theorem dX5_tellsAlike_101 : decode cX5_tellsAlike 101 = .ok (.iconst 0, 1) := by decide +kernel
theorem dX5_tellsAlike_102 : decode cX5_tellsAlike 102 = .ok (.istore 5, 2) := by decide +kernel
theorem dX5_tellsAlike_104 : decode cX5_tellsAlike 104 = .ok (.iload 5, 2) := by decide +kernel
theorem dX5_tellsAlike_106 : decode cX5_tellsAlike 106 = .ok (.aload_n 0, 1) := by decide +kernel
theorem dX5_tellsAlike_107 : decode cX5_tellsAlike 107 = .ok (.getfield 138, 3) := by decide +kernel
theorem dX5_tellsAlike_110 : decode cX5_tellsAlike 110 = .ok (.if_icmp .ge 95, 3) := by decide +kernel
theorem dX5_tellsAlike_113 : decode cX5_tellsAlike 113 = .ok (.iload_n 3, 1) := by decide +kernel
theorem dX5_tellsAlike_114 : decode cX5_tellsAlike 114 = .ok (.istore 6, 2) := by decide +kernel
theorem dX5_tellsAlike_116 : decode cX5_tellsAlike 116 = .ok (.iload 6, 2) := by decide +kernel
theorem dX5_tellsAlike_118 : decode cX5_tellsAlike 118 = .ok (.ifCond .le 81, 3) := by decide +kernel
theorem dX5_tellsAlike_121 : decode cX5_tellsAlike 121 = .ok (.aload_n 0, 1) := by decide +kernel
theorem dX5_tellsAlike_122 : decode cX5_tellsAlike 122 = .ok (.getfield 44, 3) := by decide +kernel
theorem dX5_tellsAlike_125 : decode cX5_tellsAlike 125 = .ok (.iload 6, 2) := by decide +kernel
theorem dX5_tellsAlike_127 : decode cX5_tellsAlike 127 = .ok (.aload_n 0, 1) := by decide +kernel
theorem dX5_tellsAlike_128 : decode cX5_tellsAlike 128 = .ok (.getfield 19, 3) := by decide +kernel
theorem dX5_tellsAlike_131 : decode cX5_tellsAlike 131 = .ok (.aload_n 0, 1) := by decide +kernel
theorem dX5_tellsAlike_132 : decode cX5_tellsAlike 132 = .ok (.getfield 35, 3) := by decide +kernel
theorem dX5_tellsAlike_135 : decode cX5_tellsAlike 135 = .ok (.iload 5, 2) := by decide +kernel
theorem dX5_tellsAlike_137 : decode cX5_tellsAlike 137 = .ok (.iaload, 1) := by decide +kernel
theorem dX5_tellsAlike_138 : decode cX5_tellsAlike 138 = .ok (.iaload, 1) := by decide +kernel
theorem dX5_tellsAlike_139 : decode cX5_tellsAlike 139 = .ok (.aload_n 0, 1) := by decide +kernel
theorem dX5_tellsAlike_140 : decode cX5_tellsAlike 140 = .ok (.getfield 41, 3) := by decide +kernel
theorem dX5_tellsAlike_143 : decode cX5_tellsAlike 143 = .ok (.iload 6, 2) := by decide +kernel
theorem dX5_tellsAlike_145 : decode cX5_tellsAlike 145 = .ok (.iconst 1, 1) := by decide +kernel
theorem dX5_tellsAlike_146 : decode cX5_tellsAlike 146 = .ok (.isub, 1) := by decide +kernel
theorem dX5_tellsAlike_147 : decode cX5_tellsAlike 147 = .ok (.iaload, 1) := by decide +kernel
theorem dX5_tellsAlike_148 : decode cX5_tellsAlike 148 = .ok (.if_icmp .ne 17, 3) := by decide +kernel
theorem dX5_tellsAlike_151 : decode cX5_tellsAlike 151 = .ok (.aload_n 0, 1) := by decide +kernel
theorem dX5_tellsAlike_152 : decode cX5_tellsAlike 152 = .ok (.getfield 44, 3) := by decide +kernel
theorem dX5_tellsAlike_155 : decode cX5_tellsAlike 155 = .ok (.iload 6, 2) := by decide +kernel
theorem dX5_tellsAlike_157 : decode cX5_tellsAlike 157 = .ok (.iconst 1, 1) := by decide +kernel
theorem dX5_tellsAlike_158 : decode cX5_tellsAlike 158 = .ok (.isub, 1) := by decide +kernel
theorem dX5_tellsAlike_159 : decode cX5_tellsAlike 159 = .ok (.iaload, 1) := by decide +kernel
theorem dX5_tellsAlike_160 : decode cX5_tellsAlike 160 = .ok (.iconst 1, 1) := by decide +kernel
theorem dX5_tellsAlike_161 : decode cX5_tellsAlike 161 = .ok (.iadd, 1) := by decide +kernel
theorem dX5_tellsAlike_162 : decode cX5_tellsAlike 162 = .ok (.goto 4, 3) := by decide +kernel
theorem dX5_tellsAlike_165 : decode cX5_tellsAlike 165 = .ok (.iconst 0, 1) := by decide +kernel
theorem dX5_tellsAlike_166 : decode cX5_tellsAlike 166 = .ok (.iastore, 1) := by decide +kernel
theorem dX5_tellsAlike_167 : decode cX5_tellsAlike 167 = .ok (.aload_n 0, 1) := by decide +kernel
theorem dX5_tellsAlike_168 : decode cX5_tellsAlike 168 = .ok (.getfield 44, 3) := by decide +kernel
theorem dX5_tellsAlike_171 : decode cX5_tellsAlike 171 = .ok (.iload 6, 2) := by decide +kernel
theorem dX5_tellsAlike_173 : decode cX5_tellsAlike 173 = .ok (.iaload, 1) := by decide +kernel
theorem dX5_tellsAlike_174 : decode cX5_tellsAlike 174 = .ok (.iload 4, 2) := by decide +kernel
theorem dX5_tellsAlike_176 : decode cX5_tellsAlike 176 = .ok (.if_icmp .le 13, 3) := by decide +kernel
theorem dX5_tellsAlike_179 : decode cX5_tellsAlike 179 = .ok (.aload_n 0, 1) := by decide +kernel
theorem dX5_tellsAlike_180 : decode cX5_tellsAlike 180 = .ok (.getfield 44, 3) := by decide +kernel
theorem dX5_tellsAlike_183 : decode cX5_tellsAlike 183 = .ok (.iload 6, 2) := by decide +kernel
theorem dX5_tellsAlike_185 : decode cX5_tellsAlike 185 = .ok (.iaload, 1) := by decide +kernel
theorem dX5_tellsAlike_186 : decode cX5_tellsAlike 186 = .ok (.goto 5, 3) := by decide +kernel
theorem dX5_tellsAlike_189 : decode cX5_tellsAlike 189 = .ok (.iload 4, 2) := by decide +kernel
theorem dX5_tellsAlike_191 : decode cX5_tellsAlike 191 = .ok (.istore 4, 2) := by decide +kernel
theorem dX5_tellsAlike_193 : decode cX5_tellsAlike 193 = .ok (.iinc 6 (-1), 3) := by decide +kernel
theorem dX5_tellsAlike_196 : decode cX5_tellsAlike 196 = .ok (.goto (-80), 3) := by decide +kernel
theorem dX5_tellsAlike_199 : decode cX5_tellsAlike 199 = .ok (.iinc 5 1, 3) := by decide +kernel
theorem dX5_tellsAlike_202 : decode cX5_tellsAlike 202 = .ok (.goto (-98), 3) := by decide +kernel
theorem dX5_tellsAlike_205 : decode cX5_tellsAlike 205 = .ok (.iload 4, 2) := by decide +kernel
theorem dX5_tellsAlike_207 : decode cX5_tellsAlike 207 = .ok (.ireturn, 1) := by decide +kernel
theorem dX5_alike_0 : decode cX5_alike 0 = .ok (.aload_n 0, 1) := by decide +kernel
theorem dX5_alike_1 : decode cX5_alike 1 = .ok (.iload_n 1, 1) := by decide +kernel
theorem dX5_alike_2 : decode cX5_alike 2 = .ok (.iload_n 2, 1) := by decide +kernel
theorem dX5_alike_3 : decode cX5_alike 3 = .ok (.invokevirtual 155, 3) := by decide +kernel
theorem dX5_alike_6 : decode cX5_alike 6 = .ok (.ireturn, 1) := by decide +kernel
theorem dX5_alikeAnew_0 : decode cX5_alikeAnew 0 = .ok (.aload_n 0, 1) := by decide +kernel
theorem dX5_alikeAnew_1 : decode cX5_alikeAnew 1 = .ok (.iload_n 1, 1) := by decide +kernel
theorem dX5_alikeAnew_2 : decode cX5_alikeAnew 2 = .ok (.iload_n 2, 1) := by decide +kernel
theorem dX5_alikeAnew_3 : decode cX5_alikeAnew 3 = .ok (.invokevirtual 155, 3) := by decide +kernel
theorem dX5_alikeAnew_6 : decode cX5_alikeAnew 6 = .ok (.ireturn, 1) := by decide +kernel
theorem dX5_mayFollow_0 : decode cX5_mayFollow 0 = .ok (.aload_n 0, 1) := by decide +kernel
theorem dX5_mayFollow_1 : decode cX5_mayFollow 1 = .ok (.iload_n 1, 1) := by decide +kernel
theorem dX5_mayFollow_2 : decode cX5_mayFollow 2 = .ok (.invokevirtual 141, 3) := by decide +kernel
theorem dX5_mayFollow_5 : decode cX5_mayFollow 5 = .ok (.aload_n 0, 1) := by decide +kernel
theorem dX5_mayFollow_6 : decode cX5_mayFollow 6 = .ok (.getfield 138, 3) := by decide +kernel
theorem dX5_mayFollow_9 : decode cX5_mayFollow 9 = .ok (.ifCond .eq 10, 3) := by decide +kernel
theorem dX5_mayFollow_12 : decode cX5_mayFollow 12 = .ok (.aload_n 0, 1) := by decide +kernel
theorem dX5_mayFollow_13 : decode cX5_mayFollow 13 = .ok (.getfield 159, 3) := by decide +kernel
theorem dX5_mayFollow_16 : decode cX5_mayFollow 16 = .ok (.ifCond .ne 16, 3) := by decide +kernel
theorem dX5_mayFollow_19 : decode cX5_mayFollow 19 = .ok (.aload_n 0, 1) := by decide +kernel
theorem dX5_mayFollow_20 : decode cX5_mayFollow 20 = .ok (.getfield 138, 3) := by decide +kernel
theorem dX5_mayFollow_23 : decode cX5_mayFollow 23 = .ok (.ifCond .le 7, 3) := by decide +kernel
theorem dX5_mayFollow_26 : decode cX5_mayFollow 26 = .ok (.iconst 1, 1) := by decide +kernel
theorem dX5_mayFollow_27 : decode cX5_mayFollow 27 = .ok (.goto 4, 3) := by decide +kernel
theorem dX5_mayFollow_30 : decode cX5_mayFollow 30 = .ok (.iconst 0, 1) := by decide +kernel
theorem dX5_mayFollow_31 : decode cX5_mayFollow 31 = .ok (.ireturn, 1) := by decide +kernel
theorem dX5_mayFollow_32 : decode cX5_mayFollow 32 = .ok (.aload_n 0, 1) := by decide +kernel
theorem dX5_mayFollow_33 : decode cX5_mayFollow 33 = .ok (.getfield 35, 3) := by decide +kernel
theorem dX5_mayFollow_36 : decode cX5_mayFollow 36 = .ok (.iconst 0, 1) := by decide +kernel
theorem dX5_mayFollow_37 : decode cX5_mayFollow 37 = .ok (.iaload, 1) := by decide +kernel
theorem dX5_mayFollow_38 : decode cX5_mayFollow 38 = .ok (.istore_n 3, 1) := by decide +kernel
theorem dX5_mayFollow_39 : decode cX5_mayFollow 39 = .ok (.aload_n 0, 1) := by decide +kernel
theorem dX5_mayFollow_40 : decode cX5_mayFollow 40 = .ok (.getfield 47, 3) := by decide +kernel
theorem dX5_mayFollow_43 : decode cX5_mayFollow 43 = .ok (.aload_n 0, 1) := by decide +kernel
theorem dX5_mayFollow_44 : decode cX5_mayFollow 44 = .ok (.getfield 159, 3) := by decide +kernel
theorem dX5_mayFollow_47 : decode cX5_mayFollow 47 = .ok (.iconst 1, 1) := by decide +kernel
theorem dX5_mayFollow_48 : decode cX5_mayFollow 48 = .ok (.isub, 1) := by decide +kernel
theorem dX5_mayFollow_49 : decode cX5_mayFollow 49 = .ok (.iaload, 1) := by decide +kernel
theorem dX5_mayFollow_50 : decode cX5_mayFollow 50 = .ok (.istore 4, 2) := by decide +kernel
theorem dX5_mayFollow_52 : decode cX5_mayFollow 52 = .ok (.aload_n 0, 1) := by decide +kernel
theorem dX5_mayFollow_53 : decode cX5_mayFollow 53 = .ok (.getfield 7, 3) := by decide +kernel
theorem dX5_mayFollow_56 : decode cX5_mayFollow 56 = .ok (.iload_n 1, 1) := by decide +kernel
theorem dX5_mayFollow_57 : decode cX5_mayFollow 57 = .ok (.iaload, 1) := by decide +kernel
theorem dX5_mayFollow_58 : decode cX5_mayFollow 58 = .ok (.aload_n 0, 1) := by decide +kernel
theorem dX5_mayFollow_59 : decode cX5_mayFollow 59 = .ok (.getfield 7, 3) := by decide +kernel
theorem dX5_mayFollow_62 : decode cX5_mayFollow 62 = .ok (.iload 4, 2) := by decide +kernel
theorem dX5_mayFollow_64 : decode cX5_mayFollow 64 = .ok (.iaload, 1) := by decide +kernel
theorem dX5_mayFollow_65 : decode cX5_mayFollow 65 = .ok (.if_icmp .ne 22, 3) := by decide +kernel
theorem dX5_mayFollow_68 : decode cX5_mayFollow 68 = .ok (.iload_n 2, 1) := by decide +kernel
theorem dX5_mayFollow_69 : decode cX5_mayFollow 69 = .ok (.aload_n 0, 1) := by decide +kernel
theorem dX5_mayFollow_70 : decode cX5_mayFollow 70 = .ok (.getfield 50, 3) := by decide +kernel
theorem dX5_mayFollow_73 : decode cX5_mayFollow 73 = .ok (.aload_n 0, 1) := by decide +kernel
theorem dX5_mayFollow_74 : decode cX5_mayFollow 74 = .ok (.getfield 159, 3) := by decide +kernel
theorem dX5_mayFollow_77 : decode cX5_mayFollow 77 = .ok (.iconst 1, 1) := by decide +kernel
theorem dX5_mayFollow_78 : decode cX5_mayFollow 78 = .ok (.isub, 1) := by decide +kernel
theorem dX5_mayFollow_79 : decode cX5_mayFollow 79 = .ok (.iaload, 1) := by decide +kernel
theorem dX5_mayFollow_80 : decode cX5_mayFollow 80 = .ok (.if_icmp .ge 7, 3) := by decide +kernel
theorem dX5_mayFollow_83 : decode cX5_mayFollow 83 = .ok (.iconst 1, 1) := by decide +kernel
theorem dX5_mayFollow_84 : decode cX5_mayFollow 84 = .ok (.goto 4, 3) := by decide +kernel
theorem dX5_mayFollow_87 : decode cX5_mayFollow 87 = .ok (.iconst 0, 1) := by decide +kernel
theorem dX5_mayFollow_88 : decode cX5_mayFollow 88 = .ok (.istore 5, 2) := by decide +kernel
theorem dX5_mayFollow_90 : decode cX5_mayFollow 90 = .ok (.aload_n 0, 1) := by decide +kernel
theorem dX5_mayFollow_91 : decode cX5_mayFollow 91 = .ok (.iload 4, 2) := by decide +kernel
theorem dX5_mayFollow_93 : decode cX5_mayFollow 93 = .ok (.invokevirtual 141, 3) := by decide +kernel
theorem dX5_mayFollow_96 : decode cX5_mayFollow 96 = .ok (.aload_n 0, 1) := by decide +kernel
theorem dX5_mayFollow_97 : decode cX5_mayFollow 97 = .ok (.getfield 25, 3) := by decide +kernel
theorem dX5_mayFollow_100 : decode cX5_mayFollow 100 = .ok (.iload_n 3, 1) := by decide +kernel
theorem dX5_mayFollow_101 : decode cX5_mayFollow 101 = .ok (.iaload, 1) := by decide +kernel
theorem dX5_mayFollow_102 : decode cX5_mayFollow 102 = .ok (.ifCond .ne 32, 3) := by decide +kernel
theorem dX5_mayFollow_105 : decode cX5_mayFollow 105 = .ok (.aload_n 0, 1) := by decide +kernel
theorem dX5_mayFollow_106 : decode cX5_mayFollow 106 = .ok (.getfield 19, 3) := by decide +kernel
theorem dX5_mayFollow_109 : decode cX5_mayFollow 109 = .ok (.iload_n 3, 1) := by decide +kernel
theorem dX5_mayFollow_110 : decode cX5_mayFollow 110 = .ok (.iaload, 1) := by decide +kernel
theorem dX5_mayFollow_111 : decode cX5_mayFollow 111 = .ok (.aload_n 0, 1) := by decide +kernel
theorem dX5_mayFollow_112 : decode cX5_mayFollow 112 = .ok (.getfield 19, 3) := by decide +kernel
theorem dX5_mayFollow_115 : decode cX5_mayFollow 115 = .ok (.aload_n 0, 1) := by decide +kernel
theorem dX5_mayFollow_116 : decode cX5_mayFollow 116 = .ok (.getfield 35, 3) := by decide +kernel
theorem dX5_mayFollow_119 : decode cX5_mayFollow 119 = .ok (.aload_n 0, 1) := by decide +kernel
theorem dX5_mayFollow_120 : decode cX5_mayFollow 120 = .ok (.getfield 138, 3) := by decide +kernel
theorem dX5_mayFollow_123 : decode cX5_mayFollow 123 = .ok (.iconst 1, 1) := by decide +kernel
theorem dX5_mayFollow_124 : decode cX5_mayFollow 124 = .ok (.isub, 1) := by decide +kernel
theorem dX5_mayFollow_125 : decode cX5_mayFollow 125 = .ok (.iaload, 1) := by decide +kernel
theorem dX5_mayFollow_126 : decode cX5_mayFollow 126 = .ok (.iaload, 1) := by decide +kernel
theorem dX5_mayFollow_127 : decode cX5_mayFollow 127 = .ok (.if_icmp .ne 7, 3) := by decide +kernel
theorem dX5_mayFollow_130 : decode cX5_mayFollow 130 = .ok (.iconst 1, 1) := by decide +kernel
theorem dX5_mayFollow_131 : decode cX5_mayFollow 131 = .ok (.goto 4, 3) := by decide +kernel
theorem dX5_mayFollow_134 : decode cX5_mayFollow 134 = .ok (.iconst 0, 1) := by decide +kernel
theorem dX5_mayFollow_135 : decode cX5_mayFollow 135 = .ok (.istore 6, 2) := by decide +kernel
theorem dX5_mayFollow_137 : decode cX5_mayFollow 137 = .ok (.iload 5, 2) := by decide +kernel
theorem dX5_mayFollow_139 : decode cX5_mayFollow 139 = .ok (.ifCond .ne 12, 3) := by decide +kernel
theorem dX5_mayFollow_142 : decode cX5_mayFollow 142 = .ok (.iload 6, 2) := by decide +kernel
theorem dX5_mayFollow_144 : decode cX5_mayFollow 144 = .ok (.ifCond .ne 7, 3) := by decide +kernel
theorem dX5_mayFollow_147 : decode cX5_mayFollow 147 = .ok (.iconst 1, 1) := by decide +kernel
theorem dX5_mayFollow_148 : decode cX5_mayFollow 148 = .ok (.goto 4, 3) := by decide +kernel
theorem dX5_mayFollow_151 : decode cX5_mayFollow 151 = .ok (.iconst 0, 1) := by decide +kernel
theorem dX5_mayFollow_152 : decode cX5_mayFollow 152 = .ok (.ireturn, 1) := by decide +kernel
theorem dX5_follow_0 : decode cX5_follow 0 = .ok (.aload_n 0, 1) := by decide +kernel
theorem dX5_follow_1 : decode cX5_follow 1 = .ok (.aload_n 0, 1) := by decide +kernel
theorem dX5_follow_2 : decode cX5_follow 2 = .ok (.iload_n 1, 1) := by decide +kernel
theorem dX5_follow_3 : decode cX5_follow 3 = .ok (.invokevirtual 125, 3) := by decide +kernel
theorem dX5_follow_6 : decode cX5_follow 6 = .ok (.ifCond .ne 7, 3) := by decide +kernel
theorem dX5_follow_9 : decode cX5_follow 9 = .ok (.iconst 1, 1) := by decide +kernel
theorem dX5_follow_10 : decode cX5_follow 10 = .ok (.goto 20, 3) := by decide +kernel
theorem dX5_follow_13 : decode cX5_follow 13 = .ok (.iload_n 2, 1) := by decide +kernel
theorem dX5_follow_14 : decode cX5_follow 14 = .ok (.bipush 30, 2) := by decide +kernel
theorem dX5_follow_16 : decode cX5_follow 16 = .ok (.sipush 600, 3) := by decide +kernel
theorem dX5_follow_19 : decode cX5_follow 19 = .ok (.invokestatic 114, 3) := by decide +kernel
theorem dX5_follow_22 : decode cX5_follow 22 = .ok (.ifCond .ne 7, 3) := by decide +kernel
theorem dX5_follow_25 : decode cX5_follow 25 = .ok (.iconst 2, 1) := by decide +kernel
theorem dX5_follow_26 : decode cX5_follow 26 = .ok (.goto 4, 3) := by decide +kernel
theorem dX5_follow_29 : decode cX5_follow 29 = .ok (.iconst 0, 1) := by decide +kernel
theorem dX5_follow_30 : decode cX5_follow 30 = .ok (.putfield 107, 3) := by decide +kernel
theorem dX5_follow_33 : decode cX5_follow 33 = .ok (.aload_n 0, 1) := by decide +kernel
theorem dX5_follow_34 : decode cX5_follow 34 = .ok (.getfield 107, 3) := by decide +kernel
theorem dX5_follow_37 : decode cX5_follow 37 = .ok (.ifCond .le 5, 3) := by decide +kernel
theorem dX5_follow_40 : decode cX5_follow 40 = .ok (.iconst 0, 1) := by decide +kernel
theorem dX5_follow_41 : decode cX5_follow 41 = .ok (.ireturn, 1) := by decide +kernel
theorem dX5_follow_42 : decode cX5_follow 42 = .ok (.aload_n 0, 1) := by decide +kernel
theorem dX5_follow_43 : decode cX5_follow 43 = .ok (.aload_n 0, 1) := by decide +kernel
theorem dX5_follow_44 : decode cX5_follow 44 = .ok (.getfield 159, 3) := by decide +kernel
theorem dX5_follow_47 : decode cX5_follow 47 = .ok (.bipush 8, 2) := by decide +kernel
theorem dX5_follow_49 : decode cX5_follow 49 = .ok (.if_icmp .eq 12, 3) := by decide +kernel
theorem dX5_follow_52 : decode cX5_follow 52 = .ok (.aload_n 0, 1) := by decide +kernel
theorem dX5_follow_53 : decode cX5_follow 53 = .ok (.iload_n 1, 1) := by decide +kernel
theorem dX5_follow_54 : decode cX5_follow 54 = .ok (.iload_n 2, 1) := by decide +kernel
theorem dX5_follow_55 : decode cX5_follow 55 = .ok (.invokevirtual 162, 3) := by decide +kernel
theorem dX5_follow_58 : decode cX5_follow 58 = .ok (.ifCond .ne 7, 3) := by decide +kernel
theorem dX5_follow_61 : decode cX5_follow 61 = .ok (.iconst 3, 1) := by decide +kernel
theorem dX5_follow_62 : decode cX5_follow 62 = .ok (.goto 4, 3) := by decide +kernel
theorem dX5_follow_65 : decode cX5_follow 65 = .ok (.iconst 0, 1) := by decide +kernel
theorem dX5_follow_66 : decode cX5_follow 66 = .ok (.putfield 107, 3) := by decide +kernel
theorem dX5_follow_69 : decode cX5_follow 69 = .ok (.aload_n 0, 1) := by decide +kernel
theorem dX5_follow_70 : decode cX5_follow 70 = .ok (.getfield 107, 3) := by decide +kernel
theorem dX5_follow_73 : decode cX5_follow 73 = .ok (.ifCond .le 5, 3) := by decide +kernel
theorem dX5_follow_76 : decode cX5_follow 76 = .ok (.iconst 0, 1) := by decide +kernel
theorem dX5_follow_77 : decode cX5_follow 77 = .ok (.ireturn, 1) := by decide +kernel
theorem dX5_follow_78 : decode cX5_follow 78 = .ok (.aload_n 0, 1) := by decide +kernel
theorem dX5_follow_79 : decode cX5_follow 79 = .ok (.getfield 47, 3) := by decide +kernel
theorem dX5_follow_82 : decode cX5_follow 82 = .ok (.aload_n 0, 1) := by decide +kernel
theorem dX5_follow_83 : decode cX5_follow 83 = .ok (.getfield 159, 3) := by decide +kernel
theorem dX5_follow_86 : decode cX5_follow 86 = .ok (.iload_n 1, 1) := by decide +kernel
theorem dX5_follow_87 : decode cX5_follow 87 = .ok (.iastore, 1) := by decide +kernel
theorem dX5_follow_88 : decode cX5_follow 88 = .ok (.aload_n 0, 1) := by decide +kernel
theorem dX5_follow_89 : decode cX5_follow 89 = .ok (.getfield 50, 3) := by decide +kernel
theorem dX5_follow_92 : decode cX5_follow 92 = .ok (.aload_n 0, 1) := by decide +kernel
theorem dX5_follow_93 : decode cX5_follow 93 = .ok (.getfield 159, 3) := by decide +kernel
theorem dX5_follow_96 : decode cX5_follow 96 = .ok (.iload_n 2, 1) := by decide +kernel
theorem dX5_follow_97 : decode cX5_follow 97 = .ok (.iastore, 1) := by decide +kernel
theorem dX5_follow_98 : decode cX5_follow 98 = .ok (.aload_n 0, 1) := by decide +kernel
theorem dX5_follow_99 : decode cX5_follow 99 = .ok (.dup, 1) := by decide +kernel
theorem dX5_follow_100 : decode cX5_follow 100 = .ok (.getfield 159, 3) := by decide +kernel
theorem dX5_follow_103 : decode cX5_follow 103 = .ok (.iconst 1, 1) := by decide +kernel
theorem dX5_follow_104 : decode cX5_follow 104 = .ok (.iadd, 1) := by decide +kernel
theorem dX5_follow_105 : decode cX5_follow 105 = .ok (.putfield 159, 3) := by decide +kernel
theorem dX5_follow_108 : decode cX5_follow 108 = .ok (.aload_n 0, 1) := by decide +kernel
theorem dX5_follow_109 : decode cX5_follow 109 = .ok (.getfield 159, 3) := by decide +kernel
theorem dX5_follow_112 : decode cX5_follow 112 = .ok (.ireturn, 1) := by decide +kernel
theorem dX5_drop_0 : decode cX5_drop 0 = .ok (.aload_n 0, 1) := by decide +kernel
theorem dX5_drop_1 : decode cX5_drop 1 = .ok (.aload_n 0, 1) := by decide +kernel
theorem dX5_drop_2 : decode cX5_drop 2 = .ok (.getfield 159, 3) := by decide +kernel
theorem dX5_drop_5 : decode cX5_drop 5 = .ok (.ifCond .ne 7, 3) := by decide +kernel
theorem dX5_drop_8 : decode cX5_drop 8 = .ok (.iconst 1, 1) := by decide +kernel
theorem dX5_drop_9 : decode cX5_drop 9 = .ok (.goto 4, 3) := by decide +kernel
theorem dX5_drop_12 : decode cX5_drop 12 = .ok (.iconst 0, 1) := by decide +kernel
theorem dX5_drop_13 : decode cX5_drop 13 = .ok (.putfield 107, 3) := by decide +kernel
theorem dX5_drop_16 : decode cX5_drop 16 = .ok (.aload_n 0, 1) := by decide +kernel
theorem dX5_drop_17 : decode cX5_drop 17 = .ok (.dup, 1) := by decide +kernel
theorem dX5_drop_18 : decode cX5_drop 18 = .ok (.getfield 159, 3) := by decide +kernel
theorem dX5_drop_21 : decode cX5_drop 21 = .ok (.aload_n 0, 1) := by decide +kernel
theorem dX5_drop_22 : decode cX5_drop 22 = .ok (.getfield 107, 3) := by decide +kernel
theorem dX5_drop_25 : decode cX5_drop 25 = .ok (.ifCond .le 7, 3) := by decide +kernel
theorem dX5_drop_28 : decode cX5_drop 28 = .ok (.iconst 0, 1) := by decide +kernel
theorem dX5_drop_29 : decode cX5_drop 29 = .ok (.goto 4, 3) := by decide +kernel
theorem dX5_drop_32 : decode cX5_drop 32 = .ok (.iconst 1, 1) := by decide +kernel
theorem dX5_drop_33 : decode cX5_drop 33 = .ok (.isub, 1) := by decide +kernel
theorem dX5_drop_34 : decode cX5_drop 34 = .ok (.putfield 159, 3) := by decide +kernel
theorem dX5_drop_37 : decode cX5_drop 37 = .ok (.aload_n 0, 1) := by decide +kernel
theorem dX5_drop_38 : decode cX5_drop 38 = .ok (.getfield 107, 3) := by decide +kernel
theorem dX5_drop_41 : decode cX5_drop 41 = .ok (.ifCond .le 7, 3) := by decide +kernel
theorem dX5_drop_44 : decode cX5_drop 44 = .ok (.iconst 0, 1) := by decide +kernel
theorem dX5_drop_45 : decode cX5_drop 45 = .ok (.goto 12, 3) := by decide +kernel
theorem dX5_drop_48 : decode cX5_drop 48 = .ok (.aload_n 0, 1) := by decide +kernel
theorem dX5_drop_49 : decode cX5_drop 49 = .ok (.getfield 47, 3) := by decide +kernel
theorem dX5_drop_52 : decode cX5_drop 52 = .ok (.aload_n 0, 1) := by decide +kernel
theorem dX5_drop_53 : decode cX5_drop 53 = .ok (.getfield 159, 3) := by decide +kernel
theorem dX5_drop_56 : decode cX5_drop 56 = .ok (.iaload, 1) := by decide +kernel
theorem dX5_drop_57 : decode cX5_drop 57 = .ok (.ireturn, 1) := by decide +kernel
theorem dX5_time_0 : decode cX5_time 0 = .ok (.aload_n 0, 1) := by decide +kernel
theorem dX5_time_1 : decode cX5_time 1 = .ok (.iconst 0, 1) := by decide +kernel
theorem dX5_time_2 : decode cX5_time 2 = .ok (.putfield 107, 3) := by decide +kernel
theorem dX5_time_5 : decode cX5_time 5 = .ok (.lconst 0, 1) := by decide +kernel
theorem dX5_time_6 : decode cX5_time 6 = .ok (.lstore_n 1, 1) := by decide +kernel
theorem dX5_time_7 : decode cX5_time 7 = .ok (.iconst 0, 1) := by decide +kernel
theorem dX5_time_8 : decode cX5_time 8 = .ok (.istore_n 3, 1) := by decide +kernel
theorem dX5_time_9 : decode cX5_time 9 = .ok (.iload_n 3, 1) := by decide +kernel
theorem dX5_time_10 : decode cX5_time 10 = .ok (.aload_n 0, 1) := by decide +kernel
theorem dX5_time_11 : decode cX5_time 11 = .ok (.getfield 159, 3) := by decide +kernel
theorem dX5_time_14 : decode cX5_time 14 = .ok (.if_icmp .ge 43, 3) := by decide +kernel
theorem dX5_time_17 : decode cX5_time 17 = .ok (.aload_n 0, 1) := by decide +kernel
theorem dX5_time_18 : decode cX5_time 18 = .ok (.aload_n 0, 1) := by decide +kernel
theorem dX5_time_19 : decode cX5_time 19 = .ok (.getfield 47, 3) := by decide +kernel
theorem dX5_time_22 : decode cX5_time 22 = .ok (.iload_n 3, 1) := by decide +kernel
theorem dX5_time_23 : decode cX5_time 23 = .ok (.iaload, 1) := by decide +kernel
theorem dX5_time_24 : decode cX5_time 24 = .ok (.invokevirtual 141, 3) := by decide +kernel
theorem dX5_time_27 : decode cX5_time 27 = .ok (.lload_n 1, 1) := by decide +kernel
theorem dX5_time_28 : decode cX5_time 28 = .ok (.ldc2_w 166, 3) := by decide +kernel
theorem dX5_time_31 : decode cX5_time 31 = .ok (.aload_n 0, 1) := by decide +kernel
theorem dX5_time_32 : decode cX5_time 32 = .ok (.aload_n 0, 1) := by decide +kernel
theorem dX5_time_33 : decode cX5_time 33 = .ok (.getfield 138, 3) := by decide +kernel
theorem dX5_time_36 : decode cX5_time 36 = .ok (.invokevirtual 145, 3) := by decide +kernel
theorem dX5_time_39 : decode cX5_time 39 = .ok (.i2l, 1) := by decide +kernel
theorem dX5_time_40 : decode cX5_time 40 = .ok (.lmul, 1) := by decide +kernel
theorem dX5_time_41 : decode cX5_time 41 = .ok (.aload_n 0, 1) := by decide +kernel
theorem dX5_time_42 : decode cX5_time 42 = .ok (.getfield 50, 3) := by decide +kernel
theorem dX5_time_45 : decode cX5_time 45 = .ok (.iload_n 3, 1) := by decide +kernel
theorem dX5_time_46 : decode cX5_time 46 = .ok (.iaload, 1) := by decide +kernel
theorem dX5_time_47 : decode cX5_time 47 = .ok (.i2l, 1) := by decide +kernel
theorem dX5_time_48 : decode cX5_time 48 = .ok (.ldiv, 1) := by decide +kernel
theorem dX5_time_49 : decode cX5_time 49 = .ok (.ladd, 1) := by decide +kernel
theorem dX5_time_50 : decode cX5_time 50 = .ok (.lstore_n 1, 1) := by decide +kernel
theorem dX5_time_51 : decode cX5_time 51 = .ok (.iinc 3 1, 3) := by decide +kernel
theorem dX5_time_54 : decode cX5_time 54 = .ok (.goto (-45), 3) := by decide +kernel
theorem dX5_time_57 : decode cX5_time 57 = .ok (.lload_n 1, 1) := by decide +kernel
theorem dX5_time_58 : decode cX5_time 58 = .ok (.lreturn, 1) := by decide +kernel
theorem dX5_isPiper_0 : decode cX5_isPiper 0 = .ok (.iload_n 1, 1) := by decide +kernel
theorem dX5_isPiper_1 : decode cX5_isPiper 1 = .ok (.iconst 0, 1) := by decide +kernel
theorem dX5_isPiper_2 : decode cX5_isPiper 2 = .ok (.aload_n 0, 1) := by decide +kernel
theorem dX5_isPiper_3 : decode cX5_isPiper 3 = .ok (.getfield 168, 3) := by decide +kernel
theorem dX5_isPiper_6 : decode cX5_isPiper 6 = .ok (.iconst 1, 1) := by decide +kernel
theorem dX5_isPiper_7 : decode cX5_isPiper 7 = .ok (.isub, 1) := by decide +kernel
theorem dX5_isPiper_8 : decode cX5_isPiper 8 = .ok (.invokestatic 114, 3) := by decide +kernel
theorem dX5_isPiper_11 : decode cX5_isPiper 11 = .ok (.ireturn, 1) := by decide +kernel
theorem dX5_piper_0 : decode cX5_piper 0 = .ok (.aload_n 0, 1) := by decide +kernel
theorem dX5_piper_1 : decode cX5_piper 1 = .ok (.iload_n 1, 1) := by decide +kernel
theorem dX5_piper_2 : decode cX5_piper 2 = .ok (.bipush (-100), 2) := by decide +kernel
theorem dX5_piper_4 : decode cX5_piper 4 = .ok (.bipush 100, 2) := by decide +kernel
theorem dX5_piper_6 : decode cX5_piper 6 = .ok (.invokestatic 114, 3) := by decide +kernel
theorem dX5_piper_9 : decode cX5_piper 9 = .ok (.ifCond .eq 24, 3) := by decide +kernel
theorem dX5_piper_12 : decode cX5_piper 12 = .ok (.iload_n 2, 1) := by decide +kernel
theorem dX5_piper_13 : decode cX5_piper 13 = .ok (.bipush 10, 2) := by decide +kernel
theorem dX5_piper_15 : decode cX5_piper 15 = .ok (.bipush 40, 2) := by decide +kernel
theorem dX5_piper_17 : decode cX5_piper 17 = .ok (.invokestatic 114, 3) := by decide +kernel
theorem dX5_piper_20 : decode cX5_piper 20 = .ok (.ifCond .eq 13, 3) := by decide +kernel
theorem dX5_piper_23 : decode cX5_piper 23 = .ok (.iload_n 3, 1) := by decide +kernel
theorem dX5_piper_24 : decode cX5_piper 24 = .ok (.iconst 0, 1) := by decide +kernel
theorem dX5_piper_25 : decode cX5_piper 25 = .ok (.bipush 9, 2) := by decide +kernel
theorem dX5_piper_27 : decode cX5_piper 27 = .ok (.invokestatic 114, 3) := by decide +kernel
theorem dX5_piper_30 : decode cX5_piper 30 = .ok (.ifCond .ne 7, 3) := by decide +kernel
theorem dX5_piper_33 : decode cX5_piper 33 = .ok (.iconst 1, 1) := by decide +kernel
theorem dX5_piper_34 : decode cX5_piper 34 = .ok (.goto 17, 3) := by decide +kernel
theorem dX5_piper_37 : decode cX5_piper 37 = .ok (.aload_n 0, 1) := by decide +kernel
theorem dX5_piper_38 : decode cX5_piper 38 = .ok (.getfield 168, 3) := by decide +kernel
theorem dX5_piper_41 : decode cX5_piper 41 = .ok (.bipush 8, 2) := by decide +kernel
theorem dX5_piper_43 : decode cX5_piper 43 = .ok (.if_icmp .ne 7, 3) := by decide +kernel
theorem dX5_piper_46 : decode cX5_piper 46 = .ok (.iconst 2, 1) := by decide +kernel
theorem dX5_piper_47 : decode cX5_piper 47 = .ok (.goto 4, 3) := by decide +kernel
theorem dX5_piper_50 : decode cX5_piper 50 = .ok (.iconst 0, 1) := by decide +kernel
theorem dX5_piper_51 : decode cX5_piper 51 = .ok (.putfield 107, 3) := by decide +kernel
theorem dX5_piper_54 : decode cX5_piper 54 = .ok (.aload_n 0, 1) := by decide +kernel
theorem dX5_piper_55 : decode cX5_piper 55 = .ok (.getfield 107, 3) := by decide +kernel
theorem dX5_piper_58 : decode cX5_piper 58 = .ok (.ifCond .le 5, 3) := by decide +kernel
theorem dX5_piper_61 : decode cX5_piper 61 = .ok (.iconst 0, 1) := by decide +kernel
theorem dX5_piper_62 : decode cX5_piper 62 = .ok (.ireturn, 1) := by decide +kernel
theorem dX5_piper_63 : decode cX5_piper 63 = .ok (.aload_n 0, 1) := by decide +kernel
theorem dX5_piper_64 : decode cX5_piper 64 = .ok (.getfield 53, 3) := by decide +kernel
theorem dX5_piper_67 : decode cX5_piper 67 = .ok (.aload_n 0, 1) := by decide +kernel
theorem dX5_piper_68 : decode cX5_piper 68 = .ok (.getfield 168, 3) := by decide +kernel
theorem dX5_piper_71 : decode cX5_piper 71 = .ok (.iload_n 1, 1) := by decide +kernel
theorem dX5_piper_72 : decode cX5_piper 72 = .ok (.iastore, 1) := by decide +kernel
theorem dX5_piper_73 : decode cX5_piper 73 = .ok (.aload_n 0, 1) := by decide +kernel
theorem dX5_piper_74 : decode cX5_piper 74 = .ok (.getfield 56, 3) := by decide +kernel
theorem dX5_piper_77 : decode cX5_piper 77 = .ok (.aload_n 0, 1) := by decide +kernel
theorem dX5_piper_78 : decode cX5_piper 78 = .ok (.getfield 168, 3) := by decide +kernel
theorem dX5_piper_81 : decode cX5_piper 81 = .ok (.iload_n 2, 1) := by decide +kernel
theorem dX5_piper_82 : decode cX5_piper 82 = .ok (.iastore, 1) := by decide +kernel
theorem dX5_piper_83 : decode cX5_piper 83 = .ok (.aload_n 0, 1) := by decide +kernel
theorem dX5_piper_84 : decode cX5_piper 84 = .ok (.getfield 59, 3) := by decide +kernel
theorem dX5_piper_87 : decode cX5_piper 87 = .ok (.aload_n 0, 1) := by decide +kernel
theorem dX5_piper_88 : decode cX5_piper 88 = .ok (.getfield 168, 3) := by decide +kernel
theorem dX5_piper_91 : decode cX5_piper 91 = .ok (.iload_n 3, 1) := by decide +kernel
theorem dX5_piper_92 : decode cX5_piper 92 = .ok (.iastore, 1) := by decide +kernel
theorem dX5_piper_93 : decode cX5_piper 93 = .ok (.aload_n 0, 1) := by decide +kernel
theorem dX5_piper_94 : decode cX5_piper 94 = .ok (.dup, 1) := by decide +kernel
theorem dX5_piper_95 : decode cX5_piper 95 = .ok (.getfield 168, 3) := by decide +kernel
theorem dX5_piper_98 : decode cX5_piper 98 = .ok (.iconst 1, 1) := by decide +kernel
theorem dX5_piper_99 : decode cX5_piper 99 = .ok (.iadd, 1) := by decide +kernel
theorem dX5_piper_100 : decode cX5_piper 100 = .ok (.putfield 168, 3) := by decide +kernel
theorem dX5_piper_103 : decode cX5_piper 103 = .ok (.aload_n 0, 1) := by decide +kernel
theorem dX5_piper_104 : decode cX5_piper 104 = .ok (.getfield 168, 3) := by decide +kernel
theorem dX5_piper_107 : decode cX5_piper 107 = .ok (.iconst 1, 1) := by decide +kernel
theorem dX5_piper_108 : decode cX5_piper 108 = .ok (.isub, 1) := by decide +kernel
theorem dX5_piper_109 : decode cX5_piper 109 = .ok (.ireturn, 1) := by decide +kernel
theorem dX5_seat_0 : decode cX5_seat 0 = .ok (.aload_n 0, 1) := by decide +kernel
theorem dX5_seat_1 : decode cX5_seat 1 = .ok (.aload_n 0, 1) := by decide +kernel
theorem dX5_seat_2 : decode cX5_seat 2 = .ok (.iload_n 1, 1) := by decide +kernel
theorem dX5_seat_3 : decode cX5_seat 3 = .ok (.invokevirtual 171, 3) := by decide +kernel
theorem dX5_seat_6 : decode cX5_seat 6 = .ok (.ifCond .ne 7, 3) := by decide +kernel
theorem dX5_seat_9 : decode cX5_seat 9 = .ok (.iconst 1, 1) := by decide +kernel
theorem dX5_seat_10 : decode cX5_seat 10 = .ok (.goto 37, 3) := by decide +kernel
theorem dX5_seat_13 : decode cX5_seat 13 = .ok (.iload_n 2, 1) := by decide +kernel
theorem dX5_seat_14 : decode cX5_seat 14 = .ok (.bipush (-100), 2) := by decide +kernel
theorem dX5_seat_16 : decode cX5_seat 16 = .ok (.bipush 100, 2) := by decide +kernel
theorem dX5_seat_18 : decode cX5_seat 18 = .ok (.invokestatic 114, 3) := by decide +kernel
theorem dX5_seat_21 : decode cX5_seat 21 = .ok (.ifCond .eq 21, 3) := by decide +kernel
theorem dX5_seat_24 : decode cX5_seat 24 = .ok (.aload_n 0, 1) := by decide +kernel
theorem dX5_seat_25 : decode cX5_seat 25 = .ok (.getfield 62, 3) := by decide +kernel
theorem dX5_seat_28 : decode cX5_seat 28 = .ok (.iload_n 1, 1) := by decide +kernel
theorem dX5_seat_29 : decode cX5_seat 29 = .ok (.iaload, 1) := by decide +kernel
theorem dX5_seat_30 : decode cX5_seat 30 = .ok (.iload_n 2, 1) := by decide +kernel
theorem dX5_seat_31 : decode cX5_seat 31 = .ok (.iadd, 1) := by decide +kernel
theorem dX5_seat_32 : decode cX5_seat 32 = .ok (.bipush (-100), 2) := by decide +kernel
theorem dX5_seat_34 : decode cX5_seat 34 = .ok (.bipush 100, 2) := by decide +kernel
theorem dX5_seat_36 : decode cX5_seat 36 = .ok (.invokestatic 114, 3) := by decide +kernel
theorem dX5_seat_39 : decode cX5_seat 39 = .ok (.ifCond .ne 7, 3) := by decide +kernel
theorem dX5_seat_42 : decode cX5_seat 42 = .ok (.iconst 2, 1) := by decide +kernel
theorem dX5_seat_43 : decode cX5_seat 43 = .ok (.goto 4, 3) := by decide +kernel
theorem dX5_seat_46 : decode cX5_seat 46 = .ok (.iconst 0, 1) := by decide +kernel
theorem dX5_seat_47 : decode cX5_seat 47 = .ok (.putfield 107, 3) := by decide +kernel
theorem dX5_seat_50 : decode cX5_seat 50 = .ok (.aload_n 0, 1) := by decide +kernel
theorem dX5_seat_51 : decode cX5_seat 51 = .ok (.getfield 107, 3) := by decide +kernel
theorem dX5_seat_54 : decode cX5_seat 54 = .ok (.ifCond .le 5, 3) := by decide +kernel
theorem dX5_seat_57 : decode cX5_seat 57 = .ok (.iconst 0, 1) := by decide +kernel
theorem dX5_seat_58 : decode cX5_seat 58 = .ok (.ireturn, 1) := by decide +kernel
theorem dX5_seat_59 : decode cX5_seat 59 = .ok (.aload_n 0, 1) := by decide +kernel
theorem dX5_seat_60 : decode cX5_seat 60 = .ok (.getfield 62, 3) := by decide +kernel
theorem dX5_seat_63 : decode cX5_seat 63 = .ok (.iload_n 1, 1) := by decide +kernel
theorem dX5_seat_64 : decode cX5_seat 64 = .ok (.dup2, 1) := by decide +kernel
theorem dX5_seat_65 : decode cX5_seat 65 = .ok (.iaload, 1) := by decide +kernel
theorem dX5_seat_66 : decode cX5_seat 66 = .ok (.iload_n 2, 1) := by decide +kernel
theorem dX5_seat_67 : decode cX5_seat 67 = .ok (.iadd, 1) := by decide +kernel
theorem dX5_seat_68 : decode cX5_seat 68 = .ok (.iastore, 1) := by decide +kernel
theorem dX5_seat_69 : decode cX5_seat 69 = .ok (.aload_n 0, 1) := by decide +kernel
theorem dX5_seat_70 : decode cX5_seat 70 = .ok (.getfield 62, 3) := by decide +kernel
theorem dX5_seat_73 : decode cX5_seat 73 = .ok (.iload_n 1, 1) := by decide +kernel
theorem dX5_seat_74 : decode cX5_seat 74 = .ok (.iaload, 1) := by decide +kernel
theorem dX5_seat_75 : decode cX5_seat 75 = .ok (.ireturn, 1) := by decide +kernel
theorem dX5_rest_0 : decode cX5_rest 0 = .ok (.aload_n 0, 1) := by decide +kernel
theorem dX5_rest_1 : decode cX5_rest 1 = .ok (.aload_n 0, 1) := by decide +kernel
theorem dX5_rest_2 : decode cX5_rest 2 = .ok (.iload_n 1, 1) := by decide +kernel
theorem dX5_rest_3 : decode cX5_rest 3 = .ok (.invokevirtual 171, 3) := by decide +kernel
theorem dX5_rest_6 : decode cX5_rest 6 = .ok (.ifCond .eq 7, 3) := by decide +kernel
theorem dX5_rest_9 : decode cX5_rest 9 = .ok (.iconst 0, 1) := by decide +kernel
theorem dX5_rest_10 : decode cX5_rest 10 = .ok (.goto 4, 3) := by decide +kernel
theorem dX5_rest_13 : decode cX5_rest 13 = .ok (.iconst 1, 1) := by decide +kernel
theorem dX5_rest_14 : decode cX5_rest 14 = .ok (.putfield 107, 3) := by decide +kernel
theorem dX5_rest_17 : decode cX5_rest 17 = .ok (.aload_n 0, 1) := by decide +kernel
theorem dX5_rest_18 : decode cX5_rest 18 = .ok (.getfield 107, 3) := by decide +kernel
theorem dX5_rest_21 : decode cX5_rest 21 = .ok (.ifCond .le 5, 3) := by decide +kernel
theorem dX5_rest_24 : decode cX5_rest 24 = .ok (.iconst 0, 1) := by decide +kernel
theorem dX5_rest_25 : decode cX5_rest 25 = .ok (.ireturn, 1) := by decide +kernel
theorem dX5_rest_26 : decode cX5_rest 26 = .ok (.aload_n 0, 1) := by decide +kernel
theorem dX5_rest_27 : decode cX5_rest 27 = .ok (.getfield 71, 3) := by decide +kernel
theorem dX5_rest_30 : decode cX5_rest 30 = .ok (.iload_n 1, 1) := by decide +kernel
theorem dX5_rest_31 : decode cX5_rest 31 = .ok (.baload, 1) := by decide +kernel
theorem dX5_rest_32 : decode cX5_rest 32 = .ok (.istore_n 3, 1) := by decide +kernel
theorem dX5_rest_33 : decode cX5_rest 33 = .ok (.aload_n 0, 1) := by decide +kernel
theorem dX5_rest_34 : decode cX5_rest 34 = .ok (.getfield 71, 3) := by decide +kernel
theorem dX5_rest_37 : decode cX5_rest 37 = .ok (.iload_n 1, 1) := by decide +kernel
theorem dX5_rest_38 : decode cX5_rest 38 = .ok (.iload_n 2, 1) := by decide +kernel
theorem dX5_rest_39 : decode cX5_rest 39 = .ok (.bastore, 1) := by decide +kernel
theorem dX5_rest_40 : decode cX5_rest 40 = .ok (.iload_n 3, 1) := by decide +kernel
theorem dX5_rest_41 : decode cX5_rest 41 = .ok (.ireturn, 1) := by decide +kernel
theorem dX5_pitch_0 : decode cX5_pitch 0 = .ok (.aload_n 0, 1) := by decide +kernel
theorem dX5_pitch_1 : decode cX5_pitch 1 = .ok (.getfield 53, 3) := by decide +kernel
theorem dX5_pitch_4 : decode cX5_pitch 4 = .ok (.iload_n 1, 1) := by decide +kernel
theorem dX5_pitch_5 : decode cX5_pitch 5 = .ok (.iaload, 1) := by decide +kernel
theorem dX5_pitch_6 : decode cX5_pitch 6 = .ok (.aload_n 0, 1) := by decide +kernel
theorem dX5_pitch_7 : decode cX5_pitch 7 = .ok (.getfield 62, 3) := by decide +kernel
theorem dX5_pitch_10 : decode cX5_pitch 10 = .ok (.iload_n 1, 1) := by decide +kernel
theorem dX5_pitch_11 : decode cX5_pitch 11 = .ok (.iaload, 1) := by decide +kernel
theorem dX5_pitch_12 : decode cX5_pitch 12 = .ok (.iadd, 1) := by decide +kernel
theorem dX5_pitch_13 : decode cX5_pitch 13 = .ok (.iconst 2, 1) := by decide +kernel
theorem dX5_pitch_14 : decode cX5_pitch 14 = .ok (.aload_n 0, 1) := by decide +kernel
theorem dX5_pitch_15 : decode cX5_pitch 15 = .ok (.getfield 56, 3) := by decide +kernel
theorem dX5_pitch_18 : decode cX5_pitch 18 = .ok (.iload_n 1, 1) := by decide +kernel
theorem dX5_pitch_19 : decode cX5_pitch 19 = .ok (.iaload, 1) := by decide +kernel
theorem dX5_pitch_20 : decode cX5_pitch 20 = .ok (.imul, 1) := by decide +kernel
theorem dX5_pitch_21 : decode cX5_pitch 21 = .ok (.iadd, 1) := by decide +kernel
theorem dX5_pitch_22 : decode cX5_pitch 22 = .ok (.iconst 3, 1) := by decide +kernel
theorem dX5_pitch_23 : decode cX5_pitch 23 = .ok (.aload_n 0, 1) := by decide +kernel
theorem dX5_pitch_24 : decode cX5_pitch 24 = .ok (.getfield 65, 3) := by decide +kernel
theorem dX5_pitch_27 : decode cX5_pitch 27 = .ok (.iload_n 1, 1) := by decide +kernel
theorem dX5_pitch_28 : decode cX5_pitch 28 = .ok (.iaload, 1) := by decide +kernel
theorem dX5_pitch_29 : decode cX5_pitch 29 = .ok (.imul, 1) := by decide +kernel
theorem dX5_pitch_30 : decode cX5_pitch 30 = .ok (.iadd, 1) := by decide +kernel
theorem dX5_pitch_31 : decode cX5_pitch 31 = .ok (.aload_n 0, 1) := by decide +kernel
theorem dX5_pitch_32 : decode cX5_pitch 32 = .ok (.getfield 68, 3) := by decide +kernel
theorem dX5_pitch_35 : decode cX5_pitch 35 = .ok (.iload_n 1, 1) := by decide +kernel
theorem dX5_pitch_36 : decode cX5_pitch 36 = .ok (.iaload, 1) := by decide +kernel
theorem dX5_pitch_37 : decode cX5_pitch 37 = .ok (.isub, 1) := by decide +kernel
theorem dX5_pitch_38 : decode cX5_pitch 38 = .ok (.ireturn, 1) := by decide +kernel
theorem dX5_spreadBut_0 : decode cX5_spreadBut 0 = .ok (.ldc 174, 2) := by decide +kernel
theorem dX5_spreadBut_2 : decode cX5_spreadBut 2 = .ok (.istore_n 2, 1) := by decide +kernel
theorem dX5_spreadBut_3 : decode cX5_spreadBut 3 = .ok (.ldc 175, 2) := by decide +kernel
theorem dX5_spreadBut_5 : decode cX5_spreadBut 5 = .ok (.istore_n 3, 1) := by decide +kernel
theorem dX5_spreadBut_6 : decode cX5_spreadBut 6 = .ok (.iconst 0, 1) := by decide +kernel
theorem dX5_spreadBut_7 : decode cX5_spreadBut 7 = .ok (.istore 4, 2) := by decide +kernel
theorem dX5_spreadBut_9 : decode cX5_spreadBut 9 = .ok (.iload 4, 2) := by decide +kernel
theorem dX5_spreadBut_11 : decode cX5_spreadBut 11 = .ok (.aload_n 0, 1) := by decide +kernel
theorem dX5_spreadBut_12 : decode cX5_spreadBut 12 = .ok (.getfield 168, 3) := by decide +kernel
theorem dX5_spreadBut_15 : decode cX5_spreadBut 15 = .ok (.if_icmp .ge 67, 3) := by decide +kernel
theorem dX5_spreadBut_18 : decode cX5_spreadBut 18 = .ok (.aload_n 0, 1) := by decide +kernel
theorem dX5_spreadBut_19 : decode cX5_spreadBut 19 = .ok (.getfield 71, 3) := by decide +kernel
theorem dX5_spreadBut_22 : decode cX5_spreadBut 22 = .ok (.iload 4, 2) := by decide +kernel
theorem dX5_spreadBut_24 : decode cX5_spreadBut 24 = .ok (.baload, 1) := by decide +kernel
theorem dX5_spreadBut_25 : decode cX5_spreadBut 25 = .ok (.ifCond .ne 51, 3) := by decide +kernel
theorem dX5_spreadBut_28 : decode cX5_spreadBut 28 = .ok (.iload 4, 2) := by decide +kernel
theorem dX5_spreadBut_30 : decode cX5_spreadBut 30 = .ok (.iload_n 1, 1) := by decide +kernel
theorem dX5_spreadBut_31 : decode cX5_spreadBut 31 = .ok (.if_icmp .eq 45, 3) := by decide +kernel
theorem dX5_spreadBut_34 : decode cX5_spreadBut 34 = .ok (.aload_n 0, 1) := by decide +kernel
theorem dX5_spreadBut_35 : decode cX5_spreadBut 35 = .ok (.iload 4, 2) := by decide +kernel
theorem dX5_spreadBut_37 : decode cX5_spreadBut 37 = .ok (.invokevirtual 176, 3) := by decide +kernel
theorem dX5_spreadBut_40 : decode cX5_spreadBut 40 = .ok (.iload_n 2, 1) := by decide +kernel
theorem dX5_spreadBut_41 : decode cX5_spreadBut 41 = .ok (.if_icmp .ge 12, 3) := by decide +kernel
theorem dX5_spreadBut_44 : decode cX5_spreadBut 44 = .ok (.aload_n 0, 1) := by decide +kernel
theorem dX5_spreadBut_45 : decode cX5_spreadBut 45 = .ok (.iload 4, 2) := by decide +kernel
theorem dX5_spreadBut_47 : decode cX5_spreadBut 47 = .ok (.invokevirtual 176, 3) := by decide +kernel
theorem dX5_spreadBut_50 : decode cX5_spreadBut 50 = .ok (.goto 4, 3) := by decide +kernel
theorem dX5_spreadBut_53 : decode cX5_spreadBut 53 = .ok (.iload_n 2, 1) := by decide +kernel
theorem dX5_spreadBut_54 : decode cX5_spreadBut 54 = .ok (.istore_n 2, 1) := by decide +kernel
theorem dX5_spreadBut_55 : decode cX5_spreadBut 55 = .ok (.aload_n 0, 1) := by decide +kernel
theorem dX5_spreadBut_56 : decode cX5_spreadBut 56 = .ok (.iload 4, 2) := by decide +kernel
theorem dX5_spreadBut_58 : decode cX5_spreadBut 58 = .ok (.invokevirtual 176, 3) := by decide +kernel
theorem dX5_spreadBut_61 : decode cX5_spreadBut 61 = .ok (.iload_n 3, 1) := by decide +kernel
theorem dX5_spreadBut_62 : decode cX5_spreadBut 62 = .ok (.if_icmp .le 12, 3) := by decide +kernel
theorem dX5_spreadBut_65 : decode cX5_spreadBut 65 = .ok (.aload_n 0, 1) := by decide +kernel
theorem dX5_spreadBut_66 : decode cX5_spreadBut 66 = .ok (.iload 4, 2) := by decide +kernel
theorem dX5_spreadBut_68 : decode cX5_spreadBut 68 = .ok (.invokevirtual 176, 3) := by decide +kernel
theorem dX5_spreadBut_71 : decode cX5_spreadBut 71 = .ok (.goto 4, 3) := by decide +kernel
theorem dX5_spreadBut_74 : decode cX5_spreadBut 74 = .ok (.iload_n 3, 1) := by decide +kernel
theorem dX5_spreadBut_75 : decode cX5_spreadBut 75 = .ok (.istore_n 3, 1) := by decide +kernel
theorem dX5_spreadBut_76 : decode cX5_spreadBut 76 = .ok (.iinc 4 1, 3) := by decide +kernel
theorem dX5_spreadBut_79 : decode cX5_spreadBut 79 = .ok (.goto (-70), 3) := by decide +kernel
theorem dX5_spreadBut_82 : decode cX5_spreadBut 82 = .ok (.iload_n 3, 1) := by decide +kernel
theorem dX5_spreadBut_83 : decode cX5_spreadBut 83 = .ok (.iload_n 2, 1) := by decide +kernel
theorem dX5_spreadBut_84 : decode cX5_spreadBut 84 = .ok (.if_icmp .ge 7, 3) := by decide +kernel
theorem dX5_spreadBut_87 : decode cX5_spreadBut 87 = .ok (.iconst 0, 1) := by decide +kernel
theorem dX5_spreadBut_88 : decode cX5_spreadBut 88 = .ok (.goto 6, 3) := by decide +kernel
theorem dX5_spreadBut_91 : decode cX5_spreadBut 91 = .ok (.iload_n 3, 1) := by decide +kernel
theorem dX5_spreadBut_92 : decode cX5_spreadBut 92 = .ok (.iload_n 2, 1) := by decide +kernel
theorem dX5_spreadBut_93 : decode cX5_spreadBut 93 = .ok (.isub, 1) := by decide +kernel
theorem dX5_spreadBut_94 : decode cX5_spreadBut 94 = .ok (.ireturn, 1) := by decide +kernel
theorem dX5_goesOn_0 : decode cX5_goesOn 0 = .ok (.aload_n 0, 1) := by decide +kernel
theorem dX5_goesOn_1 : decode cX5_goesOn 1 = .ok (.getfield 71, 3) := by decide +kernel
theorem dX5_goesOn_4 : decode cX5_goesOn 4 = .ok (.iload_n 1, 1) := by decide +kernel
theorem dX5_goesOn_5 : decode cX5_goesOn 5 = .ok (.baload, 1) := by decide +kernel
theorem dX5_goesOn_6 : decode cX5_goesOn 6 = .ok (.ifCond .eq 57, 3) := by decide +kernel
theorem dX5_goesOn_9 : decode cX5_goesOn 9 = .ok (.aload_n 0, 1) := by decide +kernel
theorem dX5_goesOn_10 : decode cX5_goesOn 10 = .ok (.getfield 68, 3) := by decide +kernel
theorem dX5_goesOn_13 : decode cX5_goesOn 13 = .ok (.iload_n 1, 1) := by decide +kernel
theorem dX5_goesOn_14 : decode cX5_goesOn 14 = .ok (.aload_n 0, 1) := by decide +kernel
theorem dX5_goesOn_15 : decode cX5_goesOn 15 = .ok (.getfield 68, 3) := by decide +kernel
theorem dX5_goesOn_18 : decode cX5_goesOn 18 = .ok (.iload_n 1, 1) := by decide +kernel
theorem dX5_goesOn_19 : decode cX5_goesOn 19 = .ok (.iaload, 1) := by decide +kernel
theorem dX5_goesOn_20 : decode cX5_goesOn 20 = .ok (.iconst 2, 1) := by decide +kernel
theorem dX5_goesOn_21 : decode cX5_goesOn 21 = .ok (.if_icmp .ge 7, 3) := by decide +kernel
theorem dX5_goesOn_24 : decode cX5_goesOn 24 = .ok (.iconst 0, 1) := by decide +kernel
theorem dX5_goesOn_25 : decode cX5_goesOn 25 = .ok (.goto 11, 3) := by decide +kernel
theorem dX5_goesOn_28 : decode cX5_goesOn 28 = .ok (.aload_n 0, 1) := by decide +kernel
theorem dX5_goesOn_29 : decode cX5_goesOn 29 = .ok (.getfield 68, 3) := by decide +kernel
theorem dX5_goesOn_32 : decode cX5_goesOn 32 = .ok (.iload_n 1, 1) := by decide +kernel
theorem dX5_goesOn_33 : decode cX5_goesOn 33 = .ok (.iaload, 1) := by decide +kernel
theorem dX5_goesOn_34 : decode cX5_goesOn 34 = .ok (.iconst 2, 1) := by decide +kernel
theorem dX5_goesOn_35 : decode cX5_goesOn 35 = .ok (.isub, 1) := by decide +kernel
theorem dX5_goesOn_36 : decode cX5_goesOn 36 = .ok (.iastore, 1) := by decide +kernel
theorem dX5_goesOn_37 : decode cX5_goesOn 37 = .ok (.aload_n 0, 1) := by decide +kernel
theorem dX5_goesOn_38 : decode cX5_goesOn 38 = .ok (.getfield 65, 3) := by decide +kernel
theorem dX5_goesOn_41 : decode cX5_goesOn 41 = .ok (.iload_n 1, 1) := by decide +kernel
theorem dX5_goesOn_42 : decode cX5_goesOn 42 = .ok (.dup2, 1) := by decide +kernel
theorem dX5_goesOn_43 : decode cX5_goesOn 43 = .ok (.iaload, 1) := by decide +kernel
theorem dX5_goesOn_44 : decode cX5_goesOn 44 = .ok (.aload_n 0, 1) := by decide +kernel
theorem dX5_goesOn_45 : decode cX5_goesOn 45 = .ok (.getfield 65, 3) := by decide +kernel
theorem dX5_goesOn_48 : decode cX5_goesOn 48 = .ok (.iload_n 1, 1) := by decide +kernel
theorem dX5_goesOn_49 : decode cX5_goesOn 49 = .ok (.iaload, 1) := by decide +kernel
theorem dX5_goesOn_50 : decode cX5_goesOn 50 = .ok (.ifCond .le 7, 3) := by decide +kernel
theorem dX5_goesOn_53 : decode cX5_goesOn 53 = .ok (.iconst 1, 1) := by decide +kernel
theorem dX5_goesOn_54 : decode cX5_goesOn 54 = .ok (.goto 4, 3) := by decide +kernel
theorem dX5_goesOn_57 : decode cX5_goesOn 57 = .ok (.iconst 0, 1) := by decide +kernel
theorem dX5_goesOn_58 : decode cX5_goesOn 58 = .ok (.isub, 1) := by decide +kernel
theorem dX5_goesOn_59 : decode cX5_goesOn 59 = .ok (.iastore, 1) := by decide +kernel
theorem dX5_goesOn_60 : decode cX5_goesOn 60 = .ok (.goto 114, 3) := by decide +kernel
theorem dX5_goesOn_63 : decode cX5_goesOn 63 = .ok (.aload_n 0, 1) := by decide +kernel
theorem dX5_goesOn_64 : decode cX5_goesOn 64 = .ok (.getfield 68, 3) := by decide +kernel
theorem dX5_goesOn_67 : decode cX5_goesOn 67 = .ok (.iload_n 1, 1) := by decide +kernel
theorem dX5_goesOn_68 : decode cX5_goesOn 68 = .ok (.iaload, 1) := by decide +kernel
theorem dX5_goesOn_69 : decode cX5_goesOn 69 = .ok (.aload_n 0, 1) := by decide +kernel
theorem dX5_goesOn_70 : decode cX5_goesOn 70 = .ok (.getfield 59, 3) := by decide +kernel
theorem dX5_goesOn_73 : decode cX5_goesOn 73 = .ok (.iload_n 1, 1) := by decide +kernel
theorem dX5_goesOn_74 : decode cX5_goesOn 74 = .ok (.iaload, 1) := by decide +kernel
theorem dX5_goesOn_75 : decode cX5_goesOn 75 = .ok (.iadd, 1) := by decide +kernel
theorem dX5_goesOn_76 : decode cX5_goesOn 76 = .ok (.iload_n 2, 1) := by decide +kernel
theorem dX5_goesOn_77 : decode cX5_goesOn 77 = .ok (.iadd, 1) := by decide +kernel
theorem dX5_goesOn_78 : decode cX5_goesOn 78 = .ok (.istore 4, 2) := by decide +kernel
theorem dX5_goesOn_80 : decode cX5_goesOn 80 = .ok (.aload_n 0, 1) := by decide +kernel
theorem dX5_goesOn_81 : decode cX5_goesOn 81 = .ok (.getfield 68, 3) := by decide +kernel
theorem dX5_goesOn_84 : decode cX5_goesOn 84 = .ok (.iload_n 1, 1) := by decide +kernel
theorem dX5_goesOn_85 : decode cX5_goesOn 85 = .ok (.iload 4, 2) := by decide +kernel
theorem dX5_goesOn_87 : decode cX5_goesOn 87 = .ok (.bipush 100, 2) := by decide +kernel
theorem dX5_goesOn_89 : decode cX5_goesOn 89 = .ok (.if_icmp .le 8, 3) := by decide +kernel
theorem dX5_goesOn_92 : decode cX5_goesOn 92 = .ok (.bipush 100, 2) := by decide +kernel
theorem dX5_goesOn_94 : decode cX5_goesOn 94 = .ok (.goto 5, 3) := by decide +kernel
theorem dX5_goesOn_97 : decode cX5_goesOn 97 = .ok (.iload 4, 2) := by decide +kernel
theorem dX5_goesOn_99 : decode cX5_goesOn 99 = .ok (.iastore, 1) := by decide +kernel
theorem dX5_goesOn_100 : decode cX5_goesOn 100 = .ok (.aload_n 0, 1) := by decide +kernel
theorem dX5_goesOn_101 : decode cX5_goesOn 101 = .ok (.getfield 65, 3) := by decide +kernel
theorem dX5_goesOn_104 : decode cX5_goesOn 104 = .ok (.iload_n 1, 1) := by decide +kernel
theorem dX5_goesOn_105 : decode cX5_goesOn 105 = .ok (.dup2, 1) := by decide +kernel
theorem dX5_goesOn_106 : decode cX5_goesOn 106 = .ok (.iaload, 1) := by decide +kernel
theorem dX5_goesOn_107 : decode cX5_goesOn 107 = .ok (.aload_n 0, 1) := by decide +kernel
theorem dX5_goesOn_108 : decode cX5_goesOn 108 = .ok (.getfield 65, 3) := by decide +kernel
theorem dX5_goesOn_111 : decode cX5_goesOn 111 = .ok (.iload_n 1, 1) := by decide +kernel
theorem dX5_goesOn_112 : decode cX5_goesOn 112 = .ok (.iaload, 1) := by decide +kernel
theorem dX5_goesOn_113 : decode cX5_goesOn 113 = .ok (.iload_n 3, 1) := by decide +kernel
theorem dX5_goesOn_114 : decode cX5_goesOn 114 = .ok (.if_icmp .ge 7, 3) := by decide +kernel
theorem dX5_goesOn_117 : decode cX5_goesOn 117 = .ok (.iconst 1, 1) := by decide +kernel
theorem dX5_goesOn_118 : decode cX5_goesOn 118 = .ok (.goto 18, 3) := by decide +kernel
theorem dX5_goesOn_121 : decode cX5_goesOn 121 = .ok (.aload_n 0, 1) := by decide +kernel
theorem dX5_goesOn_122 : decode cX5_goesOn 122 = .ok (.getfield 65, 3) := by decide +kernel
theorem dX5_goesOn_125 : decode cX5_goesOn 125 = .ok (.iload_n 1, 1) := by decide +kernel
theorem dX5_goesOn_126 : decode cX5_goesOn 126 = .ok (.iaload, 1) := by decide +kernel
theorem dX5_goesOn_127 : decode cX5_goesOn 127 = .ok (.iload_n 3, 1) := by decide +kernel
theorem dX5_goesOn_128 : decode cX5_goesOn 128 = .ok (.if_icmp .le 7, 3) := by decide +kernel
theorem dX5_goesOn_131 : decode cX5_goesOn 131 = .ok (.iconst (-1), 1) := by decide +kernel
theorem dX5_goesOn_132 : decode cX5_goesOn 132 = .ok (.goto 4, 3) := by decide +kernel
theorem dX5_goesOn_135 : decode cX5_goesOn 135 = .ok (.iconst 0, 1) := by decide +kernel
theorem dX5_goesOn_136 : decode cX5_goesOn 136 = .ok (.iadd, 1) := by decide +kernel
theorem dX5_goesOn_137 : decode cX5_goesOn 137 = .ok (.iastore, 1) := by decide +kernel
theorem dX5_goesOn_138 : decode cX5_goesOn 138 = .ok (.aload_n 0, 1) := by decide +kernel
theorem dX5_goesOn_139 : decode cX5_goesOn 139 = .ok (.getfield 53, 3) := by decide +kernel
theorem dX5_goesOn_142 : decode cX5_goesOn 142 = .ok (.iload_n 1, 1) := by decide +kernel
theorem dX5_goesOn_143 : decode cX5_goesOn 143 = .ok (.dup2, 1) := by decide +kernel
theorem dX5_goesOn_144 : decode cX5_goesOn 144 = .ok (.iaload, 1) := by decide +kernel
theorem dX5_goesOn_145 : decode cX5_goesOn 145 = .ok (.aload_n 0, 1) := by decide +kernel
theorem dX5_goesOn_146 : decode cX5_goesOn 146 = .ok (.getfield 68, 3) := by decide +kernel
theorem dX5_goesOn_149 : decode cX5_goesOn 149 = .ok (.iload_n 1, 1) := by decide +kernel
theorem dX5_goesOn_150 : decode cX5_goesOn 150 = .ok (.iaload, 1) := by decide +kernel
theorem dX5_goesOn_151 : decode cX5_goesOn 151 = .ok (.bipush 100, 2) := by decide +kernel
theorem dX5_goesOn_153 : decode cX5_goesOn 153 = .ok (.if_icmp .ne 18, 3) := by decide +kernel
theorem dX5_goesOn_156 : decode cX5_goesOn 156 = .ok (.aload_n 0, 1) := by decide +kernel
theorem dX5_goesOn_157 : decode cX5_goesOn 157 = .ok (.getfield 53, 3) := by decide +kernel
theorem dX5_goesOn_160 : decode cX5_goesOn 160 = .ok (.iload_n 1, 1) := by decide +kernel
theorem dX5_goesOn_161 : decode cX5_goesOn 161 = .ok (.iaload, 1) := by decide +kernel
theorem dX5_goesOn_162 : decode cX5_goesOn 162 = .ok (.bipush (-100), 2) := by decide +kernel
theorem dX5_goesOn_164 : decode cX5_goesOn 164 = .ok (.if_icmp .le 7, 3) := by decide +kernel
theorem dX5_goesOn_167 : decode cX5_goesOn 167 = .ok (.iconst 1, 1) := by decide +kernel
theorem dX5_goesOn_168 : decode cX5_goesOn 168 = .ok (.goto 4, 3) := by decide +kernel
theorem dX5_goesOn_171 : decode cX5_goesOn 171 = .ok (.iconst 0, 1) := by decide +kernel
theorem dX5_goesOn_172 : decode cX5_goesOn 172 = .ok (.isub, 1) := by decide +kernel
theorem dX5_goesOn_173 : decode cX5_goesOn 173 = .ok (.iastore, 1) := by decide +kernel
theorem dX5_goesOn_174 : decode cX5_goesOn 174 = .ok (.return_, 1) := by decide +kernel
theorem dX5_goes_0 : decode cX5_goes 0 = .ok (.iconst 0, 1) := by decide +kernel
theorem dX5_goes_1 : decode cX5_goes 1 = .ok (.istore 4, 2) := by decide +kernel
theorem dX5_goes_3 : decode cX5_goes 3 = .ok (.iload 4, 2) := by decide +kernel
theorem dX5_goes_5 : decode cX5_goes 5 = .ok (.iload_n 1, 1) := by decide +kernel
theorem dX5_goes_6 : decode cX5_goes 6 = .ok (.if_icmp .ge 35, 3) := by decide +kernel
theorem dX5_goes_9 : decode cX5_goes 9 = .ok (.iconst 0, 1) := by decide +kernel
theorem dX5_goes_10 : decode cX5_goes 10 = .ok (.istore 5, 2) := by decide +kernel
theorem dX5_goes_12 : decode cX5_goes 12 = .ok (.iload 5, 2) := by decide +kernel
theorem dX5_goes_14 : decode cX5_goes 14 = .ok (.aload_n 0, 1) := by decide +kernel
theorem dX5_goes_15 : decode cX5_goes 15 = .ok (.getfield 168, 3) := by decide +kernel
theorem dX5_goes_18 : decode cX5_goes 18 = .ok (.if_icmp .ge 17, 3) := by decide +kernel
theorem dX5_goes_21 : decode cX5_goes 21 = .ok (.aload_n 0, 1) := by decide +kernel
theorem dX5_goes_22 : decode cX5_goes 22 = .ok (.iload 5, 2) := by decide +kernel
theorem dX5_goes_24 : decode cX5_goes 24 = .ok (.iload_n 2, 1) := by decide +kernel
theorem dX5_goes_25 : decode cX5_goes 25 = .ok (.iload_n 3, 1) := by decide +kernel
theorem dX5_goes_26 : decode cX5_goes 26 = .ok (.invokevirtual 179, 3) := by decide +kernel
theorem dX5_goes_29 : decode cX5_goes 29 = .ok (.iinc 5 1, 3) := by decide +kernel
theorem dX5_goes_32 : decode cX5_goes 32 = .ok (.goto (-20), 3) := by decide +kernel
theorem dX5_goes_35 : decode cX5_goes 35 = .ok (.iinc 4 1, 3) := by decide +kernel
theorem dX5_goes_38 : decode cX5_goes 38 = .ok (.goto (-35), 3) := by decide +kernel
theorem dX5_goes_41 : decode cX5_goes 41 = .ok (.aload_n 0, 1) := by decide +kernel
theorem dX5_goes_42 : decode cX5_goes 42 = .ok (.iconst (-1), 1) := by decide +kernel
theorem dX5_goes_43 : decode cX5_goes 43 = .ok (.invokevirtual 183, 3) := by decide +kernel
theorem dX5_goes_46 : decode cX5_goes 46 = .ok (.ireturn, 1) := by decide +kernel
theorem dX5_isMinute_0 : decode cX5_isMinute 0 = .ok (.iload_n 0, 1) := by decide +kernel
theorem dX5_isMinute_1 : decode cX5_isMinute 1 = .ok (.iconst 1, 1) := by decide +kernel
theorem dX5_isMinute_2 : decode cX5_isMinute 2 = .ok (.bipush 120, 2) := by decide +kernel
theorem dX5_isMinute_4 : decode cX5_isMinute 4 = .ok (.invokestatic 114, 3) := by decide +kernel
theorem dX5_isMinute_7 : decode cX5_isMinute 7 = .ok (.ifCond .eq 27, 3) := by decide +kernel
theorem dX5_isMinute_10 : decode cX5_isMinute 10 = .ok (.iload_n 1, 1) := by decide +kernel
theorem dX5_isMinute_11 : decode cX5_isMinute 11 = .ok (.iconst 0, 1) := by decide +kernel
theorem dX5_isMinute_12 : decode cX5_isMinute 12 = .ok (.bipush 9, 2) := by decide +kernel
theorem dX5_isMinute_14 : decode cX5_isMinute 14 = .ok (.invokestatic 114, 3) := by decide +kernel
theorem dX5_isMinute_17 : decode cX5_isMinute 17 = .ok (.ifCond .eq 17, 3) := by decide +kernel
theorem dX5_isMinute_20 : decode cX5_isMinute 20 = .ok (.iload_n 2, 1) := by decide +kernel
theorem dX5_isMinute_21 : decode cX5_isMinute 21 = .ok (.iconst 0, 1) := by decide +kernel
theorem dX5_isMinute_22 : decode cX5_isMinute 22 = .ok (.bipush 40, 2) := by decide +kernel
theorem dX5_isMinute_24 : decode cX5_isMinute 24 = .ok (.invokestatic 114, 3) := by decide +kernel
theorem dX5_isMinute_27 : decode cX5_isMinute 27 = .ok (.ifCond .eq 7, 3) := by decide +kernel
theorem dX5_isMinute_30 : decode cX5_isMinute 30 = .ok (.iconst 1, 1) := by decide +kernel
theorem dX5_isMinute_31 : decode cX5_isMinute 31 = .ok (.goto 4, 3) := by decide +kernel
theorem dX5_isMinute_34 : decode cX5_isMinute 34 = .ok (.iconst 0, 1) := by decide +kernel
theorem dX5_isMinute_35 : decode cX5_isMinute 35 = .ok (.ireturn, 1) := by decide +kernel
theorem dX5_play_0 : decode cX5_play 0 = .ok (.aload_n 0, 1) := by decide +kernel
theorem dX5_play_1 : decode cX5_play 1 = .ok (.iload_n 1, 1) := by decide +kernel
theorem dX5_play_2 : decode cX5_play 2 = .ok (.iload_n 2, 1) := by decide +kernel
theorem dX5_play_3 : decode cX5_play 3 = .ok (.iload_n 3, 1) := by decide +kernel
theorem dX5_play_4 : decode cX5_play 4 = .ok (.invokestatic 186, 3) := by decide +kernel
theorem dX5_play_7 : decode cX5_play 7 = .ok (.ifCond .eq 7, 3) := by decide +kernel
theorem dX5_play_10 : decode cX5_play 10 = .ok (.iconst 0, 1) := by decide +kernel
theorem dX5_play_11 : decode cX5_play 11 = .ok (.goto 4, 3) := by decide +kernel
theorem dX5_play_14 : decode cX5_play 14 = .ok (.iconst 1, 1) := by decide +kernel
theorem dX5_play_15 : decode cX5_play 15 = .ok (.putfield 107, 3) := by decide +kernel
theorem dX5_play_18 : decode cX5_play 18 = .ok (.aload_n 0, 1) := by decide +kernel
theorem dX5_play_19 : decode cX5_play 19 = .ok (.getfield 107, 3) := by decide +kernel
theorem dX5_play_22 : decode cX5_play 22 = .ok (.ifCond .le 7, 3) := by decide +kernel
theorem dX5_play_25 : decode cX5_play 25 = .ok (.iconst 0, 1) := by decide +kernel
theorem dX5_play_26 : decode cX5_play 26 = .ok (.goto 10, 3) := by decide +kernel
theorem dX5_play_29 : decode cX5_play 29 = .ok (.aload_n 0, 1) := by decide +kernel
theorem dX5_play_30 : decode cX5_play 30 = .ok (.iload_n 1, 1) := by decide +kernel
theorem dX5_play_31 : decode cX5_play 31 = .ok (.iload_n 2, 1) := by decide +kernel
theorem dX5_play_32 : decode cX5_play 32 = .ok (.iload_n 3, 1) := by decide +kernel
theorem dX5_play_33 : decode cX5_play 33 = .ok (.invokevirtual 189, 3) := by decide +kernel
theorem dX5_play_36 : decode cX5_play 36 = .ok (.ireturn, 1) := by decide +kernel
theorem dX5_ahead_0 : decode cX5_ahead 0 = .ok (.aload_n 0, 1) := by decide +kernel
theorem dX5_ahead_1 : decode cX5_ahead 1 = .ok (.iload_n 1, 1) := by decide +kernel
theorem dX5_ahead_2 : decode cX5_ahead 2 = .ok (.iload_n 2, 1) := by decide +kernel
theorem dX5_ahead_3 : decode cX5_ahead 3 = .ok (.iload_n 3, 1) := by decide +kernel
theorem dX5_ahead_4 : decode cX5_ahead 4 = .ok (.invokestatic 186, 3) := by decide +kernel
theorem dX5_ahead_7 : decode cX5_ahead 7 = .ok (.ifCond .eq 7, 3) := by decide +kernel
theorem dX5_ahead_10 : decode cX5_ahead 10 = .ok (.iconst 0, 1) := by decide +kernel
theorem dX5_ahead_11 : decode cX5_ahead 11 = .ok (.goto 4, 3) := by decide +kernel
theorem dX5_ahead_14 : decode cX5_ahead 14 = .ok (.iconst 1, 1) := by decide +kernel
theorem dX5_ahead_15 : decode cX5_ahead 15 = .ok (.putfield 107, 3) := by decide +kernel
theorem dX5_ahead_18 : decode cX5_ahead 18 = .ok (.aload_n 0, 1) := by decide +kernel
theorem dX5_ahead_19 : decode cX5_ahead 19 = .ok (.getfield 107, 3) := by decide +kernel
theorem dX5_ahead_22 : decode cX5_ahead 22 = .ok (.ifCond .le 5, 3) := by decide +kernel
theorem dX5_ahead_25 : decode cX5_ahead 25 = .ok (.iconst 0, 1) := by decide +kernel
theorem dX5_ahead_26 : decode cX5_ahead 26 = .ok (.ireturn, 1) := by decide +kernel
theorem dX5_ahead_27 : decode cX5_ahead 27 = .ok (.iconst 0, 1) := by decide +kernel
theorem dX5_ahead_28 : decode cX5_ahead 28 = .ok (.istore 4, 2) := by decide +kernel
theorem dX5_ahead_30 : decode cX5_ahead 30 = .ok (.iload 4, 2) := by decide +kernel
theorem dX5_ahead_32 : decode cX5_ahead 32 = .ok (.aload_n 0, 1) := by decide +kernel
theorem dX5_ahead_33 : decode cX5_ahead 33 = .ok (.getfield 168, 3) := by decide +kernel
theorem dX5_ahead_36 : decode cX5_ahead 36 = .ok (.if_icmp .ge 51, 3) := by decide +kernel
theorem dX5_ahead_39 : decode cX5_ahead 39 = .ok (.aload_n 0, 1) := by decide +kernel
theorem dX5_ahead_40 : decode cX5_ahead 40 = .ok (.getfield 74, 3) := by decide +kernel
theorem dX5_ahead_43 : decode cX5_ahead 43 = .ok (.iload 4, 2) := by decide +kernel
theorem dX5_ahead_45 : decode cX5_ahead 45 = .ok (.aload_n 0, 1) := by decide +kernel
theorem dX5_ahead_46 : decode cX5_ahead 46 = .ok (.getfield 53, 3) := by decide +kernel
theorem dX5_ahead_49 : decode cX5_ahead 49 = .ok (.iload 4, 2) := by decide +kernel
theorem dX5_ahead_51 : decode cX5_ahead 51 = .ok (.iaload, 1) := by decide +kernel
theorem dX5_ahead_52 : decode cX5_ahead 52 = .ok (.iastore, 1) := by decide +kernel
theorem dX5_ahead_53 : decode cX5_ahead 53 = .ok (.aload_n 0, 1) := by decide +kernel
theorem dX5_ahead_54 : decode cX5_ahead 54 = .ok (.getfield 77, 3) := by decide +kernel
theorem dX5_ahead_57 : decode cX5_ahead 57 = .ok (.iload 4, 2) := by decide +kernel
theorem dX5_ahead_59 : decode cX5_ahead 59 = .ok (.aload_n 0, 1) := by decide +kernel
theorem dX5_ahead_60 : decode cX5_ahead 60 = .ok (.getfield 65, 3) := by decide +kernel
theorem dX5_ahead_63 : decode cX5_ahead 63 = .ok (.iload 4, 2) := by decide +kernel
theorem dX5_ahead_65 : decode cX5_ahead 65 = .ok (.iaload, 1) := by decide +kernel
theorem dX5_ahead_66 : decode cX5_ahead 66 = .ok (.iastore, 1) := by decide +kernel
theorem dX5_ahead_67 : decode cX5_ahead 67 = .ok (.aload_n 0, 1) := by decide +kernel
theorem dX5_ahead_68 : decode cX5_ahead 68 = .ok (.getfield 80, 3) := by decide +kernel
theorem dX5_ahead_71 : decode cX5_ahead 71 = .ok (.iload 4, 2) := by decide +kernel
theorem dX5_ahead_73 : decode cX5_ahead 73 = .ok (.aload_n 0, 1) := by decide +kernel
theorem dX5_ahead_74 : decode cX5_ahead 74 = .ok (.getfield 68, 3) := by decide +kernel
theorem dX5_ahead_77 : decode cX5_ahead 77 = .ok (.iload 4, 2) := by decide +kernel
theorem dX5_ahead_79 : decode cX5_ahead 79 = .ok (.iaload, 1) := by decide +kernel
theorem dX5_ahead_80 : decode cX5_ahead 80 = .ok (.iastore, 1) := by decide +kernel
theorem dX5_ahead_81 : decode cX5_ahead 81 = .ok (.iinc 4 1, 3) := by decide +kernel
theorem dX5_ahead_84 : decode cX5_ahead 84 = .ok (.goto (-54), 3) := by decide +kernel
theorem dX5_ahead_87 : decode cX5_ahead 87 = .ok (.aload_n 0, 1) := by decide +kernel
theorem dX5_ahead_88 : decode cX5_ahead 88 = .ok (.iload_n 1, 1) := by decide +kernel
theorem dX5_ahead_89 : decode cX5_ahead 89 = .ok (.iload_n 2, 1) := by decide +kernel
theorem dX5_ahead_90 : decode cX5_ahead 90 = .ok (.iload_n 3, 1) := by decide +kernel
theorem dX5_ahead_91 : decode cX5_ahead 91 = .ok (.invokevirtual 189, 3) := by decide +kernel
theorem dX5_ahead_94 : decode cX5_ahead 94 = .ok (.istore 4, 2) := by decide +kernel
theorem dX5_ahead_96 : decode cX5_ahead 96 = .ok (.iconst 0, 1) := by decide +kernel
theorem dX5_ahead_97 : decode cX5_ahead 97 = .ok (.istore 5, 2) := by decide +kernel
theorem dX5_ahead_99 : decode cX5_ahead 99 = .ok (.iload 5, 2) := by decide +kernel
theorem dX5_ahead_101 : decode cX5_ahead 101 = .ok (.aload_n 0, 1) := by decide +kernel
theorem dX5_ahead_102 : decode cX5_ahead 102 = .ok (.getfield 168, 3) := by decide +kernel
theorem dX5_ahead_105 : decode cX5_ahead 105 = .ok (.if_icmp .ge 51, 3) := by decide +kernel
theorem dX5_ahead_108 : decode cX5_ahead 108 = .ok (.aload_n 0, 1) := by decide +kernel
theorem dX5_ahead_109 : decode cX5_ahead 109 = .ok (.getfield 53, 3) := by decide +kernel
theorem dX5_ahead_112 : decode cX5_ahead 112 = .ok (.iload 5, 2) := by decide +kernel
theorem dX5_ahead_114 : decode cX5_ahead 114 = .ok (.aload_n 0, 1) := by decide +kernel
theorem dX5_ahead_115 : decode cX5_ahead 115 = .ok (.getfield 74, 3) := by decide +kernel
theorem dX5_ahead_118 : decode cX5_ahead 118 = .ok (.iload 5, 2) := by decide +kernel
theorem dX5_ahead_120 : decode cX5_ahead 120 = .ok (.iaload, 1) := by decide +kernel
theorem dX5_ahead_121 : decode cX5_ahead 121 = .ok (.iastore, 1) := by decide +kernel
theorem dX5_ahead_122 : decode cX5_ahead 122 = .ok (.aload_n 0, 1) := by decide +kernel
theorem dX5_ahead_123 : decode cX5_ahead 123 = .ok (.getfield 65, 3) := by decide +kernel
theorem dX5_ahead_126 : decode cX5_ahead 126 = .ok (.iload 5, 2) := by decide +kernel
theorem dX5_ahead_128 : decode cX5_ahead 128 = .ok (.aload_n 0, 1) := by decide +kernel
theorem dX5_ahead_129 : decode cX5_ahead 129 = .ok (.getfield 77, 3) := by decide +kernel
theorem dX5_ahead_132 : decode cX5_ahead 132 = .ok (.iload 5, 2) := by decide +kernel
theorem dX5_ahead_134 : decode cX5_ahead 134 = .ok (.iaload, 1) := by decide +kernel
theorem dX5_ahead_135 : decode cX5_ahead 135 = .ok (.iastore, 1) := by decide +kernel
theorem dX5_ahead_136 : decode cX5_ahead 136 = .ok (.aload_n 0, 1) := by decide +kernel
theorem dX5_ahead_137 : decode cX5_ahead 137 = .ok (.getfield 68, 3) := by decide +kernel
theorem dX5_ahead_140 : decode cX5_ahead 140 = .ok (.iload 5, 2) := by decide +kernel
theorem dX5_ahead_142 : decode cX5_ahead 142 = .ok (.aload_n 0, 1) := by decide +kernel
theorem dX5_ahead_143 : decode cX5_ahead 143 = .ok (.getfield 80, 3) := by decide +kernel
theorem dX5_ahead_146 : decode cX5_ahead 146 = .ok (.iload 5, 2) := by decide +kernel
theorem dX5_ahead_148 : decode cX5_ahead 148 = .ok (.iaload, 1) := by decide +kernel
theorem dX5_ahead_149 : decode cX5_ahead 149 = .ok (.iastore, 1) := by decide +kernel
theorem dX5_ahead_150 : decode cX5_ahead 150 = .ok (.iinc 5 1, 3) := by decide +kernel
theorem dX5_ahead_153 : decode cX5_ahead 153 = .ok (.goto (-54), 3) := by decide +kernel
theorem dX5_ahead_156 : decode cX5_ahead 156 = .ok (.iload 4, 2) := by decide +kernel
theorem dX5_ahead_158 : decode cX5_ahead 158 = .ok (.ireturn, 1) := by decide +kernel
theorem dX5_playing_0 : decode cX5_playing 0 = .ok (.iconst 0, 1) := by decide +kernel
theorem dX5_playing_1 : decode cX5_playing 1 = .ok (.istore_n 1, 1) := by decide +kernel
theorem dX5_playing_2 : decode cX5_playing 2 = .ok (.iconst 0, 1) := by decide +kernel
theorem dX5_playing_3 : decode cX5_playing 3 = .ok (.istore_n 2, 1) := by decide +kernel
theorem dX5_playing_4 : decode cX5_playing 4 = .ok (.iload_n 2, 1) := by decide +kernel
theorem dX5_playing_5 : decode cX5_playing 5 = .ok (.aload_n 0, 1) := by decide +kernel
theorem dX5_playing_6 : decode cX5_playing 6 = .ok (.getfield 168, 3) := by decide +kernel
theorem dX5_playing_9 : decode cX5_playing 9 = .ok (.if_icmp .ge 26, 3) := by decide +kernel
theorem dX5_playing_12 : decode cX5_playing 12 = .ok (.iload_n 1, 1) := by decide +kernel
theorem dX5_playing_13 : decode cX5_playing 13 = .ok (.aload_n 0, 1) := by decide +kernel
theorem dX5_playing_14 : decode cX5_playing 14 = .ok (.getfield 71, 3) := by decide +kernel
theorem dX5_playing_17 : decode cX5_playing 17 = .ok (.iload_n 2, 1) := by decide +kernel
theorem dX5_playing_18 : decode cX5_playing 18 = .ok (.baload, 1) := by decide +kernel
theorem dX5_playing_19 : decode cX5_playing 19 = .ok (.ifCond .eq 7, 3) := by decide +kernel
theorem dX5_playing_22 : decode cX5_playing 22 = .ok (.iconst 0, 1) := by decide +kernel
theorem dX5_playing_23 : decode cX5_playing 23 = .ok (.goto 4, 3) := by decide +kernel
theorem dX5_playing_26 : decode cX5_playing 26 = .ok (.iconst 1, 1) := by decide +kernel
theorem dX5_playing_27 : decode cX5_playing 27 = .ok (.iadd, 1) := by decide +kernel
theorem dX5_playing_28 : decode cX5_playing 28 = .ok (.istore_n 1, 1) := by decide +kernel
theorem dX5_playing_29 : decode cX5_playing 29 = .ok (.iinc 2 1, 3) := by decide +kernel
theorem dX5_playing_32 : decode cX5_playing 32 = .ok (.goto (-28), 3) := by decide +kernel
theorem dX5_playing_35 : decode cX5_playing 35 = .ok (.iload_n 1, 1) := by decide +kernel
theorem dX5_playing_36 : decode cX5_playing 36 = .ok (.ireturn, 1) := by decide +kernel
theorem dX5_middle_0 : decode cX5_middle 0 = .ok (.iconst 0, 1) := by decide +kernel
theorem dX5_middle_1 : decode cX5_middle 1 = .ok (.istore_n 1, 1) := by decide +kernel
theorem dX5_middle_2 : decode cX5_middle 2 = .ok (.iconst 0, 1) := by decide +kernel
theorem dX5_middle_3 : decode cX5_middle 3 = .ok (.istore_n 2, 1) := by decide +kernel
theorem dX5_middle_4 : decode cX5_middle 4 = .ok (.iload_n 2, 1) := by decide +kernel
theorem dX5_middle_5 : decode cX5_middle 5 = .ok (.aload_n 0, 1) := by decide +kernel
theorem dX5_middle_6 : decode cX5_middle 6 = .ok (.getfield 168, 3) := by decide +kernel
theorem dX5_middle_9 : decode cX5_middle 9 = .ok (.if_icmp .ge 74, 3) := by decide +kernel
theorem dX5_middle_12 : decode cX5_middle 12 = .ok (.aload_n 0, 1) := by decide +kernel
theorem dX5_middle_13 : decode cX5_middle 13 = .ok (.getfield 71, 3) := by decide +kernel
theorem dX5_middle_16 : decode cX5_middle 16 = .ok (.iload_n 2, 1) := by decide +kernel
theorem dX5_middle_17 : decode cX5_middle 17 = .ok (.baload, 1) := by decide +kernel
theorem dX5_middle_18 : decode cX5_middle 18 = .ok (.ifCond .ne 59, 3) := by decide +kernel
theorem dX5_middle_21 : decode cX5_middle 21 = .ok (.iload_n 1, 1) := by decide +kernel
theorem dX5_middle_22 : decode cX5_middle 22 = .ok (.istore_n 3, 1) := by decide +kernel
theorem dX5_middle_23 : decode cX5_middle 23 = .ok (.iload_n 3, 1) := by decide +kernel
theorem dX5_middle_24 : decode cX5_middle 24 = .ok (.ifCond .le 39, 3) := by decide +kernel
theorem dX5_middle_27 : decode cX5_middle 27 = .ok (.aload_n 0, 1) := by decide +kernel
theorem dX5_middle_28 : decode cX5_middle 28 = .ok (.getfield 83, 3) := by decide +kernel
theorem dX5_middle_31 : decode cX5_middle 31 = .ok (.iload_n 3, 1) := by decide +kernel
theorem dX5_middle_32 : decode cX5_middle 32 = .ok (.iconst 1, 1) := by decide +kernel
theorem dX5_middle_33 : decode cX5_middle 33 = .ok (.isub, 1) := by decide +kernel
theorem dX5_middle_34 : decode cX5_middle 34 = .ok (.iaload, 1) := by decide +kernel
theorem dX5_middle_35 : decode cX5_middle 35 = .ok (.aload_n 0, 1) := by decide +kernel
theorem dX5_middle_36 : decode cX5_middle 36 = .ok (.iload_n 2, 1) := by decide +kernel
theorem dX5_middle_37 : decode cX5_middle 37 = .ok (.invokevirtual 176, 3) := by decide +kernel
theorem dX5_middle_40 : decode cX5_middle 40 = .ok (.if_icmp .le 23, 3) := by decide +kernel
theorem dX5_middle_43 : decode cX5_middle 43 = .ok (.aload_n 0, 1) := by decide +kernel
theorem dX5_middle_44 : decode cX5_middle 44 = .ok (.getfield 83, 3) := by decide +kernel
theorem dX5_middle_47 : decode cX5_middle 47 = .ok (.iload_n 3, 1) := by decide +kernel
theorem dX5_middle_48 : decode cX5_middle 48 = .ok (.aload_n 0, 1) := by decide +kernel
theorem dX5_middle_49 : decode cX5_middle 49 = .ok (.getfield 83, 3) := by decide +kernel
theorem dX5_middle_52 : decode cX5_middle 52 = .ok (.iload_n 3, 1) := by decide +kernel
theorem dX5_middle_53 : decode cX5_middle 53 = .ok (.iconst 1, 1) := by decide +kernel
theorem dX5_middle_54 : decode cX5_middle 54 = .ok (.isub, 1) := by decide +kernel
theorem dX5_middle_55 : decode cX5_middle 55 = .ok (.iaload, 1) := by decide +kernel
theorem dX5_middle_56 : decode cX5_middle 56 = .ok (.iastore, 1) := by decide +kernel
theorem dX5_middle_57 : decode cX5_middle 57 = .ok (.iinc 3 (-1), 3) := by decide +kernel
theorem dX5_middle_60 : decode cX5_middle 60 = .ok (.goto (-37), 3) := by decide +kernel
theorem dX5_middle_63 : decode cX5_middle 63 = .ok (.aload_n 0, 1) := by decide +kernel
theorem dX5_middle_64 : decode cX5_middle 64 = .ok (.getfield 83, 3) := by decide +kernel
theorem dX5_middle_67 : decode cX5_middle 67 = .ok (.iload_n 3, 1) := by decide +kernel
theorem dX5_middle_68 : decode cX5_middle 68 = .ok (.aload_n 0, 1) := by decide +kernel
theorem dX5_middle_69 : decode cX5_middle 69 = .ok (.iload_n 2, 1) := by decide +kernel
theorem dX5_middle_70 : decode cX5_middle 70 = .ok (.invokevirtual 176, 3) := by decide +kernel
theorem dX5_middle_73 : decode cX5_middle 73 = .ok (.iastore, 1) := by decide +kernel
theorem dX5_middle_74 : decode cX5_middle 74 = .ok (.iinc 1 1, 3) := by decide +kernel
theorem dX5_middle_77 : decode cX5_middle 77 = .ok (.iinc 2 1, 3) := by decide +kernel
theorem dX5_middle_80 : decode cX5_middle 80 = .ok (.goto (-76), 3) := by decide +kernel
theorem dX5_middle_83 : decode cX5_middle 83 = .ok (.aload_n 0, 1) := by decide +kernel
theorem dX5_middle_84 : decode cX5_middle 84 = .ok (.getfield 83, 3) := by decide +kernel
theorem dX5_middle_87 : decode cX5_middle 87 = .ok (.iload_n 1, 1) := by decide +kernel
theorem dX5_middle_88 : decode cX5_middle 88 = .ok (.iconst 1, 1) := by decide +kernel
theorem dX5_middle_89 : decode cX5_middle 89 = .ok (.isub, 1) := by decide +kernel
theorem dX5_middle_90 : decode cX5_middle 90 = .ok (.iconst 2, 1) := by decide +kernel
theorem dX5_middle_91 : decode cX5_middle 91 = .ok (.idiv, 1) := by decide +kernel
theorem dX5_middle_92 : decode cX5_middle 92 = .ok (.iaload, 1) := by decide +kernel
theorem dX5_middle_93 : decode cX5_middle 93 = .ok (.ireturn, 1) := by decide +kernel
theorem dX5_ofPiper_0 : decode cX5_ofPiper 0 = .ok (.aload_n 0, 1) := by decide +kernel
theorem dX5_ofPiper_1 : decode cX5_ofPiper 1 = .ok (.aload_n 0, 1) := by decide +kernel
theorem dX5_ofPiper_2 : decode cX5_ofPiper 2 = .ok (.iload_n 1, 1) := by decide +kernel
theorem dX5_ofPiper_3 : decode cX5_ofPiper 3 = .ok (.invokevirtual 171, 3) := by decide +kernel
theorem dX5_ofPiper_6 : decode cX5_ofPiper 6 = .ok (.ifCond .ne 7, 3) := by decide +kernel
theorem dX5_ofPiper_9 : decode cX5_ofPiper 9 = .ok (.iconst 1, 1) := by decide +kernel
theorem dX5_ofPiper_10 : decode cX5_ofPiper 10 = .ok (.goto 17, 3) := by decide +kernel
theorem dX5_ofPiper_13 : decode cX5_ofPiper 13 = .ok (.iload_n 2, 1) := by decide +kernel
theorem dX5_ofPiper_14 : decode cX5_ofPiper 14 = .ok (.iconst 0, 1) := by decide +kernel
theorem dX5_ofPiper_15 : decode cX5_ofPiper 15 = .ok (.iconst 5, 1) := by decide +kernel
theorem dX5_ofPiper_16 : decode cX5_ofPiper 16 = .ok (.invokestatic 114, 3) := by decide +kernel
theorem dX5_ofPiper_19 : decode cX5_ofPiper 19 = .ok (.ifCond .ne 7, 3) := by decide +kernel
theorem dX5_ofPiper_22 : decode cX5_ofPiper 22 = .ok (.iconst 2, 1) := by decide +kernel
theorem dX5_ofPiper_23 : decode cX5_ofPiper 23 = .ok (.goto 4, 3) := by decide +kernel
theorem dX5_ofPiper_26 : decode cX5_ofPiper 26 = .ok (.iconst 0, 1) := by decide +kernel
theorem dX5_ofPiper_27 : decode cX5_ofPiper 27 = .ok (.putfield 107, 3) := by decide +kernel
theorem dX5_ofPiper_30 : decode cX5_ofPiper 30 = .ok (.aload_n 0, 1) := by decide +kernel
theorem dX5_ofPiper_31 : decode cX5_ofPiper 31 = .ok (.getfield 107, 3) := by decide +kernel
theorem dX5_ofPiper_34 : decode cX5_ofPiper 34 = .ok (.ifCond .le 5, 3) := by decide +kernel
theorem dX5_ofPiper_37 : decode cX5_ofPiper 37 = .ok (.iconst 0, 1) := by decide +kernel
theorem dX5_ofPiper_38 : decode cX5_ofPiper 38 = .ok (.ireturn, 1) := by decide +kernel
theorem dX5_ofPiper_39 : decode cX5_ofPiper 39 = .ok (.iload_n 2, 1) := by decide +kernel
theorem dX5_ofPiper_40 : decode cX5_ofPiper 40 = .ok (.tableswitch 70 0 4 #[36, 42, 49, 56, 63], 36) := by decide +kernel
theorem dX5_ofPiper_76 : decode cX5_ofPiper 76 = .ok (.aload_n 0, 1) := by decide +kernel
theorem dX5_ofPiper_77 : decode cX5_ofPiper 77 = .ok (.iload_n 1, 1) := by decide +kernel
theorem dX5_ofPiper_78 : decode cX5_ofPiper 78 = .ok (.invokevirtual 176, 3) := by decide +kernel
theorem dX5_ofPiper_81 : decode cX5_ofPiper 81 = .ok (.ireturn, 1) := by decide +kernel
theorem dX5_ofPiper_82 : decode cX5_ofPiper 82 = .ok (.aload_n 0, 1) := by decide +kernel
theorem dX5_ofPiper_83 : decode cX5_ofPiper 83 = .ok (.getfield 53, 3) := by decide +kernel
theorem dX5_ofPiper_86 : decode cX5_ofPiper 86 = .ok (.iload_n 1, 1) := by decide +kernel
theorem dX5_ofPiper_87 : decode cX5_ofPiper 87 = .ok (.iaload, 1) := by decide +kernel
theorem dX5_ofPiper_88 : decode cX5_ofPiper 88 = .ok (.ireturn, 1) := by decide +kernel
theorem dX5_ofPiper_89 : decode cX5_ofPiper 89 = .ok (.aload_n 0, 1) := by decide +kernel
theorem dX5_ofPiper_90 : decode cX5_ofPiper 90 = .ok (.getfield 62, 3) := by decide +kernel
theorem dX5_ofPiper_93 : decode cX5_ofPiper 93 = .ok (.iload_n 1, 1) := by decide +kernel
theorem dX5_ofPiper_94 : decode cX5_ofPiper 94 = .ok (.iaload, 1) := by decide +kernel
theorem dX5_ofPiper_95 : decode cX5_ofPiper 95 = .ok (.ireturn, 1) := by decide +kernel
theorem dX5_ofPiper_96 : decode cX5_ofPiper 96 = .ok (.aload_n 0, 1) := by decide +kernel
theorem dX5_ofPiper_97 : decode cX5_ofPiper 97 = .ok (.getfield 65, 3) := by decide +kernel
theorem dX5_ofPiper_100 : decode cX5_ofPiper 100 = .ok (.iload_n 1, 1) := by decide +kernel
theorem dX5_ofPiper_101 : decode cX5_ofPiper 101 = .ok (.iaload, 1) := by decide +kernel
theorem dX5_ofPiper_102 : decode cX5_ofPiper 102 = .ok (.ireturn, 1) := by decide +kernel
theorem dX5_ofPiper_103 : decode cX5_ofPiper 103 = .ok (.aload_n 0, 1) := by decide +kernel
theorem dX5_ofPiper_104 : decode cX5_ofPiper 104 = .ok (.getfield 68, 3) := by decide +kernel
theorem dX5_ofPiper_107 : decode cX5_ofPiper 107 = .ok (.iload_n 1, 1) := by decide +kernel
theorem dX5_ofPiper_108 : decode cX5_ofPiper 108 = .ok (.iaload, 1) := by decide +kernel
theorem dX5_ofPiper_109 : decode cX5_ofPiper 109 = .ok (.ireturn, 1) := by decide +kernel
theorem dX5_ofPiper_110 : decode cX5_ofPiper 110 = .ok (.aload_n 0, 1) := by decide +kernel
theorem dX5_ofPiper_111 : decode cX5_ofPiper 111 = .ok (.invokevirtual 193, 3) := by decide +kernel
theorem dX5_ofPiper_114 : decode cX5_ofPiper 114 = .ok (.ifCond .ne 7, 3) := by decide +kernel
theorem dX5_ofPiper_117 : decode cX5_ofPiper 117 = .ok (.iconst 0, 1) := by decide +kernel
theorem dX5_ofPiper_118 : decode cX5_ofPiper 118 = .ok (.goto 13, 3) := by decide +kernel
theorem dX5_ofPiper_121 : decode cX5_ofPiper 121 = .ok (.aload_n 0, 1) := by decide +kernel
theorem dX5_ofPiper_122 : decode cX5_ofPiper 122 = .ok (.invokevirtual 196, 3) := by decide +kernel
theorem dX5_ofPiper_125 : decode cX5_ofPiper 125 = .ok (.aload_n 0, 1) := by decide +kernel
theorem dX5_ofPiper_126 : decode cX5_ofPiper 126 = .ok (.iload_n 1, 1) := by decide +kernel
theorem dX5_ofPiper_127 : decode cX5_ofPiper 127 = .ok (.invokevirtual 176, 3) := by decide +kernel
theorem dX5_ofPiper_130 : decode cX5_ofPiper 130 = .ok (.isub, 1) := by decide +kernel
theorem dX5_ofPiper_131 : decode cX5_ofPiper 131 = .ok (.ireturn, 1) := by decide +kernel
theorem dX5_spread_0 : decode cX5_spread 0 = .ok (.aload_n 0, 1) := by decide +kernel
theorem dX5_spread_1 : decode cX5_spread 1 = .ok (.iconst 0, 1) := by decide +kernel
theorem dX5_spread_2 : decode cX5_spread 2 = .ok (.putfield 107, 3) := by decide +kernel
theorem dX5_spread_5 : decode cX5_spread 5 = .ok (.aload_n 0, 1) := by decide +kernel
theorem dX5_spread_6 : decode cX5_spread 6 = .ok (.iconst (-1), 1) := by decide +kernel
theorem dX5_spread_7 : decode cX5_spread 7 = .ok (.invokevirtual 183, 3) := by decide +kernel
theorem dX5_spread_10 : decode cX5_spread 10 = .ok (.ireturn, 1) := by decide +kernel
theorem dX5_odd_0 : decode cX5_odd 0 = .ok (.aload_n 0, 1) := by decide +kernel
theorem dX5_odd_1 : decode cX5_odd 1 = .ok (.iconst 0, 1) := by decide +kernel
theorem dX5_odd_2 : decode cX5_odd 2 = .ok (.putfield 107, 3) := by decide +kernel
theorem dX5_odd_5 : decode cX5_odd 5 = .ok (.iconst (-1), 1) := by decide +kernel
theorem dX5_odd_6 : decode cX5_odd 6 = .ok (.istore_n 1, 1) := by decide +kernel
theorem dX5_odd_7 : decode cX5_odd 7 = .ok (.iconst 0, 1) := by decide +kernel
theorem dX5_odd_8 : decode cX5_odd 8 = .ok (.istore_n 2, 1) := by decide +kernel
theorem dX5_odd_9 : decode cX5_odd 9 = .ok (.iconst 0, 1) := by decide +kernel
theorem dX5_odd_10 : decode cX5_odd 10 = .ok (.istore_n 3, 1) := by decide +kernel
theorem dX5_odd_11 : decode cX5_odd 11 = .ok (.iload_n 3, 1) := by decide +kernel
theorem dX5_odd_12 : decode cX5_odd 12 = .ok (.aload_n 0, 1) := by decide +kernel
theorem dX5_odd_13 : decode cX5_odd 13 = .ok (.getfield 168, 3) := by decide +kernel
theorem dX5_odd_16 : decode cX5_odd 16 = .ok (.if_icmp .ge 74, 3) := by decide +kernel
theorem dX5_odd_19 : decode cX5_odd 19 = .ok (.aload_n 0, 1) := by decide +kernel
theorem dX5_odd_20 : decode cX5_odd 20 = .ok (.invokevirtual 193, 3) := by decide +kernel
theorem dX5_odd_23 : decode cX5_odd 23 = .ok (.iconst 1, 1) := by decide +kernel
theorem dX5_odd_24 : decode cX5_odd 24 = .ok (.if_icmp .le 66, 3) := by decide +kernel
theorem dX5_odd_27 : decode cX5_odd 27 = .ok (.aload_n 0, 1) := by decide +kernel
theorem dX5_odd_28 : decode cX5_odd 28 = .ok (.iload_n 3, 1) := by decide +kernel
theorem dX5_odd_29 : decode cX5_odd 29 = .ok (.invokevirtual 183, 3) := by decide +kernel
theorem dX5_odd_32 : decode cX5_odd 32 = .ok (.istore 4, 2) := by decide +kernel
theorem dX5_odd_34 : decode cX5_odd 34 = .ok (.aload_n 0, 1) := by decide +kernel
theorem dX5_odd_35 : decode cX5_odd 35 = .ok (.getfield 71, 3) := by decide +kernel
theorem dX5_odd_38 : decode cX5_odd 38 = .ok (.iload_n 3, 1) := by decide +kernel
theorem dX5_odd_39 : decode cX5_odd 39 = .ok (.baload, 1) := by decide +kernel
theorem dX5_odd_40 : decode cX5_odd 40 = .ok (.ifCond .ne 18, 3) := by decide +kernel
theorem dX5_odd_43 : decode cX5_odd 43 = .ok (.iload_n 1, 1) := by decide +kernel
theorem dX5_odd_44 : decode cX5_odd 44 = .ok (.iconst (-1), 1) := by decide +kernel
theorem dX5_odd_45 : decode cX5_odd 45 = .ok (.if_icmp .eq 9, 3) := by decide +kernel
theorem dX5_odd_48 : decode cX5_odd 48 = .ok (.iload 4, 2) := by decide +kernel
theorem dX5_odd_50 : decode cX5_odd 50 = .ok (.iload_n 2, 1) := by decide +kernel
theorem dX5_odd_51 : decode cX5_odd 51 = .ok (.if_icmp .ge 7, 3) := by decide +kernel
theorem dX5_odd_54 : decode cX5_odd 54 = .ok (.iconst 1, 1) := by decide +kernel
theorem dX5_odd_55 : decode cX5_odd 55 = .ok (.goto 4, 3) := by decide +kernel
theorem dX5_odd_58 : decode cX5_odd 58 = .ok (.iconst 0, 1) := by decide +kernel
theorem dX5_odd_59 : decode cX5_odd 59 = .ok (.istore 5, 2) := by decide +kernel
theorem dX5_odd_61 : decode cX5_odd 61 = .ok (.iload 5, 2) := by decide +kernel
theorem dX5_odd_63 : decode cX5_odd 63 = .ok (.ifCond .eq 7, 3) := by decide +kernel
theorem dX5_odd_66 : decode cX5_odd 66 = .ok (.iload_n 3, 1) := by decide +kernel
theorem dX5_odd_67 : decode cX5_odd 67 = .ok (.goto 4, 3) := by decide +kernel
theorem dX5_odd_70 : decode cX5_odd 70 = .ok (.iload_n 1, 1) := by decide +kernel
theorem dX5_odd_71 : decode cX5_odd 71 = .ok (.istore_n 1, 1) := by decide +kernel
theorem dX5_odd_72 : decode cX5_odd 72 = .ok (.iload 5, 2) := by decide +kernel
theorem dX5_odd_74 : decode cX5_odd 74 = .ok (.ifCond .eq 8, 3) := by decide +kernel
theorem dX5_odd_77 : decode cX5_odd 77 = .ok (.iload 4, 2) := by decide +kernel
theorem dX5_odd_79 : decode cX5_odd 79 = .ok (.goto 4, 3) := by decide +kernel
theorem dX5_odd_82 : decode cX5_odd 82 = .ok (.iload_n 2, 1) := by decide +kernel
theorem dX5_odd_83 : decode cX5_odd 83 = .ok (.istore_n 2, 1) := by decide +kernel
theorem dX5_odd_84 : decode cX5_odd 84 = .ok (.iinc 3 1, 3) := by decide +kernel
theorem dX5_odd_87 : decode cX5_odd 87 = .ok (.goto (-76), 3) := by decide +kernel
theorem dX5_odd_90 : decode cX5_odd 90 = .ok (.iload_n 1, 1) := by decide +kernel
theorem dX5_odd_91 : decode cX5_odd 91 = .ok (.ireturn, 1) := by decide +kernel
theorem dX5_beats_0 : decode cX5_beats 0 = .ok (.aload_n 0, 1) := by decide +kernel
theorem dX5_beats_1 : decode cX5_beats 1 = .ok (.aload_n 0, 1) := by decide +kernel
theorem dX5_beats_2 : decode cX5_beats 2 = .ok (.iload_n 1, 1) := by decide +kernel
theorem dX5_beats_3 : decode cX5_beats 3 = .ok (.invokevirtual 171, 3) := by decide +kernel
theorem dX5_beats_6 : decode cX5_beats 6 = .ok (.ifCond .eq 15, 3) := by decide +kernel
theorem dX5_beats_9 : decode cX5_beats 9 = .ok (.aload_n 0, 1) := by decide +kernel
theorem dX5_beats_10 : decode cX5_beats 10 = .ok (.iload_n 2, 1) := by decide +kernel
theorem dX5_beats_11 : decode cX5_beats 11 = .ok (.invokevirtual 171, 3) := by decide +kernel
theorem dX5_beats_14 : decode cX5_beats 14 = .ok (.ifCond .eq 7, 3) := by decide +kernel
theorem dX5_beats_17 : decode cX5_beats 17 = .ok (.iconst 0, 1) := by decide +kernel
theorem dX5_beats_18 : decode cX5_beats 18 = .ok (.goto 4, 3) := by decide +kernel
theorem dX5_beats_21 : decode cX5_beats 21 = .ok (.iconst 1, 1) := by decide +kernel
theorem dX5_beats_22 : decode cX5_beats 22 = .ok (.putfield 107, 3) := by decide +kernel
theorem dX5_beats_25 : decode cX5_beats 25 = .ok (.aload_n 0, 1) := by decide +kernel
theorem dX5_beats_26 : decode cX5_beats 26 = .ok (.getfield 107, 3) := by decide +kernel
theorem dX5_beats_29 : decode cX5_beats 29 = .ok (.ifCond .le 5, 3) := by decide +kernel
theorem dX5_beats_32 : decode cX5_beats 32 = .ok (.fconst 0, 1) := by decide +kernel
theorem dX5_beats_33 : decode cX5_beats 33 = .ok (.freturn, 1) := by decide +kernel
theorem dX5_beats_34 : decode cX5_beats 34 = .ok (.aload_n 0, 1) := by decide +kernel
theorem dX5_beats_35 : decode cX5_beats 35 = .ok (.iload_n 1, 1) := by decide +kernel
theorem dX5_beats_36 : decode cX5_beats 36 = .ok (.invokevirtual 176, 3) := by decide +kernel
theorem dX5_beats_39 : decode cX5_beats 39 = .ok (.aload_n 0, 1) := by decide +kernel
theorem dX5_beats_40 : decode cX5_beats 40 = .ok (.iload_n 2, 1) := by decide +kernel
theorem dX5_beats_41 : decode cX5_beats 41 = .ok (.invokevirtual 176, 3) := by decide +kernel
theorem dX5_beats_44 : decode cX5_beats 44 = .ok (.isub, 1) := by decide +kernel
theorem dX5_beats_45 : decode cX5_beats 45 = .ok (.istore_n 3, 1) := by decide +kernel
theorem dX5_beats_46 : decode cX5_beats 46 = .ok (.sipush 480, 3) := by decide +kernel
theorem dX5_beats_49 : decode cX5_beats 49 = .ok (.iload_n 3, 1) := by decide +kernel
theorem dX5_beats_50 : decode cX5_beats 50 = .ok (.ifCond .ge 8, 3) := by decide +kernel
theorem dX5_beats_53 : decode cX5_beats 53 = .ok (.iload_n 3, 1) := by decide +kernel
theorem dX5_beats_54 : decode cX5_beats 54 = .ok (.ineg, 1) := by decide +kernel
theorem dX5_beats_55 : decode cX5_beats 55 = .ok (.goto 4, 3) := by decide +kernel
theorem dX5_beats_58 : decode cX5_beats 58 = .ok (.iload_n 3, 1) := by decide +kernel
theorem dX5_beats_59 : decode cX5_beats 59 = .ok (.imul, 1) := by decide +kernel
theorem dX5_beats_60 : decode cX5_beats 60 = .ok (.i2f, 1) := by decide +kernel
theorem dX5_beats_61 : decode cX5_beats 61 = .ok (.ldc 199, 2) := by decide +kernel
theorem dX5_beats_63 : decode cX5_beats 63 = .ok (.fdiv, 1) := by decide +kernel
theorem dX5_beats_64 : decode cX5_beats 64 = .ok (.freturn, 1) := by decide +kernel
theorem dX5_isBand_0 : decode cX5_isBand 0 = .ok (.iload_n 1, 1) := by decide +kernel
theorem dX5_isBand_1 : decode cX5_isBand 1 = .ok (.iconst 0, 1) := by decide +kernel
theorem dX5_isBand_2 : decode cX5_isBand 2 = .ok (.aload_n 0, 1) := by decide +kernel
theorem dX5_isBand_3 : decode cX5_isBand 3 = .ok (.getfield 200, 3) := by decide +kernel
theorem dX5_isBand_6 : decode cX5_isBand 6 = .ok (.iconst 1, 1) := by decide +kernel
theorem dX5_isBand_7 : decode cX5_isBand 7 = .ok (.isub, 1) := by decide +kernel
theorem dX5_isBand_8 : decode cX5_isBand 8 = .ok (.invokestatic 114, 3) := by decide +kernel
theorem dX5_isBand_11 : decode cX5_isBand 11 = .ok (.ireturn, 1) := by decide +kernel
theorem dX5_band_0 : decode cX5_band 0 = .ok (.aload_n 0, 1) := by decide +kernel
theorem dX5_band_1 : decode cX5_band 1 = .ok (.iload_n 1, 1) := by decide +kernel
theorem dX5_band_2 : decode cX5_band 2 = .ok (.iconst 1, 1) := by decide +kernel
theorem dX5_band_3 : decode cX5_band 3 = .ok (.iconst 5, 1) := by decide +kernel
theorem dX5_band_4 : decode cX5_band 4 = .ok (.invokestatic 114, 3) := by decide +kernel
theorem dX5_band_7 : decode cX5_band 7 = .ok (.ifCond .ne 7, 3) := by decide +kernel
theorem dX5_band_10 : decode cX5_band 10 = .ok (.iconst 1, 1) := by decide +kernel
theorem dX5_band_11 : decode cX5_band 11 = .ok (.goto 17, 3) := by decide +kernel
theorem dX5_band_14 : decode cX5_band 14 = .ok (.aload_n 0, 1) := by decide +kernel
theorem dX5_band_15 : decode cX5_band 15 = .ok (.getfield 200, 3) := by decide +kernel
theorem dX5_band_18 : decode cX5_band 18 = .ok (.bipush 8, 2) := by decide +kernel
theorem dX5_band_20 : decode cX5_band 20 = .ok (.if_icmp .ne 7, 3) := by decide +kernel
theorem dX5_band_23 : decode cX5_band 23 = .ok (.iconst 2, 1) := by decide +kernel
theorem dX5_band_24 : decode cX5_band 24 = .ok (.goto 4, 3) := by decide +kernel
theorem dX5_band_27 : decode cX5_band 27 = .ok (.iconst 0, 1) := by decide +kernel
theorem dX5_band_28 : decode cX5_band 28 = .ok (.putfield 107, 3) := by decide +kernel
theorem dX5_band_31 : decode cX5_band 31 = .ok (.aload_n 0, 1) := by decide +kernel
theorem dX5_band_32 : decode cX5_band 32 = .ok (.getfield 107, 3) := by decide +kernel
theorem dX5_band_35 : decode cX5_band 35 = .ok (.ifCond .le 5, 3) := by decide +kernel
theorem dX5_band_38 : decode cX5_band 38 = .ok (.iconst 0, 1) := by decide +kernel
theorem dX5_band_39 : decode cX5_band 39 = .ok (.ireturn, 1) := by decide +kernel
theorem dX5_band_40 : decode cX5_band 40 = .ok (.aload_n 0, 1) := by decide +kernel
theorem dX5_band_41 : decode cX5_band 41 = .ok (.getfield 86, 3) := by decide +kernel
theorem dX5_band_44 : decode cX5_band 44 = .ok (.aload_n 0, 1) := by decide +kernel
theorem dX5_band_45 : decode cX5_band 45 = .ok (.getfield 200, 3) := by decide +kernel
theorem dX5_band_48 : decode cX5_band 48 = .ok (.iload_n 1, 1) := by decide +kernel
theorem dX5_band_49 : decode cX5_band 49 = .ok (.iastore, 1) := by decide +kernel
theorem dX5_band_50 : decode cX5_band 50 = .ok (.aload_n 0, 1) := by decide +kernel
theorem dX5_band_51 : decode cX5_band 51 = .ok (.getfield 92, 3) := by decide +kernel
theorem dX5_band_54 : decode cX5_band 54 = .ok (.aload_n 0, 1) := by decide +kernel
theorem dX5_band_55 : decode cX5_band 55 = .ok (.getfield 200, 3) := by decide +kernel
theorem dX5_band_58 : decode cX5_band 58 = .ok (.iconst (-1), 1) := by decide +kernel
theorem dX5_band_59 : decode cX5_band 59 = .ok (.iastore, 1) := by decide +kernel
theorem dX5_band_60 : decode cX5_band 60 = .ok (.aload_n 0, 1) := by decide +kernel
theorem dX5_band_61 : decode cX5_band 61 = .ok (.getfield 95, 3) := by decide +kernel
theorem dX5_band_64 : decode cX5_band 64 = .ok (.aload_n 0, 1) := by decide +kernel
theorem dX5_band_65 : decode cX5_band 65 = .ok (.getfield 200, 3) := by decide +kernel
theorem dX5_band_68 : decode cX5_band 68 = .ok (.iconst (-1), 1) := by decide +kernel
theorem dX5_band_69 : decode cX5_band 69 = .ok (.iastore, 1) := by decide +kernel
theorem dX5_band_70 : decode cX5_band 70 = .ok (.aload_n 0, 1) := by decide +kernel
theorem dX5_band_71 : decode cX5_band 71 = .ok (.dup, 1) := by decide +kernel
theorem dX5_band_72 : decode cX5_band 72 = .ok (.getfield 200, 3) := by decide +kernel
theorem dX5_band_75 : decode cX5_band 75 = .ok (.iconst 1, 1) := by decide +kernel
theorem dX5_band_76 : decode cX5_band 76 = .ok (.iadd, 1) := by decide +kernel
theorem dX5_band_77 : decode cX5_band 77 = .ok (.putfield 200, 3) := by decide +kernel
theorem dX5_band_80 : decode cX5_band 80 = .ok (.aload_n 0, 1) := by decide +kernel
theorem dX5_band_81 : decode cX5_band 81 = .ok (.getfield 200, 3) := by decide +kernel
theorem dX5_band_84 : decode cX5_band 84 = .ok (.iconst 1, 1) := by decide +kernel
theorem dX5_band_85 : decode cX5_band 85 = .ok (.isub, 1) := by decide +kernel
theorem dX5_band_86 : decode cX5_band 86 = .ok (.ireturn, 1) := by decide +kernel
theorem dX5_ofGrade_0 : decode cX5_ofGrade 0 = .ok (.iconst 0, 1) := by decide +kernel
theorem dX5_ofGrade_1 : decode cX5_ofGrade 1 = .ok (.istore_n 2, 1) := by decide +kernel
theorem dX5_ofGrade_2 : decode cX5_ofGrade 2 = .ok (.iconst 0, 1) := by decide +kernel
theorem dX5_ofGrade_3 : decode cX5_ofGrade 3 = .ok (.istore_n 3, 1) := by decide +kernel
theorem dX5_ofGrade_4 : decode cX5_ofGrade 4 = .ok (.iload_n 3, 1) := by decide +kernel
theorem dX5_ofGrade_5 : decode cX5_ofGrade 5 = .ok (.aload_n 0, 1) := by decide +kernel
theorem dX5_ofGrade_6 : decode cX5_ofGrade 6 = .ok (.getfield 200, 3) := by decide +kernel
theorem dX5_ofGrade_9 : decode cX5_ofGrade 9 = .ok (.if_icmp .ge 27, 3) := by decide +kernel
theorem dX5_ofGrade_12 : decode cX5_ofGrade 12 = .ok (.iload_n 2, 1) := by decide +kernel
theorem dX5_ofGrade_13 : decode cX5_ofGrade 13 = .ok (.aload_n 0, 1) := by decide +kernel
theorem dX5_ofGrade_14 : decode cX5_ofGrade 14 = .ok (.getfield 86, 3) := by decide +kernel
theorem dX5_ofGrade_17 : decode cX5_ofGrade 17 = .ok (.iload_n 3, 1) := by decide +kernel
theorem dX5_ofGrade_18 : decode cX5_ofGrade 18 = .ok (.iaload, 1) := by decide +kernel
theorem dX5_ofGrade_19 : decode cX5_ofGrade 19 = .ok (.iload_n 1, 1) := by decide +kernel
theorem dX5_ofGrade_20 : decode cX5_ofGrade 20 = .ok (.if_icmp .ne 7, 3) := by decide +kernel
theorem dX5_ofGrade_23 : decode cX5_ofGrade 23 = .ok (.iconst 1, 1) := by decide +kernel
theorem dX5_ofGrade_24 : decode cX5_ofGrade 24 = .ok (.goto 4, 3) := by decide +kernel
theorem dX5_ofGrade_27 : decode cX5_ofGrade 27 = .ok (.iconst 0, 1) := by decide +kernel
theorem dX5_ofGrade_28 : decode cX5_ofGrade 28 = .ok (.iadd, 1) := by decide +kernel
theorem dX5_ofGrade_29 : decode cX5_ofGrade 29 = .ok (.istore_n 2, 1) := by decide +kernel
theorem dX5_ofGrade_30 : decode cX5_ofGrade 30 = .ok (.iinc 3 1, 3) := by decide +kernel
theorem dX5_ofGrade_33 : decode cX5_ofGrade 33 = .ok (.goto (-29), 3) := by decide +kernel
theorem dX5_ofGrade_36 : decode cX5_ofGrade 36 = .ok (.iload_n 2, 1) := by decide +kernel
theorem dX5_ofGrade_37 : decode cX5_ofGrade 37 = .ok (.ireturn, 1) := by decide +kernel
theorem dX5_contest_0 : decode cX5_contest 0 = .ok (.aload_n 0, 1) := by decide +kernel
theorem dX5_contest_1 : decode cX5_contest 1 = .ok (.iload_n 1, 1) := by decide +kernel
theorem dX5_contest_2 : decode cX5_contest 2 = .ok (.iconst 1, 1) := by decide +kernel
theorem dX5_contest_3 : decode cX5_contest 3 = .ok (.iconst 5, 1) := by decide +kernel
theorem dX5_contest_4 : decode cX5_contest 4 = .ok (.invokestatic 114, 3) := by decide +kernel
theorem dX5_contest_7 : decode cX5_contest 7 = .ok (.ifCond .ne 7, 3) := by decide +kernel
theorem dX5_contest_10 : decode cX5_contest 10 = .ok (.iconst 1, 1) := by decide +kernel
theorem dX5_contest_11 : decode cX5_contest 11 = .ok (.goto 24, 3) := by decide +kernel
theorem dX5_contest_14 : decode cX5_contest 14 = .ok (.aload_n 0, 1) := by decide +kernel
theorem dX5_contest_15 : decode cX5_contest 15 = .ok (.getfield 203, 3) := by decide +kernel
theorem dX5_contest_18 : decode cX5_contest 18 = .ok (.ifCond .ne 12, 3) := by decide +kernel
theorem dX5_contest_21 : decode cX5_contest 21 = .ok (.aload_n 0, 1) := by decide +kernel
theorem dX5_contest_22 : decode cX5_contest 22 = .ok (.iload_n 1, 1) := by decide +kernel
theorem dX5_contest_23 : decode cX5_contest 23 = .ok (.invokevirtual 207, 3) := by decide +kernel
theorem dX5_contest_26 : decode cX5_contest 26 = .ok (.iconst 2, 1) := by decide +kernel
theorem dX5_contest_27 : decode cX5_contest 27 = .ok (.if_icmp .ge 7, 3) := by decide +kernel
theorem dX5_contest_30 : decode cX5_contest 30 = .ok (.iconst 2, 1) := by decide +kernel
theorem dX5_contest_31 : decode cX5_contest 31 = .ok (.goto 4, 3) := by decide +kernel
theorem dX5_contest_34 : decode cX5_contest 34 = .ok (.iconst 0, 1) := by decide +kernel
theorem dX5_contest_35 : decode cX5_contest 35 = .ok (.putfield 107, 3) := by decide +kernel
theorem dX5_contest_38 : decode cX5_contest 38 = .ok (.aload_n 0, 1) := by decide +kernel
theorem dX5_contest_39 : decode cX5_contest 39 = .ok (.getfield 107, 3) := by decide +kernel
theorem dX5_contest_42 : decode cX5_contest 42 = .ok (.ifCond .le 5, 3) := by decide +kernel
theorem dX5_contest_45 : decode cX5_contest 45 = .ok (.iconst 0, 1) := by decide +kernel
theorem dX5_contest_46 : decode cX5_contest 46 = .ok (.ireturn, 1) := by decide +kernel
theorem dX5_contest_47 : decode cX5_contest 47 = .ok (.aload_n 0, 1) := by decide +kernel
theorem dX5_contest_48 : decode cX5_contest 48 = .ok (.iconst 1, 1) := by decide +kernel
theorem dX5_contest_49 : decode cX5_contest 49 = .ok (.putfield 203, 3) := by decide +kernel
theorem dX5_contest_52 : decode cX5_contest 52 = .ok (.aload_n 0, 1) := by decide +kernel
theorem dX5_contest_53 : decode cX5_contest 53 = .ok (.iconst 0, 1) := by decide +kernel
theorem dX5_contest_54 : decode cX5_contest 54 = .ok (.putfield 210, 3) := by decide +kernel
theorem dX5_contest_57 : decode cX5_contest 57 = .ok (.iconst 0, 1) := by decide +kernel
theorem dX5_contest_58 : decode cX5_contest 58 = .ok (.istore_n 2, 1) := by decide +kernel
theorem dX5_contest_59 : decode cX5_contest 59 = .ok (.iload_n 2, 1) := by decide +kernel
theorem dX5_contest_60 : decode cX5_contest 60 = .ok (.aload_n 0, 1) := by decide +kernel
theorem dX5_contest_61 : decode cX5_contest 61 = .ok (.getfield 200, 3) := by decide +kernel
theorem dX5_contest_64 : decode cX5_contest 64 = .ok (.if_icmp .ge 35, 3) := by decide +kernel
theorem dX5_contest_67 : decode cX5_contest 67 = .ok (.aload_n 0, 1) := by decide +kernel
theorem dX5_contest_68 : decode cX5_contest 68 = .ok (.dup, 1) := by decide +kernel
theorem dX5_contest_69 : decode cX5_contest 69 = .ok (.getfield 210, 3) := by decide +kernel
theorem dX5_contest_72 : decode cX5_contest 72 = .ok (.aload_n 0, 1) := by decide +kernel
theorem dX5_contest_73 : decode cX5_contest 73 = .ok (.getfield 86, 3) := by decide +kernel
theorem dX5_contest_76 : decode cX5_contest 76 = .ok (.iload_n 2, 1) := by decide +kernel
theorem dX5_contest_77 : decode cX5_contest 77 = .ok (.iaload, 1) := by decide +kernel
theorem dX5_contest_78 : decode cX5_contest 78 = .ok (.iload_n 1, 1) := by decide +kernel
theorem dX5_contest_79 : decode cX5_contest 79 = .ok (.if_icmp .ne 9, 3) := by decide +kernel
theorem dX5_contest_82 : decode cX5_contest 82 = .ok (.iconst 1, 1) := by decide +kernel
theorem dX5_contest_83 : decode cX5_contest 83 = .ok (.iload_n 2, 1) := by decide +kernel
theorem dX5_contest_84 : decode cX5_contest 84 = .ok (.ishl, 1) := by decide +kernel
theorem dX5_contest_85 : decode cX5_contest 85 = .ok (.goto 4, 3) := by decide +kernel
theorem dX5_contest_88 : decode cX5_contest 88 = .ok (.iconst 0, 1) := by decide +kernel
theorem dX5_contest_89 : decode cX5_contest 89 = .ok (.ior, 1) := by decide +kernel
theorem dX5_contest_90 : decode cX5_contest 90 = .ok (.putfield 210, 3) := by decide +kernel
theorem dX5_contest_93 : decode cX5_contest 93 = .ok (.iinc 2 1, 3) := by decide +kernel
theorem dX5_contest_96 : decode cX5_contest 96 = .ok (.goto (-37), 3) := by decide +kernel
theorem dX5_contest_99 : decode cX5_contest 99 = .ok (.iconst 0, 1) := by decide +kernel
theorem dX5_contest_100 : decode cX5_contest 100 = .ok (.istore_n 2, 1) := by decide +kernel
theorem dX5_contest_101 : decode cX5_contest 101 = .ok (.iload_n 2, 1) := by decide +kernel
theorem dX5_contest_102 : decode cX5_contest 102 = .ok (.bipush 32, 2) := by decide +kernel
theorem dX5_contest_104 : decode cX5_contest 104 = .ok (.if_icmp .ge 16, 3) := by decide +kernel
theorem dX5_contest_107 : decode cX5_contest 107 = .ok (.aload_n 0, 1) := by decide +kernel
theorem dX5_contest_108 : decode cX5_contest 108 = .ok (.getfield 104, 3) := by decide +kernel
theorem dX5_contest_111 : decode cX5_contest 111 = .ok (.iload_n 2, 1) := by decide +kernel
theorem dX5_contest_112 : decode cX5_contest 112 = .ok (.iconst (-1), 1) := by decide +kernel
theorem dX5_contest_113 : decode cX5_contest 113 = .ok (.iastore, 1) := by decide +kernel
theorem dX5_contest_114 : decode cX5_contest 114 = .ok (.iinc 2 1, 3) := by decide +kernel
theorem dX5_contest_117 : decode cX5_contest 117 = .ok (.goto (-16), 3) := by decide +kernel
theorem dX5_contest_120 : decode cX5_contest 120 = .ok (.aload_n 0, 1) := by decide +kernel
theorem dX5_contest_121 : decode cX5_contest 121 = .ok (.iload_n 1, 1) := by decide +kernel
theorem dX5_contest_122 : decode cX5_contest 122 = .ok (.invokevirtual 207, 3) := by decide +kernel
theorem dX5_contest_125 : decode cX5_contest 125 = .ok (.ireturn, 1) := by decide +kernel
theorem dX5_takesPart_0 : decode cX5_takesPart 0 = .ok (.aload_n 0, 1) := by decide +kernel
theorem dX5_takesPart_1 : decode cX5_takesPart 1 = .ok (.getfield 203, 3) := by decide +kernel
theorem dX5_takesPart_4 : decode cX5_takesPart 4 = .ok (.ifCond .eq 19, 3) := by decide +kernel
theorem dX5_takesPart_7 : decode cX5_takesPart 7 = .ok (.aload_n 0, 1) := by decide +kernel
theorem dX5_takesPart_8 : decode cX5_takesPart 8 = .ok (.getfield 210, 3) := by decide +kernel
theorem dX5_takesPart_11 : decode cX5_takesPart 11 = .ok (.iload_n 1, 1) := by decide +kernel
theorem dX5_takesPart_12 : decode cX5_takesPart 12 = .ok (.ishr, 1) := by decide +kernel
theorem dX5_takesPart_13 : decode cX5_takesPart 13 = .ok (.iconst 1, 1) := by decide +kernel
theorem dX5_takesPart_14 : decode cX5_takesPart 14 = .ok (.iand, 1) := by decide +kernel
theorem dX5_takesPart_15 : decode cX5_takesPart 15 = .ok (.iconst 1, 1) := by decide +kernel
theorem dX5_takesPart_16 : decode cX5_takesPart 16 = .ok (.if_icmp .ne 7, 3) := by decide +kernel
theorem dX5_takesPart_19 : decode cX5_takesPart 19 = .ok (.iconst 1, 1) := by decide +kernel
theorem dX5_takesPart_20 : decode cX5_takesPart 20 = .ok (.goto 4, 3) := by decide +kernel
theorem dX5_takesPart_23 : decode cX5_takesPart 23 = .ok (.iconst 0, 1) := by decide +kernel
theorem dX5_takesPart_24 : decode cX5_takesPart 24 = .ok (.ireturn, 1) := by decide +kernel
theorem dX5_missing_0 : decode cX5_missing 0 = .ok (.iconst 0, 1) := by decide +kernel
theorem dX5_missing_1 : decode cX5_missing 1 = .ok (.istore_n 1, 1) := by decide +kernel
theorem dX5_missing_2 : decode cX5_missing 2 = .ok (.iconst 0, 1) := by decide +kernel
theorem dX5_missing_3 : decode cX5_missing 3 = .ok (.istore_n 2, 1) := by decide +kernel
theorem dX5_missing_4 : decode cX5_missing 4 = .ok (.iload_n 2, 1) := by decide +kernel
theorem dX5_missing_5 : decode cX5_missing 5 = .ok (.bipush 32, 2) := by decide +kernel
theorem dX5_missing_7 : decode cX5_missing 7 = .ok (.if_icmp .ge 38, 3) := by decide +kernel
theorem dX5_missing_10 : decode cX5_missing 10 = .ok (.iload_n 1, 1) := by decide +kernel
theorem dX5_missing_11 : decode cX5_missing 11 = .ok (.aload_n 0, 1) := by decide +kernel
theorem dX5_missing_12 : decode cX5_missing 12 = .ok (.iload_n 2, 1) := by decide +kernel
theorem dX5_missing_13 : decode cX5_missing 13 = .ok (.bipush 8, 2) := by decide +kernel
theorem dX5_missing_15 : decode cX5_missing 15 = .ok (.irem, 1) := by decide +kernel
theorem dX5_missing_16 : decode cX5_missing 16 = .ok (.invokevirtual 213, 3) := by decide +kernel
theorem dX5_missing_19 : decode cX5_missing 19 = .ok (.ifCond .eq 17, 3) := by decide +kernel
theorem dX5_missing_22 : decode cX5_missing 22 = .ok (.aload_n 0, 1) := by decide +kernel
theorem dX5_missing_23 : decode cX5_missing 23 = .ok (.getfield 104, 3) := by decide +kernel
theorem dX5_missing_26 : decode cX5_missing 26 = .ok (.iload_n 2, 1) := by decide +kernel
theorem dX5_missing_27 : decode cX5_missing 27 = .ok (.iaload, 1) := by decide +kernel
theorem dX5_missing_28 : decode cX5_missing 28 = .ok (.iconst (-1), 1) := by decide +kernel
theorem dX5_missing_29 : decode cX5_missing 29 = .ok (.if_icmp .ne 7, 3) := by decide +kernel
theorem dX5_missing_32 : decode cX5_missing 32 = .ok (.iconst 1, 1) := by decide +kernel
theorem dX5_missing_33 : decode cX5_missing 33 = .ok (.goto 4, 3) := by decide +kernel
theorem dX5_missing_36 : decode cX5_missing 36 = .ok (.iconst 0, 1) := by decide +kernel
theorem dX5_missing_37 : decode cX5_missing 37 = .ok (.iadd, 1) := by decide +kernel
theorem dX5_missing_38 : decode cX5_missing 38 = .ok (.istore_n 1, 1) := by decide +kernel
theorem dX5_missing_39 : decode cX5_missing 39 = .ok (.iinc 2 1, 3) := by decide +kernel
theorem dX5_missing_42 : decode cX5_missing 42 = .ok (.goto (-38), 3) := by decide +kernel
theorem dX5_missing_45 : decode cX5_missing 45 = .ok (.iload_n 1, 1) := by decide +kernel
theorem dX5_missing_46 : decode cX5_missing 46 = .ok (.ireturn, 1) := by decide +kernel
theorem dX5_mark_0 : decode cX5_mark 0 = .ok (.aload_n 0, 1) := by decide +kernel
theorem dX5_mark_1 : decode cX5_mark 1 = .ok (.iload_n 1, 1) := by decide +kernel
theorem dX5_mark_2 : decode cX5_mark 2 = .ok (.iconst 0, 1) := by decide +kernel
theorem dX5_mark_3 : decode cX5_mark 3 = .ok (.iconst 3, 1) := by decide +kernel
theorem dX5_mark_4 : decode cX5_mark 4 = .ok (.invokestatic 114, 3) := by decide +kernel
theorem dX5_mark_7 : decode cX5_mark 7 = .ok (.ifCond .eq 11, 3) := by decide +kernel
theorem dX5_mark_10 : decode cX5_mark 10 = .ok (.aload_n 0, 1) := by decide +kernel
theorem dX5_mark_11 : decode cX5_mark 11 = .ok (.iload_n 2, 1) := by decide +kernel
theorem dX5_mark_12 : decode cX5_mark 12 = .ok (.invokevirtual 216, 3) := by decide +kernel
theorem dX5_mark_15 : decode cX5_mark 15 = .ok (.ifCond .ne 7, 3) := by decide +kernel
theorem dX5_mark_18 : decode cX5_mark 18 = .ok (.iconst 1, 1) := by decide +kernel
theorem dX5_mark_19 : decode cX5_mark 19 = .ok (.goto 45, 3) := by decide +kernel
theorem dX5_mark_22 : decode cX5_mark 22 = .ok (.iload_n 3, 1) := by decide +kernel
theorem dX5_mark_23 : decode cX5_mark 23 = .ok (.iconst 0, 1) := by decide +kernel
theorem dX5_mark_24 : decode cX5_mark 24 = .ok (.bipush 100, 2) := by decide +kernel
theorem dX5_mark_26 : decode cX5_mark 26 = .ok (.invokestatic 114, 3) := by decide +kernel
theorem dX5_mark_29 : decode cX5_mark 29 = .ok (.ifCond .ne 7, 3) := by decide +kernel
theorem dX5_mark_32 : decode cX5_mark 32 = .ok (.iconst 2, 1) := by decide +kernel
theorem dX5_mark_33 : decode cX5_mark 33 = .ok (.goto 31, 3) := by decide +kernel
theorem dX5_mark_36 : decode cX5_mark 36 = .ok (.aload_n 0, 1) := by decide +kernel
theorem dX5_mark_37 : decode cX5_mark 37 = .ok (.iload_n 2, 1) := by decide +kernel
theorem dX5_mark_38 : decode cX5_mark 38 = .ok (.invokevirtual 213, 3) := by decide +kernel
theorem dX5_mark_41 : decode cX5_mark 41 = .ok (.ifCond .eq 18, 3) := by decide +kernel
theorem dX5_mark_44 : decode cX5_mark 44 = .ok (.aload_n 0, 1) := by decide +kernel
theorem dX5_mark_45 : decode cX5_mark 45 = .ok (.getfield 104, 3) := by decide +kernel
theorem dX5_mark_48 : decode cX5_mark 48 = .ok (.bipush 8, 2) := by decide +kernel
theorem dX5_mark_50 : decode cX5_mark 50 = .ok (.iload_n 1, 1) := by decide +kernel
theorem dX5_mark_51 : decode cX5_mark 51 = .ok (.imul, 1) := by decide +kernel
theorem dX5_mark_52 : decode cX5_mark 52 = .ok (.iload_n 2, 1) := by decide +kernel
theorem dX5_mark_53 : decode cX5_mark 53 = .ok (.iadd, 1) := by decide +kernel
theorem dX5_mark_54 : decode cX5_mark 54 = .ok (.iaload, 1) := by decide +kernel
theorem dX5_mark_55 : decode cX5_mark 55 = .ok (.iconst (-1), 1) := by decide +kernel
theorem dX5_mark_56 : decode cX5_mark 56 = .ok (.if_icmp .eq 7, 3) := by decide +kernel
theorem dX5_mark_59 : decode cX5_mark 59 = .ok (.iconst 3, 1) := by decide +kernel
theorem dX5_mark_60 : decode cX5_mark 60 = .ok (.goto 4, 3) := by decide +kernel
theorem dX5_mark_63 : decode cX5_mark 63 = .ok (.iconst 0, 1) := by decide +kernel
theorem dX5_mark_64 : decode cX5_mark 64 = .ok (.putfield 107, 3) := by decide +kernel
theorem dX5_mark_67 : decode cX5_mark 67 = .ok (.aload_n 0, 1) := by decide +kernel
theorem dX5_mark_68 : decode cX5_mark 68 = .ok (.getfield 107, 3) := by decide +kernel
theorem dX5_mark_71 : decode cX5_mark 71 = .ok (.ifCond .le 5, 3) := by decide +kernel
theorem dX5_mark_74 : decode cX5_mark 74 = .ok (.iconst 0, 1) := by decide +kernel
theorem dX5_mark_75 : decode cX5_mark 75 = .ok (.ireturn, 1) := by decide +kernel
theorem dX5_mark_76 : decode cX5_mark 76 = .ok (.aload_n 0, 1) := by decide +kernel
theorem dX5_mark_77 : decode cX5_mark 77 = .ok (.getfield 104, 3) := by decide +kernel
theorem dX5_mark_80 : decode cX5_mark 80 = .ok (.bipush 8, 2) := by decide +kernel
theorem dX5_mark_82 : decode cX5_mark 82 = .ok (.iload_n 1, 1) := by decide +kernel
theorem dX5_mark_83 : decode cX5_mark 83 = .ok (.imul, 1) := by decide +kernel
theorem dX5_mark_84 : decode cX5_mark 84 = .ok (.iload_n 2, 1) := by decide +kernel
theorem dX5_mark_85 : decode cX5_mark 85 = .ok (.iadd, 1) := by decide +kernel
theorem dX5_mark_86 : decode cX5_mark 86 = .ok (.iload_n 3, 1) := by decide +kernel
theorem dX5_mark_87 : decode cX5_mark 87 = .ok (.iastore, 1) := by decide +kernel
theorem dX5_mark_88 : decode cX5_mark 88 = .ok (.aload_n 0, 1) := by decide +kernel
theorem dX5_mark_89 : decode cX5_mark 89 = .ok (.invokevirtual 219, 3) := by decide +kernel
theorem dX5_mark_92 : decode cX5_mark 92 = .ok (.ireturn, 1) := by decide +kernel
theorem dX5_place_0 : decode cX5_place 0 = .ok (.iconst 1, 1) := by decide +kernel
theorem dX5_place_1 : decode cX5_place 1 = .ok (.istore_n 3, 1) := by decide +kernel
theorem dX5_place_2 : decode cX5_place 2 = .ok (.iconst 0, 1) := by decide +kernel
theorem dX5_place_3 : decode cX5_place 3 = .ok (.istore 4, 2) := by decide +kernel
theorem dX5_place_5 : decode cX5_place 5 = .ok (.iload 4, 2) := by decide +kernel
theorem dX5_place_7 : decode cX5_place 7 = .ok (.aload_n 0, 1) := by decide +kernel
theorem dX5_place_8 : decode cX5_place 8 = .ok (.getfield 200, 3) := by decide +kernel
theorem dX5_place_11 : decode cX5_place 11 = .ok (.if_icmp .ge 52, 3) := by decide +kernel
theorem dX5_place_14 : decode cX5_place 14 = .ok (.iload_n 3, 1) := by decide +kernel
theorem dX5_place_15 : decode cX5_place 15 = .ok (.aload_n 0, 1) := by decide +kernel
theorem dX5_place_16 : decode cX5_place 16 = .ok (.iload 4, 2) := by decide +kernel
theorem dX5_place_18 : decode cX5_place 18 = .ok (.invokevirtual 213, 3) := by decide +kernel
theorem dX5_place_21 : decode cX5_place 21 = .ok (.ifCond .eq 33, 3) := by decide +kernel
theorem dX5_place_24 : decode cX5_place 24 = .ok (.aload_n 0, 1) := by decide +kernel
theorem dX5_place_25 : decode cX5_place 25 = .ok (.getfield 104, 3) := by decide +kernel
theorem dX5_place_28 : decode cX5_place 28 = .ok (.bipush 8, 2) := by decide +kernel
theorem dX5_place_30 : decode cX5_place 30 = .ok (.iload_n 1, 1) := by decide +kernel
theorem dX5_place_31 : decode cX5_place 31 = .ok (.imul, 1) := by decide +kernel
theorem dX5_place_32 : decode cX5_place 32 = .ok (.iload 4, 2) := by decide +kernel
theorem dX5_place_34 : decode cX5_place 34 = .ok (.iadd, 1) := by decide +kernel
theorem dX5_place_35 : decode cX5_place 35 = .ok (.iaload, 1) := by decide +kernel
theorem dX5_place_36 : decode cX5_place 36 = .ok (.aload_n 0, 1) := by decide +kernel
theorem dX5_place_37 : decode cX5_place 37 = .ok (.getfield 104, 3) := by decide +kernel
theorem dX5_place_40 : decode cX5_place 40 = .ok (.bipush 8, 2) := by decide +kernel
theorem dX5_place_42 : decode cX5_place 42 = .ok (.iload_n 1, 1) := by decide +kernel
theorem dX5_place_43 : decode cX5_place 43 = .ok (.imul, 1) := by decide +kernel
theorem dX5_place_44 : decode cX5_place 44 = .ok (.iload_n 2, 1) := by decide +kernel
theorem dX5_place_45 : decode cX5_place 45 = .ok (.iadd, 1) := by decide +kernel
theorem dX5_place_46 : decode cX5_place 46 = .ok (.iaload, 1) := by decide +kernel
theorem dX5_place_47 : decode cX5_place 47 = .ok (.if_icmp .le 7, 3) := by decide +kernel
theorem dX5_place_50 : decode cX5_place 50 = .ok (.iconst 1, 1) := by decide +kernel
theorem dX5_place_51 : decode cX5_place 51 = .ok (.goto 4, 3) := by decide +kernel
theorem dX5_place_54 : decode cX5_place 54 = .ok (.iconst 0, 1) := by decide +kernel
theorem dX5_place_55 : decode cX5_place 55 = .ok (.iadd, 1) := by decide +kernel
theorem dX5_place_56 : decode cX5_place 56 = .ok (.istore_n 3, 1) := by decide +kernel
theorem dX5_place_57 : decode cX5_place 57 = .ok (.iinc 4 1, 3) := by decide +kernel
theorem dX5_place_60 : decode cX5_place 60 = .ok (.goto (-55), 3) := by decide +kernel
theorem dX5_place_63 : decode cX5_place 63 = .ok (.iload_n 3, 1) := by decide +kernel
theorem dX5_place_64 : decode cX5_place 64 = .ok (.ireturn, 1) := by decide +kernel
theorem dX5_sumOf_0 : decode cX5_sumOf 0 = .ok (.aload_n 0, 1) := by decide +kernel
theorem dX5_sumOf_1 : decode cX5_sumOf 1 = .ok (.iconst 0, 1) := by decide +kernel
theorem dX5_sumOf_2 : decode cX5_sumOf 2 = .ok (.iload_n 1, 1) := by decide +kernel
theorem dX5_sumOf_3 : decode cX5_sumOf 3 = .ok (.invokevirtual 222, 3) := by decide +kernel
theorem dX5_sumOf_6 : decode cX5_sumOf 6 = .ok (.aload_n 0, 1) := by decide +kernel
theorem dX5_sumOf_7 : decode cX5_sumOf 7 = .ok (.iconst 1, 1) := by decide +kernel
theorem dX5_sumOf_8 : decode cX5_sumOf 8 = .ok (.iload_n 1, 1) := by decide +kernel
theorem dX5_sumOf_9 : decode cX5_sumOf 9 = .ok (.invokevirtual 222, 3) := by decide +kernel
theorem dX5_sumOf_12 : decode cX5_sumOf 12 = .ok (.iadd, 1) := by decide +kernel
theorem dX5_sumOf_13 : decode cX5_sumOf 13 = .ok (.aload_n 0, 1) := by decide +kernel
theorem dX5_sumOf_14 : decode cX5_sumOf 14 = .ok (.iconst 2, 1) := by decide +kernel
theorem dX5_sumOf_15 : decode cX5_sumOf 15 = .ok (.iload_n 1, 1) := by decide +kernel
theorem dX5_sumOf_16 : decode cX5_sumOf 16 = .ok (.invokevirtual 222, 3) := by decide +kernel
theorem dX5_sumOf_19 : decode cX5_sumOf 19 = .ok (.iadd, 1) := by decide +kernel
theorem dX5_sumOf_20 : decode cX5_sumOf 20 = .ok (.aload_n 0, 1) := by decide +kernel
theorem dX5_sumOf_21 : decode cX5_sumOf 21 = .ok (.iconst 3, 1) := by decide +kernel
theorem dX5_sumOf_22 : decode cX5_sumOf 22 = .ok (.iload_n 1, 1) := by decide +kernel
theorem dX5_sumOf_23 : decode cX5_sumOf 23 = .ok (.invokevirtual 222, 3) := by decide +kernel
theorem dX5_sumOf_26 : decode cX5_sumOf 26 = .ok (.iadd, 1) := by decide +kernel
theorem dX5_sumOf_27 : decode cX5_sumOf 27 = .ok (.ireturn, 1) := by decide +kernel
theorem dX5_isAhead_0 : decode cX5_isAhead 0 = .ok (.aload_n 0, 1) := by decide +kernel
theorem dX5_isAhead_1 : decode cX5_isAhead 1 = .ok (.iload_n 1, 1) := by decide +kernel
theorem dX5_isAhead_2 : decode cX5_isAhead 2 = .ok (.invokevirtual 225, 3) := by decide +kernel
theorem dX5_isAhead_5 : decode cX5_isAhead 5 = .ok (.aload_n 0, 1) := by decide +kernel
theorem dX5_isAhead_6 : decode cX5_isAhead 6 = .ok (.iload_n 2, 1) := by decide +kernel
theorem dX5_isAhead_7 : decode cX5_isAhead 7 = .ok (.invokevirtual 225, 3) := by decide +kernel
theorem dX5_isAhead_10 : decode cX5_isAhead 10 = .ok (.isub, 1) := by decide +kernel
theorem dX5_isAhead_11 : decode cX5_isAhead 11 = .ok (.istore_n 3, 1) := by decide +kernel
theorem dX5_isAhead_12 : decode cX5_isAhead 12 = .ok (.aload_n 0, 1) := by decide +kernel
theorem dX5_isAhead_13 : decode cX5_isAhead 13 = .ok (.iconst 3, 1) := by decide +kernel
theorem dX5_isAhead_14 : decode cX5_isAhead 14 = .ok (.iload_n 1, 1) := by decide +kernel
theorem dX5_isAhead_15 : decode cX5_isAhead 15 = .ok (.invokevirtual 222, 3) := by decide +kernel
theorem dX5_isAhead_18 : decode cX5_isAhead 18 = .ok (.aload_n 0, 1) := by decide +kernel
theorem dX5_isAhead_19 : decode cX5_isAhead 19 = .ok (.iconst 3, 1) := by decide +kernel
theorem dX5_isAhead_20 : decode cX5_isAhead 20 = .ok (.iload_n 2, 1) := by decide +kernel
theorem dX5_isAhead_21 : decode cX5_isAhead 21 = .ok (.invokevirtual 222, 3) := by decide +kernel
theorem dX5_isAhead_24 : decode cX5_isAhead 24 = .ok (.isub, 1) := by decide +kernel
theorem dX5_isAhead_25 : decode cX5_isAhead 25 = .ok (.istore 4, 2) := by decide +kernel
theorem dX5_isAhead_27 : decode cX5_isAhead 27 = .ok (.aload_n 0, 1) := by decide +kernel
theorem dX5_isAhead_28 : decode cX5_isAhead 28 = .ok (.iconst 0, 1) := by decide +kernel
theorem dX5_isAhead_29 : decode cX5_isAhead 29 = .ok (.iload_n 1, 1) := by decide +kernel
theorem dX5_isAhead_30 : decode cX5_isAhead 30 = .ok (.invokevirtual 222, 3) := by decide +kernel
theorem dX5_isAhead_33 : decode cX5_isAhead 33 = .ok (.aload_n 0, 1) := by decide +kernel
theorem dX5_isAhead_34 : decode cX5_isAhead 34 = .ok (.iconst 1, 1) := by decide +kernel
theorem dX5_isAhead_35 : decode cX5_isAhead 35 = .ok (.iload_n 1, 1) := by decide +kernel
theorem dX5_isAhead_36 : decode cX5_isAhead 36 = .ok (.invokevirtual 222, 3) := by decide +kernel
theorem dX5_isAhead_39 : decode cX5_isAhead 39 = .ok (.iadd, 1) := by decide +kernel
theorem dX5_isAhead_40 : decode cX5_isAhead 40 = .ok (.aload_n 0, 1) := by decide +kernel
theorem dX5_isAhead_41 : decode cX5_isAhead 41 = .ok (.iconst 0, 1) := by decide +kernel
theorem dX5_isAhead_42 : decode cX5_isAhead 42 = .ok (.iload_n 2, 1) := by decide +kernel
theorem dX5_isAhead_43 : decode cX5_isAhead 43 = .ok (.invokevirtual 222, 3) := by decide +kernel
theorem dX5_isAhead_46 : decode cX5_isAhead 46 = .ok (.isub, 1) := by decide +kernel
theorem dX5_isAhead_47 : decode cX5_isAhead 47 = .ok (.aload_n 0, 1) := by decide +kernel
theorem dX5_isAhead_48 : decode cX5_isAhead 48 = .ok (.iconst 1, 1) := by decide +kernel
theorem dX5_isAhead_49 : decode cX5_isAhead 49 = .ok (.iload_n 2, 1) := by decide +kernel
theorem dX5_isAhead_50 : decode cX5_isAhead 50 = .ok (.invokevirtual 222, 3) := by decide +kernel
theorem dX5_isAhead_53 : decode cX5_isAhead 53 = .ok (.isub, 1) := by decide +kernel
theorem dX5_isAhead_54 : decode cX5_isAhead 54 = .ok (.istore 5, 2) := by decide +kernel
theorem dX5_isAhead_56 : decode cX5_isAhead 56 = .ok (.iload_n 3, 1) := by decide +kernel
theorem dX5_isAhead_57 : decode cX5_isAhead 57 = .ok (.ifCond .eq 15, 3) := by decide +kernel
theorem dX5_isAhead_60 : decode cX5_isAhead 60 = .ok (.iload_n 3, 1) := by decide +kernel
theorem dX5_isAhead_61 : decode cX5_isAhead 61 = .ok (.ifCond .ge 7, 3) := by decide +kernel
theorem dX5_isAhead_64 : decode cX5_isAhead 64 = .ok (.iconst 1, 1) := by decide +kernel
theorem dX5_isAhead_65 : decode cX5_isAhead 65 = .ok (.goto 53, 3) := by decide +kernel
theorem dX5_isAhead_68 : decode cX5_isAhead 68 = .ok (.iconst 0, 1) := by decide +kernel
theorem dX5_isAhead_69 : decode cX5_isAhead 69 = .ok (.goto 49, 3) := by decide +kernel
theorem dX5_isAhead_72 : decode cX5_isAhead 72 = .ok (.iload 4, 2) := by decide +kernel
theorem dX5_isAhead_74 : decode cX5_isAhead 74 = .ok (.ifCond .eq 16, 3) := by decide +kernel
theorem dX5_isAhead_77 : decode cX5_isAhead 77 = .ok (.iload 4, 2) := by decide +kernel
theorem dX5_isAhead_79 : decode cX5_isAhead 79 = .ok (.ifCond .ge 7, 3) := by decide +kernel
theorem dX5_isAhead_82 : decode cX5_isAhead 82 = .ok (.iconst 1, 1) := by decide +kernel
theorem dX5_isAhead_83 : decode cX5_isAhead 83 = .ok (.goto 35, 3) := by decide +kernel
theorem dX5_isAhead_86 : decode cX5_isAhead 86 = .ok (.iconst 0, 1) := by decide +kernel
theorem dX5_isAhead_87 : decode cX5_isAhead 87 = .ok (.goto 31, 3) := by decide +kernel
theorem dX5_isAhead_90 : decode cX5_isAhead 90 = .ok (.iload 5, 2) := by decide +kernel
theorem dX5_isAhead_92 : decode cX5_isAhead 92 = .ok (.ifCond .eq 16, 3) := by decide +kernel
theorem dX5_isAhead_95 : decode cX5_isAhead 95 = .ok (.iload 5, 2) := by decide +kernel
theorem dX5_isAhead_97 : decode cX5_isAhead 97 = .ok (.ifCond .ge 7, 3) := by decide +kernel
theorem dX5_isAhead_100 : decode cX5_isAhead 100 = .ok (.iconst 1, 1) := by decide +kernel
theorem dX5_isAhead_101 : decode cX5_isAhead 101 = .ok (.goto 17, 3) := by decide +kernel
theorem dX5_isAhead_104 : decode cX5_isAhead 104 = .ok (.iconst 0, 1) := by decide +kernel
theorem dX5_isAhead_105 : decode cX5_isAhead 105 = .ok (.goto 13, 3) := by decide +kernel
theorem dX5_isAhead_108 : decode cX5_isAhead 108 = .ok (.iload_n 1, 1) := by decide +kernel
theorem dX5_isAhead_109 : decode cX5_isAhead 109 = .ok (.iload_n 2, 1) := by decide +kernel
theorem dX5_isAhead_110 : decode cX5_isAhead 110 = .ok (.if_icmp .ge 7, 3) := by decide +kernel
theorem dX5_isAhead_113 : decode cX5_isAhead 113 = .ok (.iconst 1, 1) := by decide +kernel
theorem dX5_isAhead_114 : decode cX5_isAhead 114 = .ok (.goto 4, 3) := by decide +kernel
theorem dX5_isAhead_117 : decode cX5_isAhead 117 = .ok (.iconst 0, 1) := by decide +kernel
theorem dX5_isAhead_118 : decode cX5_isAhead 118 = .ok (.ireturn, 1) := by decide +kernel
theorem dX5_close_0 : decode cX5_close 0 = .ok (.aload_n 0, 1) := by decide +kernel
theorem dX5_close_1 : decode cX5_close 1 = .ok (.aload_n 0, 1) := by decide +kernel
theorem dX5_close_2 : decode cX5_close 2 = .ok (.getfield 203, 3) := by decide +kernel
theorem dX5_close_5 : decode cX5_close 5 = .ok (.ifCond .eq 10, 3) := by decide +kernel
theorem dX5_close_8 : decode cX5_close 8 = .ok (.aload_n 0, 1) := by decide +kernel
theorem dX5_close_9 : decode cX5_close 9 = .ok (.invokevirtual 219, 3) := by decide +kernel
theorem dX5_close_12 : decode cX5_close 12 = .ok (.ifCond .le 7, 3) := by decide +kernel
theorem dX5_close_15 : decode cX5_close 15 = .ok (.iconst 1, 1) := by decide +kernel
theorem dX5_close_16 : decode cX5_close 16 = .ok (.goto 4, 3) := by decide +kernel
theorem dX5_close_19 : decode cX5_close 19 = .ok (.iconst 0, 1) := by decide +kernel
theorem dX5_close_20 : decode cX5_close 20 = .ok (.putfield 107, 3) := by decide +kernel
theorem dX5_close_23 : decode cX5_close 23 = .ok (.aload_n 0, 1) := by decide +kernel
theorem dX5_close_24 : decode cX5_close 24 = .ok (.getfield 107, 3) := by decide +kernel
theorem dX5_close_27 : decode cX5_close 27 = .ok (.ifCond .le 5, 3) := by decide +kernel
theorem dX5_close_30 : decode cX5_close 30 = .ok (.iconst 0, 1) := by decide +kernel
theorem dX5_close_31 : decode cX5_close 31 = .ok (.ireturn, 1) := by decide +kernel
theorem dX5_close_32 : decode cX5_close 32 = .ok (.iconst (-1), 1) := by decide +kernel
theorem dX5_close_33 : decode cX5_close 33 = .ok (.istore_n 1, 1) := by decide +kernel
theorem dX5_close_34 : decode cX5_close 34 = .ok (.iconst 0, 1) := by decide +kernel
theorem dX5_close_35 : decode cX5_close 35 = .ok (.istore_n 2, 1) := by decide +kernel
theorem dX5_close_36 : decode cX5_close 36 = .ok (.iload_n 2, 1) := by decide +kernel
theorem dX5_close_37 : decode cX5_close 37 = .ok (.aload_n 0, 1) := by decide +kernel
theorem dX5_close_38 : decode cX5_close 38 = .ok (.getfield 200, 3) := by decide +kernel
theorem dX5_close_41 : decode cX5_close 41 = .ok (.if_icmp .ge 195, 3) := by decide +kernel
theorem dX5_close_44 : decode cX5_close 44 = .ok (.aload_n 0, 1) := by decide +kernel
theorem dX5_close_45 : decode cX5_close 45 = .ok (.getfield 92, 3) := by decide +kernel
theorem dX5_close_48 : decode cX5_close 48 = .ok (.iload_n 2, 1) := by decide +kernel
theorem dX5_close_49 : decode cX5_close 49 = .ok (.iconst (-1), 1) := by decide +kernel
theorem dX5_close_50 : decode cX5_close 50 = .ok (.iastore, 1) := by decide +kernel
theorem dX5_close_51 : decode cX5_close 51 = .ok (.aload_n 0, 1) := by decide +kernel
theorem dX5_close_52 : decode cX5_close 52 = .ok (.getfield 95, 3) := by decide +kernel
theorem dX5_close_55 : decode cX5_close 55 = .ok (.iload_n 2, 1) := by decide +kernel
theorem dX5_close_56 : decode cX5_close 56 = .ok (.iconst (-1), 1) := by decide +kernel
theorem dX5_close_57 : decode cX5_close 57 = .ok (.iastore, 1) := by decide +kernel
theorem dX5_close_58 : decode cX5_close 58 = .ok (.aload_n 0, 1) := by decide +kernel
theorem dX5_close_59 : decode cX5_close 59 = .ok (.iload_n 2, 1) := by decide +kernel
theorem dX5_close_60 : decode cX5_close 60 = .ok (.invokevirtual 213, 3) := by decide +kernel
theorem dX5_close_63 : decode cX5_close 63 = .ok (.ifCond .eq 167, 3) := by decide +kernel
theorem dX5_close_66 : decode cX5_close 66 = .ok (.aload_n 0, 1) := by decide +kernel
theorem dX5_close_67 : decode cX5_close 67 = .ok (.getfield 92, 3) := by decide +kernel
theorem dX5_close_70 : decode cX5_close 70 = .ok (.iload_n 2, 1) := by decide +kernel
theorem dX5_close_71 : decode cX5_close 71 = .ok (.iconst 1, 1) := by decide +kernel
theorem dX5_close_72 : decode cX5_close 72 = .ok (.iastore, 1) := by decide +kernel
theorem dX5_close_73 : decode cX5_close 73 = .ok (.aload_n 0, 1) := by decide +kernel
theorem dX5_close_74 : decode cX5_close 74 = .ok (.getfield 95, 3) := by decide +kernel
theorem dX5_close_77 : decode cX5_close 77 = .ok (.iload_n 2, 1) := by decide +kernel
theorem dX5_close_78 : decode cX5_close 78 = .ok (.aload_n 0, 1) := by decide +kernel
theorem dX5_close_79 : decode cX5_close 79 = .ok (.iload_n 2, 1) := by decide +kernel
theorem dX5_close_80 : decode cX5_close 80 = .ok (.invokevirtual 225, 3) := by decide +kernel
theorem dX5_close_83 : decode cX5_close 83 = .ok (.iastore, 1) := by decide +kernel
theorem dX5_close_84 : decode cX5_close 84 = .ok (.iconst 0, 1) := by decide +kernel
theorem dX5_close_85 : decode cX5_close 85 = .ok (.istore_n 3, 1) := by decide +kernel
theorem dX5_close_86 : decode cX5_close 86 = .ok (.iload_n 3, 1) := by decide +kernel
theorem dX5_close_87 : decode cX5_close 87 = .ok (.aload_n 0, 1) := by decide +kernel
theorem dX5_close_88 : decode cX5_close 88 = .ok (.getfield 200, 3) := by decide +kernel
theorem dX5_close_91 : decode cX5_close 91 = .ok (.if_icmp .ge 45, 3) := by decide +kernel
theorem dX5_close_94 : decode cX5_close 94 = .ok (.aload_n 0, 1) := by decide +kernel
theorem dX5_close_95 : decode cX5_close 95 = .ok (.getfield 92, 3) := by decide +kernel
theorem dX5_close_98 : decode cX5_close 98 = .ok (.iload_n 2, 1) := by decide +kernel
theorem dX5_close_99 : decode cX5_close 99 = .ok (.dup2, 1) := by decide +kernel
theorem dX5_close_100 : decode cX5_close 100 = .ok (.iaload, 1) := by decide +kernel
theorem dX5_close_101 : decode cX5_close 101 = .ok (.iload_n 3, 1) := by decide +kernel
theorem dX5_close_102 : decode cX5_close 102 = .ok (.iload_n 2, 1) := by decide +kernel
theorem dX5_close_103 : decode cX5_close 103 = .ok (.if_icmp .eq 24, 3) := by decide +kernel
theorem dX5_close_106 : decode cX5_close 106 = .ok (.aload_n 0, 1) := by decide +kernel
theorem dX5_close_107 : decode cX5_close 107 = .ok (.iload_n 3, 1) := by decide +kernel
theorem dX5_close_108 : decode cX5_close 108 = .ok (.invokevirtual 213, 3) := by decide +kernel
theorem dX5_close_111 : decode cX5_close 111 = .ok (.ifCond .eq 16, 3) := by decide +kernel
theorem dX5_close_114 : decode cX5_close 114 = .ok (.aload_n 0, 1) := by decide +kernel
theorem dX5_close_115 : decode cX5_close 115 = .ok (.iload_n 3, 1) := by decide +kernel
theorem dX5_close_116 : decode cX5_close 116 = .ok (.iload_n 2, 1) := by decide +kernel
theorem dX5_close_117 : decode cX5_close 117 = .ok (.invokevirtual 228, 3) := by decide +kernel
theorem dX5_close_120 : decode cX5_close 120 = .ok (.ifCond .eq 7, 3) := by decide +kernel
theorem dX5_close_123 : decode cX5_close 123 = .ok (.iconst 1, 1) := by decide +kernel
theorem dX5_close_124 : decode cX5_close 124 = .ok (.goto 4, 3) := by decide +kernel
theorem dX5_close_127 : decode cX5_close 127 = .ok (.iconst 0, 1) := by decide +kernel
theorem dX5_close_128 : decode cX5_close 128 = .ok (.iadd, 1) := by decide +kernel
theorem dX5_close_129 : decode cX5_close 129 = .ok (.iastore, 1) := by decide +kernel
theorem dX5_close_130 : decode cX5_close 130 = .ok (.iinc 3 1, 3) := by decide +kernel
theorem dX5_close_133 : decode cX5_close 133 = .ok (.goto (-47), 3) := by decide +kernel
theorem dX5_close_136 : decode cX5_close 136 = .ok (.aload_n 0, 1) := by decide +kernel
theorem dX5_close_137 : decode cX5_close 137 = .ok (.getfield 92, 3) := by decide +kernel
theorem dX5_close_140 : decode cX5_close 140 = .ok (.iload_n 2, 1) := by decide +kernel
theorem dX5_close_141 : decode cX5_close 141 = .ok (.iaload, 1) := by decide +kernel
theorem dX5_close_142 : decode cX5_close 142 = .ok (.istore_n 3, 1) := by decide +kernel
theorem dX5_close_143 : decode cX5_close 143 = .ok (.aload_n 0, 1) := by decide +kernel
theorem dX5_close_144 : decode cX5_close 144 = .ok (.getfield 89, 3) := by decide +kernel
theorem dX5_close_147 : decode cX5_close 147 = .ok (.iload_n 2, 1) := by decide +kernel
theorem dX5_close_148 : decode cX5_close 148 = .ok (.dup2, 1) := by decide +kernel
theorem dX5_close_149 : decode cX5_close 149 = .ok (.iaload, 1) := by decide +kernel
theorem dX5_close_150 : decode cX5_close 150 = .ok (.iload_n 3, 1) := by decide +kernel
theorem dX5_close_151 : decode cX5_close 151 = .ok (.iconst 1, 1) := by decide +kernel
theorem dX5_close_152 : decode cX5_close 152 = .ok (.if_icmp .ne 8, 3) := by decide +kernel
theorem dX5_close_155 : decode cX5_close 155 = .ok (.bipush 6, 2) := by decide +kernel
theorem dX5_close_157 : decode cX5_close 157 = .ok (.goto 41, 3) := by decide +kernel
theorem dX5_close_160 : decode cX5_close 160 = .ok (.iload_n 3, 1) := by decide +kernel
theorem dX5_close_161 : decode cX5_close 161 = .ok (.iconst 2, 1) := by decide +kernel
theorem dX5_close_162 : decode cX5_close 162 = .ok (.if_icmp .ne 7, 3) := by decide +kernel
theorem dX5_close_165 : decode cX5_close 165 = .ok (.iconst 4, 1) := by decide +kernel
theorem dX5_close_166 : decode cX5_close 166 = .ok (.goto 32, 3) := by decide +kernel
theorem dX5_close_169 : decode cX5_close 169 = .ok (.iload_n 3, 1) := by decide +kernel
theorem dX5_close_170 : decode cX5_close 170 = .ok (.iconst 3, 1) := by decide +kernel
theorem dX5_close_171 : decode cX5_close 171 = .ok (.if_icmp .ne 7, 3) := by decide +kernel
theorem dX5_close_174 : decode cX5_close 174 = .ok (.iconst 3, 1) := by decide +kernel
theorem dX5_close_175 : decode cX5_close 175 = .ok (.goto 23, 3) := by decide +kernel
theorem dX5_close_178 : decode cX5_close 178 = .ok (.iload_n 3, 1) := by decide +kernel
theorem dX5_close_179 : decode cX5_close 179 = .ok (.iconst 4, 1) := by decide +kernel
theorem dX5_close_180 : decode cX5_close 180 = .ok (.if_icmp .ne 7, 3) := by decide +kernel
theorem dX5_close_183 : decode cX5_close 183 = .ok (.iconst 2, 1) := by decide +kernel
theorem dX5_close_184 : decode cX5_close 184 = .ok (.goto 14, 3) := by decide +kernel
theorem dX5_close_187 : decode cX5_close 187 = .ok (.iload_n 3, 1) := by decide +kernel
theorem dX5_close_188 : decode cX5_close 188 = .ok (.bipush 7, 2) := by decide +kernel
theorem dX5_close_190 : decode cX5_close 190 = .ok (.if_icmp .ge 7, 3) := by decide +kernel
theorem dX5_close_193 : decode cX5_close 193 = .ok (.iconst 1, 1) := by decide +kernel
theorem dX5_close_194 : decode cX5_close 194 = .ok (.goto 4, 3) := by decide +kernel
theorem dX5_close_197 : decode cX5_close 197 = .ok (.iconst 0, 1) := by decide +kernel
theorem dX5_close_198 : decode cX5_close 198 = .ok (.iadd, 1) := by decide +kernel
theorem dX5_close_199 : decode cX5_close 199 = .ok (.iastore, 1) := by decide +kernel
theorem dX5_close_200 : decode cX5_close 200 = .ok (.aload_n 0, 1) := by decide +kernel
theorem dX5_close_201 : decode cX5_close 201 = .ok (.getfield 98, 3) := by decide +kernel
theorem dX5_close_204 : decode cX5_close 204 = .ok (.iload_n 2, 1) := by decide +kernel
theorem dX5_close_205 : decode cX5_close 205 = .ok (.dup2, 1) := by decide +kernel
theorem dX5_close_206 : decode cX5_close 206 = .ok (.iaload, 1) := by decide +kernel
theorem dX5_close_207 : decode cX5_close 207 = .ok (.iload_n 3, 1) := by decide +kernel
theorem dX5_close_208 : decode cX5_close 208 = .ok (.iconst 1, 1) := by decide +kernel
theorem dX5_close_209 : decode cX5_close 209 = .ok (.if_icmp .ne 7, 3) := by decide +kernel
theorem dX5_close_212 : decode cX5_close 212 = .ok (.iconst 1, 1) := by decide +kernel
theorem dX5_close_213 : decode cX5_close 213 = .ok (.goto 4, 3) := by decide +kernel
theorem dX5_close_216 : decode cX5_close 216 = .ok (.iconst 0, 1) := by decide +kernel
theorem dX5_close_217 : decode cX5_close 217 = .ok (.iadd, 1) := by decide +kernel
theorem dX5_close_218 : decode cX5_close 218 = .ok (.iastore, 1) := by decide +kernel
theorem dX5_close_219 : decode cX5_close 219 = .ok (.iload_n 3, 1) := by decide +kernel
theorem dX5_close_220 : decode cX5_close 220 = .ok (.iconst 1, 1) := by decide +kernel
theorem dX5_close_221 : decode cX5_close 221 = .ok (.if_icmp .ne 7, 3) := by decide +kernel
theorem dX5_close_224 : decode cX5_close 224 = .ok (.iload_n 2, 1) := by decide +kernel
theorem dX5_close_225 : decode cX5_close 225 = .ok (.goto 4, 3) := by decide +kernel
theorem dX5_close_228 : decode cX5_close 228 = .ok (.iload_n 1, 1) := by decide +kernel
theorem dX5_close_229 : decode cX5_close 229 = .ok (.istore_n 1, 1) := by decide +kernel
theorem dX5_close_230 : decode cX5_close 230 = .ok (.iinc 2 1, 3) := by decide +kernel
theorem dX5_close_233 : decode cX5_close 233 = .ok (.goto (-197), 3) := by decide +kernel
theorem dX5_close_236 : decode cX5_close 236 = .ok (.aload_n 0, 1) := by decide +kernel
theorem dX5_close_237 : decode cX5_close 237 = .ok (.iconst 0, 1) := by decide +kernel
theorem dX5_close_238 : decode cX5_close 238 = .ok (.putfield 203, 3) := by decide +kernel
theorem dX5_close_241 : decode cX5_close 241 = .ok (.iload_n 1, 1) := by decide +kernel
theorem dX5_close_242 : decode cX5_close 242 = .ok (.ireturn, 1) := by decide +kernel
theorem dX5_season_0 : decode cX5_season 0 = .ok (.aload_n 0, 1) := by decide +kernel
theorem dX5_season_1 : decode cX5_season 1 = .ok (.aload_n 0, 1) := by decide +kernel
theorem dX5_season_2 : decode cX5_season 2 = .ok (.getfield 203, 3) := by decide +kernel
theorem dX5_season_5 : decode cX5_season 5 = .ok (.ifCond .eq 7, 3) := by decide +kernel
theorem dX5_season_8 : decode cX5_season 8 = .ok (.iconst 1, 1) := by decide +kernel
theorem dX5_season_9 : decode cX5_season 9 = .ok (.goto 4, 3) := by decide +kernel
theorem dX5_season_12 : decode cX5_season 12 = .ok (.iconst 0, 1) := by decide +kernel
theorem dX5_season_13 : decode cX5_season 13 = .ok (.putfield 107, 3) := by decide +kernel
theorem dX5_season_16 : decode cX5_season 16 = .ok (.aload_n 0, 1) := by decide +kernel
theorem dX5_season_17 : decode cX5_season 17 = .ok (.getfield 107, 3) := by decide +kernel
theorem dX5_season_20 : decode cX5_season 20 = .ok (.ifCond .le 5, 3) := by decide +kernel
theorem dX5_season_23 : decode cX5_season 23 = .ok (.iconst 0, 1) := by decide +kernel
theorem dX5_season_24 : decode cX5_season 24 = .ok (.ireturn, 1) := by decide +kernel
theorem dX5_season_25 : decode cX5_season 25 = .ok (.iconst 0, 1) := by decide +kernel
theorem dX5_season_26 : decode cX5_season 26 = .ok (.istore_n 1, 1) := by decide +kernel
theorem dX5_season_27 : decode cX5_season 27 = .ok (.iload_n 1, 1) := by decide +kernel
theorem dX5_season_28 : decode cX5_season 28 = .ok (.aload_n 0, 1) := by decide +kernel
theorem dX5_season_29 : decode cX5_season 29 = .ok (.getfield 200, 3) := by decide +kernel
theorem dX5_season_32 : decode cX5_season 32 = .ok (.if_icmp .ge 21, 3) := by decide +kernel
theorem dX5_season_35 : decode cX5_season 35 = .ok (.aload_n 0, 1) := by decide +kernel
theorem dX5_season_36 : decode cX5_season 36 = .ok (.getfield 101, 3) := by decide +kernel
theorem dX5_season_39 : decode cX5_season 39 = .ok (.iload_n 1, 1) := by decide +kernel
theorem dX5_season_40 : decode cX5_season 40 = .ok (.aload_n 0, 1) := by decide +kernel
theorem dX5_season_41 : decode cX5_season 41 = .ok (.getfield 86, 3) := by decide +kernel
theorem dX5_season_44 : decode cX5_season 44 = .ok (.iload_n 1, 1) := by decide +kernel
theorem dX5_season_45 : decode cX5_season 45 = .ok (.iaload, 1) := by decide +kernel
theorem dX5_season_46 : decode cX5_season 46 = .ok (.iastore, 1) := by decide +kernel
theorem dX5_season_47 : decode cX5_season 47 = .ok (.iinc 1 1, 3) := by decide +kernel
theorem dX5_season_50 : decode cX5_season 50 = .ok (.goto (-23), 3) := by decide +kernel
theorem dX5_season_53 : decode cX5_season 53 = .ok (.iconst 0, 1) := by decide +kernel
theorem dX5_season_54 : decode cX5_season 54 = .ok (.istore_n 1, 1) := by decide +kernel
theorem dX5_season_55 : decode cX5_season 55 = .ok (.iconst 1, 1) := by decide +kernel
theorem dX5_season_56 : decode cX5_season 56 = .ok (.istore_n 2, 1) := by decide +kernel
theorem dX5_season_57 : decode cX5_season 57 = .ok (.iload_n 2, 1) := by decide +kernel
theorem dX5_season_58 : decode cX5_season 58 = .ok (.bipush 6, 2) := by decide +kernel
theorem dX5_season_60 : decode cX5_season 60 = .ok (.if_icmp .ge 179, 3) := by decide +kernel
theorem dX5_season_63 : decode cX5_season 63 = .ok (.iconst (-1), 1) := by decide +kernel
theorem dX5_season_64 : decode cX5_season 64 = .ok (.istore_n 3, 1) := by decide +kernel
theorem dX5_season_65 : decode cX5_season 65 = .ok (.iconst (-1), 1) := by decide +kernel
theorem dX5_season_66 : decode cX5_season 66 = .ok (.istore 4, 2) := by decide +kernel
theorem dX5_season_68 : decode cX5_season 68 = .ok (.iconst 0, 1) := by decide +kernel
theorem dX5_season_69 : decode cX5_season 69 = .ok (.istore 5, 2) := by decide +kernel
theorem dX5_season_71 : decode cX5_season 71 = .ok (.iload 5, 2) := by decide +kernel
theorem dX5_season_73 : decode cX5_season 73 = .ok (.aload_n 0, 1) := by decide +kernel
theorem dX5_season_74 : decode cX5_season 74 = .ok (.getfield 200, 3) := by decide +kernel
theorem dX5_season_77 : decode cX5_season 77 = .ok (.if_icmp .ge 107, 3) := by decide +kernel
theorem dX5_season_80 : decode cX5_season 80 = .ok (.aload_n 0, 1) := by decide +kernel
theorem dX5_season_81 : decode cX5_season 81 = .ok (.getfield 86, 3) := by decide +kernel
theorem dX5_season_84 : decode cX5_season 84 = .ok (.iload 5, 2) := by decide +kernel
theorem dX5_season_86 : decode cX5_season 86 = .ok (.iaload, 1) := by decide +kernel
theorem dX5_season_87 : decode cX5_season 87 = .ok (.iload_n 2, 1) := by decide +kernel
theorem dX5_season_88 : decode cX5_season 88 = .ok (.if_icmp .ne 7, 3) := by decide +kernel
theorem dX5_season_91 : decode cX5_season 91 = .ok (.iconst 1, 1) := by decide +kernel
theorem dX5_season_92 : decode cX5_season 92 = .ok (.goto 4, 3) := by decide +kernel
theorem dX5_season_95 : decode cX5_season 95 = .ok (.iconst 0, 1) := by decide +kernel
theorem dX5_season_96 : decode cX5_season 96 = .ok (.istore 6, 2) := by decide +kernel
theorem dX5_season_98 : decode cX5_season 98 = .ok (.iload 6, 2) := by decide +kernel
theorem dX5_season_100 : decode cX5_season 100 = .ok (.ifCond .eq 39, 3) := by decide +kernel
theorem dX5_season_103 : decode cX5_season 103 = .ok (.aload_n 0, 1) := by decide +kernel
theorem dX5_season_104 : decode cX5_season 104 = .ok (.getfield 89, 3) := by decide +kernel
theorem dX5_season_107 : decode cX5_season 107 = .ok (.iload 5, 2) := by decide +kernel
theorem dX5_season_109 : decode cX5_season 109 = .ok (.iaload, 1) := by decide +kernel
theorem dX5_season_110 : decode cX5_season 110 = .ok (.ifCond .le 29, 3) := by decide +kernel
theorem dX5_season_113 : decode cX5_season 113 = .ok (.iload_n 3, 1) := by decide +kernel
theorem dX5_season_114 : decode cX5_season 114 = .ok (.iconst (-1), 1) := by decide +kernel
theorem dX5_season_115 : decode cX5_season 115 = .ok (.if_icmp .eq 19, 3) := by decide +kernel
theorem dX5_season_118 : decode cX5_season 118 = .ok (.aload_n 0, 1) := by decide +kernel
theorem dX5_season_119 : decode cX5_season 119 = .ok (.getfield 89, 3) := by decide +kernel
theorem dX5_season_122 : decode cX5_season 122 = .ok (.iload 5, 2) := by decide +kernel
theorem dX5_season_124 : decode cX5_season 124 = .ok (.iaload, 1) := by decide +kernel
theorem dX5_season_125 : decode cX5_season 125 = .ok (.aload_n 0, 1) := by decide +kernel
theorem dX5_season_126 : decode cX5_season 126 = .ok (.getfield 89, 3) := by decide +kernel
theorem dX5_season_129 : decode cX5_season 129 = .ok (.iload_n 3, 1) := by decide +kernel
theorem dX5_season_130 : decode cX5_season 130 = .ok (.iaload, 1) := by decide +kernel
theorem dX5_season_131 : decode cX5_season 131 = .ok (.if_icmp .le 8, 3) := by decide +kernel
theorem dX5_season_134 : decode cX5_season 134 = .ok (.iload 5, 2) := by decide +kernel
theorem dX5_season_136 : decode cX5_season 136 = .ok (.goto 4, 3) := by decide +kernel
theorem dX5_season_139 : decode cX5_season 139 = .ok (.iload_n 3, 1) := by decide +kernel
theorem dX5_season_140 : decode cX5_season 140 = .ok (.istore_n 3, 1) := by decide +kernel
theorem dX5_season_141 : decode cX5_season 141 = .ok (.iload 6, 2) := by decide +kernel
theorem dX5_season_143 : decode cX5_season 143 = .ok (.ifCond .eq 31, 3) := by decide +kernel
theorem dX5_season_146 : decode cX5_season 146 = .ok (.iload 4, 2) := by decide +kernel
theorem dX5_season_148 : decode cX5_season 148 = .ok (.iconst (-1), 1) := by decide +kernel
theorem dX5_season_149 : decode cX5_season 149 = .ok (.if_icmp .eq 20, 3) := by decide +kernel
theorem dX5_season_152 : decode cX5_season 152 = .ok (.aload_n 0, 1) := by decide +kernel
theorem dX5_season_153 : decode cX5_season 153 = .ok (.getfield 89, 3) := by decide +kernel
theorem dX5_season_156 : decode cX5_season 156 = .ok (.iload 5, 2) := by decide +kernel
theorem dX5_season_158 : decode cX5_season 158 = .ok (.iaload, 1) := by decide +kernel
theorem dX5_season_159 : decode cX5_season 159 = .ok (.aload_n 0, 1) := by decide +kernel
theorem dX5_season_160 : decode cX5_season 160 = .ok (.getfield 89, 3) := by decide +kernel
theorem dX5_season_163 : decode cX5_season 163 = .ok (.iload 4, 2) := by decide +kernel
theorem dX5_season_165 : decode cX5_season 165 = .ok (.iaload, 1) := by decide +kernel
theorem dX5_season_166 : decode cX5_season 166 = .ok (.if_icmp .gt 8, 3) := by decide +kernel
theorem dX5_season_169 : decode cX5_season 169 = .ok (.iload 5, 2) := by decide +kernel
theorem dX5_season_171 : decode cX5_season 171 = .ok (.goto 5, 3) := by decide +kernel
theorem dX5_season_174 : decode cX5_season 174 = .ok (.iload 4, 2) := by decide +kernel
theorem dX5_season_176 : decode cX5_season 176 = .ok (.istore 4, 2) := by decide +kernel
theorem dX5_season_178 : decode cX5_season 178 = .ok (.iinc 5 1, 3) := by decide +kernel
theorem dX5_season_181 : decode cX5_season 181 = .ok (.goto (-110), 3) := by decide +kernel
theorem dX5_season_184 : decode cX5_season 184 = .ok (.iload_n 2, 1) := by decide +kernel
theorem dX5_season_185 : decode cX5_season 185 = .ok (.iconst 1, 1) := by decide +kernel
theorem dX5_season_186 : decode cX5_season 186 = .ok (.if_icmp .le 20, 3) := by decide +kernel
theorem dX5_season_189 : decode cX5_season 189 = .ok (.iload_n 3, 1) := by decide +kernel
theorem dX5_season_190 : decode cX5_season 190 = .ok (.iconst (-1), 1) := by decide +kernel
theorem dX5_season_191 : decode cX5_season 191 = .ok (.if_icmp .eq 15, 3) := by decide +kernel
theorem dX5_season_194 : decode cX5_season 194 = .ok (.aload_n 0, 1) := by decide +kernel
theorem dX5_season_195 : decode cX5_season 195 = .ok (.getfield 101, 3) := by decide +kernel
theorem dX5_season_198 : decode cX5_season 198 = .ok (.iload_n 3, 1) := by decide +kernel
theorem dX5_season_199 : decode cX5_season 199 = .ok (.iload_n 2, 1) := by decide +kernel
theorem dX5_season_200 : decode cX5_season 200 = .ok (.iconst 1, 1) := by decide +kernel
theorem dX5_season_201 : decode cX5_season 201 = .ok (.isub, 1) := by decide +kernel
theorem dX5_season_202 : decode cX5_season 202 = .ok (.iastore, 1) := by decide +kernel
theorem dX5_season_203 : decode cX5_season 203 = .ok (.iinc 1 1, 3) := by decide +kernel
theorem dX5_season_206 : decode cX5_season 206 = .ok (.iload_n 2, 1) := by decide +kernel
theorem dX5_season_207 : decode cX5_season 207 = .ok (.iconst 5, 1) := by decide +kernel
theorem dX5_season_208 : decode cX5_season 208 = .ok (.if_icmp .ge 25, 3) := by decide +kernel
theorem dX5_season_211 : decode cX5_season 211 = .ok (.aload_n 0, 1) := by decide +kernel
theorem dX5_season_212 : decode cX5_season 212 = .ok (.iload_n 2, 1) := by decide +kernel
theorem dX5_season_213 : decode cX5_season 213 = .ok (.invokevirtual 207, 3) := by decide +kernel
theorem dX5_season_216 : decode cX5_season 216 = .ok (.iconst 1, 1) := by decide +kernel
theorem dX5_season_217 : decode cX5_season 217 = .ok (.if_icmp .le 16, 3) := by decide +kernel
theorem dX5_season_220 : decode cX5_season 220 = .ok (.aload_n 0, 1) := by decide +kernel
theorem dX5_season_221 : decode cX5_season 221 = .ok (.getfield 101, 3) := by decide +kernel
theorem dX5_season_224 : decode cX5_season 224 = .ok (.iload 4, 2) := by decide +kernel
theorem dX5_season_226 : decode cX5_season 226 = .ok (.iload_n 2, 1) := by decide +kernel
theorem dX5_season_227 : decode cX5_season 227 = .ok (.iconst 1, 1) := by decide +kernel
theorem dX5_season_228 : decode cX5_season 228 = .ok (.iadd, 1) := by decide +kernel
theorem dX5_season_229 : decode cX5_season 229 = .ok (.iastore, 1) := by decide +kernel
theorem dX5_season_230 : decode cX5_season 230 = .ok (.iinc 1 1, 3) := by decide +kernel
theorem dX5_season_233 : decode cX5_season 233 = .ok (.iinc 2 1, 3) := by decide +kernel
theorem dX5_season_236 : decode cX5_season 236 = .ok (.goto (-179), 3) := by decide +kernel
theorem dX5_season_239 : decode cX5_season 239 = .ok (.iconst 0, 1) := by decide +kernel
theorem dX5_season_240 : decode cX5_season 240 = .ok (.istore_n 2, 1) := by decide +kernel
theorem dX5_season_241 : decode cX5_season 241 = .ok (.iload_n 2, 1) := by decide +kernel
theorem dX5_season_242 : decode cX5_season 242 = .ok (.aload_n 0, 1) := by decide +kernel
theorem dX5_season_243 : decode cX5_season 243 = .ok (.getfield 200, 3) := by decide +kernel
theorem dX5_season_246 : decode cX5_season 246 = .ok (.if_icmp .ge 28, 3) := by decide +kernel
theorem dX5_season_249 : decode cX5_season 249 = .ok (.aload_n 0, 1) := by decide +kernel
theorem dX5_season_250 : decode cX5_season 250 = .ok (.getfield 86, 3) := by decide +kernel
theorem dX5_season_253 : decode cX5_season 253 = .ok (.iload_n 2, 1) := by decide +kernel
theorem dX5_season_254 : decode cX5_season 254 = .ok (.aload_n 0, 1) := by decide +kernel
theorem dX5_season_255 : decode cX5_season 255 = .ok (.getfield 101, 3) := by decide +kernel
theorem dX5_season_258 : decode cX5_season 258 = .ok (.iload_n 2, 1) := by decide +kernel
theorem dX5_season_259 : decode cX5_season 259 = .ok (.iaload, 1) := by decide +kernel
theorem dX5_season_260 : decode cX5_season 260 = .ok (.iastore, 1) := by decide +kernel
theorem dX5_season_261 : decode cX5_season 261 = .ok (.aload_n 0, 1) := by decide +kernel
theorem dX5_season_262 : decode cX5_season 262 = .ok (.getfield 89, 3) := by decide +kernel
theorem dX5_season_265 : decode cX5_season 265 = .ok (.iload_n 2, 1) := by decide +kernel
theorem dX5_season_266 : decode cX5_season 266 = .ok (.iconst 0, 1) := by decide +kernel
theorem dX5_season_267 : decode cX5_season 267 = .ok (.iastore, 1) := by decide +kernel
theorem dX5_season_268 : decode cX5_season 268 = .ok (.iinc 2 1, 3) := by decide +kernel
theorem dX5_season_271 : decode cX5_season 271 = .ok (.goto (-30), 3) := by decide +kernel
theorem dX5_season_274 : decode cX5_season 274 = .ok (.iload_n 1, 1) := by decide +kernel
theorem dX5_season_275 : decode cX5_season 275 = .ok (.ireturn, 1) := by decide +kernel
theorem dX5_ofBand_0 : decode cX5_ofBand 0 = .ok (.aload_n 0, 1) := by decide +kernel
theorem dX5_ofBand_1 : decode cX5_ofBand 1 = .ok (.aload_n 0, 1) := by decide +kernel
theorem dX5_ofBand_2 : decode cX5_ofBand 2 = .ok (.iload_n 1, 1) := by decide +kernel
theorem dX5_ofBand_3 : decode cX5_ofBand 3 = .ok (.invokevirtual 216, 3) := by decide +kernel
theorem dX5_ofBand_6 : decode cX5_ofBand 6 = .ok (.ifCond .ne 7, 3) := by decide +kernel
theorem dX5_ofBand_9 : decode cX5_ofBand 9 = .ok (.iconst 1, 1) := by decide +kernel
theorem dX5_ofBand_10 : decode cX5_ofBand 10 = .ok (.goto 17, 3) := by decide +kernel
theorem dX5_ofBand_13 : decode cX5_ofBand 13 = .ok (.iload_n 2, 1) := by decide +kernel
theorem dX5_ofBand_14 : decode cX5_ofBand 14 = .ok (.iconst 0, 1) := by decide +kernel
theorem dX5_ofBand_15 : decode cX5_ofBand 15 = .ok (.iconst 4, 1) := by decide +kernel
theorem dX5_ofBand_16 : decode cX5_ofBand 16 = .ok (.invokestatic 114, 3) := by decide +kernel
theorem dX5_ofBand_19 : decode cX5_ofBand 19 = .ok (.ifCond .ne 7, 3) := by decide +kernel
theorem dX5_ofBand_22 : decode cX5_ofBand 22 = .ok (.iconst 2, 1) := by decide +kernel
theorem dX5_ofBand_23 : decode cX5_ofBand 23 = .ok (.goto 4, 3) := by decide +kernel
theorem dX5_ofBand_26 : decode cX5_ofBand 26 = .ok (.iconst 0, 1) := by decide +kernel
theorem dX5_ofBand_27 : decode cX5_ofBand 27 = .ok (.putfield 107, 3) := by decide +kernel
theorem dX5_ofBand_30 : decode cX5_ofBand 30 = .ok (.aload_n 0, 1) := by decide +kernel
theorem dX5_ofBand_31 : decode cX5_ofBand 31 = .ok (.getfield 107, 3) := by decide +kernel
theorem dX5_ofBand_34 : decode cX5_ofBand 34 = .ok (.ifCond .le 5, 3) := by decide +kernel
theorem dX5_ofBand_37 : decode cX5_ofBand 37 = .ok (.iconst 0, 1) := by decide +kernel
theorem dX5_ofBand_38 : decode cX5_ofBand 38 = .ok (.ireturn, 1) := by decide +kernel
theorem dX5_ofBand_39 : decode cX5_ofBand 39 = .ok (.iload_n 2, 1) := by decide +kernel
theorem dX5_ofBand_40 : decode cX5_ofBand 40 = .ok (.ifCond .ne 12, 3) := by decide +kernel
theorem dX5_ofBand_43 : decode cX5_ofBand 43 = .ok (.aload_n 0, 1) := by decide +kernel
theorem dX5_ofBand_44 : decode cX5_ofBand 44 = .ok (.getfield 86, 3) := by decide +kernel
theorem dX5_ofBand_47 : decode cX5_ofBand 47 = .ok (.iload_n 1, 1) := by decide +kernel
theorem dX5_ofBand_48 : decode cX5_ofBand 48 = .ok (.iaload, 1) := by decide +kernel
theorem dX5_ofBand_49 : decode cX5_ofBand 49 = .ok (.goto 51, 3) := by decide +kernel
theorem dX5_ofBand_52 : decode cX5_ofBand 52 = .ok (.iload_n 2, 1) := by decide +kernel
theorem dX5_ofBand_53 : decode cX5_ofBand 53 = .ok (.iconst 1, 1) := by decide +kernel
theorem dX5_ofBand_54 : decode cX5_ofBand 54 = .ok (.if_icmp .ne 12, 3) := by decide +kernel
theorem dX5_ofBand_57 : decode cX5_ofBand 57 = .ok (.aload_n 0, 1) := by decide +kernel
theorem dX5_ofBand_58 : decode cX5_ofBand 58 = .ok (.getfield 89, 3) := by decide +kernel
theorem dX5_ofBand_61 : decode cX5_ofBand 61 = .ok (.iload_n 1, 1) := by decide +kernel
theorem dX5_ofBand_62 : decode cX5_ofBand 62 = .ok (.iaload, 1) := by decide +kernel
theorem dX5_ofBand_63 : decode cX5_ofBand 63 = .ok (.goto 37, 3) := by decide +kernel
theorem dX5_ofBand_66 : decode cX5_ofBand 66 = .ok (.iload_n 2, 1) := by decide +kernel
theorem dX5_ofBand_67 : decode cX5_ofBand 67 = .ok (.iconst 2, 1) := by decide +kernel
theorem dX5_ofBand_68 : decode cX5_ofBand 68 = .ok (.if_icmp .ne 12, 3) := by decide +kernel
theorem dX5_ofBand_71 : decode cX5_ofBand 71 = .ok (.aload_n 0, 1) := by decide +kernel
theorem dX5_ofBand_72 : decode cX5_ofBand 72 = .ok (.getfield 92, 3) := by decide +kernel
theorem dX5_ofBand_75 : decode cX5_ofBand 75 = .ok (.iload_n 1, 1) := by decide +kernel
theorem dX5_ofBand_76 : decode cX5_ofBand 76 = .ok (.iaload, 1) := by decide +kernel
theorem dX5_ofBand_77 : decode cX5_ofBand 77 = .ok (.goto 23, 3) := by decide +kernel
theorem dX5_ofBand_80 : decode cX5_ofBand 80 = .ok (.iload_n 2, 1) := by decide +kernel
theorem dX5_ofBand_81 : decode cX5_ofBand 81 = .ok (.iconst 3, 1) := by decide +kernel
theorem dX5_ofBand_82 : decode cX5_ofBand 82 = .ok (.if_icmp .ne 12, 3) := by decide +kernel
theorem dX5_ofBand_85 : decode cX5_ofBand 85 = .ok (.aload_n 0, 1) := by decide +kernel
theorem dX5_ofBand_86 : decode cX5_ofBand 86 = .ok (.getfield 95, 3) := by decide +kernel
theorem dX5_ofBand_89 : decode cX5_ofBand 89 = .ok (.iload_n 1, 1) := by decide +kernel
theorem dX5_ofBand_90 : decode cX5_ofBand 90 = .ok (.iaload, 1) := by decide +kernel
theorem dX5_ofBand_91 : decode cX5_ofBand 91 = .ok (.goto 9, 3) := by decide +kernel
theorem dX5_ofBand_94 : decode cX5_ofBand 94 = .ok (.aload_n 0, 1) := by decide +kernel
theorem dX5_ofBand_95 : decode cX5_ofBand 95 = .ok (.getfield 98, 3) := by decide +kernel
theorem dX5_ofBand_98 : decode cX5_ofBand 98 = .ok (.iload_n 1, 1) := by decide +kernel
theorem dX5_ofBand_99 : decode cX5_ofBand 99 = .ok (.iaload, 1) := by decide +kernel
theorem dX5_ofBand_100 : decode cX5_ofBand 100 = .ok (.ireturn, 1) := by decide +kernel
end
section
theorem dL_tune_0 : decode cL_tune 0 = .ok (.aload_n 2, 1) := by decide +kernel
theorem dL_tune_1 : decode cL_tune 1 = .ok (.iconst 0, 1) := by decide +kernel
theorem dL_tune_2 : decode cL_tune 2 = .ok (.aload_n 0, 1) := by decide +kernel
theorem dL_tune_3 : decode cL_tune 3 = .ok (.iload_n 1, 1) := by decide +kernel
theorem dL_tune_4 : decode cL_tune 4 = .ok (.invokevirtual 7, 3) := by decide +kernel
theorem dL_tune_7 : decode cL_tune 7 = .ok (.i2l, 1) := by decide +kernel
theorem dL_tune_8 : decode cL_tune 8 = .ok (.lastore, 1) := by decide +kernel
theorem dL_tune_9 : decode cL_tune 9 = .ok (.goto 9, 3) := by decide +kernel
theorem dL_tune_12 : decode cL_tune 12 = .ok (.astore_n 3, 1) := by decide +kernel
theorem dL_tune_13 : decode cL_tune 13 = .ok (.iconst 1, 1) := by decide +kernel
theorem dL_tune_14 : decode cL_tune 14 = .ok (.ireturn, 1) := by decide +kernel
theorem dL_tune_15 : decode cL_tune 15 = .ok (.astore_n 3, 1) := by decide +kernel
theorem dL_tune_16 : decode cL_tune 16 = .ok (.iconst 2, 1) := by decide +kernel
theorem dL_tune_17 : decode cL_tune 17 = .ok (.ireturn, 1) := by decide +kernel
theorem dL_tune_18 : decode cL_tune 18 = .ok (.iconst 0, 1) := by decide +kernel
theorem dL_tune_19 : decode cL_tune 19 = .ok (.ireturn, 1) := by decide +kernel
theorem dL_note_0 : decode cL_note 0 = .ok (.aload 5, 2) := by decide +kernel
theorem dL_note_2 : decode cL_note 2 = .ok (.iconst 0, 1) := by decide +kernel
theorem dL_note_3 : decode cL_note 3 = .ok (.aload_n 0, 1) := by decide +kernel
theorem dL_note_4 : decode cL_note 4 = .ok (.iload_n 1, 1) := by decide +kernel
theorem dL_note_5 : decode cL_note 5 = .ok (.iload_n 2, 1) := by decide +kernel
theorem dL_note_6 : decode cL_note 6 = .ok (.iload_n 3, 1) := by decide +kernel
theorem dL_note_7 : decode cL_note 7 = .ok (.iload 4, 2) := by decide +kernel
theorem dL_note_9 : decode cL_note 9 = .ok (.invokevirtual 17, 3) := by decide +kernel
theorem dL_note_12 : decode cL_note 12 = .ok (.i2l, 1) := by decide +kernel
theorem dL_note_13 : decode cL_note 13 = .ok (.lastore, 1) := by decide +kernel
theorem dL_note_14 : decode cL_note 14 = .ok (.goto 15, 3) := by decide +kernel
theorem dL_note_17 : decode cL_note 17 = .ok (.astore 6, 2) := by decide +kernel
theorem dL_note_19 : decode cL_note 19 = .ok (.iconst 1, 1) := by decide +kernel
theorem dL_note_20 : decode cL_note 20 = .ok (.ireturn, 1) := by decide +kernel
theorem dL_note_21 : decode cL_note 21 = .ok (.astore 6, 2) := by decide +kernel
theorem dL_note_23 : decode cL_note 23 = .ok (.iconst 2, 1) := by decide +kernel
theorem dL_note_24 : decode cL_note 24 = .ok (.ireturn, 1) := by decide +kernel
theorem dL_note_25 : decode cL_note 25 = .ok (.astore 6, 2) := by decide +kernel
theorem dL_note_27 : decode cL_note 27 = .ok (.iconst 3, 1) := by decide +kernel
theorem dL_note_28 : decode cL_note 28 = .ok (.ireturn, 1) := by decide +kernel
theorem dL_note_29 : decode cL_note 29 = .ok (.iconst 0, 1) := by decide +kernel
theorem dL_note_30 : decode cL_note 30 = .ok (.ireturn, 1) := by decide +kernel
theorem dL_part_0 : decode cL_part 0 = .ok (.aload_n 3, 1) := by decide +kernel
theorem dL_part_1 : decode cL_part 1 = .ok (.iconst 0, 1) := by decide +kernel
theorem dL_part_2 : decode cL_part 2 = .ok (.aload_n 0, 1) := by decide +kernel
theorem dL_part_3 : decode cL_part 3 = .ok (.iload_n 1, 1) := by decide +kernel
theorem dL_part_4 : decode cL_part 4 = .ok (.iload_n 2, 1) := by decide +kernel
theorem dL_part_5 : decode cL_part 5 = .ok (.invokevirtual 23, 3) := by decide +kernel
theorem dL_part_8 : decode cL_part 8 = .ok (.i2l, 1) := by decide +kernel
theorem dL_part_9 : decode cL_part 9 = .ok (.lastore, 1) := by decide +kernel
theorem dL_part_10 : decode cL_part 10 = .ok (.goto 11, 3) := by decide +kernel
theorem dL_part_13 : decode cL_part 13 = .ok (.astore 4, 2) := by decide +kernel
theorem dL_part_15 : decode cL_part 15 = .ok (.iconst 1, 1) := by decide +kernel
theorem dL_part_16 : decode cL_part 16 = .ok (.ireturn, 1) := by decide +kernel
theorem dL_part_17 : decode cL_part 17 = .ok (.astore 4, 2) := by decide +kernel
theorem dL_part_19 : decode cL_part 19 = .ok (.iconst 2, 1) := by decide +kernel
theorem dL_part_20 : decode cL_part 20 = .ok (.ireturn, 1) := by decide +kernel
theorem dL_part_21 : decode cL_part 21 = .ok (.iconst 0, 1) := by decide +kernel
theorem dL_part_22 : decode cL_part 22 = .ok (.ireturn, 1) := by decide +kernel
theorem dL_played_0 : decode cL_played 0 = .ok (.aload 4, 2) := by decide +kernel
theorem dL_played_2 : decode cL_played 2 = .ok (.iconst 0, 1) := by decide +kernel
theorem dL_played_3 : decode cL_played 3 = .ok (.aload_n 0, 1) := by decide +kernel
theorem dL_played_4 : decode cL_played 4 = .ok (.iload_n 1, 1) := by decide +kernel
theorem dL_played_5 : decode cL_played 5 = .ok (.iload_n 2, 1) := by decide +kernel
theorem dL_played_6 : decode cL_played 6 = .ok (.iload_n 3, 1) := by decide +kernel
theorem dL_played_7 : decode cL_played 7 = .ok (.invokevirtual 27, 3) := by decide +kernel
theorem dL_played_10 : decode cL_played 10 = .ok (.i2l, 1) := by decide +kernel
theorem dL_played_11 : decode cL_played 11 = .ok (.lastore, 1) := by decide +kernel
theorem dL_played_12 : decode cL_played 12 = .ok (.goto 11, 3) := by decide +kernel
theorem dL_played_15 : decode cL_played 15 = .ok (.astore 5, 2) := by decide +kernel
theorem dL_played_17 : decode cL_played 17 = .ok (.iconst 1, 1) := by decide +kernel
theorem dL_played_18 : decode cL_played 18 = .ok (.ireturn, 1) := by decide +kernel
theorem dL_played_19 : decode cL_played 19 = .ok (.astore 5, 2) := by decide +kernel
theorem dL_played_21 : decode cL_played 21 = .ok (.iconst 2, 1) := by decide +kernel
theorem dL_played_22 : decode cL_played 22 = .ok (.ireturn, 1) := by decide +kernel
theorem dL_played_23 : decode cL_played 23 = .ok (.iconst 0, 1) := by decide +kernel
theorem dL_played_24 : decode cL_played 24 = .ok (.ireturn, 1) := by decide +kernel
theorem dL_ofTune_0 : decode cL_ofTune 0 = .ok (.aload_n 3, 1) := by decide +kernel
theorem dL_ofTune_1 : decode cL_ofTune 1 = .ok (.iconst 0, 1) := by decide +kernel
theorem dL_ofTune_2 : decode cL_ofTune 2 = .ok (.aload_n 0, 1) := by decide +kernel
theorem dL_ofTune_3 : decode cL_ofTune 3 = .ok (.iload_n 1, 1) := by decide +kernel
theorem dL_ofTune_4 : decode cL_ofTune 4 = .ok (.iload_n 2, 1) := by decide +kernel
theorem dL_ofTune_5 : decode cL_ofTune 5 = .ok (.invokevirtual 31, 3) := by decide +kernel
theorem dL_ofTune_8 : decode cL_ofTune 8 = .ok (.i2l, 1) := by decide +kernel
theorem dL_ofTune_9 : decode cL_ofTune 9 = .ok (.lastore, 1) := by decide +kernel
theorem dL_ofTune_10 : decode cL_ofTune 10 = .ok (.goto 11, 3) := by decide +kernel
theorem dL_ofTune_13 : decode cL_ofTune 13 = .ok (.astore 4, 2) := by decide +kernel
theorem dL_ofTune_15 : decode cL_ofTune 15 = .ok (.iconst 1, 1) := by decide +kernel
theorem dL_ofTune_16 : decode cL_ofTune 16 = .ok (.ireturn, 1) := by decide +kernel
theorem dL_ofTune_17 : decode cL_ofTune 17 = .ok (.astore 4, 2) := by decide +kernel
theorem dL_ofTune_19 : decode cL_ofTune 19 = .ok (.iconst 2, 1) := by decide +kernel
theorem dL_ofTune_20 : decode cL_ofTune 20 = .ok (.ireturn, 1) := by decide +kernel
theorem dL_ofTune_21 : decode cL_ofTune 21 = .ok (.iconst 0, 1) := by decide +kernel
theorem dL_ofTune_22 : decode cL_ofTune 22 = .ok (.ireturn, 1) := by decide +kernel
theorem dL_alike_0 : decode cL_alike 0 = .ok (.aload_n 3, 1) := by decide +kernel
theorem dL_alike_1 : decode cL_alike 1 = .ok (.iconst 0, 1) := by decide +kernel
theorem dL_alike_2 : decode cL_alike 2 = .ok (.aload_n 0, 1) := by decide +kernel
theorem dL_alike_3 : decode cL_alike 3 = .ok (.iload_n 1, 1) := by decide +kernel
theorem dL_alike_4 : decode cL_alike 4 = .ok (.iload_n 2, 1) := by decide +kernel
theorem dL_alike_5 : decode cL_alike 5 = .ok (.invokevirtual 35, 3) := by decide +kernel
theorem dL_alike_8 : decode cL_alike 8 = .ok (.i2l, 1) := by decide +kernel
theorem dL_alike_9 : decode cL_alike 9 = .ok (.lastore, 1) := by decide +kernel
theorem dL_alike_10 : decode cL_alike 10 = .ok (.goto 7, 3) := by decide +kernel
theorem dL_alike_13 : decode cL_alike 13 = .ok (.astore 4, 2) := by decide +kernel
theorem dL_alike_15 : decode cL_alike 15 = .ok (.iconst 1, 1) := by decide +kernel
theorem dL_alike_16 : decode cL_alike 16 = .ok (.ireturn, 1) := by decide +kernel
theorem dL_alike_17 : decode cL_alike 17 = .ok (.iconst 0, 1) := by decide +kernel
theorem dL_alike_18 : decode cL_alike 18 = .ok (.ireturn, 1) := by decide +kernel
theorem dL_alikeAnew_0 : decode cL_alikeAnew 0 = .ok (.aload_n 3, 1) := by decide +kernel
theorem dL_alikeAnew_1 : decode cL_alikeAnew 1 = .ok (.iconst 0, 1) := by decide +kernel
theorem dL_alikeAnew_2 : decode cL_alikeAnew 2 = .ok (.aload_n 0, 1) := by decide +kernel
theorem dL_alikeAnew_3 : decode cL_alikeAnew 3 = .ok (.iload_n 1, 1) := by decide +kernel
theorem dL_alikeAnew_4 : decode cL_alikeAnew 4 = .ok (.iload_n 2, 1) := by decide +kernel
theorem dL_alikeAnew_5 : decode cL_alikeAnew 5 = .ok (.invokevirtual 38, 3) := by decide +kernel
theorem dL_alikeAnew_8 : decode cL_alikeAnew 8 = .ok (.i2l, 1) := by decide +kernel
theorem dL_alikeAnew_9 : decode cL_alikeAnew 9 = .ok (.lastore, 1) := by decide +kernel
theorem dL_alikeAnew_10 : decode cL_alikeAnew 10 = .ok (.goto 7, 3) := by decide +kernel
theorem dL_alikeAnew_13 : decode cL_alikeAnew 13 = .ok (.astore 4, 2) := by decide +kernel
theorem dL_alikeAnew_15 : decode cL_alikeAnew 15 = .ok (.iconst 1, 1) := by decide +kernel
theorem dL_alikeAnew_16 : decode cL_alikeAnew 16 = .ok (.ireturn, 1) := by decide +kernel
theorem dL_alikeAnew_17 : decode cL_alikeAnew 17 = .ok (.iconst 0, 1) := by decide +kernel
theorem dL_alikeAnew_18 : decode cL_alikeAnew 18 = .ok (.ireturn, 1) := by decide +kernel
theorem dL_follow_0 : decode cL_follow 0 = .ok (.aload_n 3, 1) := by decide +kernel
theorem dL_follow_1 : decode cL_follow 1 = .ok (.iconst 0, 1) := by decide +kernel
theorem dL_follow_2 : decode cL_follow 2 = .ok (.aload_n 0, 1) := by decide +kernel
theorem dL_follow_3 : decode cL_follow 3 = .ok (.iload_n 1, 1) := by decide +kernel
theorem dL_follow_4 : decode cL_follow 4 = .ok (.iload_n 2, 1) := by decide +kernel
theorem dL_follow_5 : decode cL_follow 5 = .ok (.invokevirtual 41, 3) := by decide +kernel
theorem dL_follow_8 : decode cL_follow 8 = .ok (.i2l, 1) := by decide +kernel
theorem dL_follow_9 : decode cL_follow 9 = .ok (.lastore, 1) := by decide +kernel
theorem dL_follow_10 : decode cL_follow 10 = .ok (.goto 15, 3) := by decide +kernel
theorem dL_follow_13 : decode cL_follow 13 = .ok (.astore 4, 2) := by decide +kernel
theorem dL_follow_15 : decode cL_follow 15 = .ok (.iconst 1, 1) := by decide +kernel
theorem dL_follow_16 : decode cL_follow 16 = .ok (.ireturn, 1) := by decide +kernel
theorem dL_follow_17 : decode cL_follow 17 = .ok (.astore 4, 2) := by decide +kernel
theorem dL_follow_19 : decode cL_follow 19 = .ok (.iconst 2, 1) := by decide +kernel
theorem dL_follow_20 : decode cL_follow 20 = .ok (.ireturn, 1) := by decide +kernel
theorem dL_follow_21 : decode cL_follow 21 = .ok (.astore 4, 2) := by decide +kernel
theorem dL_follow_23 : decode cL_follow 23 = .ok (.iconst 3, 1) := by decide +kernel
theorem dL_follow_24 : decode cL_follow 24 = .ok (.ireturn, 1) := by decide +kernel
theorem dL_follow_25 : decode cL_follow 25 = .ok (.iconst 0, 1) := by decide +kernel
theorem dL_follow_26 : decode cL_follow 26 = .ok (.ireturn, 1) := by decide +kernel
theorem dL_drop_0 : decode cL_drop 0 = .ok (.aload_n 1, 1) := by decide +kernel
theorem dL_drop_1 : decode cL_drop 1 = .ok (.iconst 0, 1) := by decide +kernel
theorem dL_drop_2 : decode cL_drop 2 = .ok (.aload_n 0, 1) := by decide +kernel
theorem dL_drop_3 : decode cL_drop 3 = .ok (.invokevirtual 44, 3) := by decide +kernel
theorem dL_drop_6 : decode cL_drop 6 = .ok (.i2l, 1) := by decide +kernel
theorem dL_drop_7 : decode cL_drop 7 = .ok (.lastore, 1) := by decide +kernel
theorem dL_drop_8 : decode cL_drop 8 = .ok (.goto 6, 3) := by decide +kernel
theorem dL_drop_11 : decode cL_drop 11 = .ok (.astore_n 2, 1) := by decide +kernel
theorem dL_drop_12 : decode cL_drop 12 = .ok (.iconst 1, 1) := by decide +kernel
theorem dL_drop_13 : decode cL_drop 13 = .ok (.ireturn, 1) := by decide +kernel
theorem dL_drop_14 : decode cL_drop 14 = .ok (.iconst 0, 1) := by decide +kernel
theorem dL_drop_15 : decode cL_drop 15 = .ok (.ireturn, 1) := by decide +kernel
theorem dL_piper_0 : decode cL_piper 0 = .ok (.aload 4, 2) := by decide +kernel
theorem dL_piper_2 : decode cL_piper 2 = .ok (.iconst 0, 1) := by decide +kernel
theorem dL_piper_3 : decode cL_piper 3 = .ok (.aload_n 0, 1) := by decide +kernel
theorem dL_piper_4 : decode cL_piper 4 = .ok (.iload_n 1, 1) := by decide +kernel
theorem dL_piper_5 : decode cL_piper 5 = .ok (.iload_n 2, 1) := by decide +kernel
theorem dL_piper_6 : decode cL_piper 6 = .ok (.iload_n 3, 1) := by decide +kernel
theorem dL_piper_7 : decode cL_piper 7 = .ok (.invokevirtual 48, 3) := by decide +kernel
theorem dL_piper_10 : decode cL_piper 10 = .ok (.i2l, 1) := by decide +kernel
theorem dL_piper_11 : decode cL_piper 11 = .ok (.lastore, 1) := by decide +kernel
theorem dL_piper_12 : decode cL_piper 12 = .ok (.goto 11, 3) := by decide +kernel
theorem dL_piper_15 : decode cL_piper 15 = .ok (.astore 5, 2) := by decide +kernel
theorem dL_piper_17 : decode cL_piper 17 = .ok (.iconst 1, 1) := by decide +kernel
theorem dL_piper_18 : decode cL_piper 18 = .ok (.ireturn, 1) := by decide +kernel
theorem dL_piper_19 : decode cL_piper 19 = .ok (.astore 5, 2) := by decide +kernel
theorem dL_piper_21 : decode cL_piper 21 = .ok (.iconst 2, 1) := by decide +kernel
theorem dL_piper_22 : decode cL_piper 22 = .ok (.ireturn, 1) := by decide +kernel
theorem dL_piper_23 : decode cL_piper 23 = .ok (.iconst 0, 1) := by decide +kernel
theorem dL_piper_24 : decode cL_piper 24 = .ok (.ireturn, 1) := by decide +kernel
theorem dL_seat_0 : decode cL_seat 0 = .ok (.aload_n 3, 1) := by decide +kernel
theorem dL_seat_1 : decode cL_seat 1 = .ok (.iconst 0, 1) := by decide +kernel
theorem dL_seat_2 : decode cL_seat 2 = .ok (.aload_n 0, 1) := by decide +kernel
theorem dL_seat_3 : decode cL_seat 3 = .ok (.iload_n 1, 1) := by decide +kernel
theorem dL_seat_4 : decode cL_seat 4 = .ok (.iload_n 2, 1) := by decide +kernel
theorem dL_seat_5 : decode cL_seat 5 = .ok (.invokevirtual 51, 3) := by decide +kernel
theorem dL_seat_8 : decode cL_seat 8 = .ok (.i2l, 1) := by decide +kernel
theorem dL_seat_9 : decode cL_seat 9 = .ok (.lastore, 1) := by decide +kernel
theorem dL_seat_10 : decode cL_seat 10 = .ok (.goto 11, 3) := by decide +kernel
theorem dL_seat_13 : decode cL_seat 13 = .ok (.astore 4, 2) := by decide +kernel
theorem dL_seat_15 : decode cL_seat 15 = .ok (.iconst 1, 1) := by decide +kernel
theorem dL_seat_16 : decode cL_seat 16 = .ok (.ireturn, 1) := by decide +kernel
theorem dL_seat_17 : decode cL_seat 17 = .ok (.astore 4, 2) := by decide +kernel
theorem dL_seat_19 : decode cL_seat 19 = .ok (.iconst 2, 1) := by decide +kernel
theorem dL_seat_20 : decode cL_seat 20 = .ok (.ireturn, 1) := by decide +kernel
theorem dL_seat_21 : decode cL_seat 21 = .ok (.iconst 0, 1) := by decide +kernel
theorem dL_seat_22 : decode cL_seat 22 = .ok (.ireturn, 1) := by decide +kernel
theorem dL_rest_0 : decode cL_rest 0 = .ok (.aload_n 3, 1) := by decide +kernel
theorem dL_rest_1 : decode cL_rest 1 = .ok (.iconst 0, 1) := by decide +kernel
theorem dL_rest_2 : decode cL_rest 2 = .ok (.aload_n 0, 1) := by decide +kernel
theorem dL_rest_3 : decode cL_rest 3 = .ok (.iload_n 1, 1) := by decide +kernel
theorem dL_rest_4 : decode cL_rest 4 = .ok (.iload_n 2, 1) := by decide +kernel
theorem dL_rest_5 : decode cL_rest 5 = .ok (.invokevirtual 54, 3) := by decide +kernel
theorem dL_rest_8 : decode cL_rest 8 = .ok (.ifCond .eq 7, 3) := by decide +kernel
theorem dL_rest_11 : decode cL_rest 11 = .ok (.lconst 1, 1) := by decide +kernel
theorem dL_rest_12 : decode cL_rest 12 = .ok (.goto 4, 3) := by decide +kernel
theorem dL_rest_15 : decode cL_rest 15 = .ok (.lconst 0, 1) := by decide +kernel
theorem dL_rest_16 : decode cL_rest 16 = .ok (.lastore, 1) := by decide +kernel
theorem dL_rest_17 : decode cL_rest 17 = .ok (.goto 7, 3) := by decide +kernel
theorem dL_rest_20 : decode cL_rest 20 = .ok (.astore 4, 2) := by decide +kernel
theorem dL_rest_22 : decode cL_rest 22 = .ok (.iconst 1, 1) := by decide +kernel
theorem dL_rest_23 : decode cL_rest 23 = .ok (.ireturn, 1) := by decide +kernel
theorem dL_rest_24 : decode cL_rest 24 = .ok (.iconst 0, 1) := by decide +kernel
theorem dL_rest_25 : decode cL_rest 25 = .ok (.ireturn, 1) := by decide +kernel
theorem dL_play_0 : decode cL_play 0 = .ok (.aload 4, 2) := by decide +kernel
theorem dL_play_2 : decode cL_play 2 = .ok (.iconst 0, 1) := by decide +kernel
theorem dL_play_3 : decode cL_play 3 = .ok (.aload_n 0, 1) := by decide +kernel
theorem dL_play_4 : decode cL_play 4 = .ok (.iload_n 1, 1) := by decide +kernel
theorem dL_play_5 : decode cL_play 5 = .ok (.iload_n 2, 1) := by decide +kernel
theorem dL_play_6 : decode cL_play 6 = .ok (.iload_n 3, 1) := by decide +kernel
theorem dL_play_7 : decode cL_play 7 = .ok (.invokevirtual 58, 3) := by decide +kernel
theorem dL_play_10 : decode cL_play 10 = .ok (.i2l, 1) := by decide +kernel
theorem dL_play_11 : decode cL_play 11 = .ok (.lastore, 1) := by decide +kernel
theorem dL_play_12 : decode cL_play 12 = .ok (.goto 7, 3) := by decide +kernel
theorem dL_play_15 : decode cL_play 15 = .ok (.astore 5, 2) := by decide +kernel
theorem dL_play_17 : decode cL_play 17 = .ok (.iconst 1, 1) := by decide +kernel
theorem dL_play_18 : decode cL_play 18 = .ok (.ireturn, 1) := by decide +kernel
theorem dL_play_19 : decode cL_play 19 = .ok (.iconst 0, 1) := by decide +kernel
theorem dL_play_20 : decode cL_play 20 = .ok (.ireturn, 1) := by decide +kernel
theorem dL_ofPiper_0 : decode cL_ofPiper 0 = .ok (.aload_n 3, 1) := by decide +kernel
theorem dL_ofPiper_1 : decode cL_ofPiper 1 = .ok (.iconst 0, 1) := by decide +kernel
theorem dL_ofPiper_2 : decode cL_ofPiper 2 = .ok (.aload_n 0, 1) := by decide +kernel
theorem dL_ofPiper_3 : decode cL_ofPiper 3 = .ok (.iload_n 1, 1) := by decide +kernel
theorem dL_ofPiper_4 : decode cL_ofPiper 4 = .ok (.iload_n 2, 1) := by decide +kernel
theorem dL_ofPiper_5 : decode cL_ofPiper 5 = .ok (.invokevirtual 61, 3) := by decide +kernel
theorem dL_ofPiper_8 : decode cL_ofPiper 8 = .ok (.i2l, 1) := by decide +kernel
theorem dL_ofPiper_9 : decode cL_ofPiper 9 = .ok (.lastore, 1) := by decide +kernel
theorem dL_ofPiper_10 : decode cL_ofPiper 10 = .ok (.goto 11, 3) := by decide +kernel
theorem dL_ofPiper_13 : decode cL_ofPiper 13 = .ok (.astore 4, 2) := by decide +kernel
theorem dL_ofPiper_15 : decode cL_ofPiper 15 = .ok (.iconst 1, 1) := by decide +kernel
theorem dL_ofPiper_16 : decode cL_ofPiper 16 = .ok (.ireturn, 1) := by decide +kernel
theorem dL_ofPiper_17 : decode cL_ofPiper 17 = .ok (.astore 4, 2) := by decide +kernel
theorem dL_ofPiper_19 : decode cL_ofPiper 19 = .ok (.iconst 2, 1) := by decide +kernel
theorem dL_ofPiper_20 : decode cL_ofPiper 20 = .ok (.ireturn, 1) := by decide +kernel
theorem dL_ofPiper_21 : decode cL_ofPiper 21 = .ok (.iconst 0, 1) := by decide +kernel
theorem dL_ofPiper_22 : decode cL_ofPiper 22 = .ok (.ireturn, 1) := by decide +kernel
theorem dL_beats_0 : decode cL_beats 0 = .ok (.aload_n 3, 1) := by decide +kernel
theorem dL_beats_1 : decode cL_beats 1 = .ok (.iconst 0, 1) := by decide +kernel
theorem dL_beats_2 : decode cL_beats 2 = .ok (.aload_n 0, 1) := by decide +kernel
theorem dL_beats_3 : decode cL_beats 3 = .ok (.iload_n 1, 1) := by decide +kernel
theorem dL_beats_4 : decode cL_beats 4 = .ok (.iload_n 2, 1) := by decide +kernel
theorem dL_beats_5 : decode cL_beats 5 = .ok (.invokevirtual 64, 3) := by decide +kernel
theorem dL_beats_8 : decode cL_beats 8 = .ok (.f2d, 1) := by decide +kernel
theorem dL_beats_9 : decode cL_beats 9 = .ok (.dastore, 1) := by decide +kernel
theorem dL_beats_10 : decode cL_beats 10 = .ok (.goto 7, 3) := by decide +kernel
theorem dL_beats_13 : decode cL_beats 13 = .ok (.astore 4, 2) := by decide +kernel
theorem dL_beats_15 : decode cL_beats 15 = .ok (.iconst 1, 1) := by decide +kernel
theorem dL_beats_16 : decode cL_beats 16 = .ok (.ireturn, 1) := by decide +kernel
theorem dL_beats_17 : decode cL_beats 17 = .ok (.iconst 0, 1) := by decide +kernel
theorem dL_beats_18 : decode cL_beats 18 = .ok (.ireturn, 1) := by decide +kernel
theorem dL_ahead_0 : decode cL_ahead 0 = .ok (.aload 4, 2) := by decide +kernel
theorem dL_ahead_2 : decode cL_ahead 2 = .ok (.iconst 0, 1) := by decide +kernel
theorem dL_ahead_3 : decode cL_ahead 3 = .ok (.aload_n 0, 1) := by decide +kernel
theorem dL_ahead_4 : decode cL_ahead 4 = .ok (.iload_n 1, 1) := by decide +kernel
theorem dL_ahead_5 : decode cL_ahead 5 = .ok (.iload_n 2, 1) := by decide +kernel
theorem dL_ahead_6 : decode cL_ahead 6 = .ok (.iload_n 3, 1) := by decide +kernel
theorem dL_ahead_7 : decode cL_ahead 7 = .ok (.invokevirtual 68, 3) := by decide +kernel
theorem dL_ahead_10 : decode cL_ahead 10 = .ok (.i2l, 1) := by decide +kernel
theorem dL_ahead_11 : decode cL_ahead 11 = .ok (.lastore, 1) := by decide +kernel
theorem dL_ahead_12 : decode cL_ahead 12 = .ok (.goto 7, 3) := by decide +kernel
theorem dL_ahead_15 : decode cL_ahead 15 = .ok (.astore 5, 2) := by decide +kernel
theorem dL_ahead_17 : decode cL_ahead 17 = .ok (.iconst 1, 1) := by decide +kernel
theorem dL_ahead_18 : decode cL_ahead 18 = .ok (.ireturn, 1) := by decide +kernel
theorem dL_ahead_19 : decode cL_ahead 19 = .ok (.iconst 0, 1) := by decide +kernel
theorem dL_ahead_20 : decode cL_ahead 20 = .ok (.ireturn, 1) := by decide +kernel
theorem dL_band_0 : decode cL_band 0 = .ok (.aload_n 2, 1) := by decide +kernel
theorem dL_band_1 : decode cL_band 1 = .ok (.iconst 0, 1) := by decide +kernel
theorem dL_band_2 : decode cL_band 2 = .ok (.aload_n 0, 1) := by decide +kernel
theorem dL_band_3 : decode cL_band 3 = .ok (.iload_n 1, 1) := by decide +kernel
theorem dL_band_4 : decode cL_band 4 = .ok (.invokevirtual 71, 3) := by decide +kernel
theorem dL_band_7 : decode cL_band 7 = .ok (.i2l, 1) := by decide +kernel
theorem dL_band_8 : decode cL_band 8 = .ok (.lastore, 1) := by decide +kernel
theorem dL_band_9 : decode cL_band 9 = .ok (.goto 9, 3) := by decide +kernel
theorem dL_band_12 : decode cL_band 12 = .ok (.astore_n 3, 1) := by decide +kernel
theorem dL_band_13 : decode cL_band 13 = .ok (.iconst 1, 1) := by decide +kernel
theorem dL_band_14 : decode cL_band 14 = .ok (.ireturn, 1) := by decide +kernel
theorem dL_band_15 : decode cL_band 15 = .ok (.astore_n 3, 1) := by decide +kernel
theorem dL_band_16 : decode cL_band 16 = .ok (.iconst 2, 1) := by decide +kernel
theorem dL_band_17 : decode cL_band 17 = .ok (.ireturn, 1) := by decide +kernel
theorem dL_band_18 : decode cL_band 18 = .ok (.iconst 0, 1) := by decide +kernel
theorem dL_band_19 : decode cL_band 19 = .ok (.ireturn, 1) := by decide +kernel
theorem dL_contest_0 : decode cL_contest 0 = .ok (.aload_n 2, 1) := by decide +kernel
theorem dL_contest_1 : decode cL_contest 1 = .ok (.iconst 0, 1) := by decide +kernel
theorem dL_contest_2 : decode cL_contest 2 = .ok (.aload_n 0, 1) := by decide +kernel
theorem dL_contest_3 : decode cL_contest 3 = .ok (.iload_n 1, 1) := by decide +kernel
theorem dL_contest_4 : decode cL_contest 4 = .ok (.invokevirtual 74, 3) := by decide +kernel
theorem dL_contest_7 : decode cL_contest 7 = .ok (.i2l, 1) := by decide +kernel
theorem dL_contest_8 : decode cL_contest 8 = .ok (.lastore, 1) := by decide +kernel
theorem dL_contest_9 : decode cL_contest 9 = .ok (.goto 9, 3) := by decide +kernel
theorem dL_contest_12 : decode cL_contest 12 = .ok (.astore_n 3, 1) := by decide +kernel
theorem dL_contest_13 : decode cL_contest 13 = .ok (.iconst 1, 1) := by decide +kernel
theorem dL_contest_14 : decode cL_contest 14 = .ok (.ireturn, 1) := by decide +kernel
theorem dL_contest_15 : decode cL_contest 15 = .ok (.astore_n 3, 1) := by decide +kernel
theorem dL_contest_16 : decode cL_contest 16 = .ok (.iconst 2, 1) := by decide +kernel
theorem dL_contest_17 : decode cL_contest 17 = .ok (.ireturn, 1) := by decide +kernel
theorem dL_contest_18 : decode cL_contest 18 = .ok (.iconst 0, 1) := by decide +kernel
theorem dL_contest_19 : decode cL_contest 19 = .ok (.ireturn, 1) := by decide +kernel
theorem dL_mark_0 : decode cL_mark 0 = .ok (.aload 4, 2) := by decide +kernel
theorem dL_mark_2 : decode cL_mark 2 = .ok (.iconst 0, 1) := by decide +kernel
theorem dL_mark_3 : decode cL_mark 3 = .ok (.aload_n 0, 1) := by decide +kernel
theorem dL_mark_4 : decode cL_mark 4 = .ok (.iload_n 1, 1) := by decide +kernel
theorem dL_mark_5 : decode cL_mark 5 = .ok (.iload_n 2, 1) := by decide +kernel
theorem dL_mark_6 : decode cL_mark 6 = .ok (.iload_n 3, 1) := by decide +kernel
theorem dL_mark_7 : decode cL_mark 7 = .ok (.invokevirtual 77, 3) := by decide +kernel
theorem dL_mark_10 : decode cL_mark 10 = .ok (.i2l, 1) := by decide +kernel
theorem dL_mark_11 : decode cL_mark 11 = .ok (.lastore, 1) := by decide +kernel
theorem dL_mark_12 : decode cL_mark 12 = .ok (.goto 15, 3) := by decide +kernel
theorem dL_mark_15 : decode cL_mark 15 = .ok (.astore 5, 2) := by decide +kernel
theorem dL_mark_17 : decode cL_mark 17 = .ok (.iconst 1, 1) := by decide +kernel
theorem dL_mark_18 : decode cL_mark 18 = .ok (.ireturn, 1) := by decide +kernel
theorem dL_mark_19 : decode cL_mark 19 = .ok (.astore 5, 2) := by decide +kernel
theorem dL_mark_21 : decode cL_mark 21 = .ok (.iconst 2, 1) := by decide +kernel
theorem dL_mark_22 : decode cL_mark 22 = .ok (.ireturn, 1) := by decide +kernel
theorem dL_mark_23 : decode cL_mark 23 = .ok (.astore 5, 2) := by decide +kernel
theorem dL_mark_25 : decode cL_mark 25 = .ok (.iconst 3, 1) := by decide +kernel
theorem dL_mark_26 : decode cL_mark 26 = .ok (.ireturn, 1) := by decide +kernel
theorem dL_mark_27 : decode cL_mark 27 = .ok (.iconst 0, 1) := by decide +kernel
theorem dL_mark_28 : decode cL_mark 28 = .ok (.ireturn, 1) := by decide +kernel
theorem dL_close_0 : decode cL_close 0 = .ok (.aload_n 1, 1) := by decide +kernel
theorem dL_close_1 : decode cL_close 1 = .ok (.iconst 0, 1) := by decide +kernel
theorem dL_close_2 : decode cL_close 2 = .ok (.aload_n 0, 1) := by decide +kernel
theorem dL_close_3 : decode cL_close 3 = .ok (.invokevirtual 80, 3) := by decide +kernel
theorem dL_close_6 : decode cL_close 6 = .ok (.i2l, 1) := by decide +kernel
theorem dL_close_7 : decode cL_close 7 = .ok (.lastore, 1) := by decide +kernel
theorem dL_close_8 : decode cL_close 8 = .ok (.goto 6, 3) := by decide +kernel
theorem dL_close_11 : decode cL_close 11 = .ok (.astore_n 2, 1) := by decide +kernel
theorem dL_close_12 : decode cL_close 12 = .ok (.iconst 1, 1) := by decide +kernel
theorem dL_close_13 : decode cL_close 13 = .ok (.ireturn, 1) := by decide +kernel
theorem dL_close_14 : decode cL_close 14 = .ok (.iconst 0, 1) := by decide +kernel
theorem dL_close_15 : decode cL_close 15 = .ok (.ireturn, 1) := by decide +kernel
theorem dL_season_0 : decode cL_season 0 = .ok (.aload_n 1, 1) := by decide +kernel
theorem dL_season_1 : decode cL_season 1 = .ok (.iconst 0, 1) := by decide +kernel
theorem dL_season_2 : decode cL_season 2 = .ok (.aload_n 0, 1) := by decide +kernel
theorem dL_season_3 : decode cL_season 3 = .ok (.invokevirtual 83, 3) := by decide +kernel
theorem dL_season_6 : decode cL_season 6 = .ok (.i2l, 1) := by decide +kernel
theorem dL_season_7 : decode cL_season 7 = .ok (.lastore, 1) := by decide +kernel
theorem dL_season_8 : decode cL_season 8 = .ok (.goto 6, 3) := by decide +kernel
theorem dL_season_11 : decode cL_season 11 = .ok (.astore_n 2, 1) := by decide +kernel
theorem dL_season_12 : decode cL_season 12 = .ok (.iconst 1, 1) := by decide +kernel
theorem dL_season_13 : decode cL_season 13 = .ok (.ireturn, 1) := by decide +kernel
theorem dL_season_14 : decode cL_season 14 = .ok (.iconst 0, 1) := by decide +kernel
theorem dL_season_15 : decode cL_season 15 = .ok (.ireturn, 1) := by decide +kernel
theorem dL_ofBand_0 : decode cL_ofBand 0 = .ok (.aload_n 3, 1) := by decide +kernel
theorem dL_ofBand_1 : decode cL_ofBand 1 = .ok (.iconst 0, 1) := by decide +kernel
theorem dL_ofBand_2 : decode cL_ofBand 2 = .ok (.aload_n 0, 1) := by decide +kernel
theorem dL_ofBand_3 : decode cL_ofBand 3 = .ok (.iload_n 1, 1) := by decide +kernel
theorem dL_ofBand_4 : decode cL_ofBand 4 = .ok (.iload_n 2, 1) := by decide +kernel
theorem dL_ofBand_5 : decode cL_ofBand 5 = .ok (.invokevirtual 86, 3) := by decide +kernel
theorem dL_ofBand_8 : decode cL_ofBand 8 = .ok (.i2l, 1) := by decide +kernel
theorem dL_ofBand_9 : decode cL_ofBand 9 = .ok (.lastore, 1) := by decide +kernel
theorem dL_ofBand_10 : decode cL_ofBand 10 = .ok (.goto 11, 3) := by decide +kernel
theorem dL_ofBand_13 : decode cL_ofBand 13 = .ok (.astore 4, 2) := by decide +kernel
theorem dL_ofBand_15 : decode cL_ofBand 15 = .ok (.iconst 1, 1) := by decide +kernel
theorem dL_ofBand_16 : decode cL_ofBand 16 = .ok (.ireturn, 1) := by decide +kernel
theorem dL_ofBand_17 : decode cL_ofBand 17 = .ok (.astore 4, 2) := by decide +kernel
theorem dL_ofBand_19 : decode cL_ofBand 19 = .ok (.iconst 2, 1) := by decide +kernel
theorem dL_ofBand_20 : decode cL_ofBand 20 = .ok (.ireturn, 1) := by decide +kernel
theorem dL_ofBand_21 : decode cL_ofBand 21 = .ok (.iconst 0, 1) := by decide +kernel
theorem dL_ofBand_22 : decode cL_ofBand 22 = .ok (.ireturn, 1) := by decide +kernel
theorem dL_law_0 : decode cL_law 0 = .ok (.new 8, 3) := by decide +kernel
theorem dL_law_3 : decode cL_law 3 = .ok (.dup, 1) := by decide +kernel
theorem dL_law_4 : decode cL_law 4 = .ok (.invokespecial 89, 3) := by decide +kernel
theorem dL_law_7 : decode cL_law 7 = .ok (.astore_n 1, 1) := by decide +kernel
theorem dL_law_8 : decode cL_law 8 = .ok (.new 90, 3) := by decide +kernel
theorem dL_law_11 : decode cL_law 11 = .ok (.dup, 1) := by decide +kernel
theorem dL_law_12 : decode cL_law 12 = .ok (.invokespecial 92, 3) := by decide +kernel
theorem dL_law_15 : decode cL_law 15 = .ok (.astore_n 2, 1) := by decide +kernel
theorem dL_law_16 : decode cL_law 16 = .ok (.iconst 1, 1) := by decide +kernel
theorem dL_law_17 : decode cL_law 17 = .ok (.newarray .long, 2) := by decide +kernel
theorem dL_law_19 : decode cL_law 19 = .ok (.astore_n 3, 1) := by decide +kernel
theorem dL_law_20 : decode cL_law 20 = .ok (.iconst 1, 1) := by decide +kernel
theorem dL_law_21 : decode cL_law 21 = .ok (.newarray .double, 2) := by decide +kernel
theorem dL_law_23 : decode cL_law 23 = .ok (.astore 4, 2) := by decide +kernel
theorem dL_law_25 : decode cL_law 25 = .ok (.iconst 0, 1) := by decide +kernel
theorem dL_law_26 : decode cL_law 26 = .ok (.istore 5, 2) := by decide +kernel
theorem dL_law_28 : decode cL_law 28 = .ok (.iload 5, 2) := by decide +kernel
theorem dL_law_30 : decode cL_law 30 = .ok (.aload_n 0, 1) := by decide +kernel
theorem dL_law_31 : decode cL_law 31 = .ok (.arraylength, 1) := by decide +kernel
theorem dL_law_32 : decode cL_law 32 = .ok (.iconst 5, 1) := by decide +kernel
theorem dL_law_33 : decode cL_law 33 = .ok (.isub, 1) := by decide +kernel
theorem dL_law_34 : decode cL_law 34 = .ok (.if_icmp .gt 1705, 3) := by decide +kernel
theorem dL_law_37 : decode cL_law 37 = .ok (.aload_n 0, 1) := by decide +kernel
theorem dL_law_38 : decode cL_law 38 = .ok (.iload 5, 2) := by decide +kernel
theorem dL_law_40 : decode cL_law 40 = .ok (.iaload, 1) := by decide +kernel
theorem dL_law_41 : decode cL_law 41 = .ok (.bipush 31, 2) := by decide +kernel
theorem dL_law_43 : decode cL_law 43 = .ok (.iand, 1) := by decide +kernel
theorem dL_law_44 : decode cL_law 44 = .ok (.tableswitch 1689 0 24 #[116, 172, 264, 348, 428, 496, 564, 632, 700, 744, 758, 838, 906, 997, 1077, 1145, 1158, 1171, 1261, 1341, 1397, 1453, 1533, 1577, 1621], 116) := by decide +kernel
theorem dL_law_160 : decode cL_law 160 = .ok (.aload_n 1, 1) := by decide +kernel
theorem dL_law_161 : decode cL_law 161 = .ok (.aload_n 0, 1) := by decide +kernel
theorem dL_law_162 : decode cL_law 162 = .ok (.iload 5, 2) := by decide +kernel
theorem dL_law_164 : decode cL_law 164 = .ok (.iconst 1, 1) := by decide +kernel
theorem dL_law_165 : decode cL_law 165 = .ok (.iadd, 1) := by decide +kernel
theorem dL_law_166 : decode cL_law 166 = .ok (.iaload, 1) := by decide +kernel
theorem dL_law_167 : decode cL_law 167 = .ok (.aload_n 3, 1) := by decide +kernel
theorem dL_law_168 : decode cL_law 168 = .ok (.invokestatic 93, 3) := by decide +kernel
theorem dL_law_171 : decode cL_law 171 = .ok (.istore 6, 2) := by decide +kernel
theorem dL_law_173 : decode cL_law 173 = .ok (.aload_n 2, 1) := by decide +kernel
theorem dL_law_174 : decode cL_law 174 = .ok (.aload_n 0, 1) := by decide +kernel
theorem dL_law_175 : decode cL_law 175 = .ok (.iload 5, 2) := by decide +kernel
theorem dL_law_177 : decode cL_law 177 = .ok (.iconst 1, 1) := by decide +kernel
theorem dL_law_178 : decode cL_law 178 = .ok (.iadd, 1) := by decide +kernel
theorem dL_law_179 : decode cL_law 179 = .ok (.iaload, 1) := by decide +kernel
theorem dL_law_180 : decode cL_law 180 = .ok (.invokevirtual 98, 3) := by decide +kernel
theorem dL_law_183 : decode cL_law 183 = .ok (.istore 7, 2) := by decide +kernel
theorem dL_law_185 : decode cL_law 185 = .ok (.aload_n 2, 1) := by decide +kernel
theorem dL_law_186 : decode cL_law 186 = .ok (.invokevirtual 99, 3) := by decide +kernel
theorem dL_law_189 : decode cL_law 189 = .ok (.iload 6, 2) := by decide +kernel
theorem dL_law_191 : decode cL_law 191 = .ok (.if_icmp .eq 5, 3) := by decide +kernel
theorem dL_law_194 : decode cL_law 194 = .ok (.iconst 0, 1) := by decide +kernel
theorem dL_law_195 : decode cL_law 195 = .ok (.ireturn, 1) := by decide +kernel
theorem dL_law_196 : decode cL_law 196 = .ok (.iload 6, 2) := by decide +kernel
theorem dL_law_198 : decode cL_law 198 = .ok (.ifCond .ne 15, 3) := by decide +kernel
theorem dL_law_201 : decode cL_law 201 = .ok (.aload_n 3, 1) := by decide +kernel
theorem dL_law_202 : decode cL_law 202 = .ok (.iconst 0, 1) := by decide +kernel
theorem dL_law_203 : decode cL_law 203 = .ok (.laload, 1) := by decide +kernel
theorem dL_law_204 : decode cL_law 204 = .ok (.iload 7, 2) := by decide +kernel
theorem dL_law_206 : decode cL_law 206 = .ok (.i2l, 1) := by decide +kernel
theorem dL_law_207 : decode cL_law 207 = .ok (.lcmp, 1) := by decide +kernel
theorem dL_law_208 : decode cL_law 208 = .ok (.ifCond .eq 5, 3) := by decide +kernel
theorem dL_law_211 : decode cL_law 211 = .ok (.iconst 0, 1) := by decide +kernel
theorem dL_law_212 : decode cL_law 212 = .ok (.ireturn, 1) := by decide +kernel
theorem dL_law_213 : decode cL_law 213 = .ok (.goto 1520, 3) := by decide +kernel
theorem dL_law_216 : decode cL_law 216 = .ok (.aload_n 1, 1) := by decide +kernel
theorem dL_law_217 : decode cL_law 217 = .ok (.aload_n 0, 1) := by decide +kernel
theorem dL_law_218 : decode cL_law 218 = .ok (.iload 5, 2) := by decide +kernel
theorem dL_law_220 : decode cL_law 220 = .ok (.iconst 1, 1) := by decide +kernel
theorem dL_law_221 : decode cL_law 221 = .ok (.iadd, 1) := by decide +kernel
theorem dL_law_222 : decode cL_law 222 = .ok (.iaload, 1) := by decide +kernel
theorem dL_law_223 : decode cL_law 223 = .ok (.aload_n 0, 1) := by decide +kernel
theorem dL_law_224 : decode cL_law 224 = .ok (.iload 5, 2) := by decide +kernel
theorem dL_law_226 : decode cL_law 226 = .ok (.iconst 2, 1) := by decide +kernel
theorem dL_law_227 : decode cL_law 227 = .ok (.iadd, 1) := by decide +kernel
theorem dL_law_228 : decode cL_law 228 = .ok (.iaload, 1) := by decide +kernel
theorem dL_law_229 : decode cL_law 229 = .ok (.aload_n 0, 1) := by decide +kernel
theorem dL_law_230 : decode cL_law 230 = .ok (.iload 5, 2) := by decide +kernel
theorem dL_law_232 : decode cL_law 232 = .ok (.iconst 3, 1) := by decide +kernel
theorem dL_law_233 : decode cL_law 233 = .ok (.iadd, 1) := by decide +kernel
theorem dL_law_234 : decode cL_law 234 = .ok (.iaload, 1) := by decide +kernel
theorem dL_law_235 : decode cL_law 235 = .ok (.aload_n 0, 1) := by decide +kernel
theorem dL_law_236 : decode cL_law 236 = .ok (.iload 5, 2) := by decide +kernel
theorem dL_law_238 : decode cL_law 238 = .ok (.iconst 4, 1) := by decide +kernel
theorem dL_law_239 : decode cL_law 239 = .ok (.iadd, 1) := by decide +kernel
theorem dL_law_240 : decode cL_law 240 = .ok (.iaload, 1) := by decide +kernel
theorem dL_law_241 : decode cL_law 241 = .ok (.aload_n 3, 1) := by decide +kernel
theorem dL_law_242 : decode cL_law 242 = .ok (.invokestatic 102, 3) := by decide +kernel
theorem dL_law_245 : decode cL_law 245 = .ok (.istore 6, 2) := by decide +kernel
theorem dL_law_247 : decode cL_law 247 = .ok (.aload_n 2, 1) := by decide +kernel
theorem dL_law_248 : decode cL_law 248 = .ok (.aload_n 0, 1) := by decide +kernel
theorem dL_law_249 : decode cL_law 249 = .ok (.iload 5, 2) := by decide +kernel
theorem dL_law_251 : decode cL_law 251 = .ok (.iconst 1, 1) := by decide +kernel
theorem dL_law_252 : decode cL_law 252 = .ok (.iadd, 1) := by decide +kernel
theorem dL_law_253 : decode cL_law 253 = .ok (.iaload, 1) := by decide +kernel
theorem dL_law_254 : decode cL_law 254 = .ok (.aload_n 0, 1) := by decide +kernel
theorem dL_law_255 : decode cL_law 255 = .ok (.iload 5, 2) := by decide +kernel
theorem dL_law_257 : decode cL_law 257 = .ok (.iconst 2, 1) := by decide +kernel
theorem dL_law_258 : decode cL_law 258 = .ok (.iadd, 1) := by decide +kernel
theorem dL_law_259 : decode cL_law 259 = .ok (.iaload, 1) := by decide +kernel
theorem dL_law_260 : decode cL_law 260 = .ok (.aload_n 0, 1) := by decide +kernel
theorem dL_law_261 : decode cL_law 261 = .ok (.iload 5, 2) := by decide +kernel
theorem dL_law_263 : decode cL_law 263 = .ok (.iconst 3, 1) := by decide +kernel
theorem dL_law_264 : decode cL_law 264 = .ok (.iadd, 1) := by decide +kernel
theorem dL_law_265 : decode cL_law 265 = .ok (.iaload, 1) := by decide +kernel
theorem dL_law_266 : decode cL_law 266 = .ok (.aload_n 0, 1) := by decide +kernel
theorem dL_law_267 : decode cL_law 267 = .ok (.iload 5, 2) := by decide +kernel
theorem dL_law_269 : decode cL_law 269 = .ok (.iconst 4, 1) := by decide +kernel
theorem dL_law_270 : decode cL_law 270 = .ok (.iadd, 1) := by decide +kernel
theorem dL_law_271 : decode cL_law 271 = .ok (.iaload, 1) := by decide +kernel
theorem dL_law_272 : decode cL_law 272 = .ok (.invokevirtual 105, 3) := by decide +kernel
theorem dL_law_275 : decode cL_law 275 = .ok (.istore 7, 2) := by decide +kernel
theorem dL_law_277 : decode cL_law 277 = .ok (.aload_n 2, 1) := by decide +kernel
theorem dL_law_278 : decode cL_law 278 = .ok (.invokevirtual 99, 3) := by decide +kernel
theorem dL_law_281 : decode cL_law 281 = .ok (.iload 6, 2) := by decide +kernel
theorem dL_law_283 : decode cL_law 283 = .ok (.if_icmp .eq 5, 3) := by decide +kernel
theorem dL_law_286 : decode cL_law 286 = .ok (.iconst 0, 1) := by decide +kernel
theorem dL_law_287 : decode cL_law 287 = .ok (.ireturn, 1) := by decide +kernel
theorem dL_law_288 : decode cL_law 288 = .ok (.iload 6, 2) := by decide +kernel
theorem dL_law_290 : decode cL_law 290 = .ok (.ifCond .ne 15, 3) := by decide +kernel
theorem dL_law_293 : decode cL_law 293 = .ok (.aload_n 3, 1) := by decide +kernel
theorem dL_law_294 : decode cL_law 294 = .ok (.iconst 0, 1) := by decide +kernel
theorem dL_law_295 : decode cL_law 295 = .ok (.laload, 1) := by decide +kernel
theorem dL_law_296 : decode cL_law 296 = .ok (.iload 7, 2) := by decide +kernel
theorem dL_law_298 : decode cL_law 298 = .ok (.i2l, 1) := by decide +kernel
theorem dL_law_299 : decode cL_law 299 = .ok (.lcmp, 1) := by decide +kernel
theorem dL_law_300 : decode cL_law 300 = .ok (.ifCond .eq 5, 3) := by decide +kernel
theorem dL_law_303 : decode cL_law 303 = .ok (.iconst 0, 1) := by decide +kernel
theorem dL_law_304 : decode cL_law 304 = .ok (.ireturn, 1) := by decide +kernel
theorem dL_law_305 : decode cL_law 305 = .ok (.goto 1428, 3) := by decide +kernel
theorem dL_law_308 : decode cL_law 308 = .ok (.aload_n 1, 1) := by decide +kernel
theorem dL_law_309 : decode cL_law 309 = .ok (.aload_n 0, 1) := by decide +kernel
theorem dL_law_310 : decode cL_law 310 = .ok (.iload 5, 2) := by decide +kernel
theorem dL_law_312 : decode cL_law 312 = .ok (.iconst 1, 1) := by decide +kernel
theorem dL_law_313 : decode cL_law 313 = .ok (.iadd, 1) := by decide +kernel
theorem dL_law_314 : decode cL_law 314 = .ok (.iaload, 1) := by decide +kernel
theorem dL_law_315 : decode cL_law 315 = .ok (.aload_n 0, 1) := by decide +kernel
theorem dL_law_316 : decode cL_law 316 = .ok (.iload 5, 2) := by decide +kernel
theorem dL_law_318 : decode cL_law 318 = .ok (.iconst 2, 1) := by decide +kernel
theorem dL_law_319 : decode cL_law 319 = .ok (.iadd, 1) := by decide +kernel
theorem dL_law_320 : decode cL_law 320 = .ok (.iaload, 1) := by decide +kernel
theorem dL_law_321 : decode cL_law 321 = .ok (.ifCond .eq 7, 3) := by decide +kernel
theorem dL_law_324 : decode cL_law 324 = .ok (.iconst 1, 1) := by decide +kernel
theorem dL_law_325 : decode cL_law 325 = .ok (.goto 4, 3) := by decide +kernel
theorem dL_law_328 : decode cL_law 328 = .ok (.iconst 0, 1) := by decide +kernel
theorem dL_law_329 : decode cL_law 329 = .ok (.aload_n 3, 1) := by decide +kernel
theorem dL_law_330 : decode cL_law 330 = .ok (.invokestatic 106, 3) := by decide +kernel
theorem dL_law_333 : decode cL_law 333 = .ok (.istore 6, 2) := by decide +kernel
theorem dL_law_335 : decode cL_law 335 = .ok (.aload_n 2, 1) := by decide +kernel
theorem dL_law_336 : decode cL_law 336 = .ok (.aload_n 0, 1) := by decide +kernel
theorem dL_law_337 : decode cL_law 337 = .ok (.iload 5, 2) := by decide +kernel
theorem dL_law_339 : decode cL_law 339 = .ok (.iconst 1, 1) := by decide +kernel
theorem dL_law_340 : decode cL_law 340 = .ok (.iadd, 1) := by decide +kernel
theorem dL_law_341 : decode cL_law 341 = .ok (.iaload, 1) := by decide +kernel
theorem dL_law_342 : decode cL_law 342 = .ok (.aload_n 0, 1) := by decide +kernel
theorem dL_law_343 : decode cL_law 343 = .ok (.iload 5, 2) := by decide +kernel
theorem dL_law_345 : decode cL_law 345 = .ok (.iconst 2, 1) := by decide +kernel
theorem dL_law_346 : decode cL_law 346 = .ok (.iadd, 1) := by decide +kernel
theorem dL_law_347 : decode cL_law 347 = .ok (.iaload, 1) := by decide +kernel
theorem dL_law_348 : decode cL_law 348 = .ok (.ifCond .eq 7, 3) := by decide +kernel
theorem dL_law_351 : decode cL_law 351 = .ok (.iconst 1, 1) := by decide +kernel
theorem dL_law_352 : decode cL_law 352 = .ok (.goto 4, 3) := by decide +kernel
theorem dL_law_355 : decode cL_law 355 = .ok (.iconst 0, 1) := by decide +kernel
theorem dL_law_356 : decode cL_law 356 = .ok (.invokevirtual 109, 3) := by decide +kernel
theorem dL_law_359 : decode cL_law 359 = .ok (.istore 7, 2) := by decide +kernel
theorem dL_law_361 : decode cL_law 361 = .ok (.aload_n 2, 1) := by decide +kernel
theorem dL_law_362 : decode cL_law 362 = .ok (.invokevirtual 99, 3) := by decide +kernel
theorem dL_law_365 : decode cL_law 365 = .ok (.iload 6, 2) := by decide +kernel
theorem dL_law_367 : decode cL_law 367 = .ok (.if_icmp .eq 5, 3) := by decide +kernel
theorem dL_law_370 : decode cL_law 370 = .ok (.iconst 0, 1) := by decide +kernel
theorem dL_law_371 : decode cL_law 371 = .ok (.ireturn, 1) := by decide +kernel
theorem dL_law_372 : decode cL_law 372 = .ok (.iload 6, 2) := by decide +kernel
theorem dL_law_374 : decode cL_law 374 = .ok (.ifCond .ne 15, 3) := by decide +kernel
theorem dL_law_377 : decode cL_law 377 = .ok (.aload_n 3, 1) := by decide +kernel
theorem dL_law_378 : decode cL_law 378 = .ok (.iconst 0, 1) := by decide +kernel
theorem dL_law_379 : decode cL_law 379 = .ok (.laload, 1) := by decide +kernel
theorem dL_law_380 : decode cL_law 380 = .ok (.iload 7, 2) := by decide +kernel
theorem dL_law_382 : decode cL_law 382 = .ok (.i2l, 1) := by decide +kernel
theorem dL_law_383 : decode cL_law 383 = .ok (.lcmp, 1) := by decide +kernel
theorem dL_law_384 : decode cL_law 384 = .ok (.ifCond .eq 5, 3) := by decide +kernel
theorem dL_law_387 : decode cL_law 387 = .ok (.iconst 0, 1) := by decide +kernel
theorem dL_law_388 : decode cL_law 388 = .ok (.ireturn, 1) := by decide +kernel
theorem dL_law_389 : decode cL_law 389 = .ok (.goto 1344, 3) := by decide +kernel
theorem dL_law_392 : decode cL_law 392 = .ok (.aload_n 1, 1) := by decide +kernel
theorem dL_law_393 : decode cL_law 393 = .ok (.aload_n 0, 1) := by decide +kernel
theorem dL_law_394 : decode cL_law 394 = .ok (.iload 5, 2) := by decide +kernel
theorem dL_law_396 : decode cL_law 396 = .ok (.iconst 1, 1) := by decide +kernel
theorem dL_law_397 : decode cL_law 397 = .ok (.iadd, 1) := by decide +kernel
theorem dL_law_398 : decode cL_law 398 = .ok (.iaload, 1) := by decide +kernel
theorem dL_law_399 : decode cL_law 399 = .ok (.aload_n 0, 1) := by decide +kernel
theorem dL_law_400 : decode cL_law 400 = .ok (.iload 5, 2) := by decide +kernel
theorem dL_law_402 : decode cL_law 402 = .ok (.iconst 2, 1) := by decide +kernel
theorem dL_law_403 : decode cL_law 403 = .ok (.iadd, 1) := by decide +kernel
theorem dL_law_404 : decode cL_law 404 = .ok (.iaload, 1) := by decide +kernel
theorem dL_law_405 : decode cL_law 405 = .ok (.aload_n 0, 1) := by decide +kernel
theorem dL_law_406 : decode cL_law 406 = .ok (.iload 5, 2) := by decide +kernel
theorem dL_law_408 : decode cL_law 408 = .ok (.iconst 3, 1) := by decide +kernel
theorem dL_law_409 : decode cL_law 409 = .ok (.iadd, 1) := by decide +kernel
theorem dL_law_410 : decode cL_law 410 = .ok (.iaload, 1) := by decide +kernel
theorem dL_law_411 : decode cL_law 411 = .ok (.aload_n 3, 1) := by decide +kernel
theorem dL_law_412 : decode cL_law 412 = .ok (.invokestatic 110, 3) := by decide +kernel
theorem dL_law_415 : decode cL_law 415 = .ok (.istore 6, 2) := by decide +kernel
theorem dL_law_417 : decode cL_law 417 = .ok (.aload_n 2, 1) := by decide +kernel
theorem dL_law_418 : decode cL_law 418 = .ok (.aload_n 0, 1) := by decide +kernel
theorem dL_law_419 : decode cL_law 419 = .ok (.iload 5, 2) := by decide +kernel
theorem dL_law_421 : decode cL_law 421 = .ok (.iconst 1, 1) := by decide +kernel
theorem dL_law_422 : decode cL_law 422 = .ok (.iadd, 1) := by decide +kernel
theorem dL_law_423 : decode cL_law 423 = .ok (.iaload, 1) := by decide +kernel
theorem dL_law_424 : decode cL_law 424 = .ok (.aload_n 0, 1) := by decide +kernel
theorem dL_law_425 : decode cL_law 425 = .ok (.iload 5, 2) := by decide +kernel
theorem dL_law_427 : decode cL_law 427 = .ok (.iconst 2, 1) := by decide +kernel
theorem dL_law_428 : decode cL_law 428 = .ok (.iadd, 1) := by decide +kernel
theorem dL_law_429 : decode cL_law 429 = .ok (.iaload, 1) := by decide +kernel
theorem dL_law_430 : decode cL_law 430 = .ok (.aload_n 0, 1) := by decide +kernel
theorem dL_law_431 : decode cL_law 431 = .ok (.iload 5, 2) := by decide +kernel
theorem dL_law_433 : decode cL_law 433 = .ok (.iconst 3, 1) := by decide +kernel
theorem dL_law_434 : decode cL_law 434 = .ok (.iadd, 1) := by decide +kernel
theorem dL_law_435 : decode cL_law 435 = .ok (.iaload, 1) := by decide +kernel
theorem dL_law_436 : decode cL_law 436 = .ok (.invokevirtual 113, 3) := by decide +kernel
theorem dL_law_439 : decode cL_law 439 = .ok (.istore 7, 2) := by decide +kernel
theorem dL_law_441 : decode cL_law 441 = .ok (.aload_n 2, 1) := by decide +kernel
theorem dL_law_442 : decode cL_law 442 = .ok (.invokevirtual 99, 3) := by decide +kernel
theorem dL_law_445 : decode cL_law 445 = .ok (.iload 6, 2) := by decide +kernel
theorem dL_law_447 : decode cL_law 447 = .ok (.if_icmp .eq 5, 3) := by decide +kernel
theorem dL_law_450 : decode cL_law 450 = .ok (.iconst 0, 1) := by decide +kernel
theorem dL_law_451 : decode cL_law 451 = .ok (.ireturn, 1) := by decide +kernel
theorem dL_law_452 : decode cL_law 452 = .ok (.iload 6, 2) := by decide +kernel
theorem dL_law_454 : decode cL_law 454 = .ok (.ifCond .ne 15, 3) := by decide +kernel
theorem dL_law_457 : decode cL_law 457 = .ok (.aload_n 3, 1) := by decide +kernel
theorem dL_law_458 : decode cL_law 458 = .ok (.iconst 0, 1) := by decide +kernel
theorem dL_law_459 : decode cL_law 459 = .ok (.laload, 1) := by decide +kernel
theorem dL_law_460 : decode cL_law 460 = .ok (.iload 7, 2) := by decide +kernel
theorem dL_law_462 : decode cL_law 462 = .ok (.i2l, 1) := by decide +kernel
theorem dL_law_463 : decode cL_law 463 = .ok (.lcmp, 1) := by decide +kernel
theorem dL_law_464 : decode cL_law 464 = .ok (.ifCond .eq 5, 3) := by decide +kernel
theorem dL_law_467 : decode cL_law 467 = .ok (.iconst 0, 1) := by decide +kernel
theorem dL_law_468 : decode cL_law 468 = .ok (.ireturn, 1) := by decide +kernel
theorem dL_law_469 : decode cL_law 469 = .ok (.goto 1264, 3) := by decide +kernel
theorem dL_law_472 : decode cL_law 472 = .ok (.aload_n 1, 1) := by decide +kernel
theorem dL_law_473 : decode cL_law 473 = .ok (.aload_n 0, 1) := by decide +kernel
theorem dL_law_474 : decode cL_law 474 = .ok (.iload 5, 2) := by decide +kernel
theorem dL_law_476 : decode cL_law 476 = .ok (.iconst 1, 1) := by decide +kernel
theorem dL_law_477 : decode cL_law 477 = .ok (.iadd, 1) := by decide +kernel
theorem dL_law_478 : decode cL_law 478 = .ok (.iaload, 1) := by decide +kernel
theorem dL_law_479 : decode cL_law 479 = .ok (.aload_n 0, 1) := by decide +kernel
theorem dL_law_480 : decode cL_law 480 = .ok (.iload 5, 2) := by decide +kernel
theorem dL_law_482 : decode cL_law 482 = .ok (.iconst 2, 1) := by decide +kernel
theorem dL_law_483 : decode cL_law 483 = .ok (.iadd, 1) := by decide +kernel
theorem dL_law_484 : decode cL_law 484 = .ok (.iaload, 1) := by decide +kernel
theorem dL_law_485 : decode cL_law 485 = .ok (.aload_n 3, 1) := by decide +kernel
theorem dL_law_486 : decode cL_law 486 = .ok (.invokestatic 114, 3) := by decide +kernel
theorem dL_law_489 : decode cL_law 489 = .ok (.istore 6, 2) := by decide +kernel
theorem dL_law_491 : decode cL_law 491 = .ok (.aload_n 2, 1) := by decide +kernel
theorem dL_law_492 : decode cL_law 492 = .ok (.aload_n 0, 1) := by decide +kernel
theorem dL_law_493 : decode cL_law 493 = .ok (.iload 5, 2) := by decide +kernel
theorem dL_law_495 : decode cL_law 495 = .ok (.iconst 1, 1) := by decide +kernel
theorem dL_law_496 : decode cL_law 496 = .ok (.iadd, 1) := by decide +kernel
theorem dL_law_497 : decode cL_law 497 = .ok (.iaload, 1) := by decide +kernel
theorem dL_law_498 : decode cL_law 498 = .ok (.aload_n 0, 1) := by decide +kernel
theorem dL_law_499 : decode cL_law 499 = .ok (.iload 5, 2) := by decide +kernel
theorem dL_law_501 : decode cL_law 501 = .ok (.iconst 2, 1) := by decide +kernel
theorem dL_law_502 : decode cL_law 502 = .ok (.iadd, 1) := by decide +kernel
theorem dL_law_503 : decode cL_law 503 = .ok (.iaload, 1) := by decide +kernel
theorem dL_law_504 : decode cL_law 504 = .ok (.invokevirtual 117, 3) := by decide +kernel
theorem dL_law_507 : decode cL_law 507 = .ok (.istore 7, 2) := by decide +kernel
theorem dL_law_509 : decode cL_law 509 = .ok (.aload_n 2, 1) := by decide +kernel
theorem dL_law_510 : decode cL_law 510 = .ok (.invokevirtual 99, 3) := by decide +kernel
theorem dL_law_513 : decode cL_law 513 = .ok (.iload 6, 2) := by decide +kernel
theorem dL_law_515 : decode cL_law 515 = .ok (.if_icmp .eq 5, 3) := by decide +kernel
theorem dL_law_518 : decode cL_law 518 = .ok (.iconst 0, 1) := by decide +kernel
theorem dL_law_519 : decode cL_law 519 = .ok (.ireturn, 1) := by decide +kernel
theorem dL_law_520 : decode cL_law 520 = .ok (.iload 6, 2) := by decide +kernel
theorem dL_law_522 : decode cL_law 522 = .ok (.ifCond .ne 15, 3) := by decide +kernel
theorem dL_law_525 : decode cL_law 525 = .ok (.aload_n 3, 1) := by decide +kernel
theorem dL_law_526 : decode cL_law 526 = .ok (.iconst 0, 1) := by decide +kernel
theorem dL_law_527 : decode cL_law 527 = .ok (.laload, 1) := by decide +kernel
theorem dL_law_528 : decode cL_law 528 = .ok (.iload 7, 2) := by decide +kernel
theorem dL_law_530 : decode cL_law 530 = .ok (.i2l, 1) := by decide +kernel
theorem dL_law_531 : decode cL_law 531 = .ok (.lcmp, 1) := by decide +kernel
theorem dL_law_532 : decode cL_law 532 = .ok (.ifCond .eq 5, 3) := by decide +kernel
theorem dL_law_535 : decode cL_law 535 = .ok (.iconst 0, 1) := by decide +kernel
theorem dL_law_536 : decode cL_law 536 = .ok (.ireturn, 1) := by decide +kernel
theorem dL_law_537 : decode cL_law 537 = .ok (.goto 1196, 3) := by decide +kernel
theorem dL_law_540 : decode cL_law 540 = .ok (.aload_n 1, 1) := by decide +kernel
theorem dL_law_541 : decode cL_law 541 = .ok (.aload_n 0, 1) := by decide +kernel
theorem dL_law_542 : decode cL_law 542 = .ok (.iload 5, 2) := by decide +kernel
theorem dL_law_544 : decode cL_law 544 = .ok (.iconst 1, 1) := by decide +kernel
theorem dL_law_545 : decode cL_law 545 = .ok (.iadd, 1) := by decide +kernel
theorem dL_law_546 : decode cL_law 546 = .ok (.iaload, 1) := by decide +kernel
theorem dL_law_547 : decode cL_law 547 = .ok (.aload_n 0, 1) := by decide +kernel
theorem dL_law_548 : decode cL_law 548 = .ok (.iload 5, 2) := by decide +kernel
theorem dL_law_550 : decode cL_law 550 = .ok (.iconst 2, 1) := by decide +kernel
theorem dL_law_551 : decode cL_law 551 = .ok (.iadd, 1) := by decide +kernel
theorem dL_law_552 : decode cL_law 552 = .ok (.iaload, 1) := by decide +kernel
theorem dL_law_553 : decode cL_law 553 = .ok (.aload_n 3, 1) := by decide +kernel
theorem dL_law_554 : decode cL_law 554 = .ok (.invokestatic 118, 3) := by decide +kernel
theorem dL_law_557 : decode cL_law 557 = .ok (.istore 6, 2) := by decide +kernel
theorem dL_law_559 : decode cL_law 559 = .ok (.aload_n 2, 1) := by decide +kernel
theorem dL_law_560 : decode cL_law 560 = .ok (.aload_n 0, 1) := by decide +kernel
theorem dL_law_561 : decode cL_law 561 = .ok (.iload 5, 2) := by decide +kernel
theorem dL_law_563 : decode cL_law 563 = .ok (.iconst 1, 1) := by decide +kernel
theorem dL_law_564 : decode cL_law 564 = .ok (.iadd, 1) := by decide +kernel
theorem dL_law_565 : decode cL_law 565 = .ok (.iaload, 1) := by decide +kernel
theorem dL_law_566 : decode cL_law 566 = .ok (.aload_n 0, 1) := by decide +kernel
theorem dL_law_567 : decode cL_law 567 = .ok (.iload 5, 2) := by decide +kernel
theorem dL_law_569 : decode cL_law 569 = .ok (.iconst 2, 1) := by decide +kernel
theorem dL_law_570 : decode cL_law 570 = .ok (.iadd, 1) := by decide +kernel
theorem dL_law_571 : decode cL_law 571 = .ok (.iaload, 1) := by decide +kernel
theorem dL_law_572 : decode cL_law 572 = .ok (.invokevirtual 120, 3) := by decide +kernel
theorem dL_law_575 : decode cL_law 575 = .ok (.istore 7, 2) := by decide +kernel
theorem dL_law_577 : decode cL_law 577 = .ok (.aload_n 2, 1) := by decide +kernel
theorem dL_law_578 : decode cL_law 578 = .ok (.invokevirtual 99, 3) := by decide +kernel
theorem dL_law_581 : decode cL_law 581 = .ok (.iload 6, 2) := by decide +kernel
theorem dL_law_583 : decode cL_law 583 = .ok (.if_icmp .eq 5, 3) := by decide +kernel
theorem dL_law_586 : decode cL_law 586 = .ok (.iconst 0, 1) := by decide +kernel
theorem dL_law_587 : decode cL_law 587 = .ok (.ireturn, 1) := by decide +kernel
theorem dL_law_588 : decode cL_law 588 = .ok (.iload 6, 2) := by decide +kernel
theorem dL_law_590 : decode cL_law 590 = .ok (.ifCond .ne 15, 3) := by decide +kernel
theorem dL_law_593 : decode cL_law 593 = .ok (.aload_n 3, 1) := by decide +kernel
theorem dL_law_594 : decode cL_law 594 = .ok (.iconst 0, 1) := by decide +kernel
theorem dL_law_595 : decode cL_law 595 = .ok (.laload, 1) := by decide +kernel
theorem dL_law_596 : decode cL_law 596 = .ok (.iload 7, 2) := by decide +kernel
theorem dL_law_598 : decode cL_law 598 = .ok (.i2l, 1) := by decide +kernel
theorem dL_law_599 : decode cL_law 599 = .ok (.lcmp, 1) := by decide +kernel
theorem dL_law_600 : decode cL_law 600 = .ok (.ifCond .eq 5, 3) := by decide +kernel
theorem dL_law_603 : decode cL_law 603 = .ok (.iconst 0, 1) := by decide +kernel
theorem dL_law_604 : decode cL_law 604 = .ok (.ireturn, 1) := by decide +kernel
theorem dL_law_605 : decode cL_law 605 = .ok (.goto 1128, 3) := by decide +kernel
theorem dL_law_608 : decode cL_law 608 = .ok (.aload_n 1, 1) := by decide +kernel
theorem dL_law_609 : decode cL_law 609 = .ok (.aload_n 0, 1) := by decide +kernel
theorem dL_law_610 : decode cL_law 610 = .ok (.iload 5, 2) := by decide +kernel
theorem dL_law_612 : decode cL_law 612 = .ok (.iconst 1, 1) := by decide +kernel
theorem dL_law_613 : decode cL_law 613 = .ok (.iadd, 1) := by decide +kernel
theorem dL_law_614 : decode cL_law 614 = .ok (.iaload, 1) := by decide +kernel
theorem dL_law_615 : decode cL_law 615 = .ok (.aload_n 0, 1) := by decide +kernel
theorem dL_law_616 : decode cL_law 616 = .ok (.iload 5, 2) := by decide +kernel
theorem dL_law_618 : decode cL_law 618 = .ok (.iconst 2, 1) := by decide +kernel
theorem dL_law_619 : decode cL_law 619 = .ok (.iadd, 1) := by decide +kernel
theorem dL_law_620 : decode cL_law 620 = .ok (.iaload, 1) := by decide +kernel
theorem dL_law_621 : decode cL_law 621 = .ok (.aload_n 3, 1) := by decide +kernel
theorem dL_law_622 : decode cL_law 622 = .ok (.invokestatic 121, 3) := by decide +kernel
theorem dL_law_625 : decode cL_law 625 = .ok (.istore 6, 2) := by decide +kernel
theorem dL_law_627 : decode cL_law 627 = .ok (.aload_n 2, 1) := by decide +kernel
theorem dL_law_628 : decode cL_law 628 = .ok (.aload_n 0, 1) := by decide +kernel
theorem dL_law_629 : decode cL_law 629 = .ok (.iload 5, 2) := by decide +kernel
theorem dL_law_631 : decode cL_law 631 = .ok (.iconst 1, 1) := by decide +kernel
theorem dL_law_632 : decode cL_law 632 = .ok (.iadd, 1) := by decide +kernel
theorem dL_law_633 : decode cL_law 633 = .ok (.iaload, 1) := by decide +kernel
theorem dL_law_634 : decode cL_law 634 = .ok (.aload_n 0, 1) := by decide +kernel
theorem dL_law_635 : decode cL_law 635 = .ok (.iload 5, 2) := by decide +kernel
theorem dL_law_637 : decode cL_law 637 = .ok (.iconst 2, 1) := by decide +kernel
theorem dL_law_638 : decode cL_law 638 = .ok (.iadd, 1) := by decide +kernel
theorem dL_law_639 : decode cL_law 639 = .ok (.iaload, 1) := by decide +kernel
theorem dL_law_640 : decode cL_law 640 = .ok (.invokevirtual 123, 3) := by decide +kernel
theorem dL_law_643 : decode cL_law 643 = .ok (.istore 7, 2) := by decide +kernel
theorem dL_law_645 : decode cL_law 645 = .ok (.aload_n 2, 1) := by decide +kernel
theorem dL_law_646 : decode cL_law 646 = .ok (.invokevirtual 99, 3) := by decide +kernel
theorem dL_law_649 : decode cL_law 649 = .ok (.iload 6, 2) := by decide +kernel
theorem dL_law_651 : decode cL_law 651 = .ok (.if_icmp .eq 5, 3) := by decide +kernel
theorem dL_law_654 : decode cL_law 654 = .ok (.iconst 0, 1) := by decide +kernel
theorem dL_law_655 : decode cL_law 655 = .ok (.ireturn, 1) := by decide +kernel
theorem dL_law_656 : decode cL_law 656 = .ok (.iload 6, 2) := by decide +kernel
theorem dL_law_658 : decode cL_law 658 = .ok (.ifCond .ne 15, 3) := by decide +kernel
theorem dL_law_661 : decode cL_law 661 = .ok (.aload_n 3, 1) := by decide +kernel
theorem dL_law_662 : decode cL_law 662 = .ok (.iconst 0, 1) := by decide +kernel
theorem dL_law_663 : decode cL_law 663 = .ok (.laload, 1) := by decide +kernel
theorem dL_law_664 : decode cL_law 664 = .ok (.iload 7, 2) := by decide +kernel
theorem dL_law_666 : decode cL_law 666 = .ok (.i2l, 1) := by decide +kernel
theorem dL_law_667 : decode cL_law 667 = .ok (.lcmp, 1) := by decide +kernel
theorem dL_law_668 : decode cL_law 668 = .ok (.ifCond .eq 5, 3) := by decide +kernel
theorem dL_law_671 : decode cL_law 671 = .ok (.iconst 0, 1) := by decide +kernel
theorem dL_law_672 : decode cL_law 672 = .ok (.ireturn, 1) := by decide +kernel
theorem dL_law_673 : decode cL_law 673 = .ok (.goto 1060, 3) := by decide +kernel
theorem dL_law_676 : decode cL_law 676 = .ok (.aload_n 1, 1) := by decide +kernel
theorem dL_law_677 : decode cL_law 677 = .ok (.aload_n 0, 1) := by decide +kernel
theorem dL_law_678 : decode cL_law 678 = .ok (.iload 5, 2) := by decide +kernel
theorem dL_law_680 : decode cL_law 680 = .ok (.iconst 1, 1) := by decide +kernel
theorem dL_law_681 : decode cL_law 681 = .ok (.iadd, 1) := by decide +kernel
theorem dL_law_682 : decode cL_law 682 = .ok (.iaload, 1) := by decide +kernel
theorem dL_law_683 : decode cL_law 683 = .ok (.aload_n 0, 1) := by decide +kernel
theorem dL_law_684 : decode cL_law 684 = .ok (.iload 5, 2) := by decide +kernel
theorem dL_law_686 : decode cL_law 686 = .ok (.iconst 2, 1) := by decide +kernel
theorem dL_law_687 : decode cL_law 687 = .ok (.iadd, 1) := by decide +kernel
theorem dL_law_688 : decode cL_law 688 = .ok (.iaload, 1) := by decide +kernel
theorem dL_law_689 : decode cL_law 689 = .ok (.aload_n 3, 1) := by decide +kernel
theorem dL_law_690 : decode cL_law 690 = .ok (.invokestatic 124, 3) := by decide +kernel
theorem dL_law_693 : decode cL_law 693 = .ok (.istore 6, 2) := by decide +kernel
theorem dL_law_695 : decode cL_law 695 = .ok (.aload_n 2, 1) := by decide +kernel
theorem dL_law_696 : decode cL_law 696 = .ok (.aload_n 0, 1) := by decide +kernel
theorem dL_law_697 : decode cL_law 697 = .ok (.iload 5, 2) := by decide +kernel
theorem dL_law_699 : decode cL_law 699 = .ok (.iconst 1, 1) := by decide +kernel
theorem dL_law_700 : decode cL_law 700 = .ok (.iadd, 1) := by decide +kernel
theorem dL_law_701 : decode cL_law 701 = .ok (.iaload, 1) := by decide +kernel
theorem dL_law_702 : decode cL_law 702 = .ok (.aload_n 0, 1) := by decide +kernel
theorem dL_law_703 : decode cL_law 703 = .ok (.iload 5, 2) := by decide +kernel
theorem dL_law_705 : decode cL_law 705 = .ok (.iconst 2, 1) := by decide +kernel
theorem dL_law_706 : decode cL_law 706 = .ok (.iadd, 1) := by decide +kernel
theorem dL_law_707 : decode cL_law 707 = .ok (.iaload, 1) := by decide +kernel
theorem dL_law_708 : decode cL_law 708 = .ok (.invokevirtual 126, 3) := by decide +kernel
theorem dL_law_711 : decode cL_law 711 = .ok (.istore 7, 2) := by decide +kernel
theorem dL_law_713 : decode cL_law 713 = .ok (.aload_n 2, 1) := by decide +kernel
theorem dL_law_714 : decode cL_law 714 = .ok (.invokevirtual 99, 3) := by decide +kernel
theorem dL_law_717 : decode cL_law 717 = .ok (.iload 6, 2) := by decide +kernel
theorem dL_law_719 : decode cL_law 719 = .ok (.if_icmp .eq 5, 3) := by decide +kernel
theorem dL_law_722 : decode cL_law 722 = .ok (.iconst 0, 1) := by decide +kernel
theorem dL_law_723 : decode cL_law 723 = .ok (.ireturn, 1) := by decide +kernel
theorem dL_law_724 : decode cL_law 724 = .ok (.iload 6, 2) := by decide +kernel
theorem dL_law_726 : decode cL_law 726 = .ok (.ifCond .ne 15, 3) := by decide +kernel
theorem dL_law_729 : decode cL_law 729 = .ok (.aload_n 3, 1) := by decide +kernel
theorem dL_law_730 : decode cL_law 730 = .ok (.iconst 0, 1) := by decide +kernel
theorem dL_law_731 : decode cL_law 731 = .ok (.laload, 1) := by decide +kernel
theorem dL_law_732 : decode cL_law 732 = .ok (.iload 7, 2) := by decide +kernel
theorem dL_law_734 : decode cL_law 734 = .ok (.i2l, 1) := by decide +kernel
theorem dL_law_735 : decode cL_law 735 = .ok (.lcmp, 1) := by decide +kernel
theorem dL_law_736 : decode cL_law 736 = .ok (.ifCond .eq 5, 3) := by decide +kernel
theorem dL_law_739 : decode cL_law 739 = .ok (.iconst 0, 1) := by decide +kernel
theorem dL_law_740 : decode cL_law 740 = .ok (.ireturn, 1) := by decide +kernel
theorem dL_law_741 : decode cL_law 741 = .ok (.goto 992, 3) := by decide +kernel
theorem dL_law_744 : decode cL_law 744 = .ok (.aload_n 1, 1) := by decide +kernel
theorem dL_law_745 : decode cL_law 745 = .ok (.aload_n 3, 1) := by decide +kernel
theorem dL_law_746 : decode cL_law 746 = .ok (.invokestatic 127, 3) := by decide +kernel
theorem dL_law_749 : decode cL_law 749 = .ok (.istore 6, 2) := by decide +kernel
theorem dL_law_751 : decode cL_law 751 = .ok (.aload_n 2, 1) := by decide +kernel
theorem dL_law_752 : decode cL_law 752 = .ok (.invokevirtual 130, 3) := by decide +kernel
theorem dL_law_755 : decode cL_law 755 = .ok (.istore 7, 2) := by decide +kernel
theorem dL_law_757 : decode cL_law 757 = .ok (.aload_n 2, 1) := by decide +kernel
theorem dL_law_758 : decode cL_law 758 = .ok (.invokevirtual 99, 3) := by decide +kernel
theorem dL_law_761 : decode cL_law 761 = .ok (.iload 6, 2) := by decide +kernel
theorem dL_law_763 : decode cL_law 763 = .ok (.if_icmp .eq 5, 3) := by decide +kernel
theorem dL_law_766 : decode cL_law 766 = .ok (.iconst 0, 1) := by decide +kernel
theorem dL_law_767 : decode cL_law 767 = .ok (.ireturn, 1) := by decide +kernel
theorem dL_law_768 : decode cL_law 768 = .ok (.iload 6, 2) := by decide +kernel
theorem dL_law_770 : decode cL_law 770 = .ok (.ifCond .ne 15, 3) := by decide +kernel
theorem dL_law_773 : decode cL_law 773 = .ok (.aload_n 3, 1) := by decide +kernel
theorem dL_law_774 : decode cL_law 774 = .ok (.iconst 0, 1) := by decide +kernel
theorem dL_law_775 : decode cL_law 775 = .ok (.laload, 1) := by decide +kernel
theorem dL_law_776 : decode cL_law 776 = .ok (.iload 7, 2) := by decide +kernel
theorem dL_law_778 : decode cL_law 778 = .ok (.i2l, 1) := by decide +kernel
theorem dL_law_779 : decode cL_law 779 = .ok (.lcmp, 1) := by decide +kernel
theorem dL_law_780 : decode cL_law 780 = .ok (.ifCond .eq 5, 3) := by decide +kernel
theorem dL_law_783 : decode cL_law 783 = .ok (.iconst 0, 1) := by decide +kernel
theorem dL_law_784 : decode cL_law 784 = .ok (.ireturn, 1) := by decide +kernel
theorem dL_law_785 : decode cL_law 785 = .ok (.goto 948, 3) := by decide +kernel
theorem dL_law_788 : decode cL_law 788 = .ok (.aload_n 1, 1) := by decide +kernel
theorem dL_law_789 : decode cL_law 789 = .ok (.invokevirtual 131, 3) := by decide +kernel
theorem dL_law_792 : decode cL_law 792 = .ok (.aload_n 2, 1) := by decide +kernel
theorem dL_law_793 : decode cL_law 793 = .ok (.invokevirtual 135, 3) := by decide +kernel
theorem dL_law_796 : decode cL_law 796 = .ok (.lcmp, 1) := by decide +kernel
theorem dL_law_797 : decode cL_law 797 = .ok (.ifCond .eq 936, 3) := by decide +kernel
theorem dL_law_800 : decode cL_law 800 = .ok (.iconst 0, 1) := by decide +kernel
theorem dL_law_801 : decode cL_law 801 = .ok (.ireturn, 1) := by decide +kernel
theorem dL_law_802 : decode cL_law 802 = .ok (.aload_n 1, 1) := by decide +kernel
theorem dL_law_803 : decode cL_law 803 = .ok (.aload_n 0, 1) := by decide +kernel
theorem dL_law_804 : decode cL_law 804 = .ok (.iload 5, 2) := by decide +kernel
theorem dL_law_806 : decode cL_law 806 = .ok (.iconst 1, 1) := by decide +kernel
theorem dL_law_807 : decode cL_law 807 = .ok (.iadd, 1) := by decide +kernel
theorem dL_law_808 : decode cL_law 808 = .ok (.iaload, 1) := by decide +kernel
theorem dL_law_809 : decode cL_law 809 = .ok (.aload_n 0, 1) := by decide +kernel
theorem dL_law_810 : decode cL_law 810 = .ok (.iload 5, 2) := by decide +kernel
theorem dL_law_812 : decode cL_law 812 = .ok (.iconst 2, 1) := by decide +kernel
theorem dL_law_813 : decode cL_law 813 = .ok (.iadd, 1) := by decide +kernel
theorem dL_law_814 : decode cL_law 814 = .ok (.iaload, 1) := by decide +kernel
theorem dL_law_815 : decode cL_law 815 = .ok (.aload_n 0, 1) := by decide +kernel
theorem dL_law_816 : decode cL_law 816 = .ok (.iload 5, 2) := by decide +kernel
theorem dL_law_818 : decode cL_law 818 = .ok (.iconst 3, 1) := by decide +kernel
theorem dL_law_819 : decode cL_law 819 = .ok (.iadd, 1) := by decide +kernel
theorem dL_law_820 : decode cL_law 820 = .ok (.iaload, 1) := by decide +kernel
theorem dL_law_821 : decode cL_law 821 = .ok (.aload_n 3, 1) := by decide +kernel
theorem dL_law_822 : decode cL_law 822 = .ok (.invokestatic 136, 3) := by decide +kernel
theorem dL_law_825 : decode cL_law 825 = .ok (.istore 6, 2) := by decide +kernel
theorem dL_law_827 : decode cL_law 827 = .ok (.aload_n 2, 1) := by decide +kernel
theorem dL_law_828 : decode cL_law 828 = .ok (.aload_n 0, 1) := by decide +kernel
theorem dL_law_829 : decode cL_law 829 = .ok (.iload 5, 2) := by decide +kernel
theorem dL_law_831 : decode cL_law 831 = .ok (.iconst 1, 1) := by decide +kernel
theorem dL_law_832 : decode cL_law 832 = .ok (.iadd, 1) := by decide +kernel
theorem dL_law_833 : decode cL_law 833 = .ok (.iaload, 1) := by decide +kernel
theorem dL_law_834 : decode cL_law 834 = .ok (.aload_n 0, 1) := by decide +kernel
theorem dL_law_835 : decode cL_law 835 = .ok (.iload 5, 2) := by decide +kernel
theorem dL_law_837 : decode cL_law 837 = .ok (.iconst 2, 1) := by decide +kernel
theorem dL_law_838 : decode cL_law 838 = .ok (.iadd, 1) := by decide +kernel
theorem dL_law_839 : decode cL_law 839 = .ok (.iaload, 1) := by decide +kernel
theorem dL_law_840 : decode cL_law 840 = .ok (.aload_n 0, 1) := by decide +kernel
theorem dL_law_841 : decode cL_law 841 = .ok (.iload 5, 2) := by decide +kernel
theorem dL_law_843 : decode cL_law 843 = .ok (.iconst 3, 1) := by decide +kernel
theorem dL_law_844 : decode cL_law 844 = .ok (.iadd, 1) := by decide +kernel
theorem dL_law_845 : decode cL_law 845 = .ok (.iaload, 1) := by decide +kernel
theorem dL_law_846 : decode cL_law 846 = .ok (.invokevirtual 138, 3) := by decide +kernel
theorem dL_law_849 : decode cL_law 849 = .ok (.istore 7, 2) := by decide +kernel
theorem dL_law_851 : decode cL_law 851 = .ok (.aload_n 2, 1) := by decide +kernel
theorem dL_law_852 : decode cL_law 852 = .ok (.invokevirtual 99, 3) := by decide +kernel
theorem dL_law_855 : decode cL_law 855 = .ok (.iload 6, 2) := by decide +kernel
theorem dL_law_857 : decode cL_law 857 = .ok (.if_icmp .eq 5, 3) := by decide +kernel
theorem dL_law_860 : decode cL_law 860 = .ok (.iconst 0, 1) := by decide +kernel
theorem dL_law_861 : decode cL_law 861 = .ok (.ireturn, 1) := by decide +kernel
theorem dL_law_862 : decode cL_law 862 = .ok (.iload 6, 2) := by decide +kernel
theorem dL_law_864 : decode cL_law 864 = .ok (.ifCond .ne 15, 3) := by decide +kernel
theorem dL_law_867 : decode cL_law 867 = .ok (.aload_n 3, 1) := by decide +kernel
theorem dL_law_868 : decode cL_law 868 = .ok (.iconst 0, 1) := by decide +kernel
theorem dL_law_869 : decode cL_law 869 = .ok (.laload, 1) := by decide +kernel
theorem dL_law_870 : decode cL_law 870 = .ok (.iload 7, 2) := by decide +kernel
theorem dL_law_872 : decode cL_law 872 = .ok (.i2l, 1) := by decide +kernel
theorem dL_law_873 : decode cL_law 873 = .ok (.lcmp, 1) := by decide +kernel
theorem dL_law_874 : decode cL_law 874 = .ok (.ifCond .eq 5, 3) := by decide +kernel
theorem dL_law_877 : decode cL_law 877 = .ok (.iconst 0, 1) := by decide +kernel
theorem dL_law_878 : decode cL_law 878 = .ok (.ireturn, 1) := by decide +kernel
theorem dL_law_879 : decode cL_law 879 = .ok (.goto 854, 3) := by decide +kernel
theorem dL_law_882 : decode cL_law 882 = .ok (.aload_n 1, 1) := by decide +kernel
theorem dL_law_883 : decode cL_law 883 = .ok (.aload_n 0, 1) := by decide +kernel
theorem dL_law_884 : decode cL_law 884 = .ok (.iload 5, 2) := by decide +kernel
theorem dL_law_886 : decode cL_law 886 = .ok (.iconst 1, 1) := by decide +kernel
theorem dL_law_887 : decode cL_law 887 = .ok (.iadd, 1) := by decide +kernel
theorem dL_law_888 : decode cL_law 888 = .ok (.iaload, 1) := by decide +kernel
theorem dL_law_889 : decode cL_law 889 = .ok (.aload_n 0, 1) := by decide +kernel
theorem dL_law_890 : decode cL_law 890 = .ok (.iload 5, 2) := by decide +kernel
theorem dL_law_892 : decode cL_law 892 = .ok (.iconst 2, 1) := by decide +kernel
theorem dL_law_893 : decode cL_law 893 = .ok (.iadd, 1) := by decide +kernel
theorem dL_law_894 : decode cL_law 894 = .ok (.iaload, 1) := by decide +kernel
theorem dL_law_895 : decode cL_law 895 = .ok (.aload_n 3, 1) := by decide +kernel
theorem dL_law_896 : decode cL_law 896 = .ok (.invokestatic 139, 3) := by decide +kernel
theorem dL_law_899 : decode cL_law 899 = .ok (.istore 6, 2) := by decide +kernel
theorem dL_law_901 : decode cL_law 901 = .ok (.aload_n 2, 1) := by decide +kernel
theorem dL_law_902 : decode cL_law 902 = .ok (.aload_n 0, 1) := by decide +kernel
theorem dL_law_903 : decode cL_law 903 = .ok (.iload 5, 2) := by decide +kernel
theorem dL_law_905 : decode cL_law 905 = .ok (.iconst 1, 1) := by decide +kernel
theorem dL_law_906 : decode cL_law 906 = .ok (.iadd, 1) := by decide +kernel
theorem dL_law_907 : decode cL_law 907 = .ok (.iaload, 1) := by decide +kernel
theorem dL_law_908 : decode cL_law 908 = .ok (.aload_n 0, 1) := by decide +kernel
theorem dL_law_909 : decode cL_law 909 = .ok (.iload 5, 2) := by decide +kernel
theorem dL_law_911 : decode cL_law 911 = .ok (.iconst 2, 1) := by decide +kernel
theorem dL_law_912 : decode cL_law 912 = .ok (.iadd, 1) := by decide +kernel
theorem dL_law_913 : decode cL_law 913 = .ok (.iaload, 1) := by decide +kernel
theorem dL_law_914 : decode cL_law 914 = .ok (.invokevirtual 141, 3) := by decide +kernel
theorem dL_law_917 : decode cL_law 917 = .ok (.istore 7, 2) := by decide +kernel
theorem dL_law_919 : decode cL_law 919 = .ok (.aload_n 2, 1) := by decide +kernel
theorem dL_law_920 : decode cL_law 920 = .ok (.invokevirtual 99, 3) := by decide +kernel
theorem dL_law_923 : decode cL_law 923 = .ok (.iload 6, 2) := by decide +kernel
theorem dL_law_925 : decode cL_law 925 = .ok (.if_icmp .eq 5, 3) := by decide +kernel
theorem dL_law_928 : decode cL_law 928 = .ok (.iconst 0, 1) := by decide +kernel
theorem dL_law_929 : decode cL_law 929 = .ok (.ireturn, 1) := by decide +kernel
theorem dL_law_930 : decode cL_law 930 = .ok (.iload 6, 2) := by decide +kernel
theorem dL_law_932 : decode cL_law 932 = .ok (.ifCond .ne 15, 3) := by decide +kernel
theorem dL_law_935 : decode cL_law 935 = .ok (.aload_n 3, 1) := by decide +kernel
theorem dL_law_936 : decode cL_law 936 = .ok (.iconst 0, 1) := by decide +kernel
theorem dL_law_937 : decode cL_law 937 = .ok (.laload, 1) := by decide +kernel
theorem dL_law_938 : decode cL_law 938 = .ok (.iload 7, 2) := by decide +kernel
theorem dL_law_940 : decode cL_law 940 = .ok (.i2l, 1) := by decide +kernel
theorem dL_law_941 : decode cL_law 941 = .ok (.lcmp, 1) := by decide +kernel
theorem dL_law_942 : decode cL_law 942 = .ok (.ifCond .eq 5, 3) := by decide +kernel
theorem dL_law_945 : decode cL_law 945 = .ok (.iconst 0, 1) := by decide +kernel
theorem dL_law_946 : decode cL_law 946 = .ok (.ireturn, 1) := by decide +kernel
theorem dL_law_947 : decode cL_law 947 = .ok (.goto 786, 3) := by decide +kernel
theorem dL_law_950 : decode cL_law 950 = .ok (.aload_n 1, 1) := by decide +kernel
theorem dL_law_951 : decode cL_law 951 = .ok (.aload_n 0, 1) := by decide +kernel
theorem dL_law_952 : decode cL_law 952 = .ok (.iload 5, 2) := by decide +kernel
theorem dL_law_954 : decode cL_law 954 = .ok (.iconst 1, 1) := by decide +kernel
theorem dL_law_955 : decode cL_law 955 = .ok (.iadd, 1) := by decide +kernel
theorem dL_law_956 : decode cL_law 956 = .ok (.iaload, 1) := by decide +kernel
theorem dL_law_957 : decode cL_law 957 = .ok (.aload_n 0, 1) := by decide +kernel
theorem dL_law_958 : decode cL_law 958 = .ok (.iload 5, 2) := by decide +kernel
theorem dL_law_960 : decode cL_law 960 = .ok (.iconst 2, 1) := by decide +kernel
theorem dL_law_961 : decode cL_law 961 = .ok (.iadd, 1) := by decide +kernel
theorem dL_law_962 : decode cL_law 962 = .ok (.iaload, 1) := by decide +kernel
theorem dL_law_963 : decode cL_law 963 = .ok (.ifCond .eq 7, 3) := by decide +kernel
theorem dL_law_966 : decode cL_law 966 = .ok (.iconst 1, 1) := by decide +kernel
theorem dL_law_967 : decode cL_law 967 = .ok (.goto 4, 3) := by decide +kernel
theorem dL_law_970 : decode cL_law 970 = .ok (.iconst 0, 1) := by decide +kernel
theorem dL_law_971 : decode cL_law 971 = .ok (.aload_n 3, 1) := by decide +kernel
theorem dL_law_972 : decode cL_law 972 = .ok (.invokestatic 142, 3) := by decide +kernel
theorem dL_law_975 : decode cL_law 975 = .ok (.istore 6, 2) := by decide +kernel
theorem dL_law_977 : decode cL_law 977 = .ok (.aload_n 2, 1) := by decide +kernel
theorem dL_law_978 : decode cL_law 978 = .ok (.aload_n 0, 1) := by decide +kernel
theorem dL_law_979 : decode cL_law 979 = .ok (.iload 5, 2) := by decide +kernel
theorem dL_law_981 : decode cL_law 981 = .ok (.iconst 1, 1) := by decide +kernel
theorem dL_law_982 : decode cL_law 982 = .ok (.iadd, 1) := by decide +kernel
theorem dL_law_983 : decode cL_law 983 = .ok (.iaload, 1) := by decide +kernel
theorem dL_law_984 : decode cL_law 984 = .ok (.aload_n 0, 1) := by decide +kernel
theorem dL_law_985 : decode cL_law 985 = .ok (.iload 5, 2) := by decide +kernel
theorem dL_law_987 : decode cL_law 987 = .ok (.iconst 2, 1) := by decide +kernel
theorem dL_law_988 : decode cL_law 988 = .ok (.iadd, 1) := by decide +kernel
theorem dL_law_989 : decode cL_law 989 = .ok (.iaload, 1) := by decide +kernel
theorem dL_law_990 : decode cL_law 990 = .ok (.ifCond .eq 7, 3) := by decide +kernel
theorem dL_law_993 : decode cL_law 993 = .ok (.iconst 1, 1) := by decide +kernel
theorem dL_law_994 : decode cL_law 994 = .ok (.goto 4, 3) := by decide +kernel
theorem dL_law_997 : decode cL_law 997 = .ok (.iconst 0, 1) := by decide +kernel
theorem dL_law_998 : decode cL_law 998 = .ok (.invokevirtual 144, 3) := by decide +kernel
theorem dL_law_1001 : decode cL_law 1001 = .ok (.istore 7, 2) := by decide +kernel
theorem dL_law_1003 : decode cL_law 1003 = .ok (.aload_n 2, 1) := by decide +kernel
theorem dL_law_1004 : decode cL_law 1004 = .ok (.invokevirtual 99, 3) := by decide +kernel
theorem dL_law_1007 : decode cL_law 1007 = .ok (.iload 6, 2) := by decide +kernel
theorem dL_law_1009 : decode cL_law 1009 = .ok (.if_icmp .eq 5, 3) := by decide +kernel
theorem dL_law_1012 : decode cL_law 1012 = .ok (.iconst 0, 1) := by decide +kernel
theorem dL_law_1013 : decode cL_law 1013 = .ok (.ireturn, 1) := by decide +kernel
theorem dL_law_1014 : decode cL_law 1014 = .ok (.iload 6, 2) := by decide +kernel
theorem dL_law_1016 : decode cL_law 1016 = .ok (.ifCond .ne 22, 3) := by decide +kernel
theorem dL_law_1019 : decode cL_law 1019 = .ok (.aload_n 3, 1) := by decide +kernel
theorem dL_law_1020 : decode cL_law 1020 = .ok (.iconst 0, 1) := by decide +kernel
theorem dL_law_1021 : decode cL_law 1021 = .ok (.laload, 1) := by decide +kernel
theorem dL_law_1022 : decode cL_law 1022 = .ok (.iload 7, 2) := by decide +kernel
theorem dL_law_1024 : decode cL_law 1024 = .ok (.ifCond .eq 7, 3) := by decide +kernel
theorem dL_law_1027 : decode cL_law 1027 = .ok (.lconst 1, 1) := by decide +kernel
theorem dL_law_1028 : decode cL_law 1028 = .ok (.goto 4, 3) := by decide +kernel
theorem dL_law_1031 : decode cL_law 1031 = .ok (.lconst 0, 1) := by decide +kernel
theorem dL_law_1032 : decode cL_law 1032 = .ok (.lcmp, 1) := by decide +kernel
theorem dL_law_1033 : decode cL_law 1033 = .ok (.ifCond .eq 5, 3) := by decide +kernel
theorem dL_law_1036 : decode cL_law 1036 = .ok (.iconst 0, 1) := by decide +kernel
theorem dL_law_1037 : decode cL_law 1037 = .ok (.ireturn, 1) := by decide +kernel
theorem dL_law_1038 : decode cL_law 1038 = .ok (.goto 695, 3) := by decide +kernel
theorem dL_law_1041 : decode cL_law 1041 = .ok (.aload_n 1, 1) := by decide +kernel
theorem dL_law_1042 : decode cL_law 1042 = .ok (.aload_n 0, 1) := by decide +kernel
theorem dL_law_1043 : decode cL_law 1043 = .ok (.iload 5, 2) := by decide +kernel
theorem dL_law_1045 : decode cL_law 1045 = .ok (.iconst 1, 1) := by decide +kernel
theorem dL_law_1046 : decode cL_law 1046 = .ok (.iadd, 1) := by decide +kernel
theorem dL_law_1047 : decode cL_law 1047 = .ok (.iaload, 1) := by decide +kernel
theorem dL_law_1048 : decode cL_law 1048 = .ok (.aload_n 0, 1) := by decide +kernel
theorem dL_law_1049 : decode cL_law 1049 = .ok (.iload 5, 2) := by decide +kernel
theorem dL_law_1051 : decode cL_law 1051 = .ok (.iconst 2, 1) := by decide +kernel
theorem dL_law_1052 : decode cL_law 1052 = .ok (.iadd, 1) := by decide +kernel
theorem dL_law_1053 : decode cL_law 1053 = .ok (.iaload, 1) := by decide +kernel
theorem dL_law_1054 : decode cL_law 1054 = .ok (.aload_n 0, 1) := by decide +kernel
theorem dL_law_1055 : decode cL_law 1055 = .ok (.iload 5, 2) := by decide +kernel
theorem dL_law_1057 : decode cL_law 1057 = .ok (.iconst 3, 1) := by decide +kernel
theorem dL_law_1058 : decode cL_law 1058 = .ok (.iadd, 1) := by decide +kernel
theorem dL_law_1059 : decode cL_law 1059 = .ok (.iaload, 1) := by decide +kernel
theorem dL_law_1060 : decode cL_law 1060 = .ok (.aload_n 3, 1) := by decide +kernel
theorem dL_law_1061 : decode cL_law 1061 = .ok (.invokestatic 145, 3) := by decide +kernel
theorem dL_law_1064 : decode cL_law 1064 = .ok (.istore 6, 2) := by decide +kernel
theorem dL_law_1066 : decode cL_law 1066 = .ok (.aload_n 2, 1) := by decide +kernel
theorem dL_law_1067 : decode cL_law 1067 = .ok (.aload_n 0, 1) := by decide +kernel
theorem dL_law_1068 : decode cL_law 1068 = .ok (.iload 5, 2) := by decide +kernel
theorem dL_law_1070 : decode cL_law 1070 = .ok (.iconst 1, 1) := by decide +kernel
theorem dL_law_1071 : decode cL_law 1071 = .ok (.iadd, 1) := by decide +kernel
theorem dL_law_1072 : decode cL_law 1072 = .ok (.iaload, 1) := by decide +kernel
theorem dL_law_1073 : decode cL_law 1073 = .ok (.aload_n 0, 1) := by decide +kernel
theorem dL_law_1074 : decode cL_law 1074 = .ok (.iload 5, 2) := by decide +kernel
theorem dL_law_1076 : decode cL_law 1076 = .ok (.iconst 2, 1) := by decide +kernel
theorem dL_law_1077 : decode cL_law 1077 = .ok (.iadd, 1) := by decide +kernel
theorem dL_law_1078 : decode cL_law 1078 = .ok (.iaload, 1) := by decide +kernel
theorem dL_law_1079 : decode cL_law 1079 = .ok (.aload_n 0, 1) := by decide +kernel
theorem dL_law_1080 : decode cL_law 1080 = .ok (.iload 5, 2) := by decide +kernel
theorem dL_law_1082 : decode cL_law 1082 = .ok (.iconst 3, 1) := by decide +kernel
theorem dL_law_1083 : decode cL_law 1083 = .ok (.iadd, 1) := by decide +kernel
theorem dL_law_1084 : decode cL_law 1084 = .ok (.iaload, 1) := by decide +kernel
theorem dL_law_1085 : decode cL_law 1085 = .ok (.invokevirtual 147, 3) := by decide +kernel
theorem dL_law_1088 : decode cL_law 1088 = .ok (.istore 7, 2) := by decide +kernel
theorem dL_law_1090 : decode cL_law 1090 = .ok (.aload_n 2, 1) := by decide +kernel
theorem dL_law_1091 : decode cL_law 1091 = .ok (.invokevirtual 99, 3) := by decide +kernel
theorem dL_law_1094 : decode cL_law 1094 = .ok (.iload 6, 2) := by decide +kernel
theorem dL_law_1096 : decode cL_law 1096 = .ok (.if_icmp .eq 5, 3) := by decide +kernel
theorem dL_law_1099 : decode cL_law 1099 = .ok (.iconst 0, 1) := by decide +kernel
theorem dL_law_1100 : decode cL_law 1100 = .ok (.ireturn, 1) := by decide +kernel
theorem dL_law_1101 : decode cL_law 1101 = .ok (.iload 6, 2) := by decide +kernel
theorem dL_law_1103 : decode cL_law 1103 = .ok (.ifCond .ne 15, 3) := by decide +kernel
theorem dL_law_1106 : decode cL_law 1106 = .ok (.aload_n 3, 1) := by decide +kernel
theorem dL_law_1107 : decode cL_law 1107 = .ok (.iconst 0, 1) := by decide +kernel
theorem dL_law_1108 : decode cL_law 1108 = .ok (.laload, 1) := by decide +kernel
theorem dL_law_1109 : decode cL_law 1109 = .ok (.iload 7, 2) := by decide +kernel
theorem dL_law_1111 : decode cL_law 1111 = .ok (.i2l, 1) := by decide +kernel
theorem dL_law_1112 : decode cL_law 1112 = .ok (.lcmp, 1) := by decide +kernel
theorem dL_law_1113 : decode cL_law 1113 = .ok (.ifCond .eq 5, 3) := by decide +kernel
theorem dL_law_1116 : decode cL_law 1116 = .ok (.iconst 0, 1) := by decide +kernel
theorem dL_law_1117 : decode cL_law 1117 = .ok (.ireturn, 1) := by decide +kernel
theorem dL_law_1118 : decode cL_law 1118 = .ok (.goto 615, 3) := by decide +kernel
theorem dL_law_1121 : decode cL_law 1121 = .ok (.aload_n 1, 1) := by decide +kernel
theorem dL_law_1122 : decode cL_law 1122 = .ok (.aload_n 0, 1) := by decide +kernel
theorem dL_law_1123 : decode cL_law 1123 = .ok (.iload 5, 2) := by decide +kernel
theorem dL_law_1125 : decode cL_law 1125 = .ok (.iconst 1, 1) := by decide +kernel
theorem dL_law_1126 : decode cL_law 1126 = .ok (.iadd, 1) := by decide +kernel
theorem dL_law_1127 : decode cL_law 1127 = .ok (.iaload, 1) := by decide +kernel
theorem dL_law_1128 : decode cL_law 1128 = .ok (.aload_n 0, 1) := by decide +kernel
theorem dL_law_1129 : decode cL_law 1129 = .ok (.iload 5, 2) := by decide +kernel
theorem dL_law_1131 : decode cL_law 1131 = .ok (.iconst 2, 1) := by decide +kernel
theorem dL_law_1132 : decode cL_law 1132 = .ok (.iadd, 1) := by decide +kernel
theorem dL_law_1133 : decode cL_law 1133 = .ok (.iaload, 1) := by decide +kernel
theorem dL_law_1134 : decode cL_law 1134 = .ok (.aload_n 3, 1) := by decide +kernel
theorem dL_law_1135 : decode cL_law 1135 = .ok (.invokestatic 148, 3) := by decide +kernel
theorem dL_law_1138 : decode cL_law 1138 = .ok (.istore 6, 2) := by decide +kernel
theorem dL_law_1140 : decode cL_law 1140 = .ok (.aload_n 2, 1) := by decide +kernel
theorem dL_law_1141 : decode cL_law 1141 = .ok (.aload_n 0, 1) := by decide +kernel
theorem dL_law_1142 : decode cL_law 1142 = .ok (.iload 5, 2) := by decide +kernel
theorem dL_law_1144 : decode cL_law 1144 = .ok (.iconst 1, 1) := by decide +kernel
theorem dL_law_1145 : decode cL_law 1145 = .ok (.iadd, 1) := by decide +kernel
theorem dL_law_1146 : decode cL_law 1146 = .ok (.iaload, 1) := by decide +kernel
theorem dL_law_1147 : decode cL_law 1147 = .ok (.aload_n 0, 1) := by decide +kernel
theorem dL_law_1148 : decode cL_law 1148 = .ok (.iload 5, 2) := by decide +kernel
theorem dL_law_1150 : decode cL_law 1150 = .ok (.iconst 2, 1) := by decide +kernel
theorem dL_law_1151 : decode cL_law 1151 = .ok (.iadd, 1) := by decide +kernel
theorem dL_law_1152 : decode cL_law 1152 = .ok (.iaload, 1) := by decide +kernel
theorem dL_law_1153 : decode cL_law 1153 = .ok (.invokevirtual 150, 3) := by decide +kernel
theorem dL_law_1156 : decode cL_law 1156 = .ok (.istore 7, 2) := by decide +kernel
theorem dL_law_1158 : decode cL_law 1158 = .ok (.aload_n 2, 1) := by decide +kernel
theorem dL_law_1159 : decode cL_law 1159 = .ok (.invokevirtual 99, 3) := by decide +kernel
theorem dL_law_1162 : decode cL_law 1162 = .ok (.iload 6, 2) := by decide +kernel
theorem dL_law_1164 : decode cL_law 1164 = .ok (.if_icmp .eq 5, 3) := by decide +kernel
theorem dL_law_1167 : decode cL_law 1167 = .ok (.iconst 0, 1) := by decide +kernel
theorem dL_law_1168 : decode cL_law 1168 = .ok (.ireturn, 1) := by decide +kernel
theorem dL_law_1169 : decode cL_law 1169 = .ok (.iload 6, 2) := by decide +kernel
theorem dL_law_1171 : decode cL_law 1171 = .ok (.ifCond .ne 15, 3) := by decide +kernel
theorem dL_law_1174 : decode cL_law 1174 = .ok (.aload_n 3, 1) := by decide +kernel
theorem dL_law_1175 : decode cL_law 1175 = .ok (.iconst 0, 1) := by decide +kernel
theorem dL_law_1176 : decode cL_law 1176 = .ok (.laload, 1) := by decide +kernel
theorem dL_law_1177 : decode cL_law 1177 = .ok (.iload 7, 2) := by decide +kernel
theorem dL_law_1179 : decode cL_law 1179 = .ok (.i2l, 1) := by decide +kernel
theorem dL_law_1180 : decode cL_law 1180 = .ok (.lcmp, 1) := by decide +kernel
theorem dL_law_1181 : decode cL_law 1181 = .ok (.ifCond .eq 5, 3) := by decide +kernel
theorem dL_law_1184 : decode cL_law 1184 = .ok (.iconst 0, 1) := by decide +kernel
theorem dL_law_1185 : decode cL_law 1185 = .ok (.ireturn, 1) := by decide +kernel
theorem dL_law_1186 : decode cL_law 1186 = .ok (.goto 547, 3) := by decide +kernel
theorem dL_law_1189 : decode cL_law 1189 = .ok (.aload_n 1, 1) := by decide +kernel
theorem dL_law_1190 : decode cL_law 1190 = .ok (.invokevirtual 151, 3) := by decide +kernel
theorem dL_law_1193 : decode cL_law 1193 = .ok (.aload_n 2, 1) := by decide +kernel
theorem dL_law_1194 : decode cL_law 1194 = .ok (.invokevirtual 154, 3) := by decide +kernel
theorem dL_law_1197 : decode cL_law 1197 = .ok (.if_icmp .eq 536, 3) := by decide +kernel
theorem dL_law_1200 : decode cL_law 1200 = .ok (.iconst 0, 1) := by decide +kernel
theorem dL_law_1201 : decode cL_law 1201 = .ok (.ireturn, 1) := by decide +kernel
theorem dL_law_1202 : decode cL_law 1202 = .ok (.aload_n 1, 1) := by decide +kernel
theorem dL_law_1203 : decode cL_law 1203 = .ok (.invokevirtual 155, 3) := by decide +kernel
theorem dL_law_1206 : decode cL_law 1206 = .ok (.aload_n 2, 1) := by decide +kernel
theorem dL_law_1207 : decode cL_law 1207 = .ok (.invokevirtual 158, 3) := by decide +kernel
theorem dL_law_1210 : decode cL_law 1210 = .ok (.if_icmp .eq 523, 3) := by decide +kernel
theorem dL_law_1213 : decode cL_law 1213 = .ok (.iconst 0, 1) := by decide +kernel
theorem dL_law_1214 : decode cL_law 1214 = .ok (.ireturn, 1) := by decide +kernel
theorem dL_law_1215 : decode cL_law 1215 = .ok (.aload_n 1, 1) := by decide +kernel
theorem dL_law_1216 : decode cL_law 1216 = .ok (.aload_n 0, 1) := by decide +kernel
theorem dL_law_1217 : decode cL_law 1217 = .ok (.iload 5, 2) := by decide +kernel
theorem dL_law_1219 : decode cL_law 1219 = .ok (.iconst 1, 1) := by decide +kernel
theorem dL_law_1220 : decode cL_law 1220 = .ok (.iadd, 1) := by decide +kernel
theorem dL_law_1221 : decode cL_law 1221 = .ok (.iaload, 1) := by decide +kernel
theorem dL_law_1222 : decode cL_law 1222 = .ok (.aload_n 0, 1) := by decide +kernel
theorem dL_law_1223 : decode cL_law 1223 = .ok (.iload 5, 2) := by decide +kernel
theorem dL_law_1225 : decode cL_law 1225 = .ok (.iconst 2, 1) := by decide +kernel
theorem dL_law_1226 : decode cL_law 1226 = .ok (.iadd, 1) := by decide +kernel
theorem dL_law_1227 : decode cL_law 1227 = .ok (.iaload, 1) := by decide +kernel
theorem dL_law_1228 : decode cL_law 1228 = .ok (.aload 4, 2) := by decide +kernel
theorem dL_law_1230 : decode cL_law 1230 = .ok (.invokestatic 159, 3) := by decide +kernel
theorem dL_law_1233 : decode cL_law 1233 = .ok (.istore 6, 2) := by decide +kernel
theorem dL_law_1235 : decode cL_law 1235 = .ok (.aload_n 2, 1) := by decide +kernel
theorem dL_law_1236 : decode cL_law 1236 = .ok (.aload_n 0, 1) := by decide +kernel
theorem dL_law_1237 : decode cL_law 1237 = .ok (.iload 5, 2) := by decide +kernel
theorem dL_law_1239 : decode cL_law 1239 = .ok (.iconst 1, 1) := by decide +kernel
theorem dL_law_1240 : decode cL_law 1240 = .ok (.iadd, 1) := by decide +kernel
theorem dL_law_1241 : decode cL_law 1241 = .ok (.iaload, 1) := by decide +kernel
theorem dL_law_1242 : decode cL_law 1242 = .ok (.aload_n 0, 1) := by decide +kernel
theorem dL_law_1243 : decode cL_law 1243 = .ok (.iload 5, 2) := by decide +kernel
theorem dL_law_1245 : decode cL_law 1245 = .ok (.iconst 2, 1) := by decide +kernel
theorem dL_law_1246 : decode cL_law 1246 = .ok (.iadd, 1) := by decide +kernel
theorem dL_law_1247 : decode cL_law 1247 = .ok (.iaload, 1) := by decide +kernel
theorem dL_law_1248 : decode cL_law 1248 = .ok (.invokevirtual 162, 3) := by decide +kernel
theorem dL_law_1251 : decode cL_law 1251 = .ok (.fstore 7, 2) := by decide +kernel
theorem dL_law_1253 : decode cL_law 1253 = .ok (.aload_n 2, 1) := by decide +kernel
theorem dL_law_1254 : decode cL_law 1254 = .ok (.invokevirtual 99, 3) := by decide +kernel
theorem dL_law_1257 : decode cL_law 1257 = .ok (.iload 6, 2) := by decide +kernel
theorem dL_law_1259 : decode cL_law 1259 = .ok (.if_icmp .eq 5, 3) := by decide +kernel
theorem dL_law_1262 : decode cL_law 1262 = .ok (.iconst 0, 1) := by decide +kernel
theorem dL_law_1263 : decode cL_law 1263 = .ok (.ireturn, 1) := by decide +kernel
theorem dL_law_1264 : decode cL_law 1264 = .ok (.iload 6, 2) := by decide +kernel
theorem dL_law_1266 : decode cL_law 1266 = .ok (.ifCond .ne 36, 3) := by decide +kernel
theorem dL_law_1269 : decode cL_law 1269 = .ok (.aload 4, 2) := by decide +kernel
theorem dL_law_1271 : decode cL_law 1271 = .ok (.iconst 0, 1) := by decide +kernel
theorem dL_law_1272 : decode cL_law 1272 = .ok (.daload, 1) := by decide +kernel
theorem dL_law_1273 : decode cL_law 1273 = .ok (.fload 7, 2) := by decide +kernel
theorem dL_law_1275 : decode cL_law 1275 = .ok (.f2d, 1) := by decide +kernel
theorem dL_law_1276 : decode cL_law 1276 = .ok (.dcmp .l, 1) := by decide +kernel
theorem dL_law_1277 : decode cL_law 1277 = .ok (.ifCond .eq 25, 3) := by decide +kernel
theorem dL_law_1280 : decode cL_law 1280 = .ok (.aload 4, 2) := by decide +kernel
theorem dL_law_1282 : decode cL_law 1282 = .ok (.iconst 0, 1) := by decide +kernel
theorem dL_law_1283 : decode cL_law 1283 = .ok (.daload, 1) := by decide +kernel
theorem dL_law_1284 : decode cL_law 1284 = .ok (.aload 4, 2) := by decide +kernel
theorem dL_law_1286 : decode cL_law 1286 = .ok (.iconst 0, 1) := by decide +kernel
theorem dL_law_1287 : decode cL_law 1287 = .ok (.daload, 1) := by decide +kernel
theorem dL_law_1288 : decode cL_law 1288 = .ok (.dcmp .l, 1) := by decide +kernel
theorem dL_law_1289 : decode cL_law 1289 = .ok (.ifCond .eq 11, 3) := by decide +kernel
theorem dL_law_1292 : decode cL_law 1292 = .ok (.fload 7, 2) := by decide +kernel
theorem dL_law_1294 : decode cL_law 1294 = .ok (.fload 7, 2) := by decide +kernel
theorem dL_law_1296 : decode cL_law 1296 = .ok (.fcmp .l, 1) := by decide +kernel
theorem dL_law_1297 : decode cL_law 1297 = .ok (.ifCond .ne 5, 3) := by decide +kernel
theorem dL_law_1300 : decode cL_law 1300 = .ok (.iconst 0, 1) := by decide +kernel
theorem dL_law_1301 : decode cL_law 1301 = .ok (.ireturn, 1) := by decide +kernel
theorem dL_law_1302 : decode cL_law 1302 = .ok (.goto 431, 3) := by decide +kernel
theorem dL_law_1305 : decode cL_law 1305 = .ok (.aload_n 1, 1) := by decide +kernel
theorem dL_law_1306 : decode cL_law 1306 = .ok (.aload_n 0, 1) := by decide +kernel
theorem dL_law_1307 : decode cL_law 1307 = .ok (.iload 5, 2) := by decide +kernel
theorem dL_law_1309 : decode cL_law 1309 = .ok (.iconst 1, 1) := by decide +kernel
theorem dL_law_1310 : decode cL_law 1310 = .ok (.iadd, 1) := by decide +kernel
theorem dL_law_1311 : decode cL_law 1311 = .ok (.iaload, 1) := by decide +kernel
theorem dL_law_1312 : decode cL_law 1312 = .ok (.aload_n 0, 1) := by decide +kernel
theorem dL_law_1313 : decode cL_law 1313 = .ok (.iload 5, 2) := by decide +kernel
theorem dL_law_1315 : decode cL_law 1315 = .ok (.iconst 2, 1) := by decide +kernel
theorem dL_law_1316 : decode cL_law 1316 = .ok (.iadd, 1) := by decide +kernel
theorem dL_law_1317 : decode cL_law 1317 = .ok (.iaload, 1) := by decide +kernel
theorem dL_law_1318 : decode cL_law 1318 = .ok (.aload_n 0, 1) := by decide +kernel
theorem dL_law_1319 : decode cL_law 1319 = .ok (.iload 5, 2) := by decide +kernel
theorem dL_law_1321 : decode cL_law 1321 = .ok (.iconst 3, 1) := by decide +kernel
theorem dL_law_1322 : decode cL_law 1322 = .ok (.iadd, 1) := by decide +kernel
theorem dL_law_1323 : decode cL_law 1323 = .ok (.iaload, 1) := by decide +kernel
theorem dL_law_1324 : decode cL_law 1324 = .ok (.aload_n 3, 1) := by decide +kernel
theorem dL_law_1325 : decode cL_law 1325 = .ok (.invokestatic 163, 3) := by decide +kernel
theorem dL_law_1328 : decode cL_law 1328 = .ok (.istore 6, 2) := by decide +kernel
theorem dL_law_1330 : decode cL_law 1330 = .ok (.aload_n 2, 1) := by decide +kernel
theorem dL_law_1331 : decode cL_law 1331 = .ok (.aload_n 0, 1) := by decide +kernel
theorem dL_law_1332 : decode cL_law 1332 = .ok (.iload 5, 2) := by decide +kernel
theorem dL_law_1334 : decode cL_law 1334 = .ok (.iconst 1, 1) := by decide +kernel
theorem dL_law_1335 : decode cL_law 1335 = .ok (.iadd, 1) := by decide +kernel
theorem dL_law_1336 : decode cL_law 1336 = .ok (.iaload, 1) := by decide +kernel
theorem dL_law_1337 : decode cL_law 1337 = .ok (.aload_n 0, 1) := by decide +kernel
theorem dL_law_1338 : decode cL_law 1338 = .ok (.iload 5, 2) := by decide +kernel
theorem dL_law_1340 : decode cL_law 1340 = .ok (.iconst 2, 1) := by decide +kernel
theorem dL_law_1341 : decode cL_law 1341 = .ok (.iadd, 1) := by decide +kernel
theorem dL_law_1342 : decode cL_law 1342 = .ok (.iaload, 1) := by decide +kernel
theorem dL_law_1343 : decode cL_law 1343 = .ok (.aload_n 0, 1) := by decide +kernel
theorem dL_law_1344 : decode cL_law 1344 = .ok (.iload 5, 2) := by decide +kernel
theorem dL_law_1346 : decode cL_law 1346 = .ok (.iconst 3, 1) := by decide +kernel
theorem dL_law_1347 : decode cL_law 1347 = .ok (.iadd, 1) := by decide +kernel
theorem dL_law_1348 : decode cL_law 1348 = .ok (.iaload, 1) := by decide +kernel
theorem dL_law_1349 : decode cL_law 1349 = .ok (.invokevirtual 165, 3) := by decide +kernel
theorem dL_law_1352 : decode cL_law 1352 = .ok (.istore 7, 2) := by decide +kernel
theorem dL_law_1354 : decode cL_law 1354 = .ok (.aload_n 2, 1) := by decide +kernel
theorem dL_law_1355 : decode cL_law 1355 = .ok (.invokevirtual 99, 3) := by decide +kernel
theorem dL_law_1358 : decode cL_law 1358 = .ok (.iload 6, 2) := by decide +kernel
theorem dL_law_1360 : decode cL_law 1360 = .ok (.if_icmp .eq 5, 3) := by decide +kernel
theorem dL_law_1363 : decode cL_law 1363 = .ok (.iconst 0, 1) := by decide +kernel
theorem dL_law_1364 : decode cL_law 1364 = .ok (.ireturn, 1) := by decide +kernel
theorem dL_law_1365 : decode cL_law 1365 = .ok (.iload 6, 2) := by decide +kernel
theorem dL_law_1367 : decode cL_law 1367 = .ok (.ifCond .ne 15, 3) := by decide +kernel
theorem dL_law_1370 : decode cL_law 1370 = .ok (.aload_n 3, 1) := by decide +kernel
theorem dL_law_1371 : decode cL_law 1371 = .ok (.iconst 0, 1) := by decide +kernel
theorem dL_law_1372 : decode cL_law 1372 = .ok (.laload, 1) := by decide +kernel
theorem dL_law_1373 : decode cL_law 1373 = .ok (.iload 7, 2) := by decide +kernel
theorem dL_law_1375 : decode cL_law 1375 = .ok (.i2l, 1) := by decide +kernel
theorem dL_law_1376 : decode cL_law 1376 = .ok (.lcmp, 1) := by decide +kernel
theorem dL_law_1377 : decode cL_law 1377 = .ok (.ifCond .eq 5, 3) := by decide +kernel
theorem dL_law_1380 : decode cL_law 1380 = .ok (.iconst 0, 1) := by decide +kernel
theorem dL_law_1381 : decode cL_law 1381 = .ok (.ireturn, 1) := by decide +kernel
theorem dL_law_1382 : decode cL_law 1382 = .ok (.goto 351, 3) := by decide +kernel
theorem dL_law_1385 : decode cL_law 1385 = .ok (.aload_n 1, 1) := by decide +kernel
theorem dL_law_1386 : decode cL_law 1386 = .ok (.aload_n 0, 1) := by decide +kernel
theorem dL_law_1387 : decode cL_law 1387 = .ok (.iload 5, 2) := by decide +kernel
theorem dL_law_1389 : decode cL_law 1389 = .ok (.iconst 1, 1) := by decide +kernel
theorem dL_law_1390 : decode cL_law 1390 = .ok (.iadd, 1) := by decide +kernel
theorem dL_law_1391 : decode cL_law 1391 = .ok (.iaload, 1) := by decide +kernel
theorem dL_law_1392 : decode cL_law 1392 = .ok (.aload_n 3, 1) := by decide +kernel
theorem dL_law_1393 : decode cL_law 1393 = .ok (.invokestatic 166, 3) := by decide +kernel
theorem dL_law_1396 : decode cL_law 1396 = .ok (.istore 6, 2) := by decide +kernel
theorem dL_law_1398 : decode cL_law 1398 = .ok (.aload_n 2, 1) := by decide +kernel
theorem dL_law_1399 : decode cL_law 1399 = .ok (.aload_n 0, 1) := by decide +kernel
theorem dL_law_1400 : decode cL_law 1400 = .ok (.iload 5, 2) := by decide +kernel
theorem dL_law_1402 : decode cL_law 1402 = .ok (.iconst 1, 1) := by decide +kernel
theorem dL_law_1403 : decode cL_law 1403 = .ok (.iadd, 1) := by decide +kernel
theorem dL_law_1404 : decode cL_law 1404 = .ok (.iaload, 1) := by decide +kernel
theorem dL_law_1405 : decode cL_law 1405 = .ok (.invokevirtual 168, 3) := by decide +kernel
theorem dL_law_1408 : decode cL_law 1408 = .ok (.istore 7, 2) := by decide +kernel
theorem dL_law_1410 : decode cL_law 1410 = .ok (.aload_n 2, 1) := by decide +kernel
theorem dL_law_1411 : decode cL_law 1411 = .ok (.invokevirtual 99, 3) := by decide +kernel
theorem dL_law_1414 : decode cL_law 1414 = .ok (.iload 6, 2) := by decide +kernel
theorem dL_law_1416 : decode cL_law 1416 = .ok (.if_icmp .eq 5, 3) := by decide +kernel
theorem dL_law_1419 : decode cL_law 1419 = .ok (.iconst 0, 1) := by decide +kernel
theorem dL_law_1420 : decode cL_law 1420 = .ok (.ireturn, 1) := by decide +kernel
theorem dL_law_1421 : decode cL_law 1421 = .ok (.iload 6, 2) := by decide +kernel
theorem dL_law_1423 : decode cL_law 1423 = .ok (.ifCond .ne 15, 3) := by decide +kernel
theorem dL_law_1426 : decode cL_law 1426 = .ok (.aload_n 3, 1) := by decide +kernel
theorem dL_law_1427 : decode cL_law 1427 = .ok (.iconst 0, 1) := by decide +kernel
theorem dL_law_1428 : decode cL_law 1428 = .ok (.laload, 1) := by decide +kernel
theorem dL_law_1429 : decode cL_law 1429 = .ok (.iload 7, 2) := by decide +kernel
theorem dL_law_1431 : decode cL_law 1431 = .ok (.i2l, 1) := by decide +kernel
theorem dL_law_1432 : decode cL_law 1432 = .ok (.lcmp, 1) := by decide +kernel
theorem dL_law_1433 : decode cL_law 1433 = .ok (.ifCond .eq 5, 3) := by decide +kernel
theorem dL_law_1436 : decode cL_law 1436 = .ok (.iconst 0, 1) := by decide +kernel
theorem dL_law_1437 : decode cL_law 1437 = .ok (.ireturn, 1) := by decide +kernel
theorem dL_law_1438 : decode cL_law 1438 = .ok (.goto 295, 3) := by decide +kernel
theorem dL_law_1441 : decode cL_law 1441 = .ok (.aload_n 1, 1) := by decide +kernel
theorem dL_law_1442 : decode cL_law 1442 = .ok (.aload_n 0, 1) := by decide +kernel
theorem dL_law_1443 : decode cL_law 1443 = .ok (.iload 5, 2) := by decide +kernel
theorem dL_law_1445 : decode cL_law 1445 = .ok (.iconst 1, 1) := by decide +kernel
theorem dL_law_1446 : decode cL_law 1446 = .ok (.iadd, 1) := by decide +kernel
theorem dL_law_1447 : decode cL_law 1447 = .ok (.iaload, 1) := by decide +kernel
theorem dL_law_1448 : decode cL_law 1448 = .ok (.aload_n 3, 1) := by decide +kernel
theorem dL_law_1449 : decode cL_law 1449 = .ok (.invokestatic 169, 3) := by decide +kernel
theorem dL_law_1452 : decode cL_law 1452 = .ok (.istore 6, 2) := by decide +kernel
theorem dL_law_1454 : decode cL_law 1454 = .ok (.aload_n 2, 1) := by decide +kernel
theorem dL_law_1455 : decode cL_law 1455 = .ok (.aload_n 0, 1) := by decide +kernel
theorem dL_law_1456 : decode cL_law 1456 = .ok (.iload 5, 2) := by decide +kernel
theorem dL_law_1458 : decode cL_law 1458 = .ok (.iconst 1, 1) := by decide +kernel
theorem dL_law_1459 : decode cL_law 1459 = .ok (.iadd, 1) := by decide +kernel
theorem dL_law_1460 : decode cL_law 1460 = .ok (.iaload, 1) := by decide +kernel
theorem dL_law_1461 : decode cL_law 1461 = .ok (.invokevirtual 171, 3) := by decide +kernel
theorem dL_law_1464 : decode cL_law 1464 = .ok (.istore 7, 2) := by decide +kernel
theorem dL_law_1466 : decode cL_law 1466 = .ok (.aload_n 2, 1) := by decide +kernel
theorem dL_law_1467 : decode cL_law 1467 = .ok (.invokevirtual 99, 3) := by decide +kernel
theorem dL_law_1470 : decode cL_law 1470 = .ok (.iload 6, 2) := by decide +kernel
theorem dL_law_1472 : decode cL_law 1472 = .ok (.if_icmp .eq 5, 3) := by decide +kernel
theorem dL_law_1475 : decode cL_law 1475 = .ok (.iconst 0, 1) := by decide +kernel
theorem dL_law_1476 : decode cL_law 1476 = .ok (.ireturn, 1) := by decide +kernel
theorem dL_law_1477 : decode cL_law 1477 = .ok (.iload 6, 2) := by decide +kernel
theorem dL_law_1479 : decode cL_law 1479 = .ok (.ifCond .ne 15, 3) := by decide +kernel
theorem dL_law_1482 : decode cL_law 1482 = .ok (.aload_n 3, 1) := by decide +kernel
theorem dL_law_1483 : decode cL_law 1483 = .ok (.iconst 0, 1) := by decide +kernel
theorem dL_law_1484 : decode cL_law 1484 = .ok (.laload, 1) := by decide +kernel
theorem dL_law_1485 : decode cL_law 1485 = .ok (.iload 7, 2) := by decide +kernel
theorem dL_law_1487 : decode cL_law 1487 = .ok (.i2l, 1) := by decide +kernel
theorem dL_law_1488 : decode cL_law 1488 = .ok (.lcmp, 1) := by decide +kernel
theorem dL_law_1489 : decode cL_law 1489 = .ok (.ifCond .eq 5, 3) := by decide +kernel
theorem dL_law_1492 : decode cL_law 1492 = .ok (.iconst 0, 1) := by decide +kernel
theorem dL_law_1493 : decode cL_law 1493 = .ok (.ireturn, 1) := by decide +kernel
theorem dL_law_1494 : decode cL_law 1494 = .ok (.goto 239, 3) := by decide +kernel
theorem dL_law_1497 : decode cL_law 1497 = .ok (.aload_n 1, 1) := by decide +kernel
theorem dL_law_1498 : decode cL_law 1498 = .ok (.aload_n 0, 1) := by decide +kernel
theorem dL_law_1499 : decode cL_law 1499 = .ok (.iload 5, 2) := by decide +kernel
theorem dL_law_1501 : decode cL_law 1501 = .ok (.iconst 1, 1) := by decide +kernel
theorem dL_law_1502 : decode cL_law 1502 = .ok (.iadd, 1) := by decide +kernel
theorem dL_law_1503 : decode cL_law 1503 = .ok (.iaload, 1) := by decide +kernel
theorem dL_law_1504 : decode cL_law 1504 = .ok (.aload_n 0, 1) := by decide +kernel
theorem dL_law_1505 : decode cL_law 1505 = .ok (.iload 5, 2) := by decide +kernel
theorem dL_law_1507 : decode cL_law 1507 = .ok (.iconst 2, 1) := by decide +kernel
theorem dL_law_1508 : decode cL_law 1508 = .ok (.iadd, 1) := by decide +kernel
theorem dL_law_1509 : decode cL_law 1509 = .ok (.iaload, 1) := by decide +kernel
theorem dL_law_1510 : decode cL_law 1510 = .ok (.aload_n 0, 1) := by decide +kernel
theorem dL_law_1511 : decode cL_law 1511 = .ok (.iload 5, 2) := by decide +kernel
theorem dL_law_1513 : decode cL_law 1513 = .ok (.iconst 3, 1) := by decide +kernel
theorem dL_law_1514 : decode cL_law 1514 = .ok (.iadd, 1) := by decide +kernel
theorem dL_law_1515 : decode cL_law 1515 = .ok (.iaload, 1) := by decide +kernel
theorem dL_law_1516 : decode cL_law 1516 = .ok (.aload_n 3, 1) := by decide +kernel
theorem dL_law_1517 : decode cL_law 1517 = .ok (.invokestatic 172, 3) := by decide +kernel
theorem dL_law_1520 : decode cL_law 1520 = .ok (.istore 6, 2) := by decide +kernel
theorem dL_law_1522 : decode cL_law 1522 = .ok (.aload_n 2, 1) := by decide +kernel
theorem dL_law_1523 : decode cL_law 1523 = .ok (.aload_n 0, 1) := by decide +kernel
theorem dL_law_1524 : decode cL_law 1524 = .ok (.iload 5, 2) := by decide +kernel
theorem dL_law_1526 : decode cL_law 1526 = .ok (.iconst 1, 1) := by decide +kernel
theorem dL_law_1527 : decode cL_law 1527 = .ok (.iadd, 1) := by decide +kernel
theorem dL_law_1528 : decode cL_law 1528 = .ok (.iaload, 1) := by decide +kernel
theorem dL_law_1529 : decode cL_law 1529 = .ok (.aload_n 0, 1) := by decide +kernel
theorem dL_law_1530 : decode cL_law 1530 = .ok (.iload 5, 2) := by decide +kernel
theorem dL_law_1532 : decode cL_law 1532 = .ok (.iconst 2, 1) := by decide +kernel
theorem dL_law_1533 : decode cL_law 1533 = .ok (.iadd, 1) := by decide +kernel
theorem dL_law_1534 : decode cL_law 1534 = .ok (.iaload, 1) := by decide +kernel
theorem dL_law_1535 : decode cL_law 1535 = .ok (.aload_n 0, 1) := by decide +kernel
theorem dL_law_1536 : decode cL_law 1536 = .ok (.iload 5, 2) := by decide +kernel
theorem dL_law_1538 : decode cL_law 1538 = .ok (.iconst 3, 1) := by decide +kernel
theorem dL_law_1539 : decode cL_law 1539 = .ok (.iadd, 1) := by decide +kernel
theorem dL_law_1540 : decode cL_law 1540 = .ok (.iaload, 1) := by decide +kernel
theorem dL_law_1541 : decode cL_law 1541 = .ok (.invokevirtual 174, 3) := by decide +kernel
theorem dL_law_1544 : decode cL_law 1544 = .ok (.istore 7, 2) := by decide +kernel
theorem dL_law_1546 : decode cL_law 1546 = .ok (.aload_n 2, 1) := by decide +kernel
theorem dL_law_1547 : decode cL_law 1547 = .ok (.invokevirtual 99, 3) := by decide +kernel
theorem dL_law_1550 : decode cL_law 1550 = .ok (.iload 6, 2) := by decide +kernel
theorem dL_law_1552 : decode cL_law 1552 = .ok (.if_icmp .eq 5, 3) := by decide +kernel
theorem dL_law_1555 : decode cL_law 1555 = .ok (.iconst 0, 1) := by decide +kernel
theorem dL_law_1556 : decode cL_law 1556 = .ok (.ireturn, 1) := by decide +kernel
theorem dL_law_1557 : decode cL_law 1557 = .ok (.iload 6, 2) := by decide +kernel
theorem dL_law_1559 : decode cL_law 1559 = .ok (.ifCond .ne 15, 3) := by decide +kernel
theorem dL_law_1562 : decode cL_law 1562 = .ok (.aload_n 3, 1) := by decide +kernel
theorem dL_law_1563 : decode cL_law 1563 = .ok (.iconst 0, 1) := by decide +kernel
theorem dL_law_1564 : decode cL_law 1564 = .ok (.laload, 1) := by decide +kernel
theorem dL_law_1565 : decode cL_law 1565 = .ok (.iload 7, 2) := by decide +kernel
theorem dL_law_1567 : decode cL_law 1567 = .ok (.i2l, 1) := by decide +kernel
theorem dL_law_1568 : decode cL_law 1568 = .ok (.lcmp, 1) := by decide +kernel
theorem dL_law_1569 : decode cL_law 1569 = .ok (.ifCond .eq 5, 3) := by decide +kernel
theorem dL_law_1572 : decode cL_law 1572 = .ok (.iconst 0, 1) := by decide +kernel
theorem dL_law_1573 : decode cL_law 1573 = .ok (.ireturn, 1) := by decide +kernel
theorem dL_law_1574 : decode cL_law 1574 = .ok (.goto 159, 3) := by decide +kernel
theorem dL_law_1577 : decode cL_law 1577 = .ok (.aload_n 1, 1) := by decide +kernel
theorem dL_law_1578 : decode cL_law 1578 = .ok (.aload_n 3, 1) := by decide +kernel
theorem dL_law_1579 : decode cL_law 1579 = .ok (.invokestatic 175, 3) := by decide +kernel
theorem dL_law_1582 : decode cL_law 1582 = .ok (.istore 6, 2) := by decide +kernel
theorem dL_law_1584 : decode cL_law 1584 = .ok (.aload_n 2, 1) := by decide +kernel
theorem dL_law_1585 : decode cL_law 1585 = .ok (.invokevirtual 177, 3) := by decide +kernel
theorem dL_law_1588 : decode cL_law 1588 = .ok (.istore 7, 2) := by decide +kernel
theorem dL_law_1590 : decode cL_law 1590 = .ok (.aload_n 2, 1) := by decide +kernel
theorem dL_law_1591 : decode cL_law 1591 = .ok (.invokevirtual 99, 3) := by decide +kernel
theorem dL_law_1594 : decode cL_law 1594 = .ok (.iload 6, 2) := by decide +kernel
theorem dL_law_1596 : decode cL_law 1596 = .ok (.if_icmp .eq 5, 3) := by decide +kernel
theorem dL_law_1599 : decode cL_law 1599 = .ok (.iconst 0, 1) := by decide +kernel
theorem dL_law_1600 : decode cL_law 1600 = .ok (.ireturn, 1) := by decide +kernel
theorem dL_law_1601 : decode cL_law 1601 = .ok (.iload 6, 2) := by decide +kernel
theorem dL_law_1603 : decode cL_law 1603 = .ok (.ifCond .ne 15, 3) := by decide +kernel
theorem dL_law_1606 : decode cL_law 1606 = .ok (.aload_n 3, 1) := by decide +kernel
theorem dL_law_1607 : decode cL_law 1607 = .ok (.iconst 0, 1) := by decide +kernel
theorem dL_law_1608 : decode cL_law 1608 = .ok (.laload, 1) := by decide +kernel
theorem dL_law_1609 : decode cL_law 1609 = .ok (.iload 7, 2) := by decide +kernel
theorem dL_law_1611 : decode cL_law 1611 = .ok (.i2l, 1) := by decide +kernel
theorem dL_law_1612 : decode cL_law 1612 = .ok (.lcmp, 1) := by decide +kernel
theorem dL_law_1613 : decode cL_law 1613 = .ok (.ifCond .eq 5, 3) := by decide +kernel
theorem dL_law_1616 : decode cL_law 1616 = .ok (.iconst 0, 1) := by decide +kernel
theorem dL_law_1617 : decode cL_law 1617 = .ok (.ireturn, 1) := by decide +kernel
theorem dL_law_1618 : decode cL_law 1618 = .ok (.goto 115, 3) := by decide +kernel
theorem dL_law_1621 : decode cL_law 1621 = .ok (.aload_n 1, 1) := by decide +kernel
theorem dL_law_1622 : decode cL_law 1622 = .ok (.aload_n 3, 1) := by decide +kernel
theorem dL_law_1623 : decode cL_law 1623 = .ok (.invokestatic 178, 3) := by decide +kernel
theorem dL_law_1626 : decode cL_law 1626 = .ok (.istore 6, 2) := by decide +kernel
theorem dL_law_1628 : decode cL_law 1628 = .ok (.aload_n 2, 1) := by decide +kernel
theorem dL_law_1629 : decode cL_law 1629 = .ok (.invokevirtual 180, 3) := by decide +kernel
theorem dL_law_1632 : decode cL_law 1632 = .ok (.istore 7, 2) := by decide +kernel
theorem dL_law_1634 : decode cL_law 1634 = .ok (.aload_n 2, 1) := by decide +kernel
theorem dL_law_1635 : decode cL_law 1635 = .ok (.invokevirtual 99, 3) := by decide +kernel
theorem dL_law_1638 : decode cL_law 1638 = .ok (.iload 6, 2) := by decide +kernel
theorem dL_law_1640 : decode cL_law 1640 = .ok (.if_icmp .eq 5, 3) := by decide +kernel
theorem dL_law_1643 : decode cL_law 1643 = .ok (.iconst 0, 1) := by decide +kernel
theorem dL_law_1644 : decode cL_law 1644 = .ok (.ireturn, 1) := by decide +kernel
theorem dL_law_1645 : decode cL_law 1645 = .ok (.iload 6, 2) := by decide +kernel
theorem dL_law_1647 : decode cL_law 1647 = .ok (.ifCond .ne 15, 3) := by decide +kernel
theorem dL_law_1650 : decode cL_law 1650 = .ok (.aload_n 3, 1) := by decide +kernel
theorem dL_law_1651 : decode cL_law 1651 = .ok (.iconst 0, 1) := by decide +kernel
theorem dL_law_1652 : decode cL_law 1652 = .ok (.laload, 1) := by decide +kernel
theorem dL_law_1653 : decode cL_law 1653 = .ok (.iload 7, 2) := by decide +kernel
theorem dL_law_1655 : decode cL_law 1655 = .ok (.i2l, 1) := by decide +kernel
theorem dL_law_1656 : decode cL_law 1656 = .ok (.lcmp, 1) := by decide +kernel
theorem dL_law_1657 : decode cL_law 1657 = .ok (.ifCond .eq 5, 3) := by decide +kernel
theorem dL_law_1660 : decode cL_law 1660 = .ok (.iconst 0, 1) := by decide +kernel
theorem dL_law_1661 : decode cL_law 1661 = .ok (.ireturn, 1) := by decide +kernel
theorem dL_law_1662 : decode cL_law 1662 = .ok (.goto 71, 3) := by decide +kernel
theorem dL_law_1665 : decode cL_law 1665 = .ok (.aload_n 1, 1) := by decide +kernel
theorem dL_law_1666 : decode cL_law 1666 = .ok (.aload_n 0, 1) := by decide +kernel
theorem dL_law_1667 : decode cL_law 1667 = .ok (.iload 5, 2) := by decide +kernel
theorem dL_law_1669 : decode cL_law 1669 = .ok (.iconst 1, 1) := by decide +kernel
theorem dL_law_1670 : decode cL_law 1670 = .ok (.iadd, 1) := by decide +kernel
theorem dL_law_1671 : decode cL_law 1671 = .ok (.iaload, 1) := by decide +kernel
theorem dL_law_1672 : decode cL_law 1672 = .ok (.aload_n 0, 1) := by decide +kernel
theorem dL_law_1673 : decode cL_law 1673 = .ok (.iload 5, 2) := by decide +kernel
theorem dL_law_1675 : decode cL_law 1675 = .ok (.iconst 2, 1) := by decide +kernel
theorem dL_law_1676 : decode cL_law 1676 = .ok (.iadd, 1) := by decide +kernel
theorem dL_law_1677 : decode cL_law 1677 = .ok (.iaload, 1) := by decide +kernel
theorem dL_law_1678 : decode cL_law 1678 = .ok (.aload_n 3, 1) := by decide +kernel
theorem dL_law_1679 : decode cL_law 1679 = .ok (.invokestatic 181, 3) := by decide +kernel
theorem dL_law_1682 : decode cL_law 1682 = .ok (.istore 6, 2) := by decide +kernel
theorem dL_law_1684 : decode cL_law 1684 = .ok (.aload_n 2, 1) := by decide +kernel
theorem dL_law_1685 : decode cL_law 1685 = .ok (.aload_n 0, 1) := by decide +kernel
theorem dL_law_1686 : decode cL_law 1686 = .ok (.iload 5, 2) := by decide +kernel
theorem dL_law_1688 : decode cL_law 1688 = .ok (.iconst 1, 1) := by decide +kernel
theorem dL_law_1689 : decode cL_law 1689 = .ok (.iadd, 1) := by decide +kernel
theorem dL_law_1690 : decode cL_law 1690 = .ok (.iaload, 1) := by decide +kernel
theorem dL_law_1691 : decode cL_law 1691 = .ok (.aload_n 0, 1) := by decide +kernel
theorem dL_law_1692 : decode cL_law 1692 = .ok (.iload 5, 2) := by decide +kernel
theorem dL_law_1694 : decode cL_law 1694 = .ok (.iconst 2, 1) := by decide +kernel
theorem dL_law_1695 : decode cL_law 1695 = .ok (.iadd, 1) := by decide +kernel
theorem dL_law_1696 : decode cL_law 1696 = .ok (.iaload, 1) := by decide +kernel
theorem dL_law_1697 : decode cL_law 1697 = .ok (.invokevirtual 183, 3) := by decide +kernel
theorem dL_law_1700 : decode cL_law 1700 = .ok (.istore 7, 2) := by decide +kernel
theorem dL_law_1702 : decode cL_law 1702 = .ok (.aload_n 2, 1) := by decide +kernel
theorem dL_law_1703 : decode cL_law 1703 = .ok (.invokevirtual 99, 3) := by decide +kernel
theorem dL_law_1706 : decode cL_law 1706 = .ok (.iload 6, 2) := by decide +kernel
theorem dL_law_1708 : decode cL_law 1708 = .ok (.if_icmp .eq 5, 3) := by decide +kernel
theorem dL_law_1711 : decode cL_law 1711 = .ok (.iconst 0, 1) := by decide +kernel
theorem dL_law_1712 : decode cL_law 1712 = .ok (.ireturn, 1) := by decide +kernel
theorem dL_law_1713 : decode cL_law 1713 = .ok (.iload 6, 2) := by decide +kernel
theorem dL_law_1715 : decode cL_law 1715 = .ok (.ifCond .ne 15, 3) := by decide +kernel
theorem dL_law_1718 : decode cL_law 1718 = .ok (.aload_n 3, 1) := by decide +kernel
theorem dL_law_1719 : decode cL_law 1719 = .ok (.iconst 0, 1) := by decide +kernel
theorem dL_law_1720 : decode cL_law 1720 = .ok (.laload, 1) := by decide +kernel
theorem dL_law_1721 : decode cL_law 1721 = .ok (.iload 7, 2) := by decide +kernel
theorem dL_law_1723 : decode cL_law 1723 = .ok (.i2l, 1) := by decide +kernel
theorem dL_law_1724 : decode cL_law 1724 = .ok (.lcmp, 1) := by decide +kernel
theorem dL_law_1725 : decode cL_law 1725 = .ok (.ifCond .eq 5, 3) := by decide +kernel
theorem dL_law_1728 : decode cL_law 1728 = .ok (.iconst 0, 1) := by decide +kernel
theorem dL_law_1729 : decode cL_law 1729 = .ok (.ireturn, 1) := by decide +kernel
theorem dL_law_1730 : decode cL_law 1730 = .ok (.goto 3, 3) := by decide +kernel
theorem dL_law_1733 : decode cL_law 1733 = .ok (.iinc 5 5, 3) := by decide +kernel
theorem dL_law_1736 : decode cL_law 1736 = .ok (.goto (-1708), 3) := by decide +kernel
theorem dL_law_1739 : decode cL_law 1739 = .ok (.iconst 1, 1) := by decide +kernel
theorem dL_law_1740 : decode cL_law 1740 = .ok (.ireturn, 1) := by decide +kernel
end
