section
def lw_okq (q : MethodName × Nat) : Prop := (q.1.cls ≠ "java/lang/invoke/MethodHandle" ∧ q.1.cls ≠ "java/lang/invoke/VarHandle") ∧ Cond.instantiable q.1.cls q.2 ∈ tables_1 ∧ Cond.privateMethod q.1 ∈ tables_1 ∧ Cond.instanceMethod q.1 ∈ tables_1
theorem lw_p0 : lw_okq (⟨"java/lang/Throwable", "fillInStackTrace", "(I)Ljava/lang/Throwable;"⟩, 6) := ⟨⟨by decide +kernel, by decide +kernel⟩, List.mem_of_getElem? (i := 147) (by decide +kernel), List.mem_of_getElem? (i := 145) (by decide +kernel), List.mem_of_getElem? (i := 146) (by decide +kernel)⟩
theorem lw_p1 : lw_okq (⟨"HybridTrack", "isStoodOn", "(II)Z"⟩, 7) := ⟨⟨by decide +kernel, by decide +kernel⟩, List.mem_of_getElem? (i := 11) (by decide +kernel), List.mem_of_getElem? (i := 194) (by decide +kernel), List.mem_of_getElem? (i := 195) (by decide +kernel)⟩
theorem lw_p2 : lw_okq (⟨"HybridTrack$Vehicle", "standsWithin", "(II)Z"⟩, 13) := ⟨⟨by decide +kernel, by decide +kernel⟩, List.mem_of_getElem? (i := 20) (by decide +kernel), List.mem_of_getElem? (i := 198) (by decide +kernel), List.mem_of_getElem? (i := 199) (by decide +kernel)⟩
theorem lw_p3 : lw_okq (⟨"HybridTrack$Vehicle", "lastPlace", "()I"⟩, 13) := ⟨⟨by decide +kernel, by decide +kernel⟩, List.mem_of_getElem? (i := 20) (by decide +kernel), List.mem_of_getElem? (i := 202) (by decide +kernel), List.mem_of_getElem? (i := 203) (by decide +kernel)⟩
theorem lw_p4 : lw_okq (⟨"HybridTrack", "isAnyClaimed", "(III)Z"⟩, 7) := ⟨⟨by decide +kernel, by decide +kernel⟩, List.mem_of_getElem? (i := 11) (by decide +kernel), List.mem_of_getElem? (i := 210) (by decide +kernel), List.mem_of_getElem? (i := 211) (by decide +kernel)⟩
theorem lw_p5 : lw_okq (⟨"HybridTrack$Vehicle", "claimsWithin", "(II)Z"⟩, 13) := ⟨⟨by decide +kernel, by decide +kernel⟩, List.mem_of_getElem? (i := 20) (by decide +kernel), List.mem_of_getElem? (i := 214) (by decide +kernel), List.mem_of_getElem? (i := 215) (by decide +kernel)⟩
theorem lw_p6 : lw_okq (⟨"HybridTrack$Vehicle", "becomeTrain", "(II)V"⟩, 13) := ⟨⟨by decide +kernel, by decide +kernel⟩, List.mem_of_getElem? (i := 20) (by decide +kernel), List.mem_of_getElem? (i := 219) (by decide +kernel), List.mem_of_getElem? (i := 220) (by decide +kernel)⟩
theorem lw_p7 : lw_okq (⟨"HybridTrack$Vehicle", "sendReport", "()V"⟩, 13) := ⟨⟨by decide +kernel, by decide +kernel⟩, List.mem_of_getElem? (i := 20) (by decide +kernel), List.mem_of_getElem? (i := 223) (by decide +kernel), List.mem_of_getElem? (i := 224) (by decide +kernel)⟩
theorem lw_p8 : lw_okq (⟨"HybridTrack", "findStates", "()V"⟩, 7) := ⟨⟨by decide +kernel, by decide +kernel⟩, List.mem_of_getElem? (i := 11) (by decide +kernel), List.mem_of_getElem? (i := 227) (by decide +kernel), List.mem_of_getElem? (i := 228) (by decide +kernel)⟩
theorem lw_p9 : lw_okq (⟨"HybridTrack", "locateTrains", "()V"⟩, 7) := ⟨⟨by decide +kernel, by decide +kernel⟩, List.mem_of_getElem? (i := 11) (by decide +kernel), List.mem_of_getElem? (i := 231) (by decide +kernel), List.mem_of_getElem? (i := 232) (by decide +kernel)⟩
theorem lw_p10 : lw_okq (⟨"HybridTrack$Vehicle", "isLocatedOn", "(I)Z"⟩, 13) := ⟨⟨by decide +kernel, by decide +kernel⟩, List.mem_of_getElem? (i := 20) (by decide +kernel), List.mem_of_getElem? (i := 235) (by decide +kernel), List.mem_of_getElem? (i := 236) (by decide +kernel)⟩
theorem lw_p11 : lw_okq (⟨"HybridTrack$Vehicle", "isMute", "()Z"⟩, 13) := ⟨⟨by decide +kernel, by decide +kernel⟩, List.mem_of_getElem? (i := 20) (by decide +kernel), List.mem_of_getElem? (i := 239) (by decide +kernel), List.mem_of_getElem? (i := 240) (by decide +kernel)⟩
theorem lw_p12 : lw_okq (⟨"HybridTrack", "stateByReports", "(I)I"⟩, 7) := ⟨⟨by decide +kernel, by decide +kernel⟩, List.mem_of_getElem? (i := 11) (by decide +kernel), List.mem_of_getElem? (i := 243) (by decide +kernel), List.mem_of_getElem? (i := 244) (by decide +kernel)⟩
theorem lw_p13 : lw_okq (⟨"HybridTrack", "isDetectedOccupied", "(I)Z"⟩, 7) := ⟨⟨by decide +kernel, by decide +kernel⟩, List.mem_of_getElem? (i := 11) (by decide +kernel), List.mem_of_getElem? (i := 247) (by decide +kernel), List.mem_of_getElem? (i := 248) (by decide +kernel)⟩
theorem lw_p14 : lw_okq (⟨"HybridTrack", "stateUnderTrains", "(I)I"⟩, 7) := ⟨⟨by decide +kernel, by decide +kernel⟩, List.mem_of_getElem? (i := 11) (by decide +kernel), List.mem_of_getElem? (i := 251) (by decide +kernel), List.mem_of_getElem? (i := 252) (by decide +kernel)⟩
theorem lw_p15 : lw_okq (⟨"HybridTrack", "staysFree", "(I)Z"⟩, 7) := ⟨⟨by decide +kernel, by decide +kernel⟩, List.mem_of_getElem? (i := 11) (by decide +kernel), List.mem_of_getElem? (i := 255) (by decide +kernel), List.mem_of_getElem? (i := 256) (by decide +kernel)⟩
def lw_privs_1 : List (MethodName × Nat) := [(⟨"java/lang/Throwable", "fillInStackTrace", "(I)Ljava/lang/Throwable;"⟩, 6), (⟨"HybridTrack", "isStoodOn", "(II)Z"⟩, 7), (⟨"HybridTrack$Vehicle", "standsWithin", "(II)Z"⟩, 13), (⟨"HybridTrack$Vehicle", "lastPlace", "()I"⟩, 13), (⟨"HybridTrack", "isAnyClaimed", "(III)Z"⟩, 7), (⟨"HybridTrack$Vehicle", "claimsWithin", "(II)Z"⟩, 13), (⟨"HybridTrack$Vehicle", "becomeTrain", "(II)V"⟩, 13), (⟨"HybridTrack$Vehicle", "sendReport", "()V"⟩, 13), (⟨"HybridTrack", "findStates", "()V"⟩, 7), (⟨"HybridTrack", "locateTrains", "()V"⟩, 7), (⟨"HybridTrack$Vehicle", "isLocatedOn", "(I)Z"⟩, 13), (⟨"HybridTrack$Vehicle", "isMute", "()Z"⟩, 13), (⟨"HybridTrack", "stateByReports", "(I)I"⟩, 7), (⟨"HybridTrack", "isDetectedOccupied", "(I)Z"⟩, 7), (⟨"HybridTrack", "stateUnderTrains", "(I)I"⟩, 7), (⟨"HybridTrack", "staysFree", "(I)Z"⟩, 7)]
theorem lw_r1 : ∀ q ∈ lw_privs_1, lw_okq q := List.forall_mem_cons.mpr ⟨lw_p0, List.forall_mem_cons.mpr ⟨lw_p1, List.forall_mem_cons.mpr ⟨lw_p2, List.forall_mem_cons.mpr ⟨lw_p3, List.forall_mem_cons.mpr ⟨lw_p4, List.forall_mem_cons.mpr ⟨lw_p5, List.forall_mem_cons.mpr ⟨lw_p6, List.forall_mem_cons.mpr ⟨lw_p7, List.forall_mem_cons.mpr ⟨lw_p8, List.forall_mem_cons.mpr ⟨lw_p9, List.forall_mem_cons.mpr ⟨lw_p10, List.forall_mem_cons.mpr ⟨lw_p11, List.forall_mem_cons.mpr ⟨lw_p12, List.forall_mem_cons.mpr ⟨lw_p13, List.forall_mem_cons.mpr ⟨lw_p14, List.forall_mem_cons.mpr ⟨lw_p15, fun _ h => absurd h List.not_mem_nil⟩⟩⟩⟩⟩⟩⟩⟩⟩⟩⟩⟩⟩⟩⟩⟩
theorem lw_p16 : lw_okq (⟨"HybridTrack", "isAnyTrainLocated", "(II)Z"⟩, 7) := ⟨⟨by decide +kernel, by decide +kernel⟩, List.mem_of_getElem? (i := 11) (by decide +kernel), List.mem_of_getElem? (i := 259) (by decide +kernel), List.mem_of_getElem? (i := 260) (by decide +kernel)⟩
theorem lw_p17 : lw_okq (⟨"HybridTrack", "isAnyClaimedByMute", "(II)Z"⟩, 7) := ⟨⟨by decide +kernel, by decide +kernel⟩, List.mem_of_getElem? (i := 11) (by decide +kernel), List.mem_of_getElem? (i := 263) (by decide +kernel), List.mem_of_getElem? (i := 264) (by decide +kernel)⟩
theorem lw_p18 : lw_okq (⟨"HybridTrack", "wasLeftByBrokenTrain", "(I)Z"⟩, 7) := ⟨⟨by decide +kernel, by decide +kernel⟩, List.mem_of_getElem? (i := 11) (by decide +kernel), List.mem_of_getElem? (i := 268) (by decide +kernel), List.mem_of_getElem? (i := 269) (by decide +kernel)⟩
theorem lw_p19 : lw_okq (⟨"HybridTrack$Vehicle", "hasLeft", "(I)Z"⟩, 13) := ⟨⟨by decide +kernel, by decide +kernel⟩, List.mem_of_getElem? (i := 20) (by decide +kernel), List.mem_of_getElem? (i := 272) (by decide +kernel), List.mem_of_getElem? (i := 273) (by decide +kernel)⟩
theorem lw_p20 : lw_okq (⟨"HybridTrack", "wasLeftByWholeTrain", "(I)Z"⟩, 7) := ⟨⟨by decide +kernel, by decide +kernel⟩, List.mem_of_getElem? (i := 11) (by decide +kernel), List.mem_of_getElem? (i := 276) (by decide +kernel), List.mem_of_getElem? (i := 277) (by decide +kernel)⟩
theorem lw_p21 : lw_okq (⟨"HybridTrack", "existingTrain", "(I)LHybridTrack$Vehicle;"⟩, 7) := ⟨⟨by decide +kernel, by decide +kernel⟩, List.mem_of_getElem? (i := 11) (by decide +kernel), List.mem_of_getElem? (i := 288) (by decide +kernel), List.mem_of_getElem? (i := 289) (by decide +kernel)⟩
theorem lw_p22 : lw_okq (⟨"HybridTrack", "isOnTrack", "(I)Z"⟩, 7) := ⟨⟨by decide +kernel, by decide +kernel⟩, List.mem_of_getElem? (i := 11) (by decide +kernel), List.mem_of_getElem? (i := 292) (by decide +kernel), List.mem_of_getElem? (i := 293) (by decide +kernel)⟩
theorem lw_p23 : lw_okq (⟨"HybridTrack", "farthestFreeFrom", "(II)I"⟩, 7) := ⟨⟨by decide +kernel, by decide +kernel⟩, List.mem_of_getElem? (i := 11) (by decide +kernel), List.mem_of_getElem? (i := 328) (by decide +kernel), List.mem_of_getElem? (i := 329) (by decide +kernel)⟩
theorem lw_p24 : lw_okq (⟨"HybridTrack$Vehicle", "becomeWagon", "(II)V"⟩, 13) := ⟨⟨by decide +kernel, by decide +kernel⟩, List.mem_of_getElem? (i := 20) (by decide +kernel), List.mem_of_getElem? (i := 349) (by decide +kernel), List.mem_of_getElem? (i := 350) (by decide +kernel)⟩
theorem lw_p25 : lw_okq (⟨"HybridTrack", "makeTick", "()V"⟩, 7) := ⟨⟨by decide +kernel, by decide +kernel⟩, List.mem_of_getElem? (i := 11) (by decide +kernel), List.mem_of_getElem? (i := 377) (by decide +kernel), List.mem_of_getElem? (i := 378) (by decide +kernel)⟩
theorem lw_p26 : lw_okq (⟨"HybridTrack", "goForward", "(LHybridTrack$Vehicle;)V"⟩, 7) := ⟨⟨by decide +kernel, by decide +kernel⟩, List.mem_of_getElem? (i := 11) (by decide +kernel), List.mem_of_getElem? (i := 381) (by decide +kernel), List.mem_of_getElem? (i := 382) (by decide +kernel)⟩
theorem lw_p27 : lw_okq (⟨"HybridTrack$Vehicle", "reportOrAge", "()V"⟩, 13) := ⟨⟨by decide +kernel, by decide +kernel⟩, List.mem_of_getElem? (i := 20) (by decide +kernel), List.mem_of_getElem? (i := 385) (by decide +kernel), List.mem_of_getElem? (i := 386) (by decide +kernel)⟩
theorem lw_p28 : lw_okq (⟨"HybridTrack", "sectionsInState", "(I)I"⟩, 7) := ⟨⟨by decide +kernel, by decide +kernel⟩, List.mem_of_getElem? (i := 11) (by decide +kernel), List.mem_of_getElem? (i := 389) (by decide +kernel), List.mem_of_getElem? (i := 390) (by decide +kernel)⟩
theorem lw_p29 : lw_okq (⟨"HybridTrack", "trainsThatCame", "()I"⟩, 7) := ⟨⟨by decide +kernel, by decide +kernel⟩, List.mem_of_getElem? (i := 11) (by decide +kernel), List.mem_of_getElem? (i := 426) (by decide +kernel), List.mem_of_getElem? (i := 427) (by decide +kernel)⟩
theorem lw_p30 : lw_okq (⟨"HybridTrack", "sectionsWronglyFree", "()I"⟩, 7) := ⟨⟨by decide +kernel, by decide +kernel⟩, List.mem_of_getElem? (i := 11) (by decide +kernel), List.mem_of_getElem? (i := 430) (by decide +kernel), List.mem_of_getElem? (i := 431) (by decide +kernel)⟩
theorem lw_p31 : lw_okq (⟨"HybridTrack", "isSectionStoodOn", "(I)Z"⟩, 7) := ⟨⟨by decide +kernel, by decide +kernel⟩, List.mem_of_getElem? (i := 11) (by decide +kernel), List.mem_of_getElem? (i := 434) (by decide +kernel), List.mem_of_getElem? (i := 435) (by decide +kernel)⟩
def lw_privs_2 : List (MethodName × Nat) := [(⟨"HybridTrack", "isAnyTrainLocated", "(II)Z"⟩, 7), (⟨"HybridTrack", "isAnyClaimedByMute", "(II)Z"⟩, 7), (⟨"HybridTrack", "wasLeftByBrokenTrain", "(I)Z"⟩, 7), (⟨"HybridTrack$Vehicle", "hasLeft", "(I)Z"⟩, 13), (⟨"HybridTrack", "wasLeftByWholeTrain", "(I)Z"⟩, 7), (⟨"HybridTrack", "existingTrain", "(I)LHybridTrack$Vehicle;"⟩, 7), (⟨"HybridTrack", "isOnTrack", "(I)Z"⟩, 7), (⟨"HybridTrack", "farthestFreeFrom", "(II)I"⟩, 7), (⟨"HybridTrack$Vehicle", "becomeWagon", "(II)V"⟩, 13), (⟨"HybridTrack", "makeTick", "()V"⟩, 7), (⟨"HybridTrack", "goForward", "(LHybridTrack$Vehicle;)V"⟩, 7), (⟨"HybridTrack$Vehicle", "reportOrAge", "()V"⟩, 13), (⟨"HybridTrack", "sectionsInState", "(I)I"⟩, 7), (⟨"HybridTrack", "trainsThatCame", "()I"⟩, 7), (⟨"HybridTrack", "sectionsWronglyFree", "()I"⟩, 7), (⟨"HybridTrack", "isSectionStoodOn", "(I)Z"⟩, 7)]
theorem lw_r2 : ∀ q ∈ lw_privs_2, lw_okq q := List.forall_mem_cons.mpr ⟨lw_p16, List.forall_mem_cons.mpr ⟨lw_p17, List.forall_mem_cons.mpr ⟨lw_p18, List.forall_mem_cons.mpr ⟨lw_p19, List.forall_mem_cons.mpr ⟨lw_p20, List.forall_mem_cons.mpr ⟨lw_p21, List.forall_mem_cons.mpr ⟨lw_p22, List.forall_mem_cons.mpr ⟨lw_p23, List.forall_mem_cons.mpr ⟨lw_p24, List.forall_mem_cons.mpr ⟨lw_p25, List.forall_mem_cons.mpr ⟨lw_p26, List.forall_mem_cons.mpr ⟨lw_p27, List.forall_mem_cons.mpr ⟨lw_p28, List.forall_mem_cons.mpr ⟨lw_p29, List.forall_mem_cons.mpr ⟨lw_p30, List.forall_mem_cons.mpr ⟨lw_p31, fun _ h => absurd h List.not_mem_nil⟩⟩⟩⟩⟩⟩⟩⟩⟩⟩⟩⟩⟩⟩⟩⟩
theorem lw_p32 : lw_okq (⟨"HybridTrackModel", "raise", "(I)I"⟩, 19) := ⟨⟨by decide +kernel, by decide +kernel⟩, List.mem_of_getElem? (i := 439) (by decide +kernel), List.mem_of_getElem? (i := 515) (by decide +kernel), List.mem_of_getElem? (i := 516) (by decide +kernel)⟩
theorem lw_p33 : lw_okq (⟨"HybridTrackModel", "standsOn", "(II)I"⟩, 19) := ⟨⟨by decide +kernel, by decide +kernel⟩, List.mem_of_getElem? (i := 439) (by decide +kernel), List.mem_of_getElem? (i := 519) (by decide +kernel), List.mem_of_getElem? (i := 520) (by decide +kernel)⟩
theorem lw_p34 : lw_okq (⟨"HybridTrackModel", "last", "(I)I"⟩, 19) := ⟨⟨by decide +kernel, by decide +kernel⟩, List.mem_of_getElem? (i := 439) (by decide +kernel), List.mem_of_getElem? (i := 523) (by decide +kernel), List.mem_of_getElem? (i := 524) (by decide +kernel)⟩
theorem lw_p35 : lw_okq (⟨"HybridTrackModel", "claimed", "(II)Z"⟩, 19) := ⟨⟨by decide +kernel, by decide +kernel⟩, List.mem_of_getElem? (i := 439) (by decide +kernel), List.mem_of_getElem? (i := 527) (by decide +kernel), List.mem_of_getElem? (i := 528) (by decide +kernel)⟩
theorem lw_p36 : lw_okq (⟨"HybridTrackModel", "claims", "(II)Z"⟩, 19) := ⟨⟨by decide +kernel, by decide +kernel⟩, List.mem_of_getElem? (i := 439) (by decide +kernel), List.mem_of_getElem? (i := 531) (by decide +kernel), List.mem_of_getElem? (i := 532) (by decide +kernel)⟩
theorem lw_p37 : lw_okq (⟨"HybridTrackModel", "report", "(I)V"⟩, 19) := ⟨⟨by decide +kernel, by decide +kernel⟩, List.mem_of_getElem? (i := 439) (by decide +kernel), List.mem_of_getElem? (i := 535) (by decide +kernel), List.mem_of_getElem? (i := 536) (by decide +kernel)⟩
theorem lw_p38 : lw_okq (⟨"HybridTrackModel", "findStates", "()V"⟩, 19) := ⟨⟨by decide +kernel, by decide +kernel⟩, List.mem_of_getElem? (i := 439) (by decide +kernel), List.mem_of_getElem? (i := 539) (by decide +kernel), List.mem_of_getElem? (i := 540) (by decide +kernel)⟩
theorem lw_p39 : lw_okq (⟨"HybridTrackModel", "found", "(I)I"⟩, 19) := ⟨⟨by decide +kernel, by decide +kernel⟩, List.mem_of_getElem? (i := 439) (by decide +kernel), List.mem_of_getElem? (i := 543) (by decide +kernel), List.mem_of_getElem? (i := 544) (by decide +kernel)⟩
theorem lw_p40 : lw_okq (⟨"HybridTrackModel", "occupied", "(I)Z"⟩, 19) := ⟨⟨by decide +kernel, by decide +kernel⟩, List.mem_of_getElem? (i := 439) (by decide +kernel), List.mem_of_getElem? (i := 547) (by decide +kernel), List.mem_of_getElem? (i := 548) (by decide +kernel)⟩
theorem lw_p41 : lw_okq (⟨"HybridTrackModel", "many", "(I)I"⟩, 19) := ⟨⟨by decide +kernel, by decide +kernel⟩, List.mem_of_getElem? (i := 439) (by decide +kernel), List.mem_of_getElem? (i := 551) (by decide +kernel), List.mem_of_getElem? (i := 552) (by decide +kernel)⟩
theorem lw_p42 : lw_okq (⟨"HybridTrackModel", "located", "(II)Z"⟩, 19) := ⟨⟨by decide +kernel, by decide +kernel⟩, List.mem_of_getElem? (i := 439) (by decide +kernel), List.mem_of_getElem? (i := 555) (by decide +kernel), List.mem_of_getElem? (i := 556) (by decide +kernel)⟩
theorem lw_p43 : lw_okq (⟨"HybridTrackModel", "mute", "(I)Z"⟩, 19) := ⟨⟨by decide +kernel, by decide +kernel⟩, List.mem_of_getElem? (i := 439) (by decide +kernel), List.mem_of_getElem? (i := 559) (by decide +kernel), List.mem_of_getElem? (i := 560) (by decide +kernel)⟩
theorem lw_p44 : lw_okq (⟨"HybridTrackModel", "accounted", "(I)Z"⟩, 19) := ⟨⟨by decide +kernel, by decide +kernel⟩, List.mem_of_getElem? (i := 439) (by decide +kernel), List.mem_of_getElem? (i := 563) (by decide +kernel), List.mem_of_getElem? (i := 564) (by decide +kernel)⟩
theorem lw_p45 : lw_okq (⟨"HybridTrackModel", "left", "(I)Z"⟩, 19) := ⟨⟨by decide +kernel, by decide +kernel⟩, List.mem_of_getElem? (i := 439) (by decide +kernel), List.mem_of_getElem? (i := 567) (by decide +kernel), List.mem_of_getElem? (i := 568) (by decide +kernel)⟩
theorem lw_p46 : lw_okq (⟨"HybridTrackModel", "isTrain", "(I)Z"⟩, 19) := ⟨⟨by decide +kernel, by decide +kernel⟩, List.mem_of_getElem? (i := 439) (by decide +kernel), List.mem_of_getElem? (i := 575) (by decide +kernel), List.mem_of_getElem? (i := 576) (by decide +kernel)⟩
theorem lw_p47 : lw_okq (⟨"HybridTrackModel", "tickOnce", "()V"⟩, 19) := ⟨⟨by decide +kernel, by decide +kernel⟩, List.mem_of_getElem? (i := 439) (by decide +kernel), List.mem_of_getElem? (i := 607) (by decide +kernel), List.mem_of_getElem? (i := 608) (by decide +kernel)⟩
def lw_privs_3 : List (MethodName × Nat) := [(⟨"HybridTrackModel", "raise", "(I)I"⟩, 19), (⟨"HybridTrackModel", "standsOn", "(II)I"⟩, 19), (⟨"HybridTrackModel", "last", "(I)I"⟩, 19), (⟨"HybridTrackModel", "claimed", "(II)Z"⟩, 19), (⟨"HybridTrackModel", "claims", "(II)Z"⟩, 19), (⟨"HybridTrackModel", "report", "(I)V"⟩, 19), (⟨"HybridTrackModel", "findStates", "()V"⟩, 19), (⟨"HybridTrackModel", "found", "(I)I"⟩, 19), (⟨"HybridTrackModel", "occupied", "(I)Z"⟩, 19), (⟨"HybridTrackModel", "many", "(I)I"⟩, 19), (⟨"HybridTrackModel", "located", "(II)Z"⟩, 19), (⟨"HybridTrackModel", "mute", "(I)Z"⟩, 19), (⟨"HybridTrackModel", "accounted", "(I)Z"⟩, 19), (⟨"HybridTrackModel", "left", "(I)Z"⟩, 19), (⟨"HybridTrackModel", "isTrain", "(I)Z"⟩, 19), (⟨"HybridTrackModel", "tickOnce", "()V"⟩, 19)]
theorem lw_r3 : ∀ q ∈ lw_privs_3, lw_okq q := List.forall_mem_cons.mpr ⟨lw_p32, List.forall_mem_cons.mpr ⟨lw_p33, List.forall_mem_cons.mpr ⟨lw_p34, List.forall_mem_cons.mpr ⟨lw_p35, List.forall_mem_cons.mpr ⟨lw_p36, List.forall_mem_cons.mpr ⟨lw_p37, List.forall_mem_cons.mpr ⟨lw_p38, List.forall_mem_cons.mpr ⟨lw_p39, List.forall_mem_cons.mpr ⟨lw_p40, List.forall_mem_cons.mpr ⟨lw_p41, List.forall_mem_cons.mpr ⟨lw_p42, List.forall_mem_cons.mpr ⟨lw_p43, List.forall_mem_cons.mpr ⟨lw_p44, List.forall_mem_cons.mpr ⟨lw_p45, List.forall_mem_cons.mpr ⟨lw_p46, List.forall_mem_cons.mpr ⟨lw_p47, fun _ h => absurd h List.not_mem_nil⟩⟩⟩⟩⟩⟩⟩⟩⟩⟩⟩⟩⟩⟩⟩⟩
theorem lw_p48 : lw_okq (⟨"HybridTrackModel", "countStates", "(I)I"⟩, 19) := ⟨⟨by decide +kernel, by decide +kernel⟩, List.mem_of_getElem? (i := 439) (by decide +kernel), List.mem_of_getElem? (i := 611) (by decide +kernel), List.mem_of_getElem? (i := 612) (by decide +kernel)⟩
theorem lw_p49 : lw_okq (⟨"HybridTrackModel", "stood", "(I)Z"⟩, 19) := ⟨⟨by decide +kernel, by decide +kernel⟩, List.mem_of_getElem? (i := 439) (by decide +kernel), List.mem_of_getElem? (i := 631) (by decide +kernel), List.mem_of_getElem? (i := 632) (by decide +kernel)⟩
def lw_privs_4 : List (MethodName × Nat) := [(⟨"HybridTrackModel", "countStates", "(I)I"⟩, 19), (⟨"HybridTrackModel", "stood", "(I)Z"⟩, 19)]
theorem lw_r4 : ∀ q ∈ lw_privs_4, lw_okq q := List.forall_mem_cons.mpr ⟨lw_p48, List.forall_mem_cons.mpr ⟨lw_p49, fun _ h => absurd h List.not_mem_nil⟩⟩
def lw_privs : List (MethodName × Nat) := lw_privs_1 ++ (lw_privs_2 ++ (lw_privs_3 ++ (lw_privs_4)))
def lw_tbl : List Cond := k2_sels lw_privs ++ tables_1
theorem lw_privs_ok : ∀ q ∈ lw_privs, lw_okq q := by
  show ∀ q ∈ lw_privs_1 ++ (lw_privs_2 ++ (lw_privs_3 ++ (lw_privs_4))), lw_okq q
  exact List.forall_mem_append.mpr ⟨lw_r1, List.forall_mem_append.mpr ⟨lw_r2, List.forall_mem_append.mpr ⟨lw_r3, lw_r4⟩⟩⟩

section VXA
def vx_T (XC : String → State → State → Prop) (st : State) (q : Addr) (t : State) (mc ms : Nat) (free : Addr → Prop) : Prop :=
  ∃ (E : String) (ce : Cell) (L : List Loc), XC E st t ∧ t.heap[q]? = some ce ∧ ce.vm = .none ∧ st.vm.findClass E = some ce.cls ∧ st.WarmedH t.vm ∧ st.sameButNew ({ t with vm := st.vm } : State) L mc ms ∧ ∀ z ∈ L, free z.base
def vx_Q (Qc : Array Value → State → Outcome → State → Prop) (XC : String → State → State → Prop) (mc ms : Nat) (free : Addr → Prop) : Array Value → State → Outcome → State → Prop := fun a st o t =>
  (Qc a st o t ∧ ∃ L, FrameEnd st o t L mc ms ∧ ∀ q ∈ L, free q.base) ∨ ∃ q, o = .threw q ∧ vx_T XC st q t mc ms free
def vx_Met (l : Launch) (y : MethodName) (ws : List Cond) (rm : Room) (Pc : Array Value → State → Prop) (Qc : Array Value → State → Outcome → State → Prop) (XC : String → State → State → Prop) (mc ms : Nat) (free : Addr → Prop) : Prop :=
  MetFree l y (headSpec ws rm) Pc (fun _ _ _ _ _ => True) (vx_Q Qc XC mc ms free)
def vx_Post (XC : String → State → State → Prop) (mc ms : Nat) (free : Addr → Prop) : Pt → Array Value → Addr → Pt → Prop := fun A a q B =>
  ∃ (g : JFrame) (mk : MethodId) (t : State) (L : List Loc) (E : String) (ce : Cell), B.U.heap = t.heap ∧ B.U.vm = t.vm ∧ XC E (A.U.calling g mk a) t ∧ t.heap[q]? = some ce ∧ ce.vm = .none ∧ A.U.vm.findClass E = some ce.cls ∧ B.locs = A.locs ++ L ∧ (∀ z ∈ L, free z.base) ∧ B.cells = A.cells + mc ∧ B.slots = A.slots + ms
def vx_Back (l : Launch) (R : Room) (p : Program) (e : Env) (below : List Frame) (s : State) (sargs : Array Value) (y : MethodName) (len W9 : Nat)
    (Pre : Pt → Array Value → Prop) (Post : Pt → Array Value → Option Value → Pt → Prop) (PostX : Pt → Array Value → Addr → Pt → Prop) : Prop :=
  ∀ (m : MethodId) (meth : Method) (c : Code) (A : Pt) (g : JFrame) (ig : Instr) (mk : MethodId) (a : Array Value),
    Stand p l e R s m sargs below meth c A.U A.locs A.cells A.slots → g.method = m → g.locals.size = c.maxLocals → decode c.code g.pc = .ok (ig, len) →
    2 * g.monitorRoom + (g.stack.map fun v => v.category).sum ≤ W9 → A.U.methodNamed? y = some mk → Pre A a →
    (∃ (v : Option Value) (B : Pt), Stand p l e R s m sargs below meth c B.U B.locs B.cells B.slots ∧ Post A a v B ∧
      Steps p.tables e below (doInvoke e (A.U.setTop g) [] mk a).1 (B.U.setTop { g with pc := g.pc + len, stack := v.toList ++ g.stack })) ∨
    (∃ (q : Addr) (B : Pt), Stand p l e R s m sargs below meth c B.U B.locs B.cells B.slots ∧ PostX A a q B ∧
      Steps p.tables e below (doInvoke e (A.U.setTop g) [] mk a).1 ((B.U.setTop g).pushFrame (.throwing q)))
section Payer
variable {l : Launch} {R : Room} {p : Program} {e : Env} {below : List Frame} {s : State} {sargs : Array Value} {y : MethodName} {len W9 : Nat}
theorem vx_back {ws : List Cond} {rm : Room} {Pc : Array Value → State → Prop} {Qc : Array Value → State → Outcome → State → Prop} {XC : String → State → State → Prop} {mc ms : Nat} {free : Addr → Prop} {bytes : ByteArray} {maxL : Nat} {ret : Option FieldType}
    (hM : vx_Met l y ws rm Pc Qc XC mc ms free) (hblind : FrameBlind Pc) (hrc : rm.cells = mc) (hrs : rm.slots = ms)
    (hframes : rm.frames + 1 ≤ R.frames) (hlocals : W9 + (maxL + 11) + rm.locals ≤ R.locals)
    (hws : ∀ w ∈ ws, ∀ a' U, s.WarmedH U.vm → w.before a' U = true) (hcode : Cond.code y bytes maxL ret ∈ ws) (hinit : ∀ a' U, s.WarmedH U.vm → (Cond.initialized y.cls).before a' U = true) :
    vx_Back l R p e below s sargs y len W9 (PreOf R mc ms Pc) (PostOf Qc mc ms free) (vx_Post XC mc ms free) := by
  intro m meth c A g ig mk a X hg hsize hdg hW hn hp
  have h1 : (headSpec ws rm).pre.before a A.U = true := atoms_intro fun w hw => hws w hw _ _ X.warmed
  have h2 : (Cond.code y bytes maxL ret).before a A.U = true := hws _ hcode _ _ X.warmed
  have h3 : (Cond.initialized y.cls).before a A.U = true := hinit _ _ X.warmed
  have h4 : A.cells + (headSpec ws rm).room.cells ≤ R.cells := by rw [show (headSpec ws rm).room.cells = mc from hrc]; exact hp.1
  have h5 : A.slots + (headSpec ws rm).room.slots ≤ R.slots := by rw [show (headSpec ws rm).room.slots = ms from hrs]; exact hp.2.1
  have hPc : Pc a (A.U.calling g mk a) := hblind _ _ _ _ hp.2.2
  obtain ⟨U, Ls, c0, s0⟩ := A
  dsimp only [Pt.U, Pt.locs, Pt.cells, Pt.slots] at h1 h2 h3 h4 h5 X hn hPc ⊢
  obtain ⟨methY, cY, hmY, hcY, -, hlY, -, -, -, -⟩ := Cond.code_spec hn h2
  obtain ⟨kY, hkY, -⟩ := className_of_methodNamed hn
  have hinitY : kY.init = .initialized := Cond.initialized_spec (findClass_of_methodNamed hn) hkY h3
  have h : At U g.method c below := by rw [hg]; exact X.here
  have hlocals9 : W9 + (maxL + 11) + (headSpec ws rm).room.locals ≤ R.locals := hlocals
  have happ : (headSpec ws rm).appliesLoose y e.platform (U.calling g mk a) = true :=
    Spec.appliesLoose_calling (g := g) h hdg hn hkY hinitY
      (X.room_calling (g := g) (R' := (headSpec ws rm).room) hsize hmY hcY hframes (by rw [hlY]; omega) h4 h5) h1
  obtain ⟨mid, hmid⟩ := h.above
  have hfr : (U.setTop g).frames = (.java g :: mid) ++ below := by rw [State.frames_setTop' g h.top, hmid]; rfl
  obtain ⟨o, s₂, hsteps, -, hend, hq⟩ := Steps.callFree hM p X.admits X.cas X.clock (acts := []) hfr happ hPc trivial
  have hq' : vx_Q Qc XC mc ms free a (U.calling g mk a) o s₂ := hq
  rw [State.frames_setTop' g h.top] at hend
  obtain ⟨g₀, hg0⟩ := Option.isSome_iff_exists.mp h.top
  obtain ⟨r, hr⟩ := State.topJava?_eq_some.mp hg0
  have hr' : (({ U with heap := s₂.heap, slotsUsed := s₂.slotsUsed } : State).setVm s₂.vm).frames = .java g₀ :: r := hr
  rcases hq' with ⟨hqc, L, hfe, hL⟩ | ⟨q, rfl, E, ce, L, hx, hce, hcv, hcl, hW₂, hsm, hL⟩
  · obtain ⟨⟨v, rfl⟩, hW₂, e2, q2, q3, q4, q5, q6⟩ := id hfe
    have e3 : s₂ = ({ (U.calling g mk a).setFrames s₂.frames with heap := s₂.heap, slotsUsed := s₂.slotsUsed } : State).setVm s₂.vm := by
      have : s₂ = ({ s₂ with vm := (U.calling g mk a).vm } : State).setVm s₂.vm := rfl
      rw [e2] at this
      exact this
    obtain ⟨c₂, i₂, len₂, hc₂, hd₂, hf₂⟩ := hend
    have hW' : U.WarmedH s₂.vm := hW₂
    have hcc : c₂ = c := by
      have h1 : s₂.code? g.method = U.code? g.method := by
        rw [State.code?_eq, State.code?_eq, hW'.alike.method?]
      exact Option.some.inj (hc₂.symm.trans (h1.trans h.code))
    subst hcc
    have hlen : len₂ = len := by rw [hdg] at hd₂; cases hd₂; rfl
    subst hlen
    have hs₂ : s₂ = (({ U with heap := s₂.heap, slotsUsed := s₂.slotsUsed } : State).setVm s₂.vm).setTop { g with pc := g.pc + len₂, stack := v.toList ++ g.stack } := by
      refine e3.trans ?_
      rw [hf₂, State.calling_eq h.top, State.setFrames_setFrames, State.setTop_of_frames _ hr', hr]
      rfl
    have hsame : U.sameButNew ({ U with heap := s₂.heap, slotsUsed := s₂.slotsUsed } : State) L mc ms := by
      refine ⟨?_, q2, q3, q4, q5, q6⟩
      obtain ⟨t, ht, -⟩ := State.frames_cons hr
      show ({ U with heap := s₂.heap, slotsUsed := s₂.slotsUsed } : State) = { U.setFrames U.frames with heap := s₂.heap, slotsUsed := s₂.slotsUsed }
      rw [State.setFrames_self ht]
    subst hg
    refine Or.inl ⟨v, ⟨(({ U with heap := s₂.heap, slotsUsed := s₂.slotsUsed } : State).setVm s₂.vm), Ls ++ L, c0 + mc, s0 + ms⟩,
      ⟨X.admits, X.cas, X.clock, X.frames, X.room, X.hears, X.method, X.code, (X.here.setHeapUsed s₂.heap s₂.slotsUsed).setVm hW'.alike, X.tail, State.WarmedH.trans X.warmed hW', X.limits, X.bytes, X.same.trans (hsame.setVm s.vm)⟩,
      ⟨g, mk, s₂, L, rfl, rfl, hqc, rfl, hL, rfl, rfl⟩, ?_⟩
    show Steps p.tables e below _ ((({ U with heap := s₂.heap, slotsUsed := s₂.slotsUsed } : State).setVm s₂.vm).setTop { g with pc := g.pc + len₂, stack := v.toList ++ g.stack })
    rw [← hs₂]
    exact hsteps
  · obtain ⟨e2, q2, q3, q4, q5, q6⟩ := id hsm
    have e3 : s₂ = ({ (U.calling g mk a).setFrames s₂.frames with heap := s₂.heap, slotsUsed := s₂.slotsUsed } : State).setVm s₂.vm := by
      have : s₂ = ({ s₂ with vm := (U.calling g mk a).vm } : State).setVm s₂.vm := rfl
      rw [e2] at this
      exact this
    have hf₂ : s₂.frames = .throwing q :: .java g :: U.frames.tail := hend
    have hW' : U.WarmedH s₂.vm := hW₂
    have hs₂ : s₂ = ((({ U with heap := s₂.heap, slotsUsed := s₂.slotsUsed } : State).setVm s₂.vm).setTop g).pushFrame (.throwing q) := by
      refine e3.trans ?_
      rw [hf₂, State.calling_eq h.top, State.setFrames_setFrames, State.pushFrame, State.frames_setTop _ hr', State.setTop_of_frames _ hr', State.setFrames_setFrames, hr]
      rfl
    have hsame : U.sameButNew ({ U with heap := s₂.heap, slotsUsed := s₂.slotsUsed } : State) L mc ms := by
      refine ⟨?_, q2, q3, q4, q5, q6⟩
      obtain ⟨t, ht, -⟩ := State.frames_cons hr
      show ({ U with heap := s₂.heap, slotsUsed := s₂.slotsUsed } : State) = { U.setFrames U.frames with heap := s₂.heap, slotsUsed := s₂.slotsUsed }
      rw [State.setFrames_self ht]
    subst hg
    refine Or.inr ⟨q, ⟨(({ U with heap := s₂.heap, slotsUsed := s₂.slotsUsed } : State).setVm s₂.vm), Ls ++ L, c0 + mc, s0 + ms⟩,
      ⟨X.admits, X.cas, X.clock, X.frames, X.room, X.hears, X.method, X.code, (X.here.setHeapUsed s₂.heap s₂.slotsUsed).setVm hW'.alike, X.tail, State.WarmedH.trans X.warmed hW', X.limits, X.bytes, X.same.trans (hsame.setVm s.vm)⟩,
      ⟨g, mk, s₂, L, E, ce, rfl, rfl, hx, hce, hcv, hcl, rfl, hL, rfl, rfl⟩, ?_⟩
    show Steps p.tables e below _ (((({ U with heap := s₂.heap, slotsUsed := s₂.slotsUsed } : State).setVm s₂.vm).setTop g).pushFrame (.throwing q))
    rw [← hs₂]
    exact hsteps
end Payer
section Calls
variable {p : Program} {l : Launch} {e : Env} {R : Room} {s : State} {m : MethodId} {args : Array Value} {below : List Frame} {meth : Method} {c : Code} {T : State} {locs : List Loc} {cells slots : Nat}
theorem vx_callV (X : Stand p l e R s m args below meth c T locs cells slots) (hexec : p.tables.exec = Jvm.exec) {own C : String} {index : Nat} {y : MethodName} {bytes : ByteArray} {maxL : Nat} {ret : Option FieldType}
    (hown : s.vm.findClass own = some m.cls) (hlink : (Cond.methodLink own index y).before args s = true) (hinst : (Cond.instanceMethod y).before args s = true) (hsel : (Cond.selects C y y).before args s = true)
    (hcode : (Cond.code y bytes maxL ret).before args s = true) (hy : y.cls ≠ "java/lang/invoke/MethodHandle" ∧ y.cls ≠ "java/lang/invoke/VarHandle")
    {W9 : Nat} {Pre : Pt → Array Value → Prop} {Post : Pt → Array Value → Option Value → Pt → Prop} {PostX : Pt → Array Value → Addr → Pt → Prop} (hK : vx_Back l R p e below s args y 3 W9 Pre Post PostX)
    {b : Addr} {cellB : Cell} (hcell : T.heap[b]? = some cellB) (hobj : cellB.vm.isStatics = false) (hcls : s.vm.findClass C = some cellB.cls)
    {g : JFrame} (hg : g.method = m) (hsize : g.locals.size = c.maxLocals) {argsL rest : List Value} (hlen : ∀ sig, parseMethodDescriptor y.desc = some sig → argsL.length = sig.parameters.length)
    (hstack : g.stack = argsL.reverse ++ .ref b :: rest) (hW : 2 * g.monitorRoom + (rest.map fun v => v.category).sum ≤ W9) (hdg : decode c.code g.pc = .ok (.invokevirtual index, 3))
    (hpre : ∀ vm₁, s.WarmedH vm₁ → Pre ⟨T.setVm vm₁, locs, cells, slots⟩ (Value.ref b :: argsL).toArray) :
    (∃ (v : Option Value) (vm₁ : Vm) (B : Pt), s.WarmedH vm₁ ∧ Stand p l e R s m args below meth c B.U B.locs B.cells B.slots ∧ Post ⟨T.setVm vm₁, locs, cells, slots⟩ (Value.ref b :: argsL).toArray v B ∧
      ∀ target, Steps p.tables e below (B.U.setTop { g with pc := g.pc + 3, stack := v.toList ++ rest }) target → Steps p.tables e below (T.setTop g) target) ∨
    (∃ (q : Addr) (vm₁ : Vm) (B : Pt), s.WarmedH vm₁ ∧ Stand p l e R s m args below meth c B.U B.locs B.cells B.slots ∧ PostX ⟨T.setVm vm₁, locs, cells, slots⟩ (Value.ref b :: argsL).toArray q B ∧
      Steps p.tables e below (T.setTop g) ((B.U.setTop { g with stack := rest }).pushFrame (.throwing q))) := by
  obtain ⟨mk, methM, hnamed, hmethM, hstM, habM⟩ := Cond.instanceMethod_spec hinst
  obtain ⟨methM', cM, hmethM', -, -, -, -, -, -, hsigM⟩ := Cond.code_spec hnamed hcode
  cases hmethM.symm.trans hmethM'
  obtain ⟨c2, r2, m2, q1, q2, q3, q4, kP, hkP, hkPi⟩ := Cond.selects_spec hsel
  cases hcls.symm.trans q1
  cases (State.methodFound?_of_named hnamed hy).symm.trans q2
  cases hnamed.symm.trans q3
  have hselP : selectMethod e.platform s.vm cellB.cls mk = .method mk := by rw [Launch.admits_selectMethod X.admits]; exact q4
  obtain ⟨vm₁, X₁, hstep₁⟩ := X.invokevirtual hexec hown hlink hnamed hmethM hstM hkP hkPi hy (a := b) (cell := cellB) hcell
    (fun z h => by rw [h] at hobj; cases hobj) hselP hmethM habM hkP hkPi (g := g) hg (argsL := argsL) (rest := rest) (hlen _ hsigM) hstack hdg
  rcases hK m meth c ⟨T.setVm vm₁, locs, cells, slots⟩ { g with stack := rest } (.invokevirtual index) mk (Value.ref b :: argsL).toArray X₁ hg hsize hdg hW (X₁.named hnamed) (hpre vm₁ X₁.warmed) with ⟨v, B, X', hpost, hsteps⟩ | ⟨q, B, X', hpost, hsteps⟩
  · exact Or.inl ⟨v, vm₁, B, X₁.warmed, X', hpost, fun target h => hstep₁ _ fun acts => by rw [doInvoke_state]; exact hsteps.trans h⟩
  · exact Or.inr ⟨q, vm₁, B, X₁.warmed, X', hpost, hstep₁ _ fun acts => by rw [doInvoke_state]; exact hsteps⟩
theorem vx_callS (X : Stand p l e R s m args below meth c T locs cells slots) (hexec : p.tables.exec = Jvm.exec) {own : String} {index : Nat} {y : MethodName} {bytes : ByteArray} {maxL : Nat} {ret : Option FieldType}
    (hown : s.vm.findClass own = some m.cls) (hlink : (Cond.methodLink own index y).before args s = true) (hstat : (Cond.static y).before args s = true) (hinit : (Cond.initialized y.cls).before args s = true)
    (hcode : (Cond.code y bytes maxL ret).before args s = true) (hy : y.cls ≠ "java/lang/invoke/MethodHandle" ∧ y.cls ≠ "java/lang/invoke/VarHandle")
    {W9 : Nat} {Pre : Pt → Array Value → Prop} {Post : Pt → Array Value → Option Value → Pt → Prop} {PostX : Pt → Array Value → Addr → Pt → Prop} (hK : vx_Back l R p e below s args y 3 W9 Pre Post PostX)
    {g : JFrame} (hg : g.method = m) (hsize : g.locals.size = c.maxLocals) {argsL rest : List Value} (hlen : ∀ sig, parseMethodDescriptor y.desc = some sig → argsL.length = sig.parameters.length)
    (hstack : g.stack = argsL.reverse ++ rest) (hW : 2 * g.monitorRoom + (rest.map fun v => v.category).sum ≤ W9) (hdg : decode c.code g.pc = .ok (.invokestatic index, 3))
    (hpre : ∀ vm₁, s.WarmedH vm₁ → Pre ⟨T.setVm vm₁, locs, cells, slots⟩ argsL.toArray) :
    (∃ (v : Option Value) (vm₁ : Vm) (B : Pt), s.WarmedH vm₁ ∧ Stand p l e R s m args below meth c B.U B.locs B.cells B.slots ∧ Post ⟨T.setVm vm₁, locs, cells, slots⟩ argsL.toArray v B ∧
      ∀ target, Steps p.tables e below (B.U.setTop { g with pc := g.pc + 3, stack := v.toList ++ rest }) target → Steps p.tables e below (T.setTop g) target) ∨
    (∃ (q : Addr) (vm₁ : Vm) (B : Pt), s.WarmedH vm₁ ∧ Stand p l e R s m args below meth c B.U B.locs B.cells B.slots ∧ PostX ⟨T.setVm vm₁, locs, cells, slots⟩ argsL.toArray q B ∧
      Steps p.tables e below (T.setTop g) ((B.U.setTop { g with stack := rest }).pushFrame (.throwing q))) := by
  obtain ⟨mk, hnamed⟩ := Cond.code_named hcode
  obtain ⟨methM, cM, hmethM, -, -, -, -, -, -, hsigM⟩ := Cond.code_spec hnamed hcode
  have hstatic : methM.isStatic = true := Cond.static_spec hnamed hmethM hstat
  obtain ⟨kP, hkP, -⟩ := className_of_methodNamed hnamed
  have hinitP : kP.init = .initialized := Cond.initialized_spec (findClass_of_methodNamed hnamed) hkP hinit
  obtain ⟨vm₁, X₁, hstep₁⟩ := X.invokestatic hexec hown hlink hnamed hmethM hstatic hkP hinitP hy (g := g) hg (argsL := argsL) (rest := rest) (hlen _ hsigM) hstack hdg
  rcases hK m meth c ⟨T.setVm vm₁, locs, cells, slots⟩ { g with stack := rest } (.invokestatic index) mk argsL.toArray X₁ hg hsize hdg hW (X₁.named hnamed) (hpre vm₁ X₁.warmed) with ⟨v, B, X', hpost, hsteps⟩ | ⟨q, B, X', hpost, hsteps⟩
  · exact Or.inl ⟨v, vm₁, B, X₁.warmed, X', hpost, fun target h => hstep₁ _ fun acts => by rw [doInvoke_state]; exact hsteps.trans h⟩
  · exact Or.inr ⟨q, vm₁, B, X₁.warmed, X', hpost, hstep₁ _ fun acts => by rw [doInvoke_state]; exact hsteps⟩
end Calls
theorem vx_cls {s : State} {T : State} {vm₁ : Vm} {E : String} {k : ClassId} (hW : s.WarmedH vm₁) (h : (T.setVm vm₁).vm.findClass E = some k) : s.vm.findClass E = some k := by
  have h1 : vm₁.findClass E = some k := h
  rw [hW.alike.findClass] at h1
  exact h1
def vx_W (p : Program) (l : Launch) (e : Env) (R : Room) (s : State) (m : MethodId) (args : Array Value) (below : List Frame) (meth : Method) (c : Code) (H : Heap) (locs : List Loc) (cells slots : Nat) (Q : State → Prop) (g : JFrame) (q : Addr) : Prop :=
  ∀ T : State, T.heap = H → Stand p l e R s m args below meth c T locs cells slots → ∃ t, Steps p.tables e below ((T.setTop g).pushFrame (.throwing q)) t ∧ Q t
def vx_Run (p : Program) (l : Launch) (e : Env) (R : Room) (s : State) (m : MethodId) (args : Array Value) (below : List Frame) (meth : Method) (c : Code) (H : Heap) (locs : List Loc) (cells slots mc ms : Nat) (g : JFrame) (rest : List Value) (Qa : State → Outcome → State → Prop) (XC : String → State → State → Prop) (free : Addr → Prop) : Prop :=
  ∀ T : State, T.heap = H → Stand p l e R s m args below meth c T locs cells slots →
    (∃ (v : Option Value) (st₀ t T' : State) (L : List Loc), st₀.heap = H ∧ Stand p l e R s m args below meth c T' (locs ++ L) (cells + mc) (slots + ms) ∧ (∀ q ∈ L, free q.base) ∧ T'.heap = t.heap ∧ T'.vm = t.vm ∧ Qa st₀ (.returned v) t ∧
      Goes p e below T g T' { g with pc := g.pc + 3, stack := v.toList ++ rest }) ∨
    (∃ (q : Addr) (st₀ t T' : State) (L : List Loc) (E : String) (ce : Cell), st₀.heap = H ∧ Stand p l e R s m args below meth c T' (locs ++ L) (cells + mc) (slots + ms) ∧ (∀ z ∈ L, free z.base) ∧ T'.heap = t.heap ∧ T'.vm = t.vm ∧ XC E st₀ t ∧ t.heap[q]? = some ce ∧ ce.vm = .none ∧ s.vm.findClass E = some ce.cls ∧
      Steps p.tables e below (T.setTop g) ((T'.setTop { g with stack := rest }).pushFrame (.throwing q)))
def vx_X {S : Type} (px : S → Prop) (B : String → S → State → Prop) (A : Nat → Prop) : String → State → State → Prop := fun E st t => ∃ u : S, px u ∧ B E u t ∧ va_F A st t
section Runs
variable {p : Program} {l : Launch} {e : Env} {R : Room} {s : State} {m : MethodId} {args : Array Value} {below : List Frame} {meth : Method} {c : Code} {H : Heap} {locs : List Loc} {cells slots : Nat}
variable {y : MethodName} {bytes cc : ByteArray} {maxL nL mc ms n index : Nat} {ret : Option FieldType} {ws : List Cond} {rm : Room} {Pc : Array Value → State → Prop} {Qc : Array Value → State → Outcome → State → Prop} {XC : String → State → State → Prop} {free : Addr → Prop} {Ts : List Cond} {own C : String} {b : Addr} {As rest : List Value} {g : JFrame}
theorem vx_callBack (cb : CallB R s args own index y bytes maxL ret ws rm mc ms n) (hM : vx_Met l y ws rm Pc Qc XC mc ms free) (hbl : FrameBlind Pc) : vx_Back l R p e below s args y 3 8 (PreOf R mc ms Pc) (PostOf Qc mc ms free) (vx_Post XC mc ms free) := by
  obtain ⟨hrc, hrs, hfr, hlo, hws, hcw, -, hini, -⟩ := cb
  exact vx_back (bytes := bytes) (maxL := maxL) (ret := ret) hM hbl hrc hrs hfr hlo hws hcw (fun a' U hW => word_at hW (Or.inl (by first | rfl | simp [Cond.onTables, Cond.keeps, Cond.steady])) hini)
theorem vx_runV (S : CallFix p m c cc nL s args Ts own) (hM : vx_Met l y ws rm Pc Qc XC mc ms free) (cw : CallW R s args own C index y bytes maxL ret ws rm mc ms n) (hp : PreV s H C b Pc As)
    (hg : g.method = m) (hn : As.length = n) (hsize : g.locals.size = nL) (hstack : g.stack = As.reverse ++ .ref b :: rest) (hW : 2 * g.monitorRoom + (rest.map fun v => v.category).sum ≤ 8) (hdg : decode cc g.pc = .ok (.invokevirtual index, 3)) (hf : cells + mc ≤ R.cells ∧ slots + ms ≤ R.slots) :
    vx_Run p l e R s m args below meth c H locs cells slots mc ms g rest (Qc (Value.ref b :: As).toArray) XC free := by
  have hK : vx_Back l R p e below s args y 3 8 (PreOf R mc ms Pc) (PostOf Qc mc ms free) (vx_Post XC mc ms free) := vx_callBack cw.1 hM hp.1
  obtain ⟨⟨-, -, -, -, -, -, hcode, -, hy, hlen, hl⟩, hin, hse⟩ := cw
  obtain ⟨hx, hb, hml, ho, -⟩ := S
  obtain ⟨-, ⟨cellB, hcB, hoB, hclB⟩, hPc⟩ := hp
  intro T hT X
  rcases vx_callV X hx (C := C) (bytes := bytes) (maxL := maxL) (ret := ret) ho hl hin hse hcode hy hK (by rw [hT]; exact hcB) hoB hclB hg (hsize.trans hml.symm) (argsL := As) (rest := rest) (fun sig h => hn.trans (hlen sig h)) hstack hW (by rw [hb]; exact hdg)
    (fun vm₁ hW₁ => ⟨hf.1, hf.2, hPc (T.setVm vm₁) hT hW₁⟩) with ⟨v, vm₁, ⟨U', l2, c2, s2⟩, hW₁, X', ⟨g', mk, t, L, e1, e2, hq, h1, hL, h2, h3⟩, st⟩ | ⟨q, vm₁, ⟨U', l2, c2, s2⟩, hW₁, X', ⟨g', mk, t, L, E, ce, e1, e2, hq, hce, hcv, hcl, h1, hL, h2, h3⟩, st⟩
  · dsimp only [Pt.U, Pt.locs, Pt.cells, Pt.slots] at X' e1 e2 h1 h2 h3 st
    subst h1; subst h2; subst h3
    exact Or.inl ⟨v, (T.setVm vm₁).calling g' mk (Value.ref b :: As).toArray, t, U', L, hT, X', hL, e1, e2, hq, st⟩
  · dsimp only [Pt.U, Pt.locs, Pt.cells, Pt.slots] at X' e1 e2 h1 h2 h3 st hcl
    subst h1; subst h2; subst h3
    exact Or.inr ⟨q, (T.setVm vm₁).calling g' mk (Value.ref b :: As).toArray, t, U', L, E, ce, hT, X', hL, e1, e2, hq, hce, hcv, vx_cls hW₁ hcl, st⟩
theorem vx_runS (S : CallFix p m c cc nL s args Ts own) (hM : vx_Met l y ws rm Pc Qc XC mc ms free) (cw : CallB R s args own index y bytes maxL ret ws rm mc ms n ∧ (Cond.static y).before args s = true) (hp : PreS s H Pc As)
    (hg : g.method = m) (hn : As.length = n) (hsize : g.locals.size = nL) (hstack : g.stack = As.reverse ++ rest) (hW : 2 * g.monitorRoom + (rest.map fun v => v.category).sum ≤ 8) (hdg : decode cc g.pc = .ok (.invokestatic index, 3)) (hf : cells + mc ≤ R.cells ∧ slots + ms ≤ R.slots) :
    vx_Run p l e R s m args below meth c H locs cells slots mc ms g rest (Qc As.toArray) XC free := by
  have hK : vx_Back l R p e below s args y 3 8 (PreOf R mc ms Pc) (PostOf Qc mc ms free) (vx_Post XC mc ms free) := vx_callBack cw.1 hM hp.1
  obtain ⟨⟨-, -, -, -, -, -, hcode, hini, hy, hlen, hl⟩, hstt⟩ := cw
  obtain ⟨hx, hb, hml, ho, -⟩ := S
  intro T hT X
  rcases vx_callS X hx (bytes := bytes) (maxL := maxL) (ret := ret) ho hl hstt hini hcode hy hK hg (hsize.trans hml.symm) (argsL := As) (rest := rest) (fun sig h => hn.trans (hlen sig h)) hstack hW (by rw [hb]; exact hdg)
    (fun vm₁ hW₁ => ⟨hf.1, hf.2, hp.2 (T.setVm vm₁) hT hW₁⟩) with ⟨v, vm₁, ⟨U', l2, c2, s2⟩, hW₁, X', ⟨g', mk, t, L, e1, e2, hq, h1, hL, h2, h3⟩, st⟩ | ⟨q, vm₁, ⟨U', l2, c2, s2⟩, hW₁, X', ⟨g', mk, t, L, E, ce, e1, e2, hq, hce, hcv, hcl, h1, hL, h2, h3⟩, st⟩
  · dsimp only [Pt.U, Pt.locs, Pt.cells, Pt.slots] at X' e1 e2 h1 h2 h3 st
    subst h1; subst h2; subst h3
    exact Or.inl ⟨v, (T.setVm vm₁).calling g' mk As.toArray, t, U', L, hT, X', hL, e1, e2, hq, st⟩
  · dsimp only [Pt.U, Pt.locs, Pt.cells, Pt.slots] at X' e1 e2 h1 h2 h3 st hcl
    subst h1; subst h2; subst h3
    exact Or.inr ⟨q, (T.setVm vm₁).calling g' mk As.toArray, t, U', L, E, ce, hT, X', hL, e1, e2, hq, hce, hcv, vx_cls hW₁ hcl, st⟩
end Runs
section Rows
variable {p : Program} {l : Launch} {e : Env} {R : Room} {s : State} {m : MethodId} {args : Array Value} {below : List Frame} {meth : Method} {c : Code} {H : Heap} {locs : List Loc} {cells slots : Nat} {Q : State → Prop}
variable {mc ms : Nat} {free : Addr → Prop} {A0 A1 : Nat → Prop} {H0 : Heap} {a : Array Value} {pc : Nat} {ls : Array Slot} {st0 rest : List Value}
theorem vx_keep {st₀ t T' : State} {L : List Loc} (h0 : st₀.heap = H) (e1 : T'.heap = t.heap) (hS : va_S A0 H0 H locs) (hA : ∀ q, q < H.size → A1 q → A0 q) (hf : ∀ q, free q → A0 q) (hL : ∀ q ∈ L, free q.base) (hF : va_F A1 st₀ t) :
    H.size ≤ T'.heap.size ∧ (∀ q : Nat, q < H.size → ¬ A1 q → T'.heap[q]? = H[q]?) ∧ va_S A0 H0 T'.heap (locs ++ L) := by
  obtain ⟨hz, hk⟩ := hF
  rw [h0] at hz hk
  exact ⟨by rw [e1]; exact hz, fun q h1 h2 => by rw [e1]; exact hk q h1 h2,
    ⟨Nat.le_trans hS.1 (by rw [e1]; exact hz), fun q h1 h2 => by rw [e1, hk q (Nat.lt_of_lt_of_le h1 hS.1) (fun z => h2 (hA q (Nat.lt_of_lt_of_le h1 hS.1) z))]; exact hS.2.1 q h1 h2, fun q hq => by
      rcases List.mem_append.mp hq with h | h
      · exact hS.2.2 q h
      · exact hf _ (hL q h)⟩⟩
theorem vx_calli {S SX : Type} {post : Int32 → S → Prop} {px : SX → Prop} {B : S → State → Prop} {BX : String → SX → State → Prop} {AX : Nat → Prop} (hr : vx_Run p l e R s m args below meth c H locs cells slots mc ms (F0 m pc ls st0) rest (va_Qi post B A1 a) (vx_X px BX AX) free) (hS : va_S A0 H0 H locs) (hA : ∀ q, q < H.size → A1 q → A0 q) (hf : ∀ q, free q → A0 q) (hAX : ∀ q, q < H.size → AX q → A0 q)
    (kx : ∀ (E : String) (ce : Cell) (q9 : Addr) (u : SX) (t : State) (H1 : Heap) (locs1 : List Loc), t.heap = H1 → s.vm.Alike t.vm → px u → BX E u t → H.size ≤ H1.size → (∀ q : Nat, q < H.size → ¬ AX q → H1[q]? = H[q]?) → va_S A0 H0 H1 locs1 → H1[q9]? = some ce → ce.vm = .none → s.vm.findClass E = some ce.cls → vx_W p l e R s m args below meth c H1 locs1 (cells + mc) (slots + ms) Q (F0 m pc ls rest) q9)
    (kk : ∀ (r : Int32) (u : S) (t : State) (H1 : Heap) (locs1 : List Loc), t.heap = H1 → s.vm.Alike t.vm → post r u → B u t → H.size ≤ H1.size → (∀ q : Nat, q < H.size → ¬ A1 q → H1[q]? = H[q]?) → va_S A0 H0 H1 locs1 → W p l e R s m args below meth c H1 locs1 (cells + mc) (slots + ms) Q (F0 m (pc + 3) ls (.int r :: rest))) : W p l e R s m args below meth c H locs cells slots Q (F0 m pc ls st0) := by
  intro T hT X
  rcases hr T hT X with ⟨v, st₀, t, T', L, h0, X', hL, e1, e2, ⟨⟨r, u, hv, hp, hb⟩, hF⟩, st⟩ | ⟨q, st₀, t, T', L, E, ce, h0, X', hL, e1, e2, ⟨u, hp, hb, hF⟩, hce, hcv, hcl, st⟩
  · cases hv
    obtain ⟨k1, k2, k3⟩ := vx_keep h0 e1 hS hA hf hL hF
    obtain ⟨t2, a1, b1⟩ := kk r u t T'.heap (locs ++ L) e1.symm (by rw [← e2]; exact X'.warmed.alike) hp hb k1 k2 k3 T' rfl X'
    exact ⟨t2, st t2 a1, b1⟩
  · obtain ⟨k1, k2, k3⟩ := vx_keep h0 e1 hS hAX hf hL hF
    obtain ⟨t2, a1, b1⟩ := kx E ce q u t T'.heap (locs ++ L) e1.symm (by rw [← e2]; exact X'.warmed.alike) hp hb k1 k2 k3 (by rw [e1]; exact hce) hcv hcl T' rfl X'
    exact ⟨t2, st.trans a1, b1⟩
theorem vx_calll {S SX : Type} {post : Int64 → S → Prop} {px : SX → Prop} {B : S → State → Prop} {BX : String → SX → State → Prop} {AX : Nat → Prop} (hr : vx_Run p l e R s m args below meth c H locs cells slots mc ms (F0 m pc ls st0) rest (va_Ql post B A1 a) (vx_X px BX AX) free) (hS : va_S A0 H0 H locs) (hA : ∀ q, q < H.size → A1 q → A0 q) (hf : ∀ q, free q → A0 q) (hAX : ∀ q, q < H.size → AX q → A0 q)
    (kx : ∀ (E : String) (ce : Cell) (q9 : Addr) (u : SX) (t : State) (H1 : Heap) (locs1 : List Loc), t.heap = H1 → s.vm.Alike t.vm → px u → BX E u t → H.size ≤ H1.size → (∀ q : Nat, q < H.size → ¬ AX q → H1[q]? = H[q]?) → va_S A0 H0 H1 locs1 → H1[q9]? = some ce → ce.vm = .none → s.vm.findClass E = some ce.cls → vx_W p l e R s m args below meth c H1 locs1 (cells + mc) (slots + ms) Q (F0 m pc ls rest) q9)
    (kk : ∀ (r : Int64) (u : S) (t : State) (H1 : Heap) (locs1 : List Loc), t.heap = H1 → s.vm.Alike t.vm → post r u → B u t → H.size ≤ H1.size → (∀ q : Nat, q < H.size → ¬ A1 q → H1[q]? = H[q]?) → va_S A0 H0 H1 locs1 → W p l e R s m args below meth c H1 locs1 (cells + mc) (slots + ms) Q (F0 m (pc + 3) ls (.long r :: rest))) : W p l e R s m args below meth c H locs cells slots Q (F0 m pc ls st0) := by
  intro T hT X
  rcases hr T hT X with ⟨v, st₀, t, T', L, h0, X', hL, e1, e2, ⟨⟨r, u, hv, hp, hb⟩, hF⟩, st⟩ | ⟨q, st₀, t, T', L, E, ce, h0, X', hL, e1, e2, ⟨u, hp, hb, hF⟩, hce, hcv, hcl, st⟩
  · cases hv
    obtain ⟨k1, k2, k3⟩ := vx_keep h0 e1 hS hA hf hL hF
    obtain ⟨t2, a1, b1⟩ := kk r u t T'.heap (locs ++ L) e1.symm (by rw [← e2]; exact X'.warmed.alike) hp hb k1 k2 k3 T' rfl X'
    exact ⟨t2, st t2 a1, b1⟩
  · obtain ⟨k1, k2, k3⟩ := vx_keep h0 e1 hS hAX hf hL hF
    obtain ⟨t2, a1, b1⟩ := kx E ce q u t T'.heap (locs ++ L) e1.symm (by rw [← e2]; exact X'.warmed.alike) hp hb k1 k2 k3 (by rw [e1]; exact hce) hcv hcl T' rfl X'
    exact ⟨t2, st.trans a1, b1⟩
theorem vx_callf {S SX : Type} {post : UInt32 → S → Prop} {px : SX → Prop} {B : S → State → Prop} {BX : String → SX → State → Prop} {AX : Nat → Prop} (hr : vx_Run p l e R s m args below meth c H locs cells slots mc ms (F0 m pc ls st0) rest (va_Qf post B A1 a) (vx_X px BX AX) free) (hS : va_S A0 H0 H locs) (hA : ∀ q, q < H.size → A1 q → A0 q) (hf : ∀ q, free q → A0 q) (hAX : ∀ q, q < H.size → AX q → A0 q)
    (kx : ∀ (E : String) (ce : Cell) (q9 : Addr) (u : SX) (t : State) (H1 : Heap) (locs1 : List Loc), t.heap = H1 → s.vm.Alike t.vm → px u → BX E u t → H.size ≤ H1.size → (∀ q : Nat, q < H.size → ¬ AX q → H1[q]? = H[q]?) → va_S A0 H0 H1 locs1 → H1[q9]? = some ce → ce.vm = .none → s.vm.findClass E = some ce.cls → vx_W p l e R s m args below meth c H1 locs1 (cells + mc) (slots + ms) Q (F0 m pc ls rest) q9)
    (kk : ∀ (r : UInt32) (u : S) (t : State) (H1 : Heap) (locs1 : List Loc), t.heap = H1 → s.vm.Alike t.vm → post r u → B u t → H.size ≤ H1.size → (∀ q : Nat, q < H.size → ¬ A1 q → H1[q]? = H[q]?) → va_S A0 H0 H1 locs1 → W p l e R s m args below meth c H1 locs1 (cells + mc) (slots + ms) Q (F0 m (pc + 3) ls (.float r :: rest))) : W p l e R s m args below meth c H locs cells slots Q (F0 m pc ls st0) := by
  intro T hT X
  rcases hr T hT X with ⟨v, st₀, t, T', L, h0, X', hL, e1, e2, ⟨⟨r, u, hv, hp, hb⟩, hF⟩, st⟩ | ⟨q, st₀, t, T', L, E, ce, h0, X', hL, e1, e2, ⟨u, hp, hb, hF⟩, hce, hcv, hcl, st⟩
  · cases hv
    obtain ⟨k1, k2, k3⟩ := vx_keep h0 e1 hS hA hf hL hF
    obtain ⟨t2, a1, b1⟩ := kk r u t T'.heap (locs ++ L) e1.symm (by rw [← e2]; exact X'.warmed.alike) hp hb k1 k2 k3 T' rfl X'
    exact ⟨t2, st t2 a1, b1⟩
  · obtain ⟨k1, k2, k3⟩ := vx_keep h0 e1 hS hAX hf hL hF
    obtain ⟨t2, a1, b1⟩ := kx E ce q u t T'.heap (locs ++ L) e1.symm (by rw [← e2]; exact X'.warmed.alike) hp hb k1 k2 k3 (by rw [e1]; exact hce) hcv hcl T' rfl X'
    exact ⟨t2, st.trans a1, b1⟩
theorem vx_calld {S SX : Type} {post : UInt64 → S → Prop} {px : SX → Prop} {B : S → State → Prop} {BX : String → SX → State → Prop} {AX : Nat → Prop} (hr : vx_Run p l e R s m args below meth c H locs cells slots mc ms (F0 m pc ls st0) rest (va_Qd post B A1 a) (vx_X px BX AX) free) (hS : va_S A0 H0 H locs) (hA : ∀ q, q < H.size → A1 q → A0 q) (hf : ∀ q, free q → A0 q) (hAX : ∀ q, q < H.size → AX q → A0 q)
    (kx : ∀ (E : String) (ce : Cell) (q9 : Addr) (u : SX) (t : State) (H1 : Heap) (locs1 : List Loc), t.heap = H1 → s.vm.Alike t.vm → px u → BX E u t → H.size ≤ H1.size → (∀ q : Nat, q < H.size → ¬ AX q → H1[q]? = H[q]?) → va_S A0 H0 H1 locs1 → H1[q9]? = some ce → ce.vm = .none → s.vm.findClass E = some ce.cls → vx_W p l e R s m args below meth c H1 locs1 (cells + mc) (slots + ms) Q (F0 m pc ls rest) q9)
    (kk : ∀ (r : UInt64) (u : S) (t : State) (H1 : Heap) (locs1 : List Loc), t.heap = H1 → s.vm.Alike t.vm → post r u → B u t → H.size ≤ H1.size → (∀ q : Nat, q < H.size → ¬ A1 q → H1[q]? = H[q]?) → va_S A0 H0 H1 locs1 → W p l e R s m args below meth c H1 locs1 (cells + mc) (slots + ms) Q (F0 m (pc + 3) ls (.double r :: rest))) : W p l e R s m args below meth c H locs cells slots Q (F0 m pc ls st0) := by
  intro T hT X
  rcases hr T hT X with ⟨v, st₀, t, T', L, h0, X', hL, e1, e2, ⟨⟨r, u, hv, hp, hb⟩, hF⟩, st⟩ | ⟨q, st₀, t, T', L, E, ce, h0, X', hL, e1, e2, ⟨u, hp, hb, hF⟩, hce, hcv, hcl, st⟩
  · cases hv
    obtain ⟨k1, k2, k3⟩ := vx_keep h0 e1 hS hA hf hL hF
    obtain ⟨t2, a1, b1⟩ := kk r u t T'.heap (locs ++ L) e1.symm (by rw [← e2]; exact X'.warmed.alike) hp hb k1 k2 k3 T' rfl X'
    exact ⟨t2, st t2 a1, b1⟩
  · obtain ⟨k1, k2, k3⟩ := vx_keep h0 e1 hS hAX hf hL hF
    obtain ⟨t2, a1, b1⟩ := kx E ce q u t T'.heap (locs ++ L) e1.symm (by rw [← e2]; exact X'.warmed.alike) hp hb k1 k2 k3 (by rw [e1]; exact hce) hcv hcl T' rfl X'
    exact ⟨t2, st.trans a1, b1⟩
theorem vx_callv {S SX : Type} {post : S → Prop} {px : SX → Prop} {B : S → State → Prop} {BX : String → SX → State → Prop} {AX : Nat → Prop} (hr : vx_Run p l e R s m args below meth c H locs cells slots mc ms (F0 m pc ls st0) rest (va_Qv post B A1 a) (vx_X px BX AX) free) (hS : va_S A0 H0 H locs) (hA : ∀ q, q < H.size → A1 q → A0 q) (hf : ∀ q, free q → A0 q) (hAX : ∀ q, q < H.size → AX q → A0 q)
    (kx : ∀ (E : String) (ce : Cell) (q9 : Addr) (u : SX) (t : State) (H1 : Heap) (locs1 : List Loc), t.heap = H1 → s.vm.Alike t.vm → px u → BX E u t → H.size ≤ H1.size → (∀ q : Nat, q < H.size → ¬ AX q → H1[q]? = H[q]?) → va_S A0 H0 H1 locs1 → H1[q9]? = some ce → ce.vm = .none → s.vm.findClass E = some ce.cls → vx_W p l e R s m args below meth c H1 locs1 (cells + mc) (slots + ms) Q (F0 m pc ls rest) q9)
    (kk : ∀ (u : S) (t : State) (H1 : Heap) (locs1 : List Loc), t.heap = H1 → s.vm.Alike t.vm → post u → B u t → H.size ≤ H1.size → (∀ q : Nat, q < H.size → ¬ A1 q → H1[q]? = H[q]?) → va_S A0 H0 H1 locs1 → W p l e R s m args below meth c H1 locs1 (cells + mc) (slots + ms) Q (F0 m (pc + 3) ls (rest))) : W p l e R s m args below meth c H locs cells slots Q (F0 m pc ls st0) := by
  intro T hT X
  rcases hr T hT X with ⟨v, st₀, t, T', L, h0, X', hL, e1, e2, ⟨⟨u, hv, hp, hb⟩, hF⟩, st⟩ | ⟨q, st₀, t, T', L, E, ce, h0, X', hL, e1, e2, ⟨u, hp, hb, hF⟩, hce, hcv, hcl, st⟩
  · cases hv
    obtain ⟨k1, k2, k3⟩ := vx_keep h0 e1 hS hA hf hL hF
    obtain ⟨t2, a1, b1⟩ := kk u t T'.heap (locs ++ L) e1.symm (by rw [← e2]; exact X'.warmed.alike) hp hb k1 k2 k3 T' rfl X'
    exact ⟨t2, st t2 a1, b1⟩
  · obtain ⟨k1, k2, k3⟩ := vx_keep h0 e1 hS hAX hf hL hF
    obtain ⟨t2, a1, b1⟩ := kx E ce q u t T'.heap (locs ++ L) e1.symm (by rw [← e2]; exact X'.warmed.alike) hp hb k1 k2 k3 (by rw [e1]; exact hce) hcv hcl T' rfl X'
    exact ⟨t2, st.trans a1, b1⟩
theorem vx_catch {own name : String} {E : String} {ce : Cell} {q : Addr} (hown : s.vm.findClass own = some m.cls) (pre : List ExceptionTableEntry) (x : ExceptionTableEntry) (suf : List ExceptionTableEntry) (hsplit : c.exceptionTable.toList = pre ++ x :: suf)
    (hpass : ∀ z ∈ pre, covers z pc = false ∨ (z.catchType ≠ 0 ∧ ∃ nm : String, (Cond.classLink own z.catchType nm).before args s = true ∧ va_Nc E nm s)) (hx : covers x pc = true) (h0 : x.catchType ≠ 0)
    (hlink : (Cond.classLink own x.catchType name).before args s = true) (hcast : (Cond.castable E name).before args s = true) (hcell : H[q]? = some ce) (hv : ce.vm = .none) (hcl : s.vm.findClass E = some ce.cls)
    (kk : W p l e R s m args below meth c H locs cells slots Q (F0 m x.handlerPc ls [.ref q])) : vx_W p l e R s m args below meth c H locs cells slots Q (F0 m pc ls rest) q := by
  intro T hT X
  have hpl : e.platform.magicAccessors = ({} : Platform).magicAccessors := by rw [X.admits.platform]
  obtain ⟨c3, c4, hc3, hc4, hasg⟩ := Cond.castable_spec hcast
  cases Option.some.inj (hc3.symm.trans hcl)
  obtain ⟨c5, hc5, hcl5⟩ := Cond.classLink_spec hown hlink e.platform hpl
  cases Option.some.inj (hc4.symm.trans hc5)
  obtain ⟨vm', X', st⟩ := X.thenCaughtThrough q (g := F0 m pc ls rest) rfl (Steps.refl _) (by rw [hT]; exact hcell) (by rw [hv]; rfl) (by obtain ⟨k9, h9, -⟩ := Vm.findClass_spec hcl; exact ⟨k9, h9⟩) pre x suf hsplit
    (fun z hz => by
      rcases hpass z hz with h | ⟨hz0, nm, hl1, hn1⟩
      · exact Or.inl h
      · obtain ⟨c6, hc6, hcl6⟩ := Cond.classLink_spec hown hl1 e.platform hpl
        obtain ⟨a8, b8, h1, h2, h3⟩ := hn1
        cases Option.some.inj (h1.symm.trans hcl)
        cases Option.some.inj (h2.symm.trans hc6)
        exact Or.inr ⟨hz0, _, hcl6, h3⟩) hx (Or.inr ⟨h0, c4, hcl5, hasg⟩)
  obtain ⟨t, a1, b1⟩ := kk (T.setVm vm') hT X'
  exact ⟨t, st.trans a1, b1⟩
end Rows
section Ends
variable {p : Program} {l : Launch} {e : Env} {R : Room} {s : State} {m : MethodId} {args : Array Value} {below : List Frame} {meth : Method} {c : Code} {H : Heap} {locs : List Loc} {cells slots : Nat} {Q : State → Prop}
variable {mc ms : Nat} {free : Addr → Prop} {A0 A1 : Nat → Prop} {H0 : Heap} {a : Array Value} {ls : Array Slot} {st0 rest : List Value}
variable {Qc : Array Value → State → Outcome → State → Prop} {XC : String → State → State → Prop}
def vx_MQ (below : List Frame) (Qc : Array Value → State → Outcome → State → Prop) (XC : String → State → State → Prop) (a : Array Value) (s : State) (mc ms : Nat) (free : Addr → Prop) : State → Prop := fun t =>
  ∃ o, t.status = .running ∧ Ended t below o ∧ vx_Q Qc XC mc ms free a s o t
theorem vx_ret {g : JFrame} {mc ms : Nat} (k : W p l e R s m args below meth c H locs cells slots (MQ below Qc args s mc ms free) g) : W p l e R s m args below meth c H locs cells slots (vx_MQ below Qc XC args s mc ms free) g := by
  intro T hT X
  obtain ⟨t, a1, o, b1, b2, b3, b4⟩ := k T hT X
  exact ⟨t, a1, o, b1, b2, Or.inl ⟨b3, b4⟩⟩
theorem vx_widen {g : JFrame} {q : Addr} {k n : Nat} (h1 : cells ≤ k) (h2 : slots ≤ n) (kk : vx_W p l e R s m args below meth c H locs k n Q g q) : vx_W p l e R s m args below meth c H locs cells slots Q g q := fun T hT X => kk T hT (stand_widen X h1 h2)
theorem vx_out {pc : Nat} {E : String} {ce : Cell} {q : Addr} {mc ms : Nat} (hout : ∀ x ∈ c.exceptionTable.toList, covers x pc = false) (hlocks : meth.locks = false) (hcell : H[q]? = some ce) (hv : ce.vm = .none) (hcl : s.vm.findClass E = some ce.cls)
    (hx : ∀ t : State, t.heap = H → s.vm.Alike t.vm → XC E s t) (hf : ∀ z ∈ locs, free z.base) (hc : cells ≤ mc) (hs : slots ≤ ms) :
    vx_W p l e R s m args below meth c H locs cells slots (vx_MQ below Qc XC args s mc ms free) (F0 m pc ls rest) q := by
  intro T hT X
  obtain ⟨st1, hrun, hend, hW, hsm⟩ := X.leaveThrown q (g := F0 m pc ls rest) rfl rfl rfl hout hlocks
  have hcell9 : (T.setFrames (.throwing q :: below)).heap[q]? = some ce := by
    show T.heap[q]? = some ce
    rw [hT]; exact hcell
  exact ⟨_, st1, .threw q, hrun, hend, Or.inr ⟨q, rfl, E, ce, locs, hx _ hT hW.alike, hcell9, hv, hcl, hW, hsm.mono hc hs, hf⟩⟩
theorem vx_frame {U : State} {k n : Nat} (h : s.sameButNew ({ U with vm := s.vm } : State) locs k n) : s.heap.size ≤ U.heap.size ∧ ∀ q : Nat, q < s.heap.size → (∀ z ∈ locs, z.base ≠ q) → U.heap[q]? = s.heap[q]? := by
  obtain ⟨-, h2, -, -, -, h6⟩ := h
  refine ⟨h2, fun q hq hz => ?_⟩
  obtain ⟨c9, e1, e2, e3, e4⟩ := h6 q _ (Array.getElem?_eq_getElem hq)
  have hs : c9.slots = (s.heap[q]).slots := Array.ext_getElem? fun i => e4 i fun hm => hz _ hm rfl
  have h9 : c9 = s.heap[q] := by
    rw [hs] at e2
    exact e2
  have e5 : U.heap[q]? = some c9 := e1
  rw [e5, h9, Array.getElem?_eq_getElem hq]
def vx_no (w : Cond) : Bool := decide (w ≠ .isRef (.static Bundle.tN "UNASSIGNED_STACK" Bundle.steD)) && decide (w ≠ .isRef (.static Bundle.tN "SUPPRESSED_SENTINEL" Bundle.listD)) && decide (w ≠ .laysStatic Bundle.tN "UNASSIGNED_STACK" Bundle.steD) && decide (w ≠ .laysStatic Bundle.tN "SUPPRESSED_SENTINEL" Bundle.listD)
def vx_at0 (own : String) (ic : Nat) (X : String) (names : List String) : List Cond := (Bundle.ownAtoms0 own ic X names).filter vx_no
def vx_atS (own : String) (ic : Nat) (X : String) (names : List String) : List Cond := (Bundle.ownAtoms own ic X names).filter vx_no
def vx_ot (w : Cond) : Bool := w.onTables || goodWord w
theorem vx_ot_at {args a' : Array Value} {s U : State} {w : Cond} (hW : s.WarmedH U.vm) (hvm : s.vm = U.vm) (hg : vx_ot w = true) (h : w.before args s = true) : w.before a' U = true := by
  simp only [vx_ot, Bool.or_eq_true] at hg
  rcases hg with hg | hg
  · exact va_tabs hg hvm h
  · exact word_at hW (good_of_word hg) h
theorem vx_hat {args : Array Value} {s : State} {L B : List Cond} (h1 : ∀ w ∈ L.filter goodWord, w.before args s = true) (h2 : ∀ w ∈ L.filter (fun w => !goodWord w), w ∈ B) (h3 : ∀ w ∈ B, w.before args s = true) : ∀ w ∈ L, w.before args s = true := by
  intro w hw
  by_cases g : goodWord w = true
  · exact h1 w (List.mem_filter.mpr ⟨hw, g⟩)
  · refine h3 w (h2 w (List.mem_filter.mpr ⟨hw, ?_⟩))
    show (!goodWord w) = true
    cases hgw : goodWord w
    · rfl
    · exact absurd hgw g
theorem vx_c {args : Array Value} {s : State} {w : Cond} {B : List Cond} (h : w.before args s = true) (t : ∀ w ∈ B, w.before args s = true) : ∀ w' ∈ w :: B, w'.before args s = true := fun w' h' => (List.mem_cons.mp h').elim (fun e => by rw [e]; exact h) (t w')
theorem vx_n {args : Array Value} {s : State} : ∀ w ∈ ([] : List Cond), w.before args s = true := fun _ h => nomatch h
theorem vx_own {args : Array Value} {s : State} {L : List Cond} (h1 : ∀ w ∈ L.filter vx_no, w.before args s = true)
    (hU : (Cond.isRef (.static Bundle.tN "UNASSIGNED_STACK" Bundle.steD)).before args s = true) (hN : (Cond.isRef (.static Bundle.tN "SUPPRESSED_SENTINEL" Bundle.listD)).before args s = true)
    (lU : (Cond.laysStatic Bundle.tN "UNASSIGNED_STACK" Bundle.steD).before args s = true) (lN : (Cond.laysStatic Bundle.tN "SUPPRESSED_SENTINEL" Bundle.listD).before args s = true) : ∀ w ∈ L, w.before args s = true := by
  intro w hw
  by_cases e1 : w = .isRef (.static Bundle.tN "UNASSIGNED_STACK" Bundle.steD)
  · rw [e1]; exact hU
  · by_cases e2 : w = .isRef (.static Bundle.tN "SUPPRESSED_SENTINEL" Bundle.listD)
    · rw [e2]; exact hN
    · by_cases e3 : w = .laysStatic Bundle.tN "UNASSIGNED_STACK" Bundle.steD
      · rw [e3]; exact lU
      · by_cases e4 : w = .laysStatic Bundle.tN "SUPPRESSED_SENTINEL" Bundle.listD
        · rw [e4]; exact lN
        · exact h1 w (List.mem_filter.mpr ⟨hw, by unfold vx_no; rw [decide_eq_true e1, decide_eq_true e2, decide_eq_true e3, decide_eq_true e4]; rfl⟩)
def vx_L (C n d : String) (A : Nat → Prop) (U : State) (H : Heap) : Prop := ∃ (c : ClassId) (k : Class) (i : Nat) (f : Field) (a : Nat) (cell : Cell), U.vm.findClass C = some c ∧ U.fieldFound? C n d = some (c, k, i, f) ∧ f.isStatic = true ∧ k.statics = some a ∧ H[a]? = some cell ∧ cell.vm.isStatics = true ∧ cell.cls = c ∧ f.slot < cell.slots.size ∧ k.staticTypes[f.slot]? = some f.type ∧ ¬ A a
theorem vx_L.moved {C n d : String} {A : Nat → Prop} {u U : State} {H : Heap} (hvm : u.vm.Alike U.vm) (h : vx_L C n d A u H) : vx_L C n d A U H := by
  obtain ⟨c, k, i, f, a, cell, h1, h2, h3, h4, h5, h6, h7, h8, h9, h10⟩ := h
  obtain ⟨k', hi', he⟩ := State.fieldFound?_setVm hvm h2
  exact ⟨c, k', i, f, a, cell, by rw [hvm.findClass]; exact h1, hi', h3, by rw [he]; exact h4, h5, h6, h7, h8, by rw [he]; exact h9, h10⟩
theorem vx_L.kept {C n d : String} {A : Nat → Prop} {U : State} {H H1 : Heap} (h : vx_L C n d A U H) (hq : ∀ a : Nat, a < H.size → ¬ A a → H1[a]? = H[a]?) : vx_L C n d A U H1 := by
  obtain ⟨c, k, i, f, a, cell, h1, h2, h3, h4, h5, h6, h7, h8, h9, h10⟩ := h
  exact ⟨c, k, i, f, a, cell, h1, h2, h3, h4, by rw [hq a (Array.getElem?_eq_some_iff.mp h5).1 h10]; exact h5, h6, h7, h8, h9, h10⟩
theorem vx_L.narrow {C n d : String} {A B : Nat → Prop} {U : State} {H : Heap} (h : vx_L C n d A U H) (hAB : ∀ q, B q → A q) : vx_L C n d B U H := by
  obtain ⟨c, k, i, f, a, cell, h1, h2, h3, h4, h5, h6, h7, h8, h9, h10⟩ := h
  exact ⟨c, k, i, f, a, cell, h1, h2, h3, h4, h5, h6, h7, h8, h9, fun z => h10 (hAB _ z)⟩
theorem vx_L.word {C n d : String} {A : Nat → Prop} {s : State} {args : Array Value} (h : vx_L C n d A s s.heap) : (Cond.laysStatic C n d).before args s = true := by
  obtain ⟨c, k, i, f, a, cell, h1, h2, h3, h4, h5, h6, h7, h8, h9, -⟩ := h
  show (Cond.laysStatic C n d).holds args s none s [] = true
  exact Cond.laysStatic_of h1 h2 h3 h4 h5 h6 h7 h8 h9
def vx_Zq (C n d : String) (A : Nat → Prop) (U : State) (H : Heap) : Prop := va_Zq C n d A U H ∧ vx_L C n d A U H
theorem vx_Zq.moved {C n d : String} {A : Nat → Prop} {u U : State} {H : Heap} (hvm : u.vm.Alike U.vm) (h : vx_Zq C n d A u H) : vx_Zq C n d A U H := ⟨va_Zq.moved hvm h.1, vx_L.moved hvm h.2⟩
theorem vx_Zq.kept {C n d : String} {A : Nat → Prop} {U : State} {H H1 : Heap} (h : vx_Zq C n d A U H) (hq : ∀ a : Nat, a < H.size → ¬ A a → H1[a]? = H[a]?) : vx_Zq C n d A U H1 := ⟨va_Zq.kept h.1 hq, vx_L.kept h.2 hq⟩
theorem vx_Zq.narrow {C n d : String} {A B : Nat → Prop} {U : State} {H : Heap} (h : vx_Zq C n d A U H) (hAB : ∀ q, B q → A q) : vx_Zq C n d B U H := ⟨va_Zq.narrow h.1 hAB, vx_L.narrow h.2 hAB⟩
theorem vx_Zqof {args : Array Value} {s : State} {C n d : String} {A : Nat → Prop} (hl : (Cond.laysStatic C n d).before args s = true) (hini : (Cond.initialized C).before args s = true) (h : (Cond.isRef (.static C n d)).before args s = true) (hA : ∀ a : Nat, a < s.heap.size → ¬ A a) : vx_Zq C n d A s s.heap := by
  refine ⟨va_Zqof hl hini h hA, ?_⟩
  obtain ⟨c, k, i, f, a, cell, h1, h2, h3, h4, h5, h6, h7, h8, h9⟩ := Cond.laysStatic_spec hl
  exact ⟨c, k, i, f, a, cell, h1, h2, h3, h4, h5, h6, h7, h8, h9, hA a (Array.getElem?_eq_some_iff.mp h5).1⟩
theorem vx_isRef {C n d : String} {v : Value} {A : Nat → Prop} {s : State} {args : Array Value} (h : va_Z C n d v A s s.heap) (hv : v.isRef = true) : (Cond.isRef (.static C n d)).before args s = true := by
  obtain ⟨cf, kf, fi, f, a, cell, h1, h2, h3, h4, h5, h6, h7, -⟩ := h
  have he : (Term.static C n d).eval args s none [] s = some v := by
    simp [Term.eval, State.fieldNamed?, h1, h2, h4, h5, h6, h7]
  simp only [Cond.before, Cond.holds, Cond.value, he]
  cases v <;> simp_all [Value.isRef]
theorem vx_isRefq {C n d : String} {A : Nat → Prop} {s : State} {args : Array Value} (h : va_Zq C n d A s s.heap) : (Cond.isRef (.static C n d)).before args s = true := by
  rcases h with h | ⟨t, h⟩
  · exact vx_isRef h rfl
  · exact vx_isRef h rfl
theorem vx_rebase {T : State} (X : Stand p l e R s m args below meth c T locs cells slots) {R' : Room} (hf : R'.frames ≤ R.frames) (hl : R'.locals ≤ R.locals) (hc : cells + R'.cells ≤ R.cells) (hs : slots + R'.slots ≤ R.slots) :
    Stand p l e R' ((T.setVm s.vm).setFrames (.invoking m args :: below)) m args below meth c T [] 0 0 := by
  have htop : (T.setVm s.vm).topJava?.isSome := X.here.top
  have hF : ((T.setVm s.vm).setFrames (.invoking m args :: below)).frames = .invoking m args :: below := State.frames_setFrames _ (State.cur_lt_of_top htop)
  obtain ⟨g₀, hg0⟩ := Option.isSome_iff_exists.mp htop
  obtain ⟨r, hr⟩ := State.topJava?_eq_some.mp hg0
  have hl9 : e.platform.stackLimits (T.setVm s.vm).me = e.platform.stackLimits s.me := X.limits
  have hb9 : (T.setVm s.vm).me.stackBytes = s.me.stackBytes := X.bytes
  refine ⟨X.admits, X.cas, X.clock, hF, ?_, X.hears, X.method, X.code, X.here, X.tail, X.warmed, ?_, ?_, ?_⟩
  · have h := X.room
    have hU : ((T.setVm s.vm).setFrames (.invoking m args :: below)).localsInUse = s.localsInUse := by
      rw [State.localsInUse_invoking hF (meth := meth) (c := c) X.method X.code, State.localsInUse_invoking X.frames X.method X.code]
    simp only [State.hasRoom, Bool.and_eq_true, decide_eq_true_eq] at h ⊢
    obtain ⟨⟨⟨⟨h1, h2, h3, h4, h5, h6⟩, h7⟩, h8⟩, h9⟩ := h
    rw [X.frames, List.length_cons] at h2 h3
    have q1 := X.heapSize
    have q2 := X.used
    simp only [hF, hU, List.length_cons, State.stackLimits_setFrames, State.stackBytes_setFrames, hl9, hb9]
    refine ⟨⟨⟨⟨by omega, by omega, by omega, by omega, by omega, h6⟩, ?_⟩, ?_⟩, X.book⟩
    · show T.heap.size + R'.cells ≤ e.platform.maxCells
      omega
    · show T.slotsUsed + R'.slots ≤ e.platform.maxSlots
      omega
  · rw [State.stackLimits_setFrames]; rfl
  · rw [State.stackBytes_setFrames]; rfl
  · refine ⟨?_, Nat.le_refl _, Nat.le_refl _, ?_, ?_, fun a c9 h9 => ⟨c9, h9, rfl, rfl, fun _ _ => rfl⟩⟩
    · obtain ⟨t, ht, -⟩ := State.frames_cons hr
      show T.setVm s.vm = { ((T.setVm s.vm).setFrames (.invoking m args :: below)).setFrames (T.setVm s.vm).frames with heap := T.heap, slotsUsed := T.slotsUsed }
      rw [State.setFrames_setFrames, State.setFrames_self ht]
      rfl
    · show T.slotsUsed = T.slotsUsed + ((T.heap.toList.drop T.heap.size).map (·.slots.size)).sum
      rw [List.drop_eq_nil_of_le (Nat.le_of_eq Array.length_toList)]
      rfl
    · show ((T.heap.toList.drop T.heap.size).map (·.slots.size)).sum ≤ 0
      rw [List.drop_eq_nil_of_le (Nat.le_of_eq Array.length_toList)]
      exact Nat.le_refl _
theorem vx_throw0 {cc : ByteArray} {pc : Nat} (hexec : p.tables.exec = Jvm.exec) (hb : c.code = cc) (hl : l.stackTraces = false) {own cls : String} {names : List String} {ik ic mc ms : Nat} {A : Nat → Prop}
    (hown : s.vm.findClass own = some m.cls) (hcls : Bundle.fit cls = true) (hnames : ∀ n ∈ names, Bundle.fit n = true)
    (hk : (Cond.classLink own ik cls).before args s = true) (hini : (Cond.initialized cls).before args s = true) (hat : ∀ w ∈ vx_at0 own ic cls names, w.before args s = true)
    (hgood : ∀ w ∈ Cond.classLink own ik cls :: Cond.initialized cls :: vx_at0 own ic cls names, vx_ot w = true)
    (hU : vx_Zq Bundle.tN "UNASSIGNED_STACK" Bundle.steD A s s.heap) (hN : vx_Zq Bundle.tN "SUPPRESSED_SENTINEL" Bundle.listD A s s.heap) (hS : va_S A s.heap H locs) (hsize : ls.size = c.maxLocals)
    (d0 : decode cc pc = .ok (.new ik, 3)) (d3 : decode cc (pc + 3) = .ok (.dup, 1)) (d4 : decode cc (pc + 4) = .ok (.invokespecial ic, 3)) (d7 : decode cc (pc + 7) = .ok (.athrow, 1))
    (hout : ∀ x ∈ c.exceptionTable.toList, covers x (pc + 7) = false)
    (hRframes : names.length + 3 < R.frames) (hRlocals : (rest.map fun v => v.category).sum + (13 * (names.length + 1) + 42) ≤ R.locals) (hRcells : cells + 1 ≤ R.cells) (hRslots : slots + 6 ≤ R.slots) (hlocks : meth.locks = false)
    (hx : ∀ t : State, s.vm.Alike t.vm → H.size ≤ t.heap.size → (∀ q : Nat, q < H.size → t.heap[q]? = H[q]?) → XC cls s t)
    (hf : ∀ z ∈ locs, free z.base) (hc : cells + 1 ≤ mc) (hs : slots + 6 ≤ ms) :
    W p l e R s m args below meth c H locs cells slots (vx_MQ below Qc XC args s mc ms free) (F0 m pc ls rest) := by
  intro T hT X
  have htr : e.platform.stackTraces = false := (show e.platform.stackTraces = l.stackTraces by rw [X.admits.platform]).trans hl
  have Y := vx_rebase X (R' := { frames := R.frames, locals := R.locals, cells := 1, slots := 6 }) (Nat.le_refl _) (Nat.le_refl _) hRcells hRslots
  obtain ⟨s', hA⟩ : ∃ z, z = (T.setVm s.vm).setFrames (.invoking m args :: below) := ⟨_, rfl⟩
  rw [← hA] at Y
  have hvm : s'.vm = s.vm := by rw [hA]; rfl
  have hhp : s'.heap = H := by rw [hA]; exact hT
  have hW0 : s.WarmedH s'.vm := by rw [hvm]; exact State.WarmedH.refl s
  have hat' : ∀ w ∈ vx_at0 own ic cls names, w.before args s' = true := fun w hw => vx_ot_at hW0 hvm.symm (hgood w (List.mem_cons_of_mem _ (List.mem_cons_of_mem _ hw))) (hat w hw)
  have hk' : (Cond.classLink own ik cls).before args s' = true := vx_ot_at hW0 hvm.symm (hgood _ List.mem_cons_self) hk
  have hini' : (Cond.initialized cls).before args s' = true := vx_ot_at hW0 hvm.symm (hgood _ (List.mem_cons_of_mem _ List.mem_cons_self)) hini
  have hU' : vx_Zq Bundle.tN "UNASSIGNED_STACK" Bundle.steD A s' s'.heap := by rw [hhp]; exact vx_Zq.moved hW0.alike (hU.kept hS.2.1)
  have hN' : vx_Zq Bundle.tN "SUPPRESSED_SENTINEL" Bundle.listD A s' s'.heap := by rw [hhp]; exact vx_Zq.moved hW0.alike (hN.kept hS.2.1)
  have h : ∀ w ∈ Bundle.ownAtoms0 own ic cls names, w.before args s' = true := vx_own hat' (vx_isRefq hU'.1) (vx_isRefq hN'.1) hU'.2.word hN'.2.word
  have hown' : s'.vm.findClass own = some m.cls := by rw [hvm]; exact hown
  have hins : (Cond.instantiable cls 6).before args s' = true := h _ (by simp [Bundle.ownAtoms0])
  obtain ⟨vm₁, cX, kX, hfX, hkX, -, -, X₁, st1⟩ := Y.newCold hexec (own := own) (C := cls) (index := ik) (n := 6) hown' hk' hins hini'
    (g := F0 m pc ls rest) rfl (by rw [hb]; exact d0) (Nat.le_refl _) (Nat.le_refl _)
  generalize hT1 : (T.setVm vm₁).pushCell { cls := cX, slots := kX.instanceTypes.map defaultValue, vm := .none } = T1 at X₁ st1
  have hcat : (Value.ref T.heap.size).category = 1 := rfl
  have hcellA : T1.heap[T.heap.size]? = some (freshCell cX kX) := by rw [← hT1]; exact State.heap_pushCell_size _ _
  have d3' : decode c.code (pc + 3) = .ok (.dup, 1) := by rw [hb]; exact d3
  obtain ⟨U, hsteps, hrun, hend, hW, hsame, ce, hce, hO⟩ := X₁.ctorThrow0 hexec htr (own := own) (cls := cls) (names := names) (ic := ic) hown' hcls hnames h (fun x hx => nomatch hx) hfX hkX hcellA (by rw [hhp, hT]; exact Nat.le_refl _)
    (g := { method := m, pc := pc + 4, locals := ls, stack := .ref T.heap.size :: .ref T.heap.size :: rest, locked := none }) rfl hsize rfl rfl (rest := rest) rfl
    (by rw [hb]; exact d4) (by rw [hb]; exact d7) hout hRframes (by simp only [List.map_cons, List.sum_cons, hcat]; omega) hlocks
  obtain ⟨f1, f2⟩ := vx_frame hsame
  rw [hhp] at f1 f2
  have hWs : s.WarmedH U.vm := State.WarmedH.trans hW0 hW
  have hcl : s.vm.findClass cls = some ce.cls := by
    have h9 := hO.cls
    rw [hvm] at h9
    exact h9
  have hall : s.sameButNew ({ U with vm := s.vm } : State) locs mc ms := by
    subst hA
    obtain ⟨e1, e2⟩ := hsame
    rw [State.setFrames_setFrames] at e1
    have h2 : (T.setVm s.vm).sameButNew ({ U with vm := s.vm } : State) [] (0 + 1) (0 + 6) := ⟨e1, e2⟩
    have h3 := X.same.trans h2
    rw [List.append_nil] at h3
    exact h3.mono hc hs
  refine ⟨U, ?_, .threw T.heap.size, hrun, hend, Or.inr ⟨T.heap.size, rfl, cls, ce, locs, hx U hWs.alike f1 (fun q hq => f2 q hq (fun z hz => nomatch hz)), hce, hO.vm, hcl, hWs, hall, hf⟩⟩
  refine st1 _ ?_
  show Steps p.tables e below (T1.setTop { method := m, pc := pc + 3, locals := ls, stack := .ref T.heap.size :: rest, locked := none }) _
  jvm_step X₁.here [X₁.here.top, hexec, d3', Value.category]
  exact hsteps
theorem vx_throwS {cc : ByteArray} {pc : Nat} (hexec : p.tables.exec = Jvm.exec) (hb : c.code = cc) (hl : l.stackTraces = false) {own cls text : String} {names : List String} {ik is ic mc ms sa : Nat} {A : Nat → Prop}
    (hown : s.vm.findClass own = some m.cls) (hcls : Bundle.fit cls = true) (hnames : ∀ n ∈ names, Bundle.fit n = true)
    (hk : (Cond.classLink own ik cls).before args s = true) (hini : (Cond.initialized cls).before args s = true) (hstr : vk_R own is text sa s) (hat : ∀ w ∈ vx_atS own ic cls names, w.before args s = true)
    (hgood : ∀ w ∈ Cond.classLink own ik cls :: Cond.initialized cls :: vx_atS own ic cls names, vx_ot w = true)
    (hU : vx_Zq Bundle.tN "UNASSIGNED_STACK" Bundle.steD A s s.heap) (hN : vx_Zq Bundle.tN "SUPPRESSED_SENTINEL" Bundle.listD A s s.heap) (hS : va_S A s.heap H locs) (hsize : ls.size = c.maxLocals)
    (d0 : decode cc pc = .ok (.new ik, 3)) (d3 : decode cc (pc + 3) = .ok (.dup, 1)) (d4 : decode cc (pc + 4) = .ok (.ldc is, 2)) (d6 : decode cc (pc + 6) = .ok (.invokespecial ic, 3)) (d9 : decode cc (pc + 9) = .ok (.athrow, 1))
    (hout : ∀ x ∈ c.exceptionTable.toList, covers x (pc + 9) = false)
    (hRframes : names.length + 3 < R.frames) (hRlocals : (rest.map fun v => v.category).sum + (13 * (names.length + 1) + 43) ≤ R.locals) (hRcells : cells + 1 ≤ R.cells) (hRslots : slots + 6 ≤ R.slots) (hlocks : meth.locks = false)
    (hx : ∀ t : State, s.vm.Alike t.vm → H.size ≤ t.heap.size → (∀ q : Nat, q < H.size → t.heap[q]? = H[q]?) → XC cls s t)
    (hf : ∀ z ∈ locs, free z.base) (hc : cells + 1 ≤ mc) (hs : slots + 6 ≤ ms) :
    W p l e R s m args below meth c H locs cells slots (vx_MQ below Qc XC args s mc ms free) (F0 m pc ls rest) := by
  intro T hT X
  have htr : e.platform.stackTraces = false := (show e.platform.stackTraces = l.stackTraces by rw [X.admits.platform]).trans hl
  have Y := vx_rebase X (R' := { frames := R.frames, locals := R.locals, cells := 1, slots := 6 }) (Nat.le_refl _) (Nat.le_refl _) hRcells hRslots
  obtain ⟨s', hA⟩ : ∃ z, z = (T.setVm s.vm).setFrames (.invoking m args :: below) := ⟨_, rfl⟩
  rw [← hA] at Y
  have hvm : s'.vm = s.vm := by rw [hA]; rfl
  have hhp : s'.heap = H := by rw [hA]; exact hT
  have hW0 : s.WarmedH s'.vm := by rw [hvm]; exact State.WarmedH.refl s
  have hat' : ∀ w ∈ vx_atS own ic cls names, w.before args s' = true := fun w hw => vx_ot_at hW0 hvm.symm (hgood w (List.mem_cons_of_mem _ (List.mem_cons_of_mem _ hw))) (hat w hw)
  have hk' : (Cond.classLink own ik cls).before args s' = true := vx_ot_at hW0 hvm.symm (hgood _ List.mem_cons_self) hk
  have hini' : (Cond.initialized cls).before args s' = true := vx_ot_at hW0 hvm.symm (hgood _ (List.mem_cons_of_mem _ List.mem_cons_self)) hini
  have hU' : vx_Zq Bundle.tN "UNASSIGNED_STACK" Bundle.steD A s' s'.heap := by rw [hhp]; exact vx_Zq.moved hW0.alike (hU.kept hS.2.1)
  have hN' : vx_Zq Bundle.tN "SUPPRESSED_SENTINEL" Bundle.listD A s' s'.heap := by rw [hhp]; exact vx_Zq.moved hW0.alike (hN.kept hS.2.1)
  have h : ∀ w ∈ Bundle.ownAtoms own ic cls names, w.before args s' = true := vx_own hat' (vx_isRefq hU'.1) (vx_isRefq hN'.1) hU'.2.word hN'.2.word
  have hown' : s'.vm.findClass own = some m.cls := by rw [hvm]; exact hown
  have hins : (Cond.instantiable cls 6).before args s' = true := h _ (by simp [Bundle.ownAtoms])
  obtain ⟨vm₁, cX, kX, hfX, hkX, -, -, X₁, st1⟩ := Y.newCold hexec (own := own) (C := cls) (index := ik) (n := 6) hown' hk' hins hini'
    (g := F0 m pc ls rest) rfl (by rw [hb]; exact d0) (Nat.le_refl _) (Nat.le_refl _)
  generalize hT1 : (T.setVm vm₁).pushCell { cls := cX, slots := kX.instanceTypes.map defaultValue, vm := .none } = T1 at X₁ st1
  have hcat : (Value.ref T.heap.size).category = 1 := rfl
  have hcellA : T1.heap[T.heap.size]? = some (freshCell cX kX) := by rw [← hT1]; exact State.heap_pushCell_size _ _
  have d3' : decode c.code (pc + 3) = .ok (.dup, 1) := by rw [hb]; exact d3
  have d4' : decode c.code (pc + 4) = .ok (.ldc is, 2) := by rw [hb]; exact d4
  have hstr' : vk_R own is text sa s' := vk_R.warm hW0 hstr
  obtain ⟨U, hsteps, hrun, hend, hW, hsame, ce, hce, hO⟩ := X₁.ctorThrowS hexec htr (own := own) (cls := cls) (names := names) (ic := ic) hown' hcls hnames h (fun x hx => nomatch hx) hfX hkX hcellA (by rw [hhp, hT]; exact Nat.le_refl _) (msg := .ref sa) rfl
    (g := { method := m, pc := pc + 6, locals := ls, stack := .ref sa :: .ref T.heap.size :: .ref T.heap.size :: rest, locked := none }) rfl hsize rfl rfl (rest := rest) rfl
    (by rw [hb]; exact d6) (by rw [hb]; exact d9) hout hRframes (by simp only [List.map_cons, List.sum_cons, hcat]; omega) hlocks
  obtain ⟨f1, f2⟩ := vx_frame hsame
  rw [hhp] at f1 f2
  have hWs : s.WarmedH U.vm := State.WarmedH.trans hW0 hW
  have hcl : s.vm.findClass cls = some ce.cls := by
    have h9 := hO.cls
    rw [hvm] at h9
    exact h9
  have hall : s.sameButNew ({ U with vm := s.vm } : State) locs mc ms := by
    subst hA
    obtain ⟨e1, e2⟩ := hsame
    rw [State.setFrames_setFrames] at e1
    have h2 : (T.setVm s.vm).sameButNew ({ U with vm := s.vm } : State) [] (0 + 1) (0 + 6) := ⟨e1, e2⟩
    have h3 := X.same.trans h2
    rw [List.append_nil] at h3
    exact h3.mono hc hs
  refine ⟨U, ?_, .threw T.heap.size, hrun, hend, Or.inr ⟨T.heap.size, rfl, cls, ce, locs, hx U hWs.alike f1 (fun q hq => f2 q hq (fun z hz => nomatch hz)), hce, hO.vm, hcl, hWs, hall, hf⟩⟩
  refine st1 _ ?_
  show Steps p.tables e below (T1.setTop { method := m, pc := pc + 3, locals := ls, stack := .ref T.heap.size :: rest, locked := none }) _
  jvm_step X₁.here [X₁.here.top, hexec, d3', Value.category]
  exact X₁.ldcString hexec (own := own) (text := text) (index := is) (a := sa) hown' hstr'.1 hstr'.2
    (g := { method := m, pc := pc + 4, locals := ls, stack := .ref T.heap.size :: .ref T.heap.size :: rest, locked := none }) rfl d4' _ hsteps
theorem vx_throwSW {cc : ByteArray} {pc : Nat} (hexec : p.tables.exec = Jvm.exec) (hb : c.code = cc) (hl : l.stackTraces = false) {own cls text : String} {names : List String} {ik is ic mc ms sa : Nat} {A : Nat → Prop}
    (hown : s.vm.findClass own = some m.cls) (hcls : Bundle.fit cls = true) (hnames : ∀ n ∈ names, Bundle.fit n = true)
    (hk : (Cond.classLink own ik cls).before args s = true) (hini : (Cond.initialized cls).before args s = true) (hstr : vk_R own is text sa s) (hat : ∀ w ∈ vx_atS own ic cls names, w.before args s = true)
    (hgood : ∀ w ∈ Cond.classLink own ik cls :: Cond.initialized cls :: vx_atS own ic cls names, vx_ot w = true)
    (hU : vx_Zq Bundle.tN "UNASSIGNED_STACK" Bundle.steD A s s.heap) (hN : vx_Zq Bundle.tN "SUPPRESSED_SENTINEL" Bundle.listD A s s.heap) (hS : va_S A s.heap H locs) (hsize : ls.size = c.maxLocals)
    (d0 : decode cc pc = .ok (.new ik, 3)) (d3 : decode cc (pc + 3) = .ok (.dup, 1)) (d4 : decode cc (pc + 4) = .ok (.ldc_w is, 3)) (d7 : decode cc (pc + 7) = .ok (.invokespecial ic, 3)) (d10 : decode cc (pc + 10) = .ok (.athrow, 1))
    (hout : ∀ x ∈ c.exceptionTable.toList, covers x (pc + 10) = false)
    (hRframes : names.length + 3 < R.frames) (hRlocals : (rest.map fun v => v.category).sum + (13 * (names.length + 1) + 43) ≤ R.locals) (hRcells : cells + 1 ≤ R.cells) (hRslots : slots + 6 ≤ R.slots) (hlocks : meth.locks = false)
    (hx : ∀ t : State, s.vm.Alike t.vm → H.size ≤ t.heap.size → (∀ q : Nat, q < H.size → t.heap[q]? = H[q]?) → XC cls s t)
    (hf : ∀ z ∈ locs, free z.base) (hc : cells + 1 ≤ mc) (hs : slots + 6 ≤ ms) :
    W p l e R s m args below meth c H locs cells slots (vx_MQ below Qc XC args s mc ms free) (F0 m pc ls rest) := by
  intro T hT X
  have htr : e.platform.stackTraces = false := (show e.platform.stackTraces = l.stackTraces by rw [X.admits.platform]).trans hl
  have Y := vx_rebase X (R' := { frames := R.frames, locals := R.locals, cells := 1, slots := 6 }) (Nat.le_refl _) (Nat.le_refl _) hRcells hRslots
  obtain ⟨s', hA⟩ : ∃ z, z = (T.setVm s.vm).setFrames (.invoking m args :: below) := ⟨_, rfl⟩
  rw [← hA] at Y
  have hvm : s'.vm = s.vm := by rw [hA]; rfl
  have hhp : s'.heap = H := by rw [hA]; exact hT
  have hW0 : s.WarmedH s'.vm := by rw [hvm]; exact State.WarmedH.refl s
  have hat' : ∀ w ∈ vx_atS own ic cls names, w.before args s' = true := fun w hw => vx_ot_at hW0 hvm.symm (hgood w (List.mem_cons_of_mem _ (List.mem_cons_of_mem _ hw))) (hat w hw)
  have hk' : (Cond.classLink own ik cls).before args s' = true := vx_ot_at hW0 hvm.symm (hgood _ List.mem_cons_self) hk
  have hini' : (Cond.initialized cls).before args s' = true := vx_ot_at hW0 hvm.symm (hgood _ (List.mem_cons_of_mem _ List.mem_cons_self)) hini
  have hU' : vx_Zq Bundle.tN "UNASSIGNED_STACK" Bundle.steD A s' s'.heap := by rw [hhp]; exact vx_Zq.moved hW0.alike (hU.kept hS.2.1)
  have hN' : vx_Zq Bundle.tN "SUPPRESSED_SENTINEL" Bundle.listD A s' s'.heap := by rw [hhp]; exact vx_Zq.moved hW0.alike (hN.kept hS.2.1)
  have h : ∀ w ∈ Bundle.ownAtoms own ic cls names, w.before args s' = true := vx_own hat' (vx_isRefq hU'.1) (vx_isRefq hN'.1) hU'.2.word hN'.2.word
  have hown' : s'.vm.findClass own = some m.cls := by rw [hvm]; exact hown
  have hins : (Cond.instantiable cls 6).before args s' = true := h _ (by simp [Bundle.ownAtoms])
  obtain ⟨vm₁, cX, kX, hfX, hkX, -, -, X₁, st1⟩ := Y.newCold hexec (own := own) (C := cls) (index := ik) (n := 6) hown' hk' hins hini'
    (g := F0 m pc ls rest) rfl (by rw [hb]; exact d0) (Nat.le_refl _) (Nat.le_refl _)
  generalize hT1 : (T.setVm vm₁).pushCell { cls := cX, slots := kX.instanceTypes.map defaultValue, vm := .none } = T1 at X₁ st1
  have hcat : (Value.ref T.heap.size).category = 1 := rfl
  have hcellA : T1.heap[T.heap.size]? = some (freshCell cX kX) := by rw [← hT1]; exact State.heap_pushCell_size _ _
  have d3' : decode c.code (pc + 3) = .ok (.dup, 1) := by rw [hb]; exact d3
  have d4' : decode c.code (pc + 4) = .ok (.ldc_w is, 3) := by rw [hb]; exact d4
  have hstr' : vk_R own is text sa s' := vk_R.warm hW0 hstr
  obtain ⟨U, hsteps, hrun, hend, hW, hsame, ce, hce, hO⟩ := X₁.ctorThrowS hexec htr (own := own) (cls := cls) (names := names) (ic := ic) hown' hcls hnames h (fun x hx => nomatch hx) hfX hkX hcellA (by rw [hhp, hT]; exact Nat.le_refl _) (msg := .ref sa) rfl
    (g := { method := m, pc := pc + 7, locals := ls, stack := .ref sa :: .ref T.heap.size :: .ref T.heap.size :: rest, locked := none }) rfl hsize rfl rfl (rest := rest) rfl
    (by rw [hb]; exact d7) (by rw [hb]; exact d10) hout hRframes (by simp only [List.map_cons, List.sum_cons, hcat]; omega) hlocks
  obtain ⟨f1, f2⟩ := vx_frame hsame
  rw [hhp] at f1 f2
  have hWs : s.WarmedH U.vm := State.WarmedH.trans hW0 hW
  have hcl : s.vm.findClass cls = some ce.cls := by
    have h9 := hO.cls
    rw [hvm] at h9
    exact h9
  have hall : s.sameButNew ({ U with vm := s.vm } : State) locs mc ms := by
    subst hA
    obtain ⟨e1, e2⟩ := hsame
    rw [State.setFrames_setFrames] at e1
    have h2 : (T.setVm s.vm).sameButNew ({ U with vm := s.vm } : State) [] (0 + 1) (0 + 6) := ⟨e1, e2⟩
    have h3 := X.same.trans h2
    rw [List.append_nil] at h3
    exact h3.mono hc hs
  refine ⟨U, ?_, .threw T.heap.size, hrun, hend, Or.inr ⟨T.heap.size, rfl, cls, ce, locs, hx U hWs.alike f1 (fun q hq => f2 q hq (fun z hz => nomatch hz)), hce, hO.vm, hcl, hWs, hall, hf⟩⟩
  refine st1 _ ?_
  show Steps p.tables e below (T1.setTop { method := m, pc := pc + 3, locals := ls, stack := .ref T.heap.size :: rest, locked := none }) _
  jvm_step X₁.here [X₁.here.top, hexec, d3', Value.category]
  exact X₁.ldcStringW hexec (own := own) (text := text) (index := is) (a := sa) hown' hstr'.1 hstr'.2
    (g := { method := m, pc := pc + 4, locals := ls, stack := .ref T.heap.size :: .ref T.heap.size :: rest, locked := none }) rfl d4' _ hsteps
end Ends
section Bodies
variable {l : Launch}
theorem vx_ofW {y : MethodName} {ws ws' : List Cond} {rm : Room} {Pc : Array Value → State → Prop} {Qc : Array Value → State → Outcome → State → Prop} {XC : String → State → State → Prop} {mc ms : Nat} {free : Addr → Prop} {cc : ByteArray} {maxL : Nat} {ret : Option FieldType}
    (hy : plainName y.cls = true) (hw : ws = Cond.code y cc maxL ret :: ws')
    (body : ∀ p e s m args below meth c s₁, BodyLoose p l y (headSpec ws rm) cc maxL ret e s m args below meth c s₁ → c.maxLocals = maxL → (∀ x ∈ c.exceptionTable.toList, False) → Pc args s →
      W p l e (headSpec ws rm).room s m args below meth c s.heap [] 0 0 (vx_MQ below Qc XC args s mc ms free) (entryFrame m args maxL)) : vx_Met l y ws rm Pc Qc XC mc ms free := by
  refine MetFree.of_bodyS (code := cc) (maxLocals := maxL) (ret := ret) hy ?_ ?_
  · intro args s m h hn
    obtain ⟨meth, c, h1, h2, h3, h4, h5, h6, -, -⟩ := Cond.code_spec hn (atoms_spec (ws := ws) h _ (by rw [hw]; exact List.mem_cons_self))
    exact ⟨meth, c, h1, h2, h3, h4, h5, h6⟩
  · intro p e s m args below meth c s₁ B hml hP _
    have hh0 : s₁.heap = s.heap := by rw [B.state]; rfl
    have ht : ∀ x ∈ c.exceptionTable.toList, False := by
      obtain ⟨meth9, c9, h1, h2, -, -, -, -, h7, -⟩ := Cond.code_spec B.named (atoms_spec (ws := ws) B.pre _ (by rw [hw]; exact List.mem_cons_self))
      cases Option.some.inj (h1.symm.trans B.method)
      cases Option.some.inj (h2.symm.trans (Stand.of_body B).code)
      intro x hx
      rw [Array.isEmpty_iff.mp h7] at hx
      cases hx
    obtain ⟨t, a1, o, b1, b2, b3⟩ := body p e s m args below meth c s₁ B hml ht hP s₁ hh0 (Stand.of_body B)
    exact ⟨t, o, a1, b1, b2, b3⟩
theorem vx_table {p : Program} {x y : MethodName} {S : Spec} {cc bytes : ByteArray} {maxL maxL' : Nat} {ret ret' : Option FieldType} {e : Env} {s s₁ : State} {m : MethodId} {args : Array Value} {below : List Frame} {meth : Method} {c : Code} {hh : List (Nat × Nat × Nat × Nat)}
    (B : BodyLoose p l y S cc maxL ret e s m args below meth c s₁) (h : (Cond.codeWith y bytes maxL' ret' hh).before args s = true) : c.exceptionTable.toList = tableOf hh := by
  obtain ⟨m9, meth9, c9, hn9, h1, h2, -, -, h6, -⟩ := Cond.codeWith_spec h
  cases Option.some.inj (hn9.symm.trans B.named)
  cases Option.some.inj (h1.symm.trans B.method)
  cases Option.some.inj (h2.symm.trans (Stand.of_body B).code)
  rw [← h6, table_eq]
end Bodies
end VXA
section VXS
variable {p : Program} {l : Launch} {e : Env} {R : Room} {s : State} {m : MethodId} {args : Array Value} {below : List Frame} {meth : Method} {c : Code} {T : State} {H : Heap} {locs : List Loc} {cells slots : Nat}
abbrev vx_CSW (R : Room) (s : State) (args : Array Value) (own : String) (index : Nat) (y : MethodName) (bytes : ByteArray) (maxL : Nat) (ret : Option FieldType) (hh : List (Nat × Nat × Nat × Nat)) (ws : List Cond) (rm : Room) (mc ms n : Nat) : Prop :=
  (rm.cells = mc ∧ rm.slots = ms ∧ rm.frames + 1 ≤ R.frames ∧ 8 + (maxL + 11) + rm.locals ≤ R.locals ∧ (∀ w ∈ ws, ∀ (a' : Array Value) (U : State), s.WarmedH U.vm → w.before a' U = true) ∧ Cond.codeWith y bytes maxL ret hh ∈ ws) ∧
  (Cond.codeWith y bytes maxL ret hh).before args s = true ∧ (Cond.initialized y.cls).before args s = true ∧ (y.cls ≠ "java/lang/invoke/MethodHandle" ∧ y.cls ≠ "java/lang/invoke/VarHandle") ∧
  (∀ sig, parseMethodDescriptor y.desc = some sig → n = sig.parameters.length) ∧ (Cond.methodLink own index y).before args s = true ∧ (Cond.static y).before args s = true
theorem vx_cwSW {own : String} {index maxL mc ms : Nat} {y : MethodName} {bytes : ByteArray} {ret : Option FieldType} {hh : List (Nat × Nat × Nat × Nat)} {Ts ws ws' : List Cond} {rm : Room} (n : Nat) (ht : ∀ w ∈ Ts, w.before args s = true) (hT : GoodIn Ts (va_wsS own index y ws)) (hw : ws = Cond.codeWith y bytes maxL ret hh :: ws') (hrc : rm.cells = mc) (hrs : rm.slots = ms)
    (hd : y.cls ≠ "java/lang/invoke/MethodHandle" ∧ y.cls ≠ "java/lang/invoke/VarHandle" ∧ (parseMethodDescriptor y.desc).map (fun d => d.parameters.length) = some n) (hR : rm.frames + 1 ≤ R.frames ∧ 8 + (maxL + 11) + rm.locals ≤ R.locals) :
    vx_CSW R s args own index y bytes maxL ret hh ws rm mc ms n := by
  have ok : ∀ w ∈ va_wsS own index y ws, w.before args s = true := fun w h => ht w (hT w h).1
  have hG : GoodIn Ts ws := fun w h => hT w (by unfold va_wsS; exact List.mem_append_right _ h)
  have hc : Cond.codeWith y bytes maxL ret hh ∈ ws := by rw [hw]; exact List.mem_cons_self
  refine ⟨⟨hrc, hrs, hR.1, hR.2, pay_in ht hG, hc⟩, ht _ (hG _ hc).1, ok _ (by simp [va_wsS]), ⟨hd.1, hd.2.1⟩, fun sig h => ?_, ok _ (by simp [va_wsS]), ok _ (by simp [va_wsS])⟩
  have h2 := hd.2.2
  rw [h] at h2
  exact (Option.some.inj h2).symm
theorem vx_callSW (X : Stand p l e R s m args below meth c T locs cells slots) (hexec : p.tables.exec = Jvm.exec) {own : String} {index : Nat} {y : MethodName} {bytes : ByteArray} {maxL : Nat} {ret : Option FieldType} {hh : List (Nat × Nat × Nat × Nat)}
    (hown : s.vm.findClass own = some m.cls) (hlink : (Cond.methodLink own index y).before args s = true) (hstat : (Cond.static y).before args s = true) (hinit : (Cond.initialized y.cls).before args s = true)
    (hcode : (Cond.codeWith y bytes maxL ret hh).before args s = true) (hy : y.cls ≠ "java/lang/invoke/MethodHandle" ∧ y.cls ≠ "java/lang/invoke/VarHandle")
    {W9 : Nat} {Pre : Pt → Array Value → Prop} {Post : Pt → Array Value → Option Value → Pt → Prop} (hK : Back l R p e below s args y 3 W9 Pre Post)
    {g : JFrame} (hg : g.method = m) (hsize : g.locals.size = c.maxLocals) {argsL rest : List Value} (hlen : ∀ sig, parseMethodDescriptor y.desc = some sig → argsL.length = sig.parameters.length)
    (hstack : g.stack = argsL.reverse ++ rest) (hW : 2 * g.monitorRoom + (rest.map fun v => v.category).sum ≤ W9) (hdg : decode c.code g.pc = .ok (.invokestatic index, 3))
    (hpre : ∀ vm₁, s.WarmedH vm₁ → Pre ⟨T.setVm vm₁, locs, cells, slots⟩ argsL.toArray) :
    ∃ (v : Option Value) (vm₁ : Vm) (B : Pt), s.WarmedH vm₁ ∧ Stand p l e R s m args below meth c B.U B.locs B.cells B.slots ∧ Post ⟨T.setVm vm₁, locs, cells, slots⟩ argsL.toArray v B ∧
      ∀ target, Steps p.tables e below (B.U.setTop { g with pc := g.pc + 3, stack := v.toList ++ rest }) target → Steps p.tables e below (T.setTop g) target := by
  obtain ⟨mk, methM, cM, hnamed, hmethM, -, -, -, -, -, -, hsigM⟩ := Cond.codeWith_spec hcode
  have hstatic : methM.isStatic = true := Cond.static_spec hnamed hmethM hstat
  obtain ⟨kP, hkP, -⟩ := className_of_methodNamed hnamed
  have hinitP : kP.init = .initialized := Cond.initialized_spec (findClass_of_methodNamed hnamed) hkP hinit
  obtain ⟨vm₁, X₁, hstep₁⟩ := X.invokestatic hexec hown hlink hnamed hmethM hstatic hkP hinitP hy (g := g) hg (argsL := argsL) (rest := rest) (hlen _ hsigM) hstack hdg
  obtain ⟨v, B, X', hpost, hsteps⟩ := hK m meth c ⟨T.setVm vm₁, locs, cells, slots⟩ { g with stack := rest } (.invokestatic index) mk argsL.toArray X₁ hg hsize hdg hW (X₁.named hnamed) (hpre vm₁ X₁.warmed)
  exact ⟨v, vm₁, B, X₁.warmed, X', hpost, fun target h => hstep₁ _ fun acts => by rw [doInvoke_state]; exact hsteps.trans h⟩
theorem vx_runSW {y : MethodName} {bytes cc : ByteArray} {maxL nL mc ms n index : Nat} {ret : Option FieldType} {hh : List (Nat × Nat × Nat × Nat)} {ws : List Cond} {rm : Room} {Pc : Array Value → State → Prop} {Qc : Array Value → State → Outcome → State → Prop} {free : Addr → Prop} {Ts : List Cond} {own : String} {As rest : List Value} {g : JFrame}
    (S : CallFix p m c cc nL s args Ts own) (hM : Met l y ws rm Pc Qc mc ms free) (cw : vx_CSW R s args own index y bytes maxL ret hh ws rm mc ms n) (hp : PreS s H Pc As)
    (hg : g.method = m) (hn : As.length = n) (hsize : g.locals.size = nL) (hstack : g.stack = As.reverse ++ rest) (hW : 2 * g.monitorRoom + (rest.map fun v => v.category).sum ≤ 8) (hdg : decode cc g.pc = .ok (.invokestatic index, 3)) (hf : cells + mc ≤ R.cells ∧ slots + ms ≤ R.slots) :
    va_Run p l e R s m args below meth c H locs cells slots mc ms g rest (Qc As.toArray) (free) := by
  obtain ⟨⟨hrc, hrs, hfr, hlo, hws, hcw⟩, hcode, hini, hy, hlen, hl, hstt⟩ := cw
  have hK : Back l R p e below s args y 3 8 (PreOf R mc ms Pc) (PostOf Qc mc ms free) := va_backW (hh := hh) (bytes := bytes) (maxL := maxL) (ret := ret) hM hp.1 hrc hrs hfr hlo hws hcw (fun a' U hW => word_at hW (Or.inl (by first | rfl | simp [Cond.onTables, Cond.keeps, Cond.steady])) hini)
  obtain ⟨hx, hb, hml, ho, -⟩ := S
  intro T hT X
  obtain ⟨v, vm₁, ⟨U', l2, c2, s2⟩, hW₁, X', ⟨g', mk, t, L, e1, e2, hq, h1, hL, h2, h3⟩, st⟩ := vx_callSW X hx (hh := hh) (bytes := bytes) (maxL := maxL) (ret := ret) ho hl hstt hini hcode hy hK hg (hsize.trans hml.symm) (argsL := As) (rest := rest) (fun sig h => hn.trans (hlen sig h)) hstack hW (by rw [hb]; exact hdg)
    (fun vm₁ hW₁ => ⟨hf.1, hf.2, hp.2 (T.setVm vm₁) hT hW₁⟩)
  dsimp only [Pt.U, Pt.locs, Pt.cells, Pt.slots] at X' e1 e2 h1 h2 h3 st
  subst h1; subst h2; subst h3
  exact ⟨v, (T.setVm vm₁).calling g' mk As.toArray, t, U', L, hT, X', hL, e1, e2, hq, st⟩
theorem vx_outP {p : Program} {l : Launch} {e : Env} {R : Room} {s : State} {m : MethodId} {args : Array Value} {below : List Frame} {meth : Method} {c : Code} {H : Heap} {locs : List Loc} {cells slots : Nat} {free : Addr → Prop} {ls : Array Slot} {rest : List Value} {Qc : Array Value → State → Outcome → State → Prop} {XC : String → State → State → Prop}
    {pc : Nat} {own E : String} {ce : Cell} {q : Addr} {mc ms : Nat} (hown : s.vm.findClass own = some m.cls) (hlocks : meth.locks = false)
    (hpass : ∀ z ∈ c.exceptionTable.toList, covers z pc = false ∨ (z.catchType ≠ 0 ∧ ∃ nm : String, (Cond.classLink own z.catchType nm).before args s = true ∧ va_Nc E nm s)) (hcell : H[q]? = some ce) (hv : ce.vm = .none) (hcl : s.vm.findClass E = some ce.cls)
    (hx : ∀ t : State, t.heap = H → s.vm.Alike t.vm → XC E s t) (hf : ∀ z ∈ locs, free z.base) (hc : cells ≤ mc) (hs : slots ≤ ms) :
    vx_W p l e R s m args below meth c H locs cells slots (vx_MQ below Qc XC args s mc ms free) (F0 m pc ls rest) q := by
  intro T hT X
  have hpl : e.platform.magicAccessors = ({} : Platform).magicAccessors := by rw [X.admits.platform]
  obtain ⟨vm', hW', X', st⟩ := X.outThrough hlocks q (g := F0 m pc ls rest) rfl rfl rfl (cell := ce) (by rw [hT]; exact hcell) (by rw [hv]; rfl)
    (by obtain ⟨k9, h9, -⟩ := Vm.findClass_spec hcl; exact ⟨k9, h9⟩) (fun z hz => by
      rcases hpass z hz with h | ⟨hz0, nm, hl1, hn1⟩
      · exact Or.inl h
      · obtain ⟨c6, hc6, hcl6⟩ := Cond.classLink_spec hown hl1 e.platform hpl
        obtain ⟨a8, b8, h1, h2, h3⟩ := hn1
        cases Option.some.inj (h1.symm.trans hcl)
        cases Option.some.inj (h2.symm.trans hc6)
        exact Or.inr ⟨hz0, _, hcl6, h3⟩)
  obtain ⟨g₀, hfr⟩ := X'.frames_eq
  have hcell9 : ((T.setVm vm').setFrames (.throwing q :: below)).heap[q]? = some ce := by
    show T.heap[q]? = some ce
    rw [hT]; exact hcell
  have hend : Ended ((T.setVm vm').setFrames (.throwing q :: below)) below (.threw q) := State.frames_setFrames _ (State.cur_lt_of_frames hfr)
  refine ⟨(T.setVm vm').setFrames (.throwing q :: below), ?_, .threw q, X'.here.running, hend, Or.inr ⟨q, rfl, E, ce, locs, hx _ hT (X'.ends _).1.alike, hcell9, hv, hcl, (X'.ends _).1, (X'.ends _).2.mono hc hs, hf⟩⟩
  rw [X.pushThrowing_eq]
  exact st
theorem vx_lt {D : va_G} {cl : List vw_C} {ws : va_W} {H1 : Heap} (h : va_P D cl ws H1) {k : Nat} {q : Nat × va_E} (hk : ws[k]? = some q) : q.1 < H1.size := (h k q hk).lt
end VXS
section VXH
section
variable {l : Launch} {R : Room} {p : Program} {e : Env} {below : List Frame} {s : State} {sargs : Array Value} {y : MethodName} {len W9 : Nat}
theorem vx_backW {ws : List Cond} {rm : Room} {Pc : Array Value → State → Prop} {Qc : Array Value → State → Outcome → State → Prop} {XC : String → State → State → Prop} {mc ms : Nat} {free : Addr → Prop} {bytes : ByteArray} {maxL : Nat} {ret : Option FieldType} {hh : List (Nat × Nat × Nat × Nat)}
    (hM : vx_Met l y ws rm Pc Qc XC mc ms free) (hblind : FrameBlind Pc) (hrc : rm.cells = mc) (hrs : rm.slots = ms)
    (hframes : rm.frames + 1 ≤ R.frames) (hlocals : W9 + (maxL + 11) + rm.locals ≤ R.locals)
    (hws : ∀ w ∈ ws, ∀ a' U, s.WarmedH U.vm → w.before a' U = true) (hcode : Cond.codeWith y bytes maxL ret hh ∈ ws) (hinit : ∀ a' U, s.WarmedH U.vm → (Cond.initialized y.cls).before a' U = true) :
    vx_Back l R p e below s sargs y len W9 (PreOf R mc ms Pc) (PostOf Qc mc ms free) (vx_Post XC mc ms free) := by
  intro m meth c A g ig mk a X hg hsize hdg hW hn hp
  have h1 : (headSpec ws rm).pre.before a A.U = true := atoms_intro fun w hw => hws w hw _ _ X.warmed
  have h2 : (Cond.codeWith y bytes maxL ret hh).before a A.U = true := hws _ hcode _ _ X.warmed
  have h3 : (Cond.initialized y.cls).before a A.U = true := hinit _ _ X.warmed
  have h4 : A.cells + (headSpec ws rm).room.cells ≤ R.cells := by rw [show (headSpec ws rm).room.cells = mc from hrc]; exact hp.1
  have h5 : A.slots + (headSpec ws rm).room.slots ≤ R.slots := by rw [show (headSpec ws rm).room.slots = ms from hrs]; exact hp.2.1
  have hPc : Pc a (A.U.calling g mk a) := hblind _ _ _ _ hp.2.2
  obtain ⟨U, Ls, c0, s0⟩ := A
  dsimp only [Pt.U, Pt.locs, Pt.cells, Pt.slots] at h1 h2 h3 h4 h5 X hn hPc ⊢
  obtain ⟨m9, methY, cY, hn9, hmY, hcY, -, hlY, -⟩ := Cond.codeWith_spec h2
  cases Option.some.inj (hn9.symm.trans hn)
  obtain ⟨kY, hkY, -⟩ := className_of_methodNamed hn
  have hinitY : kY.init = .initialized := Cond.initialized_spec (findClass_of_methodNamed hn) hkY h3
  have h : At U g.method c below := by rw [hg]; exact X.here
  have hlocals9 : W9 + (maxL + 11) + (headSpec ws rm).room.locals ≤ R.locals := hlocals
  have happ : (headSpec ws rm).appliesLoose y e.platform (U.calling g mk a) = true :=
    Spec.appliesLoose_calling (g := g) h hdg hn hkY hinitY
      (X.room_calling (g := g) (R' := (headSpec ws rm).room) hsize hmY hcY hframes (by rw [hlY]; omega) h4 h5) h1
  obtain ⟨mid, hmid⟩ := h.above
  have hfr : (U.setTop g).frames = (.java g :: mid) ++ below := by rw [State.frames_setTop' g h.top, hmid]; rfl
  obtain ⟨o, s₂, hsteps, -, hend, hq⟩ := Steps.callFree hM p X.admits X.cas X.clock (acts := []) hfr happ hPc trivial
  have hq' : vx_Q Qc XC mc ms free a (U.calling g mk a) o s₂ := hq
  rw [State.frames_setTop' g h.top] at hend
  obtain ⟨g₀, hg0⟩ := Option.isSome_iff_exists.mp h.top
  obtain ⟨r, hr⟩ := State.topJava?_eq_some.mp hg0
  have hr' : (({ U with heap := s₂.heap, slotsUsed := s₂.slotsUsed } : State).setVm s₂.vm).frames = .java g₀ :: r := hr
  rcases hq' with ⟨hqc, L, hfe, hL⟩ | ⟨q, rfl, E, ce, L, hx, hce, hcv, hcl, hW₂, hsm, hL⟩
  · obtain ⟨⟨v, rfl⟩, hW₂, e2, q2, q3, q4, q5, q6⟩ := id hfe
    have e3 : s₂ = ({ (U.calling g mk a).setFrames s₂.frames with heap := s₂.heap, slotsUsed := s₂.slotsUsed } : State).setVm s₂.vm := by
      have : s₂ = ({ s₂ with vm := (U.calling g mk a).vm } : State).setVm s₂.vm := rfl
      rw [e2] at this
      exact this
    obtain ⟨c₂, i₂, len₂, hc₂, hd₂, hf₂⟩ := hend
    have hW' : U.WarmedH s₂.vm := hW₂
    have hcc : c₂ = c := by
      have h1 : s₂.code? g.method = U.code? g.method := by
        rw [State.code?_eq, State.code?_eq, hW'.alike.method?]
      exact Option.some.inj (hc₂.symm.trans (h1.trans h.code))
    subst hcc
    have hlen : len₂ = len := by rw [hdg] at hd₂; cases hd₂; rfl
    subst hlen
    have hs₂ : s₂ = (({ U with heap := s₂.heap, slotsUsed := s₂.slotsUsed } : State).setVm s₂.vm).setTop { g with pc := g.pc + len₂, stack := v.toList ++ g.stack } := by
      refine e3.trans ?_
      rw [hf₂, State.calling_eq h.top, State.setFrames_setFrames, State.setTop_of_frames _ hr', hr]
      rfl
    have hsame : U.sameButNew ({ U with heap := s₂.heap, slotsUsed := s₂.slotsUsed } : State) L mc ms := by
      refine ⟨?_, q2, q3, q4, q5, q6⟩
      obtain ⟨t, ht, -⟩ := State.frames_cons hr
      show ({ U with heap := s₂.heap, slotsUsed := s₂.slotsUsed } : State) = { U.setFrames U.frames with heap := s₂.heap, slotsUsed := s₂.slotsUsed }
      rw [State.setFrames_self ht]
    subst hg
    refine Or.inl ⟨v, ⟨(({ U with heap := s₂.heap, slotsUsed := s₂.slotsUsed } : State).setVm s₂.vm), Ls ++ L, c0 + mc, s0 + ms⟩,
      ⟨X.admits, X.cas, X.clock, X.frames, X.room, X.hears, X.method, X.code, (X.here.setHeapUsed s₂.heap s₂.slotsUsed).setVm hW'.alike, X.tail, State.WarmedH.trans X.warmed hW', X.limits, X.bytes, X.same.trans (hsame.setVm s.vm)⟩,
      ⟨g, mk, s₂, L, rfl, rfl, hqc, rfl, hL, rfl, rfl⟩, ?_⟩
    show Steps p.tables e below _ ((({ U with heap := s₂.heap, slotsUsed := s₂.slotsUsed } : State).setVm s₂.vm).setTop { g with pc := g.pc + len₂, stack := v.toList ++ g.stack })
    rw [← hs₂]
    exact hsteps
  · obtain ⟨e2, q2, q3, q4, q5, q6⟩ := id hsm
    have e3 : s₂ = ({ (U.calling g mk a).setFrames s₂.frames with heap := s₂.heap, slotsUsed := s₂.slotsUsed } : State).setVm s₂.vm := by
      have : s₂ = ({ s₂ with vm := (U.calling g mk a).vm } : State).setVm s₂.vm := rfl
      rw [e2] at this
      exact this
    have hf₂ : s₂.frames = .throwing q :: .java g :: U.frames.tail := hend
    have hW' : U.WarmedH s₂.vm := hW₂
    have hs₂ : s₂ = ((({ U with heap := s₂.heap, slotsUsed := s₂.slotsUsed } : State).setVm s₂.vm).setTop g).pushFrame (.throwing q) := by
      refine e3.trans ?_
      rw [hf₂, State.calling_eq h.top, State.setFrames_setFrames, State.pushFrame, State.frames_setTop _ hr', State.setTop_of_frames _ hr', State.setFrames_setFrames, hr]
      rfl
    have hsame : U.sameButNew ({ U with heap := s₂.heap, slotsUsed := s₂.slotsUsed } : State) L mc ms := by
      refine ⟨?_, q2, q3, q4, q5, q6⟩
      obtain ⟨t, ht, -⟩ := State.frames_cons hr
      show ({ U with heap := s₂.heap, slotsUsed := s₂.slotsUsed } : State) = { U.setFrames U.frames with heap := s₂.heap, slotsUsed := s₂.slotsUsed }
      rw [State.setFrames_self ht]
    subst hg
    refine Or.inr ⟨q, ⟨(({ U with heap := s₂.heap, slotsUsed := s₂.slotsUsed } : State).setVm s₂.vm), Ls ++ L, c0 + mc, s0 + ms⟩,
      ⟨X.admits, X.cas, X.clock, X.frames, X.room, X.hears, X.method, X.code, (X.here.setHeapUsed s₂.heap s₂.slotsUsed).setVm hW'.alike, X.tail, State.WarmedH.trans X.warmed hW', X.limits, X.bytes, X.same.trans (hsame.setVm s.vm)⟩,
      ⟨g, mk, s₂, L, E, ce, rfl, rfl, hx, hce, hcv, hcl, rfl, hL, rfl, rfl⟩, ?_⟩
    show Steps p.tables e below _ (((({ U with heap := s₂.heap, slotsUsed := s₂.slotsUsed } : State).setVm s₂.vm).setTop g).pushFrame (.throwing q))
    rw [← hs₂]
    exact hsteps
end
variable {p : Program} {l : Launch} {e : Env} {R : Room} {s : State} {m : MethodId} {args : Array Value} {below : List Frame} {meth : Method} {c : Code} {T : State} {H : Heap} {locs : List Loc} {cells slots : Nat}
theorem vx_callVX (X : Stand p l e R s m args below meth c T locs cells slots) (hexec : p.tables.exec = Jvm.exec) {own C : String} {index : Nat} {y : MethodName} {bytes : ByteArray} {maxL : Nat} {ret : Option FieldType} {hh : List (Nat × Nat × Nat × Nat)}
    (hown : s.vm.findClass own = some m.cls) (hlink : (Cond.methodLink own index y).before args s = true) (hinst : (Cond.instanceMethod y).before args s = true) (hsel : (Cond.selects C y y).before args s = true)
    (hcode : (Cond.codeWith y bytes maxL ret hh).before args s = true) (hy : y.cls ≠ "java/lang/invoke/MethodHandle" ∧ y.cls ≠ "java/lang/invoke/VarHandle")
    {W9 : Nat} {Pre : Pt → Array Value → Prop} {Post : Pt → Array Value → Option Value → Pt → Prop} {PostX : Pt → Array Value → Addr → Pt → Prop} (hK : vx_Back l R p e below s args y 3 W9 Pre Post PostX)
    {b : Addr} {cellB : Cell} (hcell : T.heap[b]? = some cellB) (hobj : cellB.vm.isStatics = false) (hcls : s.vm.findClass C = some cellB.cls)
    {g : JFrame} (hg : g.method = m) (hsize : g.locals.size = c.maxLocals) {argsL rest : List Value} (hlen : ∀ sig, parseMethodDescriptor y.desc = some sig → argsL.length = sig.parameters.length)
    (hstack : g.stack = argsL.reverse ++ .ref b :: rest) (hW : 2 * g.monitorRoom + (rest.map fun v => v.category).sum ≤ W9) (hdg : decode c.code g.pc = .ok (.invokevirtual index, 3))
    (hpre : ∀ vm₁, s.WarmedH vm₁ → Pre ⟨T.setVm vm₁, locs, cells, slots⟩ (Value.ref b :: argsL).toArray) :
    (∃ (v : Option Value) (vm₁ : Vm) (B : Pt), s.WarmedH vm₁ ∧ Stand p l e R s m args below meth c B.U B.locs B.cells B.slots ∧ Post ⟨T.setVm vm₁, locs, cells, slots⟩ (Value.ref b :: argsL).toArray v B ∧
      ∀ target, Steps p.tables e below (B.U.setTop { g with pc := g.pc + 3, stack := v.toList ++ rest }) target → Steps p.tables e below (T.setTop g) target) ∨
    (∃ (q : Addr) (vm₁ : Vm) (B : Pt), s.WarmedH vm₁ ∧ Stand p l e R s m args below meth c B.U B.locs B.cells B.slots ∧ PostX ⟨T.setVm vm₁, locs, cells, slots⟩ (Value.ref b :: argsL).toArray q B ∧
      Steps p.tables e below (T.setTop g) ((B.U.setTop { g with stack := rest }).pushFrame (.throwing q))) := by
  obtain ⟨mk, methM, hnamed, hmethM, hstM, habM⟩ := Cond.instanceMethod_spec hinst
  obtain ⟨m8, methM', cM, hn8, hmethM', -, -, -, -, -, -, hsigM⟩ := Cond.codeWith_spec hcode
  cases Option.some.inj (hn8.symm.trans hnamed)
  cases hmethM.symm.trans hmethM'
  obtain ⟨c2, r2, m2, q1, q2, q3, q4, kP, hkP, hkPi⟩ := Cond.selects_spec hsel
  cases hcls.symm.trans q1
  cases (State.methodFound?_of_named hnamed hy).symm.trans q2
  cases hnamed.symm.trans q3
  have hselP : selectMethod e.platform s.vm cellB.cls mk = .method mk := by rw [Launch.admits_selectMethod X.admits]; exact q4
  obtain ⟨vm₁, X₁, hstep₁⟩ := X.invokevirtual hexec hown hlink hnamed hmethM hstM hkP hkPi hy (a := b) (cell := cellB) hcell
    (fun z h => by rw [h] at hobj; cases hobj) hselP hmethM habM hkP hkPi (g := g) hg (argsL := argsL) (rest := rest) (hlen _ hsigM) hstack hdg
  rcases hK m meth c ⟨T.setVm vm₁, locs, cells, slots⟩ { g with stack := rest } (.invokevirtual index) mk (Value.ref b :: argsL).toArray X₁ hg hsize hdg hW (X₁.named hnamed) (hpre vm₁ X₁.warmed) with ⟨v, B, X', hpost, hsteps⟩ | ⟨q, B, X', hpost, hsteps⟩
  · exact Or.inl ⟨v, vm₁, B, X₁.warmed, X', hpost, fun target h => hstep₁ _ fun acts => by rw [doInvoke_state]; exact hsteps.trans h⟩
  · exact Or.inr ⟨q, vm₁, B, X₁.warmed, X', hpost, hstep₁ _ fun acts => by rw [doInvoke_state]; exact hsteps⟩
theorem vx_callSX (X : Stand p l e R s m args below meth c T locs cells slots) (hexec : p.tables.exec = Jvm.exec) {own : String} {index : Nat} {y : MethodName} {bytes : ByteArray} {maxL : Nat} {ret : Option FieldType} {hh : List (Nat × Nat × Nat × Nat)}
    (hown : s.vm.findClass own = some m.cls) (hlink : (Cond.methodLink own index y).before args s = true) (hstat : (Cond.static y).before args s = true) (hinit : (Cond.initialized y.cls).before args s = true)
    (hcode : (Cond.codeWith y bytes maxL ret hh).before args s = true) (hy : y.cls ≠ "java/lang/invoke/MethodHandle" ∧ y.cls ≠ "java/lang/invoke/VarHandle")
    {W9 : Nat} {Pre : Pt → Array Value → Prop} {Post : Pt → Array Value → Option Value → Pt → Prop} {PostX : Pt → Array Value → Addr → Pt → Prop} (hK : vx_Back l R p e below s args y 3 W9 Pre Post PostX)
    {g : JFrame} (hg : g.method = m) (hsize : g.locals.size = c.maxLocals) {argsL rest : List Value} (hlen : ∀ sig, parseMethodDescriptor y.desc = some sig → argsL.length = sig.parameters.length)
    (hstack : g.stack = argsL.reverse ++ rest) (hW : 2 * g.monitorRoom + (rest.map fun v => v.category).sum ≤ W9) (hdg : decode c.code g.pc = .ok (.invokestatic index, 3))
    (hpre : ∀ vm₁, s.WarmedH vm₁ → Pre ⟨T.setVm vm₁, locs, cells, slots⟩ argsL.toArray) :
    (∃ (v : Option Value) (vm₁ : Vm) (B : Pt), s.WarmedH vm₁ ∧ Stand p l e R s m args below meth c B.U B.locs B.cells B.slots ∧ Post ⟨T.setVm vm₁, locs, cells, slots⟩ argsL.toArray v B ∧
      ∀ target, Steps p.tables e below (B.U.setTop { g with pc := g.pc + 3, stack := v.toList ++ rest }) target → Steps p.tables e below (T.setTop g) target) ∨
    (∃ (q : Addr) (vm₁ : Vm) (B : Pt), s.WarmedH vm₁ ∧ Stand p l e R s m args below meth c B.U B.locs B.cells B.slots ∧ PostX ⟨T.setVm vm₁, locs, cells, slots⟩ argsL.toArray q B ∧
      Steps p.tables e below (T.setTop g) ((B.U.setTop { g with stack := rest }).pushFrame (.throwing q))) := by
  obtain ⟨mk, methM, cM, hnamed, hmethM, -, -, -, -, -, -, hsigM⟩ := Cond.codeWith_spec hcode
  have hstatic : methM.isStatic = true := Cond.static_spec hnamed hmethM hstat
  obtain ⟨kP, hkP, -⟩ := className_of_methodNamed hnamed
  have hinitP : kP.init = .initialized := Cond.initialized_spec (findClass_of_methodNamed hnamed) hkP hinit
  obtain ⟨vm₁, X₁, hstep₁⟩ := X.invokestatic hexec hown hlink hnamed hmethM hstatic hkP hinitP hy (g := g) hg (argsL := argsL) (rest := rest) (hlen _ hsigM) hstack hdg
  rcases hK m meth c ⟨T.setVm vm₁, locs, cells, slots⟩ { g with stack := rest } (.invokestatic index) mk argsL.toArray X₁ hg hsize hdg hW (X₁.named hnamed) (hpre vm₁ X₁.warmed) with ⟨v, B, X', hpost, hsteps⟩ | ⟨q, B, X', hpost, hsteps⟩
  · exact Or.inl ⟨v, vm₁, B, X₁.warmed, X', hpost, fun target h => hstep₁ _ fun acts => by rw [doInvoke_state]; exact hsteps.trans h⟩
  · exact Or.inr ⟨q, vm₁, B, X₁.warmed, X', hpost, hstep₁ _ fun acts => by rw [doInvoke_state]; exact hsteps⟩
theorem vx_callVW (X : Stand p l e R s m args below meth c T locs cells slots) (hexec : p.tables.exec = Jvm.exec) {own C : String} {index : Nat} {y : MethodName} {bytes : ByteArray} {maxL : Nat} {ret : Option FieldType} {hh : List (Nat × Nat × Nat × Nat)}
    (hown : s.vm.findClass own = some m.cls) (hlink : (Cond.methodLink own index y).before args s = true) (hinst : (Cond.instanceMethod y).before args s = true) (hsel : (Cond.selects C y y).before args s = true)
    (hcode : (Cond.codeWith y bytes maxL ret hh).before args s = true) (hy : y.cls ≠ "java/lang/invoke/MethodHandle" ∧ y.cls ≠ "java/lang/invoke/VarHandle")
    {W9 : Nat} {Pre : Pt → Array Value → Prop} {Post : Pt → Array Value → Option Value → Pt → Prop} (hK : Back l R p e below s args y 3 W9 Pre Post)
    {b : Addr} {cellB : Cell} (hcell : T.heap[b]? = some cellB) (hobj : cellB.vm.isStatics = false) (hcls : s.vm.findClass C = some cellB.cls)
    {g : JFrame} (hg : g.method = m) (hsize : g.locals.size = c.maxLocals) {argsL rest : List Value} (hlen : ∀ sig, parseMethodDescriptor y.desc = some sig → argsL.length = sig.parameters.length)
    (hstack : g.stack = argsL.reverse ++ .ref b :: rest) (hW : 2 * g.monitorRoom + (rest.map fun v => v.category).sum ≤ W9) (hdg : decode c.code g.pc = .ok (.invokevirtual index, 3))
    (hpre : ∀ vm₁, s.WarmedH vm₁ → Pre ⟨T.setVm vm₁, locs, cells, slots⟩ (Value.ref b :: argsL).toArray) :
    ∃ (v : Option Value) (vm₁ : Vm) (B : Pt), s.WarmedH vm₁ ∧ Stand p l e R s m args below meth c B.U B.locs B.cells B.slots ∧ Post ⟨T.setVm vm₁, locs, cells, slots⟩ (Value.ref b :: argsL).toArray v B ∧
      ∀ target, Steps p.tables e below (B.U.setTop { g with pc := g.pc + 3, stack := v.toList ++ rest }) target → Steps p.tables e below (T.setTop g) target := by
  obtain ⟨mk, methM, hnamed, hmethM, hstM, habM⟩ := Cond.instanceMethod_spec hinst
  obtain ⟨m8, methM', cM, hn8, hmethM', -, -, -, -, -, -, hsigM⟩ := Cond.codeWith_spec hcode
  cases Option.some.inj (hn8.symm.trans hnamed)
  cases hmethM.symm.trans hmethM'
  obtain ⟨c2, r2, m2, q1, q2, q3, q4, kP, hkP, hkPi⟩ := Cond.selects_spec hsel
  cases hcls.symm.trans q1
  cases (State.methodFound?_of_named hnamed hy).symm.trans q2
  cases hnamed.symm.trans q3
  have hselP : selectMethod e.platform s.vm cellB.cls mk = .method mk := by rw [Launch.admits_selectMethod X.admits]; exact q4
  obtain ⟨vm₁, X₁, hstep₁⟩ := X.invokevirtual hexec hown hlink hnamed hmethM hstM hkP hkPi hy (a := b) (cell := cellB) hcell
    (fun z h => by rw [h] at hobj; cases hobj) hselP hmethM habM hkP hkPi (g := g) hg (argsL := argsL) (rest := rest) (hlen _ hsigM) hstack hdg
  obtain ⟨v, B, X', hpost, hsteps⟩ := hK m meth c ⟨T.setVm vm₁, locs, cells, slots⟩ { g with stack := rest } (.invokevirtual index) mk (Value.ref b :: argsL).toArray X₁ hg hsize hdg hW (X₁.named hnamed) (hpre vm₁ X₁.warmed)
  exact ⟨v, vm₁, B, X₁.warmed, X', hpost, fun target h => hstep₁ _ fun acts => by rw [doInvoke_state]; exact hsteps.trans h⟩
abbrev vx_CVW (R : Room) (s : State) (args : Array Value) (own C : String) (index : Nat) (y : MethodName) (bytes : ByteArray) (maxL : Nat) (ret : Option FieldType) (hh : List (Nat × Nat × Nat × Nat)) (ws : List Cond) (rm : Room) (mc ms n : Nat) : Prop :=
  (rm.cells = mc ∧ rm.slots = ms ∧ rm.frames + 1 ≤ R.frames ∧ 8 + (maxL + 11) + rm.locals ≤ R.locals ∧ (∀ w ∈ ws, ∀ (a' : Array Value) (U : State), s.WarmedH U.vm → w.before a' U = true) ∧ Cond.codeWith y bytes maxL ret hh ∈ ws) ∧
  (Cond.codeWith y bytes maxL ret hh).before args s = true ∧ (Cond.initialized y.cls).before args s = true ∧ (y.cls ≠ "java/lang/invoke/MethodHandle" ∧ y.cls ≠ "java/lang/invoke/VarHandle") ∧
  (∀ sig, parseMethodDescriptor y.desc = some sig → n = sig.parameters.length) ∧ (Cond.methodLink own index y).before args s = true ∧ (Cond.instanceMethod y).before args s = true ∧ (Cond.selects C y y).before args s = true
theorem vx_cwVW {own C : String} {index maxL mc ms : Nat} {y : MethodName} {bytes : ByteArray} {ret : Option FieldType} {hh : List (Nat × Nat × Nat × Nat)} {Ts ws ws' : List Cond} {rm : Room} (n : Nat) (ht : ∀ w ∈ Ts, w.before args s = true) (hT : GoodIn Ts (wsV own index C y ws)) (hw : ws = Cond.codeWith y bytes maxL ret hh :: ws') (hrc : rm.cells = mc) (hrs : rm.slots = ms)
    (hd : y.cls = C ∧ y.cls ≠ "java/lang/invoke/MethodHandle" ∧ y.cls ≠ "java/lang/invoke/VarHandle" ∧ (parseMethodDescriptor y.desc).map (fun d => d.parameters.length) = some n) (hR : rm.frames + 1 ≤ R.frames ∧ 8 + (maxL + 11) + rm.locals ≤ R.locals) :
    vx_CVW R s args own C index y bytes maxL ret hh ws rm mc ms n := by
  obtain ⟨hC, hd⟩ := hd
  subst hC
  have ok : ∀ w ∈ wsV own index y.cls y ws, w.before args s = true := fun w h => ht w (hT w h).1
  have hG : GoodIn Ts ws := fun w h => hT w (by unfold wsV; exact List.mem_append_right _ h)
  have hc : Cond.codeWith y bytes maxL ret hh ∈ ws := by rw [hw]; exact List.mem_cons_self
  refine ⟨⟨hrc, hrs, hR.1, hR.2, pay_in ht hG, hc⟩, ht _ (hG _ hc).1, ok _ (by simp [wsV]), ⟨hd.1, hd.2.1⟩, fun sig h => ?_, ok _ (by simp [wsV]), ok _ (by simp [wsV]), ok _ (by simp [wsV])⟩
  have h2 := hd.2.2
  rw [h] at h2
  exact (Option.some.inj h2).symm
theorem vx_runVW {y : MethodName} {bytes cc : ByteArray} {maxL nL mc ms n index : Nat} {ret : Option FieldType} {hh : List (Nat × Nat × Nat × Nat)} {ws : List Cond} {rm : Room} {Pc : Array Value → State → Prop} {Qc : Array Value → State → Outcome → State → Prop} {free : Addr → Prop} {Ts : List Cond} {own C : String} {b : Addr} {As rest : List Value} {g : JFrame}
    (S : CallFix p m c cc nL s args Ts own) (hM : Met l y ws rm Pc Qc mc ms free) (cw : vx_CVW R s args own C index y bytes maxL ret hh ws rm mc ms n) (hp : PreV s H C b Pc As)
    (hg : g.method = m) (hn : As.length = n) (hsize : g.locals.size = nL) (hstack : g.stack = As.reverse ++ .ref b :: rest) (hW : 2 * g.monitorRoom + (rest.map fun v => v.category).sum ≤ 8) (hdg : decode cc g.pc = .ok (.invokevirtual index, 3)) (hf : cells + mc ≤ R.cells ∧ slots + ms ≤ R.slots) :
    va_Run p l e R s m args below meth c H locs cells slots mc ms g rest (Qc (Value.ref b :: As).toArray) free := by
  obtain ⟨⟨hrc, hrs, hfr, hlo, hws, hcw⟩, hcode, hini, hy, hlen, hl, hin, hse⟩ := cw
  have hK : Back l R p e below s args y 3 8 (PreOf R mc ms Pc) (PostOf Qc mc ms free) := va_backW (hh := hh) (bytes := bytes) (maxL := maxL) (ret := ret) hM hp.1 hrc hrs hfr hlo hws hcw (fun a' U hW => word_at hW (Or.inl (by first | rfl | simp [Cond.onTables, Cond.keeps, Cond.steady])) hini)
  obtain ⟨hx, hb, hml, ho, -⟩ := S
  obtain ⟨-, ⟨cellB, hcB, hoB, hclB⟩, hPc⟩ := hp
  intro T hT X
  obtain ⟨v, vm₁, ⟨U', l2, c2, s2⟩, hW₁, X', ⟨g', mk, t, L, e1, e2, hq, h1, hL, h2, h3⟩, st⟩ := vx_callVW X hx (C := C) (hh := hh) (bytes := bytes) (maxL := maxL) (ret := ret) ho hl hin hse hcode hy hK (by rw [hT]; exact hcB) hoB hclB hg (hsize.trans hml.symm) (argsL := As) (rest := rest) (fun sig h => hn.trans (hlen sig h)) hstack hW (by rw [hb]; exact hdg)
    (fun vm₁ hW₁ => ⟨hf.1, hf.2, hPc (T.setVm vm₁) hT hW₁⟩)
  dsimp only [Pt.U, Pt.locs, Pt.cells, Pt.slots] at X' e1 e2 h1 h2 h3 st
  subst h1; subst h2; subst h3
  exact ⟨v, (T.setVm vm₁).calling g' mk (Value.ref b :: As).toArray, t, U', L, hT, X', hL, e1, e2, hq, st⟩
section
variable {y : MethodName} {bytes cc : ByteArray} {maxL nL mc ms n index : Nat} {ret : Option FieldType} {ws : List Cond} {rm : Room} {Pc : Array Value → State → Prop} {Qc : Array Value → State → Outcome → State → Prop} {XC : String → State → State → Prop} {free : Addr → Prop} {Ts : List Cond} {own C : String} {b : Addr} {As rest : List Value} {g : JFrame}
theorem vx_runVX {hh : List (Nat × Nat × Nat × Nat)} (S : CallFix p m c cc nL s args Ts own) (hM : vx_Met l y ws rm Pc Qc XC mc ms free) (cw : vx_CVW R s args own C index y bytes maxL ret hh ws rm mc ms n) (hp : PreV s H C b Pc As)
    (hg : g.method = m) (hn : As.length = n) (hsize : g.locals.size = nL) (hstack : g.stack = As.reverse ++ .ref b :: rest) (hW : 2 * g.monitorRoom + (rest.map fun v => v.category).sum ≤ 8) (hdg : decode cc g.pc = .ok (.invokevirtual index, 3)) (hf : cells + mc ≤ R.cells ∧ slots + ms ≤ R.slots) :
    vx_Run p l e R s m args below meth c H locs cells slots mc ms g rest (Qc (Value.ref b :: As).toArray) XC free := by
  obtain ⟨⟨hrc, hrs, hfr, hlo, hws, hcw⟩, hcode, hini, hy, hlen, hl, hin, hse⟩ := cw
  have hK : vx_Back l R p e below s args y 3 8 (PreOf R mc ms Pc) (PostOf Qc mc ms free) (vx_Post XC mc ms free) := vx_backW (hh := hh) (bytes := bytes) (maxL := maxL) (ret := ret) hM hp.1 hrc hrs hfr hlo hws hcw (fun a' U hW => word_at hW (Or.inl (by first | rfl | simp [Cond.onTables, Cond.keeps, Cond.steady])) hini)
  obtain ⟨hx, hb, hml, ho, -⟩ := S
  obtain ⟨-, ⟨cellB, hcB, hoB, hclB⟩, hPc⟩ := hp
  intro T hT X
  rcases vx_callVX X hx (C := C) (hh := hh) (bytes := bytes) (maxL := maxL) (ret := ret) ho hl hin hse hcode hy hK (by rw [hT]; exact hcB) hoB hclB hg (hsize.trans hml.symm) (argsL := As) (rest := rest) (fun sig h => hn.trans (hlen sig h)) hstack hW (by rw [hb]; exact hdg)
    (fun vm₁ hW₁ => ⟨hf.1, hf.2, hPc (T.setVm vm₁) hT hW₁⟩) with ⟨v, vm₁, ⟨U', l2, c2, s2⟩, hW₁, X', ⟨g', mk, t, L, e1, e2, hq, h1, hL, h2, h3⟩, st⟩ | ⟨q, vm₁, ⟨U', l2, c2, s2⟩, hW₁, X', ⟨g', mk, t, L, E, ce, e1, e2, hq, hce, hcv, hcl, h1, hL, h2, h3⟩, st⟩
  · dsimp only [Pt.U, Pt.locs, Pt.cells, Pt.slots] at X' e1 e2 h1 h2 h3 st
    subst h1; subst h2; subst h3
    exact Or.inl ⟨v, (T.setVm vm₁).calling g' mk (Value.ref b :: As).toArray, t, U', L, hT, X', hL, e1, e2, hq, st⟩
  · dsimp only [Pt.U, Pt.locs, Pt.cells, Pt.slots] at X' e1 e2 h1 h2 h3 st hcl
    subst h1; subst h2; subst h3
    exact Or.inr ⟨q, (T.setVm vm₁).calling g' mk (Value.ref b :: As).toArray, t, U', L, E, ce, hT, X', hL, e1, e2, hq, hce, hcv, vx_cls hW₁ hcl, st⟩
theorem vx_runSX {hh : List (Nat × Nat × Nat × Nat)} (S : CallFix p m c cc nL s args Ts own) (hM : vx_Met l y ws rm Pc Qc XC mc ms free) (cw : vx_CSW R s args own index y bytes maxL ret hh ws rm mc ms n) (hp : PreS s H Pc As)
    (hg : g.method = m) (hn : As.length = n) (hsize : g.locals.size = nL) (hstack : g.stack = As.reverse ++ rest) (hW : 2 * g.monitorRoom + (rest.map fun v => v.category).sum ≤ 8) (hdg : decode cc g.pc = .ok (.invokestatic index, 3)) (hf : cells + mc ≤ R.cells ∧ slots + ms ≤ R.slots) :
    vx_Run p l e R s m args below meth c H locs cells slots mc ms g rest (Qc As.toArray) XC free := by
  obtain ⟨⟨hrc, hrs, hfr, hlo, hws, hcw⟩, hcode, hini, hy, hlen, hl, hstt⟩ := cw
  have hK : vx_Back l R p e below s args y 3 8 (PreOf R mc ms Pc) (PostOf Qc mc ms free) (vx_Post XC mc ms free) := vx_backW (hh := hh) (bytes := bytes) (maxL := maxL) (ret := ret) hM hp.1 hrc hrs hfr hlo hws hcw (fun a' U hW => word_at hW (Or.inl (by first | rfl | simp [Cond.onTables, Cond.keeps, Cond.steady])) hini)
  obtain ⟨hx, hb, hml, ho, -⟩ := S
  intro T hT X
  rcases vx_callSX X hx (hh := hh) (bytes := bytes) (maxL := maxL) (ret := ret) ho hl hstt hini hcode hy hK hg (hsize.trans hml.symm) (argsL := As) (rest := rest) (fun sig h => hn.trans (hlen sig h)) hstack hW (by rw [hb]; exact hdg)
    (fun vm₁ hW₁ => ⟨hf.1, hf.2, hp.2 (T.setVm vm₁) hT hW₁⟩) with ⟨v, vm₁, ⟨U', l2, c2, s2⟩, hW₁, X', ⟨g', mk, t, L, e1, e2, hq, h1, hL, h2, h3⟩, st⟩ | ⟨q, vm₁, ⟨U', l2, c2, s2⟩, hW₁, X', ⟨g', mk, t, L, E, ce, e1, e2, hq, hce, hcv, hcl, h1, hL, h2, h3⟩, st⟩
  · dsimp only [Pt.U, Pt.locs, Pt.cells, Pt.slots] at X' e1 e2 h1 h2 h3 st
    subst h1; subst h2; subst h3
    exact Or.inl ⟨v, (T.setVm vm₁).calling g' mk As.toArray, t, U', L, hT, X', hL, e1, e2, hq, st⟩
  · dsimp only [Pt.U, Pt.locs, Pt.cells, Pt.slots] at X' e1 e2 h1 h2 h3 st hcl
    subst h1; subst h2; subst h3
    exact Or.inr ⟨q, (T.setVm vm₁).calling g' mk As.toArray, t, U', L, E, ce, hT, X', hL, e1, e2, hq, hce, hcv, vx_cls hW₁ hcl, st⟩
end
end VXH
theorem vx_ofWH {l : Launch} {y : MethodName} {ws ws' : List Cond} {rm : Room} {Pc : Array Value → State → Prop} {Qc : Array Value → State → Outcome → State → Prop} {XC : String → State → State → Prop} {mc ms : Nat} {free : Addr → Prop} {cc : ByteArray} {maxL : Nat} {ret : Option FieldType} {hh : List (Nat × Nat × Nat × Nat)}
    (hy : plainName y.cls = true) (hw : ws = Cond.codeWith y cc maxL ret hh :: ws')
    (body : ∀ p e s m args below meth c s₁, BodyLoose p l y (headSpec ws rm) cc maxL ret e s m args below meth c s₁ → c.maxLocals = maxL → Pc args s →
      W p l e (headSpec ws rm).room s m args below meth c s.heap [] 0 0 (vx_MQ below Qc XC args s mc ms free) (entryFrame m args maxL)) : vx_Met l y ws rm Pc Qc XC mc ms free := by
  refine MetFree.of_bodyS (code := cc) (maxLocals := maxL) (ret := ret) hy ?_ ?_
  · intro args s m h hn
    obtain ⟨m9, meth, c, hn9, h1, h2, h3, h4, -, h5, h6, -⟩ := Cond.codeWith_spec (atoms_spec (ws := ws) h _ (by rw [hw]; exact List.mem_cons_self))
    cases hn.symm.trans hn9
    exact ⟨meth, c, h1, h2, h3, h4, h5, h6⟩
  · intro p e s m args below meth c s₁ B hml hP _
    have hh0 : s₁.heap = s.heap := by rw [B.state]; rfl
    obtain ⟨t, a1, o, b1, b2, b3⟩ := body p e s m args below meth c s₁ B hml hP s₁ hh0 (Stand.of_body B)
    exact ⟨t, o, a1, b1, b2, b3⟩
end
section
abbrev cV_init : ByteArray := prog_2_method_1_code
abbrev yV_init : MethodName := ⟨"HybridTrack$Vehicle", "<init>", "()V"⟩
abbrev cV_becomeTrain : ByteArray := prog_2_method_2_code
abbrev yV_becomeTrain : MethodName := ⟨"HybridTrack$Vehicle", "becomeTrain", "(II)V"⟩
abbrev cV_becomeWagon : ByteArray := prog_2_method_3_code
abbrev yV_becomeWagon : MethodName := ⟨"HybridTrack$Vehicle", "becomeWagon", "(II)V"⟩
abbrev cV_sendReport : ByteArray := prog_2_method_4_code
abbrev yV_sendReport : MethodName := ⟨"HybridTrack$Vehicle", "sendReport", "()V"⟩
abbrev cV_reportOrAge : ByteArray := prog_2_method_5_code
abbrev yV_reportOrAge : MethodName := ⟨"HybridTrack$Vehicle", "reportOrAge", "()V"⟩
abbrev cV_lastPlace : ByteArray := prog_2_method_6_code
abbrev yV_lastPlace : MethodName := ⟨"HybridTrack$Vehicle", "lastPlace", "()I"⟩
abbrev cV_standsWithin : ByteArray := prog_2_method_7_code
abbrev yV_standsWithin : MethodName := ⟨"HybridTrack$Vehicle", "standsWithin", "(II)Z"⟩
abbrev cV_isMute : ByteArray := prog_2_method_8_code
abbrev yV_isMute : MethodName := ⟨"HybridTrack$Vehicle", "isMute", "()Z"⟩
abbrev cV_isLocatedOn : ByteArray := prog_2_method_9_code
abbrev yV_isLocatedOn : MethodName := ⟨"HybridTrack$Vehicle", "isLocatedOn", "(I)Z"⟩
abbrev cV_claimsWithin : ByteArray := prog_2_method_10_code
abbrev yV_claimsWithin : MethodName := ⟨"HybridTrack$Vehicle", "claimsWithin", "(II)Z"⟩
abbrev cV_hasLeft : ByteArray := prog_2_method_11_code
abbrev yV_hasLeft : MethodName := ⟨"HybridTrack$Vehicle", "hasLeft", "(I)Z"⟩
abbrev cH_init : ByteArray := prog_1_method_1_code
abbrev yH_init : MethodName := ⟨"HybridTrack", "<init>", "()V"⟩
abbrev cH_enter : ByteArray := prog_1_method_2_code
abbrev yH_enter : MethodName := ⟨"HybridTrack", "enter", "(II)I"⟩
abbrev cH_drive : ByteArray := prog_1_method_3_code
abbrev yH_drive : MethodName := ⟨"HybridTrack", "drive", "(II)I"⟩
abbrev cH_silence : ByteArray := prog_1_method_4_code
abbrev yH_silence : MethodName := ⟨"HybridTrack", "silence", "(IZ)I"⟩
abbrev cH_authorise : ByteArray := prog_1_method_5_code
abbrev yH_authorise : MethodName := ⟨"HybridTrack", "authorise", "(I)I"⟩
abbrev cH_relent : ByteArray := prog_1_method_6_code
abbrev yH_relent : MethodName := ⟨"HybridTrack", "relent", "(I)I"⟩
abbrev cH_lose : ByteArray := prog_1_method_7_code
abbrev yH_lose : MethodName := ⟨"HybridTrack", "lose", "(II)I"⟩
abbrev cH_confirm : ByteArray := prog_1_method_8_code
abbrev yH_confirm : MethodName := ⟨"HybridTrack", "confirm", "(I)I"⟩
abbrev cH_clear : ByteArray := prog_1_method_9_code
abbrev yH_clear : MethodName := ⟨"HybridTrack", "clear", "(I)I"⟩
abbrev cH_tick : ByteArray := prog_1_method_10_code
abbrev yH_tick : MethodName := ⟨"HybridTrack", "tick", "(I)I"⟩
abbrev cH_state : ByteArray := prog_1_method_11_code
abbrev yH_state : MethodName := ⟨"HybridTrack", "state", "(I)I"⟩
abbrev cH_detected : ByteArray := prog_1_method_12_code
abbrev yH_detected : MethodName := ⟨"HybridTrack", "detected", "(I)I"⟩
abbrev cH_vehicle : ByteArray := prog_1_method_13_code
abbrev yH_vehicle : MethodName := ⟨"HybridTrack", "vehicle", "(II)I"⟩
abbrev cH_count : ByteArray := prog_1_method_14_code
abbrev yH_count : MethodName := ⟨"HybridTrack", "count", "(I)I"⟩
abbrev cH_sectionOf : ByteArray := prog_1_method_15_code
abbrev yH_sectionOf : MethodName := ⟨"HybridTrack", "sectionOf", "(I)I"⟩
abbrev cH_isOnTrack : ByteArray := prog_1_method_16_code
abbrev yH_isOnTrack : MethodName := ⟨"HybridTrack", "isOnTrack", "(I)Z"⟩
abbrev cH_existingTrain : ByteArray := prog_1_method_17_code
abbrev yH_existingTrain : MethodName := ⟨"HybridTrack", "existingTrain", "(I)LHybridTrack$Vehicle;"⟩
abbrev cH_isStoodOn : ByteArray := prog_1_method_18_code
abbrev yH_isStoodOn : MethodName := ⟨"HybridTrack", "isStoodOn", "(II)Z"⟩
abbrev cH_isDetectedOccupied : ByteArray := prog_1_method_19_code
abbrev yH_isDetectedOccupied : MethodName := ⟨"HybridTrack", "isDetectedOccupied", "(I)Z"⟩
abbrev cH_isSectionStoodOn : ByteArray := prog_1_method_20_code
abbrev yH_isSectionStoodOn : MethodName := ⟨"HybridTrack", "isSectionStoodOn", "(I)Z"⟩
abbrev cH_isAnyClaimed : ByteArray := prog_1_method_21_code
abbrev yH_isAnyClaimed : MethodName := ⟨"HybridTrack", "isAnyClaimed", "(III)Z"⟩
abbrev cH_isAnyClaimedByMute : ByteArray := prog_1_method_22_code
abbrev yH_isAnyClaimedByMute : MethodName := ⟨"HybridTrack", "isAnyClaimedByMute", "(II)Z"⟩
abbrev cH_farthestFreeFrom : ByteArray := prog_1_method_23_code
abbrev yH_farthestFreeFrom : MethodName := ⟨"HybridTrack", "farthestFreeFrom", "(II)I"⟩
abbrev cH_trainsThatCame : ByteArray := prog_1_method_24_code
abbrev yH_trainsThatCame : MethodName := ⟨"HybridTrack", "trainsThatCame", "()I"⟩
abbrev cH_sectionsInState : ByteArray := prog_1_method_25_code
abbrev yH_sectionsInState : MethodName := ⟨"HybridTrack", "sectionsInState", "(I)I"⟩
abbrev cH_sectionsWronglyFree : ByteArray := prog_1_method_26_code
abbrev yH_sectionsWronglyFree : MethodName := ⟨"HybridTrack", "sectionsWronglyFree", "()I"⟩
abbrev cH_makeTick : ByteArray := prog_1_method_27_code
abbrev yH_makeTick : MethodName := ⟨"HybridTrack", "makeTick", "()V"⟩
abbrev cH_goForward : ByteArray := prog_1_method_28_code
abbrev yH_goForward : MethodName := ⟨"HybridTrack", "goForward", "(LHybridTrack$Vehicle;)V"⟩
abbrev cH_findStates : ByteArray := prog_1_method_29_code
abbrev yH_findStates : MethodName := ⟨"HybridTrack", "findStates", "()V"⟩
abbrev cH_locateTrains : ByteArray := prog_1_method_30_code
abbrev yH_locateTrains : MethodName := ⟨"HybridTrack", "locateTrains", "()V"⟩
abbrev cH_stateByReports : ByteArray := prog_1_method_31_code
abbrev yH_stateByReports : MethodName := ⟨"HybridTrack", "stateByReports", "(I)I"⟩
abbrev cH_stateUnderTrains : ByteArray := prog_1_method_32_code
abbrev yH_stateUnderTrains : MethodName := ⟨"HybridTrack", "stateUnderTrains", "(I)I"⟩
abbrev cH_staysFree : ByteArray := prog_1_method_33_code
abbrev yH_staysFree : MethodName := ⟨"HybridTrack", "staysFree", "(I)Z"⟩
abbrev cH_isAnyTrainLocated : ByteArray := prog_1_method_34_code
abbrev yH_isAnyTrainLocated : MethodName := ⟨"HybridTrack", "isAnyTrainLocated", "(II)Z"⟩
abbrev cH_wasLeftByBrokenTrain : ByteArray := prog_1_method_35_code
abbrev yH_wasLeftByBrokenTrain : MethodName := ⟨"HybridTrack", "wasLeftByBrokenTrain", "(I)Z"⟩
abbrev cH_wasLeftByWholeTrain : ByteArray := prog_1_method_36_code
abbrev yH_wasLeftByWholeTrain : MethodName := ⟨"HybridTrack", "wasLeftByWholeTrain", "(I)Z"⟩
abbrev cM_init : ByteArray := prog_4_method_1_code
abbrev yM_init : MethodName := ⟨"HybridTrackModel", "<init>", "()V"⟩
abbrev cM_thrown : ByteArray := prog_4_method_2_code
abbrev yM_thrown : MethodName := ⟨"HybridTrackModel", "thrown", "()I"⟩
abbrev cM_raise : ByteArray := prog_4_method_3_code
abbrev yM_raise : MethodName := ⟨"HybridTrackModel", "raise", "(I)I"⟩
abbrev cM_in : ByteArray := prog_4_method_4_code
abbrev yM_in : MethodName := ⟨"HybridTrackModel", "in", "(III)Z"⟩
abbrev cM_isTrain : ByteArray := prog_4_method_5_code
abbrev yM_isTrain : MethodName := ⟨"HybridTrackModel", "isTrain", "(I)Z"⟩
abbrev cM_last : ByteArray := prog_4_method_6_code
abbrev yM_last : MethodName := ⟨"HybridTrackModel", "last", "(I)I"⟩
abbrev cM_standsOn : ByteArray := prog_4_method_7_code
abbrev yM_standsOn : MethodName := ⟨"HybridTrackModel", "standsOn", "(II)I"⟩
abbrev cM_occupied : ByteArray := prog_4_method_8_code
abbrev yM_occupied : MethodName := ⟨"HybridTrackModel", "occupied", "(I)Z"⟩
abbrev cM_mute : ByteArray := prog_4_method_9_code
abbrev yM_mute : MethodName := ⟨"HybridTrackModel", "mute", "(I)Z"⟩
abbrev cM_located : ByteArray := prog_4_method_10_code
abbrev yM_located : MethodName := ⟨"HybridTrackModel", "located", "(II)Z"⟩
abbrev cM_claims : ByteArray := prog_4_method_11_code
abbrev yM_claims : MethodName := ⟨"HybridTrackModel", "claims", "(II)Z"⟩
abbrev cM_claimed : ByteArray := prog_4_method_12_code
abbrev yM_claimed : MethodName := ⟨"HybridTrackModel", "claimed", "(II)Z"⟩
abbrev cM_left : ByteArray := prog_4_method_13_code
abbrev yM_left : MethodName := ⟨"HybridTrackModel", "left", "(I)Z"⟩
abbrev cM_accounted : ByteArray := prog_4_method_14_code
abbrev yM_accounted : MethodName := ⟨"HybridTrackModel", "accounted", "(I)Z"⟩
abbrev cM_many : ByteArray := prog_4_method_15_code
abbrev yM_many : MethodName := ⟨"HybridTrackModel", "many", "(I)I"⟩
abbrev cM_found : ByteArray := prog_4_method_16_code
abbrev yM_found : MethodName := ⟨"HybridTrackModel", "found", "(I)I"⟩
abbrev cM_findStates : ByteArray := prog_4_method_17_code
abbrev yM_findStates : MethodName := ⟨"HybridTrackModel", "findStates", "()V"⟩
abbrev cM_report : ByteArray := prog_4_method_18_code
abbrev yM_report : MethodName := ⟨"HybridTrackModel", "report", "(I)V"⟩
abbrev cM_enter : ByteArray := prog_4_method_19_code
abbrev yM_enter : MethodName := ⟨"HybridTrackModel", "enter", "(II)I"⟩
abbrev cM_drive : ByteArray := prog_4_method_20_code
abbrev yM_drive : MethodName := ⟨"HybridTrackModel", "drive", "(II)I"⟩
abbrev cM_silence : ByteArray := prog_4_method_21_code
abbrev yM_silence : MethodName := ⟨"HybridTrackModel", "silence", "(IZ)I"⟩
abbrev cM_authorise : ByteArray := prog_4_method_22_code
abbrev yM_authorise : MethodName := ⟨"HybridTrackModel", "authorise", "(I)I"⟩
abbrev cM_relent : ByteArray := prog_4_method_23_code
abbrev yM_relent : MethodName := ⟨"HybridTrackModel", "relent", "(I)I"⟩
abbrev cM_lose : ByteArray := prog_4_method_24_code
abbrev yM_lose : MethodName := ⟨"HybridTrackModel", "lose", "(II)I"⟩
abbrev cM_confirm : ByteArray := prog_4_method_25_code
abbrev yM_confirm : MethodName := ⟨"HybridTrackModel", "confirm", "(I)I"⟩
abbrev cM_clear : ByteArray := prog_4_method_26_code
abbrev yM_clear : MethodName := ⟨"HybridTrackModel", "clear", "(I)I"⟩
abbrev cM_tickOnce : ByteArray := prog_4_method_27_code
abbrev yM_tickOnce : MethodName := ⟨"HybridTrackModel", "tickOnce", "()V"⟩
abbrev cM_tick : ByteArray := prog_4_method_28_code
abbrev yM_tick : MethodName := ⟨"HybridTrackModel", "tick", "(I)I"⟩
abbrev cM_state : ByteArray := prog_4_method_29_code
abbrev yM_state : MethodName := ⟨"HybridTrackModel", "state", "(I)I"⟩
abbrev cM_detected : ByteArray := prog_4_method_30_code
abbrev yM_detected : MethodName := ⟨"HybridTrackModel", "detected", "(I)I"⟩
abbrev cM_vehicle : ByteArray := prog_4_method_31_code
abbrev yM_vehicle : MethodName := ⟨"HybridTrackModel", "vehicle", "(II)I"⟩
abbrev cM_countStates : ByteArray := prog_4_method_32_code
abbrev yM_countStates : MethodName := ⟨"HybridTrackModel", "countStates", "(I)I"⟩
abbrev cM_stood : ByteArray := prog_4_method_33_code
abbrev yM_stood : MethodName := ⟨"HybridTrackModel", "stood", "(I)Z"⟩
abbrev cM_count : ByteArray := prog_4_method_34_code
abbrev yM_count : MethodName := ⟨"HybridTrackModel", "count", "(I)I"⟩
abbrev cL_enter : ByteArray := method_3_code
abbrev yL_enter : MethodName := ⟨"HybridTrackLaw", "enter", "(LHybridTrack;II[J)I"⟩
abbrev cL_drive : ByteArray := method_4_code
abbrev yL_drive : MethodName := ⟨"HybridTrackLaw", "drive", "(LHybridTrack;II[J)I"⟩
abbrev cL_silence : ByteArray := method_5_code
abbrev yL_silence : MethodName := ⟨"HybridTrackLaw", "silence", "(LHybridTrack;IZ[J)I"⟩
abbrev cL_authorise : ByteArray := method_6_code
abbrev yL_authorise : MethodName := ⟨"HybridTrackLaw", "authorise", "(LHybridTrack;I[J)I"⟩
abbrev cL_relent : ByteArray := method_7_code
abbrev yL_relent : MethodName := ⟨"HybridTrackLaw", "relent", "(LHybridTrack;I[J)I"⟩
abbrev cL_lose : ByteArray := method_8_code
abbrev yL_lose : MethodName := ⟨"HybridTrackLaw", "lose", "(LHybridTrack;II[J)I"⟩
abbrev cL_confirm : ByteArray := method_9_code
abbrev yL_confirm : MethodName := ⟨"HybridTrackLaw", "confirm", "(LHybridTrack;I[J)I"⟩
abbrev cL_clear : ByteArray := method_10_code
abbrev yL_clear : MethodName := ⟨"HybridTrackLaw", "clear", "(LHybridTrack;I[J)I"⟩
abbrev cL_tick : ByteArray := method_11_code
abbrev yL_tick : MethodName := ⟨"HybridTrackLaw", "tick", "(LHybridTrack;I[J)I"⟩
abbrev cL_state : ByteArray := method_12_code
abbrev yL_state : MethodName := ⟨"HybridTrackLaw", "state", "(LHybridTrack;I[J)I"⟩
abbrev cL_detected : ByteArray := method_13_code
abbrev yL_detected : MethodName := ⟨"HybridTrackLaw", "detected", "(LHybridTrack;I[J)I"⟩
abbrev cL_vehicle : ByteArray := method_14_code
abbrev yL_vehicle : MethodName := ⟨"HybridTrackLaw", "vehicle", "(LHybridTrack;II[J)I"⟩
abbrev cL_count : ByteArray := method_15_code
abbrev yL_count : MethodName := ⟨"HybridTrackLaw", "count", "(LHybridTrack;I[J)I"⟩
abbrev cL_law : ByteArray := code
abbrev yL_law : MethodName := ⟨"HybridTrackLaw", "law", "([I)Z"⟩
end
section
theorem dH_init_0 : decode cH_init 0 = .ok (.aload_n 0, 1) := by decide +kernel
theorem dH_init_1 : decode cH_init 1 = .ok (.invokespecial 1, 3) := by decide +kernel
theorem dH_init_4 : decode cH_init 4 = .ok (.aload_n 0, 1) := by decide +kernel
theorem dH_init_5 : decode cH_init 5 = .ok (.bipush 8, 2) := by decide +kernel
theorem dH_init_7 : decode cH_init 7 = .ok (.anewarray 9, 3) := by decide +kernel
theorem dH_init_10 : decode cH_init 10 = .ok (.putfield 11, 3) := by decide +kernel
theorem dH_init_13 : decode cH_init 13 = .ok (.aload_n 0, 1) := by decide +kernel
theorem dH_init_14 : decode cH_init 14 = .ok (.iconst 0, 1) := by decide +kernel
theorem dH_init_15 : decode cH_init 15 = .ok (.putfield 15, 3) := by decide +kernel
theorem dH_init_18 : decode cH_init 18 = .ok (.aload_n 0, 1) := by decide +kernel
theorem dH_init_19 : decode cH_init 19 = .ok (.iconst 0, 1) := by decide +kernel
theorem dH_init_20 : decode cH_init 20 = .ok (.putfield 19, 3) := by decide +kernel
theorem dH_init_23 : decode cH_init 23 = .ok (.aload_n 0, 1) := by decide +kernel
theorem dH_init_24 : decode cH_init 24 = .ok (.bipush 12, 2) := by decide +kernel
theorem dH_init_26 : decode cH_init 26 = .ok (.newarray .int, 2) := by decide +kernel
theorem dH_init_28 : decode cH_init 28 = .ok (.putfield 22, 3) := by decide +kernel
theorem dH_init_31 : decode cH_init 31 = .ok (.aload_n 0, 1) := by decide +kernel
theorem dH_init_32 : decode cH_init 32 = .ok (.bipush 12, 2) := by decide +kernel
theorem dH_init_34 : decode cH_init 34 = .ok (.newarray .int, 2) := by decide +kernel
theorem dH_init_36 : decode cH_init 36 = .ok (.putfield 26, 3) := by decide +kernel
theorem dH_init_39 : decode cH_init 39 = .ok (.aload_n 0, 1) := by decide +kernel
theorem dH_init_40 : decode cH_init 40 = .ok (.bipush 12, 2) := by decide +kernel
theorem dH_init_42 : decode cH_init 42 = .ok (.newarray .int, 2) := by decide +kernel
theorem dH_init_44 : decode cH_init 44 = .ok (.putfield 29, 3) := by decide +kernel
theorem dH_init_47 : decode cH_init 47 = .ok (.aload_n 0, 1) := by decide +kernel
theorem dH_init_48 : decode cH_init 48 = .ok (.bipush 12, 2) := by decide +kernel
theorem dH_init_50 : decode cH_init 50 = .ok (.newarray .int, 2) := by decide +kernel
theorem dH_init_52 : decode cH_init 52 = .ok (.putfield 32, 3) := by decide +kernel
theorem dH_init_55 : decode cH_init 55 = .ok (.iconst 0, 1) := by decide +kernel
theorem dH_init_56 : decode cH_init 56 = .ok (.istore_n 1, 1) := by decide +kernel
theorem dH_init_57 : decode cH_init 57 = .ok (.iload_n 1, 1) := by decide +kernel
theorem dH_init_58 : decode cH_init 58 = .ok (.bipush 8, 2) := by decide +kernel
theorem dH_init_60 : decode cH_init 60 = .ok (.if_icmp .ge 22, 3) := by decide +kernel
theorem dH_init_63 : decode cH_init 63 = .ok (.aload_n 0, 1) := by decide +kernel
theorem dH_init_64 : decode cH_init 64 = .ok (.getfield 11, 3) := by decide +kernel
theorem dH_init_67 : decode cH_init 67 = .ok (.iload_n 1, 1) := by decide +kernel
theorem dH_init_68 : decode cH_init 68 = .ok (.new 9, 3) := by decide +kernel
theorem dH_init_71 : decode cH_init 71 = .ok (.dup, 1) := by decide +kernel
theorem dH_init_72 : decode cH_init 72 = .ok (.invokespecial 35, 3) := by decide +kernel
theorem dH_init_75 : decode cH_init 75 = .ok (.aastore, 1) := by decide +kernel
theorem dH_init_76 : decode cH_init 76 = .ok (.iinc 1 1, 3) := by decide +kernel
theorem dH_init_79 : decode cH_init 79 = .ok (.goto (-22), 3) := by decide +kernel
theorem dH_init_82 : decode cH_init 82 = .ok (.iconst 0, 1) := by decide +kernel
theorem dH_init_83 : decode cH_init 83 = .ok (.istore_n 1, 1) := by decide +kernel
theorem dH_init_84 : decode cH_init 84 = .ok (.iload_n 1, 1) := by decide +kernel
theorem dH_init_85 : decode cH_init 85 = .ok (.bipush 12, 2) := by decide +kernel
theorem dH_init_87 : decode cH_init 87 = .ok (.if_icmp .ge 23, 3) := by decide +kernel
theorem dH_init_90 : decode cH_init 90 = .ok (.aload_n 0, 1) := by decide +kernel
theorem dH_init_91 : decode cH_init 91 = .ok (.getfield 29, 3) := by decide +kernel
theorem dH_init_94 : decode cH_init 94 = .ok (.iload_n 1, 1) := by decide +kernel
theorem dH_init_95 : decode cH_init 95 = .ok (.iconst (-1), 1) := by decide +kernel
theorem dH_init_96 : decode cH_init 96 = .ok (.iastore, 1) := by decide +kernel
theorem dH_init_97 : decode cH_init 97 = .ok (.aload_n 0, 1) := by decide +kernel
theorem dH_init_98 : decode cH_init 98 = .ok (.getfield 32, 3) := by decide +kernel
theorem dH_init_101 : decode cH_init 101 = .ok (.iload_n 1, 1) := by decide +kernel
theorem dH_init_102 : decode cH_init 102 = .ok (.iconst (-1), 1) := by decide +kernel
theorem dH_init_103 : decode cH_init 103 = .ok (.iastore, 1) := by decide +kernel
theorem dH_init_104 : decode cH_init 104 = .ok (.iinc 1 1, 3) := by decide +kernel
theorem dH_init_107 : decode cH_init 107 = .ok (.goto (-23), 3) := by decide +kernel
theorem dH_init_110 : decode cH_init 110 = .ok (.return_, 1) := by decide +kernel
theorem dH_enter_0 : decode cH_enter 0 = .ok (.iload_n 2, 1) := by decide +kernel
theorem dH_enter_1 : decode cH_enter 1 = .ok (.iconst 1, 1) := by decide +kernel
theorem dH_enter_2 : decode cH_enter 2 = .ok (.if_icmp .lt 9, 3) := by decide +kernel
theorem dH_enter_5 : decode cH_enter 5 = .ok (.iload_n 2, 1) := by decide +kernel
theorem dH_enter_6 : decode cH_enter 6 = .ok (.bipush 40, 2) := by decide +kernel
theorem dH_enter_8 : decode cH_enter 8 = .ok (.if_icmp .le 13, 3) := by decide +kernel
theorem dH_enter_11 : decode cH_enter 11 = .ok (.new 36, 3) := by decide +kernel
theorem dH_enter_14 : decode cH_enter 14 = .ok (.dup, 1) := by decide +kernel
theorem dH_enter_15 : decode cH_enter 15 = .ok (.ldc 38, 2) := by decide +kernel
theorem dH_enter_17 : decode cH_enter 17 = .ok (.invokespecial 40, 3) := by decide +kernel
theorem dH_enter_20 : decode cH_enter 20 = .ok (.athrow, 1) := by decide +kernel
theorem dH_enter_21 : decode cH_enter 21 = .ok (.iload_n 1, 1) := by decide +kernel
theorem dH_enter_22 : decode cH_enter 22 = .ok (.ifCond .lt 17, 3) := by decide +kernel
theorem dH_enter_25 : decode cH_enter 25 = .ok (.iload_n 1, 1) := by decide +kernel
theorem dH_enter_26 : decode cH_enter 26 = .ok (.bipush 120, 2) := by decide +kernel
theorem dH_enter_28 : decode cH_enter 28 = .ok (.if_icmp .ge 11, 3) := by decide +kernel
theorem dH_enter_31 : decode cH_enter 31 = .ok (.iload_n 1, 1) := by decide +kernel
theorem dH_enter_32 : decode cH_enter 32 = .ok (.iload_n 2, 1) := by decide +kernel
theorem dH_enter_33 : decode cH_enter 33 = .ok (.isub, 1) := by decide +kernel
theorem dH_enter_34 : decode cH_enter 34 = .ok (.iconst 1, 1) := by decide +kernel
theorem dH_enter_35 : decode cH_enter 35 = .ok (.iadd, 1) := by decide +kernel
theorem dH_enter_36 : decode cH_enter 36 = .ok (.ifCond .ge 13, 3) := by decide +kernel
theorem dH_enter_39 : decode cH_enter 39 = .ok (.new 36, 3) := by decide +kernel
theorem dH_enter_42 : decode cH_enter 42 = .ok (.dup, 1) := by decide +kernel
theorem dH_enter_43 : decode cH_enter 43 = .ok (.ldc 43, 2) := by decide +kernel
theorem dH_enter_45 : decode cH_enter 45 = .ok (.invokespecial 40, 3) := by decide +kernel
theorem dH_enter_48 : decode cH_enter 48 = .ok (.athrow, 1) := by decide +kernel
theorem dH_enter_49 : decode cH_enter 49 = .ok (.aload_n 0, 1) := by decide +kernel
theorem dH_enter_50 : decode cH_enter 50 = .ok (.getfield 15, 3) := by decide +kernel
theorem dH_enter_53 : decode cH_enter 53 = .ok (.bipush 8, 2) := by decide +kernel
theorem dH_enter_55 : decode cH_enter 55 = .ok (.if_icmp .lt 13, 3) := by decide +kernel
theorem dH_enter_58 : decode cH_enter 58 = .ok (.new 45, 3) := by decide +kernel
theorem dH_enter_61 : decode cH_enter 61 = .ok (.dup, 1) := by decide +kernel
theorem dH_enter_62 : decode cH_enter 62 = .ok (.ldc 47, 2) := by decide +kernel
theorem dH_enter_64 : decode cH_enter 64 = .ok (.invokespecial 49, 3) := by decide +kernel
theorem dH_enter_67 : decode cH_enter 67 = .ok (.athrow, 1) := by decide +kernel
theorem dH_enter_68 : decode cH_enter 68 = .ok (.iload_n 1, 1) := by decide +kernel
theorem dH_enter_69 : decode cH_enter 69 = .ok (.iload_n 2, 1) := by decide +kernel
theorem dH_enter_70 : decode cH_enter 70 = .ok (.isub, 1) := by decide +kernel
theorem dH_enter_71 : decode cH_enter 71 = .ok (.iconst 1, 1) := by decide +kernel
theorem dH_enter_72 : decode cH_enter 72 = .ok (.iadd, 1) := by decide +kernel
theorem dH_enter_73 : decode cH_enter 73 = .ok (.istore_n 3, 1) := by decide +kernel
theorem dH_enter_74 : decode cH_enter 74 = .ok (.aload_n 0, 1) := by decide +kernel
theorem dH_enter_75 : decode cH_enter 75 = .ok (.iload_n 3, 1) := by decide +kernel
theorem dH_enter_76 : decode cH_enter 76 = .ok (.iload_n 1, 1) := by decide +kernel
theorem dH_enter_77 : decode cH_enter 77 = .ok (.invokevirtual 50, 3) := by decide +kernel
theorem dH_enter_80 : decode cH_enter 80 = .ok (.ifCond .eq 13, 3) := by decide +kernel
theorem dH_enter_83 : decode cH_enter 83 = .ok (.new 45, 3) := by decide +kernel
theorem dH_enter_86 : decode cH_enter 86 = .ok (.dup, 1) := by decide +kernel
theorem dH_enter_87 : decode cH_enter 87 = .ok (.ldc 54, 2) := by decide +kernel
theorem dH_enter_89 : decode cH_enter 89 = .ok (.invokespecial 49, 3) := by decide +kernel
theorem dH_enter_92 : decode cH_enter 92 = .ok (.athrow, 1) := by decide +kernel
theorem dH_enter_93 : decode cH_enter 93 = .ok (.aload_n 0, 1) := by decide +kernel
theorem dH_enter_94 : decode cH_enter 94 = .ok (.iload_n 3, 1) := by decide +kernel
theorem dH_enter_95 : decode cH_enter 95 = .ok (.invokestatic 56, 3) := by decide +kernel
theorem dH_enter_98 : decode cH_enter 98 = .ok (.iload_n 1, 1) := by decide +kernel
theorem dH_enter_99 : decode cH_enter 99 = .ok (.invokestatic 56, 3) := by decide +kernel
theorem dH_enter_102 : decode cH_enter 102 = .ok (.iconst (-1), 1) := by decide +kernel
theorem dH_enter_103 : decode cH_enter 103 = .ok (.invokevirtual 60, 3) := by decide +kernel
theorem dH_enter_106 : decode cH_enter 106 = .ok (.ifCond .eq 13, 3) := by decide +kernel
theorem dH_enter_109 : decode cH_enter 109 = .ok (.new 45, 3) := by decide +kernel
theorem dH_enter_112 : decode cH_enter 112 = .ok (.dup, 1) := by decide +kernel
theorem dH_enter_113 : decode cH_enter 113 = .ok (.ldc 64, 2) := by decide +kernel
theorem dH_enter_115 : decode cH_enter 115 = .ok (.invokespecial 49, 3) := by decide +kernel
theorem dH_enter_118 : decode cH_enter 118 = .ok (.athrow, 1) := by decide +kernel
theorem dH_enter_119 : decode cH_enter 119 = .ok (.aload_n 0, 1) := by decide +kernel
theorem dH_enter_120 : decode cH_enter 120 = .ok (.getfield 11, 3) := by decide +kernel
theorem dH_enter_123 : decode cH_enter 123 = .ok (.aload_n 0, 1) := by decide +kernel
theorem dH_enter_124 : decode cH_enter 124 = .ok (.getfield 15, 3) := by decide +kernel
theorem dH_enter_127 : decode cH_enter 127 = .ok (.aaload, 1) := by decide +kernel
theorem dH_enter_128 : decode cH_enter 128 = .ok (.iload_n 1, 1) := by decide +kernel
theorem dH_enter_129 : decode cH_enter 129 = .ok (.iload_n 2, 1) := by decide +kernel
theorem dH_enter_130 : decode cH_enter 130 = .ok (.invokevirtual 66, 3) := by decide +kernel
theorem dH_enter_133 : decode cH_enter 133 = .ok (.aload_n 0, 1) := by decide +kernel
theorem dH_enter_134 : decode cH_enter 134 = .ok (.dup, 1) := by decide +kernel
theorem dH_enter_135 : decode cH_enter 135 = .ok (.getfield 15, 3) := by decide +kernel
theorem dH_enter_138 : decode cH_enter 138 = .ok (.iconst 1, 1) := by decide +kernel
theorem dH_enter_139 : decode cH_enter 139 = .ok (.iadd, 1) := by decide +kernel
theorem dH_enter_140 : decode cH_enter 140 = .ok (.putfield 15, 3) := by decide +kernel
theorem dH_enter_143 : decode cH_enter 143 = .ok (.aload_n 0, 1) := by decide +kernel
theorem dH_enter_144 : decode cH_enter 144 = .ok (.invokevirtual 70, 3) := by decide +kernel
theorem dH_enter_147 : decode cH_enter 147 = .ok (.aload_n 0, 1) := by decide +kernel
theorem dH_enter_148 : decode cH_enter 148 = .ok (.getfield 15, 3) := by decide +kernel
theorem dH_enter_151 : decode cH_enter 151 = .ok (.iconst 1, 1) := by decide +kernel
theorem dH_enter_152 : decode cH_enter 152 = .ok (.isub, 1) := by decide +kernel
theorem dH_enter_153 : decode cH_enter 153 = .ok (.ireturn, 1) := by decide +kernel
theorem dH_drive_0 : decode cH_drive 0 = .ok (.aload_n 0, 1) := by decide +kernel
theorem dH_drive_1 : decode cH_drive 1 = .ok (.iload_n 1, 1) := by decide +kernel
theorem dH_drive_2 : decode cH_drive 2 = .ok (.invokevirtual 73, 3) := by decide +kernel
theorem dH_drive_5 : decode cH_drive 5 = .ok (.astore_n 3, 1) := by decide +kernel
theorem dH_drive_6 : decode cH_drive 6 = .ok (.iload_n 2, 1) := by decide +kernel
theorem dH_drive_7 : decode cH_drive 7 = .ok (.ifCond .lt 9, 3) := by decide +kernel
theorem dH_drive_10 : decode cH_drive 10 = .ok (.iload_n 2, 1) := by decide +kernel
theorem dH_drive_11 : decode cH_drive 11 = .ok (.bipush 9, 2) := by decide +kernel
theorem dH_drive_13 : decode cH_drive 13 = .ok (.if_icmp .le 13, 3) := by decide +kernel
theorem dH_drive_16 : decode cH_drive 16 = .ok (.new 36, 3) := by decide +kernel
theorem dH_drive_19 : decode cH_drive 19 = .ok (.dup, 1) := by decide +kernel
theorem dH_drive_20 : decode cH_drive 20 = .ok (.ldc 77, 2) := by decide +kernel
theorem dH_drive_22 : decode cH_drive 22 = .ok (.invokespecial 40, 3) := by decide +kernel
theorem dH_drive_25 : decode cH_drive 25 = .ok (.athrow, 1) := by decide +kernel
theorem dH_drive_26 : decode cH_drive 26 = .ok (.aload_n 3, 1) := by decide +kernel
theorem dH_drive_27 : decode cH_drive 27 = .ok (.getfield 79, 3) := by decide +kernel
theorem dH_drive_30 : decode cH_drive 30 = .ok (.istore 4, 2) := by decide +kernel
theorem dH_drive_32 : decode cH_drive 32 = .ok (.aload_n 3, 1) := by decide +kernel
theorem dH_drive_33 : decode cH_drive 33 = .ok (.iload_n 2, 1) := by decide +kernel
theorem dH_drive_34 : decode cH_drive 34 = .ok (.putfield 79, 3) := by decide +kernel
theorem dH_drive_37 : decode cH_drive 37 = .ok (.iload 4, 2) := by decide +kernel
theorem dH_drive_39 : decode cH_drive 39 = .ok (.ireturn, 1) := by decide +kernel
theorem dH_silence_0 : decode cH_silence 0 = .ok (.aload_n 0, 1) := by decide +kernel
theorem dH_silence_1 : decode cH_silence 1 = .ok (.iload_n 1, 1) := by decide +kernel
theorem dH_silence_2 : decode cH_silence 2 = .ok (.invokevirtual 73, 3) := by decide +kernel
theorem dH_silence_5 : decode cH_silence 5 = .ok (.astore_n 3, 1) := by decide +kernel
theorem dH_silence_6 : decode cH_silence 6 = .ok (.aload_n 3, 1) := by decide +kernel
theorem dH_silence_7 : decode cH_silence 7 = .ok (.getfield 82, 3) := by decide +kernel
theorem dH_silence_10 : decode cH_silence 10 = .ok (.iload_n 2, 1) := by decide +kernel
theorem dH_silence_11 : decode cH_silence 11 = .ok (.if_icmp .eq 7, 3) := by decide +kernel
theorem dH_silence_14 : decode cH_silence 14 = .ok (.iconst 1, 1) := by decide +kernel
theorem dH_silence_15 : decode cH_silence 15 = .ok (.goto 4, 3) := by decide +kernel
theorem dH_silence_18 : decode cH_silence 18 = .ok (.iconst 0, 1) := by decide +kernel
theorem dH_silence_19 : decode cH_silence 19 = .ok (.istore 4, 2) := by decide +kernel
theorem dH_silence_21 : decode cH_silence 21 = .ok (.aload_n 3, 1) := by decide +kernel
theorem dH_silence_22 : decode cH_silence 22 = .ok (.iload_n 2, 1) := by decide +kernel
theorem dH_silence_23 : decode cH_silence 23 = .ok (.putfield 82, 3) := by decide +kernel
theorem dH_silence_26 : decode cH_silence 26 = .ok (.iload 4, 2) := by decide +kernel
theorem dH_silence_28 : decode cH_silence 28 = .ok (.ifCond .eq 7, 3) := by decide +kernel
theorem dH_silence_31 : decode cH_silence 31 = .ok (.iconst 1, 1) := by decide +kernel
theorem dH_silence_32 : decode cH_silence 32 = .ok (.goto 4, 3) := by decide +kernel
theorem dH_silence_35 : decode cH_silence 35 = .ok (.iconst 0, 1) := by decide +kernel
theorem dH_silence_36 : decode cH_silence 36 = .ok (.ireturn, 1) := by decide +kernel
theorem dH_authorise_0 : decode cH_authorise 0 = .ok (.aload_n 0, 1) := by decide +kernel
theorem dH_authorise_1 : decode cH_authorise 1 = .ok (.iload_n 1, 1) := by decide +kernel
theorem dH_authorise_2 : decode cH_authorise 2 = .ok (.invokevirtual 73, 3) := by decide +kernel
theorem dH_authorise_5 : decode cH_authorise 5 = .ok (.astore_n 2, 1) := by decide +kernel
theorem dH_authorise_6 : decode cH_authorise 6 = .ok (.aload_n 2, 1) := by decide +kernel
theorem dH_authorise_7 : decode cH_authorise 7 = .ok (.invokevirtual 86, 3) := by decide +kernel
theorem dH_authorise_10 : decode cH_authorise 10 = .ok (.ifCond .ne 10, 3) := by decide +kernel
theorem dH_authorise_13 : decode cH_authorise 13 = .ok (.aload_n 2, 1) := by decide +kernel
theorem dH_authorise_14 : decode cH_authorise 14 = .ok (.getfield 82, 3) := by decide +kernel
theorem dH_authorise_17 : decode cH_authorise 17 = .ok (.ifCond .eq 13, 3) := by decide +kernel
theorem dH_authorise_20 : decode cH_authorise 20 = .ok (.new 45, 3) := by decide +kernel
theorem dH_authorise_23 : decode cH_authorise 23 = .ok (.dup, 1) := by decide +kernel
theorem dH_authorise_24 : decode cH_authorise 24 = .ok (.ldc 90, 2) := by decide +kernel
theorem dH_authorise_26 : decode cH_authorise 26 = .ok (.invokespecial 49, 3) := by decide +kernel
theorem dH_authorise_29 : decode cH_authorise 29 = .ok (.athrow, 1) := by decide +kernel
theorem dH_authorise_30 : decode cH_authorise 30 = .ok (.aload_n 2, 1) := by decide +kernel
theorem dH_authorise_31 : decode cH_authorise 31 = .ok (.getfield 92, 3) := by decide +kernel
theorem dH_authorise_34 : decode cH_authorise 34 = .ok (.invokestatic 56, 3) := by decide +kernel
theorem dH_authorise_37 : decode cH_authorise 37 = .ok (.istore_n 3, 1) := by decide +kernel
theorem dH_authorise_38 : decode cH_authorise 38 = .ok (.aload_n 0, 1) := by decide +kernel
theorem dH_authorise_39 : decode cH_authorise 39 = .ok (.getfield 22, 3) := by decide +kernel
theorem dH_authorise_42 : decode cH_authorise 42 = .ok (.iload_n 3, 1) := by decide +kernel
theorem dH_authorise_43 : decode cH_authorise 43 = .ok (.iaload, 1) := by decide +kernel
theorem dH_authorise_44 : decode cH_authorise 44 = .ok (.ifCond .eq 14, 3) := by decide +kernel
theorem dH_authorise_47 : decode cH_authorise 47 = .ok (.aload_n 2, 1) := by decide +kernel
theorem dH_authorise_48 : decode cH_authorise 48 = .ok (.getfield 95, 3) := by decide +kernel
theorem dH_authorise_51 : decode cH_authorise 51 = .ok (.invokestatic 56, 3) := by decide +kernel
theorem dH_authorise_54 : decode cH_authorise 54 = .ok (.iload_n 3, 1) := by decide +kernel
theorem dH_authorise_55 : decode cH_authorise 55 = .ok (.if_icmp .ne 7, 3) := by decide +kernel
theorem dH_authorise_58 : decode cH_authorise 58 = .ok (.iconst 1, 1) := by decide +kernel
theorem dH_authorise_59 : decode cH_authorise 59 = .ok (.goto 4, 3) := by decide +kernel
theorem dH_authorise_62 : decode cH_authorise 62 = .ok (.iconst 0, 1) := by decide +kernel
theorem dH_authorise_63 : decode cH_authorise 63 = .ok (.istore 4, 2) := by decide +kernel
theorem dH_authorise_65 : decode cH_authorise 65 = .ok (.iload 4, 2) := by decide +kernel
theorem dH_authorise_67 : decode cH_authorise 67 = .ok (.ifCond .eq 35, 3) := by decide +kernel
theorem dH_authorise_70 : decode cH_authorise 70 = .ok (.aload_n 0, 1) := by decide +kernel
theorem dH_authorise_71 : decode cH_authorise 71 = .ok (.iload_n 3, 1) := by decide +kernel
theorem dH_authorise_72 : decode cH_authorise 72 = .ok (.iload_n 3, 1) := by decide +kernel
theorem dH_authorise_73 : decode cH_authorise 73 = .ok (.iload_n 1, 1) := by decide +kernel
theorem dH_authorise_74 : decode cH_authorise 74 = .ok (.invokevirtual 60, 3) := by decide +kernel
theorem dH_authorise_77 : decode cH_authorise 77 = .ok (.ifCond .ne 25, 3) := by decide +kernel
theorem dH_authorise_80 : decode cH_authorise 80 = .ok (.aload_n 0, 1) := by decide +kernel
theorem dH_authorise_81 : decode cH_authorise 81 = .ok (.iload_n 3, 1) := by decide +kernel
theorem dH_authorise_82 : decode cH_authorise 82 = .ok (.iload_n 1, 1) := by decide +kernel
theorem dH_authorise_83 : decode cH_authorise 83 = .ok (.invokevirtual 98, 3) := by decide +kernel
theorem dH_authorise_86 : decode cH_authorise 86 = .ok (.istore 5, 2) := by decide +kernel
theorem dH_authorise_88 : decode cH_authorise 88 = .ok (.aload_n 2, 1) := by decide +kernel
theorem dH_authorise_89 : decode cH_authorise 89 = .ok (.iload 5, 2) := by decide +kernel
theorem dH_authorise_91 : decode cH_authorise 91 = .ok (.bipush 10, 2) := by decide +kernel
theorem dH_authorise_93 : decode cH_authorise 93 = .ok (.imul, 1) := by decide +kernel
theorem dH_authorise_94 : decode cH_authorise 94 = .ok (.bipush 10, 2) := by decide +kernel
theorem dH_authorise_96 : decode cH_authorise 96 = .ok (.iadd, 1) := by decide +kernel
theorem dH_authorise_97 : decode cH_authorise 97 = .ok (.iconst 1, 1) := by decide +kernel
theorem dH_authorise_98 : decode cH_authorise 98 = .ok (.isub, 1) := by decide +kernel
theorem dH_authorise_99 : decode cH_authorise 99 = .ok (.putfield 92, 3) := by decide +kernel
theorem dH_authorise_102 : decode cH_authorise 102 = .ok (.aload_n 2, 1) := by decide +kernel
theorem dH_authorise_103 : decode cH_authorise 103 = .ok (.getfield 92, 3) := by decide +kernel
theorem dH_authorise_106 : decode cH_authorise 106 = .ok (.ireturn, 1) := by decide +kernel
theorem dH_relent_0 : decode cH_relent 0 = .ok (.aload_n 0, 1) := by decide +kernel
theorem dH_relent_1 : decode cH_relent 1 = .ok (.iload_n 1, 1) := by decide +kernel
theorem dH_relent_2 : decode cH_relent 2 = .ok (.invokevirtual 73, 3) := by decide +kernel
theorem dH_relent_5 : decode cH_relent 5 = .ok (.astore_n 2, 1) := by decide +kernel
theorem dH_relent_6 : decode cH_relent 6 = .ok (.aload_n 2, 1) := by decide +kernel
theorem dH_relent_7 : decode cH_relent 7 = .ok (.getfield 82, 3) := by decide +kernel
theorem dH_relent_10 : decode cH_relent 10 = .ok (.ifCond .eq 13, 3) := by decide +kernel
theorem dH_relent_13 : decode cH_relent 13 = .ok (.new 45, 3) := by decide +kernel
theorem dH_relent_16 : decode cH_relent 16 = .ok (.dup, 1) := by decide +kernel
theorem dH_relent_17 : decode cH_relent 17 = .ok (.ldc 102, 2) := by decide +kernel
theorem dH_relent_19 : decode cH_relent 19 = .ok (.invokespecial 49, 3) := by decide +kernel
theorem dH_relent_22 : decode cH_relent 22 = .ok (.athrow, 1) := by decide +kernel
theorem dH_relent_23 : decode cH_relent 23 = .ok (.aload_n 2, 1) := by decide +kernel
theorem dH_relent_24 : decode cH_relent 24 = .ok (.getfield 92, 3) := by decide +kernel
theorem dH_relent_27 : decode cH_relent 27 = .ok (.aload_n 2, 1) := by decide +kernel
theorem dH_relent_28 : decode cH_relent 28 = .ok (.getfield 104, 3) := by decide +kernel
theorem dH_relent_31 : decode cH_relent 31 = .ok (.isub, 1) := by decide +kernel
theorem dH_relent_32 : decode cH_relent 32 = .ok (.istore_n 3, 1) := by decide +kernel
theorem dH_relent_33 : decode cH_relent 33 = .ok (.aload_n 2, 1) := by decide +kernel
theorem dH_relent_34 : decode cH_relent 34 = .ok (.aload_n 2, 1) := by decide +kernel
theorem dH_relent_35 : decode cH_relent 35 = .ok (.getfield 104, 3) := by decide +kernel
theorem dH_relent_38 : decode cH_relent 38 = .ok (.putfield 92, 3) := by decide +kernel
theorem dH_relent_41 : decode cH_relent 41 = .ok (.iload_n 3, 1) := by decide +kernel
theorem dH_relent_42 : decode cH_relent 42 = .ok (.ireturn, 1) := by decide +kernel
theorem dH_lose_0 : decode cH_lose 0 = .ok (.aload_n 0, 1) := by decide +kernel
theorem dH_lose_1 : decode cH_lose 1 = .ok (.iload_n 1, 1) := by decide +kernel
theorem dH_lose_2 : decode cH_lose 2 = .ok (.invokevirtual 73, 3) := by decide +kernel
theorem dH_lose_5 : decode cH_lose 5 = .ok (.astore_n 3, 1) := by decide +kernel
theorem dH_lose_6 : decode cH_lose 6 = .ok (.iload_n 2, 1) := by decide +kernel
theorem dH_lose_7 : decode cH_lose 7 = .ok (.iconst 1, 1) := by decide +kernel
theorem dH_lose_8 : decode cH_lose 8 = .ok (.if_icmp .lt 11, 3) := by decide +kernel
theorem dH_lose_11 : decode cH_lose 11 = .ok (.iload_n 2, 1) := by decide +kernel
theorem dH_lose_12 : decode cH_lose 12 = .ok (.aload_n 3, 1) := by decide +kernel
theorem dH_lose_13 : decode cH_lose 13 = .ok (.getfield 107, 3) := by decide +kernel
theorem dH_lose_16 : decode cH_lose 16 = .ok (.if_icmp .lt 13, 3) := by decide +kernel
theorem dH_lose_19 : decode cH_lose 19 = .ok (.new 36, 3) := by decide +kernel
theorem dH_lose_22 : decode cH_lose 22 = .ok (.dup, 1) := by decide +kernel
theorem dH_lose_23 : decode cH_lose 23 = .ok (.ldc 110, 2) := by decide +kernel
theorem dH_lose_25 : decode cH_lose 25 = .ok (.invokespecial 40, 3) := by decide +kernel
theorem dH_lose_28 : decode cH_lose 28 = .ok (.athrow, 1) := by decide +kernel
theorem dH_lose_29 : decode cH_lose 29 = .ok (.aload_n 0, 1) := by decide +kernel
theorem dH_lose_30 : decode cH_lose 30 = .ok (.getfield 15, 3) := by decide +kernel
theorem dH_lose_33 : decode cH_lose 33 = .ok (.bipush 8, 2) := by decide +kernel
theorem dH_lose_35 : decode cH_lose 35 = .ok (.if_icmp .lt 13, 3) := by decide +kernel
theorem dH_lose_38 : decode cH_lose 38 = .ok (.new 45, 3) := by decide +kernel
theorem dH_lose_41 : decode cH_lose 41 = .ok (.dup, 1) := by decide +kernel
theorem dH_lose_42 : decode cH_lose 42 = .ok (.ldc 47, 2) := by decide +kernel
theorem dH_lose_44 : decode cH_lose 44 = .ok (.invokespecial 49, 3) := by decide +kernel
theorem dH_lose_47 : decode cH_lose 47 = .ok (.athrow, 1) := by decide +kernel
theorem dH_lose_48 : decode cH_lose 48 = .ok (.aload_n 0, 1) := by decide +kernel
theorem dH_lose_49 : decode cH_lose 49 = .ok (.getfield 11, 3) := by decide +kernel
theorem dH_lose_52 : decode cH_lose 52 = .ok (.aload_n 0, 1) := by decide +kernel
theorem dH_lose_53 : decode cH_lose 53 = .ok (.getfield 15, 3) := by decide +kernel
theorem dH_lose_56 : decode cH_lose 56 = .ok (.aaload, 1) := by decide +kernel
theorem dH_lose_57 : decode cH_lose 57 = .ok (.aload_n 3, 1) := by decide +kernel
theorem dH_lose_58 : decode cH_lose 58 = .ok (.invokevirtual 112, 3) := by decide +kernel
theorem dH_lose_61 : decode cH_lose 61 = .ok (.iload_n 2, 1) := by decide +kernel
theorem dH_lose_62 : decode cH_lose 62 = .ok (.iadd, 1) := by decide +kernel
theorem dH_lose_63 : decode cH_lose 63 = .ok (.iconst 1, 1) := by decide +kernel
theorem dH_lose_64 : decode cH_lose 64 = .ok (.isub, 1) := by decide +kernel
theorem dH_lose_65 : decode cH_lose 65 = .ok (.iload_n 2, 1) := by decide +kernel
theorem dH_lose_66 : decode cH_lose 66 = .ok (.invokevirtual 116, 3) := by decide +kernel
theorem dH_lose_69 : decode cH_lose 69 = .ok (.aload_n 0, 1) := by decide +kernel
theorem dH_lose_70 : decode cH_lose 70 = .ok (.dup, 1) := by decide +kernel
theorem dH_lose_71 : decode cH_lose 71 = .ok (.getfield 15, 3) := by decide +kernel
theorem dH_lose_74 : decode cH_lose 74 = .ok (.iconst 1, 1) := by decide +kernel
theorem dH_lose_75 : decode cH_lose 75 = .ok (.iadd, 1) := by decide +kernel
theorem dH_lose_76 : decode cH_lose 76 = .ok (.putfield 15, 3) := by decide +kernel
theorem dH_lose_79 : decode cH_lose 79 = .ok (.aload_n 3, 1) := by decide +kernel
theorem dH_lose_80 : decode cH_lose 80 = .ok (.dup, 1) := by decide +kernel
theorem dH_lose_81 : decode cH_lose 81 = .ok (.getfield 107, 3) := by decide +kernel
theorem dH_lose_84 : decode cH_lose 84 = .ok (.iload_n 2, 1) := by decide +kernel
theorem dH_lose_85 : decode cH_lose 85 = .ok (.isub, 1) := by decide +kernel
theorem dH_lose_86 : decode cH_lose 86 = .ok (.putfield 107, 3) := by decide +kernel
theorem dH_lose_89 : decode cH_lose 89 = .ok (.aload_n 3, 1) := by decide +kernel
theorem dH_lose_90 : decode cH_lose 90 = .ok (.iconst 0, 1) := by decide +kernel
theorem dH_lose_91 : decode cH_lose 91 = .ok (.putfield 119, 3) := by decide +kernel
theorem dH_lose_94 : decode cH_lose 94 = .ok (.aload_n 0, 1) := by decide +kernel
theorem dH_lose_95 : decode cH_lose 95 = .ok (.getfield 15, 3) := by decide +kernel
theorem dH_lose_98 : decode cH_lose 98 = .ok (.iconst 1, 1) := by decide +kernel
theorem dH_lose_99 : decode cH_lose 99 = .ok (.isub, 1) := by decide +kernel
theorem dH_lose_100 : decode cH_lose 100 = .ok (.ireturn, 1) := by decide +kernel
theorem dH_confirm_0 : decode cH_confirm 0 = .ok (.aload_n 0, 1) := by decide +kernel
theorem dH_confirm_1 : decode cH_confirm 1 = .ok (.iload_n 1, 1) := by decide +kernel
theorem dH_confirm_2 : decode cH_confirm 2 = .ok (.invokevirtual 73, 3) := by decide +kernel
theorem dH_confirm_5 : decode cH_confirm 5 = .ok (.astore_n 2, 1) := by decide +kernel
theorem dH_confirm_6 : decode cH_confirm 6 = .ok (.aload_n 2, 1) := by decide +kernel
theorem dH_confirm_7 : decode cH_confirm 7 = .ok (.getfield 119, 3) := by decide +kernel
theorem dH_confirm_10 : decode cH_confirm 10 = .ok (.ifCond .ne 10, 3) := by decide +kernel
theorem dH_confirm_13 : decode cH_confirm 13 = .ok (.aload_n 2, 1) := by decide +kernel
theorem dH_confirm_14 : decode cH_confirm 14 = .ok (.getfield 122, 3) := by decide +kernel
theorem dH_confirm_17 : decode cH_confirm 17 = .ok (.ifCond .eq 13, 3) := by decide +kernel
theorem dH_confirm_20 : decode cH_confirm 20 = .ok (.new 45, 3) := by decide +kernel
theorem dH_confirm_23 : decode cH_confirm 23 = .ok (.dup, 1) := by decide +kernel
theorem dH_confirm_24 : decode cH_confirm 24 = .ok (.ldc 125, 2) := by decide +kernel
theorem dH_confirm_26 : decode cH_confirm 26 = .ok (.invokespecial 49, 3) := by decide +kernel
theorem dH_confirm_29 : decode cH_confirm 29 = .ok (.athrow, 1) := by decide +kernel
theorem dH_confirm_30 : decode cH_confirm 30 = .ok (.aload_n 2, 1) := by decide +kernel
theorem dH_confirm_31 : decode cH_confirm 31 = .ok (.iconst 1, 1) := by decide +kernel
theorem dH_confirm_32 : decode cH_confirm 32 = .ok (.putfield 119, 3) := by decide +kernel
theorem dH_confirm_35 : decode cH_confirm 35 = .ok (.aload_n 2, 1) := by decide +kernel
theorem dH_confirm_36 : decode cH_confirm 36 = .ok (.getfield 107, 3) := by decide +kernel
theorem dH_confirm_39 : decode cH_confirm 39 = .ok (.ireturn, 1) := by decide +kernel
theorem dH_clear_0 : decode cH_clear 0 = .ok (.aload_n 0, 1) := by decide +kernel
theorem dH_clear_1 : decode cH_clear 1 = .ok (.iload_n 1, 1) := by decide +kernel
theorem dH_clear_2 : decode cH_clear 2 = .ok (.invokevirtual 127, 3) := by decide +kernel
theorem dH_clear_5 : decode cH_clear 5 = .ok (.ifCond .eq 15, 3) := by decide +kernel
theorem dH_clear_8 : decode cH_clear 8 = .ok (.aload_n 0, 1) := by decide +kernel
theorem dH_clear_9 : decode cH_clear 9 = .ok (.getfield 11, 3) := by decide +kernel
theorem dH_clear_12 : decode cH_clear 12 = .ok (.iload_n 1, 1) := by decide +kernel
theorem dH_clear_13 : decode cH_clear 13 = .ok (.aaload, 1) := by decide +kernel
theorem dH_clear_14 : decode cH_clear 14 = .ok (.getfield 131, 3) := by decide +kernel
theorem dH_clear_17 : decode cH_clear 17 = .ok (.ifCond .eq 13, 3) := by decide +kernel
theorem dH_clear_20 : decode cH_clear 20 = .ok (.new 134, 3) := by decide +kernel
theorem dH_clear_23 : decode cH_clear 23 = .ok (.dup, 1) := by decide +kernel
theorem dH_clear_24 : decode cH_clear 24 = .ok (.ldc 136, 2) := by decide +kernel
theorem dH_clear_26 : decode cH_clear 26 = .ok (.invokespecial 138, 3) := by decide +kernel
theorem dH_clear_29 : decode cH_clear 29 = .ok (.athrow, 1) := by decide +kernel
theorem dH_clear_30 : decode cH_clear 30 = .ok (.aload_n 0, 1) := by decide +kernel
theorem dH_clear_31 : decode cH_clear 31 = .ok (.getfield 11, 3) := by decide +kernel
theorem dH_clear_34 : decode cH_clear 34 = .ok (.iload_n 1, 1) := by decide +kernel
theorem dH_clear_35 : decode cH_clear 35 = .ok (.aaload, 1) := by decide +kernel
theorem dH_clear_36 : decode cH_clear 36 = .ok (.iconst 0, 1) := by decide +kernel
theorem dH_clear_37 : decode cH_clear 37 = .ok (.putfield 139, 3) := by decide +kernel
theorem dH_clear_40 : decode cH_clear 40 = .ok (.aload_n 0, 1) := by decide +kernel
theorem dH_clear_41 : decode cH_clear 41 = .ok (.getfield 11, 3) := by decide +kernel
theorem dH_clear_44 : decode cH_clear 44 = .ok (.iload_n 1, 1) := by decide +kernel
theorem dH_clear_45 : decode cH_clear 45 = .ok (.aaload, 1) := by decide +kernel
theorem dH_clear_46 : decode cH_clear 46 = .ok (.getfield 107, 3) := by decide +kernel
theorem dH_clear_49 : decode cH_clear 49 = .ok (.ireturn, 1) := by decide +kernel
theorem dH_tick_0 : decode cH_tick 0 = .ok (.iload_n 1, 1) := by decide +kernel
theorem dH_tick_1 : decode cH_tick 1 = .ok (.iconst 1, 1) := by decide +kernel
theorem dH_tick_2 : decode cH_tick 2 = .ok (.if_icmp .lt 9, 3) := by decide +kernel
theorem dH_tick_5 : decode cH_tick 5 = .ok (.iload_n 1, 1) := by decide +kernel
theorem dH_tick_6 : decode cH_tick 6 = .ok (.bipush 6, 2) := by decide +kernel
theorem dH_tick_8 : decode cH_tick 8 = .ok (.if_icmp .le 13, 3) := by decide +kernel
theorem dH_tick_11 : decode cH_tick 11 = .ok (.new 36, 3) := by decide +kernel
theorem dH_tick_14 : decode cH_tick 14 = .ok (.dup, 1) := by decide +kernel
theorem dH_tick_15 : decode cH_tick 15 = .ok (.ldc 142, 2) := by decide +kernel
theorem dH_tick_17 : decode cH_tick 17 = .ok (.invokespecial 40, 3) := by decide +kernel
theorem dH_tick_20 : decode cH_tick 20 = .ok (.athrow, 1) := by decide +kernel
theorem dH_tick_21 : decode cH_tick 21 = .ok (.iconst 0, 1) := by decide +kernel
theorem dH_tick_22 : decode cH_tick 22 = .ok (.istore_n 2, 1) := by decide +kernel
theorem dH_tick_23 : decode cH_tick 23 = .ok (.iload_n 2, 1) := by decide +kernel
theorem dH_tick_24 : decode cH_tick 24 = .ok (.iload_n 1, 1) := by decide +kernel
theorem dH_tick_25 : decode cH_tick 25 = .ok (.if_icmp .ge 13, 3) := by decide +kernel
theorem dH_tick_28 : decode cH_tick 28 = .ok (.aload_n 0, 1) := by decide +kernel
theorem dH_tick_29 : decode cH_tick 29 = .ok (.invokevirtual 144, 3) := by decide +kernel
theorem dH_tick_32 : decode cH_tick 32 = .ok (.iinc 2 1, 3) := by decide +kernel
theorem dH_tick_35 : decode cH_tick 35 = .ok (.goto (-12), 3) := by decide +kernel
theorem dH_tick_38 : decode cH_tick 38 = .ok (.aload_n 0, 1) := by decide +kernel
theorem dH_tick_39 : decode cH_tick 39 = .ok (.iconst 0, 1) := by decide +kernel
theorem dH_tick_40 : decode cH_tick 40 = .ok (.invokevirtual 147, 3) := by decide +kernel
theorem dH_tick_43 : decode cH_tick 43 = .ok (.ireturn, 1) := by decide +kernel
theorem dH_state_0 : decode cH_state 0 = .ok (.iload_n 1, 1) := by decide +kernel
theorem dH_state_1 : decode cH_state 1 = .ok (.ifCond .lt 9, 3) := by decide +kernel
theorem dH_state_4 : decode cH_state 4 = .ok (.iload_n 1, 1) := by decide +kernel
theorem dH_state_5 : decode cH_state 5 = .ok (.bipush 12, 2) := by decide +kernel
theorem dH_state_7 : decode cH_state 7 = .ok (.if_icmp .lt 13, 3) := by decide +kernel
theorem dH_state_10 : decode cH_state 10 = .ok (.new 36, 3) := by decide +kernel
theorem dH_state_13 : decode cH_state 13 = .ok (.dup, 1) := by decide +kernel
theorem dH_state_14 : decode cH_state 14 = .ok (.ldc 150, 2) := by decide +kernel
theorem dH_state_16 : decode cH_state 16 = .ok (.invokespecial 40, 3) := by decide +kernel
theorem dH_state_19 : decode cH_state 19 = .ok (.athrow, 1) := by decide +kernel
theorem dH_state_20 : decode cH_state 20 = .ok (.aload_n 0, 1) := by decide +kernel
theorem dH_state_21 : decode cH_state 21 = .ok (.getfield 22, 3) := by decide +kernel
theorem dH_state_24 : decode cH_state 24 = .ok (.iload_n 1, 1) := by decide +kernel
theorem dH_state_25 : decode cH_state 25 = .ok (.iaload, 1) := by decide +kernel
theorem dH_state_26 : decode cH_state 26 = .ok (.ireturn, 1) := by decide +kernel
theorem dH_detected_0 : decode cH_detected 0 = .ok (.iload_n 1, 1) := by decide +kernel
theorem dH_detected_1 : decode cH_detected 1 = .ok (.ifCond .lt 8, 3) := by decide +kernel
theorem dH_detected_4 : decode cH_detected 4 = .ok (.iload_n 1, 1) := by decide +kernel
theorem dH_detected_5 : decode cH_detected 5 = .ok (.iconst 4, 1) := by decide +kernel
theorem dH_detected_6 : decode cH_detected 6 = .ok (.if_icmp .lt 13, 3) := by decide +kernel
theorem dH_detected_9 : decode cH_detected 9 = .ok (.new 36, 3) := by decide +kernel
theorem dH_detected_12 : decode cH_detected 12 = .ok (.dup, 1) := by decide +kernel
theorem dH_detected_13 : decode cH_detected 13 = .ok (.ldc 152, 2) := by decide +kernel
theorem dH_detected_15 : decode cH_detected 15 = .ok (.invokespecial 40, 3) := by decide +kernel
theorem dH_detected_18 : decode cH_detected 18 = .ok (.athrow, 1) := by decide +kernel
theorem dH_detected_19 : decode cH_detected 19 = .ok (.aload_n 0, 1) := by decide +kernel
theorem dH_detected_20 : decode cH_detected 20 = .ok (.iload_n 1, 1) := by decide +kernel
theorem dH_detected_21 : decode cH_detected 21 = .ok (.invokevirtual 154, 3) := by decide +kernel
theorem dH_detected_24 : decode cH_detected 24 = .ok (.ifCond .eq 7, 3) := by decide +kernel
theorem dH_detected_27 : decode cH_detected 27 = .ok (.iconst 1, 1) := by decide +kernel
theorem dH_detected_28 : decode cH_detected 28 = .ok (.goto 4, 3) := by decide +kernel
theorem dH_detected_31 : decode cH_detected 31 = .ok (.iconst 0, 1) := by decide +kernel
theorem dH_detected_32 : decode cH_detected 32 = .ok (.ireturn, 1) := by decide +kernel
theorem dH_vehicle_0 : decode cH_vehicle 0 = .ok (.aload_n 0, 1) := by decide +kernel
theorem dH_vehicle_1 : decode cH_vehicle 1 = .ok (.iload_n 1, 1) := by decide +kernel
theorem dH_vehicle_2 : decode cH_vehicle 2 = .ok (.invokevirtual 127, 3) := by decide +kernel
theorem dH_vehicle_5 : decode cH_vehicle 5 = .ok (.ifCond .ne 13, 3) := by decide +kernel
theorem dH_vehicle_8 : decode cH_vehicle 8 = .ok (.new 134, 3) := by decide +kernel
theorem dH_vehicle_11 : decode cH_vehicle 11 = .ok (.dup, 1) := by decide +kernel
theorem dH_vehicle_12 : decode cH_vehicle 12 = .ok (.ldc 157, 2) := by decide +kernel
theorem dH_vehicle_14 : decode cH_vehicle 14 = .ok (.invokespecial 138, 3) := by decide +kernel
theorem dH_vehicle_17 : decode cH_vehicle 17 = .ok (.athrow, 1) := by decide +kernel
theorem dH_vehicle_18 : decode cH_vehicle 18 = .ok (.iload_n 2, 1) := by decide +kernel
theorem dH_vehicle_19 : decode cH_vehicle 19 = .ok (.ifCond .lt 8, 3) := by decide +kernel
theorem dH_vehicle_22 : decode cH_vehicle 22 = .ok (.iload_n 2, 1) := by decide +kernel
theorem dH_vehicle_23 : decode cH_vehicle 23 = .ok (.iconst 5, 1) := by decide +kernel
theorem dH_vehicle_24 : decode cH_vehicle 24 = .ok (.if_icmp .le 13, 3) := by decide +kernel
theorem dH_vehicle_27 : decode cH_vehicle 27 = .ok (.new 36, 3) := by decide +kernel
theorem dH_vehicle_30 : decode cH_vehicle 30 = .ok (.dup, 1) := by decide +kernel
theorem dH_vehicle_31 : decode cH_vehicle 31 = .ok (.ldc 159, 2) := by decide +kernel
theorem dH_vehicle_33 : decode cH_vehicle 33 = .ok (.invokespecial 40, 3) := by decide +kernel
theorem dH_vehicle_36 : decode cH_vehicle 36 = .ok (.athrow, 1) := by decide +kernel
theorem dH_vehicle_37 : decode cH_vehicle 37 = .ok (.aload_n 0, 1) := by decide +kernel
theorem dH_vehicle_38 : decode cH_vehicle 38 = .ok (.getfield 11, 3) := by decide +kernel
theorem dH_vehicle_41 : decode cH_vehicle 41 = .ok (.iload_n 1, 1) := by decide +kernel
theorem dH_vehicle_42 : decode cH_vehicle 42 = .ok (.aaload, 1) := by decide +kernel
theorem dH_vehicle_43 : decode cH_vehicle 43 = .ok (.astore_n 3, 1) := by decide +kernel
theorem dH_vehicle_44 : decode cH_vehicle 44 = .ok (.iload_n 2, 1) := by decide +kernel
theorem dH_vehicle_45 : decode cH_vehicle 45 = .ok (.iconst 2, 1) := by decide +kernel
theorem dH_vehicle_46 : decode cH_vehicle 46 = .ok (.if_icmp .lt 20, 3) := by decide +kernel
theorem dH_vehicle_49 : decode cH_vehicle 49 = .ok (.aload_n 3, 1) := by decide +kernel
theorem dH_vehicle_50 : decode cH_vehicle 50 = .ok (.getfield 131, 3) := by decide +kernel
theorem dH_vehicle_53 : decode cH_vehicle 53 = .ok (.ifCond .ne 13, 3) := by decide +kernel
theorem dH_vehicle_56 : decode cH_vehicle 56 = .ok (.new 134, 3) := by decide +kernel
theorem dH_vehicle_59 : decode cH_vehicle 59 = .ok (.dup, 1) := by decide +kernel
theorem dH_vehicle_60 : decode cH_vehicle 60 = .ok (.ldc 161, 2) := by decide +kernel
theorem dH_vehicle_62 : decode cH_vehicle 62 = .ok (.invokespecial 138, 3) := by decide +kernel
theorem dH_vehicle_65 : decode cH_vehicle 65 = .ok (.athrow, 1) := by decide +kernel
theorem dH_vehicle_66 : decode cH_vehicle 66 = .ok (.iload_n 2, 1) := by decide +kernel
theorem dH_vehicle_67 : decode cH_vehicle 67 = .ok (.tableswitch 58 0 4 #[33, 38, 43, 48, 53], 33) := by decide +kernel
theorem dH_vehicle_100 : decode cH_vehicle 100 = .ok (.aload_n 3, 1) := by decide +kernel
theorem dH_vehicle_101 : decode cH_vehicle 101 = .ok (.getfield 104, 3) := by decide +kernel
theorem dH_vehicle_104 : decode cH_vehicle 104 = .ok (.ireturn, 1) := by decide +kernel
theorem dH_vehicle_105 : decode cH_vehicle 105 = .ok (.aload_n 3, 1) := by decide +kernel
theorem dH_vehicle_106 : decode cH_vehicle 106 = .ok (.getfield 107, 3) := by decide +kernel
theorem dH_vehicle_109 : decode cH_vehicle 109 = .ok (.ireturn, 1) := by decide +kernel
theorem dH_vehicle_110 : decode cH_vehicle 110 = .ok (.aload_n 3, 1) := by decide +kernel
theorem dH_vehicle_111 : decode cH_vehicle 111 = .ok (.getfield 92, 3) := by decide +kernel
theorem dH_vehicle_114 : decode cH_vehicle 114 = .ok (.ireturn, 1) := by decide +kernel
theorem dH_vehicle_115 : decode cH_vehicle 115 = .ok (.aload_n 3, 1) := by decide +kernel
theorem dH_vehicle_116 : decode cH_vehicle 116 = .ok (.getfield 163, 3) := by decide +kernel
theorem dH_vehicle_119 : decode cH_vehicle 119 = .ok (.ireturn, 1) := by decide +kernel
theorem dH_vehicle_120 : decode cH_vehicle 120 = .ok (.aload_n 3, 1) := by decide +kernel
theorem dH_vehicle_121 : decode cH_vehicle 121 = .ok (.getfield 95, 3) := by decide +kernel
theorem dH_vehicle_124 : decode cH_vehicle 124 = .ok (.ireturn, 1) := by decide +kernel
theorem dH_vehicle_125 : decode cH_vehicle 125 = .ok (.aload_n 3, 1) := by decide +kernel
theorem dH_vehicle_126 : decode cH_vehicle 126 = .ok (.getfield 119, 3) := by decide +kernel
theorem dH_vehicle_129 : decode cH_vehicle 129 = .ok (.ifCond .eq 7, 3) := by decide +kernel
theorem dH_vehicle_132 : decode cH_vehicle 132 = .ok (.iconst 1, 1) := by decide +kernel
theorem dH_vehicle_133 : decode cH_vehicle 133 = .ok (.goto 4, 3) := by decide +kernel
theorem dH_vehicle_136 : decode cH_vehicle 136 = .ok (.iconst 0, 1) := by decide +kernel
theorem dH_vehicle_137 : decode cH_vehicle 137 = .ok (.ireturn, 1) := by decide +kernel
theorem dH_count_0 : decode cH_count 0 = .ok (.iload_n 1, 1) := by decide +kernel
theorem dH_count_1 : decode cH_count 1 = .ok (.tableswitch 91 0 7 #[47, 52, 57, 63, 69, 75, 81, 86], 47) := by decide +kernel
theorem dH_count_48 : decode cH_count 48 = .ok (.aload_n 0, 1) := by decide +kernel
theorem dH_count_49 : decode cH_count 49 = .ok (.getfield 15, 3) := by decide +kernel
theorem dH_count_52 : decode cH_count 52 = .ok (.ireturn, 1) := by decide +kernel
theorem dH_count_53 : decode cH_count 53 = .ok (.aload_n 0, 1) := by decide +kernel
theorem dH_count_54 : decode cH_count 54 = .ok (.invokevirtual 166, 3) := by decide +kernel
theorem dH_count_57 : decode cH_count 57 = .ok (.ireturn, 1) := by decide +kernel
theorem dH_count_58 : decode cH_count 58 = .ok (.aload_n 0, 1) := by decide +kernel
theorem dH_count_59 : decode cH_count 59 = .ok (.iconst 0, 1) := by decide +kernel
theorem dH_count_60 : decode cH_count 60 = .ok (.invokevirtual 147, 3) := by decide +kernel
theorem dH_count_63 : decode cH_count 63 = .ok (.ireturn, 1) := by decide +kernel
theorem dH_count_64 : decode cH_count 64 = .ok (.aload_n 0, 1) := by decide +kernel
theorem dH_count_65 : decode cH_count 65 = .ok (.iconst 1, 1) := by decide +kernel
theorem dH_count_66 : decode cH_count 66 = .ok (.invokevirtual 147, 3) := by decide +kernel
theorem dH_count_69 : decode cH_count 69 = .ok (.ireturn, 1) := by decide +kernel
theorem dH_count_70 : decode cH_count 70 = .ok (.aload_n 0, 1) := by decide +kernel
theorem dH_count_71 : decode cH_count 71 = .ok (.iconst 2, 1) := by decide +kernel
theorem dH_count_72 : decode cH_count 72 = .ok (.invokevirtual 147, 3) := by decide +kernel
theorem dH_count_75 : decode cH_count 75 = .ok (.ireturn, 1) := by decide +kernel
theorem dH_count_76 : decode cH_count 76 = .ok (.aload_n 0, 1) := by decide +kernel
theorem dH_count_77 : decode cH_count 77 = .ok (.iconst 3, 1) := by decide +kernel
theorem dH_count_78 : decode cH_count 78 = .ok (.invokevirtual 147, 3) := by decide +kernel
theorem dH_count_81 : decode cH_count 81 = .ok (.ireturn, 1) := by decide +kernel
theorem dH_count_82 : decode cH_count 82 = .ok (.aload_n 0, 1) := by decide +kernel
theorem dH_count_83 : decode cH_count 83 = .ok (.invokevirtual 169, 3) := by decide +kernel
theorem dH_count_86 : decode cH_count 86 = .ok (.ireturn, 1) := by decide +kernel
theorem dH_count_87 : decode cH_count 87 = .ok (.aload_n 0, 1) := by decide +kernel
theorem dH_count_88 : decode cH_count 88 = .ok (.getfield 19, 3) := by decide +kernel
theorem dH_count_91 : decode cH_count 91 = .ok (.ireturn, 1) := by decide +kernel
theorem dH_count_92 : decode cH_count 92 = .ok (.new 36, 3) := by decide +kernel
theorem dH_count_95 : decode cH_count 95 = .ok (.dup, 1) := by decide +kernel
theorem dH_count_96 : decode cH_count 96 = .ok (.ldc 172, 2) := by decide +kernel
theorem dH_count_98 : decode cH_count 98 = .ok (.invokespecial 40, 3) := by decide +kernel
theorem dH_count_101 : decode cH_count 101 = .ok (.athrow, 1) := by decide +kernel
theorem dH_sectionOf_0 : decode cH_sectionOf 0 = .ok (.iload_n 0, 1) := by decide +kernel
theorem dH_sectionOf_1 : decode cH_sectionOf 1 = .ok (.bipush 10, 2) := by decide +kernel
theorem dH_sectionOf_3 : decode cH_sectionOf 3 = .ok (.idiv, 1) := by decide +kernel
theorem dH_sectionOf_4 : decode cH_sectionOf 4 = .ok (.ireturn, 1) := by decide +kernel
theorem dH_isOnTrack_0 : decode cH_isOnTrack 0 = .ok (.iload_n 1, 1) := by decide +kernel
theorem dH_isOnTrack_1 : decode cH_isOnTrack 1 = .ok (.ifCond .lt 27, 3) := by decide +kernel
theorem dH_isOnTrack_4 : decode cH_isOnTrack 4 = .ok (.iload_n 1, 1) := by decide +kernel
theorem dH_isOnTrack_5 : decode cH_isOnTrack 5 = .ok (.aload_n 0, 1) := by decide +kernel
theorem dH_isOnTrack_6 : decode cH_isOnTrack 6 = .ok (.getfield 15, 3) := by decide +kernel
theorem dH_isOnTrack_9 : decode cH_isOnTrack 9 = .ok (.if_icmp .ge 19, 3) := by decide +kernel
theorem dH_isOnTrack_12 : decode cH_isOnTrack 12 = .ok (.aload_n 0, 1) := by decide +kernel
theorem dH_isOnTrack_13 : decode cH_isOnTrack 13 = .ok (.getfield 11, 3) := by decide +kernel
theorem dH_isOnTrack_16 : decode cH_isOnTrack 16 = .ok (.iload_n 1, 1) := by decide +kernel
theorem dH_isOnTrack_17 : decode cH_isOnTrack 17 = .ok (.aaload, 1) := by decide +kernel
theorem dH_isOnTrack_18 : decode cH_isOnTrack 18 = .ok (.getfield 139, 3) := by decide +kernel
theorem dH_isOnTrack_21 : decode cH_isOnTrack 21 = .ok (.ifCond .eq 7, 3) := by decide +kernel
theorem dH_isOnTrack_24 : decode cH_isOnTrack 24 = .ok (.iconst 1, 1) := by decide +kernel
theorem dH_isOnTrack_25 : decode cH_isOnTrack 25 = .ok (.goto 4, 3) := by decide +kernel
theorem dH_isOnTrack_28 : decode cH_isOnTrack 28 = .ok (.iconst 0, 1) := by decide +kernel
theorem dH_isOnTrack_29 : decode cH_isOnTrack 29 = .ok (.ireturn, 1) := by decide +kernel
theorem dH_existingTrain_0 : decode cH_existingTrain 0 = .ok (.aload_n 0, 1) := by decide +kernel
theorem dH_existingTrain_1 : decode cH_existingTrain 1 = .ok (.iload_n 1, 1) := by decide +kernel
theorem dH_existingTrain_2 : decode cH_existingTrain 2 = .ok (.invokevirtual 127, 3) := by decide +kernel
theorem dH_existingTrain_5 : decode cH_existingTrain 5 = .ok (.ifCond .eq 15, 3) := by decide +kernel
theorem dH_existingTrain_8 : decode cH_existingTrain 8 = .ok (.aload_n 0, 1) := by decide +kernel
theorem dH_existingTrain_9 : decode cH_existingTrain 9 = .ok (.getfield 11, 3) := by decide +kernel
theorem dH_existingTrain_12 : decode cH_existingTrain 12 = .ok (.iload_n 1, 1) := by decide +kernel
theorem dH_existingTrain_13 : decode cH_existingTrain 13 = .ok (.aaload, 1) := by decide +kernel
theorem dH_existingTrain_14 : decode cH_existingTrain 14 = .ok (.getfield 131, 3) := by decide +kernel
theorem dH_existingTrain_17 : decode cH_existingTrain 17 = .ok (.ifCond .ne 13, 3) := by decide +kernel
theorem dH_existingTrain_20 : decode cH_existingTrain 20 = .ok (.new 134, 3) := by decide +kernel
theorem dH_existingTrain_23 : decode cH_existingTrain 23 = .ok (.dup, 1) := by decide +kernel
theorem dH_existingTrain_24 : decode cH_existingTrain 24 = .ok (.ldc 174, 2) := by decide +kernel
theorem dH_existingTrain_26 : decode cH_existingTrain 26 = .ok (.invokespecial 138, 3) := by decide +kernel
theorem dH_existingTrain_29 : decode cH_existingTrain 29 = .ok (.athrow, 1) := by decide +kernel
theorem dH_existingTrain_30 : decode cH_existingTrain 30 = .ok (.aload_n 0, 1) := by decide +kernel
theorem dH_existingTrain_31 : decode cH_existingTrain 31 = .ok (.getfield 11, 3) := by decide +kernel
theorem dH_existingTrain_34 : decode cH_existingTrain 34 = .ok (.iload_n 1, 1) := by decide +kernel
theorem dH_existingTrain_35 : decode cH_existingTrain 35 = .ok (.aaload, 1) := by decide +kernel
theorem dH_existingTrain_36 : decode cH_existingTrain 36 = .ok (.areturn, 1) := by decide +kernel
theorem dH_isStoodOn_0 : decode cH_isStoodOn 0 = .ok (.iconst 0, 1) := by decide +kernel
theorem dH_isStoodOn_1 : decode cH_isStoodOn 1 = .ok (.istore_n 3, 1) := by decide +kernel
theorem dH_isStoodOn_2 : decode cH_isStoodOn 2 = .ok (.iload_n 3, 1) := by decide +kernel
theorem dH_isStoodOn_3 : decode cH_isStoodOn 3 = .ok (.aload_n 0, 1) := by decide +kernel
theorem dH_isStoodOn_4 : decode cH_isStoodOn 4 = .ok (.getfield 15, 3) := by decide +kernel
theorem dH_isStoodOn_7 : decode cH_isStoodOn 7 = .ok (.if_icmp .ge 25, 3) := by decide +kernel
theorem dH_isStoodOn_10 : decode cH_isStoodOn 10 = .ok (.aload_n 0, 1) := by decide +kernel
theorem dH_isStoodOn_11 : decode cH_isStoodOn 11 = .ok (.getfield 11, 3) := by decide +kernel
theorem dH_isStoodOn_14 : decode cH_isStoodOn 14 = .ok (.iload_n 3, 1) := by decide +kernel
theorem dH_isStoodOn_15 : decode cH_isStoodOn 15 = .ok (.aaload, 1) := by decide +kernel
theorem dH_isStoodOn_16 : decode cH_isStoodOn 16 = .ok (.iload_n 1, 1) := by decide +kernel
theorem dH_isStoodOn_17 : decode cH_isStoodOn 17 = .ok (.iload_n 2, 1) := by decide +kernel
theorem dH_isStoodOn_18 : decode cH_isStoodOn 18 = .ok (.invokevirtual 176, 3) := by decide +kernel
theorem dH_isStoodOn_21 : decode cH_isStoodOn 21 = .ok (.ifCond .eq 5, 3) := by decide +kernel
theorem dH_isStoodOn_24 : decode cH_isStoodOn 24 = .ok (.iconst 1, 1) := by decide +kernel
theorem dH_isStoodOn_25 : decode cH_isStoodOn 25 = .ok (.ireturn, 1) := by decide +kernel
theorem dH_isStoodOn_26 : decode cH_isStoodOn 26 = .ok (.iinc 3 1, 3) := by decide +kernel
theorem dH_isStoodOn_29 : decode cH_isStoodOn 29 = .ok (.goto (-27), 3) := by decide +kernel
theorem dH_isStoodOn_32 : decode cH_isStoodOn 32 = .ok (.iconst 0, 1) := by decide +kernel
theorem dH_isStoodOn_33 : decode cH_isStoodOn 33 = .ok (.ireturn, 1) := by decide +kernel
theorem dH_isDetectedOccupied_0 : decode cH_isDetectedOccupied 0 = .ok (.iload_n 1, 1) := by decide +kernel
theorem dH_isDetectedOccupied_1 : decode cH_isDetectedOccupied 1 = .ok (.bipush 30, 2) := by decide +kernel
theorem dH_isDetectedOccupied_3 : decode cH_isDetectedOccupied 3 = .ok (.imul, 1) := by decide +kernel
theorem dH_isDetectedOccupied_4 : decode cH_isDetectedOccupied 4 = .ok (.istore_n 2, 1) := by decide +kernel
theorem dH_isDetectedOccupied_5 : decode cH_isDetectedOccupied 5 = .ok (.aload_n 0, 1) := by decide +kernel
theorem dH_isDetectedOccupied_6 : decode cH_isDetectedOccupied 6 = .ok (.iload_n 2, 1) := by decide +kernel
theorem dH_isDetectedOccupied_7 : decode cH_isDetectedOccupied 7 = .ok (.iload_n 2, 1) := by decide +kernel
theorem dH_isDetectedOccupied_8 : decode cH_isDetectedOccupied 8 = .ok (.bipush 30, 2) := by decide +kernel
theorem dH_isDetectedOccupied_10 : decode cH_isDetectedOccupied 10 = .ok (.iadd, 1) := by decide +kernel
theorem dH_isDetectedOccupied_11 : decode cH_isDetectedOccupied 11 = .ok (.iconst 1, 1) := by decide +kernel
theorem dH_isDetectedOccupied_12 : decode cH_isDetectedOccupied 12 = .ok (.isub, 1) := by decide +kernel
theorem dH_isDetectedOccupied_13 : decode cH_isDetectedOccupied 13 = .ok (.invokevirtual 50, 3) := by decide +kernel
theorem dH_isDetectedOccupied_16 : decode cH_isDetectedOccupied 16 = .ok (.ireturn, 1) := by decide +kernel
theorem dH_isSectionStoodOn_0 : decode cH_isSectionStoodOn 0 = .ok (.iload_n 1, 1) := by decide +kernel
theorem dH_isSectionStoodOn_1 : decode cH_isSectionStoodOn 1 = .ok (.bipush 10, 2) := by decide +kernel
theorem dH_isSectionStoodOn_3 : decode cH_isSectionStoodOn 3 = .ok (.imul, 1) := by decide +kernel
theorem dH_isSectionStoodOn_4 : decode cH_isSectionStoodOn 4 = .ok (.istore_n 2, 1) := by decide +kernel
theorem dH_isSectionStoodOn_5 : decode cH_isSectionStoodOn 5 = .ok (.aload_n 0, 1) := by decide +kernel
theorem dH_isSectionStoodOn_6 : decode cH_isSectionStoodOn 6 = .ok (.iload_n 2, 1) := by decide +kernel
theorem dH_isSectionStoodOn_7 : decode cH_isSectionStoodOn 7 = .ok (.iload_n 2, 1) := by decide +kernel
theorem dH_isSectionStoodOn_8 : decode cH_isSectionStoodOn 8 = .ok (.bipush 10, 2) := by decide +kernel
theorem dH_isSectionStoodOn_10 : decode cH_isSectionStoodOn 10 = .ok (.iadd, 1) := by decide +kernel
theorem dH_isSectionStoodOn_11 : decode cH_isSectionStoodOn 11 = .ok (.iconst 1, 1) := by decide +kernel
theorem dH_isSectionStoodOn_12 : decode cH_isSectionStoodOn 12 = .ok (.isub, 1) := by decide +kernel
theorem dH_isSectionStoodOn_13 : decode cH_isSectionStoodOn 13 = .ok (.invokevirtual 50, 3) := by decide +kernel
theorem dH_isSectionStoodOn_16 : decode cH_isSectionStoodOn 16 = .ok (.ireturn, 1) := by decide +kernel
theorem dH_isAnyClaimed_0 : decode cH_isAnyClaimed 0 = .ok (.iconst 0, 1) := by decide +kernel
theorem dH_isAnyClaimed_1 : decode cH_isAnyClaimed 1 = .ok (.istore 4, 2) := by decide +kernel
theorem dH_isAnyClaimed_3 : decode cH_isAnyClaimed 3 = .ok (.iload 4, 2) := by decide +kernel
theorem dH_isAnyClaimed_5 : decode cH_isAnyClaimed 5 = .ok (.aload_n 0, 1) := by decide +kernel
theorem dH_isAnyClaimed_6 : decode cH_isAnyClaimed 6 = .ok (.getfield 15, 3) := by decide +kernel
theorem dH_isAnyClaimed_9 : decode cH_isAnyClaimed 9 = .ok (.if_icmp .ge 32, 3) := by decide +kernel
theorem dH_isAnyClaimed_12 : decode cH_isAnyClaimed 12 = .ok (.iload 4, 2) := by decide +kernel
theorem dH_isAnyClaimed_14 : decode cH_isAnyClaimed 14 = .ok (.iload_n 3, 1) := by decide +kernel
theorem dH_isAnyClaimed_15 : decode cH_isAnyClaimed 15 = .ok (.if_icmp .eq 20, 3) := by decide +kernel
theorem dH_isAnyClaimed_18 : decode cH_isAnyClaimed 18 = .ok (.aload_n 0, 1) := by decide +kernel
theorem dH_isAnyClaimed_19 : decode cH_isAnyClaimed 19 = .ok (.getfield 11, 3) := by decide +kernel
theorem dH_isAnyClaimed_22 : decode cH_isAnyClaimed 22 = .ok (.iload 4, 2) := by decide +kernel
theorem dH_isAnyClaimed_24 : decode cH_isAnyClaimed 24 = .ok (.aaload, 1) := by decide +kernel
theorem dH_isAnyClaimed_25 : decode cH_isAnyClaimed 25 = .ok (.iload_n 1, 1) := by decide +kernel
theorem dH_isAnyClaimed_26 : decode cH_isAnyClaimed 26 = .ok (.iload_n 2, 1) := by decide +kernel
theorem dH_isAnyClaimed_27 : decode cH_isAnyClaimed 27 = .ok (.invokevirtual 179, 3) := by decide +kernel
theorem dH_isAnyClaimed_30 : decode cH_isAnyClaimed 30 = .ok (.ifCond .eq 5, 3) := by decide +kernel
theorem dH_isAnyClaimed_33 : decode cH_isAnyClaimed 33 = .ok (.iconst 1, 1) := by decide +kernel
theorem dH_isAnyClaimed_34 : decode cH_isAnyClaimed 34 = .ok (.ireturn, 1) := by decide +kernel
theorem dH_isAnyClaimed_35 : decode cH_isAnyClaimed 35 = .ok (.iinc 4 1, 3) := by decide +kernel
theorem dH_isAnyClaimed_38 : decode cH_isAnyClaimed 38 = .ok (.goto (-35), 3) := by decide +kernel
theorem dH_isAnyClaimed_41 : decode cH_isAnyClaimed 41 = .ok (.iconst 0, 1) := by decide +kernel
theorem dH_isAnyClaimed_42 : decode cH_isAnyClaimed 42 = .ok (.ireturn, 1) := by decide +kernel
theorem dH_isAnyClaimedByMute_0 : decode cH_isAnyClaimedByMute 0 = .ok (.iconst 0, 1) := by decide +kernel
theorem dH_isAnyClaimedByMute_1 : decode cH_isAnyClaimedByMute 1 = .ok (.istore_n 3, 1) := by decide +kernel
theorem dH_isAnyClaimedByMute_2 : decode cH_isAnyClaimedByMute 2 = .ok (.iload_n 3, 1) := by decide +kernel
theorem dH_isAnyClaimedByMute_3 : decode cH_isAnyClaimedByMute 3 = .ok (.aload_n 0, 1) := by decide +kernel
theorem dH_isAnyClaimedByMute_4 : decode cH_isAnyClaimedByMute 4 = .ok (.getfield 15, 3) := by decide +kernel
theorem dH_isAnyClaimedByMute_7 : decode cH_isAnyClaimedByMute 7 = .ok (.if_icmp .ge 37, 3) := by decide +kernel
theorem dH_isAnyClaimedByMute_10 : decode cH_isAnyClaimedByMute 10 = .ok (.aload_n 0, 1) := by decide +kernel
theorem dH_isAnyClaimedByMute_11 : decode cH_isAnyClaimedByMute 11 = .ok (.getfield 11, 3) := by decide +kernel
theorem dH_isAnyClaimedByMute_14 : decode cH_isAnyClaimedByMute 14 = .ok (.iload_n 3, 1) := by decide +kernel
theorem dH_isAnyClaimedByMute_15 : decode cH_isAnyClaimedByMute 15 = .ok (.aaload, 1) := by decide +kernel
theorem dH_isAnyClaimedByMute_16 : decode cH_isAnyClaimedByMute 16 = .ok (.invokevirtual 86, 3) := by decide +kernel
theorem dH_isAnyClaimedByMute_19 : decode cH_isAnyClaimedByMute 19 = .ok (.ifCond .eq 19, 3) := by decide +kernel
theorem dH_isAnyClaimedByMute_22 : decode cH_isAnyClaimedByMute 22 = .ok (.aload_n 0, 1) := by decide +kernel
theorem dH_isAnyClaimedByMute_23 : decode cH_isAnyClaimedByMute 23 = .ok (.getfield 11, 3) := by decide +kernel
theorem dH_isAnyClaimedByMute_26 : decode cH_isAnyClaimedByMute 26 = .ok (.iload_n 3, 1) := by decide +kernel
theorem dH_isAnyClaimedByMute_27 : decode cH_isAnyClaimedByMute 27 = .ok (.aaload, 1) := by decide +kernel
theorem dH_isAnyClaimedByMute_28 : decode cH_isAnyClaimedByMute 28 = .ok (.iload_n 1, 1) := by decide +kernel
theorem dH_isAnyClaimedByMute_29 : decode cH_isAnyClaimedByMute 29 = .ok (.iload_n 2, 1) := by decide +kernel
theorem dH_isAnyClaimedByMute_30 : decode cH_isAnyClaimedByMute 30 = .ok (.invokevirtual 179, 3) := by decide +kernel
theorem dH_isAnyClaimedByMute_33 : decode cH_isAnyClaimedByMute 33 = .ok (.ifCond .eq 5, 3) := by decide +kernel
theorem dH_isAnyClaimedByMute_36 : decode cH_isAnyClaimedByMute 36 = .ok (.iconst 1, 1) := by decide +kernel
theorem dH_isAnyClaimedByMute_37 : decode cH_isAnyClaimedByMute 37 = .ok (.ireturn, 1) := by decide +kernel
theorem dH_isAnyClaimedByMute_38 : decode cH_isAnyClaimedByMute 38 = .ok (.iinc 3 1, 3) := by decide +kernel
theorem dH_isAnyClaimedByMute_41 : decode cH_isAnyClaimedByMute 41 = .ok (.goto (-39), 3) := by decide +kernel
theorem dH_isAnyClaimedByMute_44 : decode cH_isAnyClaimedByMute 44 = .ok (.iconst 0, 1) := by decide +kernel
theorem dH_isAnyClaimedByMute_45 : decode cH_isAnyClaimedByMute 45 = .ok (.ireturn, 1) := by decide +kernel
theorem dH_farthestFreeFrom_0 : decode cH_farthestFreeFrom 0 = .ok (.iload_n 1, 1) := by decide +kernel
theorem dH_farthestFreeFrom_1 : decode cH_farthestFreeFrom 1 = .ok (.istore_n 3, 1) := by decide +kernel
theorem dH_farthestFreeFrom_2 : decode cH_farthestFreeFrom 2 = .ok (.iload_n 1, 1) := by decide +kernel
theorem dH_farthestFreeFrom_3 : decode cH_farthestFreeFrom 3 = .ok (.iconst 1, 1) := by decide +kernel
theorem dH_farthestFreeFrom_4 : decode cH_farthestFreeFrom 4 = .ok (.iadd, 1) := by decide +kernel
theorem dH_farthestFreeFrom_5 : decode cH_farthestFreeFrom 5 = .ok (.istore 4, 2) := by decide +kernel
theorem dH_farthestFreeFrom_7 : decode cH_farthestFreeFrom 7 = .ok (.iload 4, 2) := by decide +kernel
theorem dH_farthestFreeFrom_9 : decode cH_farthestFreeFrom 9 = .ok (.bipush 12, 2) := by decide +kernel
theorem dH_farthestFreeFrom_11 : decode cH_farthestFreeFrom 11 = .ok (.if_icmp .ge 37, 3) := by decide +kernel
theorem dH_farthestFreeFrom_14 : decode cH_farthestFreeFrom 14 = .ok (.aload_n 0, 1) := by decide +kernel
theorem dH_farthestFreeFrom_15 : decode cH_farthestFreeFrom 15 = .ok (.getfield 22, 3) := by decide +kernel
theorem dH_farthestFreeFrom_18 : decode cH_farthestFreeFrom 18 = .ok (.iload 4, 2) := by decide +kernel
theorem dH_farthestFreeFrom_20 : decode cH_farthestFreeFrom 20 = .ok (.iaload, 1) := by decide +kernel
theorem dH_farthestFreeFrom_21 : decode cH_farthestFreeFrom 21 = .ok (.ifCond .ne 27, 3) := by decide +kernel
theorem dH_farthestFreeFrom_24 : decode cH_farthestFreeFrom 24 = .ok (.aload_n 0, 1) := by decide +kernel
theorem dH_farthestFreeFrom_25 : decode cH_farthestFreeFrom 25 = .ok (.iload 4, 2) := by decide +kernel
theorem dH_farthestFreeFrom_27 : decode cH_farthestFreeFrom 27 = .ok (.iload 4, 2) := by decide +kernel
theorem dH_farthestFreeFrom_29 : decode cH_farthestFreeFrom 29 = .ok (.iload_n 2, 1) := by decide +kernel
theorem dH_farthestFreeFrom_30 : decode cH_farthestFreeFrom 30 = .ok (.invokevirtual 60, 3) := by decide +kernel
theorem dH_farthestFreeFrom_33 : decode cH_farthestFreeFrom 33 = .ok (.ifCond .eq 6, 3) := by decide +kernel
theorem dH_farthestFreeFrom_36 : decode cH_farthestFreeFrom 36 = .ok (.goto 12, 3) := by decide +kernel
theorem dH_farthestFreeFrom_39 : decode cH_farthestFreeFrom 39 = .ok (.iload 4, 2) := by decide +kernel
theorem dH_farthestFreeFrom_41 : decode cH_farthestFreeFrom 41 = .ok (.istore_n 3, 1) := by decide +kernel
theorem dH_farthestFreeFrom_42 : decode cH_farthestFreeFrom 42 = .ok (.iinc 4 1, 3) := by decide +kernel
theorem dH_farthestFreeFrom_45 : decode cH_farthestFreeFrom 45 = .ok (.goto (-38), 3) := by decide +kernel
theorem dH_farthestFreeFrom_48 : decode cH_farthestFreeFrom 48 = .ok (.iload_n 3, 1) := by decide +kernel
theorem dH_farthestFreeFrom_49 : decode cH_farthestFreeFrom 49 = .ok (.ireturn, 1) := by decide +kernel
theorem dH_trainsThatCame_0 : decode cH_trainsThatCame 0 = .ok (.iconst 0, 1) := by decide +kernel
theorem dH_trainsThatCame_1 : decode cH_trainsThatCame 1 = .ok (.istore_n 1, 1) := by decide +kernel
theorem dH_trainsThatCame_2 : decode cH_trainsThatCame 2 = .ok (.iconst 0, 1) := by decide +kernel
theorem dH_trainsThatCame_3 : decode cH_trainsThatCame 3 = .ok (.istore_n 2, 1) := by decide +kernel
theorem dH_trainsThatCame_4 : decode cH_trainsThatCame 4 = .ok (.iload_n 2, 1) := by decide +kernel
theorem dH_trainsThatCame_5 : decode cH_trainsThatCame 5 = .ok (.aload_n 0, 1) := by decide +kernel
theorem dH_trainsThatCame_6 : decode cH_trainsThatCame 6 = .ok (.getfield 15, 3) := by decide +kernel
theorem dH_trainsThatCame_9 : decode cH_trainsThatCame 9 = .ok (.if_icmp .ge 24, 3) := by decide +kernel
theorem dH_trainsThatCame_12 : decode cH_trainsThatCame 12 = .ok (.aload_n 0, 1) := by decide +kernel
theorem dH_trainsThatCame_13 : decode cH_trainsThatCame 13 = .ok (.getfield 11, 3) := by decide +kernel
theorem dH_trainsThatCame_16 : decode cH_trainsThatCame 16 = .ok (.iload_n 2, 1) := by decide +kernel
theorem dH_trainsThatCame_17 : decode cH_trainsThatCame 17 = .ok (.aaload, 1) := by decide +kernel
theorem dH_trainsThatCame_18 : decode cH_trainsThatCame 18 = .ok (.getfield 131, 3) := by decide +kernel
theorem dH_trainsThatCame_21 : decode cH_trainsThatCame 21 = .ok (.ifCond .eq 6, 3) := by decide +kernel
theorem dH_trainsThatCame_24 : decode cH_trainsThatCame 24 = .ok (.iinc 1 1, 3) := by decide +kernel
theorem dH_trainsThatCame_27 : decode cH_trainsThatCame 27 = .ok (.iinc 2 1, 3) := by decide +kernel
theorem dH_trainsThatCame_30 : decode cH_trainsThatCame 30 = .ok (.goto (-26), 3) := by decide +kernel
theorem dH_trainsThatCame_33 : decode cH_trainsThatCame 33 = .ok (.iload_n 1, 1) := by decide +kernel
theorem dH_trainsThatCame_34 : decode cH_trainsThatCame 34 = .ok (.ireturn, 1) := by decide +kernel
theorem dH_sectionsInState_0 : decode cH_sectionsInState 0 = .ok (.iconst 0, 1) := by decide +kernel
theorem dH_sectionsInState_1 : decode cH_sectionsInState 1 = .ok (.istore_n 2, 1) := by decide +kernel
theorem dH_sectionsInState_2 : decode cH_sectionsInState 2 = .ok (.iconst 0, 1) := by decide +kernel
theorem dH_sectionsInState_3 : decode cH_sectionsInState 3 = .ok (.istore_n 3, 1) := by decide +kernel
theorem dH_sectionsInState_4 : decode cH_sectionsInState 4 = .ok (.iload_n 3, 1) := by decide +kernel
theorem dH_sectionsInState_5 : decode cH_sectionsInState 5 = .ok (.bipush 12, 2) := by decide +kernel
theorem dH_sectionsInState_7 : decode cH_sectionsInState 7 = .ok (.if_icmp .ge 22, 3) := by decide +kernel
theorem dH_sectionsInState_10 : decode cH_sectionsInState 10 = .ok (.aload_n 0, 1) := by decide +kernel
theorem dH_sectionsInState_11 : decode cH_sectionsInState 11 = .ok (.getfield 22, 3) := by decide +kernel
theorem dH_sectionsInState_14 : decode cH_sectionsInState 14 = .ok (.iload_n 3, 1) := by decide +kernel
theorem dH_sectionsInState_15 : decode cH_sectionsInState 15 = .ok (.iaload, 1) := by decide +kernel
theorem dH_sectionsInState_16 : decode cH_sectionsInState 16 = .ok (.iload_n 1, 1) := by decide +kernel
theorem dH_sectionsInState_17 : decode cH_sectionsInState 17 = .ok (.if_icmp .ne 6, 3) := by decide +kernel
theorem dH_sectionsInState_20 : decode cH_sectionsInState 20 = .ok (.iinc 2 1, 3) := by decide +kernel
theorem dH_sectionsInState_23 : decode cH_sectionsInState 23 = .ok (.iinc 3 1, 3) := by decide +kernel
theorem dH_sectionsInState_26 : decode cH_sectionsInState 26 = .ok (.goto (-22), 3) := by decide +kernel
theorem dH_sectionsInState_29 : decode cH_sectionsInState 29 = .ok (.iload_n 2, 1) := by decide +kernel
theorem dH_sectionsInState_30 : decode cH_sectionsInState 30 = .ok (.ireturn, 1) := by decide +kernel
theorem dH_sectionsWronglyFree_0 : decode cH_sectionsWronglyFree 0 = .ok (.iconst 0, 1) := by decide +kernel
theorem dH_sectionsWronglyFree_1 : decode cH_sectionsWronglyFree 1 = .ok (.istore_n 1, 1) := by decide +kernel
theorem dH_sectionsWronglyFree_2 : decode cH_sectionsWronglyFree 2 = .ok (.iconst 0, 1) := by decide +kernel
theorem dH_sectionsWronglyFree_3 : decode cH_sectionsWronglyFree 3 = .ok (.istore_n 2, 1) := by decide +kernel
theorem dH_sectionsWronglyFree_4 : decode cH_sectionsWronglyFree 4 = .ok (.iload_n 2, 1) := by decide +kernel
theorem dH_sectionsWronglyFree_5 : decode cH_sectionsWronglyFree 5 = .ok (.bipush 12, 2) := by decide +kernel
theorem dH_sectionsWronglyFree_7 : decode cH_sectionsWronglyFree 7 = .ok (.if_icmp .ge 39, 3) := by decide +kernel
theorem dH_sectionsWronglyFree_10 : decode cH_sectionsWronglyFree 10 = .ok (.aload_n 0, 1) := by decide +kernel
theorem dH_sectionsWronglyFree_11 : decode cH_sectionsWronglyFree 11 = .ok (.getfield 22, 3) := by decide +kernel
theorem dH_sectionsWronglyFree_14 : decode cH_sectionsWronglyFree 14 = .ok (.iload_n 2, 1) := by decide +kernel
theorem dH_sectionsWronglyFree_15 : decode cH_sectionsWronglyFree 15 = .ok (.iaload, 1) := by decide +kernel
theorem dH_sectionsWronglyFree_16 : decode cH_sectionsWronglyFree 16 = .ok (.ifCond .ne 24, 3) := by decide +kernel
theorem dH_sectionsWronglyFree_19 : decode cH_sectionsWronglyFree 19 = .ok (.aload_n 0, 1) := by decide +kernel
theorem dH_sectionsWronglyFree_20 : decode cH_sectionsWronglyFree 20 = .ok (.iload_n 2, 1) := by decide +kernel
theorem dH_sectionsWronglyFree_21 : decode cH_sectionsWronglyFree 21 = .ok (.iload_n 2, 1) := by decide +kernel
theorem dH_sectionsWronglyFree_22 : decode cH_sectionsWronglyFree 22 = .ok (.iconst (-1), 1) := by decide +kernel
theorem dH_sectionsWronglyFree_23 : decode cH_sectionsWronglyFree 23 = .ok (.invokevirtual 60, 3) := by decide +kernel
theorem dH_sectionsWronglyFree_26 : decode cH_sectionsWronglyFree 26 = .ok (.ifCond .ne 14, 3) := by decide +kernel
theorem dH_sectionsWronglyFree_29 : decode cH_sectionsWronglyFree 29 = .ok (.aload_n 0, 1) := by decide +kernel
theorem dH_sectionsWronglyFree_30 : decode cH_sectionsWronglyFree 30 = .ok (.iload_n 2, 1) := by decide +kernel
theorem dH_sectionsWronglyFree_31 : decode cH_sectionsWronglyFree 31 = .ok (.invokevirtual 182, 3) := by decide +kernel
theorem dH_sectionsWronglyFree_34 : decode cH_sectionsWronglyFree 34 = .ok (.ifCond .eq 6, 3) := by decide +kernel
theorem dH_sectionsWronglyFree_37 : decode cH_sectionsWronglyFree 37 = .ok (.iinc 1 1, 3) := by decide +kernel
theorem dH_sectionsWronglyFree_40 : decode cH_sectionsWronglyFree 40 = .ok (.iinc 2 1, 3) := by decide +kernel
theorem dH_sectionsWronglyFree_43 : decode cH_sectionsWronglyFree 43 = .ok (.goto (-39), 3) := by decide +kernel
theorem dH_sectionsWronglyFree_46 : decode cH_sectionsWronglyFree 46 = .ok (.iload_n 1, 1) := by decide +kernel
theorem dH_sectionsWronglyFree_47 : decode cH_sectionsWronglyFree 47 = .ok (.ireturn, 1) := by decide +kernel
theorem dH_makeTick_0 : decode cH_makeTick 0 = .ok (.iconst 0, 1) := by decide +kernel
theorem dH_makeTick_1 : decode cH_makeTick 1 = .ok (.istore_n 1, 1) := by decide +kernel
theorem dH_makeTick_2 : decode cH_makeTick 2 = .ok (.iload_n 1, 1) := by decide +kernel
theorem dH_makeTick_3 : decode cH_makeTick 3 = .ok (.aload_n 0, 1) := by decide +kernel
theorem dH_makeTick_4 : decode cH_makeTick 4 = .ok (.getfield 15, 3) := by decide +kernel
theorem dH_makeTick_7 : decode cH_makeTick 7 = .ok (.if_icmp .ge 31, 3) := by decide +kernel
theorem dH_makeTick_10 : decode cH_makeTick 10 = .ok (.aload_n 0, 1) := by decide +kernel
theorem dH_makeTick_11 : decode cH_makeTick 11 = .ok (.getfield 11, 3) := by decide +kernel
theorem dH_makeTick_14 : decode cH_makeTick 14 = .ok (.iload_n 1, 1) := by decide +kernel
theorem dH_makeTick_15 : decode cH_makeTick 15 = .ok (.aaload, 1) := by decide +kernel
theorem dH_makeTick_16 : decode cH_makeTick 16 = .ok (.getfield 131, 3) := by decide +kernel
theorem dH_makeTick_19 : decode cH_makeTick 19 = .ok (.ifCond .eq 13, 3) := by decide +kernel
theorem dH_makeTick_22 : decode cH_makeTick 22 = .ok (.aload_n 0, 1) := by decide +kernel
theorem dH_makeTick_23 : decode cH_makeTick 23 = .ok (.aload_n 0, 1) := by decide +kernel
theorem dH_makeTick_24 : decode cH_makeTick 24 = .ok (.getfield 11, 3) := by decide +kernel
theorem dH_makeTick_27 : decode cH_makeTick 27 = .ok (.iload_n 1, 1) := by decide +kernel
theorem dH_makeTick_28 : decode cH_makeTick 28 = .ok (.aaload, 1) := by decide +kernel
theorem dH_makeTick_29 : decode cH_makeTick 29 = .ok (.invokevirtual 185, 3) := by decide +kernel
theorem dH_makeTick_32 : decode cH_makeTick 32 = .ok (.iinc 1 1, 3) := by decide +kernel
theorem dH_makeTick_35 : decode cH_makeTick 35 = .ok (.goto (-33), 3) := by decide +kernel
theorem dH_makeTick_38 : decode cH_makeTick 38 = .ok (.iconst 0, 1) := by decide +kernel
theorem dH_makeTick_39 : decode cH_makeTick 39 = .ok (.istore_n 1, 1) := by decide +kernel
theorem dH_makeTick_40 : decode cH_makeTick 40 = .ok (.iload_n 1, 1) := by decide +kernel
theorem dH_makeTick_41 : decode cH_makeTick 41 = .ok (.aload_n 0, 1) := by decide +kernel
theorem dH_makeTick_42 : decode cH_makeTick 42 = .ok (.getfield 15, 3) := by decide +kernel
theorem dH_makeTick_45 : decode cH_makeTick 45 = .ok (.if_icmp .ge 30, 3) := by decide +kernel
theorem dH_makeTick_48 : decode cH_makeTick 48 = .ok (.aload_n 0, 1) := by decide +kernel
theorem dH_makeTick_49 : decode cH_makeTick 49 = .ok (.getfield 11, 3) := by decide +kernel
theorem dH_makeTick_52 : decode cH_makeTick 52 = .ok (.iload_n 1, 1) := by decide +kernel
theorem dH_makeTick_53 : decode cH_makeTick 53 = .ok (.aaload, 1) := by decide +kernel
theorem dH_makeTick_54 : decode cH_makeTick 54 = .ok (.getfield 131, 3) := by decide +kernel
theorem dH_makeTick_57 : decode cH_makeTick 57 = .ok (.ifCond .eq 12, 3) := by decide +kernel
theorem dH_makeTick_60 : decode cH_makeTick 60 = .ok (.aload_n 0, 1) := by decide +kernel
theorem dH_makeTick_61 : decode cH_makeTick 61 = .ok (.getfield 11, 3) := by decide +kernel
theorem dH_makeTick_64 : decode cH_makeTick 64 = .ok (.iload_n 1, 1) := by decide +kernel
theorem dH_makeTick_65 : decode cH_makeTick 65 = .ok (.aaload, 1) := by decide +kernel
theorem dH_makeTick_66 : decode cH_makeTick 66 = .ok (.invokevirtual 189, 3) := by decide +kernel
theorem dH_makeTick_69 : decode cH_makeTick 69 = .ok (.iinc 1 1, 3) := by decide +kernel
theorem dH_makeTick_72 : decode cH_makeTick 72 = .ok (.goto (-32), 3) := by decide +kernel
theorem dH_makeTick_75 : decode cH_makeTick 75 = .ok (.aload_n 0, 1) := by decide +kernel
theorem dH_makeTick_76 : decode cH_makeTick 76 = .ok (.invokevirtual 70, 3) := by decide +kernel
theorem dH_makeTick_79 : decode cH_makeTick 79 = .ok (.aload_n 0, 1) := by decide +kernel
theorem dH_makeTick_80 : decode cH_makeTick 80 = .ok (.dup, 1) := by decide +kernel
theorem dH_makeTick_81 : decode cH_makeTick 81 = .ok (.getfield 19, 3) := by decide +kernel
theorem dH_makeTick_84 : decode cH_makeTick 84 = .ok (.iconst 1, 1) := by decide +kernel
theorem dH_makeTick_85 : decode cH_makeTick 85 = .ok (.iadd, 1) := by decide +kernel
theorem dH_makeTick_86 : decode cH_makeTick 86 = .ok (.putfield 19, 3) := by decide +kernel
theorem dH_makeTick_89 : decode cH_makeTick 89 = .ok (.return_, 1) := by decide +kernel
theorem dH_goForward_0 : decode cH_goForward 0 = .ok (.iconst 0, 1) := by decide +kernel
theorem dH_goForward_1 : decode cH_goForward 1 = .ok (.istore_n 2, 1) := by decide +kernel
theorem dH_goForward_2 : decode cH_goForward 2 = .ok (.iload_n 2, 1) := by decide +kernel
theorem dH_goForward_3 : decode cH_goForward 3 = .ok (.aload_n 1, 1) := by decide +kernel
theorem dH_goForward_4 : decode cH_goForward 4 = .ok (.getfield 79, 3) := by decide +kernel
theorem dH_goForward_7 : decode cH_goForward 7 = .ok (.if_icmp .ge 39, 3) := by decide +kernel
theorem dH_goForward_10 : decode cH_goForward 10 = .ok (.aload_n 1, 1) := by decide +kernel
theorem dH_goForward_11 : decode cH_goForward 11 = .ok (.getfield 104, 3) := by decide +kernel
theorem dH_goForward_14 : decode cH_goForward 14 = .ok (.iconst 1, 1) := by decide +kernel
theorem dH_goForward_15 : decode cH_goForward 15 = .ok (.iadd, 1) := by decide +kernel
theorem dH_goForward_16 : decode cH_goForward 16 = .ok (.istore_n 3, 1) := by decide +kernel
theorem dH_goForward_17 : decode cH_goForward 17 = .ok (.iload_n 3, 1) := by decide +kernel
theorem dH_goForward_18 : decode cH_goForward 18 = .ok (.aload_n 1, 1) := by decide +kernel
theorem dH_goForward_19 : decode cH_goForward 19 = .ok (.getfield 92, 3) := by decide +kernel
theorem dH_goForward_22 : decode cH_goForward 22 = .ok (.if_icmp .gt 12, 3) := by decide +kernel
theorem dH_goForward_25 : decode cH_goForward 25 = .ok (.aload_n 0, 1) := by decide +kernel
theorem dH_goForward_26 : decode cH_goForward 26 = .ok (.iload_n 3, 1) := by decide +kernel
theorem dH_goForward_27 : decode cH_goForward 27 = .ok (.iload_n 3, 1) := by decide +kernel
theorem dH_goForward_28 : decode cH_goForward 28 = .ok (.invokevirtual 50, 3) := by decide +kernel
theorem dH_goForward_31 : decode cH_goForward 31 = .ok (.ifCond .eq 4, 3) := by decide +kernel
theorem dH_goForward_34 : decode cH_goForward 34 = .ok (.return_, 1) := by decide +kernel
theorem dH_goForward_35 : decode cH_goForward 35 = .ok (.aload_n 1, 1) := by decide +kernel
theorem dH_goForward_36 : decode cH_goForward 36 = .ok (.iload_n 3, 1) := by decide +kernel
theorem dH_goForward_37 : decode cH_goForward 37 = .ok (.putfield 104, 3) := by decide +kernel
theorem dH_goForward_40 : decode cH_goForward 40 = .ok (.iinc 2 1, 3) := by decide +kernel
theorem dH_goForward_43 : decode cH_goForward 43 = .ok (.goto (-41), 3) := by decide +kernel
theorem dH_goForward_46 : decode cH_goForward 46 = .ok (.return_, 1) := by decide +kernel
theorem dH_findStates_0 : decode cH_findStates 0 = .ok (.aload_n 0, 1) := by decide +kernel
theorem dH_findStates_1 : decode cH_findStates 1 = .ok (.invokevirtual 192, 3) := by decide +kernel
theorem dH_findStates_4 : decode cH_findStates 4 = .ok (.iconst 0, 1) := by decide +kernel
theorem dH_findStates_5 : decode cH_findStates 5 = .ok (.istore_n 1, 1) := by decide +kernel
theorem dH_findStates_6 : decode cH_findStates 6 = .ok (.iload_n 1, 1) := by decide +kernel
theorem dH_findStates_7 : decode cH_findStates 7 = .ok (.bipush 12, 2) := by decide +kernel
theorem dH_findStates_9 : decode cH_findStates 9 = .ok (.if_icmp .ge 20, 3) := by decide +kernel
theorem dH_findStates_12 : decode cH_findStates 12 = .ok (.aload_n 0, 1) := by decide +kernel
theorem dH_findStates_13 : decode cH_findStates 13 = .ok (.getfield 22, 3) := by decide +kernel
theorem dH_findStates_16 : decode cH_findStates 16 = .ok (.iload_n 1, 1) := by decide +kernel
theorem dH_findStates_17 : decode cH_findStates 17 = .ok (.aload_n 0, 1) := by decide +kernel
theorem dH_findStates_18 : decode cH_findStates 18 = .ok (.iload_n 1, 1) := by decide +kernel
theorem dH_findStates_19 : decode cH_findStates 19 = .ok (.invokevirtual 195, 3) := by decide +kernel
theorem dH_findStates_22 : decode cH_findStates 22 = .ok (.iastore, 1) := by decide +kernel
theorem dH_findStates_23 : decode cH_findStates 23 = .ok (.iinc 1 1, 3) := by decide +kernel
theorem dH_findStates_26 : decode cH_findStates 26 = .ok (.goto (-20), 3) := by decide +kernel
theorem dH_findStates_29 : decode cH_findStates 29 = .ok (.iconst 0, 1) := by decide +kernel
theorem dH_findStates_30 : decode cH_findStates 30 = .ok (.istore_n 1, 1) := by decide +kernel
theorem dH_findStates_31 : decode cH_findStates 31 = .ok (.iload_n 1, 1) := by decide +kernel
theorem dH_findStates_32 : decode cH_findStates 32 = .ok (.bipush 12, 2) := by decide +kernel
theorem dH_findStates_34 : decode cH_findStates 34 = .ok (.if_icmp .ge 44, 3) := by decide +kernel
theorem dH_findStates_37 : decode cH_findStates 37 = .ok (.aload_n 0, 1) := by decide +kernel
theorem dH_findStates_38 : decode cH_findStates 38 = .ok (.getfield 22, 3) := by decide +kernel
theorem dH_findStates_41 : decode cH_findStates 41 = .ok (.iload_n 1, 1) := by decide +kernel
theorem dH_findStates_42 : decode cH_findStates 42 = .ok (.iaload, 1) := by decide +kernel
theorem dH_findStates_43 : decode cH_findStates 43 = .ok (.ifCond .ne 29, 3) := by decide +kernel
theorem dH_findStates_46 : decode cH_findStates 46 = .ok (.aload_n 0, 1) := by decide +kernel
theorem dH_findStates_47 : decode cH_findStates 47 = .ok (.iload_n 1, 1) := by decide +kernel
theorem dH_findStates_48 : decode cH_findStates 48 = .ok (.iload_n 1, 1) := by decide +kernel
theorem dH_findStates_49 : decode cH_findStates 49 = .ok (.invokevirtual 198, 3) := by decide +kernel
theorem dH_findStates_52 : decode cH_findStates 52 = .ok (.ifCond .eq 20, 3) := by decide +kernel
theorem dH_findStates_55 : decode cH_findStates 55 = .ok (.aload_n 0, 1) := by decide +kernel
theorem dH_findStates_56 : decode cH_findStates 56 = .ok (.iload_n 1, 1) := by decide +kernel
theorem dH_findStates_57 : decode cH_findStates 57 = .ok (.iconst 3, 1) := by decide +kernel
theorem dH_findStates_58 : decode cH_findStates 58 = .ok (.idiv, 1) := by decide +kernel
theorem dH_findStates_59 : decode cH_findStates 59 = .ok (.invokevirtual 154, 3) := by decide +kernel
theorem dH_findStates_62 : decode cH_findStates 62 = .ok (.ifCond .eq 10, 3) := by decide +kernel
theorem dH_findStates_65 : decode cH_findStates 65 = .ok (.aload_n 0, 1) := by decide +kernel
theorem dH_findStates_66 : decode cH_findStates 66 = .ok (.getfield 22, 3) := by decide +kernel
theorem dH_findStates_69 : decode cH_findStates 69 = .ok (.iload_n 1, 1) := by decide +kernel
theorem dH_findStates_70 : decode cH_findStates 70 = .ok (.iconst 3, 1) := by decide +kernel
theorem dH_findStates_71 : decode cH_findStates 71 = .ok (.iastore, 1) := by decide +kernel
theorem dH_findStates_72 : decode cH_findStates 72 = .ok (.iinc 1 1, 3) := by decide +kernel
theorem dH_findStates_75 : decode cH_findStates 75 = .ok (.goto (-44), 3) := by decide +kernel
theorem dH_findStates_78 : decode cH_findStates 78 = .ok (.return_, 1) := by decide +kernel
theorem dH_locateTrains_0 : decode cH_locateTrains 0 = .ok (.iconst 0, 1) := by decide +kernel
theorem dH_locateTrains_1 : decode cH_locateTrains 1 = .ok (.istore_n 1, 1) := by decide +kernel
theorem dH_locateTrains_2 : decode cH_locateTrains 2 = .ok (.iload_n 1, 1) := by decide +kernel
theorem dH_locateTrains_3 : decode cH_locateTrains 3 = .ok (.bipush 12, 2) := by decide +kernel
theorem dH_locateTrains_5 : decode cH_locateTrains 5 = .ok (.if_icmp .ge 95, 3) := by decide +kernel
theorem dH_locateTrains_8 : decode cH_locateTrains 8 = .ok (.aload_n 0, 1) := by decide +kernel
theorem dH_locateTrains_9 : decode cH_locateTrains 9 = .ok (.getfield 32, 3) := by decide +kernel
theorem dH_locateTrains_12 : decode cH_locateTrains 12 = .ok (.iload_n 1, 1) := by decide +kernel
theorem dH_locateTrains_13 : decode cH_locateTrains 13 = .ok (.aload_n 0, 1) := by decide +kernel
theorem dH_locateTrains_14 : decode cH_locateTrains 14 = .ok (.getfield 29, 3) := by decide +kernel
theorem dH_locateTrains_17 : decode cH_locateTrains 17 = .ok (.iload_n 1, 1) := by decide +kernel
theorem dH_locateTrains_18 : decode cH_locateTrains 18 = .ok (.iaload, 1) := by decide +kernel
theorem dH_locateTrains_19 : decode cH_locateTrains 19 = .ok (.iastore, 1) := by decide +kernel
theorem dH_locateTrains_20 : decode cH_locateTrains 20 = .ok (.aload_n 0, 1) := by decide +kernel
theorem dH_locateTrains_21 : decode cH_locateTrains 21 = .ok (.getfield 29, 3) := by decide +kernel
theorem dH_locateTrains_24 : decode cH_locateTrains 24 = .ok (.iload_n 1, 1) := by decide +kernel
theorem dH_locateTrains_25 : decode cH_locateTrains 25 = .ok (.iconst (-1), 1) := by decide +kernel
theorem dH_locateTrains_26 : decode cH_locateTrains 26 = .ok (.iastore, 1) := by decide +kernel
theorem dH_locateTrains_27 : decode cH_locateTrains 27 = .ok (.aload_n 0, 1) := by decide +kernel
theorem dH_locateTrains_28 : decode cH_locateTrains 28 = .ok (.getfield 26, 3) := by decide +kernel
theorem dH_locateTrains_31 : decode cH_locateTrains 31 = .ok (.iload_n 1, 1) := by decide +kernel
theorem dH_locateTrains_32 : decode cH_locateTrains 32 = .ok (.iconst 0, 1) := by decide +kernel
theorem dH_locateTrains_33 : decode cH_locateTrains 33 = .ok (.iastore, 1) := by decide +kernel
theorem dH_locateTrains_34 : decode cH_locateTrains 34 = .ok (.iconst 0, 1) := by decide +kernel
theorem dH_locateTrains_35 : decode cH_locateTrains 35 = .ok (.istore_n 2, 1) := by decide +kernel
theorem dH_locateTrains_36 : decode cH_locateTrains 36 = .ok (.iload_n 2, 1) := by decide +kernel
theorem dH_locateTrains_37 : decode cH_locateTrains 37 = .ok (.aload_n 0, 1) := by decide +kernel
theorem dH_locateTrains_38 : decode cH_locateTrains 38 = .ok (.getfield 15, 3) := by decide +kernel
theorem dH_locateTrains_41 : decode cH_locateTrains 41 = .ok (.if_icmp .ge 53, 3) := by decide +kernel
theorem dH_locateTrains_44 : decode cH_locateTrains 44 = .ok (.aload_n 0, 1) := by decide +kernel
theorem dH_locateTrains_45 : decode cH_locateTrains 45 = .ok (.getfield 11, 3) := by decide +kernel
theorem dH_locateTrains_48 : decode cH_locateTrains 48 = .ok (.iload_n 2, 1) := by decide +kernel
theorem dH_locateTrains_49 : decode cH_locateTrains 49 = .ok (.aaload, 1) := by decide +kernel
theorem dH_locateTrains_50 : decode cH_locateTrains 50 = .ok (.iload_n 1, 1) := by decide +kernel
theorem dH_locateTrains_51 : decode cH_locateTrains 51 = .ok (.invokevirtual 201, 3) := by decide +kernel
theorem dH_locateTrains_54 : decode cH_locateTrains 54 = .ok (.ifCond .eq 34, 3) := by decide +kernel
theorem dH_locateTrains_57 : decode cH_locateTrains 57 = .ok (.aload_n 0, 1) := by decide +kernel
theorem dH_locateTrains_58 : decode cH_locateTrains 58 = .ok (.getfield 26, 3) := by decide +kernel
theorem dH_locateTrains_61 : decode cH_locateTrains 61 = .ok (.iload_n 1, 1) := by decide +kernel
theorem dH_locateTrains_62 : decode cH_locateTrains 62 = .ok (.dup2, 1) := by decide +kernel
theorem dH_locateTrains_63 : decode cH_locateTrains 63 = .ok (.iaload, 1) := by decide +kernel
theorem dH_locateTrains_64 : decode cH_locateTrains 64 = .ok (.iconst 1, 1) := by decide +kernel
theorem dH_locateTrains_65 : decode cH_locateTrains 65 = .ok (.iadd, 1) := by decide +kernel
theorem dH_locateTrains_66 : decode cH_locateTrains 66 = .ok (.iastore, 1) := by decide +kernel
theorem dH_locateTrains_67 : decode cH_locateTrains 67 = .ok (.aload_n 0, 1) := by decide +kernel
theorem dH_locateTrains_68 : decode cH_locateTrains 68 = .ok (.getfield 29, 3) := by decide +kernel
theorem dH_locateTrains_71 : decode cH_locateTrains 71 = .ok (.iload_n 1, 1) := by decide +kernel
theorem dH_locateTrains_72 : decode cH_locateTrains 72 = .ok (.aload_n 0, 1) := by decide +kernel
theorem dH_locateTrains_73 : decode cH_locateTrains 73 = .ok (.getfield 26, 3) := by decide +kernel
theorem dH_locateTrains_76 : decode cH_locateTrains 76 = .ok (.iload_n 1, 1) := by decide +kernel
theorem dH_locateTrains_77 : decode cH_locateTrains 77 = .ok (.iaload, 1) := by decide +kernel
theorem dH_locateTrains_78 : decode cH_locateTrains 78 = .ok (.iconst 1, 1) := by decide +kernel
theorem dH_locateTrains_79 : decode cH_locateTrains 79 = .ok (.if_icmp .ne 7, 3) := by decide +kernel
theorem dH_locateTrains_82 : decode cH_locateTrains 82 = .ok (.iload_n 2, 1) := by decide +kernel
theorem dH_locateTrains_83 : decode cH_locateTrains 83 = .ok (.goto 4, 3) := by decide +kernel
theorem dH_locateTrains_86 : decode cH_locateTrains 86 = .ok (.iconst (-1), 1) := by decide +kernel
theorem dH_locateTrains_87 : decode cH_locateTrains 87 = .ok (.iastore, 1) := by decide +kernel
theorem dH_locateTrains_88 : decode cH_locateTrains 88 = .ok (.iinc 2 1, 3) := by decide +kernel
theorem dH_locateTrains_91 : decode cH_locateTrains 91 = .ok (.goto (-55), 3) := by decide +kernel
theorem dH_locateTrains_94 : decode cH_locateTrains 94 = .ok (.iinc 1 1, 3) := by decide +kernel
theorem dH_locateTrains_97 : decode cH_locateTrains 97 = .ok (.goto (-95), 3) := by decide +kernel
theorem dH_locateTrains_100 : decode cH_locateTrains 100 = .ok (.return_, 1) := by decide +kernel
theorem dH_stateByReports_0 : decode cH_stateByReports 0 = .ok (.aload_n 0, 1) := by decide +kernel
theorem dH_stateByReports_1 : decode cH_stateByReports 1 = .ok (.iload_n 1, 1) := by decide +kernel
theorem dH_stateByReports_2 : decode cH_stateByReports 2 = .ok (.iconst 3, 1) := by decide +kernel
theorem dH_stateByReports_3 : decode cH_stateByReports 3 = .ok (.idiv, 1) := by decide +kernel
theorem dH_stateByReports_4 : decode cH_stateByReports 4 = .ok (.invokevirtual 154, 3) := by decide +kernel
theorem dH_stateByReports_7 : decode cH_stateByReports 7 = .ok (.ifCond .ne 5, 3) := by decide +kernel
theorem dH_stateByReports_10 : decode cH_stateByReports 10 = .ok (.iconst 0, 1) := by decide +kernel
theorem dH_stateByReports_11 : decode cH_stateByReports 11 = .ok (.ireturn, 1) := by decide +kernel
theorem dH_stateByReports_12 : decode cH_stateByReports 12 = .ok (.aload_n 0, 1) := by decide +kernel
theorem dH_stateByReports_13 : decode cH_stateByReports 13 = .ok (.getfield 26, 3) := by decide +kernel
theorem dH_stateByReports_16 : decode cH_stateByReports 16 = .ok (.iload_n 1, 1) := by decide +kernel
theorem dH_stateByReports_17 : decode cH_stateByReports 17 = .ok (.iaload, 1) := by decide +kernel
theorem dH_stateByReports_18 : decode cH_stateByReports 18 = .ok (.ifCond .le 9, 3) := by decide +kernel
theorem dH_stateByReports_21 : decode cH_stateByReports 21 = .ok (.aload_n 0, 1) := by decide +kernel
theorem dH_stateByReports_22 : decode cH_stateByReports 22 = .ok (.iload_n 1, 1) := by decide +kernel
theorem dH_stateByReports_23 : decode cH_stateByReports 23 = .ok (.invokevirtual 204, 3) := by decide +kernel
theorem dH_stateByReports_26 : decode cH_stateByReports 26 = .ok (.ireturn, 1) := by decide +kernel
theorem dH_stateByReports_27 : decode cH_stateByReports 27 = .ok (.aload_n 0, 1) := by decide +kernel
theorem dH_stateByReports_28 : decode cH_stateByReports 28 = .ok (.getfield 22, 3) := by decide +kernel
theorem dH_stateByReports_31 : decode cH_stateByReports 31 = .ok (.iload_n 1, 1) := by decide +kernel
theorem dH_stateByReports_32 : decode cH_stateByReports 32 = .ok (.iaload, 1) := by decide +kernel
theorem dH_stateByReports_33 : decode cH_stateByReports 33 = .ok (.ifCond .ne 17, 3) := by decide +kernel
theorem dH_stateByReports_36 : decode cH_stateByReports 36 = .ok (.aload_n 0, 1) := by decide +kernel
theorem dH_stateByReports_37 : decode cH_stateByReports 37 = .ok (.iload_n 1, 1) := by decide +kernel
theorem dH_stateByReports_38 : decode cH_stateByReports 38 = .ok (.invokevirtual 207, 3) := by decide +kernel
theorem dH_stateByReports_41 : decode cH_stateByReports 41 = .ok (.ifCond .eq 7, 3) := by decide +kernel
theorem dH_stateByReports_44 : decode cH_stateByReports 44 = .ok (.iconst 0, 1) := by decide +kernel
theorem dH_stateByReports_45 : decode cH_stateByReports 45 = .ok (.goto 4, 3) := by decide +kernel
theorem dH_stateByReports_48 : decode cH_stateByReports 48 = .ok (.iconst 3, 1) := by decide +kernel
theorem dH_stateByReports_49 : decode cH_stateByReports 49 = .ok (.ireturn, 1) := by decide +kernel
theorem dH_stateByReports_50 : decode cH_stateByReports 50 = .ok (.aload_n 0, 1) := by decide +kernel
theorem dH_stateByReports_51 : decode cH_stateByReports 51 = .ok (.getfield 22, 3) := by decide +kernel
theorem dH_stateByReports_54 : decode cH_stateByReports 54 = .ok (.iload_n 1, 1) := by decide +kernel
theorem dH_stateByReports_55 : decode cH_stateByReports 55 = .ok (.iaload, 1) := by decide +kernel
theorem dH_stateByReports_56 : decode cH_stateByReports 56 = .ok (.iconst 1, 1) := by decide +kernel
theorem dH_stateByReports_57 : decode cH_stateByReports 57 = .ok (.if_icmp .ne 17, 3) := by decide +kernel
theorem dH_stateByReports_60 : decode cH_stateByReports 60 = .ok (.aload_n 0, 1) := by decide +kernel
theorem dH_stateByReports_61 : decode cH_stateByReports 61 = .ok (.iload_n 1, 1) := by decide +kernel
theorem dH_stateByReports_62 : decode cH_stateByReports 62 = .ok (.invokevirtual 210, 3) := by decide +kernel
theorem dH_stateByReports_65 : decode cH_stateByReports 65 = .ok (.ifCond .eq 7, 3) := by decide +kernel
theorem dH_stateByReports_68 : decode cH_stateByReports 68 = .ok (.iconst 0, 1) := by decide +kernel
theorem dH_stateByReports_69 : decode cH_stateByReports 69 = .ok (.goto 4, 3) := by decide +kernel
theorem dH_stateByReports_72 : decode cH_stateByReports 72 = .ok (.iconst 3, 1) := by decide +kernel
theorem dH_stateByReports_73 : decode cH_stateByReports 73 = .ok (.ireturn, 1) := by decide +kernel
theorem dH_stateByReports_74 : decode cH_stateByReports 74 = .ok (.iconst 3, 1) := by decide +kernel
theorem dH_stateByReports_75 : decode cH_stateByReports 75 = .ok (.ireturn, 1) := by decide +kernel
theorem dH_stateUnderTrains_0 : decode cH_stateUnderTrains 0 = .ok (.aload_n 0, 1) := by decide +kernel
theorem dH_stateUnderTrains_1 : decode cH_stateUnderTrains 1 = .ok (.getfield 29, 3) := by decide +kernel
theorem dH_stateUnderTrains_4 : decode cH_stateUnderTrains 4 = .ok (.iload_n 1, 1) := by decide +kernel
theorem dH_stateUnderTrains_5 : decode cH_stateUnderTrains 5 = .ok (.iaload, 1) := by decide +kernel
theorem dH_stateUnderTrains_6 : decode cH_stateUnderTrains 6 = .ok (.istore_n 2, 1) := by decide +kernel
theorem dH_stateUnderTrains_7 : decode cH_stateUnderTrains 7 = .ok (.aload_n 0, 1) := by decide +kernel
theorem dH_stateUnderTrains_8 : decode cH_stateUnderTrains 8 = .ok (.getfield 22, 3) := by decide +kernel
theorem dH_stateUnderTrains_11 : decode cH_stateUnderTrains 11 = .ok (.iload_n 1, 1) := by decide +kernel
theorem dH_stateUnderTrains_12 : decode cH_stateUnderTrains 12 = .ok (.iaload, 1) := by decide +kernel
theorem dH_stateUnderTrains_13 : decode cH_stateUnderTrains 13 = .ok (.ifCond .eq 13, 3) := by decide +kernel
theorem dH_stateUnderTrains_16 : decode cH_stateUnderTrains 16 = .ok (.aload_n 0, 1) := by decide +kernel
theorem dH_stateUnderTrains_17 : decode cH_stateUnderTrains 17 = .ok (.getfield 22, 3) := by decide +kernel
theorem dH_stateUnderTrains_20 : decode cH_stateUnderTrains 20 = .ok (.iload_n 1, 1) := by decide +kernel
theorem dH_stateUnderTrains_21 : decode cH_stateUnderTrains 21 = .ok (.iaload, 1) := by decide +kernel
theorem dH_stateUnderTrains_22 : decode cH_stateUnderTrains 22 = .ok (.iconst 1, 1) := by decide +kernel
theorem dH_stateUnderTrains_23 : decode cH_stateUnderTrains 23 = .ok (.if_icmp .ne 7, 3) := by decide +kernel
theorem dH_stateUnderTrains_26 : decode cH_stateUnderTrains 26 = .ok (.iconst 1, 1) := by decide +kernel
theorem dH_stateUnderTrains_27 : decode cH_stateUnderTrains 27 = .ok (.goto 4, 3) := by decide +kernel
theorem dH_stateUnderTrains_30 : decode cH_stateUnderTrains 30 = .ok (.iconst 0, 1) := by decide +kernel
theorem dH_stateUnderTrains_31 : decode cH_stateUnderTrains 31 = .ok (.istore_n 3, 1) := by decide +kernel
theorem dH_stateUnderTrains_32 : decode cH_stateUnderTrains 32 = .ok (.iload_n 2, 1) := by decide +kernel
theorem dH_stateUnderTrains_33 : decode cH_stateUnderTrains 33 = .ok (.iconst (-1), 1) := by decide +kernel
theorem dH_stateUnderTrains_34 : decode cH_stateUnderTrains 34 = .ok (.if_icmp .eq 23, 3) := by decide +kernel
theorem dH_stateUnderTrains_37 : decode cH_stateUnderTrains 37 = .ok (.aload_n 0, 1) := by decide +kernel
theorem dH_stateUnderTrains_38 : decode cH_stateUnderTrains 38 = .ok (.getfield 11, 3) := by decide +kernel
theorem dH_stateUnderTrains_41 : decode cH_stateUnderTrains 41 = .ok (.iload_n 2, 1) := by decide +kernel
theorem dH_stateUnderTrains_42 : decode cH_stateUnderTrains 42 = .ok (.aaload, 1) := by decide +kernel
theorem dH_stateUnderTrains_43 : decode cH_stateUnderTrains 43 = .ok (.getfield 122, 3) := by decide +kernel
theorem dH_stateUnderTrains_46 : decode cH_stateUnderTrains 46 = .ok (.ifCond .eq 11, 3) := by decide +kernel
theorem dH_stateUnderTrains_49 : decode cH_stateUnderTrains 49 = .ok (.iload_n 3, 1) := by decide +kernel
theorem dH_stateUnderTrains_50 : decode cH_stateUnderTrains 50 = .ok (.ifCond .eq 7, 3) := by decide +kernel
theorem dH_stateUnderTrains_53 : decode cH_stateUnderTrains 53 = .ok (.iconst 1, 1) := by decide +kernel
theorem dH_stateUnderTrains_54 : decode cH_stateUnderTrains 54 = .ok (.goto 4, 3) := by decide +kernel
theorem dH_stateUnderTrains_57 : decode cH_stateUnderTrains 57 = .ok (.iconst 0, 1) := by decide +kernel
theorem dH_stateUnderTrains_58 : decode cH_stateUnderTrains 58 = .ok (.istore 4, 2) := by decide +kernel
theorem dH_stateUnderTrains_60 : decode cH_stateUnderTrains 60 = .ok (.iload 4, 2) := by decide +kernel
theorem dH_stateUnderTrains_62 : decode cH_stateUnderTrains 62 = .ok (.ifCond .eq 7, 3) := by decide +kernel
theorem dH_stateUnderTrains_65 : decode cH_stateUnderTrains 65 = .ok (.iconst 1, 1) := by decide +kernel
theorem dH_stateUnderTrains_66 : decode cH_stateUnderTrains 66 = .ok (.goto 4, 3) := by decide +kernel
theorem dH_stateUnderTrains_69 : decode cH_stateUnderTrains 69 = .ok (.iconst 2, 1) := by decide +kernel
theorem dH_stateUnderTrains_70 : decode cH_stateUnderTrains 70 = .ok (.ireturn, 1) := by decide +kernel
theorem dH_staysFree_0 : decode cH_staysFree 0 = .ok (.iload_n 1, 1) := by decide +kernel
theorem dH_staysFree_1 : decode cH_staysFree 1 = .ok (.iload_n 1, 1) := by decide +kernel
theorem dH_staysFree_2 : decode cH_staysFree 2 = .ok (.iconst 3, 1) := by decide +kernel
theorem dH_staysFree_3 : decode cH_staysFree 3 = .ok (.irem, 1) := by decide +kernel
theorem dH_staysFree_4 : decode cH_staysFree 4 = .ok (.isub, 1) := by decide +kernel
theorem dH_staysFree_5 : decode cH_staysFree 5 = .ok (.istore_n 2, 1) := by decide +kernel
theorem dH_staysFree_6 : decode cH_staysFree 6 = .ok (.iload_n 2, 1) := by decide +kernel
theorem dH_staysFree_7 : decode cH_staysFree 7 = .ok (.iconst 3, 1) := by decide +kernel
theorem dH_staysFree_8 : decode cH_staysFree 8 = .ok (.iadd, 1) := by decide +kernel
theorem dH_staysFree_9 : decode cH_staysFree 9 = .ok (.iconst 1, 1) := by decide +kernel
theorem dH_staysFree_10 : decode cH_staysFree 10 = .ok (.isub, 1) := by decide +kernel
theorem dH_staysFree_11 : decode cH_staysFree 11 = .ok (.istore_n 3, 1) := by decide +kernel
theorem dH_staysFree_12 : decode cH_staysFree 12 = .ok (.aload_n 0, 1) := by decide +kernel
theorem dH_staysFree_13 : decode cH_staysFree 13 = .ok (.iload_n 2, 1) := by decide +kernel
theorem dH_staysFree_14 : decode cH_staysFree 14 = .ok (.iload_n 3, 1) := by decide +kernel
theorem dH_staysFree_15 : decode cH_staysFree 15 = .ok (.invokevirtual 213, 3) := by decide +kernel
theorem dH_staysFree_18 : decode cH_staysFree 18 = .ok (.ifCond .ne 12, 3) := by decide +kernel
theorem dH_staysFree_21 : decode cH_staysFree 21 = .ok (.aload_n 0, 1) := by decide +kernel
theorem dH_staysFree_22 : decode cH_staysFree 22 = .ok (.iload_n 2, 1) := by decide +kernel
theorem dH_staysFree_23 : decode cH_staysFree 23 = .ok (.iload_n 3, 1) := by decide +kernel
theorem dH_staysFree_24 : decode cH_staysFree 24 = .ok (.invokevirtual 198, 3) := by decide +kernel
theorem dH_staysFree_27 : decode cH_staysFree 27 = .ok (.ifCond .eq 7, 3) := by decide +kernel
theorem dH_staysFree_30 : decode cH_staysFree 30 = .ok (.iconst 1, 1) := by decide +kernel
theorem dH_staysFree_31 : decode cH_staysFree 31 = .ok (.goto 4, 3) := by decide +kernel
theorem dH_staysFree_34 : decode cH_staysFree 34 = .ok (.iconst 0, 1) := by decide +kernel
theorem dH_staysFree_35 : decode cH_staysFree 35 = .ok (.istore 4, 2) := by decide +kernel
theorem dH_staysFree_37 : decode cH_staysFree 37 = .ok (.iload 4, 2) := by decide +kernel
theorem dH_staysFree_39 : decode cH_staysFree 39 = .ok (.ifCond .eq 15, 3) := by decide +kernel
theorem dH_staysFree_42 : decode cH_staysFree 42 = .ok (.aload_n 0, 1) := by decide +kernel
theorem dH_staysFree_43 : decode cH_staysFree 43 = .ok (.iload_n 1, 1) := by decide +kernel
theorem dH_staysFree_44 : decode cH_staysFree 44 = .ok (.invokevirtual 216, 3) := by decide +kernel
theorem dH_staysFree_47 : decode cH_staysFree 47 = .ok (.ifCond .ne 7, 3) := by decide +kernel
theorem dH_staysFree_50 : decode cH_staysFree 50 = .ok (.iconst 1, 1) := by decide +kernel
theorem dH_staysFree_51 : decode cH_staysFree 51 = .ok (.goto 4, 3) := by decide +kernel
theorem dH_staysFree_54 : decode cH_staysFree 54 = .ok (.iconst 0, 1) := by decide +kernel
theorem dH_staysFree_55 : decode cH_staysFree 55 = .ok (.ireturn, 1) := by decide +kernel
theorem dH_isAnyTrainLocated_0 : decode cH_isAnyTrainLocated 0 = .ok (.iload_n 1, 1) := by decide +kernel
theorem dH_isAnyTrainLocated_1 : decode cH_isAnyTrainLocated 1 = .ok (.istore_n 3, 1) := by decide +kernel
theorem dH_isAnyTrainLocated_2 : decode cH_isAnyTrainLocated 2 = .ok (.iload_n 3, 1) := by decide +kernel
theorem dH_isAnyTrainLocated_3 : decode cH_isAnyTrainLocated 3 = .ok (.iload_n 2, 1) := by decide +kernel
theorem dH_isAnyTrainLocated_4 : decode cH_isAnyTrainLocated 4 = .ok (.if_icmp .gt 20, 3) := by decide +kernel
theorem dH_isAnyTrainLocated_7 : decode cH_isAnyTrainLocated 7 = .ok (.aload_n 0, 1) := by decide +kernel
theorem dH_isAnyTrainLocated_8 : decode cH_isAnyTrainLocated 8 = .ok (.getfield 26, 3) := by decide +kernel
theorem dH_isAnyTrainLocated_11 : decode cH_isAnyTrainLocated 11 = .ok (.iload_n 3, 1) := by decide +kernel
theorem dH_isAnyTrainLocated_12 : decode cH_isAnyTrainLocated 12 = .ok (.iaload, 1) := by decide +kernel
theorem dH_isAnyTrainLocated_13 : decode cH_isAnyTrainLocated 13 = .ok (.ifCond .le 5, 3) := by decide +kernel
theorem dH_isAnyTrainLocated_16 : decode cH_isAnyTrainLocated 16 = .ok (.iconst 1, 1) := by decide +kernel
theorem dH_isAnyTrainLocated_17 : decode cH_isAnyTrainLocated 17 = .ok (.ireturn, 1) := by decide +kernel
theorem dH_isAnyTrainLocated_18 : decode cH_isAnyTrainLocated 18 = .ok (.iinc 3 1, 3) := by decide +kernel
theorem dH_isAnyTrainLocated_21 : decode cH_isAnyTrainLocated 21 = .ok (.goto (-19), 3) := by decide +kernel
theorem dH_isAnyTrainLocated_24 : decode cH_isAnyTrainLocated 24 = .ok (.iconst 0, 1) := by decide +kernel
theorem dH_isAnyTrainLocated_25 : decode cH_isAnyTrainLocated 25 = .ok (.ireturn, 1) := by decide +kernel
theorem dH_wasLeftByBrokenTrain_0 : decode cH_wasLeftByBrokenTrain 0 = .ok (.iconst 0, 1) := by decide +kernel
theorem dH_wasLeftByBrokenTrain_1 : decode cH_wasLeftByBrokenTrain 1 = .ok (.istore_n 2, 1) := by decide +kernel
theorem dH_wasLeftByBrokenTrain_2 : decode cH_wasLeftByBrokenTrain 2 = .ok (.iload_n 2, 1) := by decide +kernel
theorem dH_wasLeftByBrokenTrain_3 : decode cH_wasLeftByBrokenTrain 3 = .ok (.aload_n 0, 1) := by decide +kernel
theorem dH_wasLeftByBrokenTrain_4 : decode cH_wasLeftByBrokenTrain 4 = .ok (.getfield 15, 3) := by decide +kernel
theorem dH_wasLeftByBrokenTrain_7 : decode cH_wasLeftByBrokenTrain 7 = .ok (.if_icmp .ge 47, 3) := by decide +kernel
theorem dH_wasLeftByBrokenTrain_10 : decode cH_wasLeftByBrokenTrain 10 = .ok (.aload_n 0, 1) := by decide +kernel
theorem dH_wasLeftByBrokenTrain_11 : decode cH_wasLeftByBrokenTrain 11 = .ok (.getfield 11, 3) := by decide +kernel
theorem dH_wasLeftByBrokenTrain_14 : decode cH_wasLeftByBrokenTrain 14 = .ok (.iload_n 2, 1) := by decide +kernel
theorem dH_wasLeftByBrokenTrain_15 : decode cH_wasLeftByBrokenTrain 15 = .ok (.aaload, 1) := by decide +kernel
theorem dH_wasLeftByBrokenTrain_16 : decode cH_wasLeftByBrokenTrain 16 = .ok (.astore_n 3, 1) := by decide +kernel
theorem dH_wasLeftByBrokenTrain_17 : decode cH_wasLeftByBrokenTrain 17 = .ok (.aload_n 3, 1) := by decide +kernel
theorem dH_wasLeftByBrokenTrain_18 : decode cH_wasLeftByBrokenTrain 18 = .ok (.getfield 131, 3) := by decide +kernel
theorem dH_wasLeftByBrokenTrain_21 : decode cH_wasLeftByBrokenTrain 21 = .ok (.ifCond .eq 27, 3) := by decide +kernel
theorem dH_wasLeftByBrokenTrain_24 : decode cH_wasLeftByBrokenTrain 24 = .ok (.aload_n 3, 1) := by decide +kernel
theorem dH_wasLeftByBrokenTrain_25 : decode cH_wasLeftByBrokenTrain 25 = .ok (.getfield 163, 3) := by decide +kernel
theorem dH_wasLeftByBrokenTrain_28 : decode cH_wasLeftByBrokenTrain 28 = .ok (.ifCond .ne 20, 3) := by decide +kernel
theorem dH_wasLeftByBrokenTrain_31 : decode cH_wasLeftByBrokenTrain 31 = .ok (.aload_n 3, 1) := by decide +kernel
theorem dH_wasLeftByBrokenTrain_32 : decode cH_wasLeftByBrokenTrain 32 = .ok (.getfield 122, 3) := by decide +kernel
theorem dH_wasLeftByBrokenTrain_35 : decode cH_wasLeftByBrokenTrain 35 = .ok (.ifCond .ne 13, 3) := by decide +kernel
theorem dH_wasLeftByBrokenTrain_38 : decode cH_wasLeftByBrokenTrain 38 = .ok (.aload_n 3, 1) := by decide +kernel
theorem dH_wasLeftByBrokenTrain_39 : decode cH_wasLeftByBrokenTrain 39 = .ok (.iload_n 1, 1) := by decide +kernel
theorem dH_wasLeftByBrokenTrain_40 : decode cH_wasLeftByBrokenTrain 40 = .ok (.invokevirtual 219, 3) := by decide +kernel
theorem dH_wasLeftByBrokenTrain_43 : decode cH_wasLeftByBrokenTrain 43 = .ok (.ifCond .eq 5, 3) := by decide +kernel
theorem dH_wasLeftByBrokenTrain_46 : decode cH_wasLeftByBrokenTrain 46 = .ok (.iconst 1, 1) := by decide +kernel
theorem dH_wasLeftByBrokenTrain_47 : decode cH_wasLeftByBrokenTrain 47 = .ok (.ireturn, 1) := by decide +kernel
theorem dH_wasLeftByBrokenTrain_48 : decode cH_wasLeftByBrokenTrain 48 = .ok (.iinc 2 1, 3) := by decide +kernel
theorem dH_wasLeftByBrokenTrain_51 : decode cH_wasLeftByBrokenTrain 51 = .ok (.goto (-49), 3) := by decide +kernel
theorem dH_wasLeftByBrokenTrain_54 : decode cH_wasLeftByBrokenTrain 54 = .ok (.iconst 0, 1) := by decide +kernel
theorem dH_wasLeftByBrokenTrain_55 : decode cH_wasLeftByBrokenTrain 55 = .ok (.ireturn, 1) := by decide +kernel
theorem dH_wasLeftByWholeTrain_0 : decode cH_wasLeftByWholeTrain 0 = .ok (.aload_n 0, 1) := by decide +kernel
theorem dH_wasLeftByWholeTrain_1 : decode cH_wasLeftByWholeTrain 1 = .ok (.getfield 32, 3) := by decide +kernel
theorem dH_wasLeftByWholeTrain_4 : decode cH_wasLeftByWholeTrain 4 = .ok (.iload_n 1, 1) := by decide +kernel
theorem dH_wasLeftByWholeTrain_5 : decode cH_wasLeftByWholeTrain 5 = .ok (.iaload, 1) := by decide +kernel
theorem dH_wasLeftByWholeTrain_6 : decode cH_wasLeftByWholeTrain 6 = .ok (.istore_n 2, 1) := by decide +kernel
theorem dH_wasLeftByWholeTrain_7 : decode cH_wasLeftByWholeTrain 7 = .ok (.iload_n 2, 1) := by decide +kernel
theorem dH_wasLeftByWholeTrain_8 : decode cH_wasLeftByWholeTrain 8 = .ok (.iconst (-1), 1) := by decide +kernel
theorem dH_wasLeftByWholeTrain_9 : decode cH_wasLeftByWholeTrain 9 = .ok (.if_icmp .eq 31, 3) := by decide +kernel
theorem dH_wasLeftByWholeTrain_12 : decode cH_wasLeftByWholeTrain 12 = .ok (.aload_n 0, 1) := by decide +kernel
theorem dH_wasLeftByWholeTrain_13 : decode cH_wasLeftByWholeTrain 13 = .ok (.getfield 11, 3) := by decide +kernel
theorem dH_wasLeftByWholeTrain_16 : decode cH_wasLeftByWholeTrain 16 = .ok (.iload_n 2, 1) := by decide +kernel
theorem dH_wasLeftByWholeTrain_17 : decode cH_wasLeftByWholeTrain 17 = .ok (.aaload, 1) := by decide +kernel
theorem dH_wasLeftByWholeTrain_18 : decode cH_wasLeftByWholeTrain 18 = .ok (.getfield 163, 3) := by decide +kernel
theorem dH_wasLeftByWholeTrain_21 : decode cH_wasLeftByWholeTrain 21 = .ok (.ifCond .ne 19, 3) := by decide +kernel
theorem dH_wasLeftByWholeTrain_24 : decode cH_wasLeftByWholeTrain 24 = .ok (.aload_n 0, 1) := by decide +kernel
theorem dH_wasLeftByWholeTrain_25 : decode cH_wasLeftByWholeTrain 25 = .ok (.getfield 11, 3) := by decide +kernel
theorem dH_wasLeftByWholeTrain_28 : decode cH_wasLeftByWholeTrain 28 = .ok (.iload_n 2, 1) := by decide +kernel
theorem dH_wasLeftByWholeTrain_29 : decode cH_wasLeftByWholeTrain 29 = .ok (.aaload, 1) := by decide +kernel
theorem dH_wasLeftByWholeTrain_30 : decode cH_wasLeftByWholeTrain 30 = .ok (.getfield 122, 3) := by decide +kernel
theorem dH_wasLeftByWholeTrain_33 : decode cH_wasLeftByWholeTrain 33 = .ok (.ifCond .eq 7, 3) := by decide +kernel
theorem dH_wasLeftByWholeTrain_36 : decode cH_wasLeftByWholeTrain 36 = .ok (.iconst 1, 1) := by decide +kernel
theorem dH_wasLeftByWholeTrain_37 : decode cH_wasLeftByWholeTrain 37 = .ok (.goto 4, 3) := by decide +kernel
theorem dH_wasLeftByWholeTrain_40 : decode cH_wasLeftByWholeTrain 40 = .ok (.iconst 0, 1) := by decide +kernel
theorem dH_wasLeftByWholeTrain_41 : decode cH_wasLeftByWholeTrain 41 = .ok (.ireturn, 1) := by decide +kernel
end
section
theorem dL_enter_0 : decode cL_enter 0 = .ok (.aload_n 3, 1) := by decide +kernel
theorem dL_enter_1 : decode cL_enter 1 = .ok (.iconst 0, 1) := by decide +kernel
theorem dL_enter_2 : decode cL_enter 2 = .ok (.aload_n 0, 1) := by decide +kernel
theorem dL_enter_3 : decode cL_enter 3 = .ok (.iload_n 1, 1) := by decide +kernel
theorem dL_enter_4 : decode cL_enter 4 = .ok (.iload_n 2, 1) := by decide +kernel
theorem dL_enter_5 : decode cL_enter 5 = .ok (.invokevirtual 7, 3) := by decide +kernel
theorem dL_enter_8 : decode cL_enter 8 = .ok (.i2l, 1) := by decide +kernel
theorem dL_enter_9 : decode cL_enter 9 = .ok (.lastore, 1) := by decide +kernel
theorem dL_enter_10 : decode cL_enter 10 = .ok (.goto 11, 3) := by decide +kernel
theorem dL_enter_13 : decode cL_enter 13 = .ok (.astore 4, 2) := by decide +kernel
theorem dL_enter_15 : decode cL_enter 15 = .ok (.iconst 1, 1) := by decide +kernel
theorem dL_enter_16 : decode cL_enter 16 = .ok (.ireturn, 1) := by decide +kernel
theorem dL_enter_17 : decode cL_enter 17 = .ok (.astore 4, 2) := by decide +kernel
theorem dL_enter_19 : decode cL_enter 19 = .ok (.iconst 2, 1) := by decide +kernel
theorem dL_enter_20 : decode cL_enter 20 = .ok (.ireturn, 1) := by decide +kernel
theorem dL_enter_21 : decode cL_enter 21 = .ok (.iconst 0, 1) := by decide +kernel
theorem dL_enter_22 : decode cL_enter 22 = .ok (.ireturn, 1) := by decide +kernel
theorem dL_drive_0 : decode cL_drive 0 = .ok (.aload_n 3, 1) := by decide +kernel
theorem dL_drive_1 : decode cL_drive 1 = .ok (.iconst 0, 1) := by decide +kernel
theorem dL_drive_2 : decode cL_drive 2 = .ok (.aload_n 0, 1) := by decide +kernel
theorem dL_drive_3 : decode cL_drive 3 = .ok (.iload_n 1, 1) := by decide +kernel
theorem dL_drive_4 : decode cL_drive 4 = .ok (.iload_n 2, 1) := by decide +kernel
theorem dL_drive_5 : decode cL_drive 5 = .ok (.invokevirtual 17, 3) := by decide +kernel
theorem dL_drive_8 : decode cL_drive 8 = .ok (.i2l, 1) := by decide +kernel
theorem dL_drive_9 : decode cL_drive 9 = .ok (.lastore, 1) := by decide +kernel
theorem dL_drive_10 : decode cL_drive 10 = .ok (.goto 11, 3) := by decide +kernel
theorem dL_drive_13 : decode cL_drive 13 = .ok (.astore 4, 2) := by decide +kernel
theorem dL_drive_15 : decode cL_drive 15 = .ok (.iconst 1, 1) := by decide +kernel
theorem dL_drive_16 : decode cL_drive 16 = .ok (.ireturn, 1) := by decide +kernel
theorem dL_drive_17 : decode cL_drive 17 = .ok (.astore 4, 2) := by decide +kernel
theorem dL_drive_19 : decode cL_drive 19 = .ok (.iconst 2, 1) := by decide +kernel
theorem dL_drive_20 : decode cL_drive 20 = .ok (.ireturn, 1) := by decide +kernel
theorem dL_drive_21 : decode cL_drive 21 = .ok (.iconst 0, 1) := by decide +kernel
theorem dL_drive_22 : decode cL_drive 22 = .ok (.ireturn, 1) := by decide +kernel
theorem dL_silence_0 : decode cL_silence 0 = .ok (.aload_n 3, 1) := by decide +kernel
theorem dL_silence_1 : decode cL_silence 1 = .ok (.iconst 0, 1) := by decide +kernel
theorem dL_silence_2 : decode cL_silence 2 = .ok (.aload_n 0, 1) := by decide +kernel
theorem dL_silence_3 : decode cL_silence 3 = .ok (.iload_n 1, 1) := by decide +kernel
theorem dL_silence_4 : decode cL_silence 4 = .ok (.iload_n 2, 1) := by decide +kernel
theorem dL_silence_5 : decode cL_silence 5 = .ok (.invokevirtual 22, 3) := by decide +kernel
theorem dL_silence_8 : decode cL_silence 8 = .ok (.i2l, 1) := by decide +kernel
theorem dL_silence_9 : decode cL_silence 9 = .ok (.lastore, 1) := by decide +kernel
theorem dL_silence_10 : decode cL_silence 10 = .ok (.goto 7, 3) := by decide +kernel
theorem dL_silence_13 : decode cL_silence 13 = .ok (.astore 4, 2) := by decide +kernel
theorem dL_silence_15 : decode cL_silence 15 = .ok (.iconst 1, 1) := by decide +kernel
theorem dL_silence_16 : decode cL_silence 16 = .ok (.ireturn, 1) := by decide +kernel
theorem dL_silence_17 : decode cL_silence 17 = .ok (.iconst 0, 1) := by decide +kernel
theorem dL_silence_18 : decode cL_silence 18 = .ok (.ireturn, 1) := by decide +kernel
theorem dL_authorise_0 : decode cL_authorise 0 = .ok (.aload_n 2, 1) := by decide +kernel
theorem dL_authorise_1 : decode cL_authorise 1 = .ok (.iconst 0, 1) := by decide +kernel
theorem dL_authorise_2 : decode cL_authorise 2 = .ok (.aload_n 0, 1) := by decide +kernel
theorem dL_authorise_3 : decode cL_authorise 3 = .ok (.iload_n 1, 1) := by decide +kernel
theorem dL_authorise_4 : decode cL_authorise 4 = .ok (.invokevirtual 26, 3) := by decide +kernel
theorem dL_authorise_7 : decode cL_authorise 7 = .ok (.i2l, 1) := by decide +kernel
theorem dL_authorise_8 : decode cL_authorise 8 = .ok (.lastore, 1) := by decide +kernel
theorem dL_authorise_9 : decode cL_authorise 9 = .ok (.goto 9, 3) := by decide +kernel
theorem dL_authorise_12 : decode cL_authorise 12 = .ok (.astore_n 3, 1) := by decide +kernel
theorem dL_authorise_13 : decode cL_authorise 13 = .ok (.iconst 1, 1) := by decide +kernel
theorem dL_authorise_14 : decode cL_authorise 14 = .ok (.ireturn, 1) := by decide +kernel
theorem dL_authorise_15 : decode cL_authorise 15 = .ok (.astore_n 3, 1) := by decide +kernel
theorem dL_authorise_16 : decode cL_authorise 16 = .ok (.iconst 2, 1) := by decide +kernel
theorem dL_authorise_17 : decode cL_authorise 17 = .ok (.ireturn, 1) := by decide +kernel
theorem dL_authorise_18 : decode cL_authorise 18 = .ok (.iconst 0, 1) := by decide +kernel
theorem dL_authorise_19 : decode cL_authorise 19 = .ok (.ireturn, 1) := by decide +kernel
theorem dL_relent_0 : decode cL_relent 0 = .ok (.aload_n 2, 1) := by decide +kernel
theorem dL_relent_1 : decode cL_relent 1 = .ok (.iconst 0, 1) := by decide +kernel
theorem dL_relent_2 : decode cL_relent 2 = .ok (.aload_n 0, 1) := by decide +kernel
theorem dL_relent_3 : decode cL_relent 3 = .ok (.iload_n 1, 1) := by decide +kernel
theorem dL_relent_4 : decode cL_relent 4 = .ok (.invokevirtual 30, 3) := by decide +kernel
theorem dL_relent_7 : decode cL_relent 7 = .ok (.i2l, 1) := by decide +kernel
theorem dL_relent_8 : decode cL_relent 8 = .ok (.lastore, 1) := by decide +kernel
theorem dL_relent_9 : decode cL_relent 9 = .ok (.goto 9, 3) := by decide +kernel
theorem dL_relent_12 : decode cL_relent 12 = .ok (.astore_n 3, 1) := by decide +kernel
theorem dL_relent_13 : decode cL_relent 13 = .ok (.iconst 1, 1) := by decide +kernel
theorem dL_relent_14 : decode cL_relent 14 = .ok (.ireturn, 1) := by decide +kernel
theorem dL_relent_15 : decode cL_relent 15 = .ok (.astore_n 3, 1) := by decide +kernel
theorem dL_relent_16 : decode cL_relent 16 = .ok (.iconst 2, 1) := by decide +kernel
theorem dL_relent_17 : decode cL_relent 17 = .ok (.ireturn, 1) := by decide +kernel
theorem dL_relent_18 : decode cL_relent 18 = .ok (.iconst 0, 1) := by decide +kernel
theorem dL_relent_19 : decode cL_relent 19 = .ok (.ireturn, 1) := by decide +kernel
theorem dL_lose_0 : decode cL_lose 0 = .ok (.aload_n 3, 1) := by decide +kernel
theorem dL_lose_1 : decode cL_lose 1 = .ok (.iconst 0, 1) := by decide +kernel
theorem dL_lose_2 : decode cL_lose 2 = .ok (.aload_n 0, 1) := by decide +kernel
theorem dL_lose_3 : decode cL_lose 3 = .ok (.iload_n 1, 1) := by decide +kernel
theorem dL_lose_4 : decode cL_lose 4 = .ok (.iload_n 2, 1) := by decide +kernel
theorem dL_lose_5 : decode cL_lose 5 = .ok (.invokevirtual 33, 3) := by decide +kernel
theorem dL_lose_8 : decode cL_lose 8 = .ok (.i2l, 1) := by decide +kernel
theorem dL_lose_9 : decode cL_lose 9 = .ok (.lastore, 1) := by decide +kernel
theorem dL_lose_10 : decode cL_lose 10 = .ok (.goto 15, 3) := by decide +kernel
theorem dL_lose_13 : decode cL_lose 13 = .ok (.astore 4, 2) := by decide +kernel
theorem dL_lose_15 : decode cL_lose 15 = .ok (.iconst 1, 1) := by decide +kernel
theorem dL_lose_16 : decode cL_lose 16 = .ok (.ireturn, 1) := by decide +kernel
theorem dL_lose_17 : decode cL_lose 17 = .ok (.astore 4, 2) := by decide +kernel
theorem dL_lose_19 : decode cL_lose 19 = .ok (.iconst 2, 1) := by decide +kernel
theorem dL_lose_20 : decode cL_lose 20 = .ok (.ireturn, 1) := by decide +kernel
theorem dL_lose_21 : decode cL_lose 21 = .ok (.astore 4, 2) := by decide +kernel
theorem dL_lose_23 : decode cL_lose 23 = .ok (.iconst 3, 1) := by decide +kernel
theorem dL_lose_24 : decode cL_lose 24 = .ok (.ireturn, 1) := by decide +kernel
theorem dL_lose_25 : decode cL_lose 25 = .ok (.iconst 0, 1) := by decide +kernel
theorem dL_lose_26 : decode cL_lose 26 = .ok (.ireturn, 1) := by decide +kernel
theorem dL_confirm_0 : decode cL_confirm 0 = .ok (.aload_n 2, 1) := by decide +kernel
theorem dL_confirm_1 : decode cL_confirm 1 = .ok (.iconst 0, 1) := by decide +kernel
theorem dL_confirm_2 : decode cL_confirm 2 = .ok (.aload_n 0, 1) := by decide +kernel
theorem dL_confirm_3 : decode cL_confirm 3 = .ok (.iload_n 1, 1) := by decide +kernel
theorem dL_confirm_4 : decode cL_confirm 4 = .ok (.invokevirtual 36, 3) := by decide +kernel
theorem dL_confirm_7 : decode cL_confirm 7 = .ok (.i2l, 1) := by decide +kernel
theorem dL_confirm_8 : decode cL_confirm 8 = .ok (.lastore, 1) := by decide +kernel
theorem dL_confirm_9 : decode cL_confirm 9 = .ok (.goto 9, 3) := by decide +kernel
theorem dL_confirm_12 : decode cL_confirm 12 = .ok (.astore_n 3, 1) := by decide +kernel
theorem dL_confirm_13 : decode cL_confirm 13 = .ok (.iconst 1, 1) := by decide +kernel
theorem dL_confirm_14 : decode cL_confirm 14 = .ok (.ireturn, 1) := by decide +kernel
theorem dL_confirm_15 : decode cL_confirm 15 = .ok (.astore_n 3, 1) := by decide +kernel
theorem dL_confirm_16 : decode cL_confirm 16 = .ok (.iconst 2, 1) := by decide +kernel
theorem dL_confirm_17 : decode cL_confirm 17 = .ok (.ireturn, 1) := by decide +kernel
theorem dL_confirm_18 : decode cL_confirm 18 = .ok (.iconst 0, 1) := by decide +kernel
theorem dL_confirm_19 : decode cL_confirm 19 = .ok (.ireturn, 1) := by decide +kernel
theorem dL_clear_0 : decode cL_clear 0 = .ok (.aload_n 2, 1) := by decide +kernel
theorem dL_clear_1 : decode cL_clear 1 = .ok (.iconst 0, 1) := by decide +kernel
theorem dL_clear_2 : decode cL_clear 2 = .ok (.aload_n 0, 1) := by decide +kernel
theorem dL_clear_3 : decode cL_clear 3 = .ok (.iload_n 1, 1) := by decide +kernel
theorem dL_clear_4 : decode cL_clear 4 = .ok (.invokevirtual 39, 3) := by decide +kernel
theorem dL_clear_7 : decode cL_clear 7 = .ok (.i2l, 1) := by decide +kernel
theorem dL_clear_8 : decode cL_clear 8 = .ok (.lastore, 1) := by decide +kernel
theorem dL_clear_9 : decode cL_clear 9 = .ok (.goto 6, 3) := by decide +kernel
theorem dL_clear_12 : decode cL_clear 12 = .ok (.astore_n 3, 1) := by decide +kernel
theorem dL_clear_13 : decode cL_clear 13 = .ok (.iconst 1, 1) := by decide +kernel
theorem dL_clear_14 : decode cL_clear 14 = .ok (.ireturn, 1) := by decide +kernel
theorem dL_clear_15 : decode cL_clear 15 = .ok (.iconst 0, 1) := by decide +kernel
theorem dL_clear_16 : decode cL_clear 16 = .ok (.ireturn, 1) := by decide +kernel
theorem dL_tick_0 : decode cL_tick 0 = .ok (.aload_n 2, 1) := by decide +kernel
theorem dL_tick_1 : decode cL_tick 1 = .ok (.iconst 0, 1) := by decide +kernel
theorem dL_tick_2 : decode cL_tick 2 = .ok (.aload_n 0, 1) := by decide +kernel
theorem dL_tick_3 : decode cL_tick 3 = .ok (.iload_n 1, 1) := by decide +kernel
theorem dL_tick_4 : decode cL_tick 4 = .ok (.invokevirtual 42, 3) := by decide +kernel
theorem dL_tick_7 : decode cL_tick 7 = .ok (.i2l, 1) := by decide +kernel
theorem dL_tick_8 : decode cL_tick 8 = .ok (.lastore, 1) := by decide +kernel
theorem dL_tick_9 : decode cL_tick 9 = .ok (.goto 6, 3) := by decide +kernel
theorem dL_tick_12 : decode cL_tick 12 = .ok (.astore_n 3, 1) := by decide +kernel
theorem dL_tick_13 : decode cL_tick 13 = .ok (.iconst 1, 1) := by decide +kernel
theorem dL_tick_14 : decode cL_tick 14 = .ok (.ireturn, 1) := by decide +kernel
theorem dL_tick_15 : decode cL_tick 15 = .ok (.iconst 0, 1) := by decide +kernel
theorem dL_tick_16 : decode cL_tick 16 = .ok (.ireturn, 1) := by decide +kernel
theorem dL_state_0 : decode cL_state 0 = .ok (.aload_n 2, 1) := by decide +kernel
theorem dL_state_1 : decode cL_state 1 = .ok (.iconst 0, 1) := by decide +kernel
theorem dL_state_2 : decode cL_state 2 = .ok (.aload_n 0, 1) := by decide +kernel
theorem dL_state_3 : decode cL_state 3 = .ok (.iload_n 1, 1) := by decide +kernel
theorem dL_state_4 : decode cL_state 4 = .ok (.invokevirtual 45, 3) := by decide +kernel
theorem dL_state_7 : decode cL_state 7 = .ok (.i2l, 1) := by decide +kernel
theorem dL_state_8 : decode cL_state 8 = .ok (.lastore, 1) := by decide +kernel
theorem dL_state_9 : decode cL_state 9 = .ok (.goto 6, 3) := by decide +kernel
theorem dL_state_12 : decode cL_state 12 = .ok (.astore_n 3, 1) := by decide +kernel
theorem dL_state_13 : decode cL_state 13 = .ok (.iconst 1, 1) := by decide +kernel
theorem dL_state_14 : decode cL_state 14 = .ok (.ireturn, 1) := by decide +kernel
theorem dL_state_15 : decode cL_state 15 = .ok (.iconst 0, 1) := by decide +kernel
theorem dL_state_16 : decode cL_state 16 = .ok (.ireturn, 1) := by decide +kernel
theorem dL_detected_0 : decode cL_detected 0 = .ok (.aload_n 2, 1) := by decide +kernel
theorem dL_detected_1 : decode cL_detected 1 = .ok (.iconst 0, 1) := by decide +kernel
theorem dL_detected_2 : decode cL_detected 2 = .ok (.aload_n 0, 1) := by decide +kernel
theorem dL_detected_3 : decode cL_detected 3 = .ok (.iload_n 1, 1) := by decide +kernel
theorem dL_detected_4 : decode cL_detected 4 = .ok (.invokevirtual 48, 3) := by decide +kernel
theorem dL_detected_7 : decode cL_detected 7 = .ok (.i2l, 1) := by decide +kernel
theorem dL_detected_8 : decode cL_detected 8 = .ok (.lastore, 1) := by decide +kernel
theorem dL_detected_9 : decode cL_detected 9 = .ok (.goto 6, 3) := by decide +kernel
theorem dL_detected_12 : decode cL_detected 12 = .ok (.astore_n 3, 1) := by decide +kernel
theorem dL_detected_13 : decode cL_detected 13 = .ok (.iconst 1, 1) := by decide +kernel
theorem dL_detected_14 : decode cL_detected 14 = .ok (.ireturn, 1) := by decide +kernel
theorem dL_detected_15 : decode cL_detected 15 = .ok (.iconst 0, 1) := by decide +kernel
theorem dL_detected_16 : decode cL_detected 16 = .ok (.ireturn, 1) := by decide +kernel
theorem dL_vehicle_0 : decode cL_vehicle 0 = .ok (.aload_n 3, 1) := by decide +kernel
theorem dL_vehicle_1 : decode cL_vehicle 1 = .ok (.iconst 0, 1) := by decide +kernel
theorem dL_vehicle_2 : decode cL_vehicle 2 = .ok (.aload_n 0, 1) := by decide +kernel
theorem dL_vehicle_3 : decode cL_vehicle 3 = .ok (.iload_n 1, 1) := by decide +kernel
theorem dL_vehicle_4 : decode cL_vehicle 4 = .ok (.iload_n 2, 1) := by decide +kernel
theorem dL_vehicle_5 : decode cL_vehicle 5 = .ok (.invokevirtual 51, 3) := by decide +kernel
theorem dL_vehicle_8 : decode cL_vehicle 8 = .ok (.i2l, 1) := by decide +kernel
theorem dL_vehicle_9 : decode cL_vehicle 9 = .ok (.lastore, 1) := by decide +kernel
theorem dL_vehicle_10 : decode cL_vehicle 10 = .ok (.goto 11, 3) := by decide +kernel
theorem dL_vehicle_13 : decode cL_vehicle 13 = .ok (.astore 4, 2) := by decide +kernel
theorem dL_vehicle_15 : decode cL_vehicle 15 = .ok (.iconst 1, 1) := by decide +kernel
theorem dL_vehicle_16 : decode cL_vehicle 16 = .ok (.ireturn, 1) := by decide +kernel
theorem dL_vehicle_17 : decode cL_vehicle 17 = .ok (.astore 4, 2) := by decide +kernel
theorem dL_vehicle_19 : decode cL_vehicle 19 = .ok (.iconst 2, 1) := by decide +kernel
theorem dL_vehicle_20 : decode cL_vehicle 20 = .ok (.ireturn, 1) := by decide +kernel
theorem dL_vehicle_21 : decode cL_vehicle 21 = .ok (.iconst 0, 1) := by decide +kernel
theorem dL_vehicle_22 : decode cL_vehicle 22 = .ok (.ireturn, 1) := by decide +kernel
theorem dL_count_0 : decode cL_count 0 = .ok (.aload_n 2, 1) := by decide +kernel
theorem dL_count_1 : decode cL_count 1 = .ok (.iconst 0, 1) := by decide +kernel
theorem dL_count_2 : decode cL_count 2 = .ok (.aload_n 0, 1) := by decide +kernel
theorem dL_count_3 : decode cL_count 3 = .ok (.iload_n 1, 1) := by decide +kernel
theorem dL_count_4 : decode cL_count 4 = .ok (.invokevirtual 54, 3) := by decide +kernel
theorem dL_count_7 : decode cL_count 7 = .ok (.i2l, 1) := by decide +kernel
theorem dL_count_8 : decode cL_count 8 = .ok (.lastore, 1) := by decide +kernel
theorem dL_count_9 : decode cL_count 9 = .ok (.goto 6, 3) := by decide +kernel
theorem dL_count_12 : decode cL_count 12 = .ok (.astore_n 3, 1) := by decide +kernel
theorem dL_count_13 : decode cL_count 13 = .ok (.iconst 1, 1) := by decide +kernel
theorem dL_count_14 : decode cL_count 14 = .ok (.ireturn, 1) := by decide +kernel
theorem dL_count_15 : decode cL_count 15 = .ok (.iconst 0, 1) := by decide +kernel
theorem dL_count_16 : decode cL_count 16 = .ok (.ireturn, 1) := by decide +kernel
end
section
theorem dL_law_0 : decode cL_law 0 = .ok (.new 8, 3) := by decide +kernel
theorem dL_law_3 : decode cL_law 3 = .ok (.dup, 1) := by decide +kernel
theorem dL_law_4 : decode cL_law 4 = .ok (.invokespecial 57, 3) := by decide +kernel
theorem dL_law_7 : decode cL_law 7 = .ok (.astore_n 1, 1) := by decide +kernel
theorem dL_law_8 : decode cL_law 8 = .ok (.new 58, 3) := by decide +kernel
theorem dL_law_11 : decode cL_law 11 = .ok (.dup, 1) := by decide +kernel
theorem dL_law_12 : decode cL_law 12 = .ok (.invokespecial 60, 3) := by decide +kernel
theorem dL_law_15 : decode cL_law 15 = .ok (.astore_n 2, 1) := by decide +kernel
theorem dL_law_16 : decode cL_law 16 = .ok (.iconst 1, 1) := by decide +kernel
theorem dL_law_17 : decode cL_law 17 = .ok (.newarray .long, 2) := by decide +kernel
theorem dL_law_19 : decode cL_law 19 = .ok (.astore_n 3, 1) := by decide +kernel
theorem dL_law_20 : decode cL_law 20 = .ok (.iconst 0, 1) := by decide +kernel
theorem dL_law_21 : decode cL_law 21 = .ok (.istore 4, 2) := by decide +kernel
theorem dL_law_23 : decode cL_law 23 = .ok (.iload 4, 2) := by decide +kernel
theorem dL_law_25 : decode cL_law 25 = .ok (.aload_n 0, 1) := by decide +kernel
theorem dL_law_26 : decode cL_law 26 = .ok (.arraylength, 1) := by decide +kernel
theorem dL_law_27 : decode cL_law 27 = .ok (.iconst 3, 1) := by decide +kernel
theorem dL_law_28 : decode cL_law 28 = .ok (.isub, 1) := by decide +kernel
theorem dL_law_29 : decode cL_law 29 = .ok (.if_icmp .gt 885, 3) := by decide +kernel
theorem dL_law_32 : decode cL_law 32 = .ok (.aload_n 0, 1) := by decide +kernel
theorem dL_law_33 : decode cL_law 33 = .ok (.iload 4, 2) := by decide +kernel
theorem dL_law_35 : decode cL_law 35 = .ok (.iaload, 1) := by decide +kernel
theorem dL_law_36 : decode cL_law 36 = .ok (.bipush 15, 2) := by decide +kernel
theorem dL_law_38 : decode cL_law 38 = .ok (.iand, 1) := by decide +kernel
theorem dL_law_39 : decode cL_law 39 = .ok (.tableswitch 869 0 12 #[65, 133, 201, 285, 341, 397, 465, 521, 577, 633, 689, 745, 813], 65) := by decide +kernel
theorem dL_law_104 : decode cL_law 104 = .ok (.aload_n 1, 1) := by decide +kernel
theorem dL_law_105 : decode cL_law 105 = .ok (.aload_n 0, 1) := by decide +kernel
theorem dL_law_106 : decode cL_law 106 = .ok (.iload 4, 2) := by decide +kernel
theorem dL_law_108 : decode cL_law 108 = .ok (.iconst 1, 1) := by decide +kernel
theorem dL_law_109 : decode cL_law 109 = .ok (.iadd, 1) := by decide +kernel
theorem dL_law_110 : decode cL_law 110 = .ok (.iaload, 1) := by decide +kernel
theorem dL_law_111 : decode cL_law 111 = .ok (.aload_n 0, 1) := by decide +kernel
theorem dL_law_112 : decode cL_law 112 = .ok (.iload 4, 2) := by decide +kernel
theorem dL_law_114 : decode cL_law 114 = .ok (.iconst 2, 1) := by decide +kernel
theorem dL_law_115 : decode cL_law 115 = .ok (.iadd, 1) := by decide +kernel
theorem dL_law_116 : decode cL_law 116 = .ok (.iaload, 1) := by decide +kernel
theorem dL_law_117 : decode cL_law 117 = .ok (.aload_n 3, 1) := by decide +kernel
theorem dL_law_118 : decode cL_law 118 = .ok (.invokestatic 61, 3) := by decide +kernel
theorem dL_law_121 : decode cL_law 121 = .ok (.istore 5, 2) := by decide +kernel
theorem dL_law_123 : decode cL_law 123 = .ok (.aload_n 2, 1) := by decide +kernel
theorem dL_law_124 : decode cL_law 124 = .ok (.aload_n 0, 1) := by decide +kernel
theorem dL_law_125 : decode cL_law 125 = .ok (.iload 4, 2) := by decide +kernel
theorem dL_law_127 : decode cL_law 127 = .ok (.iconst 1, 1) := by decide +kernel
theorem dL_law_128 : decode cL_law 128 = .ok (.iadd, 1) := by decide +kernel
theorem dL_law_129 : decode cL_law 129 = .ok (.iaload, 1) := by decide +kernel
theorem dL_law_130 : decode cL_law 130 = .ok (.aload_n 0, 1) := by decide +kernel
theorem dL_law_131 : decode cL_law 131 = .ok (.iload 4, 2) := by decide +kernel
theorem dL_law_133 : decode cL_law 133 = .ok (.iconst 2, 1) := by decide +kernel
theorem dL_law_134 : decode cL_law 134 = .ok (.iadd, 1) := by decide +kernel
theorem dL_law_135 : decode cL_law 135 = .ok (.iaload, 1) := by decide +kernel
theorem dL_law_136 : decode cL_law 136 = .ok (.invokevirtual 66, 3) := by decide +kernel
theorem dL_law_139 : decode cL_law 139 = .ok (.istore 6, 2) := by decide +kernel
theorem dL_law_141 : decode cL_law 141 = .ok (.aload_n 2, 1) := by decide +kernel
theorem dL_law_142 : decode cL_law 142 = .ok (.invokevirtual 67, 3) := by decide +kernel
theorem dL_law_145 : decode cL_law 145 = .ok (.iload 5, 2) := by decide +kernel
theorem dL_law_147 : decode cL_law 147 = .ok (.if_icmp .eq 5, 3) := by decide +kernel
theorem dL_law_150 : decode cL_law 150 = .ok (.iconst 0, 1) := by decide +kernel
theorem dL_law_151 : decode cL_law 151 = .ok (.ireturn, 1) := by decide +kernel
theorem dL_law_152 : decode cL_law 152 = .ok (.iload 5, 2) := by decide +kernel
theorem dL_law_154 : decode cL_law 154 = .ok (.ifCond .ne 15, 3) := by decide +kernel
theorem dL_law_157 : decode cL_law 157 = .ok (.aload_n 3, 1) := by decide +kernel
theorem dL_law_158 : decode cL_law 158 = .ok (.iconst 0, 1) := by decide +kernel
theorem dL_law_159 : decode cL_law 159 = .ok (.laload, 1) := by decide +kernel
theorem dL_law_160 : decode cL_law 160 = .ok (.iload 6, 2) := by decide +kernel
theorem dL_law_162 : decode cL_law 162 = .ok (.i2l, 1) := by decide +kernel
theorem dL_law_163 : decode cL_law 163 = .ok (.lcmp, 1) := by decide +kernel
theorem dL_law_164 : decode cL_law 164 = .ok (.ifCond .eq 5, 3) := by decide +kernel
theorem dL_law_167 : decode cL_law 167 = .ok (.iconst 0, 1) := by decide +kernel
theorem dL_law_168 : decode cL_law 168 = .ok (.ireturn, 1) := by decide +kernel
theorem dL_law_169 : decode cL_law 169 = .ok (.goto 739, 3) := by decide +kernel
theorem dL_law_172 : decode cL_law 172 = .ok (.aload_n 1, 1) := by decide +kernel
theorem dL_law_173 : decode cL_law 173 = .ok (.aload_n 0, 1) := by decide +kernel
theorem dL_law_174 : decode cL_law 174 = .ok (.iload 4, 2) := by decide +kernel
theorem dL_law_176 : decode cL_law 176 = .ok (.iconst 1, 1) := by decide +kernel
theorem dL_law_177 : decode cL_law 177 = .ok (.iadd, 1) := by decide +kernel
theorem dL_law_178 : decode cL_law 178 = .ok (.iaload, 1) := by decide +kernel
theorem dL_law_179 : decode cL_law 179 = .ok (.aload_n 0, 1) := by decide +kernel
theorem dL_law_180 : decode cL_law 180 = .ok (.iload 4, 2) := by decide +kernel
theorem dL_law_182 : decode cL_law 182 = .ok (.iconst 2, 1) := by decide +kernel
theorem dL_law_183 : decode cL_law 183 = .ok (.iadd, 1) := by decide +kernel
theorem dL_law_184 : decode cL_law 184 = .ok (.iaload, 1) := by decide +kernel
theorem dL_law_185 : decode cL_law 185 = .ok (.aload_n 3, 1) := by decide +kernel
theorem dL_law_186 : decode cL_law 186 = .ok (.invokestatic 71, 3) := by decide +kernel
theorem dL_law_189 : decode cL_law 189 = .ok (.istore 5, 2) := by decide +kernel
theorem dL_law_191 : decode cL_law 191 = .ok (.aload_n 2, 1) := by decide +kernel
theorem dL_law_192 : decode cL_law 192 = .ok (.aload_n 0, 1) := by decide +kernel
theorem dL_law_193 : decode cL_law 193 = .ok (.iload 4, 2) := by decide +kernel
theorem dL_law_195 : decode cL_law 195 = .ok (.iconst 1, 1) := by decide +kernel
theorem dL_law_196 : decode cL_law 196 = .ok (.iadd, 1) := by decide +kernel
theorem dL_law_197 : decode cL_law 197 = .ok (.iaload, 1) := by decide +kernel
theorem dL_law_198 : decode cL_law 198 = .ok (.aload_n 0, 1) := by decide +kernel
theorem dL_law_199 : decode cL_law 199 = .ok (.iload 4, 2) := by decide +kernel
theorem dL_law_201 : decode cL_law 201 = .ok (.iconst 2, 1) := by decide +kernel
theorem dL_law_202 : decode cL_law 202 = .ok (.iadd, 1) := by decide +kernel
theorem dL_law_203 : decode cL_law 203 = .ok (.iaload, 1) := by decide +kernel
theorem dL_law_204 : decode cL_law 204 = .ok (.invokevirtual 73, 3) := by decide +kernel
theorem dL_law_207 : decode cL_law 207 = .ok (.istore 6, 2) := by decide +kernel
theorem dL_law_209 : decode cL_law 209 = .ok (.aload_n 2, 1) := by decide +kernel
theorem dL_law_210 : decode cL_law 210 = .ok (.invokevirtual 67, 3) := by decide +kernel
theorem dL_law_213 : decode cL_law 213 = .ok (.iload 5, 2) := by decide +kernel
theorem dL_law_215 : decode cL_law 215 = .ok (.if_icmp .eq 5, 3) := by decide +kernel
theorem dL_law_218 : decode cL_law 218 = .ok (.iconst 0, 1) := by decide +kernel
theorem dL_law_219 : decode cL_law 219 = .ok (.ireturn, 1) := by decide +kernel
theorem dL_law_220 : decode cL_law 220 = .ok (.iload 5, 2) := by decide +kernel
theorem dL_law_222 : decode cL_law 222 = .ok (.ifCond .ne 15, 3) := by decide +kernel
theorem dL_law_225 : decode cL_law 225 = .ok (.aload_n 3, 1) := by decide +kernel
theorem dL_law_226 : decode cL_law 226 = .ok (.iconst 0, 1) := by decide +kernel
theorem dL_law_227 : decode cL_law 227 = .ok (.laload, 1) := by decide +kernel
theorem dL_law_228 : decode cL_law 228 = .ok (.iload 6, 2) := by decide +kernel
theorem dL_law_230 : decode cL_law 230 = .ok (.i2l, 1) := by decide +kernel
theorem dL_law_231 : decode cL_law 231 = .ok (.lcmp, 1) := by decide +kernel
theorem dL_law_232 : decode cL_law 232 = .ok (.ifCond .eq 5, 3) := by decide +kernel
theorem dL_law_235 : decode cL_law 235 = .ok (.iconst 0, 1) := by decide +kernel
theorem dL_law_236 : decode cL_law 236 = .ok (.ireturn, 1) := by decide +kernel
theorem dL_law_237 : decode cL_law 237 = .ok (.goto 671, 3) := by decide +kernel
theorem dL_law_240 : decode cL_law 240 = .ok (.aload_n 1, 1) := by decide +kernel
theorem dL_law_241 : decode cL_law 241 = .ok (.aload_n 0, 1) := by decide +kernel
theorem dL_law_242 : decode cL_law 242 = .ok (.iload 4, 2) := by decide +kernel
theorem dL_law_244 : decode cL_law 244 = .ok (.iconst 1, 1) := by decide +kernel
theorem dL_law_245 : decode cL_law 245 = .ok (.iadd, 1) := by decide +kernel
theorem dL_law_246 : decode cL_law 246 = .ok (.iaload, 1) := by decide +kernel
theorem dL_law_247 : decode cL_law 247 = .ok (.aload_n 0, 1) := by decide +kernel
theorem dL_law_248 : decode cL_law 248 = .ok (.iload 4, 2) := by decide +kernel
theorem dL_law_250 : decode cL_law 250 = .ok (.iconst 2, 1) := by decide +kernel
theorem dL_law_251 : decode cL_law 251 = .ok (.iadd, 1) := by decide +kernel
theorem dL_law_252 : decode cL_law 252 = .ok (.iaload, 1) := by decide +kernel
theorem dL_law_253 : decode cL_law 253 = .ok (.ifCond .eq 7, 3) := by decide +kernel
theorem dL_law_256 : decode cL_law 256 = .ok (.iconst 1, 1) := by decide +kernel
theorem dL_law_257 : decode cL_law 257 = .ok (.goto 4, 3) := by decide +kernel
theorem dL_law_260 : decode cL_law 260 = .ok (.iconst 0, 1) := by decide +kernel
theorem dL_law_261 : decode cL_law 261 = .ok (.aload_n 3, 1) := by decide +kernel
theorem dL_law_262 : decode cL_law 262 = .ok (.invokestatic 74, 3) := by decide +kernel
theorem dL_law_265 : decode cL_law 265 = .ok (.istore 5, 2) := by decide +kernel
theorem dL_law_267 : decode cL_law 267 = .ok (.aload_n 2, 1) := by decide +kernel
theorem dL_law_268 : decode cL_law 268 = .ok (.aload_n 0, 1) := by decide +kernel
theorem dL_law_269 : decode cL_law 269 = .ok (.iload 4, 2) := by decide +kernel
theorem dL_law_271 : decode cL_law 271 = .ok (.iconst 1, 1) := by decide +kernel
theorem dL_law_272 : decode cL_law 272 = .ok (.iadd, 1) := by decide +kernel
theorem dL_law_273 : decode cL_law 273 = .ok (.iaload, 1) := by decide +kernel
theorem dL_law_274 : decode cL_law 274 = .ok (.aload_n 0, 1) := by decide +kernel
end
section
theorem dL_law_275 : decode cL_law 275 = .ok (.iload 4, 2) := by decide +kernel
theorem dL_law_277 : decode cL_law 277 = .ok (.iconst 2, 1) := by decide +kernel
theorem dL_law_278 : decode cL_law 278 = .ok (.iadd, 1) := by decide +kernel
theorem dL_law_279 : decode cL_law 279 = .ok (.iaload, 1) := by decide +kernel
theorem dL_law_280 : decode cL_law 280 = .ok (.ifCond .eq 7, 3) := by decide +kernel
theorem dL_law_283 : decode cL_law 283 = .ok (.iconst 1, 1) := by decide +kernel
theorem dL_law_284 : decode cL_law 284 = .ok (.goto 4, 3) := by decide +kernel
theorem dL_law_287 : decode cL_law 287 = .ok (.iconst 0, 1) := by decide +kernel
theorem dL_law_288 : decode cL_law 288 = .ok (.invokevirtual 77, 3) := by decide +kernel
theorem dL_law_291 : decode cL_law 291 = .ok (.istore 6, 2) := by decide +kernel
theorem dL_law_293 : decode cL_law 293 = .ok (.aload_n 2, 1) := by decide +kernel
theorem dL_law_294 : decode cL_law 294 = .ok (.invokevirtual 67, 3) := by decide +kernel
theorem dL_law_297 : decode cL_law 297 = .ok (.iload 5, 2) := by decide +kernel
theorem dL_law_299 : decode cL_law 299 = .ok (.if_icmp .eq 5, 3) := by decide +kernel
theorem dL_law_302 : decode cL_law 302 = .ok (.iconst 0, 1) := by decide +kernel
theorem dL_law_303 : decode cL_law 303 = .ok (.ireturn, 1) := by decide +kernel
theorem dL_law_304 : decode cL_law 304 = .ok (.iload 5, 2) := by decide +kernel
theorem dL_law_306 : decode cL_law 306 = .ok (.ifCond .ne 15, 3) := by decide +kernel
theorem dL_law_309 : decode cL_law 309 = .ok (.aload_n 3, 1) := by decide +kernel
theorem dL_law_310 : decode cL_law 310 = .ok (.iconst 0, 1) := by decide +kernel
theorem dL_law_311 : decode cL_law 311 = .ok (.laload, 1) := by decide +kernel
theorem dL_law_312 : decode cL_law 312 = .ok (.iload 6, 2) := by decide +kernel
theorem dL_law_314 : decode cL_law 314 = .ok (.i2l, 1) := by decide +kernel
theorem dL_law_315 : decode cL_law 315 = .ok (.lcmp, 1) := by decide +kernel
theorem dL_law_316 : decode cL_law 316 = .ok (.ifCond .eq 5, 3) := by decide +kernel
theorem dL_law_319 : decode cL_law 319 = .ok (.iconst 0, 1) := by decide +kernel
theorem dL_law_320 : decode cL_law 320 = .ok (.ireturn, 1) := by decide +kernel
theorem dL_law_321 : decode cL_law 321 = .ok (.goto 587, 3) := by decide +kernel
theorem dL_law_324 : decode cL_law 324 = .ok (.aload_n 1, 1) := by decide +kernel
theorem dL_law_325 : decode cL_law 325 = .ok (.aload_n 0, 1) := by decide +kernel
theorem dL_law_326 : decode cL_law 326 = .ok (.iload 4, 2) := by decide +kernel
theorem dL_law_328 : decode cL_law 328 = .ok (.iconst 1, 1) := by decide +kernel
theorem dL_law_329 : decode cL_law 329 = .ok (.iadd, 1) := by decide +kernel
theorem dL_law_330 : decode cL_law 330 = .ok (.iaload, 1) := by decide +kernel
theorem dL_law_331 : decode cL_law 331 = .ok (.aload_n 3, 1) := by decide +kernel
theorem dL_law_332 : decode cL_law 332 = .ok (.invokestatic 78, 3) := by decide +kernel
theorem dL_law_335 : decode cL_law 335 = .ok (.istore 5, 2) := by decide +kernel
theorem dL_law_337 : decode cL_law 337 = .ok (.aload_n 2, 1) := by decide +kernel
theorem dL_law_338 : decode cL_law 338 = .ok (.aload_n 0, 1) := by decide +kernel
theorem dL_law_339 : decode cL_law 339 = .ok (.iload 4, 2) := by decide +kernel
theorem dL_law_341 : decode cL_law 341 = .ok (.iconst 1, 1) := by decide +kernel
theorem dL_law_342 : decode cL_law 342 = .ok (.iadd, 1) := by decide +kernel
theorem dL_law_343 : decode cL_law 343 = .ok (.iaload, 1) := by decide +kernel
theorem dL_law_344 : decode cL_law 344 = .ok (.invokevirtual 81, 3) := by decide +kernel
theorem dL_law_347 : decode cL_law 347 = .ok (.istore 6, 2) := by decide +kernel
theorem dL_law_349 : decode cL_law 349 = .ok (.aload_n 2, 1) := by decide +kernel
theorem dL_law_350 : decode cL_law 350 = .ok (.invokevirtual 67, 3) := by decide +kernel
theorem dL_law_353 : decode cL_law 353 = .ok (.iload 5, 2) := by decide +kernel
theorem dL_law_355 : decode cL_law 355 = .ok (.if_icmp .eq 5, 3) := by decide +kernel
theorem dL_law_358 : decode cL_law 358 = .ok (.iconst 0, 1) := by decide +kernel
theorem dL_law_359 : decode cL_law 359 = .ok (.ireturn, 1) := by decide +kernel
theorem dL_law_360 : decode cL_law 360 = .ok (.iload 5, 2) := by decide +kernel
theorem dL_law_362 : decode cL_law 362 = .ok (.ifCond .ne 15, 3) := by decide +kernel
theorem dL_law_365 : decode cL_law 365 = .ok (.aload_n 3, 1) := by decide +kernel
theorem dL_law_366 : decode cL_law 366 = .ok (.iconst 0, 1) := by decide +kernel
theorem dL_law_367 : decode cL_law 367 = .ok (.laload, 1) := by decide +kernel
theorem dL_law_368 : decode cL_law 368 = .ok (.iload 6, 2) := by decide +kernel
theorem dL_law_370 : decode cL_law 370 = .ok (.i2l, 1) := by decide +kernel
theorem dL_law_371 : decode cL_law 371 = .ok (.lcmp, 1) := by decide +kernel
theorem dL_law_372 : decode cL_law 372 = .ok (.ifCond .eq 5, 3) := by decide +kernel
theorem dL_law_375 : decode cL_law 375 = .ok (.iconst 0, 1) := by decide +kernel
theorem dL_law_376 : decode cL_law 376 = .ok (.ireturn, 1) := by decide +kernel
theorem dL_law_377 : decode cL_law 377 = .ok (.goto 531, 3) := by decide +kernel
theorem dL_law_380 : decode cL_law 380 = .ok (.aload_n 1, 1) := by decide +kernel
theorem dL_law_381 : decode cL_law 381 = .ok (.aload_n 0, 1) := by decide +kernel
theorem dL_law_382 : decode cL_law 382 = .ok (.iload 4, 2) := by decide +kernel
theorem dL_law_384 : decode cL_law 384 = .ok (.iconst 1, 1) := by decide +kernel
theorem dL_law_385 : decode cL_law 385 = .ok (.iadd, 1) := by decide +kernel
theorem dL_law_386 : decode cL_law 386 = .ok (.iaload, 1) := by decide +kernel
theorem dL_law_387 : decode cL_law 387 = .ok (.aload_n 3, 1) := by decide +kernel
theorem dL_law_388 : decode cL_law 388 = .ok (.invokestatic 82, 3) := by decide +kernel
theorem dL_law_391 : decode cL_law 391 = .ok (.istore 5, 2) := by decide +kernel
theorem dL_law_393 : decode cL_law 393 = .ok (.aload_n 2, 1) := by decide +kernel
theorem dL_law_394 : decode cL_law 394 = .ok (.aload_n 0, 1) := by decide +kernel
theorem dL_law_395 : decode cL_law 395 = .ok (.iload 4, 2) := by decide +kernel
theorem dL_law_397 : decode cL_law 397 = .ok (.iconst 1, 1) := by decide +kernel
theorem dL_law_398 : decode cL_law 398 = .ok (.iadd, 1) := by decide +kernel
theorem dL_law_399 : decode cL_law 399 = .ok (.iaload, 1) := by decide +kernel
theorem dL_law_400 : decode cL_law 400 = .ok (.invokevirtual 84, 3) := by decide +kernel
theorem dL_law_403 : decode cL_law 403 = .ok (.istore 6, 2) := by decide +kernel
theorem dL_law_405 : decode cL_law 405 = .ok (.aload_n 2, 1) := by decide +kernel
theorem dL_law_406 : decode cL_law 406 = .ok (.invokevirtual 67, 3) := by decide +kernel
theorem dL_law_409 : decode cL_law 409 = .ok (.iload 5, 2) := by decide +kernel
theorem dL_law_411 : decode cL_law 411 = .ok (.if_icmp .eq 5, 3) := by decide +kernel
theorem dL_law_414 : decode cL_law 414 = .ok (.iconst 0, 1) := by decide +kernel
theorem dL_law_415 : decode cL_law 415 = .ok (.ireturn, 1) := by decide +kernel
theorem dL_law_416 : decode cL_law 416 = .ok (.iload 5, 2) := by decide +kernel
theorem dL_law_418 : decode cL_law 418 = .ok (.ifCond .ne 15, 3) := by decide +kernel
theorem dL_law_421 : decode cL_law 421 = .ok (.aload_n 3, 1) := by decide +kernel
theorem dL_law_422 : decode cL_law 422 = .ok (.iconst 0, 1) := by decide +kernel
theorem dL_law_423 : decode cL_law 423 = .ok (.laload, 1) := by decide +kernel
theorem dL_law_424 : decode cL_law 424 = .ok (.iload 6, 2) := by decide +kernel
theorem dL_law_426 : decode cL_law 426 = .ok (.i2l, 1) := by decide +kernel
theorem dL_law_427 : decode cL_law 427 = .ok (.lcmp, 1) := by decide +kernel
theorem dL_law_428 : decode cL_law 428 = .ok (.ifCond .eq 5, 3) := by decide +kernel
theorem dL_law_431 : decode cL_law 431 = .ok (.iconst 0, 1) := by decide +kernel
theorem dL_law_432 : decode cL_law 432 = .ok (.ireturn, 1) := by decide +kernel
theorem dL_law_433 : decode cL_law 433 = .ok (.goto 475, 3) := by decide +kernel
theorem dL_law_436 : decode cL_law 436 = .ok (.aload_n 1, 1) := by decide +kernel
theorem dL_law_437 : decode cL_law 437 = .ok (.aload_n 0, 1) := by decide +kernel
theorem dL_law_438 : decode cL_law 438 = .ok (.iload 4, 2) := by decide +kernel
theorem dL_law_440 : decode cL_law 440 = .ok (.iconst 1, 1) := by decide +kernel
theorem dL_law_441 : decode cL_law 441 = .ok (.iadd, 1) := by decide +kernel
theorem dL_law_442 : decode cL_law 442 = .ok (.iaload, 1) := by decide +kernel
theorem dL_law_443 : decode cL_law 443 = .ok (.aload_n 0, 1) := by decide +kernel
theorem dL_law_444 : decode cL_law 444 = .ok (.iload 4, 2) := by decide +kernel
theorem dL_law_446 : decode cL_law 446 = .ok (.iconst 2, 1) := by decide +kernel
theorem dL_law_447 : decode cL_law 447 = .ok (.iadd, 1) := by decide +kernel
theorem dL_law_448 : decode cL_law 448 = .ok (.iaload, 1) := by decide +kernel
theorem dL_law_449 : decode cL_law 449 = .ok (.aload_n 3, 1) := by decide +kernel
theorem dL_law_450 : decode cL_law 450 = .ok (.invokestatic 85, 3) := by decide +kernel
theorem dL_law_453 : decode cL_law 453 = .ok (.istore 5, 2) := by decide +kernel
theorem dL_law_455 : decode cL_law 455 = .ok (.aload_n 2, 1) := by decide +kernel
theorem dL_law_456 : decode cL_law 456 = .ok (.aload_n 0, 1) := by decide +kernel
theorem dL_law_457 : decode cL_law 457 = .ok (.iload 4, 2) := by decide +kernel
theorem dL_law_459 : decode cL_law 459 = .ok (.iconst 1, 1) := by decide +kernel
theorem dL_law_460 : decode cL_law 460 = .ok (.iadd, 1) := by decide +kernel
theorem dL_law_461 : decode cL_law 461 = .ok (.iaload, 1) := by decide +kernel
theorem dL_law_462 : decode cL_law 462 = .ok (.aload_n 0, 1) := by decide +kernel
theorem dL_law_463 : decode cL_law 463 = .ok (.iload 4, 2) := by decide +kernel
theorem dL_law_465 : decode cL_law 465 = .ok (.iconst 2, 1) := by decide +kernel
theorem dL_law_466 : decode cL_law 466 = .ok (.iadd, 1) := by decide +kernel
theorem dL_law_467 : decode cL_law 467 = .ok (.iaload, 1) := by decide +kernel
theorem dL_law_468 : decode cL_law 468 = .ok (.invokevirtual 87, 3) := by decide +kernel
theorem dL_law_471 : decode cL_law 471 = .ok (.istore 6, 2) := by decide +kernel
theorem dL_law_473 : decode cL_law 473 = .ok (.aload_n 2, 1) := by decide +kernel
theorem dL_law_474 : decode cL_law 474 = .ok (.invokevirtual 67, 3) := by decide +kernel
theorem dL_law_477 : decode cL_law 477 = .ok (.iload 5, 2) := by decide +kernel
theorem dL_law_479 : decode cL_law 479 = .ok (.if_icmp .eq 5, 3) := by decide +kernel
theorem dL_law_482 : decode cL_law 482 = .ok (.iconst 0, 1) := by decide +kernel
theorem dL_law_483 : decode cL_law 483 = .ok (.ireturn, 1) := by decide +kernel
theorem dL_law_484 : decode cL_law 484 = .ok (.iload 5, 2) := by decide +kernel
theorem dL_law_486 : decode cL_law 486 = .ok (.ifCond .ne 15, 3) := by decide +kernel
theorem dL_law_489 : decode cL_law 489 = .ok (.aload_n 3, 1) := by decide +kernel
theorem dL_law_490 : decode cL_law 490 = .ok (.iconst 0, 1) := by decide +kernel
theorem dL_law_491 : decode cL_law 491 = .ok (.laload, 1) := by decide +kernel
theorem dL_law_492 : decode cL_law 492 = .ok (.iload 6, 2) := by decide +kernel
theorem dL_law_494 : decode cL_law 494 = .ok (.i2l, 1) := by decide +kernel
theorem dL_law_495 : decode cL_law 495 = .ok (.lcmp, 1) := by decide +kernel
theorem dL_law_496 : decode cL_law 496 = .ok (.ifCond .eq 5, 3) := by decide +kernel
end
section
theorem dL_law_499 : decode cL_law 499 = .ok (.iconst 0, 1) := by decide +kernel
theorem dL_law_500 : decode cL_law 500 = .ok (.ireturn, 1) := by decide +kernel
theorem dL_law_501 : decode cL_law 501 = .ok (.goto 407, 3) := by decide +kernel
theorem dL_law_504 : decode cL_law 504 = .ok (.aload_n 1, 1) := by decide +kernel
theorem dL_law_505 : decode cL_law 505 = .ok (.aload_n 0, 1) := by decide +kernel
theorem dL_law_506 : decode cL_law 506 = .ok (.iload 4, 2) := by decide +kernel
theorem dL_law_508 : decode cL_law 508 = .ok (.iconst 1, 1) := by decide +kernel
theorem dL_law_509 : decode cL_law 509 = .ok (.iadd, 1) := by decide +kernel
theorem dL_law_510 : decode cL_law 510 = .ok (.iaload, 1) := by decide +kernel
theorem dL_law_511 : decode cL_law 511 = .ok (.aload_n 3, 1) := by decide +kernel
theorem dL_law_512 : decode cL_law 512 = .ok (.invokestatic 88, 3) := by decide +kernel
theorem dL_law_515 : decode cL_law 515 = .ok (.istore 5, 2) := by decide +kernel
theorem dL_law_517 : decode cL_law 517 = .ok (.aload_n 2, 1) := by decide +kernel
theorem dL_law_518 : decode cL_law 518 = .ok (.aload_n 0, 1) := by decide +kernel
theorem dL_law_519 : decode cL_law 519 = .ok (.iload 4, 2) := by decide +kernel
theorem dL_law_521 : decode cL_law 521 = .ok (.iconst 1, 1) := by decide +kernel
theorem dL_law_522 : decode cL_law 522 = .ok (.iadd, 1) := by decide +kernel
theorem dL_law_523 : decode cL_law 523 = .ok (.iaload, 1) := by decide +kernel
theorem dL_law_524 : decode cL_law 524 = .ok (.invokevirtual 90, 3) := by decide +kernel
theorem dL_law_527 : decode cL_law 527 = .ok (.istore 6, 2) := by decide +kernel
theorem dL_law_529 : decode cL_law 529 = .ok (.aload_n 2, 1) := by decide +kernel
theorem dL_law_530 : decode cL_law 530 = .ok (.invokevirtual 67, 3) := by decide +kernel
theorem dL_law_533 : decode cL_law 533 = .ok (.iload 5, 2) := by decide +kernel
theorem dL_law_535 : decode cL_law 535 = .ok (.if_icmp .eq 5, 3) := by decide +kernel
theorem dL_law_538 : decode cL_law 538 = .ok (.iconst 0, 1) := by decide +kernel
theorem dL_law_539 : decode cL_law 539 = .ok (.ireturn, 1) := by decide +kernel
theorem dL_law_540 : decode cL_law 540 = .ok (.iload 5, 2) := by decide +kernel
theorem dL_law_542 : decode cL_law 542 = .ok (.ifCond .ne 15, 3) := by decide +kernel
theorem dL_law_545 : decode cL_law 545 = .ok (.aload_n 3, 1) := by decide +kernel
theorem dL_law_546 : decode cL_law 546 = .ok (.iconst 0, 1) := by decide +kernel
theorem dL_law_547 : decode cL_law 547 = .ok (.laload, 1) := by decide +kernel
theorem dL_law_548 : decode cL_law 548 = .ok (.iload 6, 2) := by decide +kernel
theorem dL_law_550 : decode cL_law 550 = .ok (.i2l, 1) := by decide +kernel
theorem dL_law_551 : decode cL_law 551 = .ok (.lcmp, 1) := by decide +kernel
theorem dL_law_552 : decode cL_law 552 = .ok (.ifCond .eq 5, 3) := by decide +kernel
theorem dL_law_555 : decode cL_law 555 = .ok (.iconst 0, 1) := by decide +kernel
theorem dL_law_556 : decode cL_law 556 = .ok (.ireturn, 1) := by decide +kernel
theorem dL_law_557 : decode cL_law 557 = .ok (.goto 351, 3) := by decide +kernel
theorem dL_law_560 : decode cL_law 560 = .ok (.aload_n 1, 1) := by decide +kernel
theorem dL_law_561 : decode cL_law 561 = .ok (.aload_n 0, 1) := by decide +kernel
theorem dL_law_562 : decode cL_law 562 = .ok (.iload 4, 2) := by decide +kernel
theorem dL_law_564 : decode cL_law 564 = .ok (.iconst 1, 1) := by decide +kernel
theorem dL_law_565 : decode cL_law 565 = .ok (.iadd, 1) := by decide +kernel
theorem dL_law_566 : decode cL_law 566 = .ok (.iaload, 1) := by decide +kernel
theorem dL_law_567 : decode cL_law 567 = .ok (.aload_n 3, 1) := by decide +kernel
theorem dL_law_568 : decode cL_law 568 = .ok (.invokestatic 91, 3) := by decide +kernel
theorem dL_law_571 : decode cL_law 571 = .ok (.istore 5, 2) := by decide +kernel
theorem dL_law_573 : decode cL_law 573 = .ok (.aload_n 2, 1) := by decide +kernel
theorem dL_law_574 : decode cL_law 574 = .ok (.aload_n 0, 1) := by decide +kernel
theorem dL_law_575 : decode cL_law 575 = .ok (.iload 4, 2) := by decide +kernel
theorem dL_law_577 : decode cL_law 577 = .ok (.iconst 1, 1) := by decide +kernel
theorem dL_law_578 : decode cL_law 578 = .ok (.iadd, 1) := by decide +kernel
theorem dL_law_579 : decode cL_law 579 = .ok (.iaload, 1) := by decide +kernel
theorem dL_law_580 : decode cL_law 580 = .ok (.invokevirtual 93, 3) := by decide +kernel
theorem dL_law_583 : decode cL_law 583 = .ok (.istore 6, 2) := by decide +kernel
theorem dL_law_585 : decode cL_law 585 = .ok (.aload_n 2, 1) := by decide +kernel
theorem dL_law_586 : decode cL_law 586 = .ok (.invokevirtual 67, 3) := by decide +kernel
theorem dL_law_589 : decode cL_law 589 = .ok (.iload 5, 2) := by decide +kernel
theorem dL_law_591 : decode cL_law 591 = .ok (.if_icmp .eq 5, 3) := by decide +kernel
theorem dL_law_594 : decode cL_law 594 = .ok (.iconst 0, 1) := by decide +kernel
theorem dL_law_595 : decode cL_law 595 = .ok (.ireturn, 1) := by decide +kernel
theorem dL_law_596 : decode cL_law 596 = .ok (.iload 5, 2) := by decide +kernel
theorem dL_law_598 : decode cL_law 598 = .ok (.ifCond .ne 15, 3) := by decide +kernel
theorem dL_law_601 : decode cL_law 601 = .ok (.aload_n 3, 1) := by decide +kernel
theorem dL_law_602 : decode cL_law 602 = .ok (.iconst 0, 1) := by decide +kernel
theorem dL_law_603 : decode cL_law 603 = .ok (.laload, 1) := by decide +kernel
theorem dL_law_604 : decode cL_law 604 = .ok (.iload 6, 2) := by decide +kernel
theorem dL_law_606 : decode cL_law 606 = .ok (.i2l, 1) := by decide +kernel
theorem dL_law_607 : decode cL_law 607 = .ok (.lcmp, 1) := by decide +kernel
theorem dL_law_608 : decode cL_law 608 = .ok (.ifCond .eq 5, 3) := by decide +kernel
theorem dL_law_611 : decode cL_law 611 = .ok (.iconst 0, 1) := by decide +kernel
theorem dL_law_612 : decode cL_law 612 = .ok (.ireturn, 1) := by decide +kernel
theorem dL_law_613 : decode cL_law 613 = .ok (.goto 295, 3) := by decide +kernel
theorem dL_law_616 : decode cL_law 616 = .ok (.aload_n 1, 1) := by decide +kernel
theorem dL_law_617 : decode cL_law 617 = .ok (.aload_n 0, 1) := by decide +kernel
theorem dL_law_618 : decode cL_law 618 = .ok (.iload 4, 2) := by decide +kernel
theorem dL_law_620 : decode cL_law 620 = .ok (.iconst 1, 1) := by decide +kernel
theorem dL_law_621 : decode cL_law 621 = .ok (.iadd, 1) := by decide +kernel
theorem dL_law_622 : decode cL_law 622 = .ok (.iaload, 1) := by decide +kernel
theorem dL_law_623 : decode cL_law 623 = .ok (.aload_n 3, 1) := by decide +kernel
theorem dL_law_624 : decode cL_law 624 = .ok (.invokestatic 94, 3) := by decide +kernel
theorem dL_law_627 : decode cL_law 627 = .ok (.istore 5, 2) := by decide +kernel
theorem dL_law_629 : decode cL_law 629 = .ok (.aload_n 2, 1) := by decide +kernel
theorem dL_law_630 : decode cL_law 630 = .ok (.aload_n 0, 1) := by decide +kernel
theorem dL_law_631 : decode cL_law 631 = .ok (.iload 4, 2) := by decide +kernel
theorem dL_law_633 : decode cL_law 633 = .ok (.iconst 1, 1) := by decide +kernel
theorem dL_law_634 : decode cL_law 634 = .ok (.iadd, 1) := by decide +kernel
theorem dL_law_635 : decode cL_law 635 = .ok (.iaload, 1) := by decide +kernel
theorem dL_law_636 : decode cL_law 636 = .ok (.invokevirtual 96, 3) := by decide +kernel
theorem dL_law_639 : decode cL_law 639 = .ok (.istore 6, 2) := by decide +kernel
theorem dL_law_641 : decode cL_law 641 = .ok (.aload_n 2, 1) := by decide +kernel
theorem dL_law_642 : decode cL_law 642 = .ok (.invokevirtual 67, 3) := by decide +kernel
theorem dL_law_645 : decode cL_law 645 = .ok (.iload 5, 2) := by decide +kernel
theorem dL_law_647 : decode cL_law 647 = .ok (.if_icmp .eq 5, 3) := by decide +kernel
theorem dL_law_650 : decode cL_law 650 = .ok (.iconst 0, 1) := by decide +kernel
theorem dL_law_651 : decode cL_law 651 = .ok (.ireturn, 1) := by decide +kernel
theorem dL_law_652 : decode cL_law 652 = .ok (.iload 5, 2) := by decide +kernel
theorem dL_law_654 : decode cL_law 654 = .ok (.ifCond .ne 15, 3) := by decide +kernel
theorem dL_law_657 : decode cL_law 657 = .ok (.aload_n 3, 1) := by decide +kernel
theorem dL_law_658 : decode cL_law 658 = .ok (.iconst 0, 1) := by decide +kernel
theorem dL_law_659 : decode cL_law 659 = .ok (.laload, 1) := by decide +kernel
theorem dL_law_660 : decode cL_law 660 = .ok (.iload 6, 2) := by decide +kernel
theorem dL_law_662 : decode cL_law 662 = .ok (.i2l, 1) := by decide +kernel
theorem dL_law_663 : decode cL_law 663 = .ok (.lcmp, 1) := by decide +kernel
theorem dL_law_664 : decode cL_law 664 = .ok (.ifCond .eq 5, 3) := by decide +kernel
theorem dL_law_667 : decode cL_law 667 = .ok (.iconst 0, 1) := by decide +kernel
theorem dL_law_668 : decode cL_law 668 = .ok (.ireturn, 1) := by decide +kernel
theorem dL_law_669 : decode cL_law 669 = .ok (.goto 239, 3) := by decide +kernel
theorem dL_law_672 : decode cL_law 672 = .ok (.aload_n 1, 1) := by decide +kernel
theorem dL_law_673 : decode cL_law 673 = .ok (.aload_n 0, 1) := by decide +kernel
theorem dL_law_674 : decode cL_law 674 = .ok (.iload 4, 2) := by decide +kernel
theorem dL_law_676 : decode cL_law 676 = .ok (.iconst 1, 1) := by decide +kernel
theorem dL_law_677 : decode cL_law 677 = .ok (.iadd, 1) := by decide +kernel
theorem dL_law_678 : decode cL_law 678 = .ok (.iaload, 1) := by decide +kernel
theorem dL_law_679 : decode cL_law 679 = .ok (.aload_n 3, 1) := by decide +kernel
theorem dL_law_680 : decode cL_law 680 = .ok (.invokestatic 97, 3) := by decide +kernel
theorem dL_law_683 : decode cL_law 683 = .ok (.istore 5, 2) := by decide +kernel
theorem dL_law_685 : decode cL_law 685 = .ok (.aload_n 2, 1) := by decide +kernel
theorem dL_law_686 : decode cL_law 686 = .ok (.aload_n 0, 1) := by decide +kernel
theorem dL_law_687 : decode cL_law 687 = .ok (.iload 4, 2) := by decide +kernel
theorem dL_law_689 : decode cL_law 689 = .ok (.iconst 1, 1) := by decide +kernel
theorem dL_law_690 : decode cL_law 690 = .ok (.iadd, 1) := by decide +kernel
theorem dL_law_691 : decode cL_law 691 = .ok (.iaload, 1) := by decide +kernel
theorem dL_law_692 : decode cL_law 692 = .ok (.invokevirtual 99, 3) := by decide +kernel
theorem dL_law_695 : decode cL_law 695 = .ok (.istore 6, 2) := by decide +kernel
theorem dL_law_697 : decode cL_law 697 = .ok (.aload_n 2, 1) := by decide +kernel
theorem dL_law_698 : decode cL_law 698 = .ok (.invokevirtual 67, 3) := by decide +kernel
theorem dL_law_701 : decode cL_law 701 = .ok (.iload 5, 2) := by decide +kernel
theorem dL_law_703 : decode cL_law 703 = .ok (.if_icmp .eq 5, 3) := by decide +kernel
theorem dL_law_706 : decode cL_law 706 = .ok (.iconst 0, 1) := by decide +kernel
theorem dL_law_707 : decode cL_law 707 = .ok (.ireturn, 1) := by decide +kernel
theorem dL_law_708 : decode cL_law 708 = .ok (.iload 5, 2) := by decide +kernel
theorem dL_law_710 : decode cL_law 710 = .ok (.ifCond .ne 15, 3) := by decide +kernel
theorem dL_law_713 : decode cL_law 713 = .ok (.aload_n 3, 1) := by decide +kernel
theorem dL_law_714 : decode cL_law 714 = .ok (.iconst 0, 1) := by decide +kernel
theorem dL_law_715 : decode cL_law 715 = .ok (.laload, 1) := by decide +kernel
theorem dL_law_716 : decode cL_law 716 = .ok (.iload 6, 2) := by decide +kernel
theorem dL_law_718 : decode cL_law 718 = .ok (.i2l, 1) := by decide +kernel
theorem dL_law_719 : decode cL_law 719 = .ok (.lcmp, 1) := by decide +kernel
theorem dL_law_720 : decode cL_law 720 = .ok (.ifCond .eq 5, 3) := by decide +kernel
end
section
theorem dL_law_723 : decode cL_law 723 = .ok (.iconst 0, 1) := by decide +kernel
theorem dL_law_724 : decode cL_law 724 = .ok (.ireturn, 1) := by decide +kernel
theorem dL_law_725 : decode cL_law 725 = .ok (.goto 183, 3) := by decide +kernel
theorem dL_law_728 : decode cL_law 728 = .ok (.aload_n 1, 1) := by decide +kernel
theorem dL_law_729 : decode cL_law 729 = .ok (.aload_n 0, 1) := by decide +kernel
theorem dL_law_730 : decode cL_law 730 = .ok (.iload 4, 2) := by decide +kernel
theorem dL_law_732 : decode cL_law 732 = .ok (.iconst 1, 1) := by decide +kernel
theorem dL_law_733 : decode cL_law 733 = .ok (.iadd, 1) := by decide +kernel
theorem dL_law_734 : decode cL_law 734 = .ok (.iaload, 1) := by decide +kernel
theorem dL_law_735 : decode cL_law 735 = .ok (.aload_n 3, 1) := by decide +kernel
theorem dL_law_736 : decode cL_law 736 = .ok (.invokestatic 100, 3) := by decide +kernel
theorem dL_law_739 : decode cL_law 739 = .ok (.istore 5, 2) := by decide +kernel
theorem dL_law_741 : decode cL_law 741 = .ok (.aload_n 2, 1) := by decide +kernel
theorem dL_law_742 : decode cL_law 742 = .ok (.aload_n 0, 1) := by decide +kernel
theorem dL_law_743 : decode cL_law 743 = .ok (.iload 4, 2) := by decide +kernel
theorem dL_law_745 : decode cL_law 745 = .ok (.iconst 1, 1) := by decide +kernel
theorem dL_law_746 : decode cL_law 746 = .ok (.iadd, 1) := by decide +kernel
theorem dL_law_747 : decode cL_law 747 = .ok (.iaload, 1) := by decide +kernel
theorem dL_law_748 : decode cL_law 748 = .ok (.invokevirtual 102, 3) := by decide +kernel
theorem dL_law_751 : decode cL_law 751 = .ok (.istore 6, 2) := by decide +kernel
theorem dL_law_753 : decode cL_law 753 = .ok (.aload_n 2, 1) := by decide +kernel
theorem dL_law_754 : decode cL_law 754 = .ok (.invokevirtual 67, 3) := by decide +kernel
theorem dL_law_757 : decode cL_law 757 = .ok (.iload 5, 2) := by decide +kernel
theorem dL_law_759 : decode cL_law 759 = .ok (.if_icmp .eq 5, 3) := by decide +kernel
theorem dL_law_762 : decode cL_law 762 = .ok (.iconst 0, 1) := by decide +kernel
theorem dL_law_763 : decode cL_law 763 = .ok (.ireturn, 1) := by decide +kernel
theorem dL_law_764 : decode cL_law 764 = .ok (.iload 5, 2) := by decide +kernel
theorem dL_law_766 : decode cL_law 766 = .ok (.ifCond .ne 15, 3) := by decide +kernel
theorem dL_law_769 : decode cL_law 769 = .ok (.aload_n 3, 1) := by decide +kernel
theorem dL_law_770 : decode cL_law 770 = .ok (.iconst 0, 1) := by decide +kernel
theorem dL_law_771 : decode cL_law 771 = .ok (.laload, 1) := by decide +kernel
theorem dL_law_772 : decode cL_law 772 = .ok (.iload 6, 2) := by decide +kernel
theorem dL_law_774 : decode cL_law 774 = .ok (.i2l, 1) := by decide +kernel
theorem dL_law_775 : decode cL_law 775 = .ok (.lcmp, 1) := by decide +kernel
theorem dL_law_776 : decode cL_law 776 = .ok (.ifCond .eq 5, 3) := by decide +kernel
theorem dL_law_779 : decode cL_law 779 = .ok (.iconst 0, 1) := by decide +kernel
theorem dL_law_780 : decode cL_law 780 = .ok (.ireturn, 1) := by decide +kernel
theorem dL_law_781 : decode cL_law 781 = .ok (.goto 127, 3) := by decide +kernel
theorem dL_law_784 : decode cL_law 784 = .ok (.aload_n 1, 1) := by decide +kernel
theorem dL_law_785 : decode cL_law 785 = .ok (.aload_n 0, 1) := by decide +kernel
theorem dL_law_786 : decode cL_law 786 = .ok (.iload 4, 2) := by decide +kernel
theorem dL_law_788 : decode cL_law 788 = .ok (.iconst 1, 1) := by decide +kernel
theorem dL_law_789 : decode cL_law 789 = .ok (.iadd, 1) := by decide +kernel
theorem dL_law_790 : decode cL_law 790 = .ok (.iaload, 1) := by decide +kernel
theorem dL_law_791 : decode cL_law 791 = .ok (.aload_n 0, 1) := by decide +kernel
theorem dL_law_792 : decode cL_law 792 = .ok (.iload 4, 2) := by decide +kernel
theorem dL_law_794 : decode cL_law 794 = .ok (.iconst 2, 1) := by decide +kernel
theorem dL_law_795 : decode cL_law 795 = .ok (.iadd, 1) := by decide +kernel
theorem dL_law_796 : decode cL_law 796 = .ok (.iaload, 1) := by decide +kernel
theorem dL_law_797 : decode cL_law 797 = .ok (.aload_n 3, 1) := by decide +kernel
theorem dL_law_798 : decode cL_law 798 = .ok (.invokestatic 103, 3) := by decide +kernel
theorem dL_law_801 : decode cL_law 801 = .ok (.istore 5, 2) := by decide +kernel
theorem dL_law_803 : decode cL_law 803 = .ok (.aload_n 2, 1) := by decide +kernel
theorem dL_law_804 : decode cL_law 804 = .ok (.aload_n 0, 1) := by decide +kernel
theorem dL_law_805 : decode cL_law 805 = .ok (.iload 4, 2) := by decide +kernel
theorem dL_law_807 : decode cL_law 807 = .ok (.iconst 1, 1) := by decide +kernel
theorem dL_law_808 : decode cL_law 808 = .ok (.iadd, 1) := by decide +kernel
theorem dL_law_809 : decode cL_law 809 = .ok (.iaload, 1) := by decide +kernel
theorem dL_law_810 : decode cL_law 810 = .ok (.aload_n 0, 1) := by decide +kernel
theorem dL_law_811 : decode cL_law 811 = .ok (.iload 4, 2) := by decide +kernel
theorem dL_law_813 : decode cL_law 813 = .ok (.iconst 2, 1) := by decide +kernel
theorem dL_law_814 : decode cL_law 814 = .ok (.iadd, 1) := by decide +kernel
theorem dL_law_815 : decode cL_law 815 = .ok (.iaload, 1) := by decide +kernel
theorem dL_law_816 : decode cL_law 816 = .ok (.invokevirtual 105, 3) := by decide +kernel
theorem dL_law_819 : decode cL_law 819 = .ok (.istore 6, 2) := by decide +kernel
theorem dL_law_821 : decode cL_law 821 = .ok (.aload_n 2, 1) := by decide +kernel
theorem dL_law_822 : decode cL_law 822 = .ok (.invokevirtual 67, 3) := by decide +kernel
theorem dL_law_825 : decode cL_law 825 = .ok (.iload 5, 2) := by decide +kernel
theorem dL_law_827 : decode cL_law 827 = .ok (.if_icmp .eq 5, 3) := by decide +kernel
theorem dL_law_830 : decode cL_law 830 = .ok (.iconst 0, 1) := by decide +kernel
theorem dL_law_831 : decode cL_law 831 = .ok (.ireturn, 1) := by decide +kernel
theorem dL_law_832 : decode cL_law 832 = .ok (.iload 5, 2) := by decide +kernel
theorem dL_law_834 : decode cL_law 834 = .ok (.ifCond .ne 15, 3) := by decide +kernel
theorem dL_law_837 : decode cL_law 837 = .ok (.aload_n 3, 1) := by decide +kernel
theorem dL_law_838 : decode cL_law 838 = .ok (.iconst 0, 1) := by decide +kernel
theorem dL_law_839 : decode cL_law 839 = .ok (.laload, 1) := by decide +kernel
theorem dL_law_840 : decode cL_law 840 = .ok (.iload 6, 2) := by decide +kernel
theorem dL_law_842 : decode cL_law 842 = .ok (.i2l, 1) := by decide +kernel
theorem dL_law_843 : decode cL_law 843 = .ok (.lcmp, 1) := by decide +kernel
theorem dL_law_844 : decode cL_law 844 = .ok (.ifCond .eq 5, 3) := by decide +kernel
theorem dL_law_847 : decode cL_law 847 = .ok (.iconst 0, 1) := by decide +kernel
theorem dL_law_848 : decode cL_law 848 = .ok (.ireturn, 1) := by decide +kernel
theorem dL_law_849 : decode cL_law 849 = .ok (.goto 59, 3) := by decide +kernel
theorem dL_law_852 : decode cL_law 852 = .ok (.aload_n 1, 1) := by decide +kernel
theorem dL_law_853 : decode cL_law 853 = .ok (.aload_n 0, 1) := by decide +kernel
theorem dL_law_854 : decode cL_law 854 = .ok (.iload 4, 2) := by decide +kernel
theorem dL_law_856 : decode cL_law 856 = .ok (.iconst 1, 1) := by decide +kernel
theorem dL_law_857 : decode cL_law 857 = .ok (.iadd, 1) := by decide +kernel
theorem dL_law_858 : decode cL_law 858 = .ok (.iaload, 1) := by decide +kernel
theorem dL_law_859 : decode cL_law 859 = .ok (.aload_n 3, 1) := by decide +kernel
theorem dL_law_860 : decode cL_law 860 = .ok (.invokestatic 106, 3) := by decide +kernel
theorem dL_law_863 : decode cL_law 863 = .ok (.istore 5, 2) := by decide +kernel
theorem dL_law_865 : decode cL_law 865 = .ok (.aload_n 2, 1) := by decide +kernel
theorem dL_law_866 : decode cL_law 866 = .ok (.aload_n 0, 1) := by decide +kernel
theorem dL_law_867 : decode cL_law 867 = .ok (.iload 4, 2) := by decide +kernel
theorem dL_law_869 : decode cL_law 869 = .ok (.iconst 1, 1) := by decide +kernel
theorem dL_law_870 : decode cL_law 870 = .ok (.iadd, 1) := by decide +kernel
theorem dL_law_871 : decode cL_law 871 = .ok (.iaload, 1) := by decide +kernel
theorem dL_law_872 : decode cL_law 872 = .ok (.invokevirtual 108, 3) := by decide +kernel
theorem dL_law_875 : decode cL_law 875 = .ok (.istore 6, 2) := by decide +kernel
theorem dL_law_877 : decode cL_law 877 = .ok (.aload_n 2, 1) := by decide +kernel
theorem dL_law_878 : decode cL_law 878 = .ok (.invokevirtual 67, 3) := by decide +kernel
theorem dL_law_881 : decode cL_law 881 = .ok (.iload 5, 2) := by decide +kernel
theorem dL_law_883 : decode cL_law 883 = .ok (.if_icmp .eq 5, 3) := by decide +kernel
theorem dL_law_886 : decode cL_law 886 = .ok (.iconst 0, 1) := by decide +kernel
theorem dL_law_887 : decode cL_law 887 = .ok (.ireturn, 1) := by decide +kernel
theorem dL_law_888 : decode cL_law 888 = .ok (.iload 5, 2) := by decide +kernel
theorem dL_law_890 : decode cL_law 890 = .ok (.ifCond .ne 15, 3) := by decide +kernel
theorem dL_law_893 : decode cL_law 893 = .ok (.aload_n 3, 1) := by decide +kernel
theorem dL_law_894 : decode cL_law 894 = .ok (.iconst 0, 1) := by decide +kernel
theorem dL_law_895 : decode cL_law 895 = .ok (.laload, 1) := by decide +kernel
theorem dL_law_896 : decode cL_law 896 = .ok (.iload 6, 2) := by decide +kernel
theorem dL_law_898 : decode cL_law 898 = .ok (.i2l, 1) := by decide +kernel
theorem dL_law_899 : decode cL_law 899 = .ok (.lcmp, 1) := by decide +kernel
theorem dL_law_900 : decode cL_law 900 = .ok (.ifCond .eq 5, 3) := by decide +kernel
theorem dL_law_903 : decode cL_law 903 = .ok (.iconst 0, 1) := by decide +kernel
theorem dL_law_904 : decode cL_law 904 = .ok (.ireturn, 1) := by decide +kernel
theorem dL_law_905 : decode cL_law 905 = .ok (.goto 3, 3) := by decide +kernel
theorem dL_law_908 : decode cL_law 908 = .ok (.iinc 4 3, 3) := by decide +kernel
theorem dL_law_911 : decode cL_law 911 = .ok (.goto (-888), 3) := by decide +kernel
theorem dL_law_914 : decode cL_law 914 = .ok (.iconst 1, 1) := by decide +kernel
theorem dL_law_915 : decode cL_law 915 = .ok (.ireturn, 1) := by decide +kernel
end
section
theorem dM_init_0 : decode cM_init 0 = .ok (.aload_n 0, 1) := by decide +kernel
theorem dM_init_1 : decode cM_init 1 = .ok (.invokespecial 1, 3) := by decide +kernel
theorem dM_init_4 : decode cM_init 4 = .ok (.aload_n 0, 1) := by decide +kernel
theorem dM_init_5 : decode cM_init 5 = .ok (.bipush 8, 2) := by decide +kernel
theorem dM_init_7 : decode cM_init 7 = .ok (.newarray .boolean, 2) := by decide +kernel
theorem dM_init_9 : decode cM_init 9 = .ok (.putfield 7, 3) := by decide +kernel
theorem dM_init_12 : decode cM_init 12 = .ok (.aload_n 0, 1) := by decide +kernel
theorem dM_init_13 : decode cM_init 13 = .ok (.bipush 8, 2) := by decide +kernel
theorem dM_init_15 : decode cM_init 15 = .ok (.newarray .boolean, 2) := by decide +kernel
theorem dM_init_17 : decode cM_init 17 = .ok (.putfield 13, 3) := by decide +kernel
theorem dM_init_20 : decode cM_init 20 = .ok (.aload_n 0, 1) := by decide +kernel
theorem dM_init_21 : decode cM_init 21 = .ok (.bipush 8, 2) := by decide +kernel
theorem dM_init_23 : decode cM_init 23 = .ok (.newarray .int, 2) := by decide +kernel
theorem dM_init_25 : decode cM_init 25 = .ok (.putfield 16, 3) := by decide +kernel
theorem dM_init_28 : decode cM_init 28 = .ok (.aload_n 0, 1) := by decide +kernel
theorem dM_init_29 : decode cM_init 29 = .ok (.bipush 8, 2) := by decide +kernel
theorem dM_init_31 : decode cM_init 31 = .ok (.newarray .int, 2) := by decide +kernel
theorem dM_init_33 : decode cM_init 33 = .ok (.putfield 20, 3) := by decide +kernel
theorem dM_init_36 : decode cM_init 36 = .ok (.aload_n 0, 1) := by decide +kernel
theorem dM_init_37 : decode cM_init 37 = .ok (.bipush 8, 2) := by decide +kernel
theorem dM_init_39 : decode cM_init 39 = .ok (.newarray .int, 2) := by decide +kernel
theorem dM_init_41 : decode cM_init 41 = .ok (.putfield 23, 3) := by decide +kernel
theorem dM_init_44 : decode cM_init 44 = .ok (.aload_n 0, 1) := by decide +kernel
theorem dM_init_45 : decode cM_init 45 = .ok (.bipush 8, 2) := by decide +kernel
theorem dM_init_47 : decode cM_init 47 = .ok (.newarray .int, 2) := by decide +kernel
theorem dM_init_49 : decode cM_init 49 = .ok (.putfield 26, 3) := by decide +kernel
theorem dM_init_52 : decode cM_init 52 = .ok (.aload_n 0, 1) := by decide +kernel
theorem dM_init_53 : decode cM_init 53 = .ok (.bipush 8, 2) := by decide +kernel
theorem dM_init_55 : decode cM_init 55 = .ok (.newarray .boolean, 2) := by decide +kernel
theorem dM_init_57 : decode cM_init 57 = .ok (.putfield 29, 3) := by decide +kernel
theorem dM_init_60 : decode cM_init 60 = .ok (.aload_n 0, 1) := by decide +kernel
theorem dM_init_61 : decode cM_init 61 = .ok (.bipush 8, 2) := by decide +kernel
theorem dM_init_63 : decode cM_init 63 = .ok (.newarray .boolean, 2) := by decide +kernel
theorem dM_init_65 : decode cM_init 65 = .ok (.putfield 32, 3) := by decide +kernel
theorem dM_init_68 : decode cM_init 68 = .ok (.aload_n 0, 1) := by decide +kernel
theorem dM_init_69 : decode cM_init 69 = .ok (.bipush 8, 2) := by decide +kernel
theorem dM_init_71 : decode cM_init 71 = .ok (.newarray .int, 2) := by decide +kernel
theorem dM_init_73 : decode cM_init 73 = .ok (.putfield 35, 3) := by decide +kernel
theorem dM_init_76 : decode cM_init 76 = .ok (.aload_n 0, 1) := by decide +kernel
theorem dM_init_77 : decode cM_init 77 = .ok (.bipush 8, 2) := by decide +kernel
theorem dM_init_79 : decode cM_init 79 = .ok (.newarray .int, 2) := by decide +kernel
theorem dM_init_81 : decode cM_init 81 = .ok (.putfield 38, 3) := by decide +kernel
theorem dM_init_84 : decode cM_init 84 = .ok (.aload_n 0, 1) := by decide +kernel
theorem dM_init_85 : decode cM_init 85 = .ok (.bipush 8, 2) := by decide +kernel
theorem dM_init_87 : decode cM_init 87 = .ok (.newarray .boolean, 2) := by decide +kernel
theorem dM_init_89 : decode cM_init 89 = .ok (.putfield 41, 3) := by decide +kernel
theorem dM_init_92 : decode cM_init 92 = .ok (.aload_n 0, 1) := by decide +kernel
theorem dM_init_93 : decode cM_init 93 = .ok (.bipush 8, 2) := by decide +kernel
theorem dM_init_95 : decode cM_init 95 = .ok (.newarray .int, 2) := by decide +kernel
theorem dM_init_97 : decode cM_init 97 = .ok (.putfield 44, 3) := by decide +kernel
theorem dM_init_100 : decode cM_init 100 = .ok (.aload_n 0, 1) := by decide +kernel
theorem dM_init_101 : decode cM_init 101 = .ok (.bipush 8, 2) := by decide +kernel
theorem dM_init_103 : decode cM_init 103 = .ok (.newarray .int, 2) := by decide +kernel
theorem dM_init_105 : decode cM_init 105 = .ok (.putfield 47, 3) := by decide +kernel
theorem dM_init_108 : decode cM_init 108 = .ok (.aload_n 0, 1) := by decide +kernel
theorem dM_init_109 : decode cM_init 109 = .ok (.bipush 12, 2) := by decide +kernel
theorem dM_init_111 : decode cM_init 111 = .ok (.newarray .int, 2) := by decide +kernel
theorem dM_init_113 : decode cM_init 113 = .ok (.putfield 50, 3) := by decide +kernel
theorem dM_init_116 : decode cM_init 116 = .ok (.aload_n 0, 1) := by decide +kernel
theorem dM_init_117 : decode cM_init 117 = .ok (.bipush 12, 2) := by decide +kernel
theorem dM_init_119 : decode cM_init 119 = .ok (.newarray .int, 2) := by decide +kernel
theorem dM_init_121 : decode cM_init 121 = .ok (.putfield 53, 3) := by decide +kernel
theorem dM_init_124 : decode cM_init 124 = .ok (.aload_n 0, 1) := by decide +kernel
theorem dM_init_125 : decode cM_init 125 = .ok (.bipush 12, 2) := by decide +kernel
theorem dM_init_127 : decode cM_init 127 = .ok (.newarray .int, 2) := by decide +kernel
theorem dM_init_129 : decode cM_init 129 = .ok (.putfield 56, 3) := by decide +kernel
theorem dM_init_132 : decode cM_init 132 = .ok (.iconst 0, 1) := by decide +kernel
theorem dM_init_133 : decode cM_init 133 = .ok (.istore_n 1, 1) := by decide +kernel
theorem dM_init_134 : decode cM_init 134 = .ok (.iload_n 1, 1) := by decide +kernel
theorem dM_init_135 : decode cM_init 135 = .ok (.bipush 12, 2) := by decide +kernel
theorem dM_init_137 : decode cM_init 137 = .ok (.if_icmp .ge 16, 3) := by decide +kernel
theorem dM_init_140 : decode cM_init 140 = .ok (.aload_n 0, 1) := by decide +kernel
theorem dM_init_141 : decode cM_init 141 = .ok (.getfield 56, 3) := by decide +kernel
theorem dM_init_144 : decode cM_init 144 = .ok (.iload_n 1, 1) := by decide +kernel
theorem dM_init_145 : decode cM_init 145 = .ok (.iconst (-1), 1) := by decide +kernel
theorem dM_init_146 : decode cM_init 146 = .ok (.iastore, 1) := by decide +kernel
theorem dM_init_147 : decode cM_init 147 = .ok (.iinc 1 1, 3) := by decide +kernel
theorem dM_init_150 : decode cM_init 150 = .ok (.goto (-16), 3) := by decide +kernel
theorem dM_init_153 : decode cM_init 153 = .ok (.return_, 1) := by decide +kernel
theorem dM_thrown_0 : decode cM_thrown 0 = .ok (.aload_n 0, 1) := by decide +kernel
theorem dM_thrown_1 : decode cM_thrown 1 = .ok (.getfield 59, 3) := by decide +kernel
theorem dM_thrown_4 : decode cM_thrown 4 = .ok (.ireturn, 1) := by decide +kernel
theorem dM_raise_0 : decode cM_raise 0 = .ok (.aload_n 0, 1) := by decide +kernel
theorem dM_raise_1 : decode cM_raise 1 = .ok (.iload_n 1, 1) := by decide +kernel
theorem dM_raise_2 : decode cM_raise 2 = .ok (.putfield 59, 3) := by decide +kernel
theorem dM_raise_5 : decode cM_raise 5 = .ok (.iconst 0, 1) := by decide +kernel
theorem dM_raise_6 : decode cM_raise 6 = .ok (.ireturn, 1) := by decide +kernel
theorem dM_in_0 : decode cM_in 0 = .ok (.iload_n 0, 1) := by decide +kernel
theorem dM_in_1 : decode cM_in 1 = .ok (.iload_n 1, 1) := by decide +kernel
theorem dM_in_2 : decode cM_in 2 = .ok (.if_icmp .lt 12, 3) := by decide +kernel
theorem dM_in_5 : decode cM_in 5 = .ok (.iload_n 0, 1) := by decide +kernel
theorem dM_in_6 : decode cM_in 6 = .ok (.iload_n 2, 1) := by decide +kernel
theorem dM_in_7 : decode cM_in 7 = .ok (.if_icmp .gt 7, 3) := by decide +kernel
theorem dM_in_10 : decode cM_in 10 = .ok (.iconst 1, 1) := by decide +kernel
theorem dM_in_11 : decode cM_in 11 = .ok (.goto 4, 3) := by decide +kernel
theorem dM_in_14 : decode cM_in 14 = .ok (.iconst 0, 1) := by decide +kernel
theorem dM_in_15 : decode cM_in 15 = .ok (.ireturn, 1) := by decide +kernel
theorem dM_isTrain_0 : decode cM_isTrain 0 = .ok (.iload_n 1, 1) := by decide +kernel
theorem dM_isTrain_1 : decode cM_isTrain 1 = .ok (.iconst 0, 1) := by decide +kernel
theorem dM_isTrain_2 : decode cM_isTrain 2 = .ok (.aload_n 0, 1) := by decide +kernel
theorem dM_isTrain_3 : decode cM_isTrain 3 = .ok (.getfield 63, 3) := by decide +kernel
theorem dM_isTrain_6 : decode cM_isTrain 6 = .ok (.iconst 1, 1) := by decide +kernel
theorem dM_isTrain_7 : decode cM_isTrain 7 = .ok (.isub, 1) := by decide +kernel
theorem dM_isTrain_8 : decode cM_isTrain 8 = .ok (.invokestatic 66, 3) := by decide +kernel
theorem dM_isTrain_11 : decode cM_isTrain 11 = .ok (.ifCond .eq 16, 3) := by decide +kernel
theorem dM_isTrain_14 : decode cM_isTrain 14 = .ok (.aload_n 0, 1) := by decide +kernel
theorem dM_isTrain_15 : decode cM_isTrain 15 = .ok (.getfield 7, 3) := by decide +kernel
theorem dM_isTrain_18 : decode cM_isTrain 18 = .ok (.iload_n 1, 1) := by decide +kernel
theorem dM_isTrain_19 : decode cM_isTrain 19 = .ok (.baload, 1) := by decide +kernel
theorem dM_isTrain_20 : decode cM_isTrain 20 = .ok (.ifCond .eq 7, 3) := by decide +kernel
theorem dM_isTrain_23 : decode cM_isTrain 23 = .ok (.iconst 1, 1) := by decide +kernel
theorem dM_isTrain_24 : decode cM_isTrain 24 = .ok (.goto 4, 3) := by decide +kernel
theorem dM_isTrain_27 : decode cM_isTrain 27 = .ok (.iconst 0, 1) := by decide +kernel
theorem dM_isTrain_28 : decode cM_isTrain 28 = .ok (.ireturn, 1) := by decide +kernel
theorem dM_last_0 : decode cM_last 0 = .ok (.aload_n 0, 1) := by decide +kernel
theorem dM_last_1 : decode cM_last 1 = .ok (.getfield 16, 3) := by decide +kernel
theorem dM_last_4 : decode cM_last 4 = .ok (.iload_n 1, 1) := by decide +kernel
theorem dM_last_5 : decode cM_last 5 = .ok (.iaload, 1) := by decide +kernel
theorem dM_last_6 : decode cM_last 6 = .ok (.aload_n 0, 1) := by decide +kernel
theorem dM_last_7 : decode cM_last 7 = .ok (.getfield 20, 3) := by decide +kernel
theorem dM_last_10 : decode cM_last 10 = .ok (.iload_n 1, 1) := by decide +kernel
theorem dM_last_11 : decode cM_last 11 = .ok (.iaload, 1) := by decide +kernel
theorem dM_last_12 : decode cM_last 12 = .ok (.isub, 1) := by decide +kernel
theorem dM_last_13 : decode cM_last 13 = .ok (.iconst 1, 1) := by decide +kernel
theorem dM_last_14 : decode cM_last 14 = .ok (.iadd, 1) := by decide +kernel
theorem dM_last_15 : decode cM_last 15 = .ok (.ireturn, 1) := by decide +kernel
theorem dM_standsOn_0 : decode cM_standsOn 0 = .ok (.iconst 0, 1) := by decide +kernel
theorem dM_standsOn_1 : decode cM_standsOn 1 = .ok (.istore_n 3, 1) := by decide +kernel
theorem dM_standsOn_2 : decode cM_standsOn 2 = .ok (.iload_n 3, 1) := by decide +kernel
theorem dM_standsOn_3 : decode cM_standsOn 3 = .ok (.aload_n 0, 1) := by decide +kernel
theorem dM_standsOn_4 : decode cM_standsOn 4 = .ok (.getfield 63, 3) := by decide +kernel
theorem dM_standsOn_7 : decode cM_standsOn 7 = .ok (.if_icmp .ge 44, 3) := by decide +kernel
theorem dM_standsOn_10 : decode cM_standsOn 10 = .ok (.iload_n 3, 1) := by decide +kernel
theorem dM_standsOn_11 : decode cM_standsOn 11 = .ok (.iload_n 2, 1) := by decide +kernel
theorem dM_standsOn_12 : decode cM_standsOn 12 = .ok (.if_icmp .eq 33, 3) := by decide +kernel
theorem dM_standsOn_15 : decode cM_standsOn 15 = .ok (.aload_n 0, 1) := by decide +kernel
theorem dM_standsOn_16 : decode cM_standsOn 16 = .ok (.getfield 13, 3) := by decide +kernel
theorem dM_standsOn_19 : decode cM_standsOn 19 = .ok (.iload_n 3, 1) := by decide +kernel
theorem dM_standsOn_20 : decode cM_standsOn 20 = .ok (.baload, 1) := by decide +kernel
theorem dM_standsOn_21 : decode cM_standsOn 21 = .ok (.ifCond .eq 24, 3) := by decide +kernel
theorem dM_standsOn_24 : decode cM_standsOn 24 = .ok (.iload_n 1, 1) := by decide +kernel
theorem dM_standsOn_25 : decode cM_standsOn 25 = .ok (.aload_n 0, 1) := by decide +kernel
theorem dM_standsOn_26 : decode cM_standsOn 26 = .ok (.getfield 16, 3) := by decide +kernel
theorem dM_standsOn_29 : decode cM_standsOn 29 = .ok (.iload_n 3, 1) := by decide +kernel
theorem dM_standsOn_30 : decode cM_standsOn 30 = .ok (.iaload, 1) := by decide +kernel
theorem dM_standsOn_31 : decode cM_standsOn 31 = .ok (.if_icmp .gt 14, 3) := by decide +kernel
theorem dM_standsOn_34 : decode cM_standsOn 34 = .ok (.iload_n 1, 1) := by decide +kernel
theorem dM_standsOn_35 : decode cM_standsOn 35 = .ok (.aload_n 0, 1) := by decide +kernel
theorem dM_standsOn_36 : decode cM_standsOn 36 = .ok (.iload_n 3, 1) := by decide +kernel
theorem dM_standsOn_37 : decode cM_standsOn 37 = .ok (.invokevirtual 70, 3) := by decide +kernel
theorem dM_standsOn_40 : decode cM_standsOn 40 = .ok (.if_icmp .lt 5, 3) := by decide +kernel
theorem dM_standsOn_43 : decode cM_standsOn 43 = .ok (.iload_n 3, 1) := by decide +kernel
theorem dM_standsOn_44 : decode cM_standsOn 44 = .ok (.ireturn, 1) := by decide +kernel
theorem dM_standsOn_45 : decode cM_standsOn 45 = .ok (.iinc 3 1, 3) := by decide +kernel
theorem dM_standsOn_48 : decode cM_standsOn 48 = .ok (.goto (-46), 3) := by decide +kernel
theorem dM_standsOn_51 : decode cM_standsOn 51 = .ok (.iconst (-1), 1) := by decide +kernel
theorem dM_standsOn_52 : decode cM_standsOn 52 = .ok (.ireturn, 1) := by decide +kernel
theorem dM_occupied_0 : decode cM_occupied 0 = .ok (.iconst 0, 1) := by decide +kernel
theorem dM_occupied_1 : decode cM_occupied 1 = .ok (.istore_n 2, 1) := by decide +kernel
theorem dM_occupied_2 : decode cM_occupied 2 = .ok (.iload_n 2, 1) := by decide +kernel
theorem dM_occupied_3 : decode cM_occupied 3 = .ok (.aload_n 0, 1) := by decide +kernel
theorem dM_occupied_4 : decode cM_occupied 4 = .ok (.getfield 63, 3) := by decide +kernel
theorem dM_occupied_7 : decode cM_occupied 7 = .ok (.if_icmp .ge 45, 3) := by decide +kernel
theorem dM_occupied_10 : decode cM_occupied 10 = .ok (.aload_n 0, 1) := by decide +kernel
theorem dM_occupied_11 : decode cM_occupied 11 = .ok (.getfield 13, 3) := by decide +kernel
theorem dM_occupied_14 : decode cM_occupied 14 = .ok (.iload_n 2, 1) := by decide +kernel
theorem dM_occupied_15 : decode cM_occupied 15 = .ok (.baload, 1) := by decide +kernel
theorem dM_occupied_16 : decode cM_occupied 16 = .ok (.ifCond .eq 30, 3) := by decide +kernel
theorem dM_occupied_19 : decode cM_occupied 19 = .ok (.aload_n 0, 1) := by decide +kernel
theorem dM_occupied_20 : decode cM_occupied 20 = .ok (.getfield 16, 3) := by decide +kernel
theorem dM_occupied_23 : decode cM_occupied 23 = .ok (.iload_n 2, 1) := by decide +kernel
theorem dM_occupied_24 : decode cM_occupied 24 = .ok (.iaload, 1) := by decide +kernel
theorem dM_occupied_25 : decode cM_occupied 25 = .ok (.bipush 30, 2) := by decide +kernel
theorem dM_occupied_27 : decode cM_occupied 27 = .ok (.idiv, 1) := by decide +kernel
theorem dM_occupied_28 : decode cM_occupied 28 = .ok (.iload_n 1, 1) := by decide +kernel
theorem dM_occupied_29 : decode cM_occupied 29 = .ok (.if_icmp .lt 17, 3) := by decide +kernel
theorem dM_occupied_32 : decode cM_occupied 32 = .ok (.aload_n 0, 1) := by decide +kernel
theorem dM_occupied_33 : decode cM_occupied 33 = .ok (.iload_n 2, 1) := by decide +kernel
theorem dM_occupied_34 : decode cM_occupied 34 = .ok (.invokevirtual 70, 3) := by decide +kernel
theorem dM_occupied_37 : decode cM_occupied 37 = .ok (.bipush 30, 2) := by decide +kernel
theorem dM_occupied_39 : decode cM_occupied 39 = .ok (.idiv, 1) := by decide +kernel
theorem dM_occupied_40 : decode cM_occupied 40 = .ok (.iload_n 1, 1) := by decide +kernel
theorem dM_occupied_41 : decode cM_occupied 41 = .ok (.if_icmp .gt 5, 3) := by decide +kernel
theorem dM_occupied_44 : decode cM_occupied 44 = .ok (.iconst 1, 1) := by decide +kernel
theorem dM_occupied_45 : decode cM_occupied 45 = .ok (.ireturn, 1) := by decide +kernel
theorem dM_occupied_46 : decode cM_occupied 46 = .ok (.iinc 2 1, 3) := by decide +kernel
theorem dM_occupied_49 : decode cM_occupied 49 = .ok (.goto (-47), 3) := by decide +kernel
theorem dM_occupied_52 : decode cM_occupied 52 = .ok (.iconst 0, 1) := by decide +kernel
theorem dM_occupied_53 : decode cM_occupied 53 = .ok (.ireturn, 1) := by decide +kernel
theorem dM_mute_0 : decode cM_mute 0 = .ok (.aload_n 0, 1) := by decide +kernel
theorem dM_mute_1 : decode cM_mute 1 = .ok (.getfield 44, 3) := by decide +kernel
theorem dM_mute_4 : decode cM_mute 4 = .ok (.iload_n 1, 1) := by decide +kernel
theorem dM_mute_5 : decode cM_mute 5 = .ok (.iaload, 1) := by decide +kernel
theorem dM_mute_6 : decode cM_mute 6 = .ok (.iconst 5, 1) := by decide +kernel
theorem dM_mute_7 : decode cM_mute 7 = .ok (.if_icmp .le 7, 3) := by decide +kernel
theorem dM_mute_10 : decode cM_mute 10 = .ok (.iconst 1, 1) := by decide +kernel
theorem dM_mute_11 : decode cM_mute 11 = .ok (.goto 4, 3) := by decide +kernel
theorem dM_mute_14 : decode cM_mute 14 = .ok (.iconst 0, 1) := by decide +kernel
theorem dM_mute_15 : decode cM_mute 15 = .ok (.ireturn, 1) := by decide +kernel
theorem dM_located_0 : decode cM_located 0 = .ok (.aload_n 0, 1) := by decide +kernel
theorem dM_located_1 : decode cM_located 1 = .ok (.getfield 7, 3) := by decide +kernel
theorem dM_located_4 : decode cM_located 4 = .ok (.iload_n 1, 1) := by decide +kernel
theorem dM_located_5 : decode cM_located 5 = .ok (.baload, 1) := by decide +kernel
theorem dM_located_6 : decode cM_located 6 = .ok (.ifCond .eq 41, 3) := by decide +kernel
theorem dM_located_9 : decode cM_located 9 = .ok (.aload_n 0, 1) := by decide +kernel
theorem dM_located_10 : decode cM_located 10 = .ok (.iload_n 1, 1) := by decide +kernel
theorem dM_located_11 : decode cM_located 11 = .ok (.invokevirtual 74, 3) := by decide +kernel
theorem dM_located_14 : decode cM_located 14 = .ok (.ifCond .ne 33, 3) := by decide +kernel
theorem dM_located_17 : decode cM_located 17 = .ok (.aload_n 0, 1) := by decide +kernel
theorem dM_located_18 : decode cM_located 18 = .ok (.getfield 38, 3) := by decide +kernel
theorem dM_located_21 : decode cM_located 21 = .ok (.iload_n 1, 1) := by decide +kernel
theorem dM_located_22 : decode cM_located 22 = .ok (.iaload, 1) := by decide +kernel
theorem dM_located_23 : decode cM_located 23 = .ok (.bipush 10, 2) := by decide +kernel
theorem dM_located_25 : decode cM_located 25 = .ok (.idiv, 1) := by decide +kernel
theorem dM_located_26 : decode cM_located 26 = .ok (.iload_n 2, 1) := by decide +kernel
theorem dM_located_27 : decode cM_located 27 = .ok (.if_icmp .gt 20, 3) := by decide +kernel
theorem dM_located_30 : decode cM_located 30 = .ok (.aload_n 0, 1) := by decide +kernel
theorem dM_located_31 : decode cM_located 31 = .ok (.getfield 35, 3) := by decide +kernel
theorem dM_located_34 : decode cM_located 34 = .ok (.iload_n 1, 1) := by decide +kernel
theorem dM_located_35 : decode cM_located 35 = .ok (.iaload, 1) := by decide +kernel
theorem dM_located_36 : decode cM_located 36 = .ok (.bipush 10, 2) := by decide +kernel
theorem dM_located_38 : decode cM_located 38 = .ok (.idiv, 1) := by decide +kernel
theorem dM_located_39 : decode cM_located 39 = .ok (.iload_n 2, 1) := by decide +kernel
theorem dM_located_40 : decode cM_located 40 = .ok (.if_icmp .lt 7, 3) := by decide +kernel
theorem dM_located_43 : decode cM_located 43 = .ok (.iconst 1, 1) := by decide +kernel
theorem dM_located_44 : decode cM_located 44 = .ok (.goto 4, 3) := by decide +kernel
theorem dM_located_47 : decode cM_located 47 = .ok (.iconst 0, 1) := by decide +kernel
theorem dM_located_48 : decode cM_located 48 = .ok (.ireturn, 1) := by decide +kernel
theorem dM_claims_0 : decode cM_claims 0 = .ok (.aload_n 0, 1) := by decide +kernel
theorem dM_claims_1 : decode cM_claims 1 = .ok (.getfield 7, 3) := by decide +kernel
theorem dM_claims_4 : decode cM_claims 4 = .ok (.iload_n 1, 1) := by decide +kernel
theorem dM_claims_5 : decode cM_claims 5 = .ok (.baload, 1) := by decide +kernel
theorem dM_claims_6 : decode cM_claims 6 = .ok (.ifCond .eq 33, 3) := by decide +kernel
theorem dM_claims_9 : decode cM_claims 9 = .ok (.aload_n 0, 1) := by decide +kernel
theorem dM_claims_10 : decode cM_claims 10 = .ok (.getfield 38, 3) := by decide +kernel
theorem dM_claims_13 : decode cM_claims 13 = .ok (.iload_n 1, 1) := by decide +kernel
theorem dM_claims_14 : decode cM_claims 14 = .ok (.iaload, 1) := by decide +kernel
theorem dM_claims_15 : decode cM_claims 15 = .ok (.bipush 10, 2) := by decide +kernel
theorem dM_claims_17 : decode cM_claims 17 = .ok (.idiv, 1) := by decide +kernel
theorem dM_claims_18 : decode cM_claims 18 = .ok (.iload_n 2, 1) := by decide +kernel
theorem dM_claims_19 : decode cM_claims 19 = .ok (.if_icmp .gt 20, 3) := by decide +kernel
theorem dM_claims_22 : decode cM_claims 22 = .ok (.aload_n 0, 1) := by decide +kernel
theorem dM_claims_23 : decode cM_claims 23 = .ok (.getfield 26, 3) := by decide +kernel
theorem dM_claims_26 : decode cM_claims 26 = .ok (.iload_n 1, 1) := by decide +kernel
theorem dM_claims_27 : decode cM_claims 27 = .ok (.iaload, 1) := by decide +kernel
theorem dM_claims_28 : decode cM_claims 28 = .ok (.bipush 10, 2) := by decide +kernel
theorem dM_claims_30 : decode cM_claims 30 = .ok (.idiv, 1) := by decide +kernel
theorem dM_claims_31 : decode cM_claims 31 = .ok (.iload_n 2, 1) := by decide +kernel
theorem dM_claims_32 : decode cM_claims 32 = .ok (.if_icmp .lt 7, 3) := by decide +kernel
theorem dM_claims_35 : decode cM_claims 35 = .ok (.iconst 1, 1) := by decide +kernel
theorem dM_claims_36 : decode cM_claims 36 = .ok (.goto 4, 3) := by decide +kernel
theorem dM_claims_39 : decode cM_claims 39 = .ok (.iconst 0, 1) := by decide +kernel
theorem dM_claims_40 : decode cM_claims 40 = .ok (.ireturn, 1) := by decide +kernel
theorem dM_claimed_0 : decode cM_claimed 0 = .ok (.iconst 0, 1) := by decide +kernel
theorem dM_claimed_1 : decode cM_claimed 1 = .ok (.istore_n 3, 1) := by decide +kernel
theorem dM_claimed_2 : decode cM_claimed 2 = .ok (.iload_n 3, 1) := by decide +kernel
theorem dM_claimed_3 : decode cM_claimed 3 = .ok (.aload_n 0, 1) := by decide +kernel
theorem dM_claimed_4 : decode cM_claimed 4 = .ok (.getfield 63, 3) := by decide +kernel
theorem dM_claimed_7 : decode cM_claimed 7 = .ok (.if_icmp .ge 25, 3) := by decide +kernel
theorem dM_claimed_10 : decode cM_claimed 10 = .ok (.iload_n 3, 1) := by decide +kernel
theorem dM_claimed_11 : decode cM_claimed 11 = .ok (.iload_n 2, 1) := by decide +kernel
theorem dM_claimed_12 : decode cM_claimed 12 = .ok (.if_icmp .eq 14, 3) := by decide +kernel
theorem dM_claimed_15 : decode cM_claimed 15 = .ok (.aload_n 0, 1) := by decide +kernel
theorem dM_claimed_16 : decode cM_claimed 16 = .ok (.iload_n 3, 1) := by decide +kernel
theorem dM_claimed_17 : decode cM_claimed 17 = .ok (.iload_n 1, 1) := by decide +kernel
theorem dM_claimed_18 : decode cM_claimed 18 = .ok (.invokevirtual 78, 3) := by decide +kernel
theorem dM_claimed_21 : decode cM_claimed 21 = .ok (.ifCond .eq 5, 3) := by decide +kernel
theorem dM_claimed_24 : decode cM_claimed 24 = .ok (.iconst 1, 1) := by decide +kernel
theorem dM_claimed_25 : decode cM_claimed 25 = .ok (.ireturn, 1) := by decide +kernel
theorem dM_claimed_26 : decode cM_claimed 26 = .ok (.iinc 3 1, 3) := by decide +kernel
theorem dM_claimed_29 : decode cM_claimed 29 = .ok (.goto (-27), 3) := by decide +kernel
theorem dM_claimed_32 : decode cM_claimed 32 = .ok (.iconst 0, 1) := by decide +kernel
theorem dM_claimed_33 : decode cM_claimed 33 = .ok (.ireturn, 1) := by decide +kernel
theorem dM_left_0 : decode cM_left 0 = .ok (.iconst 0, 1) := by decide +kernel
theorem dM_left_1 : decode cM_left 1 = .ok (.istore_n 2, 1) := by decide +kernel
theorem dM_left_2 : decode cM_left 2 = .ok (.iload_n 2, 1) := by decide +kernel
theorem dM_left_3 : decode cM_left 3 = .ok (.aload_n 0, 1) := by decide +kernel
theorem dM_left_4 : decode cM_left 4 = .ok (.getfield 63, 3) := by decide +kernel
theorem dM_left_7 : decode cM_left 7 = .ok (.if_icmp .ge 76, 3) := by decide +kernel
theorem dM_left_10 : decode cM_left 10 = .ok (.aload_n 0, 1) := by decide +kernel
theorem dM_left_11 : decode cM_left 11 = .ok (.getfield 7, 3) := by decide +kernel
theorem dM_left_14 : decode cM_left 14 = .ok (.iload_n 2, 1) := by decide +kernel
theorem dM_left_15 : decode cM_left 15 = .ok (.baload, 1) := by decide +kernel
theorem dM_left_16 : decode cM_left 16 = .ok (.ifCond .eq 61, 3) := by decide +kernel
theorem dM_left_19 : decode cM_left 19 = .ok (.aload_n 0, 1) := by decide +kernel
theorem dM_left_20 : decode cM_left 20 = .ok (.getfield 44, 3) := by decide +kernel
theorem dM_left_23 : decode cM_left 23 = .ok (.iload_n 2, 1) := by decide +kernel
theorem dM_left_24 : decode cM_left 24 = .ok (.iaload, 1) := by decide +kernel
theorem dM_left_25 : decode cM_left 25 = .ok (.ifCond .ne 52, 3) := by decide +kernel
theorem dM_left_28 : decode cM_left 28 = .ok (.aload_n 0, 1) := by decide +kernel
theorem dM_left_29 : decode cM_left 29 = .ok (.getfield 41, 3) := by decide +kernel
theorem dM_left_32 : decode cM_left 32 = .ok (.iload_n 2, 1) := by decide +kernel
theorem dM_left_33 : decode cM_left 33 = .ok (.baload, 1) := by decide +kernel
theorem dM_left_34 : decode cM_left 34 = .ok (.ifCond .ne 43, 3) := by decide +kernel
theorem dM_left_37 : decode cM_left 37 = .ok (.aload_n 0, 1) := by decide +kernel
theorem dM_left_38 : decode cM_left 38 = .ok (.getfield 47, 3) := by decide +kernel
theorem dM_left_41 : decode cM_left 41 = .ok (.iload_n 2, 1) := by decide +kernel
theorem dM_left_42 : decode cM_left 42 = .ok (.iaload, 1) := by decide +kernel
theorem dM_left_43 : decode cM_left 43 = .ok (.ifCond .ge 6, 3) := by decide +kernel
theorem dM_left_46 : decode cM_left 46 = .ok (.goto 31, 3) := by decide +kernel
theorem dM_left_49 : decode cM_left 49 = .ok (.aload_n 0, 1) := by decide +kernel
theorem dM_left_50 : decode cM_left 50 = .ok (.getfield 47, 3) := by decide +kernel
theorem dM_left_53 : decode cM_left 53 = .ok (.iload_n 2, 1) := by decide +kernel
theorem dM_left_54 : decode cM_left 54 = .ok (.iaload, 1) := by decide +kernel
theorem dM_left_55 : decode cM_left 55 = .ok (.bipush 10, 2) := by decide +kernel
theorem dM_left_57 : decode cM_left 57 = .ok (.idiv, 1) := by decide +kernel
theorem dM_left_58 : decode cM_left 58 = .ok (.iload_n 1, 1) := by decide +kernel
theorem dM_left_59 : decode cM_left 59 = .ok (.if_icmp .gt 18, 3) := by decide +kernel
theorem dM_left_62 : decode cM_left 62 = .ok (.iload_n 1, 1) := by decide +kernel
theorem dM_left_63 : decode cM_left 63 = .ok (.aload_n 0, 1) := by decide +kernel
theorem dM_left_64 : decode cM_left 64 = .ok (.getfield 38, 3) := by decide +kernel
theorem dM_left_67 : decode cM_left 67 = .ok (.iload_n 2, 1) := by decide +kernel
theorem dM_left_68 : decode cM_left 68 = .ok (.iaload, 1) := by decide +kernel
theorem dM_left_69 : decode cM_left 69 = .ok (.bipush 10, 2) := by decide +kernel
theorem dM_left_71 : decode cM_left 71 = .ok (.idiv, 1) := by decide +kernel
theorem dM_left_72 : decode cM_left 72 = .ok (.if_icmp .ge 5, 3) := by decide +kernel
theorem dM_left_75 : decode cM_left 75 = .ok (.iconst 1, 1) := by decide +kernel
theorem dM_left_76 : decode cM_left 76 = .ok (.ireturn, 1) := by decide +kernel
theorem dM_left_77 : decode cM_left 77 = .ok (.iinc 2 1, 3) := by decide +kernel
theorem dM_left_80 : decode cM_left 80 = .ok (.goto (-78), 3) := by decide +kernel
theorem dM_left_83 : decode cM_left 83 = .ok (.iconst 0, 1) := by decide +kernel
theorem dM_left_84 : decode cM_left 84 = .ok (.ireturn, 1) := by decide +kernel
theorem dM_accounted_0 : decode cM_accounted 0 = .ok (.iconst 0, 1) := by decide +kernel
theorem dM_accounted_1 : decode cM_accounted 1 = .ok (.istore_n 2, 1) := by decide +kernel
theorem dM_accounted_2 : decode cM_accounted 2 = .ok (.iload_n 2, 1) := by decide +kernel
theorem dM_accounted_3 : decode cM_accounted 3 = .ok (.aload_n 0, 1) := by decide +kernel
theorem dM_accounted_4 : decode cM_accounted 4 = .ok (.getfield 63, 3) := by decide +kernel
theorem dM_accounted_7 : decode cM_accounted 7 = .ok (.if_icmp .ge 65, 3) := by decide +kernel
theorem dM_accounted_10 : decode cM_accounted 10 = .ok (.iconst 3, 1) := by decide +kernel
theorem dM_accounted_11 : decode cM_accounted 11 = .ok (.iload_n 1, 1) := by decide +kernel
theorem dM_accounted_12 : decode cM_accounted 12 = .ok (.imul, 1) := by decide +kernel
theorem dM_accounted_13 : decode cM_accounted 13 = .ok (.istore_n 3, 1) := by decide +kernel
theorem dM_accounted_14 : decode cM_accounted 14 = .ok (.iload_n 3, 1) := by decide +kernel
theorem dM_accounted_15 : decode cM_accounted 15 = .ok (.iconst 3, 1) := by decide +kernel
theorem dM_accounted_16 : decode cM_accounted 16 = .ok (.iload_n 1, 1) := by decide +kernel
theorem dM_accounted_17 : decode cM_accounted 17 = .ok (.imul, 1) := by decide +kernel
theorem dM_accounted_18 : decode cM_accounted 18 = .ok (.iconst 3, 1) := by decide +kernel
theorem dM_accounted_19 : decode cM_accounted 19 = .ok (.iadd, 1) := by decide +kernel
theorem dM_accounted_20 : decode cM_accounted 20 = .ok (.if_icmp .ge 46, 3) := by decide +kernel
theorem dM_accounted_23 : decode cM_accounted 23 = .ok (.aload_n 0, 1) := by decide +kernel
theorem dM_accounted_24 : decode cM_accounted 24 = .ok (.iload_n 2, 1) := by decide +kernel
theorem dM_accounted_25 : decode cM_accounted 25 = .ok (.iload_n 3, 1) := by decide +kernel
theorem dM_accounted_26 : decode cM_accounted 26 = .ok (.invokevirtual 82, 3) := by decide +kernel
theorem dM_accounted_29 : decode cM_accounted 29 = .ok (.ifCond .ne 29, 3) := by decide +kernel
theorem dM_accounted_32 : decode cM_accounted 32 = .ok (.aload_n 0, 1) := by decide +kernel
theorem dM_accounted_33 : decode cM_accounted 33 = .ok (.getfield 7, 3) := by decide +kernel
theorem dM_accounted_36 : decode cM_accounted 36 = .ok (.iload_n 2, 1) := by decide +kernel
theorem dM_accounted_37 : decode cM_accounted 37 = .ok (.baload, 1) := by decide +kernel
theorem dM_accounted_38 : decode cM_accounted 38 = .ok (.ifCond .eq 22, 3) := by decide +kernel
theorem dM_accounted_41 : decode cM_accounted 41 = .ok (.aload_n 0, 1) := by decide +kernel
theorem dM_accounted_42 : decode cM_accounted 42 = .ok (.iload_n 2, 1) := by decide +kernel
theorem dM_accounted_43 : decode cM_accounted 43 = .ok (.invokevirtual 74, 3) := by decide +kernel
theorem dM_accounted_46 : decode cM_accounted 46 = .ok (.ifCond .eq 14, 3) := by decide +kernel
theorem dM_accounted_49 : decode cM_accounted 49 = .ok (.aload_n 0, 1) := by decide +kernel
theorem dM_accounted_50 : decode cM_accounted 50 = .ok (.iload_n 2, 1) := by decide +kernel
theorem dM_accounted_51 : decode cM_accounted 51 = .ok (.iload_n 3, 1) := by decide +kernel
theorem dM_accounted_52 : decode cM_accounted 52 = .ok (.invokevirtual 78, 3) := by decide +kernel
theorem dM_accounted_55 : decode cM_accounted 55 = .ok (.ifCond .eq 5, 3) := by decide +kernel
theorem dM_accounted_58 : decode cM_accounted 58 = .ok (.iconst 1, 1) := by decide +kernel
theorem dM_accounted_59 : decode cM_accounted 59 = .ok (.ireturn, 1) := by decide +kernel
theorem dM_accounted_60 : decode cM_accounted 60 = .ok (.iinc 3 1, 3) := by decide +kernel
theorem dM_accounted_63 : decode cM_accounted 63 = .ok (.goto (-49), 3) := by decide +kernel
theorem dM_accounted_66 : decode cM_accounted 66 = .ok (.iinc 2 1, 3) := by decide +kernel
theorem dM_accounted_69 : decode cM_accounted 69 = .ok (.goto (-67), 3) := by decide +kernel
theorem dM_accounted_72 : decode cM_accounted 72 = .ok (.iconst 0, 1) := by decide +kernel
theorem dM_accounted_73 : decode cM_accounted 73 = .ok (.ireturn, 1) := by decide +kernel
theorem dM_many_0 : decode cM_many 0 = .ok (.iconst 0, 1) := by decide +kernel
theorem dM_many_1 : decode cM_many 1 = .ok (.istore_n 2, 1) := by decide +kernel
theorem dM_many_2 : decode cM_many 2 = .ok (.iconst 0, 1) := by decide +kernel
theorem dM_many_3 : decode cM_many 3 = .ok (.istore_n 3, 1) := by decide +kernel
theorem dM_many_4 : decode cM_many 4 = .ok (.iconst 0, 1) := by decide +kernel
theorem dM_many_5 : decode cM_many 5 = .ok (.istore 4, 2) := by decide +kernel
theorem dM_many_7 : decode cM_many 7 = .ok (.iload 4, 2) := by decide +kernel
theorem dM_many_9 : decode cM_many 9 = .ok (.aload_n 0, 1) := by decide +kernel
theorem dM_many_10 : decode cM_many 10 = .ok (.getfield 63, 3) := by decide +kernel
theorem dM_many_13 : decode cM_many 13 = .ok (.if_icmp .ge 28, 3) := by decide +kernel
theorem dM_many_16 : decode cM_many 16 = .ok (.aload_n 0, 1) := by decide +kernel
theorem dM_many_17 : decode cM_many 17 = .ok (.iload 4, 2) := by decide +kernel
theorem dM_many_19 : decode cM_many 19 = .ok (.iload_n 1, 1) := by decide +kernel
theorem dM_many_20 : decode cM_many 20 = .ok (.invokevirtual 82, 3) := by decide +kernel
theorem dM_many_23 : decode cM_many 23 = .ok (.ifCond .ne 6, 3) := by decide +kernel
theorem dM_many_26 : decode cM_many 26 = .ok (.goto 9, 3) := by decide +kernel
theorem dM_many_29 : decode cM_many 29 = .ok (.iinc 2 1, 3) := by decide +kernel
theorem dM_many_32 : decode cM_many 32 = .ok (.iload 4, 2) := by decide +kernel
theorem dM_many_34 : decode cM_many 34 = .ok (.istore_n 3, 1) := by decide +kernel
theorem dM_many_35 : decode cM_many 35 = .ok (.iinc 4 1, 3) := by decide +kernel
theorem dM_many_38 : decode cM_many 38 = .ok (.goto (-31), 3) := by decide +kernel
theorem dM_many_41 : decode cM_many 41 = .ok (.iload_n 2, 1) := by decide +kernel
theorem dM_many_42 : decode cM_many 42 = .ok (.iconst 1, 1) := by decide +kernel
theorem dM_many_43 : decode cM_many 43 = .ok (.if_icmp .ne 10, 3) := by decide +kernel
theorem dM_many_46 : decode cM_many 46 = .ok (.iload_n 3, 1) := by decide +kernel
theorem dM_many_47 : decode cM_many 47 = .ok (.bipush 100, 2) := by decide +kernel
theorem dM_many_49 : decode cM_many 49 = .ok (.isub, 1) := by decide +kernel
theorem dM_many_50 : decode cM_many 50 = .ok (.goto 4, 3) := by decide +kernel
theorem dM_many_53 : decode cM_many 53 = .ok (.iload_n 2, 1) := by decide +kernel
theorem dM_many_54 : decode cM_many 54 = .ok (.ireturn, 1) := by decide +kernel
theorem dM_found_0 : decode cM_found 0 = .ok (.aload_n 0, 1) := by decide +kernel
theorem dM_found_1 : decode cM_found 1 = .ok (.iload_n 1, 1) := by decide +kernel
theorem dM_found_2 : decode cM_found 2 = .ok (.iconst 3, 1) := by decide +kernel
theorem dM_found_3 : decode cM_found 3 = .ok (.idiv, 1) := by decide +kernel
theorem dM_found_4 : decode cM_found 4 = .ok (.invokevirtual 85, 3) := by decide +kernel
theorem dM_found_7 : decode cM_found 7 = .ok (.ifCond .ne 5, 3) := by decide +kernel
theorem dM_found_10 : decode cM_found 10 = .ok (.iconst 0, 1) := by decide +kernel
theorem dM_found_11 : decode cM_found 11 = .ok (.ireturn, 1) := by decide +kernel
theorem dM_found_12 : decode cM_found 12 = .ok (.aload_n 0, 1) := by decide +kernel
theorem dM_found_13 : decode cM_found 13 = .ok (.iload_n 1, 1) := by decide +kernel
theorem dM_found_14 : decode cM_found 14 = .ok (.invokevirtual 88, 3) := by decide +kernel
theorem dM_found_17 : decode cM_found 17 = .ok (.istore_n 2, 1) := by decide +kernel
theorem dM_found_18 : decode cM_found 18 = .ok (.iload_n 2, 1) := by decide +kernel
theorem dM_found_19 : decode cM_found 19 = .ok (.ifCond .eq 35, 3) := by decide +kernel
theorem dM_found_22 : decode cM_found 22 = .ok (.iload_n 2, 1) := by decide +kernel
theorem dM_found_23 : decode cM_found 23 = .ok (.ifCond .ge 29, 3) := by decide +kernel
theorem dM_found_26 : decode cM_found 26 = .ok (.aload_n 0, 1) := by decide +kernel
theorem dM_found_27 : decode cM_found 27 = .ok (.getfield 41, 3) := by decide +kernel
theorem dM_found_30 : decode cM_found 30 = .ok (.iload_n 2, 1) := by decide +kernel
theorem dM_found_31 : decode cM_found 31 = .ok (.bipush 100, 2) := by decide +kernel
theorem dM_found_33 : decode cM_found 33 = .ok (.iadd, 1) := by decide +kernel
theorem dM_found_34 : decode cM_found 34 = .ok (.baload, 1) := by decide +kernel
theorem dM_found_35 : decode cM_found 35 = .ok (.ifCond .eq 17, 3) := by decide +kernel
theorem dM_found_38 : decode cM_found 38 = .ok (.aload_n 0, 1) := by decide +kernel
theorem dM_found_39 : decode cM_found 39 = .ok (.getfield 50, 3) := by decide +kernel
theorem dM_found_42 : decode cM_found 42 = .ok (.iload_n 1, 1) := by decide +kernel
theorem dM_found_43 : decode cM_found 43 = .ok (.iaload, 1) := by decide +kernel
theorem dM_found_44 : decode cM_found 44 = .ok (.iconst 2, 1) := by decide +kernel
theorem dM_found_45 : decode cM_found 45 = .ok (.if_icmp .ge 7, 3) := by decide +kernel
theorem dM_found_48 : decode cM_found 48 = .ok (.iconst 1, 1) := by decide +kernel
theorem dM_found_49 : decode cM_found 49 = .ok (.goto 4, 3) := by decide +kernel
theorem dM_found_52 : decode cM_found 52 = .ok (.iconst 2, 1) := by decide +kernel
theorem dM_found_53 : decode cM_found 53 = .ok (.ireturn, 1) := by decide +kernel
theorem dM_found_54 : decode cM_found 54 = .ok (.aload_n 0, 1) := by decide +kernel
theorem dM_found_55 : decode cM_found 55 = .ok (.getfield 50, 3) := by decide +kernel
theorem dM_found_58 : decode cM_found 58 = .ok (.iload_n 1, 1) := by decide +kernel
theorem dM_found_59 : decode cM_found 59 = .ok (.iaload, 1) := by decide +kernel
theorem dM_found_60 : decode cM_found 60 = .ok (.ifCond .ne 27, 3) := by decide +kernel
theorem dM_found_63 : decode cM_found 63 = .ok (.aload_n 0, 1) := by decide +kernel
theorem dM_found_64 : decode cM_found 64 = .ok (.iload_n 1, 1) := by decide +kernel
theorem dM_found_65 : decode cM_found 65 = .ok (.iconst 3, 1) := by decide +kernel
theorem dM_found_66 : decode cM_found 66 = .ok (.idiv, 1) := by decide +kernel
theorem dM_found_67 : decode cM_found 67 = .ok (.invokevirtual 91, 3) := by decide +kernel
theorem dM_found_70 : decode cM_found 70 = .ok (.ifCond .eq 15, 3) := by decide +kernel
theorem dM_found_73 : decode cM_found 73 = .ok (.aload_n 0, 1) := by decide +kernel
theorem dM_found_74 : decode cM_found 74 = .ok (.iload_n 1, 1) := by decide +kernel
theorem dM_found_75 : decode cM_found 75 = .ok (.invokevirtual 94, 3) := by decide +kernel
theorem dM_found_78 : decode cM_found 78 = .ok (.ifCond .ne 7, 3) := by decide +kernel
theorem dM_found_81 : decode cM_found 81 = .ok (.iconst 0, 1) := by decide +kernel
theorem dM_found_82 : decode cM_found 82 = .ok (.goto 4, 3) := by decide +kernel
theorem dM_found_85 : decode cM_found 85 = .ok (.iconst 3, 1) := by decide +kernel
theorem dM_found_86 : decode cM_found 86 = .ok (.ireturn, 1) := by decide +kernel
theorem dM_found_87 : decode cM_found 87 = .ok (.aload_n 0, 1) := by decide +kernel
theorem dM_found_88 : decode cM_found 88 = .ok (.getfield 50, 3) := by decide +kernel
theorem dM_found_91 : decode cM_found 91 = .ok (.iload_n 1, 1) := by decide +kernel
theorem dM_found_92 : decode cM_found 92 = .ok (.iaload, 1) := by decide +kernel
theorem dM_found_93 : decode cM_found 93 = .ok (.iconst 1, 1) := by decide +kernel
theorem dM_found_94 : decode cM_found 94 = .ok (.if_icmp .gt 12, 3) := by decide +kernel
theorem dM_found_97 : decode cM_found 97 = .ok (.aload_n 0, 1) := by decide +kernel
theorem dM_found_98 : decode cM_found 98 = .ok (.getfield 56, 3) := by decide +kernel
theorem dM_found_101 : decode cM_found 101 = .ok (.iload_n 1, 1) := by decide +kernel
theorem dM_found_102 : decode cM_found 102 = .ok (.iaload, 1) := by decide +kernel
theorem dM_found_103 : decode cM_found 103 = .ok (.ifCond .ge 5, 3) := by decide +kernel
theorem dM_found_106 : decode cM_found 106 = .ok (.iconst 3, 1) := by decide +kernel
theorem dM_found_107 : decode cM_found 107 = .ok (.ireturn, 1) := by decide +kernel
theorem dM_found_108 : decode cM_found 108 = .ok (.aload_n 0, 1) := by decide +kernel
theorem dM_found_109 : decode cM_found 109 = .ok (.getfield 44, 3) := by decide +kernel
theorem dM_found_112 : decode cM_found 112 = .ok (.aload_n 0, 1) := by decide +kernel
theorem dM_found_113 : decode cM_found 113 = .ok (.getfield 56, 3) := by decide +kernel
theorem dM_found_116 : decode cM_found 116 = .ok (.iload_n 1, 1) := by decide +kernel
theorem dM_found_117 : decode cM_found 117 = .ok (.iaload, 1) := by decide +kernel
theorem dM_found_118 : decode cM_found 118 = .ok (.iaload, 1) := by decide +kernel
theorem dM_found_119 : decode cM_found 119 = .ok (.ifCond .ne 21, 3) := by decide +kernel
theorem dM_found_122 : decode cM_found 122 = .ok (.aload_n 0, 1) := by decide +kernel
theorem dM_found_123 : decode cM_found 123 = .ok (.getfield 41, 3) := by decide +kernel
theorem dM_found_126 : decode cM_found 126 = .ok (.aload_n 0, 1) := by decide +kernel
theorem dM_found_127 : decode cM_found 127 = .ok (.getfield 56, 3) := by decide +kernel
theorem dM_found_130 : decode cM_found 130 = .ok (.iload_n 1, 1) := by decide +kernel
theorem dM_found_131 : decode cM_found 131 = .ok (.iaload, 1) := by decide +kernel
theorem dM_found_132 : decode cM_found 132 = .ok (.baload, 1) := by decide +kernel
theorem dM_found_133 : decode cM_found 133 = .ok (.ifCond .eq 7, 3) := by decide +kernel
theorem dM_found_136 : decode cM_found 136 = .ok (.iconst 0, 1) := by decide +kernel
theorem dM_found_137 : decode cM_found 137 = .ok (.goto 4, 3) := by decide +kernel
theorem dM_found_140 : decode cM_found 140 = .ok (.iconst 3, 1) := by decide +kernel
theorem dM_found_141 : decode cM_found 141 = .ok (.ireturn, 1) := by decide +kernel
theorem dM_findStates_0 : decode cM_findStates 0 = .ok (.iconst 0, 1) := by decide +kernel
theorem dM_findStates_1 : decode cM_findStates 1 = .ok (.istore_n 1, 1) := by decide +kernel
theorem dM_findStates_2 : decode cM_findStates 2 = .ok (.iload_n 1, 1) := by decide +kernel
theorem dM_findStates_3 : decode cM_findStates 3 = .ok (.bipush 12, 2) := by decide +kernel
theorem dM_findStates_5 : decode cM_findStates 5 = .ok (.if_icmp .ge 20, 3) := by decide +kernel
theorem dM_findStates_8 : decode cM_findStates 8 = .ok (.aload_n 0, 1) := by decide +kernel
theorem dM_findStates_9 : decode cM_findStates 9 = .ok (.getfield 53, 3) := by decide +kernel
theorem dM_findStates_12 : decode cM_findStates 12 = .ok (.iload_n 1, 1) := by decide +kernel
theorem dM_findStates_13 : decode cM_findStates 13 = .ok (.aload_n 0, 1) := by decide +kernel
theorem dM_findStates_14 : decode cM_findStates 14 = .ok (.iload_n 1, 1) := by decide +kernel
theorem dM_findStates_15 : decode cM_findStates 15 = .ok (.invokevirtual 97, 3) := by decide +kernel
theorem dM_findStates_18 : decode cM_findStates 18 = .ok (.iastore, 1) := by decide +kernel
theorem dM_findStates_19 : decode cM_findStates 19 = .ok (.iinc 1 1, 3) := by decide +kernel
theorem dM_findStates_22 : decode cM_findStates 22 = .ok (.goto (-20), 3) := by decide +kernel
theorem dM_findStates_25 : decode cM_findStates 25 = .ok (.iconst 0, 1) := by decide +kernel
theorem dM_findStates_26 : decode cM_findStates 26 = .ok (.istore_n 1, 1) := by decide +kernel
theorem dM_findStates_27 : decode cM_findStates 27 = .ok (.iload_n 1, 1) := by decide +kernel
theorem dM_findStates_28 : decode cM_findStates 28 = .ok (.bipush 12, 2) := by decide +kernel
theorem dM_findStates_30 : decode cM_findStates 30 = .ok (.if_icmp .ge 116, 3) := by decide +kernel
theorem dM_findStates_33 : decode cM_findStates 33 = .ok (.aload_n 0, 1) := by decide +kernel
theorem dM_findStates_34 : decode cM_findStates 34 = .ok (.getfield 50, 3) := by decide +kernel
theorem dM_findStates_37 : decode cM_findStates 37 = .ok (.iload_n 1, 1) := by decide +kernel
theorem dM_findStates_38 : decode cM_findStates 38 = .ok (.aload_n 0, 1) := by decide +kernel
theorem dM_findStates_39 : decode cM_findStates 39 = .ok (.getfield 53, 3) := by decide +kernel
theorem dM_findStates_42 : decode cM_findStates 42 = .ok (.iload_n 1, 1) := by decide +kernel
theorem dM_findStates_43 : decode cM_findStates 43 = .ok (.iaload, 1) := by decide +kernel
theorem dM_findStates_44 : decode cM_findStates 44 = .ok (.iastore, 1) := by decide +kernel
theorem dM_findStates_45 : decode cM_findStates 45 = .ok (.aload_n 0, 1) := by decide +kernel
theorem dM_findStates_46 : decode cM_findStates 46 = .ok (.iload_n 1, 1) := by decide +kernel
theorem dM_findStates_47 : decode cM_findStates 47 = .ok (.invokevirtual 88, 3) := by decide +kernel
theorem dM_findStates_50 : decode cM_findStates 50 = .ok (.istore_n 2, 1) := by decide +kernel
theorem dM_findStates_51 : decode cM_findStates 51 = .ok (.aload_n 0, 1) := by decide +kernel
theorem dM_findStates_52 : decode cM_findStates 52 = .ok (.getfield 56, 3) := by decide +kernel
theorem dM_findStates_55 : decode cM_findStates 55 = .ok (.iload_n 1, 1) := by decide +kernel
theorem dM_findStates_56 : decode cM_findStates 56 = .ok (.iload_n 2, 1) := by decide +kernel
theorem dM_findStates_57 : decode cM_findStates 57 = .ok (.ifCond .ge 10, 3) := by decide +kernel
theorem dM_findStates_60 : decode cM_findStates 60 = .ok (.iload_n 2, 1) := by decide +kernel
theorem dM_findStates_61 : decode cM_findStates 61 = .ok (.bipush 100, 2) := by decide +kernel
theorem dM_findStates_63 : decode cM_findStates 63 = .ok (.iadd, 1) := by decide +kernel
theorem dM_findStates_64 : decode cM_findStates 64 = .ok (.goto 4, 3) := by decide +kernel
theorem dM_findStates_67 : decode cM_findStates 67 = .ok (.iconst (-1), 1) := by decide +kernel
theorem dM_findStates_68 : decode cM_findStates 68 = .ok (.iastore, 1) := by decide +kernel
theorem dM_findStates_69 : decode cM_findStates 69 = .ok (.aload_n 0, 1) := by decide +kernel
theorem dM_findStates_70 : decode cM_findStates 70 = .ok (.getfield 53, 3) := by decide +kernel
theorem dM_findStates_73 : decode cM_findStates 73 = .ok (.iload_n 1, 1) := by decide +kernel
theorem dM_findStates_74 : decode cM_findStates 74 = .ok (.iaload, 1) := by decide +kernel
theorem dM_findStates_75 : decode cM_findStates 75 = .ok (.ifCond .ne 65, 3) := by decide +kernel
theorem dM_findStates_78 : decode cM_findStates 78 = .ok (.aload_n 0, 1) := by decide +kernel
theorem dM_findStates_79 : decode cM_findStates 79 = .ok (.iload_n 1, 1) := by decide +kernel
theorem dM_findStates_80 : decode cM_findStates 80 = .ok (.iconst 3, 1) := by decide +kernel
theorem dM_findStates_81 : decode cM_findStates 81 = .ok (.idiv, 1) := by decide +kernel
theorem dM_findStates_82 : decode cM_findStates 82 = .ok (.invokevirtual 85, 3) := by decide +kernel
theorem dM_findStates_85 : decode cM_findStates 85 = .ok (.ifCond .ne 6, 3) := by decide +kernel
theorem dM_findStates_88 : decode cM_findStates 88 = .ok (.goto 52, 3) := by decide +kernel
theorem dM_findStates_91 : decode cM_findStates 91 = .ok (.iconst 0, 1) := by decide +kernel
theorem dM_findStates_92 : decode cM_findStates 92 = .ok (.istore_n 3, 1) := by decide +kernel
theorem dM_findStates_93 : decode cM_findStates 93 = .ok (.iload_n 3, 1) := by decide +kernel
theorem dM_findStates_94 : decode cM_findStates 94 = .ok (.aload_n 0, 1) := by decide +kernel
theorem dM_findStates_95 : decode cM_findStates 95 = .ok (.getfield 63, 3) := by decide +kernel
theorem dM_findStates_98 : decode cM_findStates 98 = .ok (.if_icmp .ge 42, 3) := by decide +kernel
theorem dM_findStates_101 : decode cM_findStates 101 = .ok (.aload_n 0, 1) := by decide +kernel
theorem dM_findStates_102 : decode cM_findStates 102 = .ok (.getfield 7, 3) := by decide +kernel
theorem dM_findStates_105 : decode cM_findStates 105 = .ok (.iload_n 3, 1) := by decide +kernel
theorem dM_findStates_106 : decode cM_findStates 106 = .ok (.baload, 1) := by decide +kernel
theorem dM_findStates_107 : decode cM_findStates 107 = .ok (.ifCond .eq 27, 3) := by decide +kernel
theorem dM_findStates_110 : decode cM_findStates 110 = .ok (.aload_n 0, 1) := by decide +kernel
theorem dM_findStates_111 : decode cM_findStates 111 = .ok (.iload_n 3, 1) := by decide +kernel
theorem dM_findStates_112 : decode cM_findStates 112 = .ok (.invokevirtual 74, 3) := by decide +kernel
theorem dM_findStates_115 : decode cM_findStates 115 = .ok (.ifCond .eq 19, 3) := by decide +kernel
theorem dM_findStates_118 : decode cM_findStates 118 = .ok (.aload_n 0, 1) := by decide +kernel
theorem dM_findStates_119 : decode cM_findStates 119 = .ok (.iload_n 3, 1) := by decide +kernel
theorem dM_findStates_120 : decode cM_findStates 120 = .ok (.iload_n 1, 1) := by decide +kernel
theorem dM_findStates_121 : decode cM_findStates 121 = .ok (.invokevirtual 78, 3) := by decide +kernel
theorem dM_findStates_124 : decode cM_findStates 124 = .ok (.ifCond .eq 10, 3) := by decide +kernel
theorem dM_findStates_127 : decode cM_findStates 127 = .ok (.aload_n 0, 1) := by decide +kernel
theorem dM_findStates_128 : decode cM_findStates 128 = .ok (.getfield 50, 3) := by decide +kernel
theorem dM_findStates_131 : decode cM_findStates 131 = .ok (.iload_n 1, 1) := by decide +kernel
theorem dM_findStates_132 : decode cM_findStates 132 = .ok (.iconst 3, 1) := by decide +kernel
theorem dM_findStates_133 : decode cM_findStates 133 = .ok (.iastore, 1) := by decide +kernel
theorem dM_findStates_134 : decode cM_findStates 134 = .ok (.iinc 3 1, 3) := by decide +kernel
theorem dM_findStates_137 : decode cM_findStates 137 = .ok (.goto (-44), 3) := by decide +kernel
theorem dM_findStates_140 : decode cM_findStates 140 = .ok (.iinc 1 1, 3) := by decide +kernel
theorem dM_findStates_143 : decode cM_findStates 143 = .ok (.goto (-116), 3) := by decide +kernel
theorem dM_findStates_146 : decode cM_findStates 146 = .ok (.return_, 1) := by decide +kernel
theorem dM_report_0 : decode cM_report 0 = .ok (.aload_n 0, 1) := by decide +kernel
theorem dM_report_1 : decode cM_report 1 = .ok (.getfield 35, 3) := by decide +kernel
theorem dM_report_4 : decode cM_report 4 = .ok (.iload_n 1, 1) := by decide +kernel
theorem dM_report_5 : decode cM_report 5 = .ok (.aload_n 0, 1) := by decide +kernel
theorem dM_report_6 : decode cM_report 6 = .ok (.getfield 16, 3) := by decide +kernel
theorem dM_report_9 : decode cM_report 9 = .ok (.iload_n 1, 1) := by decide +kernel
theorem dM_report_10 : decode cM_report 10 = .ok (.iaload, 1) := by decide +kernel
theorem dM_report_11 : decode cM_report 11 = .ok (.iastore, 1) := by decide +kernel
theorem dM_report_12 : decode cM_report 12 = .ok (.aload_n 0, 1) := by decide +kernel
theorem dM_report_13 : decode cM_report 13 = .ok (.getfield 38, 3) := by decide +kernel
theorem dM_report_16 : decode cM_report 16 = .ok (.iload_n 1, 1) := by decide +kernel
theorem dM_report_17 : decode cM_report 17 = .ok (.aload_n 0, 1) := by decide +kernel
theorem dM_report_18 : decode cM_report 18 = .ok (.iload_n 1, 1) := by decide +kernel
theorem dM_report_19 : decode cM_report 19 = .ok (.invokevirtual 70, 3) := by decide +kernel
theorem dM_report_22 : decode cM_report 22 = .ok (.iastore, 1) := by decide +kernel
theorem dM_report_23 : decode cM_report 23 = .ok (.aload_n 0, 1) := by decide +kernel
theorem dM_report_24 : decode cM_report 24 = .ok (.getfield 41, 3) := by decide +kernel
theorem dM_report_27 : decode cM_report 27 = .ok (.iload_n 1, 1) := by decide +kernel
theorem dM_report_28 : decode cM_report 28 = .ok (.aload_n 0, 1) := by decide +kernel
theorem dM_report_29 : decode cM_report 29 = .ok (.getfield 32, 3) := by decide +kernel
theorem dM_report_32 : decode cM_report 32 = .ok (.iload_n 1, 1) := by decide +kernel
theorem dM_report_33 : decode cM_report 33 = .ok (.baload, 1) := by decide +kernel
theorem dM_report_34 : decode cM_report 34 = .ok (.bastore, 1) := by decide +kernel
theorem dM_report_35 : decode cM_report 35 = .ok (.aload_n 0, 1) := by decide +kernel
theorem dM_report_36 : decode cM_report 36 = .ok (.getfield 44, 3) := by decide +kernel
theorem dM_report_39 : decode cM_report 39 = .ok (.iload_n 1, 1) := by decide +kernel
theorem dM_report_40 : decode cM_report 40 = .ok (.iconst 0, 1) := by decide +kernel
theorem dM_report_41 : decode cM_report 41 = .ok (.iastore, 1) := by decide +kernel
theorem dM_report_42 : decode cM_report 42 = .ok (.return_, 1) := by decide +kernel
theorem dM_enter_0 : decode cM_enter 0 = .ok (.aload_n 0, 1) := by decide +kernel
theorem dM_enter_1 : decode cM_enter 1 = .ok (.iconst 0, 1) := by decide +kernel
theorem dM_enter_2 : decode cM_enter 2 = .ok (.putfield 59, 3) := by decide +kernel
theorem dM_enter_5 : decode cM_enter 5 = .ok (.iload_n 2, 1) := by decide +kernel
theorem dM_enter_6 : decode cM_enter 6 = .ok (.iconst 1, 1) := by decide +kernel
theorem dM_enter_7 : decode cM_enter 7 = .ok (.bipush 40, 2) := by decide +kernel
theorem dM_enter_9 : decode cM_enter 9 = .ok (.invokestatic 66, 3) := by decide +kernel
theorem dM_enter_12 : decode cM_enter 12 = .ok (.ifCond .eq 20, 3) := by decide +kernel
theorem dM_enter_15 : decode cM_enter 15 = .ok (.iload_n 1, 1) := by decide +kernel
theorem dM_enter_16 : decode cM_enter 16 = .ok (.iconst 0, 1) := by decide +kernel
theorem dM_enter_17 : decode cM_enter 17 = .ok (.bipush 119, 2) := by decide +kernel
theorem dM_enter_19 : decode cM_enter 19 = .ok (.invokestatic 66, 3) := by decide +kernel
theorem dM_enter_22 : decode cM_enter 22 = .ok (.ifCond .eq 10, 3) := by decide +kernel
theorem dM_enter_25 : decode cM_enter 25 = .ok (.iload_n 1, 1) := by decide +kernel
theorem dM_enter_26 : decode cM_enter 26 = .ok (.iload_n 2, 1) := by decide +kernel
theorem dM_enter_27 : decode cM_enter 27 = .ok (.isub, 1) := by decide +kernel
theorem dM_enter_28 : decode cM_enter 28 = .ok (.iconst (-1), 1) := by decide +kernel
theorem dM_enter_29 : decode cM_enter 29 = .ok (.if_icmp .ge 9, 3) := by decide +kernel
theorem dM_enter_32 : decode cM_enter 32 = .ok (.aload_n 0, 1) := by decide +kernel
theorem dM_enter_33 : decode cM_enter 33 = .ok (.iconst 1, 1) := by decide +kernel
theorem dM_enter_34 : decode cM_enter 34 = .ok (.invokevirtual 100, 3) := by decide +kernel
theorem dM_enter_37 : decode cM_enter 37 = .ok (.ireturn, 1) := by decide +kernel
theorem dM_enter_38 : decode cM_enter 38 = .ok (.aload_n 0, 1) := by decide +kernel
theorem dM_enter_39 : decode cM_enter 39 = .ok (.getfield 63, 3) := by decide +kernel
theorem dM_enter_42 : decode cM_enter 42 = .ok (.bipush 8, 2) := by decide +kernel
theorem dM_enter_44 : decode cM_enter 44 = .ok (.if_icmp .ne 9, 3) := by decide +kernel
theorem dM_enter_47 : decode cM_enter 47 = .ok (.aload_n 0, 1) := by decide +kernel
theorem dM_enter_48 : decode cM_enter 48 = .ok (.iconst 2, 1) := by decide +kernel
theorem dM_enter_49 : decode cM_enter 49 = .ok (.invokevirtual 100, 3) := by decide +kernel
theorem dM_enter_52 : decode cM_enter 52 = .ok (.ireturn, 1) := by decide +kernel
theorem dM_enter_53 : decode cM_enter 53 = .ok (.iload_n 1, 1) := by decide +kernel
theorem dM_enter_54 : decode cM_enter 54 = .ok (.iload_n 2, 1) := by decide +kernel
theorem dM_enter_55 : decode cM_enter 55 = .ok (.isub, 1) := by decide +kernel
theorem dM_enter_56 : decode cM_enter 56 = .ok (.iconst 1, 1) := by decide +kernel
theorem dM_enter_57 : decode cM_enter 57 = .ok (.iadd, 1) := by decide +kernel
theorem dM_enter_58 : decode cM_enter 58 = .ok (.istore_n 3, 1) := by decide +kernel
theorem dM_enter_59 : decode cM_enter 59 = .ok (.iload_n 3, 1) := by decide +kernel
theorem dM_enter_60 : decode cM_enter 60 = .ok (.iload_n 1, 1) := by decide +kernel
theorem dM_enter_61 : decode cM_enter 61 = .ok (.if_icmp .gt 36, 3) := by decide +kernel
theorem dM_enter_64 : decode cM_enter 64 = .ok (.aload_n 0, 1) := by decide +kernel
theorem dM_enter_65 : decode cM_enter 65 = .ok (.iload_n 3, 1) := by decide +kernel
theorem dM_enter_66 : decode cM_enter 66 = .ok (.iconst (-1), 1) := by decide +kernel
theorem dM_enter_67 : decode cM_enter 67 = .ok (.invokevirtual 103, 3) := by decide +kernel
theorem dM_enter_70 : decode cM_enter 70 = .ok (.ifCond .ge 15, 3) := by decide +kernel
theorem dM_enter_73 : decode cM_enter 73 = .ok (.aload_n 0, 1) := by decide +kernel
theorem dM_enter_74 : decode cM_enter 74 = .ok (.iload_n 3, 1) := by decide +kernel
theorem dM_enter_75 : decode cM_enter 75 = .ok (.bipush 10, 2) := by decide +kernel
theorem dM_enter_77 : decode cM_enter 77 = .ok (.idiv, 1) := by decide +kernel
theorem dM_enter_78 : decode cM_enter 78 = .ok (.iconst (-1), 1) := by decide +kernel
theorem dM_enter_79 : decode cM_enter 79 = .ok (.invokevirtual 107, 3) := by decide +kernel
theorem dM_enter_82 : decode cM_enter 82 = .ok (.ifCond .eq 9, 3) := by decide +kernel
theorem dM_enter_85 : decode cM_enter 85 = .ok (.aload_n 0, 1) := by decide +kernel
theorem dM_enter_86 : decode cM_enter 86 = .ok (.iconst 2, 1) := by decide +kernel
theorem dM_enter_87 : decode cM_enter 87 = .ok (.invokevirtual 100, 3) := by decide +kernel
theorem dM_enter_90 : decode cM_enter 90 = .ok (.ireturn, 1) := by decide +kernel
theorem dM_enter_91 : decode cM_enter 91 = .ok (.iinc 3 1, 3) := by decide +kernel
theorem dM_enter_94 : decode cM_enter 94 = .ok (.goto (-35), 3) := by decide +kernel
theorem dM_enter_97 : decode cM_enter 97 = .ok (.aload_n 0, 1) := by decide +kernel
theorem dM_enter_98 : decode cM_enter 98 = .ok (.getfield 63, 3) := by decide +kernel
theorem dM_enter_101 : decode cM_enter 101 = .ok (.istore_n 3, 1) := by decide +kernel
theorem dM_enter_102 : decode cM_enter 102 = .ok (.aload_n 0, 1) := by decide +kernel
theorem dM_enter_103 : decode cM_enter 103 = .ok (.dup, 1) := by decide +kernel
theorem dM_enter_104 : decode cM_enter 104 = .ok (.getfield 63, 3) := by decide +kernel
theorem dM_enter_107 : decode cM_enter 107 = .ok (.iconst 1, 1) := by decide +kernel
theorem dM_enter_108 : decode cM_enter 108 = .ok (.iadd, 1) := by decide +kernel
theorem dM_enter_109 : decode cM_enter 109 = .ok (.putfield 63, 3) := by decide +kernel
theorem dM_enter_112 : decode cM_enter 112 = .ok (.aload_n 0, 1) := by decide +kernel
theorem dM_enter_113 : decode cM_enter 113 = .ok (.getfield 7, 3) := by decide +kernel
theorem dM_enter_116 : decode cM_enter 116 = .ok (.iload_n 3, 1) := by decide +kernel
theorem dM_enter_117 : decode cM_enter 117 = .ok (.iconst 1, 1) := by decide +kernel
theorem dM_enter_118 : decode cM_enter 118 = .ok (.bastore, 1) := by decide +kernel
theorem dM_enter_119 : decode cM_enter 119 = .ok (.aload_n 0, 1) := by decide +kernel
theorem dM_enter_120 : decode cM_enter 120 = .ok (.getfield 13, 3) := by decide +kernel
theorem dM_enter_123 : decode cM_enter 123 = .ok (.iload_n 3, 1) := by decide +kernel
theorem dM_enter_124 : decode cM_enter 124 = .ok (.iconst 1, 1) := by decide +kernel
theorem dM_enter_125 : decode cM_enter 125 = .ok (.bastore, 1) := by decide +kernel
theorem dM_enter_126 : decode cM_enter 126 = .ok (.aload_n 0, 1) := by decide +kernel
theorem dM_enter_127 : decode cM_enter 127 = .ok (.getfield 16, 3) := by decide +kernel
theorem dM_enter_130 : decode cM_enter 130 = .ok (.iload_n 3, 1) := by decide +kernel
theorem dM_enter_131 : decode cM_enter 131 = .ok (.iload_n 1, 1) := by decide +kernel
theorem dM_enter_132 : decode cM_enter 132 = .ok (.iastore, 1) := by decide +kernel
theorem dM_enter_133 : decode cM_enter 133 = .ok (.aload_n 0, 1) := by decide +kernel
theorem dM_enter_134 : decode cM_enter 134 = .ok (.getfield 20, 3) := by decide +kernel
theorem dM_enter_137 : decode cM_enter 137 = .ok (.iload_n 3, 1) := by decide +kernel
theorem dM_enter_138 : decode cM_enter 138 = .ok (.iload_n 2, 1) := by decide +kernel
theorem dM_enter_139 : decode cM_enter 139 = .ok (.iastore, 1) := by decide +kernel
theorem dM_enter_140 : decode cM_enter 140 = .ok (.aload_n 0, 1) := by decide +kernel
theorem dM_enter_141 : decode cM_enter 141 = .ok (.getfield 26, 3) := by decide +kernel
theorem dM_enter_144 : decode cM_enter 144 = .ok (.iload_n 3, 1) := by decide +kernel
theorem dM_enter_145 : decode cM_enter 145 = .ok (.iload_n 1, 1) := by decide +kernel
theorem dM_enter_146 : decode cM_enter 146 = .ok (.iastore, 1) := by decide +kernel
theorem dM_enter_147 : decode cM_enter 147 = .ok (.aload_n 0, 1) := by decide +kernel
theorem dM_enter_148 : decode cM_enter 148 = .ok (.getfield 32, 3) := by decide +kernel
theorem dM_enter_151 : decode cM_enter 151 = .ok (.iload_n 3, 1) := by decide +kernel
theorem dM_enter_152 : decode cM_enter 152 = .ok (.iconst 1, 1) := by decide +kernel
theorem dM_enter_153 : decode cM_enter 153 = .ok (.bastore, 1) := by decide +kernel
theorem dM_enter_154 : decode cM_enter 154 = .ok (.aload_n 0, 1) := by decide +kernel
theorem dM_enter_155 : decode cM_enter 155 = .ok (.getfield 47, 3) := by decide +kernel
theorem dM_enter_158 : decode cM_enter 158 = .ok (.iload_n 3, 1) := by decide +kernel
theorem dM_enter_159 : decode cM_enter 159 = .ok (.iconst (-1), 1) := by decide +kernel
theorem dM_enter_160 : decode cM_enter 160 = .ok (.iastore, 1) := by decide +kernel
theorem dM_enter_161 : decode cM_enter 161 = .ok (.aload_n 0, 1) := by decide +kernel
theorem dM_enter_162 : decode cM_enter 162 = .ok (.iload_n 3, 1) := by decide +kernel
theorem dM_enter_163 : decode cM_enter 163 = .ok (.invokevirtual 110, 3) := by decide +kernel
theorem dM_enter_166 : decode cM_enter 166 = .ok (.aload_n 0, 1) := by decide +kernel
theorem dM_enter_167 : decode cM_enter 167 = .ok (.invokevirtual 114, 3) := by decide +kernel
theorem dM_enter_170 : decode cM_enter 170 = .ok (.iload_n 3, 1) := by decide +kernel
theorem dM_enter_171 : decode cM_enter 171 = .ok (.ireturn, 1) := by decide +kernel
theorem dM_drive_0 : decode cM_drive 0 = .ok (.aload_n 0, 1) := by decide +kernel
theorem dM_drive_1 : decode cM_drive 1 = .ok (.iconst 0, 1) := by decide +kernel
theorem dM_drive_2 : decode cM_drive 2 = .ok (.putfield 59, 3) := by decide +kernel
theorem dM_drive_5 : decode cM_drive 5 = .ok (.aload_n 0, 1) := by decide +kernel
theorem dM_drive_6 : decode cM_drive 6 = .ok (.iload_n 1, 1) := by decide +kernel
theorem dM_drive_7 : decode cM_drive 7 = .ok (.invokevirtual 117, 3) := by decide +kernel
theorem dM_drive_10 : decode cM_drive 10 = .ok (.ifCond .ne 9, 3) := by decide +kernel
theorem dM_drive_13 : decode cM_drive 13 = .ok (.aload_n 0, 1) := by decide +kernel
theorem dM_drive_14 : decode cM_drive 14 = .ok (.iconst 1, 1) := by decide +kernel
theorem dM_drive_15 : decode cM_drive 15 = .ok (.invokevirtual 100, 3) := by decide +kernel
theorem dM_drive_18 : decode cM_drive 18 = .ok (.ireturn, 1) := by decide +kernel
theorem dM_drive_19 : decode cM_drive 19 = .ok (.iload_n 2, 1) := by decide +kernel
theorem dM_drive_20 : decode cM_drive 20 = .ok (.iconst 0, 1) := by decide +kernel
theorem dM_drive_21 : decode cM_drive 21 = .ok (.bipush 9, 2) := by decide +kernel
theorem dM_drive_23 : decode cM_drive 23 = .ok (.invokestatic 66, 3) := by decide +kernel
theorem dM_drive_26 : decode cM_drive 26 = .ok (.ifCond .ne 9, 3) := by decide +kernel
theorem dM_drive_29 : decode cM_drive 29 = .ok (.aload_n 0, 1) := by decide +kernel
theorem dM_drive_30 : decode cM_drive 30 = .ok (.iconst 2, 1) := by decide +kernel
theorem dM_drive_31 : decode cM_drive 31 = .ok (.invokevirtual 100, 3) := by decide +kernel
theorem dM_drive_34 : decode cM_drive 34 = .ok (.ireturn, 1) := by decide +kernel
theorem dM_drive_35 : decode cM_drive 35 = .ok (.aload_n 0, 1) := by decide +kernel
theorem dM_drive_36 : decode cM_drive 36 = .ok (.getfield 23, 3) := by decide +kernel
theorem dM_drive_39 : decode cM_drive 39 = .ok (.iload_n 1, 1) := by decide +kernel
theorem dM_drive_40 : decode cM_drive 40 = .ok (.iaload, 1) := by decide +kernel
theorem dM_drive_41 : decode cM_drive 41 = .ok (.istore_n 3, 1) := by decide +kernel
theorem dM_drive_42 : decode cM_drive 42 = .ok (.aload_n 0, 1) := by decide +kernel
theorem dM_drive_43 : decode cM_drive 43 = .ok (.getfield 23, 3) := by decide +kernel
theorem dM_drive_46 : decode cM_drive 46 = .ok (.iload_n 1, 1) := by decide +kernel
theorem dM_drive_47 : decode cM_drive 47 = .ok (.iload_n 2, 1) := by decide +kernel
theorem dM_drive_48 : decode cM_drive 48 = .ok (.iastore, 1) := by decide +kernel
theorem dM_drive_49 : decode cM_drive 49 = .ok (.iload_n 3, 1) := by decide +kernel
theorem dM_drive_50 : decode cM_drive 50 = .ok (.ireturn, 1) := by decide +kernel
theorem dM_silence_0 : decode cM_silence 0 = .ok (.aload_n 0, 1) := by decide +kernel
theorem dM_silence_1 : decode cM_silence 1 = .ok (.iconst 0, 1) := by decide +kernel
theorem dM_silence_2 : decode cM_silence 2 = .ok (.putfield 59, 3) := by decide +kernel
theorem dM_silence_5 : decode cM_silence 5 = .ok (.aload_n 0, 1) := by decide +kernel
theorem dM_silence_6 : decode cM_silence 6 = .ok (.iload_n 1, 1) := by decide +kernel
theorem dM_silence_7 : decode cM_silence 7 = .ok (.invokevirtual 117, 3) := by decide +kernel
theorem dM_silence_10 : decode cM_silence 10 = .ok (.ifCond .ne 9, 3) := by decide +kernel
theorem dM_silence_13 : decode cM_silence 13 = .ok (.aload_n 0, 1) := by decide +kernel
theorem dM_silence_14 : decode cM_silence 14 = .ok (.iconst 1, 1) := by decide +kernel
theorem dM_silence_15 : decode cM_silence 15 = .ok (.invokevirtual 100, 3) := by decide +kernel
theorem dM_silence_18 : decode cM_silence 18 = .ok (.ireturn, 1) := by decide +kernel
theorem dM_silence_19 : decode cM_silence 19 = .ok (.aload_n 0, 1) := by decide +kernel
theorem dM_silence_20 : decode cM_silence 20 = .ok (.getfield 29, 3) := by decide +kernel
theorem dM_silence_23 : decode cM_silence 23 = .ok (.iload_n 1, 1) := by decide +kernel
theorem dM_silence_24 : decode cM_silence 24 = .ok (.baload, 1) := by decide +kernel
theorem dM_silence_25 : decode cM_silence 25 = .ok (.iload_n 2, 1) := by decide +kernel
theorem dM_silence_26 : decode cM_silence 26 = .ok (.if_icmp .eq 7, 3) := by decide +kernel
theorem dM_silence_29 : decode cM_silence 29 = .ok (.iconst 1, 1) := by decide +kernel
theorem dM_silence_30 : decode cM_silence 30 = .ok (.goto 4, 3) := by decide +kernel
theorem dM_silence_33 : decode cM_silence 33 = .ok (.iconst 0, 1) := by decide +kernel
theorem dM_silence_34 : decode cM_silence 34 = .ok (.istore_n 3, 1) := by decide +kernel
theorem dM_silence_35 : decode cM_silence 35 = .ok (.aload_n 0, 1) := by decide +kernel
theorem dM_silence_36 : decode cM_silence 36 = .ok (.getfield 29, 3) := by decide +kernel
theorem dM_silence_39 : decode cM_silence 39 = .ok (.iload_n 1, 1) := by decide +kernel
theorem dM_silence_40 : decode cM_silence 40 = .ok (.iload_n 2, 1) := by decide +kernel
theorem dM_silence_41 : decode cM_silence 41 = .ok (.bastore, 1) := by decide +kernel
theorem dM_silence_42 : decode cM_silence 42 = .ok (.iload_n 3, 1) := by decide +kernel
theorem dM_silence_43 : decode cM_silence 43 = .ok (.ifCond .eq 7, 3) := by decide +kernel
theorem dM_silence_46 : decode cM_silence 46 = .ok (.iconst 1, 1) := by decide +kernel
theorem dM_silence_47 : decode cM_silence 47 = .ok (.goto 4, 3) := by decide +kernel
theorem dM_silence_50 : decode cM_silence 50 = .ok (.iconst 0, 1) := by decide +kernel
theorem dM_silence_51 : decode cM_silence 51 = .ok (.ireturn, 1) := by decide +kernel
theorem dM_authorise_0 : decode cM_authorise 0 = .ok (.aload_n 0, 1) := by decide +kernel
theorem dM_authorise_1 : decode cM_authorise 1 = .ok (.iconst 0, 1) := by decide +kernel
theorem dM_authorise_2 : decode cM_authorise 2 = .ok (.putfield 59, 3) := by decide +kernel
theorem dM_authorise_5 : decode cM_authorise 5 = .ok (.aload_n 0, 1) := by decide +kernel
theorem dM_authorise_6 : decode cM_authorise 6 = .ok (.iload_n 1, 1) := by decide +kernel
theorem dM_authorise_7 : decode cM_authorise 7 = .ok (.invokevirtual 117, 3) := by decide +kernel
theorem dM_authorise_10 : decode cM_authorise 10 = .ok (.ifCond .ne 9, 3) := by decide +kernel
theorem dM_authorise_13 : decode cM_authorise 13 = .ok (.aload_n 0, 1) := by decide +kernel
theorem dM_authorise_14 : decode cM_authorise 14 = .ok (.iconst 1, 1) := by decide +kernel
theorem dM_authorise_15 : decode cM_authorise 15 = .ok (.invokevirtual 100, 3) := by decide +kernel
theorem dM_authorise_18 : decode cM_authorise 18 = .ok (.ireturn, 1) := by decide +kernel
theorem dM_authorise_19 : decode cM_authorise 19 = .ok (.aload_n 0, 1) := by decide +kernel
theorem dM_authorise_20 : decode cM_authorise 20 = .ok (.iload_n 1, 1) := by decide +kernel
theorem dM_authorise_21 : decode cM_authorise 21 = .ok (.invokevirtual 74, 3) := by decide +kernel
theorem dM_authorise_24 : decode cM_authorise 24 = .ok (.ifCond .ne 12, 3) := by decide +kernel
theorem dM_authorise_27 : decode cM_authorise 27 = .ok (.aload_n 0, 1) := by decide +kernel
theorem dM_authorise_28 : decode cM_authorise 28 = .ok (.getfield 29, 3) := by decide +kernel
theorem dM_authorise_31 : decode cM_authorise 31 = .ok (.iload_n 1, 1) := by decide +kernel
theorem dM_authorise_32 : decode cM_authorise 32 = .ok (.baload, 1) := by decide +kernel
theorem dM_authorise_33 : decode cM_authorise 33 = .ok (.ifCond .eq 9, 3) := by decide +kernel
theorem dM_authorise_36 : decode cM_authorise 36 = .ok (.aload_n 0, 1) := by decide +kernel
theorem dM_authorise_37 : decode cM_authorise 37 = .ok (.iconst 2, 1) := by decide +kernel
theorem dM_authorise_38 : decode cM_authorise 38 = .ok (.invokevirtual 100, 3) := by decide +kernel
theorem dM_authorise_41 : decode cM_authorise 41 = .ok (.ireturn, 1) := by decide +kernel
theorem dM_authorise_42 : decode cM_authorise 42 = .ok (.aload_n 0, 1) := by decide +kernel
theorem dM_authorise_43 : decode cM_authorise 43 = .ok (.getfield 26, 3) := by decide +kernel
theorem dM_authorise_46 : decode cM_authorise 46 = .ok (.iload_n 1, 1) := by decide +kernel
theorem dM_authorise_47 : decode cM_authorise 47 = .ok (.iaload, 1) := by decide +kernel
theorem dM_authorise_48 : decode cM_authorise 48 = .ok (.bipush 10, 2) := by decide +kernel
theorem dM_authorise_50 : decode cM_authorise 50 = .ok (.idiv, 1) := by decide +kernel
theorem dM_authorise_51 : decode cM_authorise 51 = .ok (.istore_n 2, 1) := by decide +kernel
theorem dM_authorise_52 : decode cM_authorise 52 = .ok (.aload_n 0, 1) := by decide +kernel
theorem dM_authorise_53 : decode cM_authorise 53 = .ok (.iload_n 2, 1) := by decide +kernel
theorem dM_authorise_54 : decode cM_authorise 54 = .ok (.iload_n 1, 1) := by decide +kernel
theorem dM_authorise_55 : decode cM_authorise 55 = .ok (.invokevirtual 107, 3) := by decide +kernel
theorem dM_authorise_58 : decode cM_authorise 58 = .ok (.ifCond .ne 25, 3) := by decide +kernel
theorem dM_authorise_61 : decode cM_authorise 61 = .ok (.aload_n 0, 1) := by decide +kernel
theorem dM_authorise_62 : decode cM_authorise 62 = .ok (.getfield 50, 3) := by decide +kernel
theorem dM_authorise_65 : decode cM_authorise 65 = .ok (.iload_n 2, 1) := by decide +kernel
theorem dM_authorise_66 : decode cM_authorise 66 = .ok (.iaload, 1) := by decide +kernel
theorem dM_authorise_67 : decode cM_authorise 67 = .ok (.ifCond .eq 23, 3) := by decide +kernel
theorem dM_authorise_70 : decode cM_authorise 70 = .ok (.aload_n 0, 1) := by decide +kernel
theorem dM_authorise_71 : decode cM_authorise 71 = .ok (.getfield 35, 3) := by decide +kernel
theorem dM_authorise_74 : decode cM_authorise 74 = .ok (.iload_n 1, 1) := by decide +kernel
theorem dM_authorise_75 : decode cM_authorise 75 = .ok (.iaload, 1) := by decide +kernel
theorem dM_authorise_76 : decode cM_authorise 76 = .ok (.bipush 10, 2) := by decide +kernel
theorem dM_authorise_78 : decode cM_authorise 78 = .ok (.idiv, 1) := by decide +kernel
theorem dM_authorise_79 : decode cM_authorise 79 = .ok (.iload_n 2, 1) := by decide +kernel
theorem dM_authorise_80 : decode cM_authorise 80 = .ok (.if_icmp .eq 10, 3) := by decide +kernel
theorem dM_authorise_83 : decode cM_authorise 83 = .ok (.aload_n 0, 1) := by decide +kernel
theorem dM_authorise_84 : decode cM_authorise 84 = .ok (.getfield 26, 3) := by decide +kernel
theorem dM_authorise_87 : decode cM_authorise 87 = .ok (.iload_n 1, 1) := by decide +kernel
theorem dM_authorise_88 : decode cM_authorise 88 = .ok (.iaload, 1) := by decide +kernel
theorem dM_authorise_89 : decode cM_authorise 89 = .ok (.ireturn, 1) := by decide +kernel
theorem dM_authorise_90 : decode cM_authorise 90 = .ok (.iload_n 2, 1) := by decide +kernel
theorem dM_authorise_91 : decode cM_authorise 91 = .ok (.bipush 11, 2) := by decide +kernel
theorem dM_authorise_93 : decode cM_authorise 93 = .ok (.if_icmp .ge 31, 3) := by decide +kernel
theorem dM_authorise_96 : decode cM_authorise 96 = .ok (.aload_n 0, 1) := by decide +kernel
theorem dM_authorise_97 : decode cM_authorise 97 = .ok (.getfield 50, 3) := by decide +kernel
theorem dM_authorise_100 : decode cM_authorise 100 = .ok (.iload_n 2, 1) := by decide +kernel
theorem dM_authorise_101 : decode cM_authorise 101 = .ok (.iconst 1, 1) := by decide +kernel
theorem dM_authorise_102 : decode cM_authorise 102 = .ok (.iadd, 1) := by decide +kernel
theorem dM_authorise_103 : decode cM_authorise 103 = .ok (.iaload, 1) := by decide +kernel
theorem dM_authorise_104 : decode cM_authorise 104 = .ok (.ifCond .ne 20, 3) := by decide +kernel
theorem dM_authorise_107 : decode cM_authorise 107 = .ok (.aload_n 0, 1) := by decide +kernel
theorem dM_authorise_108 : decode cM_authorise 108 = .ok (.iload_n 2, 1) := by decide +kernel
theorem dM_authorise_109 : decode cM_authorise 109 = .ok (.iconst 1, 1) := by decide +kernel
theorem dM_authorise_110 : decode cM_authorise 110 = .ok (.iadd, 1) := by decide +kernel
theorem dM_authorise_111 : decode cM_authorise 111 = .ok (.iload_n 1, 1) := by decide +kernel
theorem dM_authorise_112 : decode cM_authorise 112 = .ok (.invokevirtual 107, 3) := by decide +kernel
theorem dM_authorise_115 : decode cM_authorise 115 = .ok (.ifCond .ne 9, 3) := by decide +kernel
theorem dM_authorise_118 : decode cM_authorise 118 = .ok (.iinc 2 1, 3) := by decide +kernel
theorem dM_authorise_121 : decode cM_authorise 121 = .ok (.goto (-31), 3) := by decide +kernel
theorem dM_authorise_124 : decode cM_authorise 124 = .ok (.aload_n 0, 1) := by decide +kernel
theorem dM_authorise_125 : decode cM_authorise 125 = .ok (.getfield 26, 3) := by decide +kernel
theorem dM_authorise_128 : decode cM_authorise 128 = .ok (.iload_n 1, 1) := by decide +kernel
theorem dM_authorise_129 : decode cM_authorise 129 = .ok (.bipush 10, 2) := by decide +kernel
theorem dM_authorise_131 : decode cM_authorise 131 = .ok (.iload_n 2, 1) := by decide +kernel
theorem dM_authorise_132 : decode cM_authorise 132 = .ok (.imul, 1) := by decide +kernel
theorem dM_authorise_133 : decode cM_authorise 133 = .ok (.bipush 9, 2) := by decide +kernel
theorem dM_authorise_135 : decode cM_authorise 135 = .ok (.iadd, 1) := by decide +kernel
theorem dM_authorise_136 : decode cM_authorise 136 = .ok (.iastore, 1) := by decide +kernel
theorem dM_authorise_137 : decode cM_authorise 137 = .ok (.aload_n 0, 1) := by decide +kernel
theorem dM_authorise_138 : decode cM_authorise 138 = .ok (.getfield 26, 3) := by decide +kernel
theorem dM_authorise_141 : decode cM_authorise 141 = .ok (.iload_n 1, 1) := by decide +kernel
theorem dM_authorise_142 : decode cM_authorise 142 = .ok (.iaload, 1) := by decide +kernel
theorem dM_authorise_143 : decode cM_authorise 143 = .ok (.ireturn, 1) := by decide +kernel
theorem dM_relent_0 : decode cM_relent 0 = .ok (.aload_n 0, 1) := by decide +kernel
theorem dM_relent_1 : decode cM_relent 1 = .ok (.iconst 0, 1) := by decide +kernel
theorem dM_relent_2 : decode cM_relent 2 = .ok (.putfield 59, 3) := by decide +kernel
theorem dM_relent_5 : decode cM_relent 5 = .ok (.aload_n 0, 1) := by decide +kernel
theorem dM_relent_6 : decode cM_relent 6 = .ok (.iload_n 1, 1) := by decide +kernel
theorem dM_relent_7 : decode cM_relent 7 = .ok (.invokevirtual 117, 3) := by decide +kernel
theorem dM_relent_10 : decode cM_relent 10 = .ok (.ifCond .ne 9, 3) := by decide +kernel
theorem dM_relent_13 : decode cM_relent 13 = .ok (.aload_n 0, 1) := by decide +kernel
theorem dM_relent_14 : decode cM_relent 14 = .ok (.iconst 1, 1) := by decide +kernel
theorem dM_relent_15 : decode cM_relent 15 = .ok (.invokevirtual 100, 3) := by decide +kernel
theorem dM_relent_18 : decode cM_relent 18 = .ok (.ireturn, 1) := by decide +kernel
theorem dM_relent_19 : decode cM_relent 19 = .ok (.aload_n 0, 1) := by decide +kernel
theorem dM_relent_20 : decode cM_relent 20 = .ok (.getfield 29, 3) := by decide +kernel
theorem dM_relent_23 : decode cM_relent 23 = .ok (.iload_n 1, 1) := by decide +kernel
theorem dM_relent_24 : decode cM_relent 24 = .ok (.baload, 1) := by decide +kernel
theorem dM_relent_25 : decode cM_relent 25 = .ok (.ifCond .eq 9, 3) := by decide +kernel
theorem dM_relent_28 : decode cM_relent 28 = .ok (.aload_n 0, 1) := by decide +kernel
theorem dM_relent_29 : decode cM_relent 29 = .ok (.iconst 2, 1) := by decide +kernel
theorem dM_relent_30 : decode cM_relent 30 = .ok (.invokevirtual 100, 3) := by decide +kernel
theorem dM_relent_33 : decode cM_relent 33 = .ok (.ireturn, 1) := by decide +kernel
theorem dM_relent_34 : decode cM_relent 34 = .ok (.aload_n 0, 1) := by decide +kernel
theorem dM_relent_35 : decode cM_relent 35 = .ok (.getfield 26, 3) := by decide +kernel
theorem dM_relent_38 : decode cM_relent 38 = .ok (.iload_n 1, 1) := by decide +kernel
theorem dM_relent_39 : decode cM_relent 39 = .ok (.iaload, 1) := by decide +kernel
theorem dM_relent_40 : decode cM_relent 40 = .ok (.aload_n 0, 1) := by decide +kernel
theorem dM_relent_41 : decode cM_relent 41 = .ok (.getfield 16, 3) := by decide +kernel
theorem dM_relent_44 : decode cM_relent 44 = .ok (.iload_n 1, 1) := by decide +kernel
theorem dM_relent_45 : decode cM_relent 45 = .ok (.iaload, 1) := by decide +kernel
theorem dM_relent_46 : decode cM_relent 46 = .ok (.isub, 1) := by decide +kernel
theorem dM_relent_47 : decode cM_relent 47 = .ok (.istore_n 2, 1) := by decide +kernel
theorem dM_relent_48 : decode cM_relent 48 = .ok (.aload_n 0, 1) := by decide +kernel
theorem dM_relent_49 : decode cM_relent 49 = .ok (.getfield 26, 3) := by decide +kernel
theorem dM_relent_52 : decode cM_relent 52 = .ok (.iload_n 1, 1) := by decide +kernel
theorem dM_relent_53 : decode cM_relent 53 = .ok (.aload_n 0, 1) := by decide +kernel
theorem dM_relent_54 : decode cM_relent 54 = .ok (.getfield 16, 3) := by decide +kernel
theorem dM_relent_57 : decode cM_relent 57 = .ok (.iload_n 1, 1) := by decide +kernel
theorem dM_relent_58 : decode cM_relent 58 = .ok (.iaload, 1) := by decide +kernel
theorem dM_relent_59 : decode cM_relent 59 = .ok (.iastore, 1) := by decide +kernel
theorem dM_relent_60 : decode cM_relent 60 = .ok (.iload_n 2, 1) := by decide +kernel
theorem dM_relent_61 : decode cM_relent 61 = .ok (.ireturn, 1) := by decide +kernel
theorem dM_lose_0 : decode cM_lose 0 = .ok (.aload_n 0, 1) := by decide +kernel
theorem dM_lose_1 : decode cM_lose 1 = .ok (.iconst 0, 1) := by decide +kernel
theorem dM_lose_2 : decode cM_lose 2 = .ok (.putfield 59, 3) := by decide +kernel
theorem dM_lose_5 : decode cM_lose 5 = .ok (.aload_n 0, 1) := by decide +kernel
theorem dM_lose_6 : decode cM_lose 6 = .ok (.iload_n 1, 1) := by decide +kernel
theorem dM_lose_7 : decode cM_lose 7 = .ok (.invokevirtual 117, 3) := by decide +kernel
theorem dM_lose_10 : decode cM_lose 10 = .ok (.ifCond .ne 9, 3) := by decide +kernel
theorem dM_lose_13 : decode cM_lose 13 = .ok (.aload_n 0, 1) := by decide +kernel
theorem dM_lose_14 : decode cM_lose 14 = .ok (.iconst 1, 1) := by decide +kernel
theorem dM_lose_15 : decode cM_lose 15 = .ok (.invokevirtual 100, 3) := by decide +kernel
theorem dM_lose_18 : decode cM_lose 18 = .ok (.ireturn, 1) := by decide +kernel
theorem dM_lose_19 : decode cM_lose 19 = .ok (.iload_n 2, 1) := by decide +kernel
theorem dM_lose_20 : decode cM_lose 20 = .ok (.iconst 1, 1) := by decide +kernel
theorem dM_lose_21 : decode cM_lose 21 = .ok (.aload_n 0, 1) := by decide +kernel
theorem dM_lose_22 : decode cM_lose 22 = .ok (.getfield 20, 3) := by decide +kernel
theorem dM_lose_25 : decode cM_lose 25 = .ok (.iload_n 1, 1) := by decide +kernel
theorem dM_lose_26 : decode cM_lose 26 = .ok (.iaload, 1) := by decide +kernel
theorem dM_lose_27 : decode cM_lose 27 = .ok (.iconst 1, 1) := by decide +kernel
theorem dM_lose_28 : decode cM_lose 28 = .ok (.isub, 1) := by decide +kernel
theorem dM_lose_29 : decode cM_lose 29 = .ok (.invokestatic 66, 3) := by decide +kernel
theorem dM_lose_32 : decode cM_lose 32 = .ok (.ifCond .ne 9, 3) := by decide +kernel
theorem dM_lose_35 : decode cM_lose 35 = .ok (.aload_n 0, 1) := by decide +kernel
theorem dM_lose_36 : decode cM_lose 36 = .ok (.iconst 2, 1) := by decide +kernel
theorem dM_lose_37 : decode cM_lose 37 = .ok (.invokevirtual 100, 3) := by decide +kernel
theorem dM_lose_40 : decode cM_lose 40 = .ok (.ireturn, 1) := by decide +kernel
theorem dM_lose_41 : decode cM_lose 41 = .ok (.aload_n 0, 1) := by decide +kernel
theorem dM_lose_42 : decode cM_lose 42 = .ok (.getfield 63, 3) := by decide +kernel
theorem dM_lose_45 : decode cM_lose 45 = .ok (.bipush 8, 2) := by decide +kernel
theorem dM_lose_47 : decode cM_lose 47 = .ok (.if_icmp .ne 9, 3) := by decide +kernel
theorem dM_lose_50 : decode cM_lose 50 = .ok (.aload_n 0, 1) := by decide +kernel
theorem dM_lose_51 : decode cM_lose 51 = .ok (.iconst 3, 1) := by decide +kernel
theorem dM_lose_52 : decode cM_lose 52 = .ok (.invokevirtual 100, 3) := by decide +kernel
theorem dM_lose_55 : decode cM_lose 55 = .ok (.ireturn, 1) := by decide +kernel
theorem dM_lose_56 : decode cM_lose 56 = .ok (.aload_n 0, 1) := by decide +kernel
theorem dM_lose_57 : decode cM_lose 57 = .ok (.getfield 63, 3) := by decide +kernel
theorem dM_lose_60 : decode cM_lose 60 = .ok (.istore_n 3, 1) := by decide +kernel
theorem dM_lose_61 : decode cM_lose 61 = .ok (.aload_n 0, 1) := by decide +kernel
theorem dM_lose_62 : decode cM_lose 62 = .ok (.dup, 1) := by decide +kernel
theorem dM_lose_63 : decode cM_lose 63 = .ok (.getfield 63, 3) := by decide +kernel
theorem dM_lose_66 : decode cM_lose 66 = .ok (.iconst 1, 1) := by decide +kernel
theorem dM_lose_67 : decode cM_lose 67 = .ok (.iadd, 1) := by decide +kernel
theorem dM_lose_68 : decode cM_lose 68 = .ok (.putfield 63, 3) := by decide +kernel
theorem dM_lose_71 : decode cM_lose 71 = .ok (.aload_n 0, 1) := by decide +kernel
theorem dM_lose_72 : decode cM_lose 72 = .ok (.getfield 13, 3) := by decide +kernel
theorem dM_lose_75 : decode cM_lose 75 = .ok (.iload_n 3, 1) := by decide +kernel
theorem dM_lose_76 : decode cM_lose 76 = .ok (.iconst 1, 1) := by decide +kernel
theorem dM_lose_77 : decode cM_lose 77 = .ok (.bastore, 1) := by decide +kernel
theorem dM_lose_78 : decode cM_lose 78 = .ok (.aload_n 0, 1) := by decide +kernel
theorem dM_lose_79 : decode cM_lose 79 = .ok (.getfield 16, 3) := by decide +kernel
theorem dM_lose_82 : decode cM_lose 82 = .ok (.iload_n 3, 1) := by decide +kernel
theorem dM_lose_83 : decode cM_lose 83 = .ok (.aload_n 0, 1) := by decide +kernel
theorem dM_lose_84 : decode cM_lose 84 = .ok (.iload_n 1, 1) := by decide +kernel
theorem dM_lose_85 : decode cM_lose 85 = .ok (.invokevirtual 70, 3) := by decide +kernel
theorem dM_lose_88 : decode cM_lose 88 = .ok (.iload_n 2, 1) := by decide +kernel
theorem dM_lose_89 : decode cM_lose 89 = .ok (.iadd, 1) := by decide +kernel
theorem dM_lose_90 : decode cM_lose 90 = .ok (.iconst 1, 1) := by decide +kernel
theorem dM_lose_91 : decode cM_lose 91 = .ok (.isub, 1) := by decide +kernel
theorem dM_lose_92 : decode cM_lose 92 = .ok (.iastore, 1) := by decide +kernel
theorem dM_lose_93 : decode cM_lose 93 = .ok (.aload_n 0, 1) := by decide +kernel
theorem dM_lose_94 : decode cM_lose 94 = .ok (.getfield 20, 3) := by decide +kernel
theorem dM_lose_97 : decode cM_lose 97 = .ok (.iload_n 3, 1) := by decide +kernel
theorem dM_lose_98 : decode cM_lose 98 = .ok (.iload_n 2, 1) := by decide +kernel
theorem dM_lose_99 : decode cM_lose 99 = .ok (.iastore, 1) := by decide +kernel
theorem dM_lose_100 : decode cM_lose 100 = .ok (.aload_n 0, 1) := by decide +kernel
theorem dM_lose_101 : decode cM_lose 101 = .ok (.getfield 20, 3) := by decide +kernel
theorem dM_lose_104 : decode cM_lose 104 = .ok (.iload_n 1, 1) := by decide +kernel
theorem dM_lose_105 : decode cM_lose 105 = .ok (.dup2, 1) := by decide +kernel
theorem dM_lose_106 : decode cM_lose 106 = .ok (.iaload, 1) := by decide +kernel
theorem dM_lose_107 : decode cM_lose 107 = .ok (.iload_n 2, 1) := by decide +kernel
theorem dM_lose_108 : decode cM_lose 108 = .ok (.isub, 1) := by decide +kernel
theorem dM_lose_109 : decode cM_lose 109 = .ok (.iastore, 1) := by decide +kernel
theorem dM_lose_110 : decode cM_lose 110 = .ok (.aload_n 0, 1) := by decide +kernel
theorem dM_lose_111 : decode cM_lose 111 = .ok (.getfield 32, 3) := by decide +kernel
theorem dM_lose_114 : decode cM_lose 114 = .ok (.iload_n 1, 1) := by decide +kernel
theorem dM_lose_115 : decode cM_lose 115 = .ok (.iconst 0, 1) := by decide +kernel
theorem dM_lose_116 : decode cM_lose 116 = .ok (.bastore, 1) := by decide +kernel
theorem dM_lose_117 : decode cM_lose 117 = .ok (.iload_n 3, 1) := by decide +kernel
theorem dM_lose_118 : decode cM_lose 118 = .ok (.ireturn, 1) := by decide +kernel
theorem dM_confirm_0 : decode cM_confirm 0 = .ok (.aload_n 0, 1) := by decide +kernel
theorem dM_confirm_1 : decode cM_confirm 1 = .ok (.iconst 0, 1) := by decide +kernel
theorem dM_confirm_2 : decode cM_confirm 2 = .ok (.putfield 59, 3) := by decide +kernel
theorem dM_confirm_5 : decode cM_confirm 5 = .ok (.aload_n 0, 1) := by decide +kernel
theorem dM_confirm_6 : decode cM_confirm 6 = .ok (.iload_n 1, 1) := by decide +kernel
theorem dM_confirm_7 : decode cM_confirm 7 = .ok (.invokevirtual 117, 3) := by decide +kernel
theorem dM_confirm_10 : decode cM_confirm 10 = .ok (.ifCond .ne 9, 3) := by decide +kernel
theorem dM_confirm_13 : decode cM_confirm 13 = .ok (.aload_n 0, 1) := by decide +kernel
theorem dM_confirm_14 : decode cM_confirm 14 = .ok (.iconst 1, 1) := by decide +kernel
theorem dM_confirm_15 : decode cM_confirm 15 = .ok (.invokevirtual 100, 3) := by decide +kernel
theorem dM_confirm_18 : decode cM_confirm 18 = .ok (.ireturn, 1) := by decide +kernel
theorem dM_confirm_19 : decode cM_confirm 19 = .ok (.aload_n 0, 1) := by decide +kernel
theorem dM_confirm_20 : decode cM_confirm 20 = .ok (.getfield 32, 3) := by decide +kernel
theorem dM_confirm_23 : decode cM_confirm 23 = .ok (.iload_n 1, 1) := by decide +kernel
theorem dM_confirm_24 : decode cM_confirm 24 = .ok (.baload, 1) := by decide +kernel
theorem dM_confirm_25 : decode cM_confirm 25 = .ok (.ifCond .ne 12, 3) := by decide +kernel
theorem dM_confirm_28 : decode cM_confirm 28 = .ok (.aload_n 0, 1) := by decide +kernel
theorem dM_confirm_29 : decode cM_confirm 29 = .ok (.getfield 41, 3) := by decide +kernel
theorem dM_confirm_32 : decode cM_confirm 32 = .ok (.iload_n 1, 1) := by decide +kernel
theorem dM_confirm_33 : decode cM_confirm 33 = .ok (.baload, 1) := by decide +kernel
theorem dM_confirm_34 : decode cM_confirm 34 = .ok (.ifCond .eq 9, 3) := by decide +kernel
theorem dM_confirm_37 : decode cM_confirm 37 = .ok (.aload_n 0, 1) := by decide +kernel
theorem dM_confirm_38 : decode cM_confirm 38 = .ok (.iconst 2, 1) := by decide +kernel
theorem dM_confirm_39 : decode cM_confirm 39 = .ok (.invokevirtual 100, 3) := by decide +kernel
theorem dM_confirm_42 : decode cM_confirm 42 = .ok (.ireturn, 1) := by decide +kernel
theorem dM_confirm_43 : decode cM_confirm 43 = .ok (.aload_n 0, 1) := by decide +kernel
theorem dM_confirm_44 : decode cM_confirm 44 = .ok (.getfield 32, 3) := by decide +kernel
theorem dM_confirm_47 : decode cM_confirm 47 = .ok (.iload_n 1, 1) := by decide +kernel
theorem dM_confirm_48 : decode cM_confirm 48 = .ok (.iconst 1, 1) := by decide +kernel
theorem dM_confirm_49 : decode cM_confirm 49 = .ok (.bastore, 1) := by decide +kernel
theorem dM_confirm_50 : decode cM_confirm 50 = .ok (.aload_n 0, 1) := by decide +kernel
theorem dM_confirm_51 : decode cM_confirm 51 = .ok (.getfield 20, 3) := by decide +kernel
theorem dM_confirm_54 : decode cM_confirm 54 = .ok (.iload_n 1, 1) := by decide +kernel
theorem dM_confirm_55 : decode cM_confirm 55 = .ok (.iaload, 1) := by decide +kernel
theorem dM_confirm_56 : decode cM_confirm 56 = .ok (.ireturn, 1) := by decide +kernel
theorem dM_clear_0 : decode cM_clear 0 = .ok (.aload_n 0, 1) := by decide +kernel
theorem dM_clear_1 : decode cM_clear 1 = .ok (.iconst 0, 1) := by decide +kernel
theorem dM_clear_2 : decode cM_clear 2 = .ok (.putfield 59, 3) := by decide +kernel
theorem dM_clear_5 : decode cM_clear 5 = .ok (.iload_n 1, 1) := by decide +kernel
theorem dM_clear_6 : decode cM_clear 6 = .ok (.iconst 0, 1) := by decide +kernel
theorem dM_clear_7 : decode cM_clear 7 = .ok (.aload_n 0, 1) := by decide +kernel
theorem dM_clear_8 : decode cM_clear 8 = .ok (.getfield 63, 3) := by decide +kernel
theorem dM_clear_11 : decode cM_clear 11 = .ok (.iconst 1, 1) := by decide +kernel
theorem dM_clear_12 : decode cM_clear 12 = .ok (.isub, 1) := by decide +kernel
theorem dM_clear_13 : decode cM_clear 13 = .ok (.invokestatic 66, 3) := by decide +kernel
theorem dM_clear_16 : decode cM_clear 16 = .ok (.ifCond .eq 21, 3) := by decide +kernel
theorem dM_clear_19 : decode cM_clear 19 = .ok (.aload_n 0, 1) := by decide +kernel
theorem dM_clear_20 : decode cM_clear 20 = .ok (.getfield 7, 3) := by decide +kernel
theorem dM_clear_23 : decode cM_clear 23 = .ok (.iload_n 1, 1) := by decide +kernel
theorem dM_clear_24 : decode cM_clear 24 = .ok (.baload, 1) := by decide +kernel
theorem dM_clear_25 : decode cM_clear 25 = .ok (.ifCond .ne 12, 3) := by decide +kernel
theorem dM_clear_28 : decode cM_clear 28 = .ok (.aload_n 0, 1) := by decide +kernel
theorem dM_clear_29 : decode cM_clear 29 = .ok (.getfield 13, 3) := by decide +kernel
theorem dM_clear_32 : decode cM_clear 32 = .ok (.iload_n 1, 1) := by decide +kernel
theorem dM_clear_33 : decode cM_clear 33 = .ok (.baload, 1) := by decide +kernel
theorem dM_clear_34 : decode cM_clear 34 = .ok (.ifCond .ne 9, 3) := by decide +kernel
theorem dM_clear_37 : decode cM_clear 37 = .ok (.aload_n 0, 1) := by decide +kernel
theorem dM_clear_38 : decode cM_clear 38 = .ok (.iconst 1, 1) := by decide +kernel
theorem dM_clear_39 : decode cM_clear 39 = .ok (.invokevirtual 100, 3) := by decide +kernel
theorem dM_clear_42 : decode cM_clear 42 = .ok (.ireturn, 1) := by decide +kernel
theorem dM_clear_43 : decode cM_clear 43 = .ok (.aload_n 0, 1) := by decide +kernel
theorem dM_clear_44 : decode cM_clear 44 = .ok (.getfield 13, 3) := by decide +kernel
theorem dM_clear_47 : decode cM_clear 47 = .ok (.iload_n 1, 1) := by decide +kernel
theorem dM_clear_48 : decode cM_clear 48 = .ok (.iconst 0, 1) := by decide +kernel
theorem dM_clear_49 : decode cM_clear 49 = .ok (.bastore, 1) := by decide +kernel
theorem dM_clear_50 : decode cM_clear 50 = .ok (.aload_n 0, 1) := by decide +kernel
theorem dM_clear_51 : decode cM_clear 51 = .ok (.getfield 20, 3) := by decide +kernel
theorem dM_clear_54 : decode cM_clear 54 = .ok (.iload_n 1, 1) := by decide +kernel
theorem dM_clear_55 : decode cM_clear 55 = .ok (.iaload, 1) := by decide +kernel
theorem dM_clear_56 : decode cM_clear 56 = .ok (.ireturn, 1) := by decide +kernel
theorem dM_tickOnce_0 : decode cM_tickOnce 0 = .ok (.aload_n 0, 1) := by decide +kernel
theorem dM_tickOnce_1 : decode cM_tickOnce 1 = .ok (.dup, 1) := by decide +kernel
theorem dM_tickOnce_2 : decode cM_tickOnce 2 = .ok (.getfield 120, 3) := by decide +kernel
theorem dM_tickOnce_5 : decode cM_tickOnce 5 = .ok (.iconst 1, 1) := by decide +kernel
theorem dM_tickOnce_6 : decode cM_tickOnce 6 = .ok (.iadd, 1) := by decide +kernel
theorem dM_tickOnce_7 : decode cM_tickOnce 7 = .ok (.putfield 120, 3) := by decide +kernel
theorem dM_tickOnce_10 : decode cM_tickOnce 10 = .ok (.iconst 0, 1) := by decide +kernel
theorem dM_tickOnce_11 : decode cM_tickOnce 11 = .ok (.istore_n 1, 1) := by decide +kernel
theorem dM_tickOnce_12 : decode cM_tickOnce 12 = .ok (.iload_n 1, 1) := by decide +kernel
theorem dM_tickOnce_13 : decode cM_tickOnce 13 = .ok (.aload_n 0, 1) := by decide +kernel
theorem dM_tickOnce_14 : decode cM_tickOnce 14 = .ok (.getfield 63, 3) := by decide +kernel
theorem dM_tickOnce_17 : decode cM_tickOnce 17 = .ok (.if_icmp .ge 68, 3) := by decide +kernel
theorem dM_tickOnce_20 : decode cM_tickOnce 20 = .ok (.iconst 0, 1) := by decide +kernel
theorem dM_tickOnce_21 : decode cM_tickOnce 21 = .ok (.istore_n 2, 1) := by decide +kernel
theorem dM_tickOnce_22 : decode cM_tickOnce 22 = .ok (.iload_n 2, 1) := by decide +kernel
theorem dM_tickOnce_23 : decode cM_tickOnce 23 = .ok (.aload_n 0, 1) := by decide +kernel
theorem dM_tickOnce_24 : decode cM_tickOnce 24 = .ok (.getfield 23, 3) := by decide +kernel
theorem dM_tickOnce_27 : decode cM_tickOnce 27 = .ok (.iload_n 1, 1) := by decide +kernel
theorem dM_tickOnce_28 : decode cM_tickOnce 28 = .ok (.iaload, 1) := by decide +kernel
theorem dM_tickOnce_29 : decode cM_tickOnce 29 = .ok (.if_icmp .ge 50, 3) := by decide +kernel
theorem dM_tickOnce_32 : decode cM_tickOnce 32 = .ok (.aload_n 0, 1) := by decide +kernel
theorem dM_tickOnce_33 : decode cM_tickOnce 33 = .ok (.getfield 16, 3) := by decide +kernel
theorem dM_tickOnce_36 : decode cM_tickOnce 36 = .ok (.iload_n 1, 1) := by decide +kernel
theorem dM_tickOnce_37 : decode cM_tickOnce 37 = .ok (.iaload, 1) := by decide +kernel
theorem dM_tickOnce_38 : decode cM_tickOnce 38 = .ok (.aload_n 0, 1) := by decide +kernel
theorem dM_tickOnce_39 : decode cM_tickOnce 39 = .ok (.getfield 26, 3) := by decide +kernel
theorem dM_tickOnce_42 : decode cM_tickOnce 42 = .ok (.iload_n 1, 1) := by decide +kernel
theorem dM_tickOnce_43 : decode cM_tickOnce 43 = .ok (.iaload, 1) := by decide +kernel
theorem dM_tickOnce_44 : decode cM_tickOnce 44 = .ok (.if_icmp .ge 35, 3) := by decide +kernel
theorem dM_tickOnce_47 : decode cM_tickOnce 47 = .ok (.aload_n 0, 1) := by decide +kernel
theorem dM_tickOnce_48 : decode cM_tickOnce 48 = .ok (.aload_n 0, 1) := by decide +kernel
theorem dM_tickOnce_49 : decode cM_tickOnce 49 = .ok (.getfield 16, 3) := by decide +kernel
theorem dM_tickOnce_52 : decode cM_tickOnce 52 = .ok (.iload_n 1, 1) := by decide +kernel
theorem dM_tickOnce_53 : decode cM_tickOnce 53 = .ok (.iaload, 1) := by decide +kernel
theorem dM_tickOnce_54 : decode cM_tickOnce 54 = .ok (.iconst 1, 1) := by decide +kernel
theorem dM_tickOnce_55 : decode cM_tickOnce 55 = .ok (.iadd, 1) := by decide +kernel
theorem dM_tickOnce_56 : decode cM_tickOnce 56 = .ok (.iload_n 1, 1) := by decide +kernel
theorem dM_tickOnce_57 : decode cM_tickOnce 57 = .ok (.invokevirtual 103, 3) := by decide +kernel
theorem dM_tickOnce_60 : decode cM_tickOnce 60 = .ok (.ifCond .ge 19, 3) := by decide +kernel
theorem dM_tickOnce_63 : decode cM_tickOnce 63 = .ok (.aload_n 0, 1) := by decide +kernel
theorem dM_tickOnce_64 : decode cM_tickOnce 64 = .ok (.getfield 16, 3) := by decide +kernel
theorem dM_tickOnce_67 : decode cM_tickOnce 67 = .ok (.iload_n 1, 1) := by decide +kernel
theorem dM_tickOnce_68 : decode cM_tickOnce 68 = .ok (.dup2, 1) := by decide +kernel
theorem dM_tickOnce_69 : decode cM_tickOnce 69 = .ok (.iaload, 1) := by decide +kernel
theorem dM_tickOnce_70 : decode cM_tickOnce 70 = .ok (.iconst 1, 1) := by decide +kernel
theorem dM_tickOnce_71 : decode cM_tickOnce 71 = .ok (.iadd, 1) := by decide +kernel
theorem dM_tickOnce_72 : decode cM_tickOnce 72 = .ok (.iastore, 1) := by decide +kernel
theorem dM_tickOnce_73 : decode cM_tickOnce 73 = .ok (.iinc 2 1, 3) := by decide +kernel
theorem dM_tickOnce_76 : decode cM_tickOnce 76 = .ok (.goto (-54), 3) := by decide +kernel
theorem dM_tickOnce_79 : decode cM_tickOnce 79 = .ok (.iinc 1 1, 3) := by decide +kernel
theorem dM_tickOnce_82 : decode cM_tickOnce 82 = .ok (.goto (-70), 3) := by decide +kernel
theorem dM_tickOnce_85 : decode cM_tickOnce 85 = .ok (.iconst 0, 1) := by decide +kernel
theorem dM_tickOnce_86 : decode cM_tickOnce 86 = .ok (.istore_n 1, 1) := by decide +kernel
theorem dM_tickOnce_87 : decode cM_tickOnce 87 = .ok (.iload_n 1, 1) := by decide +kernel
theorem dM_tickOnce_88 : decode cM_tickOnce 88 = .ok (.aload_n 0, 1) := by decide +kernel
theorem dM_tickOnce_89 : decode cM_tickOnce 89 = .ok (.getfield 63, 3) := by decide +kernel
theorem dM_tickOnce_92 : decode cM_tickOnce 92 = .ok (.if_icmp .ge 60, 3) := by decide +kernel
theorem dM_tickOnce_95 : decode cM_tickOnce 95 = .ok (.aload_n 0, 1) := by decide +kernel
theorem dM_tickOnce_96 : decode cM_tickOnce 96 = .ok (.getfield 7, 3) := by decide +kernel
theorem dM_tickOnce_99 : decode cM_tickOnce 99 = .ok (.iload_n 1, 1) := by decide +kernel
theorem dM_tickOnce_100 : decode cM_tickOnce 100 = .ok (.baload, 1) := by decide +kernel
theorem dM_tickOnce_101 : decode cM_tickOnce 101 = .ok (.ifCond .ne 6, 3) := by decide +kernel
theorem dM_tickOnce_104 : decode cM_tickOnce 104 = .ok (.goto 42, 3) := by decide +kernel
theorem dM_tickOnce_107 : decode cM_tickOnce 107 = .ok (.aload_n 0, 1) := by decide +kernel
theorem dM_tickOnce_108 : decode cM_tickOnce 108 = .ok (.getfield 29, 3) := by decide +kernel
theorem dM_tickOnce_111 : decode cM_tickOnce 111 = .ok (.iload_n 1, 1) := by decide +kernel
theorem dM_tickOnce_112 : decode cM_tickOnce 112 = .ok (.baload, 1) := by decide +kernel
theorem dM_tickOnce_113 : decode cM_tickOnce 113 = .ok (.ifCond .eq 16, 3) := by decide +kernel
theorem dM_tickOnce_116 : decode cM_tickOnce 116 = .ok (.aload_n 0, 1) := by decide +kernel
theorem dM_tickOnce_117 : decode cM_tickOnce 117 = .ok (.getfield 44, 3) := by decide +kernel
theorem dM_tickOnce_120 : decode cM_tickOnce 120 = .ok (.iload_n 1, 1) := by decide +kernel
theorem dM_tickOnce_121 : decode cM_tickOnce 121 = .ok (.dup2, 1) := by decide +kernel
theorem dM_tickOnce_122 : decode cM_tickOnce 122 = .ok (.iaload, 1) := by decide +kernel
theorem dM_tickOnce_123 : decode cM_tickOnce 123 = .ok (.iconst 1, 1) := by decide +kernel
theorem dM_tickOnce_124 : decode cM_tickOnce 124 = .ok (.iadd, 1) := by decide +kernel
theorem dM_tickOnce_125 : decode cM_tickOnce 125 = .ok (.iastore, 1) := by decide +kernel
theorem dM_tickOnce_126 : decode cM_tickOnce 126 = .ok (.goto 20, 3) := by decide +kernel
theorem dM_tickOnce_129 : decode cM_tickOnce 129 = .ok (.aload_n 0, 1) := by decide +kernel
theorem dM_tickOnce_130 : decode cM_tickOnce 130 = .ok (.getfield 47, 3) := by decide +kernel
theorem dM_tickOnce_133 : decode cM_tickOnce 133 = .ok (.iload_n 1, 1) := by decide +kernel
theorem dM_tickOnce_134 : decode cM_tickOnce 134 = .ok (.aload_n 0, 1) := by decide +kernel
theorem dM_tickOnce_135 : decode cM_tickOnce 135 = .ok (.getfield 38, 3) := by decide +kernel
theorem dM_tickOnce_138 : decode cM_tickOnce 138 = .ok (.iload_n 1, 1) := by decide +kernel
theorem dM_tickOnce_139 : decode cM_tickOnce 139 = .ok (.iaload, 1) := by decide +kernel
theorem dM_tickOnce_140 : decode cM_tickOnce 140 = .ok (.iastore, 1) := by decide +kernel
theorem dM_tickOnce_141 : decode cM_tickOnce 141 = .ok (.aload_n 0, 1) := by decide +kernel
theorem dM_tickOnce_142 : decode cM_tickOnce 142 = .ok (.iload_n 1, 1) := by decide +kernel
theorem dM_tickOnce_143 : decode cM_tickOnce 143 = .ok (.invokevirtual 110, 3) := by decide +kernel
theorem dM_tickOnce_146 : decode cM_tickOnce 146 = .ok (.iinc 1 1, 3) := by decide +kernel
theorem dM_tickOnce_149 : decode cM_tickOnce 149 = .ok (.goto (-62), 3) := by decide +kernel
theorem dM_tickOnce_152 : decode cM_tickOnce 152 = .ok (.aload_n 0, 1) := by decide +kernel
theorem dM_tickOnce_153 : decode cM_tickOnce 153 = .ok (.invokevirtual 114, 3) := by decide +kernel
theorem dM_tickOnce_156 : decode cM_tickOnce 156 = .ok (.return_, 1) := by decide +kernel
theorem dM_tick_0 : decode cM_tick 0 = .ok (.aload_n 0, 1) := by decide +kernel
theorem dM_tick_1 : decode cM_tick 1 = .ok (.iconst 0, 1) := by decide +kernel
theorem dM_tick_2 : decode cM_tick 2 = .ok (.putfield 59, 3) := by decide +kernel
theorem dM_tick_5 : decode cM_tick 5 = .ok (.iload_n 1, 1) := by decide +kernel
theorem dM_tick_6 : decode cM_tick 6 = .ok (.iconst 1, 1) := by decide +kernel
theorem dM_tick_7 : decode cM_tick 7 = .ok (.bipush 6, 2) := by decide +kernel
theorem dM_tick_9 : decode cM_tick 9 = .ok (.invokestatic 66, 3) := by decide +kernel
theorem dM_tick_12 : decode cM_tick 12 = .ok (.ifCond .ne 9, 3) := by decide +kernel
theorem dM_tick_15 : decode cM_tick 15 = .ok (.aload_n 0, 1) := by decide +kernel
theorem dM_tick_16 : decode cM_tick 16 = .ok (.iconst 1, 1) := by decide +kernel
theorem dM_tick_17 : decode cM_tick 17 = .ok (.invokevirtual 100, 3) := by decide +kernel
theorem dM_tick_20 : decode cM_tick 20 = .ok (.ireturn, 1) := by decide +kernel
theorem dM_tick_21 : decode cM_tick 21 = .ok (.iconst 0, 1) := by decide +kernel
theorem dM_tick_22 : decode cM_tick 22 = .ok (.istore_n 2, 1) := by decide +kernel
theorem dM_tick_23 : decode cM_tick 23 = .ok (.iload_n 2, 1) := by decide +kernel
theorem dM_tick_24 : decode cM_tick 24 = .ok (.iload_n 1, 1) := by decide +kernel
theorem dM_tick_25 : decode cM_tick 25 = .ok (.if_icmp .ge 13, 3) := by decide +kernel
theorem dM_tick_28 : decode cM_tick 28 = .ok (.aload_n 0, 1) := by decide +kernel
theorem dM_tick_29 : decode cM_tick 29 = .ok (.invokevirtual 123, 3) := by decide +kernel
theorem dM_tick_32 : decode cM_tick 32 = .ok (.iinc 2 1, 3) := by decide +kernel
theorem dM_tick_35 : decode cM_tick 35 = .ok (.goto (-12), 3) := by decide +kernel
theorem dM_tick_38 : decode cM_tick 38 = .ok (.aload_n 0, 1) := by decide +kernel
theorem dM_tick_39 : decode cM_tick 39 = .ok (.iconst 0, 1) := by decide +kernel
theorem dM_tick_40 : decode cM_tick 40 = .ok (.invokevirtual 126, 3) := by decide +kernel
theorem dM_tick_43 : decode cM_tick 43 = .ok (.ireturn, 1) := by decide +kernel
theorem dM_state_0 : decode cM_state 0 = .ok (.aload_n 0, 1) := by decide +kernel
theorem dM_state_1 : decode cM_state 1 = .ok (.iconst 0, 1) := by decide +kernel
theorem dM_state_2 : decode cM_state 2 = .ok (.putfield 59, 3) := by decide +kernel
theorem dM_state_5 : decode cM_state 5 = .ok (.iload_n 1, 1) := by decide +kernel
theorem dM_state_6 : decode cM_state 6 = .ok (.iconst 0, 1) := by decide +kernel
theorem dM_state_7 : decode cM_state 7 = .ok (.bipush 11, 2) := by decide +kernel
theorem dM_state_9 : decode cM_state 9 = .ok (.invokestatic 66, 3) := by decide +kernel
theorem dM_state_12 : decode cM_state 12 = .ok (.ifCond .eq 12, 3) := by decide +kernel
theorem dM_state_15 : decode cM_state 15 = .ok (.aload_n 0, 1) := by decide +kernel
theorem dM_state_16 : decode cM_state 16 = .ok (.getfield 50, 3) := by decide +kernel
theorem dM_state_19 : decode cM_state 19 = .ok (.iload_n 1, 1) := by decide +kernel
theorem dM_state_20 : decode cM_state 20 = .ok (.iaload, 1) := by decide +kernel
theorem dM_state_21 : decode cM_state 21 = .ok (.goto 8, 3) := by decide +kernel
theorem dM_state_24 : decode cM_state 24 = .ok (.aload_n 0, 1) := by decide +kernel
theorem dM_state_25 : decode cM_state 25 = .ok (.iconst 1, 1) := by decide +kernel
theorem dM_state_26 : decode cM_state 26 = .ok (.invokevirtual 100, 3) := by decide +kernel
theorem dM_state_29 : decode cM_state 29 = .ok (.ireturn, 1) := by decide +kernel
theorem dM_detected_0 : decode cM_detected 0 = .ok (.aload_n 0, 1) := by decide +kernel
theorem dM_detected_1 : decode cM_detected 1 = .ok (.iconst 0, 1) := by decide +kernel
theorem dM_detected_2 : decode cM_detected 2 = .ok (.putfield 59, 3) := by decide +kernel
theorem dM_detected_5 : decode cM_detected 5 = .ok (.iload_n 1, 1) := by decide +kernel
theorem dM_detected_6 : decode cM_detected 6 = .ok (.iconst 0, 1) := by decide +kernel
theorem dM_detected_7 : decode cM_detected 7 = .ok (.iconst 3, 1) := by decide +kernel
theorem dM_detected_8 : decode cM_detected 8 = .ok (.invokestatic 66, 3) := by decide +kernel
theorem dM_detected_11 : decode cM_detected 11 = .ok (.ifCond .ne 9, 3) := by decide +kernel
theorem dM_detected_14 : decode cM_detected 14 = .ok (.aload_n 0, 1) := by decide +kernel
theorem dM_detected_15 : decode cM_detected 15 = .ok (.iconst 1, 1) := by decide +kernel
theorem dM_detected_16 : decode cM_detected 16 = .ok (.invokevirtual 100, 3) := by decide +kernel
theorem dM_detected_19 : decode cM_detected 19 = .ok (.ireturn, 1) := by decide +kernel
theorem dM_detected_20 : decode cM_detected 20 = .ok (.aload_n 0, 1) := by decide +kernel
theorem dM_detected_21 : decode cM_detected 21 = .ok (.iload_n 1, 1) := by decide +kernel
theorem dM_detected_22 : decode cM_detected 22 = .ok (.invokevirtual 85, 3) := by decide +kernel
theorem dM_detected_25 : decode cM_detected 25 = .ok (.ifCond .eq 7, 3) := by decide +kernel
theorem dM_detected_28 : decode cM_detected 28 = .ok (.iconst 1, 1) := by decide +kernel
theorem dM_detected_29 : decode cM_detected 29 = .ok (.goto 4, 3) := by decide +kernel
theorem dM_detected_32 : decode cM_detected 32 = .ok (.iconst 0, 1) := by decide +kernel
theorem dM_detected_33 : decode cM_detected 33 = .ok (.ireturn, 1) := by decide +kernel
theorem dM_vehicle_0 : decode cM_vehicle 0 = .ok (.aload_n 0, 1) := by decide +kernel
theorem dM_vehicle_1 : decode cM_vehicle 1 = .ok (.iconst 0, 1) := by decide +kernel
theorem dM_vehicle_2 : decode cM_vehicle 2 = .ok (.putfield 59, 3) := by decide +kernel
theorem dM_vehicle_5 : decode cM_vehicle 5 = .ok (.iload_n 1, 1) := by decide +kernel
theorem dM_vehicle_6 : decode cM_vehicle 6 = .ok (.iconst 0, 1) := by decide +kernel
theorem dM_vehicle_7 : decode cM_vehicle 7 = .ok (.aload_n 0, 1) := by decide +kernel
theorem dM_vehicle_8 : decode cM_vehicle 8 = .ok (.getfield 63, 3) := by decide +kernel
theorem dM_vehicle_11 : decode cM_vehicle 11 = .ok (.iconst 1, 1) := by decide +kernel
theorem dM_vehicle_12 : decode cM_vehicle 12 = .ok (.isub, 1) := by decide +kernel
theorem dM_vehicle_13 : decode cM_vehicle 13 = .ok (.invokestatic 66, 3) := by decide +kernel
theorem dM_vehicle_16 : decode cM_vehicle 16 = .ok (.ifCond .eq 12, 3) := by decide +kernel
theorem dM_vehicle_19 : decode cM_vehicle 19 = .ok (.aload_n 0, 1) := by decide +kernel
theorem dM_vehicle_20 : decode cM_vehicle 20 = .ok (.getfield 13, 3) := by decide +kernel
theorem dM_vehicle_23 : decode cM_vehicle 23 = .ok (.iload_n 1, 1) := by decide +kernel
theorem dM_vehicle_24 : decode cM_vehicle 24 = .ok (.baload, 1) := by decide +kernel
theorem dM_vehicle_25 : decode cM_vehicle 25 = .ok (.ifCond .ne 9, 3) := by decide +kernel
theorem dM_vehicle_28 : decode cM_vehicle 28 = .ok (.aload_n 0, 1) := by decide +kernel
theorem dM_vehicle_29 : decode cM_vehicle 29 = .ok (.iconst 1, 1) := by decide +kernel
theorem dM_vehicle_30 : decode cM_vehicle 30 = .ok (.invokevirtual 100, 3) := by decide +kernel
theorem dM_vehicle_33 : decode cM_vehicle 33 = .ok (.ireturn, 1) := by decide +kernel
theorem dM_vehicle_34 : decode cM_vehicle 34 = .ok (.iload_n 2, 1) := by decide +kernel
theorem dM_vehicle_35 : decode cM_vehicle 35 = .ok (.iconst 0, 1) := by decide +kernel
theorem dM_vehicle_36 : decode cM_vehicle 36 = .ok (.iconst 5, 1) := by decide +kernel
theorem dM_vehicle_37 : decode cM_vehicle 37 = .ok (.invokestatic 66, 3) := by decide +kernel
theorem dM_vehicle_40 : decode cM_vehicle 40 = .ok (.ifCond .ne 9, 3) := by decide +kernel
theorem dM_vehicle_43 : decode cM_vehicle 43 = .ok (.aload_n 0, 1) := by decide +kernel
theorem dM_vehicle_44 : decode cM_vehicle 44 = .ok (.iconst 2, 1) := by decide +kernel
theorem dM_vehicle_45 : decode cM_vehicle 45 = .ok (.invokevirtual 100, 3) := by decide +kernel
theorem dM_vehicle_48 : decode cM_vehicle 48 = .ok (.ireturn, 1) := by decide +kernel
theorem dM_vehicle_49 : decode cM_vehicle 49 = .ok (.iload_n 2, 1) := by decide +kernel
theorem dM_vehicle_50 : decode cM_vehicle 50 = .ok (.iconst 1, 1) := by decide +kernel
theorem dM_vehicle_51 : decode cM_vehicle 51 = .ok (.if_icmp .le 18, 3) := by decide +kernel
theorem dM_vehicle_54 : decode cM_vehicle 54 = .ok (.aload_n 0, 1) := by decide +kernel
theorem dM_vehicle_55 : decode cM_vehicle 55 = .ok (.getfield 7, 3) := by decide +kernel
theorem dM_vehicle_58 : decode cM_vehicle 58 = .ok (.iload_n 1, 1) := by decide +kernel
theorem dM_vehicle_59 : decode cM_vehicle 59 = .ok (.baload, 1) := by decide +kernel
theorem dM_vehicle_60 : decode cM_vehicle 60 = .ok (.ifCond .ne 9, 3) := by decide +kernel
theorem dM_vehicle_63 : decode cM_vehicle 63 = .ok (.aload_n 0, 1) := by decide +kernel
theorem dM_vehicle_64 : decode cM_vehicle 64 = .ok (.iconst 1, 1) := by decide +kernel
theorem dM_vehicle_65 : decode cM_vehicle 65 = .ok (.invokevirtual 100, 3) := by decide +kernel
theorem dM_vehicle_68 : decode cM_vehicle 68 = .ok (.ireturn, 1) := by decide +kernel
theorem dM_vehicle_69 : decode cM_vehicle 69 = .ok (.iload_n 2, 1) := by decide +kernel
theorem dM_vehicle_70 : decode cM_vehicle 70 = .ok (.tableswitch 69 0 4 #[34, 41, 48, 55, 62], 34) := by decide +kernel
theorem dM_vehicle_104 : decode cM_vehicle 104 = .ok (.aload_n 0, 1) := by decide +kernel
theorem dM_vehicle_105 : decode cM_vehicle 105 = .ok (.getfield 16, 3) := by decide +kernel
theorem dM_vehicle_108 : decode cM_vehicle 108 = .ok (.iload_n 1, 1) := by decide +kernel
theorem dM_vehicle_109 : decode cM_vehicle 109 = .ok (.iaload, 1) := by decide +kernel
theorem dM_vehicle_110 : decode cM_vehicle 110 = .ok (.ireturn, 1) := by decide +kernel
theorem dM_vehicle_111 : decode cM_vehicle 111 = .ok (.aload_n 0, 1) := by decide +kernel
theorem dM_vehicle_112 : decode cM_vehicle 112 = .ok (.getfield 20, 3) := by decide +kernel
theorem dM_vehicle_115 : decode cM_vehicle 115 = .ok (.iload_n 1, 1) := by decide +kernel
theorem dM_vehicle_116 : decode cM_vehicle 116 = .ok (.iaload, 1) := by decide +kernel
theorem dM_vehicle_117 : decode cM_vehicle 117 = .ok (.ireturn, 1) := by decide +kernel
theorem dM_vehicle_118 : decode cM_vehicle 118 = .ok (.aload_n 0, 1) := by decide +kernel
theorem dM_vehicle_119 : decode cM_vehicle 119 = .ok (.getfield 26, 3) := by decide +kernel
theorem dM_vehicle_122 : decode cM_vehicle 122 = .ok (.iload_n 1, 1) := by decide +kernel
theorem dM_vehicle_123 : decode cM_vehicle 123 = .ok (.iaload, 1) := by decide +kernel
theorem dM_vehicle_124 : decode cM_vehicle 124 = .ok (.ireturn, 1) := by decide +kernel
theorem dM_vehicle_125 : decode cM_vehicle 125 = .ok (.aload_n 0, 1) := by decide +kernel
theorem dM_vehicle_126 : decode cM_vehicle 126 = .ok (.getfield 44, 3) := by decide +kernel
theorem dM_vehicle_129 : decode cM_vehicle 129 = .ok (.iload_n 1, 1) := by decide +kernel
theorem dM_vehicle_130 : decode cM_vehicle 130 = .ok (.iaload, 1) := by decide +kernel
theorem dM_vehicle_131 : decode cM_vehicle 131 = .ok (.ireturn, 1) := by decide +kernel
theorem dM_vehicle_132 : decode cM_vehicle 132 = .ok (.aload_n 0, 1) := by decide +kernel
theorem dM_vehicle_133 : decode cM_vehicle 133 = .ok (.getfield 35, 3) := by decide +kernel
theorem dM_vehicle_136 : decode cM_vehicle 136 = .ok (.iload_n 1, 1) := by decide +kernel
theorem dM_vehicle_137 : decode cM_vehicle 137 = .ok (.iaload, 1) := by decide +kernel
theorem dM_vehicle_138 : decode cM_vehicle 138 = .ok (.ireturn, 1) := by decide +kernel
theorem dM_vehicle_139 : decode cM_vehicle 139 = .ok (.aload_n 0, 1) := by decide +kernel
theorem dM_vehicle_140 : decode cM_vehicle 140 = .ok (.getfield 32, 3) := by decide +kernel
theorem dM_vehicle_143 : decode cM_vehicle 143 = .ok (.iload_n 1, 1) := by decide +kernel
theorem dM_vehicle_144 : decode cM_vehicle 144 = .ok (.baload, 1) := by decide +kernel
theorem dM_vehicle_145 : decode cM_vehicle 145 = .ok (.ifCond .eq 7, 3) := by decide +kernel
theorem dM_vehicle_148 : decode cM_vehicle 148 = .ok (.iconst 1, 1) := by decide +kernel
theorem dM_vehicle_149 : decode cM_vehicle 149 = .ok (.goto 4, 3) := by decide +kernel
theorem dM_vehicle_152 : decode cM_vehicle 152 = .ok (.iconst 0, 1) := by decide +kernel
theorem dM_vehicle_153 : decode cM_vehicle 153 = .ok (.ireturn, 1) := by decide +kernel
theorem dM_countStates_0 : decode cM_countStates 0 = .ok (.iconst 0, 1) := by decide +kernel
theorem dM_countStates_1 : decode cM_countStates 1 = .ok (.istore_n 2, 1) := by decide +kernel
theorem dM_countStates_2 : decode cM_countStates 2 = .ok (.iconst 0, 1) := by decide +kernel
theorem dM_countStates_3 : decode cM_countStates 3 = .ok (.istore_n 3, 1) := by decide +kernel
theorem dM_countStates_4 : decode cM_countStates 4 = .ok (.iload_n 3, 1) := by decide +kernel
theorem dM_countStates_5 : decode cM_countStates 5 = .ok (.bipush 12, 2) := by decide +kernel
theorem dM_countStates_7 : decode cM_countStates 7 = .ok (.if_icmp .ge 22, 3) := by decide +kernel
theorem dM_countStates_10 : decode cM_countStates 10 = .ok (.aload_n 0, 1) := by decide +kernel
theorem dM_countStates_11 : decode cM_countStates 11 = .ok (.getfield 50, 3) := by decide +kernel
theorem dM_countStates_14 : decode cM_countStates 14 = .ok (.iload_n 3, 1) := by decide +kernel
theorem dM_countStates_15 : decode cM_countStates 15 = .ok (.iaload, 1) := by decide +kernel
theorem dM_countStates_16 : decode cM_countStates 16 = .ok (.iload_n 1, 1) := by decide +kernel
theorem dM_countStates_17 : decode cM_countStates 17 = .ok (.if_icmp .ne 6, 3) := by decide +kernel
theorem dM_countStates_20 : decode cM_countStates 20 = .ok (.iinc 2 1, 3) := by decide +kernel
theorem dM_countStates_23 : decode cM_countStates 23 = .ok (.iinc 3 1, 3) := by decide +kernel
theorem dM_countStates_26 : decode cM_countStates 26 = .ok (.goto (-22), 3) := by decide +kernel
theorem dM_countStates_29 : decode cM_countStates 29 = .ok (.iload_n 2, 1) := by decide +kernel
theorem dM_countStates_30 : decode cM_countStates 30 = .ok (.ireturn, 1) := by decide +kernel
theorem dM_stood_0 : decode cM_stood 0 = .ok (.bipush 10, 2) := by decide +kernel
theorem dM_stood_2 : decode cM_stood 2 = .ok (.iload_n 1, 1) := by decide +kernel
theorem dM_stood_3 : decode cM_stood 3 = .ok (.imul, 1) := by decide +kernel
theorem dM_stood_4 : decode cM_stood 4 = .ok (.istore_n 2, 1) := by decide +kernel
theorem dM_stood_5 : decode cM_stood 5 = .ok (.iload_n 2, 1) := by decide +kernel
theorem dM_stood_6 : decode cM_stood 6 = .ok (.bipush 10, 2) := by decide +kernel
theorem dM_stood_8 : decode cM_stood 8 = .ok (.iload_n 1, 1) := by decide +kernel
theorem dM_stood_9 : decode cM_stood 9 = .ok (.imul, 1) := by decide +kernel
theorem dM_stood_10 : decode cM_stood 10 = .ok (.bipush 10, 2) := by decide +kernel
theorem dM_stood_12 : decode cM_stood 12 = .ok (.iadd, 1) := by decide +kernel
theorem dM_stood_13 : decode cM_stood 13 = .ok (.if_icmp .ge 20, 3) := by decide +kernel
theorem dM_stood_16 : decode cM_stood 16 = .ok (.aload_n 0, 1) := by decide +kernel
theorem dM_stood_17 : decode cM_stood 17 = .ok (.iload_n 2, 1) := by decide +kernel
theorem dM_stood_18 : decode cM_stood 18 = .ok (.iconst (-1), 1) := by decide +kernel
theorem dM_stood_19 : decode cM_stood 19 = .ok (.invokevirtual 103, 3) := by decide +kernel
theorem dM_stood_22 : decode cM_stood 22 = .ok (.ifCond .lt 5, 3) := by decide +kernel
theorem dM_stood_25 : decode cM_stood 25 = .ok (.iconst 1, 1) := by decide +kernel
theorem dM_stood_26 : decode cM_stood 26 = .ok (.ireturn, 1) := by decide +kernel
theorem dM_stood_27 : decode cM_stood 27 = .ok (.iinc 2 1, 3) := by decide +kernel
theorem dM_stood_30 : decode cM_stood 30 = .ok (.goto (-25), 3) := by decide +kernel
theorem dM_stood_33 : decode cM_stood 33 = .ok (.iconst 0, 1) := by decide +kernel
theorem dM_stood_34 : decode cM_stood 34 = .ok (.ireturn, 1) := by decide +kernel
theorem dM_count_0 : decode cM_count 0 = .ok (.aload_n 0, 1) := by decide +kernel
theorem dM_count_1 : decode cM_count 1 = .ok (.iconst 0, 1) := by decide +kernel
theorem dM_count_2 : decode cM_count 2 = .ok (.putfield 59, 3) := by decide +kernel
theorem dM_count_5 : decode cM_count 5 = .ok (.iconst 0, 1) := by decide +kernel
theorem dM_count_6 : decode cM_count 6 = .ok (.istore_n 2, 1) := by decide +kernel
theorem dM_count_7 : decode cM_count 7 = .ok (.iload_n 1, 1) := by decide +kernel
theorem dM_count_8 : decode cM_count 8 = .ok (.tableswitch 141 0 7 #[48, 53, 83, 83, 83, 83, 91, 136], 48) := by decide +kernel
theorem dM_count_56 : decode cM_count 56 = .ok (.aload_n 0, 1) := by decide +kernel
theorem dM_count_57 : decode cM_count 57 = .ok (.getfield 63, 3) := by decide +kernel
theorem dM_count_60 : decode cM_count 60 = .ok (.ireturn, 1) := by decide +kernel
theorem dM_count_61 : decode cM_count 61 = .ok (.iconst 0, 1) := by decide +kernel
theorem dM_count_62 : decode cM_count 62 = .ok (.istore_n 3, 1) := by decide +kernel
theorem dM_count_63 : decode cM_count 63 = .ok (.iload_n 3, 1) := by decide +kernel
theorem dM_count_64 : decode cM_count 64 = .ok (.aload_n 0, 1) := by decide +kernel
theorem dM_count_65 : decode cM_count 65 = .ok (.getfield 63, 3) := by decide +kernel
theorem dM_count_68 : decode cM_count 68 = .ok (.if_icmp .ge 21, 3) := by decide +kernel
theorem dM_count_71 : decode cM_count 71 = .ok (.aload_n 0, 1) := by decide +kernel
theorem dM_count_72 : decode cM_count 72 = .ok (.getfield 7, 3) := by decide +kernel
theorem dM_count_75 : decode cM_count 75 = .ok (.iload_n 3, 1) := by decide +kernel
theorem dM_count_76 : decode cM_count 76 = .ok (.baload, 1) := by decide +kernel
theorem dM_count_77 : decode cM_count 77 = .ok (.ifCond .eq 6, 3) := by decide +kernel
theorem dM_count_80 : decode cM_count 80 = .ok (.iinc 2 1, 3) := by decide +kernel
theorem dM_count_83 : decode cM_count 83 = .ok (.iinc 3 1, 3) := by decide +kernel
theorem dM_count_86 : decode cM_count 86 = .ok (.goto (-23), 3) := by decide +kernel
theorem dM_count_89 : decode cM_count 89 = .ok (.iload_n 2, 1) := by decide +kernel
theorem dM_count_90 : decode cM_count 90 = .ok (.ireturn, 1) := by decide +kernel
theorem dM_count_91 : decode cM_count 91 = .ok (.aload_n 0, 1) := by decide +kernel
theorem dM_count_92 : decode cM_count 92 = .ok (.iload_n 1, 1) := by decide +kernel
theorem dM_count_93 : decode cM_count 93 = .ok (.iconst 2, 1) := by decide +kernel
theorem dM_count_94 : decode cM_count 94 = .ok (.isub, 1) := by decide +kernel
theorem dM_count_95 : decode cM_count 95 = .ok (.invokevirtual 126, 3) := by decide +kernel
theorem dM_count_98 : decode cM_count 98 = .ok (.ireturn, 1) := by decide +kernel
theorem dM_count_99 : decode cM_count 99 = .ok (.iconst 0, 1) := by decide +kernel
theorem dM_count_100 : decode cM_count 100 = .ok (.istore_n 3, 1) := by decide +kernel
theorem dM_count_101 : decode cM_count 101 = .ok (.iload_n 3, 1) := by decide +kernel
theorem dM_count_102 : decode cM_count 102 = .ok (.bipush 12, 2) := by decide +kernel
theorem dM_count_104 : decode cM_count 104 = .ok (.if_icmp .ge 38, 3) := by decide +kernel
theorem dM_count_107 : decode cM_count 107 = .ok (.aload_n 0, 1) := by decide +kernel
theorem dM_count_108 : decode cM_count 108 = .ok (.getfield 50, 3) := by decide +kernel
theorem dM_count_111 : decode cM_count 111 = .ok (.iload_n 3, 1) := by decide +kernel
theorem dM_count_112 : decode cM_count 112 = .ok (.iaload, 1) := by decide +kernel
theorem dM_count_113 : decode cM_count 113 = .ok (.ifCond .ne 23, 3) := by decide +kernel
theorem dM_count_116 : decode cM_count 116 = .ok (.aload_n 0, 1) := by decide +kernel
theorem dM_count_117 : decode cM_count 117 = .ok (.iload_n 3, 1) := by decide +kernel
theorem dM_count_118 : decode cM_count 118 = .ok (.iconst (-1), 1) := by decide +kernel
theorem dM_count_119 : decode cM_count 119 = .ok (.invokevirtual 107, 3) := by decide +kernel
theorem dM_count_122 : decode cM_count 122 = .ok (.ifCond .ne 14, 3) := by decide +kernel
theorem dM_count_125 : decode cM_count 125 = .ok (.aload_n 0, 1) := by decide +kernel
theorem dM_count_126 : decode cM_count 126 = .ok (.iload_n 3, 1) := by decide +kernel
theorem dM_count_127 : decode cM_count 127 = .ok (.invokevirtual 129, 3) := by decide +kernel
theorem dM_count_130 : decode cM_count 130 = .ok (.ifCond .eq 6, 3) := by decide +kernel
theorem dM_count_133 : decode cM_count 133 = .ok (.iinc 2 1, 3) := by decide +kernel
theorem dM_count_136 : decode cM_count 136 = .ok (.iinc 3 1, 3) := by decide +kernel
theorem dM_count_139 : decode cM_count 139 = .ok (.goto (-38), 3) := by decide +kernel
theorem dM_count_142 : decode cM_count 142 = .ok (.iload_n 2, 1) := by decide +kernel
theorem dM_count_143 : decode cM_count 143 = .ok (.ireturn, 1) := by decide +kernel
theorem dM_count_144 : decode cM_count 144 = .ok (.aload_n 0, 1) := by decide +kernel
theorem dM_count_145 : decode cM_count 145 = .ok (.getfield 120, 3) := by decide +kernel
theorem dM_count_148 : decode cM_count 148 = .ok (.ireturn, 1) := by decide +kernel
theorem dM_count_149 : decode cM_count 149 = .ok (.aload_n 0, 1) := by decide +kernel
theorem dM_count_150 : decode cM_count 150 = .ok (.iconst 1, 1) := by decide +kernel
theorem dM_count_151 : decode cM_count 151 = .ok (.invokevirtual 100, 3) := by decide +kernel
theorem dM_count_154 : decode cM_count 154 = .ok (.ireturn, 1) := by decide +kernel
end
section
theorem dV_init_0 : decode cV_init 0 = .ok (.aload_n 0, 1) := by decide +kernel
theorem dV_init_1 : decode cV_init 1 = .ok (.invokespecial 3, 3) := by decide +kernel
theorem dV_init_4 : decode cV_init 4 = .ok (.aload_n 0, 1) := by decide +kernel
theorem dV_init_5 : decode cV_init 5 = .ok (.iconst 0, 1) := by decide +kernel
theorem dV_init_6 : decode cV_init 6 = .ok (.putfield 9, 3) := by decide +kernel
theorem dV_init_9 : decode cV_init 9 = .ok (.aload_n 0, 1) := by decide +kernel
theorem dV_init_10 : decode cV_init 10 = .ok (.iconst 0, 1) := by decide +kernel
theorem dV_init_11 : decode cV_init 11 = .ok (.putfield 15, 3) := by decide +kernel
theorem dV_init_14 : decode cV_init 14 = .ok (.aload_n 0, 1) := by decide +kernel
theorem dV_init_15 : decode cV_init 15 = .ok (.iconst 0, 1) := by decide +kernel
theorem dV_init_16 : decode cV_init 16 = .ok (.putfield 18, 3) := by decide +kernel
theorem dV_init_19 : decode cV_init 19 = .ok (.aload_n 0, 1) := by decide +kernel
theorem dV_init_20 : decode cV_init 20 = .ok (.iconst 0, 1) := by decide +kernel
theorem dV_init_21 : decode cV_init 21 = .ok (.putfield 22, 3) := by decide +kernel
theorem dV_init_24 : decode cV_init 24 = .ok (.aload_n 0, 1) := by decide +kernel
theorem dV_init_25 : decode cV_init 25 = .ok (.iconst 0, 1) := by decide +kernel
theorem dV_init_26 : decode cV_init 26 = .ok (.putfield 25, 3) := by decide +kernel
theorem dV_init_29 : decode cV_init 29 = .ok (.aload_n 0, 1) := by decide +kernel
theorem dV_init_30 : decode cV_init 30 = .ok (.iconst 0, 1) := by decide +kernel
theorem dV_init_31 : decode cV_init 31 = .ok (.putfield 28, 3) := by decide +kernel
theorem dV_init_34 : decode cV_init 34 = .ok (.aload_n 0, 1) := by decide +kernel
theorem dV_init_35 : decode cV_init 35 = .ok (.iconst 0, 1) := by decide +kernel
theorem dV_init_36 : decode cV_init 36 = .ok (.putfield 31, 3) := by decide +kernel
theorem dV_init_39 : decode cV_init 39 = .ok (.aload_n 0, 1) := by decide +kernel
theorem dV_init_40 : decode cV_init 40 = .ok (.iconst 0, 1) := by decide +kernel
theorem dV_init_41 : decode cV_init 41 = .ok (.putfield 34, 3) := by decide +kernel
theorem dV_init_44 : decode cV_init 44 = .ok (.aload_n 0, 1) := by decide +kernel
theorem dV_init_45 : decode cV_init 45 = .ok (.iconst 0, 1) := by decide +kernel
theorem dV_init_46 : decode cV_init 46 = .ok (.putfield 37, 3) := by decide +kernel
theorem dV_init_49 : decode cV_init 49 = .ok (.aload_n 0, 1) := by decide +kernel
theorem dV_init_50 : decode cV_init 50 = .ok (.iconst 0, 1) := by decide +kernel
theorem dV_init_51 : decode cV_init 51 = .ok (.putfield 40, 3) := by decide +kernel
theorem dV_init_54 : decode cV_init 54 = .ok (.aload_n 0, 1) := by decide +kernel
theorem dV_init_55 : decode cV_init 55 = .ok (.iconst 0, 1) := by decide +kernel
theorem dV_init_56 : decode cV_init 56 = .ok (.putfield 43, 3) := by decide +kernel
theorem dV_init_59 : decode cV_init 59 = .ok (.aload_n 0, 1) := by decide +kernel
theorem dV_init_60 : decode cV_init 60 = .ok (.iconst 0, 1) := by decide +kernel
theorem dV_init_61 : decode cV_init 61 = .ok (.putfield 46, 3) := by decide +kernel
theorem dV_init_64 : decode cV_init 64 = .ok (.aload_n 0, 1) := by decide +kernel
theorem dV_init_65 : decode cV_init 65 = .ok (.iconst 0, 1) := by decide +kernel
theorem dV_init_66 : decode cV_init 66 = .ok (.putfield 49, 3) := by decide +kernel
theorem dV_init_69 : decode cV_init 69 = .ok (.return_, 1) := by decide +kernel
theorem dV_becomeTrain_0 : decode cV_becomeTrain 0 = .ok (.aload_n 0, 1) := by decide +kernel
theorem dV_becomeTrain_1 : decode cV_becomeTrain 1 = .ok (.iconst 1, 1) := by decide +kernel
theorem dV_becomeTrain_2 : decode cV_becomeTrain 2 = .ok (.putfield 9, 3) := by decide +kernel
theorem dV_becomeTrain_5 : decode cV_becomeTrain 5 = .ok (.aload_n 0, 1) := by decide +kernel
theorem dV_becomeTrain_6 : decode cV_becomeTrain 6 = .ok (.iconst 1, 1) := by decide +kernel
theorem dV_becomeTrain_7 : decode cV_becomeTrain 7 = .ok (.putfield 15, 3) := by decide +kernel
theorem dV_becomeTrain_10 : decode cV_becomeTrain 10 = .ok (.aload_n 0, 1) := by decide +kernel
theorem dV_becomeTrain_11 : decode cV_becomeTrain 11 = .ok (.iload_n 1, 1) := by decide +kernel
theorem dV_becomeTrain_12 : decode cV_becomeTrain 12 = .ok (.putfield 18, 3) := by decide +kernel
theorem dV_becomeTrain_15 : decode cV_becomeTrain 15 = .ok (.aload_n 0, 1) := by decide +kernel
theorem dV_becomeTrain_16 : decode cV_becomeTrain 16 = .ok (.iload_n 2, 1) := by decide +kernel
theorem dV_becomeTrain_17 : decode cV_becomeTrain 17 = .ok (.putfield 22, 3) := by decide +kernel
theorem dV_becomeTrain_20 : decode cV_becomeTrain 20 = .ok (.aload_n 0, 1) := by decide +kernel
theorem dV_becomeTrain_21 : decode cV_becomeTrain 21 = .ok (.iload_n 1, 1) := by decide +kernel
theorem dV_becomeTrain_22 : decode cV_becomeTrain 22 = .ok (.putfield 28, 3) := by decide +kernel
theorem dV_becomeTrain_25 : decode cV_becomeTrain 25 = .ok (.aload_n 0, 1) := by decide +kernel
theorem dV_becomeTrain_26 : decode cV_becomeTrain 26 = .ok (.iconst 1, 1) := by decide +kernel
theorem dV_becomeTrain_27 : decode cV_becomeTrain 27 = .ok (.putfield 34, 3) := by decide +kernel
theorem dV_becomeTrain_30 : decode cV_becomeTrain 30 = .ok (.aload_n 0, 1) := by decide +kernel
theorem dV_becomeTrain_31 : decode cV_becomeTrain 31 = .ok (.invokevirtual 52, 3) := by decide +kernel
theorem dV_becomeTrain_34 : decode cV_becomeTrain 34 = .ok (.aload_n 0, 1) := by decide +kernel
theorem dV_becomeTrain_35 : decode cV_becomeTrain 35 = .ok (.aload_n 0, 1) := by decide +kernel
theorem dV_becomeTrain_36 : decode cV_becomeTrain 36 = .ok (.getfield 46, 3) := by decide +kernel
theorem dV_becomeTrain_39 : decode cV_becomeTrain 39 = .ok (.putfield 49, 3) := by decide +kernel
theorem dV_becomeTrain_42 : decode cV_becomeTrain 42 = .ok (.return_, 1) := by decide +kernel
theorem dV_becomeWagon_0 : decode cV_becomeWagon 0 = .ok (.aload_n 0, 1) := by decide +kernel
theorem dV_becomeWagon_1 : decode cV_becomeWagon 1 = .ok (.iconst 1, 1) := by decide +kernel
theorem dV_becomeWagon_2 : decode cV_becomeWagon 2 = .ok (.putfield 15, 3) := by decide +kernel
theorem dV_becomeWagon_5 : decode cV_becomeWagon 5 = .ok (.aload_n 0, 1) := by decide +kernel
theorem dV_becomeWagon_6 : decode cV_becomeWagon 6 = .ok (.iload_n 1, 1) := by decide +kernel
theorem dV_becomeWagon_7 : decode cV_becomeWagon 7 = .ok (.putfield 18, 3) := by decide +kernel
theorem dV_becomeWagon_10 : decode cV_becomeWagon 10 = .ok (.aload_n 0, 1) := by decide +kernel
theorem dV_becomeWagon_11 : decode cV_becomeWagon 11 = .ok (.iload_n 2, 1) := by decide +kernel
theorem dV_becomeWagon_12 : decode cV_becomeWagon 12 = .ok (.putfield 22, 3) := by decide +kernel
theorem dV_becomeWagon_15 : decode cV_becomeWagon 15 = .ok (.return_, 1) := by decide +kernel
theorem dV_sendReport_0 : decode cV_sendReport 0 = .ok (.aload_n 0, 1) := by decide +kernel
theorem dV_sendReport_1 : decode cV_sendReport 1 = .ok (.aload_n 0, 1) := by decide +kernel
theorem dV_sendReport_2 : decode cV_sendReport 2 = .ok (.getfield 18, 3) := by decide +kernel
theorem dV_sendReport_5 : decode cV_sendReport 5 = .ok (.putfield 40, 3) := by decide +kernel
theorem dV_sendReport_8 : decode cV_sendReport 8 = .ok (.aload_n 0, 1) := by decide +kernel
theorem dV_sendReport_9 : decode cV_sendReport 9 = .ok (.aload_n 0, 1) := by decide +kernel
theorem dV_sendReport_10 : decode cV_sendReport 10 = .ok (.getfield 34, 3) := by decide +kernel
theorem dV_sendReport_13 : decode cV_sendReport 13 = .ok (.putfield 43, 3) := by decide +kernel
theorem dV_sendReport_16 : decode cV_sendReport 16 = .ok (.aload_n 0, 1) := by decide +kernel
theorem dV_sendReport_17 : decode cV_sendReport 17 = .ok (.aload_n 0, 1) := by decide +kernel
theorem dV_sendReport_18 : decode cV_sendReport 18 = .ok (.getfield 46, 3) := by decide +kernel
theorem dV_sendReport_21 : decode cV_sendReport 21 = .ok (.putfield 49, 3) := by decide +kernel
theorem dV_sendReport_24 : decode cV_sendReport 24 = .ok (.aload_n 0, 1) := by decide +kernel
theorem dV_sendReport_25 : decode cV_sendReport 25 = .ok (.aload_n 0, 1) := by decide +kernel
theorem dV_sendReport_26 : decode cV_sendReport 26 = .ok (.invokevirtual 55, 3) := by decide +kernel
theorem dV_sendReport_29 : decode cV_sendReport 29 = .ok (.bipush 10, 2) := by decide +kernel
theorem dV_sendReport_31 : decode cV_sendReport 31 = .ok (.idiv, 1) := by decide +kernel
theorem dV_sendReport_32 : decode cV_sendReport 32 = .ok (.putfield 46, 3) := by decide +kernel
theorem dV_sendReport_35 : decode cV_sendReport 35 = .ok (.aload_n 0, 1) := by decide +kernel
theorem dV_sendReport_36 : decode cV_sendReport 36 = .ok (.iconst 0, 1) := by decide +kernel
theorem dV_sendReport_37 : decode cV_sendReport 37 = .ok (.putfield 37, 3) := by decide +kernel
theorem dV_sendReport_40 : decode cV_sendReport 40 = .ok (.return_, 1) := by decide +kernel
theorem dV_reportOrAge_0 : decode cV_reportOrAge 0 = .ok (.aload_n 0, 1) := by decide +kernel
theorem dV_reportOrAge_1 : decode cV_reportOrAge 1 = .ok (.getfield 31, 3) := by decide +kernel
theorem dV_reportOrAge_4 : decode cV_reportOrAge 4 = .ok (.ifCond .eq 16, 3) := by decide +kernel
theorem dV_reportOrAge_7 : decode cV_reportOrAge 7 = .ok (.aload_n 0, 1) := by decide +kernel
theorem dV_reportOrAge_8 : decode cV_reportOrAge 8 = .ok (.dup, 1) := by decide +kernel
theorem dV_reportOrAge_9 : decode cV_reportOrAge 9 = .ok (.getfield 37, 3) := by decide +kernel
theorem dV_reportOrAge_12 : decode cV_reportOrAge 12 = .ok (.iconst 1, 1) := by decide +kernel
theorem dV_reportOrAge_13 : decode cV_reportOrAge 13 = .ok (.iadd, 1) := by decide +kernel
theorem dV_reportOrAge_14 : decode cV_reportOrAge 14 = .ok (.putfield 37, 3) := by decide +kernel
theorem dV_reportOrAge_17 : decode cV_reportOrAge 17 = .ok (.goto 7, 3) := by decide +kernel
theorem dV_reportOrAge_20 : decode cV_reportOrAge 20 = .ok (.aload_n 0, 1) := by decide +kernel
theorem dV_reportOrAge_21 : decode cV_reportOrAge 21 = .ok (.invokevirtual 52, 3) := by decide +kernel
theorem dV_reportOrAge_24 : decode cV_reportOrAge 24 = .ok (.return_, 1) := by decide +kernel
theorem dV_lastPlace_0 : decode cV_lastPlace 0 = .ok (.aload_n 0, 1) := by decide +kernel
theorem dV_lastPlace_1 : decode cV_lastPlace 1 = .ok (.getfield 18, 3) := by decide +kernel
theorem dV_lastPlace_4 : decode cV_lastPlace 4 = .ok (.aload_n 0, 1) := by decide +kernel
theorem dV_lastPlace_5 : decode cV_lastPlace 5 = .ok (.getfield 22, 3) := by decide +kernel
theorem dV_lastPlace_8 : decode cV_lastPlace 8 = .ok (.isub, 1) := by decide +kernel
theorem dV_lastPlace_9 : decode cV_lastPlace 9 = .ok (.iconst 1, 1) := by decide +kernel
theorem dV_lastPlace_10 : decode cV_lastPlace 10 = .ok (.iadd, 1) := by decide +kernel
theorem dV_lastPlace_11 : decode cV_lastPlace 11 = .ok (.ireturn, 1) := by decide +kernel
theorem dV_standsWithin_0 : decode cV_standsWithin 0 = .ok (.aload_n 0, 1) := by decide +kernel
theorem dV_standsWithin_1 : decode cV_standsWithin 1 = .ok (.getfield 15, 3) := by decide +kernel
theorem dV_standsWithin_4 : decode cV_standsWithin 4 = .ok (.ifCond .eq 23, 3) := by decide +kernel
theorem dV_standsWithin_7 : decode cV_standsWithin 7 = .ok (.aload_n 0, 1) := by decide +kernel
theorem dV_standsWithin_8 : decode cV_standsWithin 8 = .ok (.getfield 18, 3) := by decide +kernel
theorem dV_standsWithin_11 : decode cV_standsWithin 11 = .ok (.iload_n 1, 1) := by decide +kernel
theorem dV_standsWithin_12 : decode cV_standsWithin 12 = .ok (.if_icmp .lt 15, 3) := by decide +kernel
theorem dV_standsWithin_15 : decode cV_standsWithin 15 = .ok (.aload_n 0, 1) := by decide +kernel
theorem dV_standsWithin_16 : decode cV_standsWithin 16 = .ok (.invokevirtual 55, 3) := by decide +kernel
theorem dV_standsWithin_19 : decode cV_standsWithin 19 = .ok (.iload_n 2, 1) := by decide +kernel
theorem dV_standsWithin_20 : decode cV_standsWithin 20 = .ok (.if_icmp .gt 7, 3) := by decide +kernel
theorem dV_standsWithin_23 : decode cV_standsWithin 23 = .ok (.iconst 1, 1) := by decide +kernel
theorem dV_standsWithin_24 : decode cV_standsWithin 24 = .ok (.goto 4, 3) := by decide +kernel
theorem dV_standsWithin_27 : decode cV_standsWithin 27 = .ok (.iconst 0, 1) := by decide +kernel
theorem dV_standsWithin_28 : decode cV_standsWithin 28 = .ok (.ireturn, 1) := by decide +kernel
theorem dV_isMute_0 : decode cV_isMute 0 = .ok (.aload_n 0, 1) := by decide +kernel
theorem dV_isMute_1 : decode cV_isMute 1 = .ok (.getfield 9, 3) := by decide +kernel
theorem dV_isMute_4 : decode cV_isMute 4 = .ok (.ifCond .eq 15, 3) := by decide +kernel
theorem dV_isMute_7 : decode cV_isMute 7 = .ok (.aload_n 0, 1) := by decide +kernel
theorem dV_isMute_8 : decode cV_isMute 8 = .ok (.getfield 37, 3) := by decide +kernel
theorem dV_isMute_11 : decode cV_isMute 11 = .ok (.iconst 5, 1) := by decide +kernel
theorem dV_isMute_12 : decode cV_isMute 12 = .ok (.if_icmp .le 7, 3) := by decide +kernel
theorem dV_isMute_15 : decode cV_isMute 15 = .ok (.iconst 1, 1) := by decide +kernel
theorem dV_isMute_16 : decode cV_isMute 16 = .ok (.goto 4, 3) := by decide +kernel
theorem dV_isMute_19 : decode cV_isMute 19 = .ok (.iconst 0, 1) := by decide +kernel
theorem dV_isMute_20 : decode cV_isMute 20 = .ok (.ireturn, 1) := by decide +kernel
theorem dV_isLocatedOn_0 : decode cV_isLocatedOn 0 = .ok (.aload_n 0, 1) := by decide +kernel
theorem dV_isLocatedOn_1 : decode cV_isLocatedOn 1 = .ok (.getfield 9, 3) := by decide +kernel
theorem dV_isLocatedOn_4 : decode cV_isLocatedOn 4 = .ok (.ifCond .eq 33, 3) := by decide +kernel
theorem dV_isLocatedOn_7 : decode cV_isLocatedOn 7 = .ok (.aload_n 0, 1) := by decide +kernel
theorem dV_isLocatedOn_8 : decode cV_isLocatedOn 8 = .ok (.invokevirtual 59, 3) := by decide +kernel
theorem dV_isLocatedOn_11 : decode cV_isLocatedOn 11 = .ok (.ifCond .ne 26, 3) := by decide +kernel
theorem dV_isLocatedOn_14 : decode cV_isLocatedOn 14 = .ok (.aload_n 0, 1) := by decide +kernel
theorem dV_isLocatedOn_15 : decode cV_isLocatedOn 15 = .ok (.getfield 46, 3) := by decide +kernel
theorem dV_isLocatedOn_18 : decode cV_isLocatedOn 18 = .ok (.iload_n 1, 1) := by decide +kernel
theorem dV_isLocatedOn_19 : decode cV_isLocatedOn 19 = .ok (.if_icmp .gt 18, 3) := by decide +kernel
theorem dV_isLocatedOn_22 : decode cV_isLocatedOn 22 = .ok (.iload_n 1, 1) := by decide +kernel
theorem dV_isLocatedOn_23 : decode cV_isLocatedOn 23 = .ok (.aload_n 0, 1) := by decide +kernel
theorem dV_isLocatedOn_24 : decode cV_isLocatedOn 24 = .ok (.getfield 40, 3) := by decide +kernel
theorem dV_isLocatedOn_27 : decode cV_isLocatedOn 27 = .ok (.bipush 10, 2) := by decide +kernel
theorem dV_isLocatedOn_29 : decode cV_isLocatedOn 29 = .ok (.idiv, 1) := by decide +kernel
theorem dV_isLocatedOn_30 : decode cV_isLocatedOn 30 = .ok (.if_icmp .gt 7, 3) := by decide +kernel
theorem dV_isLocatedOn_33 : decode cV_isLocatedOn 33 = .ok (.iconst 1, 1) := by decide +kernel
theorem dV_isLocatedOn_34 : decode cV_isLocatedOn 34 = .ok (.goto 4, 3) := by decide +kernel
theorem dV_isLocatedOn_37 : decode cV_isLocatedOn 37 = .ok (.iconst 0, 1) := by decide +kernel
theorem dV_isLocatedOn_38 : decode cV_isLocatedOn 38 = .ok (.ireturn, 1) := by decide +kernel
theorem dV_claimsWithin_0 : decode cV_claimsWithin 0 = .ok (.aload_n 0, 1) := by decide +kernel
theorem dV_claimsWithin_1 : decode cV_claimsWithin 1 = .ok (.getfield 9, 3) := by decide +kernel
theorem dV_claimsWithin_4 : decode cV_claimsWithin 4 = .ok (.ifCond .eq 26, 3) := by decide +kernel
theorem dV_claimsWithin_7 : decode cV_claimsWithin 7 = .ok (.aload_n 0, 1) := by decide +kernel
theorem dV_claimsWithin_8 : decode cV_claimsWithin 8 = .ok (.getfield 46, 3) := by decide +kernel
theorem dV_claimsWithin_11 : decode cV_claimsWithin 11 = .ok (.iload_n 2, 1) := by decide +kernel
theorem dV_claimsWithin_12 : decode cV_claimsWithin 12 = .ok (.if_icmp .gt 18, 3) := by decide +kernel
theorem dV_claimsWithin_15 : decode cV_claimsWithin 15 = .ok (.aload_n 0, 1) := by decide +kernel
theorem dV_claimsWithin_16 : decode cV_claimsWithin 16 = .ok (.getfield 28, 3) := by decide +kernel
theorem dV_claimsWithin_19 : decode cV_claimsWithin 19 = .ok (.bipush 10, 2) := by decide +kernel
theorem dV_claimsWithin_21 : decode cV_claimsWithin 21 = .ok (.idiv, 1) := by decide +kernel
theorem dV_claimsWithin_22 : decode cV_claimsWithin 22 = .ok (.iload_n 1, 1) := by decide +kernel
theorem dV_claimsWithin_23 : decode cV_claimsWithin 23 = .ok (.if_icmp .lt 7, 3) := by decide +kernel
theorem dV_claimsWithin_26 : decode cV_claimsWithin 26 = .ok (.iconst 1, 1) := by decide +kernel
theorem dV_claimsWithin_27 : decode cV_claimsWithin 27 = .ok (.goto 4, 3) := by decide +kernel
theorem dV_claimsWithin_30 : decode cV_claimsWithin 30 = .ok (.iconst 0, 1) := by decide +kernel
theorem dV_claimsWithin_31 : decode cV_claimsWithin 31 = .ok (.ireturn, 1) := by decide +kernel
theorem dV_hasLeft_0 : decode cV_hasLeft 0 = .ok (.aload_n 0, 1) := by decide +kernel
theorem dV_hasLeft_1 : decode cV_hasLeft 1 = .ok (.getfield 49, 3) := by decide +kernel
theorem dV_hasLeft_4 : decode cV_hasLeft 4 = .ok (.iload_n 1, 1) := by decide +kernel
theorem dV_hasLeft_5 : decode cV_hasLeft 5 = .ok (.if_icmp .gt 15, 3) := by decide +kernel
theorem dV_hasLeft_8 : decode cV_hasLeft 8 = .ok (.iload_n 1, 1) := by decide +kernel
theorem dV_hasLeft_9 : decode cV_hasLeft 9 = .ok (.aload_n 0, 1) := by decide +kernel
theorem dV_hasLeft_10 : decode cV_hasLeft 10 = .ok (.getfield 46, 3) := by decide +kernel
theorem dV_hasLeft_13 : decode cV_hasLeft 13 = .ok (.if_icmp .ge 7, 3) := by decide +kernel
theorem dV_hasLeft_16 : decode cV_hasLeft 16 = .ok (.iconst 1, 1) := by decide +kernel
theorem dV_hasLeft_17 : decode cV_hasLeft 17 = .ok (.goto 4, 3) := by decide +kernel
theorem dV_hasLeft_20 : decode cV_hasLeft 20 = .ok (.iconst 0, 1) := by decide +kernel
theorem dV_hasLeft_21 : decode cV_hasLeft 21 = .ok (.ireturn, 1) := by decide +kernel
end
section
def ht_tb : List Cond := lw_tbl.filter goodWord
theorem ht_wt {w : Cond} (i : Nat) (h : tables_1[i]? = some w) (hg : goodWord w = true) : w ∈ ht_tb := List.mem_filter.mpr ⟨List.mem_append_right _ (List.mem_of_getElem? h), hg⟩
theorem ht_wp {w : Cond} (i : Nat) (h : (k2_sels lw_privs)[i]? = some w) (hg : goodWord w = true) : w ∈ ht_tb := List.mem_filter.mpr ⟨List.mem_append_left _ (List.mem_of_getElem? h), hg⟩
theorem w0 : Jvm.Cond.initialized "HybridTrackLaw" ∈ ht_tb := ht_wt 0 rfl rfl
theorem w1 : Jvm.Cond.initialized "HybridTrack" ∈ ht_tb := ht_wt 1 rfl rfl
theorem w2 : Jvm.Cond.initialized "HybridTrack$Vehicle" ∈ ht_tb := ht_wt 2 rfl rfl
theorem w3 : Jvm.Cond.initialized "HybridTrackModel" ∈ ht_tb := ht_wt 3 rfl rfl
theorem w4 : Jvm.Cond.initialized "java/lang/Throwable" ∈ ht_tb := ht_wt 4 rfl rfl
theorem w5 : Jvm.Cond.initialized "java/lang/Exception" ∈ ht_tb := ht_wt 5 rfl rfl
theorem w6 : Jvm.Cond.initialized "java/lang/RuntimeException" ∈ ht_tb := ht_wt 6 rfl rfl
theorem w7 : Jvm.Cond.initialized "java/lang/IllegalArgumentException" ∈ ht_tb := ht_wt 7 rfl rfl
theorem w8 : Jvm.Cond.initialized "java/lang/IllegalStateException" ∈ ht_tb := ht_wt 8 rfl rfl
theorem w9 : Jvm.Cond.initialized "java/util/NoSuchElementException" ∈ ht_tb := ht_wt 9 rfl rfl
theorem w10 : Jvm.Cond.classLink "HybridTrackLaw" (8 : Nat) "HybridTrack" ∈ ht_tb := ht_wt 10 rfl rfl
theorem w11 : Jvm.Cond.instantiable "HybridTrack" (7 : Nat) ∈ ht_tb := ht_wt 11 rfl rfl
theorem w12 : Jvm.Cond.methodLink "HybridTrackLaw" (57 : Nat) ({ cls := "HybridTrack", name := "<init>", desc := "()V" } : Jvm.MethodName) ∈ ht_tb := ht_wt 12 rfl rfl
theorem w13 : Jvm.Cond.instanceMethod ({ cls := "HybridTrack", name := "<init>", desc := "()V" } : Jvm.MethodName) ∈ ht_tb := ht_wt 13 rfl rfl
theorem w14 : Jvm.Cond.code ({ cls := "HybridTrack", name := "<init>", desc := "()V" } : Jvm.MethodName) prog_1_method_1_code (2 : Nat) (Option.none : Option Jvm.ClassFile.FieldType) ∈ ht_tb := ht_wt 14 rfl rfl
theorem w15 : Jvm.Cond.methodLink "HybridTrack" (1 : Nat) ({ cls := "java/lang/Object", name := "<init>", desc := "()V" } : Jvm.MethodName) ∈ ht_tb := ht_wt 15 rfl rfl
theorem w16 : Jvm.Cond.instanceMethod ({ cls := "java/lang/Object", name := "<init>", desc := "()V" } : Jvm.MethodName) ∈ ht_tb := ht_wt 16 rfl rfl
theorem w17 : Jvm.Cond.code ({ cls := "java/lang/Object", name := "<init>", desc := "()V" } : Jvm.MethodName) object_method_1_code (1 : Nat) (Option.none : Option Jvm.ClassFile.FieldType) ∈ ht_tb := ht_wt 17 rfl rfl
theorem w18 : Jvm.Cond.classLink "HybridTrack" (9 : Nat) "HybridTrack$Vehicle" ∈ ht_tb := ht_wt 18 rfl rfl
theorem w20 : Jvm.Cond.instantiable "HybridTrack$Vehicle" (13 : Nat) ∈ ht_tb := ht_wt 20 rfl rfl
theorem w22 : Jvm.Cond.instanceMethod ({ cls := "HybridTrack$Vehicle", name := "<init>", desc := "()V" } : Jvm.MethodName) ∈ ht_tb := ht_wt 22 rfl rfl
theorem w23 : Jvm.Cond.code ({ cls := "HybridTrack$Vehicle", name := "<init>", desc := "()V" } : Jvm.MethodName) prog_2_method_1_code (1 : Nat) (Option.none : Option Jvm.ClassFile.FieldType) ∈ ht_tb := ht_wt 23 rfl rfl
theorem w24 : Jvm.Cond.methodLink "HybridTrack$Vehicle" (3 : Nat) ({ cls := "java/lang/Object", name := "<init>", desc := "()V" } : Jvm.MethodName) ∈ ht_tb := ht_wt 24 rfl rfl
theorem w25 : Jvm.Cond.fieldLink "HybridTrack$Vehicle" (9 : Nat) "HybridTrack$Vehicle" "isTrain" "Z" ∈ ht_tb := ht_wt 25 rfl rfl
theorem w27 : Jvm.Cond.fieldLink "HybridTrack$Vehicle" (15 : Nat) "HybridTrack$Vehicle" "onTrack" "Z" ∈ ht_tb := ht_wt 27 rfl rfl
theorem w29 : Jvm.Cond.fieldLink "HybridTrack$Vehicle" (18 : Nat) "HybridTrack$Vehicle" "front" "I" ∈ ht_tb := ht_wt 29 rfl rfl
theorem w31 : Jvm.Cond.fieldLink "HybridTrack$Vehicle" (22 : Nat) "HybridTrack$Vehicle" "length" "I" ∈ ht_tb := ht_wt 31 rfl rfl
theorem w33 : Jvm.Cond.fieldLink "HybridTrack$Vehicle" (25 : Nat) "HybridTrack$Vehicle" "speed" "I" ∈ ht_tb := ht_wt 33 rfl rfl
theorem w35 : Jvm.Cond.fieldLink "HybridTrack$Vehicle" (28 : Nat) "HybridTrack$Vehicle" "end" "I" ∈ ht_tb := ht_wt 35 rfl rfl
theorem w37 : Jvm.Cond.fieldLink "HybridTrack$Vehicle" (31 : Nat) "HybridTrack$Vehicle" "silent" "Z" ∈ ht_tb := ht_wt 37 rfl rfl
theorem w39 : Jvm.Cond.fieldLink "HybridTrack$Vehicle" (34 : Nat) "HybridTrack$Vehicle" "whole" "Z" ∈ ht_tb := ht_wt 39 rfl rfl
theorem w41 : Jvm.Cond.fieldLink "HybridTrack$Vehicle" (37 : Nat) "HybridTrack$Vehicle" "age" "I" ∈ ht_tb := ht_wt 41 rfl rfl
theorem w43 : Jvm.Cond.fieldLink "HybridTrack$Vehicle" (40 : Nat) "HybridTrack$Vehicle" "reportedFront" "I" ∈ ht_tb := ht_wt 43 rfl rfl
theorem w45 : Jvm.Cond.fieldLink "HybridTrack$Vehicle" (43 : Nat) "HybridTrack$Vehicle" "reportedWhole" "Z" ∈ ht_tb := ht_wt 45 rfl rfl
theorem w47 : Jvm.Cond.fieldLink "HybridTrack$Vehicle" (46 : Nat) "HybridTrack$Vehicle" "tailSection" "I" ∈ ht_tb := ht_wt 47 rfl rfl
theorem w48 : Jvm.Cond.fieldLink "HybridTrack$Vehicle" (49 : Nat) "HybridTrack$Vehicle" "tailSectionBefore" "I" ∈ ht_tb := ht_wt 48 rfl rfl
theorem w49 : Jvm.Cond.lays "HybridTrack$Vehicle" "HybridTrack$Vehicle" "isTrain" "Z" ∈ ht_tb := ht_wt 49 rfl rfl
theorem w51 : Jvm.Cond.lays "HybridTrack$Vehicle" "HybridTrack$Vehicle" "onTrack" "Z" ∈ ht_tb := ht_wt 51 rfl rfl
theorem w53 : Jvm.Cond.lays "HybridTrack$Vehicle" "HybridTrack$Vehicle" "front" "I" ∈ ht_tb := ht_wt 53 rfl rfl
theorem w55 : Jvm.Cond.lays "HybridTrack$Vehicle" "HybridTrack$Vehicle" "length" "I" ∈ ht_tb := ht_wt 55 rfl rfl
theorem w57 : Jvm.Cond.lays "HybridTrack$Vehicle" "HybridTrack$Vehicle" "speed" "I" ∈ ht_tb := ht_wt 57 rfl rfl
theorem w59 : Jvm.Cond.lays "HybridTrack$Vehicle" "HybridTrack$Vehicle" "end" "I" ∈ ht_tb := ht_wt 59 rfl rfl
theorem w61 : Jvm.Cond.lays "HybridTrack$Vehicle" "HybridTrack$Vehicle" "silent" "Z" ∈ ht_tb := ht_wt 61 rfl rfl
theorem w63 : Jvm.Cond.lays "HybridTrack$Vehicle" "HybridTrack$Vehicle" "whole" "Z" ∈ ht_tb := ht_wt 63 rfl rfl
theorem w65 : Jvm.Cond.lays "HybridTrack$Vehicle" "HybridTrack$Vehicle" "age" "I" ∈ ht_tb := ht_wt 65 rfl rfl
theorem w67 : Jvm.Cond.lays "HybridTrack$Vehicle" "HybridTrack$Vehicle" "reportedFront" "I" ∈ ht_tb := ht_wt 67 rfl rfl
theorem w69 : Jvm.Cond.lays "HybridTrack$Vehicle" "HybridTrack$Vehicle" "reportedWhole" "Z" ∈ ht_tb := ht_wt 69 rfl rfl
theorem w71 : Jvm.Cond.lays "HybridTrack$Vehicle" "HybridTrack$Vehicle" "tailSection" "I" ∈ ht_tb := ht_wt 71 rfl rfl
theorem w73 : Jvm.Cond.lays "HybridTrack$Vehicle" "HybridTrack$Vehicle" "tailSectionBefore" "I" ∈ ht_tb := ht_wt 73 rfl rfl
theorem w76 : Jvm.Cond.arrayClass Jvm.ClassFile.FieldType.int ∈ ht_tb := ht_wt 76 rfl rfl
theorem w77 : Jvm.Cond.fieldLink "HybridTrack" (11 : Nat) "HybridTrack" "vehicles" "[LHybridTrack$Vehicle;" ∈ ht_tb := ht_wt 77 rfl rfl
theorem w78 : Jvm.Cond.fieldLink "HybridTrack" (15 : Nat) "HybridTrack" "came" "I" ∈ ht_tb := ht_wt 78 rfl rfl
theorem w79 : Jvm.Cond.fieldLink "HybridTrack" (19 : Nat) "HybridTrack" "ticksMade" "I" ∈ ht_tb := ht_wt 79 rfl rfl
theorem w80 : Jvm.Cond.fieldLink "HybridTrack" (22 : Nat) "HybridTrack" "states" "[I" ∈ ht_tb := ht_wt 80 rfl rfl
theorem w81 : Jvm.Cond.fieldLink "HybridTrack" (26 : Nat) "HybridTrack" "locatedTrains" "[I" ∈ ht_tb := ht_wt 81 rfl rfl
theorem w82 : Jvm.Cond.fieldLink "HybridTrack" (29 : Nat) "HybridTrack" "loneTrain" "[I" ∈ ht_tb := ht_wt 82 rfl rfl
theorem w83 : Jvm.Cond.fieldLink "HybridTrack" (32 : Nat) "HybridTrack" "loneTrainBefore" "[I" ∈ ht_tb := ht_wt 83 rfl rfl
theorem w84 : Jvm.Cond.laysFinal "HybridTrack" "HybridTrack" "vehicles" "[LHybridTrack$Vehicle;" ∈ ht_tb := ht_wt 84 rfl rfl
theorem w86 : Jvm.Cond.lays "HybridTrack" "HybridTrack" "came" "I" ∈ ht_tb := ht_wt 86 rfl rfl
theorem w88 : Jvm.Cond.lays "HybridTrack" "HybridTrack" "ticksMade" "I" ∈ ht_tb := ht_wt 88 rfl rfl
theorem w90 : Jvm.Cond.laysFinal "HybridTrack" "HybridTrack" "states" "[I" ∈ ht_tb := ht_wt 90 rfl rfl
theorem w92 : Jvm.Cond.laysFinal "HybridTrack" "HybridTrack" "locatedTrains" "[I" ∈ ht_tb := ht_wt 92 rfl rfl
theorem w94 : Jvm.Cond.laysFinal "HybridTrack" "HybridTrack" "loneTrain" "[I" ∈ ht_tb := ht_wt 94 rfl rfl
theorem w96 : Jvm.Cond.laysFinal "HybridTrack" "HybridTrack" "loneTrainBefore" "[I" ∈ ht_tb := ht_wt 96 rfl rfl
theorem w99 : Jvm.Cond.methodLink "HybridTrackLaw" (61 : Nat) ({ cls := "HybridTrackLaw", name := "enter", desc := "(LHybridTrack;II[J)I" } : Jvm.MethodName) ∈ ht_tb := ht_wt 99 rfl rfl
theorem w100 : Jvm.Cond.static ({ cls := "HybridTrackLaw", name := "enter", desc := "(LHybridTrack;II[J)I" } : Jvm.MethodName) ∈ ht_tb := ht_wt 100 rfl rfl
theorem w101 : Jvm.Cond.codeWith ({ cls := "HybridTrackLaw", name := "enter", desc := "(LHybridTrack;II[J)I" } : Jvm.MethodName) method_3_code (5 : Nat) (Option.some Jvm.ClassFile.FieldType.int) [((0 : Nat), (10 : Nat), (13 : Nat), (13 : Nat)), ((0 : Nat), (10 : Nat), (17 : Nat), (15 : Nat))] ∈ ht_tb := ht_wt 101 rfl rfl
theorem w102 : Jvm.Cond.classLink "HybridTrackLaw" (13 : Nat) "java/lang/IllegalArgumentException" ∈ ht_tb := ht_wt 102 rfl rfl
theorem w103 : Jvm.Cond.classLink "HybridTrackLaw" (15 : Nat) "java/lang/IllegalStateException" ∈ ht_tb := ht_wt 103 rfl rfl
theorem w104 : Jvm.Cond.methodLink "HybridTrackLaw" (7 : Nat) ({ cls := "HybridTrack", name := "enter", desc := "(II)I" } : Jvm.MethodName) ∈ ht_tb := ht_wt 104 rfl rfl
theorem w105 : Jvm.Cond.instanceMethod ({ cls := "HybridTrack", name := "enter", desc := "(II)I" } : Jvm.MethodName) ∈ ht_tb := ht_wt 105 rfl rfl
theorem w106 : Jvm.Cond.selects "HybridTrack" ({ cls := "HybridTrack", name := "enter", desc := "(II)I" } : Jvm.MethodName) ({ cls := "HybridTrack", name := "enter", desc := "(II)I" } : Jvm.MethodName) ∈ ht_tb := ht_wt 106 rfl rfl
theorem w107 : Jvm.Cond.code ({ cls := "HybridTrack", name := "enter", desc := "(II)I" } : Jvm.MethodName) prog_1_method_2_code (4 : Nat) (Option.some Jvm.ClassFile.FieldType.int) ∈ ht_tb := ht_wt 107 rfl rfl
theorem w108 : Jvm.Cond.classLink "HybridTrack" (36 : Nat) "java/lang/IllegalArgumentException" ∈ ht_tb := ht_wt 108 rfl rfl
theorem w109 : Jvm.Cond.instantiable "java/lang/IllegalArgumentException" (6 : Nat) ∈ ht_tb := ht_wt 109 rfl rfl
theorem w117 : Jvm.Cond.selects "java/lang/IllegalArgumentException" ({ cls := "java/lang/Throwable", name := "fillInStackTrace", desc := "(I)Ljava/lang/Throwable;" } : Jvm.MethodName) ({ cls := "java/lang/Throwable", name := "fillInStackTrace", desc := "(I)Ljava/lang/Throwable;" } : Jvm.MethodName) ∈ ht_tb := ht_wt 117 rfl rfl
theorem w118 : Jvm.Cond.selects "java/lang/IllegalArgumentException" ({ cls := "java/lang/Throwable", name := "fillInStackTrace", desc := "()Ljava/lang/Throwable;" } : Jvm.MethodName) ({ cls := "java/lang/Throwable", name := "fillInStackTrace", desc := "()Ljava/lang/Throwable;" } : Jvm.MethodName) ∈ ht_tb := ht_wt 118 rfl rfl
theorem w119 : Jvm.Cond.lays "java/lang/IllegalArgumentException" "java/lang/Throwable" "cause" "Ljava/lang/Throwable;" ∈ ht_tb := ht_wt 119 rfl rfl
theorem w120 : Jvm.Cond.lays "java/lang/Throwable" "java/lang/Throwable" "cause" "Ljava/lang/Throwable;" ∈ ht_tb := ht_wt 120 rfl rfl
theorem w121 : Jvm.Cond.lays "java/lang/IllegalArgumentException" "java/lang/Throwable" "stackTrace" "[Ljava/lang/StackTraceElement;" ∈ ht_tb := ht_wt 121 rfl rfl
theorem w122 : Jvm.Cond.lays "java/lang/Throwable" "java/lang/Throwable" "stackTrace" "[Ljava/lang/StackTraceElement;" ∈ ht_tb := ht_wt 122 rfl rfl
theorem w123 : Jvm.Cond.lays "java/lang/IllegalArgumentException" "java/lang/Throwable" "suppressedExceptions" "Ljava/util/List;" ∈ ht_tb := ht_wt 123 rfl rfl
theorem w124 : Jvm.Cond.lays "java/lang/Throwable" "java/lang/Throwable" "suppressedExceptions" "Ljava/util/List;" ∈ ht_tb := ht_wt 124 rfl rfl
theorem w125 : Jvm.Cond.lays "java/lang/IllegalArgumentException" "java/lang/Throwable" "detailMessage" "Ljava/lang/String;" ∈ ht_tb := ht_wt 125 rfl rfl
theorem w126 : Jvm.Cond.lays "java/lang/Throwable" "java/lang/Throwable" "detailMessage" "Ljava/lang/String;" ∈ ht_tb := ht_wt 126 rfl rfl
theorem w127 : Jvm.Cond.lays "java/lang/IllegalArgumentException" "java/lang/Throwable" "backtrace" "Ljava/lang/Object;" ∈ ht_tb := ht_wt 127 rfl rfl
theorem w128 : Jvm.Cond.lays "java/lang/Throwable" "java/lang/Throwable" "backtrace" "Ljava/lang/Object;" ∈ ht_tb := ht_wt 128 rfl rfl
theorem w129 : Jvm.Cond.fieldLink "java/lang/Throwable" (198 : Nat) "java/lang/Throwable" "backtrace" "Ljava/lang/Object;" ∈ ht_tb := ht_wt 129 rfl rfl
theorem w131 : Jvm.Cond.instanceMethod ({ cls := "java/lang/Throwable", name := "<init>", desc := "()V" } : Jvm.MethodName) ∈ ht_tb := ht_wt 131 rfl rfl
theorem w132 : Jvm.Cond.code ({ cls := "java/lang/Throwable", name := "<init>", desc := "()V" } : Jvm.MethodName) prog_10_method_1_code (1 : Nat) (Option.none : Option Jvm.ClassFile.FieldType) ∈ ht_tb := ht_wt 132 rfl rfl
theorem w133 : Jvm.Cond.methodLink "java/lang/Throwable" (1 : Nat) ({ cls := "java/lang/Object", name := "<init>", desc := "()V" } : Jvm.MethodName) ∈ ht_tb := ht_wt 133 rfl rfl
theorem w134 : Jvm.Cond.fieldLink "java/lang/Throwable" (13 : Nat) "java/lang/Throwable" "UNASSIGNED_STACK" "[Ljava/lang/StackTraceElement;" ∈ ht_tb := ht_wt 134 rfl rfl
theorem w136 : Jvm.Cond.fieldLink "java/lang/Throwable" (20 : Nat) "java/lang/Throwable" "SUPPRESSED_SENTINEL" "Ljava/util/List;" ∈ ht_tb := ht_wt 136 rfl rfl
theorem w138 : Jvm.Cond.methodLink "java/lang/Throwable" (27 : Nat) ({ cls := "java/lang/Throwable", name := "fillInStackTrace", desc := "()Ljava/lang/Throwable;" } : Jvm.MethodName) ∈ ht_tb := ht_wt 138 rfl rfl
theorem w139 : Jvm.Cond.instanceMethod ({ cls := "java/lang/Throwable", name := "fillInStackTrace", desc := "()Ljava/lang/Throwable;" } : Jvm.MethodName) ∈ ht_tb := ht_wt 139 rfl rfl
theorem w141 : Jvm.Cond.selects "java/lang/IllegalStateException" ({ cls := "java/lang/Throwable", name := "fillInStackTrace", desc := "()Ljava/lang/Throwable;" } : Jvm.MethodName) ({ cls := "java/lang/Throwable", name := "fillInStackTrace", desc := "()Ljava/lang/Throwable;" } : Jvm.MethodName) ∈ ht_tb := ht_wt 141 rfl rfl
theorem w142 : Jvm.Cond.selects "java/util/NoSuchElementException" ({ cls := "java/lang/Throwable", name := "fillInStackTrace", desc := "()Ljava/lang/Throwable;" } : Jvm.MethodName) ({ cls := "java/lang/Throwable", name := "fillInStackTrace", desc := "()Ljava/lang/Throwable;" } : Jvm.MethodName) ∈ ht_tb := ht_wt 142 rfl rfl
theorem w144 : Jvm.Cond.methodLink "java/lang/Throwable" (202 : Nat) ({ cls := "java/lang/Throwable", name := "fillInStackTrace", desc := "(I)Ljava/lang/Throwable;" } : Jvm.MethodName) ∈ ht_tb := ht_wt 144 rfl rfl
theorem w146 : Jvm.Cond.instanceMethod ({ cls := "java/lang/Throwable", name := "fillInStackTrace", desc := "(I)Ljava/lang/Throwable;" } : Jvm.MethodName) ∈ ht_tb := ht_wt 146 rfl rfl
theorem w147 : Jvm.Cond.instantiable "java/lang/Throwable" (6 : Nat) ∈ ht_tb := ht_wt 147 rfl rfl
theorem w150 : Jvm.Cond.methodLink "HybridTrack" (40 : Nat) ({ cls := "java/lang/IllegalArgumentException", name := "<init>", desc := "(Ljava/lang/String;)V" } : Jvm.MethodName) ∈ ht_tb := ht_wt 150 rfl rfl
theorem w151 : Jvm.Cond.instanceMethod ({ cls := "java/lang/IllegalArgumentException", name := "<init>", desc := "(Ljava/lang/String;)V" } : Jvm.MethodName) ∈ ht_tb := ht_wt 151 rfl rfl
theorem w152 : Jvm.Cond.code ({ cls := "java/lang/IllegalArgumentException", name := "<init>", desc := "(Ljava/lang/String;)V" } : Jvm.MethodName) prog_6_method_2_code (2 : Nat) (Option.none : Option Jvm.ClassFile.FieldType) ∈ ht_tb := ht_wt 152 rfl rfl
theorem w153 : Jvm.Cond.methodLink "java/lang/IllegalArgumentException" (7 : Nat) ({ cls := "java/lang/RuntimeException", name := "<init>", desc := "(Ljava/lang/String;)V" } : Jvm.MethodName) ∈ ht_tb := ht_wt 153 rfl rfl
theorem w154 : Jvm.Cond.instanceMethod ({ cls := "java/lang/RuntimeException", name := "<init>", desc := "(Ljava/lang/String;)V" } : Jvm.MethodName) ∈ ht_tb := ht_wt 154 rfl rfl
theorem w155 : Jvm.Cond.code ({ cls := "java/lang/RuntimeException", name := "<init>", desc := "(Ljava/lang/String;)V" } : Jvm.MethodName) prog_8_method_2_code (2 : Nat) (Option.none : Option Jvm.ClassFile.FieldType) ∈ ht_tb := ht_wt 155 rfl rfl
theorem w156 : Jvm.Cond.methodLink "java/lang/RuntimeException" (7 : Nat) ({ cls := "java/lang/Exception", name := "<init>", desc := "(Ljava/lang/String;)V" } : Jvm.MethodName) ∈ ht_tb := ht_wt 156 rfl rfl
theorem w157 : Jvm.Cond.instanceMethod ({ cls := "java/lang/Exception", name := "<init>", desc := "(Ljava/lang/String;)V" } : Jvm.MethodName) ∈ ht_tb := ht_wt 157 rfl rfl
theorem w158 : Jvm.Cond.code ({ cls := "java/lang/Exception", name := "<init>", desc := "(Ljava/lang/String;)V" } : Jvm.MethodName) prog_5_method_2_code (2 : Nat) (Option.none : Option Jvm.ClassFile.FieldType) ∈ ht_tb := ht_wt 158 rfl rfl
theorem w159 : Jvm.Cond.methodLink "java/lang/Exception" (7 : Nat) ({ cls := "java/lang/Throwable", name := "<init>", desc := "(Ljava/lang/String;)V" } : Jvm.MethodName) ∈ ht_tb := ht_wt 159 rfl rfl
theorem w160 : Jvm.Cond.instanceMethod ({ cls := "java/lang/Throwable", name := "<init>", desc := "(Ljava/lang/String;)V" } : Jvm.MethodName) ∈ ht_tb := ht_wt 160 rfl rfl
theorem w161 : Jvm.Cond.code ({ cls := "java/lang/Throwable", name := "<init>", desc := "(Ljava/lang/String;)V" } : Jvm.MethodName) prog_10_method_2_code (2 : Nat) (Option.none : Option Jvm.ClassFile.FieldType) ∈ ht_tb := ht_wt 161 rfl rfl
theorem w162 : Jvm.Cond.fieldLink "java/lang/Throwable" (198 : Nat) "java/lang/Throwable" "backtrace" "Ljava/lang/Object;" ∈ ht_tb := ht_wt 162 rfl rfl
theorem w163 : Jvm.Cond.fieldLink "java/lang/Throwable" (31 : Nat) "java/lang/Throwable" "detailMessage" "Ljava/lang/String;" ∈ ht_tb := ht_wt 163 rfl rfl
theorem w164 : Jvm.Cond.fieldLink "java/lang/Throwable" (7 : Nat) "java/lang/Throwable" "cause" "Ljava/lang/Throwable;" ∈ ht_tb := ht_wt 164 rfl rfl
theorem w165 : Jvm.Cond.fieldLink "java/lang/Throwable" (17 : Nat) "java/lang/Throwable" "stackTrace" "[Ljava/lang/StackTraceElement;" ∈ ht_tb := ht_wt 165 rfl rfl
theorem w166 : Jvm.Cond.fieldLink "java/lang/Throwable" (24 : Nat) "java/lang/Throwable" "suppressedExceptions" "Ljava/util/List;" ∈ ht_tb := ht_wt 166 rfl rfl
theorem w171 : Jvm.Cond.lays "java/lang/IllegalArgumentException" "java/lang/Throwable" "depth" "I" ∈ ht_tb := ht_wt 171 rfl rfl
theorem w175 : Jvm.Cond.arrayClass Jvm.ClassFile.FieldType.byte ∈ ht_tb := ht_wt 175 rfl rfl
theorem w177 : Jvm.Cond.classLink "HybridTrack" (45 : Nat) "java/lang/IllegalStateException" ∈ ht_tb := ht_wt 177 rfl rfl
theorem w178 : Jvm.Cond.instantiable "java/lang/IllegalStateException" (6 : Nat) ∈ ht_tb := ht_wt 178 rfl rfl
theorem w180 : Jvm.Cond.selects "java/lang/IllegalStateException" ({ cls := "java/lang/Throwable", name := "fillInStackTrace", desc := "(I)Ljava/lang/Throwable;" } : Jvm.MethodName) ({ cls := "java/lang/Throwable", name := "fillInStackTrace", desc := "(I)Ljava/lang/Throwable;" } : Jvm.MethodName) ∈ ht_tb := ht_wt 180 rfl rfl
theorem w181 : Jvm.Cond.lays "java/lang/IllegalStateException" "java/lang/Throwable" "cause" "Ljava/lang/Throwable;" ∈ ht_tb := ht_wt 181 rfl rfl
theorem w182 : Jvm.Cond.lays "java/lang/IllegalStateException" "java/lang/Throwable" "stackTrace" "[Ljava/lang/StackTraceElement;" ∈ ht_tb := ht_wt 182 rfl rfl
theorem w183 : Jvm.Cond.lays "java/lang/IllegalStateException" "java/lang/Throwable" "suppressedExceptions" "Ljava/util/List;" ∈ ht_tb := ht_wt 183 rfl rfl
theorem w184 : Jvm.Cond.lays "java/lang/IllegalStateException" "java/lang/Throwable" "detailMessage" "Ljava/lang/String;" ∈ ht_tb := ht_wt 184 rfl rfl
theorem w185 : Jvm.Cond.lays "java/lang/IllegalStateException" "java/lang/Throwable" "backtrace" "Ljava/lang/Object;" ∈ ht_tb := ht_wt 185 rfl rfl
theorem w187 : Jvm.Cond.methodLink "HybridTrack" (49 : Nat) ({ cls := "java/lang/IllegalStateException", name := "<init>", desc := "(Ljava/lang/String;)V" } : Jvm.MethodName) ∈ ht_tb := ht_wt 187 rfl rfl
theorem w188 : Jvm.Cond.instanceMethod ({ cls := "java/lang/IllegalStateException", name := "<init>", desc := "(Ljava/lang/String;)V" } : Jvm.MethodName) ∈ ht_tb := ht_wt 188 rfl rfl
theorem w189 : Jvm.Cond.code ({ cls := "java/lang/IllegalStateException", name := "<init>", desc := "(Ljava/lang/String;)V" } : Jvm.MethodName) prog_7_method_2_code (2 : Nat) (Option.none : Option Jvm.ClassFile.FieldType) ∈ ht_tb := ht_wt 189 rfl rfl
theorem w190 : Jvm.Cond.methodLink "java/lang/IllegalStateException" (7 : Nat) ({ cls := "java/lang/RuntimeException", name := "<init>", desc := "(Ljava/lang/String;)V" } : Jvm.MethodName) ∈ ht_tb := ht_wt 190 rfl rfl
theorem w191 : Jvm.Cond.lays "java/lang/IllegalStateException" "java/lang/Throwable" "depth" "I" ∈ ht_tb := ht_wt 191 rfl rfl
theorem w193 : Jvm.Cond.methodLink "HybridTrack" (50 : Nat) ({ cls := "HybridTrack", name := "isStoodOn", desc := "(II)Z" } : Jvm.MethodName) ∈ ht_tb := ht_wt 193 rfl rfl
theorem w195 : Jvm.Cond.instanceMethod ({ cls := "HybridTrack", name := "isStoodOn", desc := "(II)Z" } : Jvm.MethodName) ∈ ht_tb := ht_wt 195 rfl rfl
theorem w196 : Jvm.Cond.code ({ cls := "HybridTrack", name := "isStoodOn", desc := "(II)Z" } : Jvm.MethodName) prog_1_method_18_code (4 : Nat) (Option.some Jvm.ClassFile.FieldType.boolean) ∈ ht_tb := ht_wt 196 rfl rfl
theorem w199 : Jvm.Cond.instanceMethod ({ cls := "HybridTrack$Vehicle", name := "standsWithin", desc := "(II)Z" } : Jvm.MethodName) ∈ ht_tb := ht_wt 199 rfl rfl
theorem w200 : Jvm.Cond.code ({ cls := "HybridTrack$Vehicle", name := "standsWithin", desc := "(II)Z" } : Jvm.MethodName) prog_2_method_7_code (3 : Nat) (Option.some Jvm.ClassFile.FieldType.boolean) ∈ ht_tb := ht_wt 200 rfl rfl
theorem w201 : Jvm.Cond.methodLink "HybridTrack$Vehicle" (55 : Nat) ({ cls := "HybridTrack$Vehicle", name := "lastPlace", desc := "()I" } : Jvm.MethodName) ∈ ht_tb := ht_wt 201 rfl rfl
theorem w203 : Jvm.Cond.instanceMethod ({ cls := "HybridTrack$Vehicle", name := "lastPlace", desc := "()I" } : Jvm.MethodName) ∈ ht_tb := ht_wt 203 rfl rfl
theorem w204 : Jvm.Cond.code ({ cls := "HybridTrack$Vehicle", name := "lastPlace", desc := "()I" } : Jvm.MethodName) prog_2_method_6_code (1 : Nat) (Option.some Jvm.ClassFile.FieldType.int) ∈ ht_tb := ht_wt 204 rfl rfl
theorem w206 : Jvm.Cond.methodLink "HybridTrack" (56 : Nat) ({ cls := "HybridTrack", name := "sectionOf", desc := "(I)I" } : Jvm.MethodName) ∈ ht_tb := ht_wt 206 rfl rfl
theorem w207 : Jvm.Cond.static ({ cls := "HybridTrack", name := "sectionOf", desc := "(I)I" } : Jvm.MethodName) ∈ ht_tb := ht_wt 207 rfl rfl
theorem w208 : Jvm.Cond.code ({ cls := "HybridTrack", name := "sectionOf", desc := "(I)I" } : Jvm.MethodName) prog_1_method_15_code (1 : Nat) (Option.some Jvm.ClassFile.FieldType.int) ∈ ht_tb := ht_wt 208 rfl rfl
theorem w209 : Jvm.Cond.methodLink "HybridTrack" (60 : Nat) ({ cls := "HybridTrack", name := "isAnyClaimed", desc := "(III)Z" } : Jvm.MethodName) ∈ ht_tb := ht_wt 209 rfl rfl
theorem w211 : Jvm.Cond.instanceMethod ({ cls := "HybridTrack", name := "isAnyClaimed", desc := "(III)Z" } : Jvm.MethodName) ∈ ht_tb := ht_wt 211 rfl rfl
theorem w212 : Jvm.Cond.code ({ cls := "HybridTrack", name := "isAnyClaimed", desc := "(III)Z" } : Jvm.MethodName) prog_1_method_21_code (5 : Nat) (Option.some Jvm.ClassFile.FieldType.boolean) ∈ ht_tb := ht_wt 212 rfl rfl
theorem w215 : Jvm.Cond.instanceMethod ({ cls := "HybridTrack$Vehicle", name := "claimsWithin", desc := "(II)Z" } : Jvm.MethodName) ∈ ht_tb := ht_wt 215 rfl rfl
theorem w216 : Jvm.Cond.code ({ cls := "HybridTrack$Vehicle", name := "claimsWithin", desc := "(II)Z" } : Jvm.MethodName) prog_2_method_10_code (3 : Nat) (Option.some Jvm.ClassFile.FieldType.boolean) ∈ ht_tb := ht_wt 216 rfl rfl
theorem w220 : Jvm.Cond.instanceMethod ({ cls := "HybridTrack$Vehicle", name := "becomeTrain", desc := "(II)V" } : Jvm.MethodName) ∈ ht_tb := ht_wt 220 rfl rfl
theorem w221 : Jvm.Cond.code ({ cls := "HybridTrack$Vehicle", name := "becomeTrain", desc := "(II)V" } : Jvm.MethodName) prog_2_method_2_code (3 : Nat) (Option.none : Option Jvm.ClassFile.FieldType) ∈ ht_tb := ht_wt 221 rfl rfl
theorem w222 : Jvm.Cond.methodLink "HybridTrack$Vehicle" (52 : Nat) ({ cls := "HybridTrack$Vehicle", name := "sendReport", desc := "()V" } : Jvm.MethodName) ∈ ht_tb := ht_wt 222 rfl rfl
theorem w224 : Jvm.Cond.instanceMethod ({ cls := "HybridTrack$Vehicle", name := "sendReport", desc := "()V" } : Jvm.MethodName) ∈ ht_tb := ht_wt 224 rfl rfl
theorem w225 : Jvm.Cond.code ({ cls := "HybridTrack$Vehicle", name := "sendReport", desc := "()V" } : Jvm.MethodName) prog_2_method_4_code (1 : Nat) (Option.none : Option Jvm.ClassFile.FieldType) ∈ ht_tb := ht_wt 225 rfl rfl
theorem w226 : Jvm.Cond.methodLink "HybridTrack" (70 : Nat) ({ cls := "HybridTrack", name := "findStates", desc := "()V" } : Jvm.MethodName) ∈ ht_tb := ht_wt 226 rfl rfl
theorem w228 : Jvm.Cond.instanceMethod ({ cls := "HybridTrack", name := "findStates", desc := "()V" } : Jvm.MethodName) ∈ ht_tb := ht_wt 228 rfl rfl
theorem w229 : Jvm.Cond.code ({ cls := "HybridTrack", name := "findStates", desc := "()V" } : Jvm.MethodName) prog_1_method_29_code (2 : Nat) (Option.none : Option Jvm.ClassFile.FieldType) ∈ ht_tb := ht_wt 229 rfl rfl
theorem w230 : Jvm.Cond.methodLink "HybridTrack" (192 : Nat) ({ cls := "HybridTrack", name := "locateTrains", desc := "()V" } : Jvm.MethodName) ∈ ht_tb := ht_wt 230 rfl rfl
theorem w232 : Jvm.Cond.instanceMethod ({ cls := "HybridTrack", name := "locateTrains", desc := "()V" } : Jvm.MethodName) ∈ ht_tb := ht_wt 232 rfl rfl
theorem w233 : Jvm.Cond.code ({ cls := "HybridTrack", name := "locateTrains", desc := "()V" } : Jvm.MethodName) prog_1_method_30_code (3 : Nat) (Option.none : Option Jvm.ClassFile.FieldType) ∈ ht_tb := ht_wt 233 rfl rfl
theorem w236 : Jvm.Cond.instanceMethod ({ cls := "HybridTrack$Vehicle", name := "isLocatedOn", desc := "(I)Z" } : Jvm.MethodName) ∈ ht_tb := ht_wt 236 rfl rfl
theorem w237 : Jvm.Cond.code ({ cls := "HybridTrack$Vehicle", name := "isLocatedOn", desc := "(I)Z" } : Jvm.MethodName) prog_2_method_9_code (2 : Nat) (Option.some Jvm.ClassFile.FieldType.boolean) ∈ ht_tb := ht_wt 237 rfl rfl
theorem w238 : Jvm.Cond.methodLink "HybridTrack$Vehicle" (59 : Nat) ({ cls := "HybridTrack$Vehicle", name := "isMute", desc := "()Z" } : Jvm.MethodName) ∈ ht_tb := ht_wt 238 rfl rfl
theorem w240 : Jvm.Cond.instanceMethod ({ cls := "HybridTrack$Vehicle", name := "isMute", desc := "()Z" } : Jvm.MethodName) ∈ ht_tb := ht_wt 240 rfl rfl
theorem w241 : Jvm.Cond.code ({ cls := "HybridTrack$Vehicle", name := "isMute", desc := "()Z" } : Jvm.MethodName) prog_2_method_8_code (1 : Nat) (Option.some Jvm.ClassFile.FieldType.boolean) ∈ ht_tb := ht_wt 241 rfl rfl
theorem w242 : Jvm.Cond.methodLink "HybridTrack" (195 : Nat) ({ cls := "HybridTrack", name := "stateByReports", desc := "(I)I" } : Jvm.MethodName) ∈ ht_tb := ht_wt 242 rfl rfl
theorem w244 : Jvm.Cond.instanceMethod ({ cls := "HybridTrack", name := "stateByReports", desc := "(I)I" } : Jvm.MethodName) ∈ ht_tb := ht_wt 244 rfl rfl
theorem w245 : Jvm.Cond.code ({ cls := "HybridTrack", name := "stateByReports", desc := "(I)I" } : Jvm.MethodName) prog_1_method_31_code (2 : Nat) (Option.some Jvm.ClassFile.FieldType.int) ∈ ht_tb := ht_wt 245 rfl rfl
theorem w246 : Jvm.Cond.methodLink "HybridTrack" (154 : Nat) ({ cls := "HybridTrack", name := "isDetectedOccupied", desc := "(I)Z" } : Jvm.MethodName) ∈ ht_tb := ht_wt 246 rfl rfl
theorem w248 : Jvm.Cond.instanceMethod ({ cls := "HybridTrack", name := "isDetectedOccupied", desc := "(I)Z" } : Jvm.MethodName) ∈ ht_tb := ht_wt 248 rfl rfl
theorem w249 : Jvm.Cond.code ({ cls := "HybridTrack", name := "isDetectedOccupied", desc := "(I)Z" } : Jvm.MethodName) prog_1_method_19_code (3 : Nat) (Option.some Jvm.ClassFile.FieldType.boolean) ∈ ht_tb := ht_wt 249 rfl rfl
theorem w250 : Jvm.Cond.methodLink "HybridTrack" (204 : Nat) ({ cls := "HybridTrack", name := "stateUnderTrains", desc := "(I)I" } : Jvm.MethodName) ∈ ht_tb := ht_wt 250 rfl rfl
theorem w252 : Jvm.Cond.instanceMethod ({ cls := "HybridTrack", name := "stateUnderTrains", desc := "(I)I" } : Jvm.MethodName) ∈ ht_tb := ht_wt 252 rfl rfl
theorem w253 : Jvm.Cond.code ({ cls := "HybridTrack", name := "stateUnderTrains", desc := "(I)I" } : Jvm.MethodName) prog_1_method_32_code (5 : Nat) (Option.some Jvm.ClassFile.FieldType.int) ∈ ht_tb := ht_wt 253 rfl rfl
theorem w254 : Jvm.Cond.methodLink "HybridTrack" (207 : Nat) ({ cls := "HybridTrack", name := "staysFree", desc := "(I)Z" } : Jvm.MethodName) ∈ ht_tb := ht_wt 254 rfl rfl
theorem w256 : Jvm.Cond.instanceMethod ({ cls := "HybridTrack", name := "staysFree", desc := "(I)Z" } : Jvm.MethodName) ∈ ht_tb := ht_wt 256 rfl rfl
theorem w257 : Jvm.Cond.code ({ cls := "HybridTrack", name := "staysFree", desc := "(I)Z" } : Jvm.MethodName) prog_1_method_33_code (5 : Nat) (Option.some Jvm.ClassFile.FieldType.boolean) ∈ ht_tb := ht_wt 257 rfl rfl
theorem w258 : Jvm.Cond.methodLink "HybridTrack" (213 : Nat) ({ cls := "HybridTrack", name := "isAnyTrainLocated", desc := "(II)Z" } : Jvm.MethodName) ∈ ht_tb := ht_wt 258 rfl rfl
theorem w260 : Jvm.Cond.instanceMethod ({ cls := "HybridTrack", name := "isAnyTrainLocated", desc := "(II)Z" } : Jvm.MethodName) ∈ ht_tb := ht_wt 260 rfl rfl
theorem w261 : Jvm.Cond.code ({ cls := "HybridTrack", name := "isAnyTrainLocated", desc := "(II)Z" } : Jvm.MethodName) prog_1_method_34_code (4 : Nat) (Option.some Jvm.ClassFile.FieldType.boolean) ∈ ht_tb := ht_wt 261 rfl rfl
theorem w262 : Jvm.Cond.methodLink "HybridTrack" (198 : Nat) ({ cls := "HybridTrack", name := "isAnyClaimedByMute", desc := "(II)Z" } : Jvm.MethodName) ∈ ht_tb := ht_wt 262 rfl rfl
theorem w264 : Jvm.Cond.instanceMethod ({ cls := "HybridTrack", name := "isAnyClaimedByMute", desc := "(II)Z" } : Jvm.MethodName) ∈ ht_tb := ht_wt 264 rfl rfl
theorem w265 : Jvm.Cond.code ({ cls := "HybridTrack", name := "isAnyClaimedByMute", desc := "(II)Z" } : Jvm.MethodName) prog_1_method_22_code (4 : Nat) (Option.some Jvm.ClassFile.FieldType.boolean) ∈ ht_tb := ht_wt 265 rfl rfl
theorem w267 : Jvm.Cond.methodLink "HybridTrack" (216 : Nat) ({ cls := "HybridTrack", name := "wasLeftByBrokenTrain", desc := "(I)Z" } : Jvm.MethodName) ∈ ht_tb := ht_wt 267 rfl rfl
theorem w269 : Jvm.Cond.instanceMethod ({ cls := "HybridTrack", name := "wasLeftByBrokenTrain", desc := "(I)Z" } : Jvm.MethodName) ∈ ht_tb := ht_wt 269 rfl rfl
theorem w270 : Jvm.Cond.code ({ cls := "HybridTrack", name := "wasLeftByBrokenTrain", desc := "(I)Z" } : Jvm.MethodName) prog_1_method_35_code (4 : Nat) (Option.some Jvm.ClassFile.FieldType.boolean) ∈ ht_tb := ht_wt 270 rfl rfl
theorem w273 : Jvm.Cond.instanceMethod ({ cls := "HybridTrack$Vehicle", name := "hasLeft", desc := "(I)Z" } : Jvm.MethodName) ∈ ht_tb := ht_wt 273 rfl rfl
theorem w274 : Jvm.Cond.code ({ cls := "HybridTrack$Vehicle", name := "hasLeft", desc := "(I)Z" } : Jvm.MethodName) prog_2_method_11_code (2 : Nat) (Option.some Jvm.ClassFile.FieldType.boolean) ∈ ht_tb := ht_wt 274 rfl rfl
theorem w275 : Jvm.Cond.methodLink "HybridTrack" (210 : Nat) ({ cls := "HybridTrack", name := "wasLeftByWholeTrain", desc := "(I)Z" } : Jvm.MethodName) ∈ ht_tb := ht_wt 275 rfl rfl
theorem w277 : Jvm.Cond.instanceMethod ({ cls := "HybridTrack", name := "wasLeftByWholeTrain", desc := "(I)Z" } : Jvm.MethodName) ∈ ht_tb := ht_wt 277 rfl rfl
theorem w278 : Jvm.Cond.code ({ cls := "HybridTrack", name := "wasLeftByWholeTrain", desc := "(I)Z" } : Jvm.MethodName) prog_1_method_36_code (3 : Nat) (Option.some Jvm.ClassFile.FieldType.boolean) ∈ ht_tb := ht_wt 278 rfl rfl
theorem w279 : Jvm.Cond.methodLink "HybridTrackLaw" (71 : Nat) ({ cls := "HybridTrackLaw", name := "drive", desc := "(LHybridTrack;II[J)I" } : Jvm.MethodName) ∈ ht_tb := ht_wt 279 rfl rfl
theorem w280 : Jvm.Cond.static ({ cls := "HybridTrackLaw", name := "drive", desc := "(LHybridTrack;II[J)I" } : Jvm.MethodName) ∈ ht_tb := ht_wt 280 rfl rfl
theorem w281 : Jvm.Cond.codeWith ({ cls := "HybridTrackLaw", name := "drive", desc := "(LHybridTrack;II[J)I" } : Jvm.MethodName) method_4_code (5 : Nat) (Option.some Jvm.ClassFile.FieldType.int) [((0 : Nat), (10 : Nat), (13 : Nat), (20 : Nat)), ((0 : Nat), (10 : Nat), (17 : Nat), (13 : Nat))] ∈ ht_tb := ht_wt 281 rfl rfl
theorem w282 : Jvm.Cond.classLink "HybridTrackLaw" (20 : Nat) "java/util/NoSuchElementException" ∈ ht_tb := ht_wt 282 rfl rfl
theorem w283 : Jvm.Cond.methodLink "HybridTrackLaw" (17 : Nat) ({ cls := "HybridTrack", name := "drive", desc := "(II)I" } : Jvm.MethodName) ∈ ht_tb := ht_wt 283 rfl rfl
theorem w284 : Jvm.Cond.instanceMethod ({ cls := "HybridTrack", name := "drive", desc := "(II)I" } : Jvm.MethodName) ∈ ht_tb := ht_wt 284 rfl rfl
theorem w285 : Jvm.Cond.selects "HybridTrack" ({ cls := "HybridTrack", name := "drive", desc := "(II)I" } : Jvm.MethodName) ({ cls := "HybridTrack", name := "drive", desc := "(II)I" } : Jvm.MethodName) ∈ ht_tb := ht_wt 285 rfl rfl
theorem w286 : Jvm.Cond.code ({ cls := "HybridTrack", name := "drive", desc := "(II)I" } : Jvm.MethodName) prog_1_method_3_code (5 : Nat) (Option.some Jvm.ClassFile.FieldType.int) ∈ ht_tb := ht_wt 286 rfl rfl
theorem w287 : Jvm.Cond.methodLink "HybridTrack" (73 : Nat) ({ cls := "HybridTrack", name := "existingTrain", desc := "(I)LHybridTrack$Vehicle;" } : Jvm.MethodName) ∈ ht_tb := ht_wt 287 rfl rfl
theorem w289 : Jvm.Cond.instanceMethod ({ cls := "HybridTrack", name := "existingTrain", desc := "(I)LHybridTrack$Vehicle;" } : Jvm.MethodName) ∈ ht_tb := ht_wt 289 rfl rfl
theorem w290 : Jvm.Cond.code ({ cls := "HybridTrack", name := "existingTrain", desc := "(I)LHybridTrack$Vehicle;" } : Jvm.MethodName) prog_1_method_17_code (2 : Nat) (Option.some (Jvm.ClassFile.FieldType.object "HybridTrack$Vehicle")) ∈ ht_tb := ht_wt 290 rfl rfl
theorem w291 : Jvm.Cond.methodLink "HybridTrack" (127 : Nat) ({ cls := "HybridTrack", name := "isOnTrack", desc := "(I)Z" } : Jvm.MethodName) ∈ ht_tb := ht_wt 291 rfl rfl
theorem w293 : Jvm.Cond.instanceMethod ({ cls := "HybridTrack", name := "isOnTrack", desc := "(I)Z" } : Jvm.MethodName) ∈ ht_tb := ht_wt 293 rfl rfl
theorem w294 : Jvm.Cond.code ({ cls := "HybridTrack", name := "isOnTrack", desc := "(I)Z" } : Jvm.MethodName) prog_1_method_16_code (2 : Nat) (Option.some Jvm.ClassFile.FieldType.boolean) ∈ ht_tb := ht_wt 294 rfl rfl
theorem w295 : Jvm.Cond.classLink "HybridTrack" (134 : Nat) "java/util/NoSuchElementException" ∈ ht_tb := ht_wt 295 rfl rfl
theorem w296 : Jvm.Cond.instantiable "java/util/NoSuchElementException" (6 : Nat) ∈ ht_tb := ht_wt 296 rfl rfl
theorem w298 : Jvm.Cond.selects "java/util/NoSuchElementException" ({ cls := "java/lang/Throwable", name := "fillInStackTrace", desc := "(I)Ljava/lang/Throwable;" } : Jvm.MethodName) ({ cls := "java/lang/Throwable", name := "fillInStackTrace", desc := "(I)Ljava/lang/Throwable;" } : Jvm.MethodName) ∈ ht_tb := ht_wt 298 rfl rfl
theorem w299 : Jvm.Cond.lays "java/util/NoSuchElementException" "java/lang/Throwable" "cause" "Ljava/lang/Throwable;" ∈ ht_tb := ht_wt 299 rfl rfl
theorem w300 : Jvm.Cond.lays "java/util/NoSuchElementException" "java/lang/Throwable" "stackTrace" "[Ljava/lang/StackTraceElement;" ∈ ht_tb := ht_wt 300 rfl rfl
theorem w301 : Jvm.Cond.lays "java/util/NoSuchElementException" "java/lang/Throwable" "suppressedExceptions" "Ljava/util/List;" ∈ ht_tb := ht_wt 301 rfl rfl
theorem w302 : Jvm.Cond.lays "java/util/NoSuchElementException" "java/lang/Throwable" "detailMessage" "Ljava/lang/String;" ∈ ht_tb := ht_wt 302 rfl rfl
theorem w303 : Jvm.Cond.lays "java/util/NoSuchElementException" "java/lang/Throwable" "backtrace" "Ljava/lang/Object;" ∈ ht_tb := ht_wt 303 rfl rfl
theorem w305 : Jvm.Cond.methodLink "HybridTrack" (138 : Nat) ({ cls := "java/util/NoSuchElementException", name := "<init>", desc := "(Ljava/lang/String;)V" } : Jvm.MethodName) ∈ ht_tb := ht_wt 305 rfl rfl
theorem w306 : Jvm.Cond.instanceMethod ({ cls := "java/util/NoSuchElementException", name := "<init>", desc := "(Ljava/lang/String;)V" } : Jvm.MethodName) ∈ ht_tb := ht_wt 306 rfl rfl
theorem w307 : Jvm.Cond.code ({ cls := "java/util/NoSuchElementException", name := "<init>", desc := "(Ljava/lang/String;)V" } : Jvm.MethodName) prog_11_method_4_code (2 : Nat) (Option.none : Option Jvm.ClassFile.FieldType) ∈ ht_tb := ht_wt 307 rfl rfl
theorem w308 : Jvm.Cond.methodLink "java/util/NoSuchElementException" (13 : Nat) ({ cls := "java/lang/RuntimeException", name := "<init>", desc := "(Ljava/lang/String;)V" } : Jvm.MethodName) ∈ ht_tb := ht_wt 308 rfl rfl
theorem w309 : Jvm.Cond.lays "java/util/NoSuchElementException" "java/lang/Throwable" "depth" "I" ∈ ht_tb := ht_wt 309 rfl rfl
theorem w312 : Jvm.Cond.methodLink "HybridTrackLaw" (74 : Nat) ({ cls := "HybridTrackLaw", name := "silence", desc := "(LHybridTrack;IZ[J)I" } : Jvm.MethodName) ∈ ht_tb := ht_wt 312 rfl rfl
theorem w313 : Jvm.Cond.static ({ cls := "HybridTrackLaw", name := "silence", desc := "(LHybridTrack;IZ[J)I" } : Jvm.MethodName) ∈ ht_tb := ht_wt 313 rfl rfl
theorem w314 : Jvm.Cond.codeWith ({ cls := "HybridTrackLaw", name := "silence", desc := "(LHybridTrack;IZ[J)I" } : Jvm.MethodName) method_5_code (5 : Nat) (Option.some Jvm.ClassFile.FieldType.int) [((0 : Nat), (10 : Nat), (13 : Nat), (20 : Nat))] ∈ ht_tb := ht_wt 314 rfl rfl
theorem w315 : Jvm.Cond.methodLink "HybridTrackLaw" (22 : Nat) ({ cls := "HybridTrack", name := "silence", desc := "(IZ)I" } : Jvm.MethodName) ∈ ht_tb := ht_wt 315 rfl rfl
theorem w316 : Jvm.Cond.instanceMethod ({ cls := "HybridTrack", name := "silence", desc := "(IZ)I" } : Jvm.MethodName) ∈ ht_tb := ht_wt 316 rfl rfl
theorem w317 : Jvm.Cond.selects "HybridTrack" ({ cls := "HybridTrack", name := "silence", desc := "(IZ)I" } : Jvm.MethodName) ({ cls := "HybridTrack", name := "silence", desc := "(IZ)I" } : Jvm.MethodName) ∈ ht_tb := ht_wt 317 rfl rfl
theorem w318 : Jvm.Cond.code ({ cls := "HybridTrack", name := "silence", desc := "(IZ)I" } : Jvm.MethodName) prog_1_method_4_code (5 : Nat) (Option.some Jvm.ClassFile.FieldType.int) ∈ ht_tb := ht_wt 318 rfl rfl
theorem w319 : Jvm.Cond.methodLink "HybridTrackLaw" (78 : Nat) ({ cls := "HybridTrackLaw", name := "authorise", desc := "(LHybridTrack;I[J)I" } : Jvm.MethodName) ∈ ht_tb := ht_wt 319 rfl rfl
theorem w320 : Jvm.Cond.static ({ cls := "HybridTrackLaw", name := "authorise", desc := "(LHybridTrack;I[J)I" } : Jvm.MethodName) ∈ ht_tb := ht_wt 320 rfl rfl
theorem w321 : Jvm.Cond.codeWith ({ cls := "HybridTrackLaw", name := "authorise", desc := "(LHybridTrack;I[J)I" } : Jvm.MethodName) method_6_code (4 : Nat) (Option.some Jvm.ClassFile.FieldType.int) [((0 : Nat), (9 : Nat), (12 : Nat), (20 : Nat)), ((0 : Nat), (9 : Nat), (15 : Nat), (15 : Nat))] ∈ ht_tb := ht_wt 321 rfl rfl
theorem w322 : Jvm.Cond.methodLink "HybridTrackLaw" (26 : Nat) ({ cls := "HybridTrack", name := "authorise", desc := "(I)I" } : Jvm.MethodName) ∈ ht_tb := ht_wt 322 rfl rfl
theorem w323 : Jvm.Cond.instanceMethod ({ cls := "HybridTrack", name := "authorise", desc := "(I)I" } : Jvm.MethodName) ∈ ht_tb := ht_wt 323 rfl rfl
theorem w324 : Jvm.Cond.selects "HybridTrack" ({ cls := "HybridTrack", name := "authorise", desc := "(I)I" } : Jvm.MethodName) ({ cls := "HybridTrack", name := "authorise", desc := "(I)I" } : Jvm.MethodName) ∈ ht_tb := ht_wt 324 rfl rfl
theorem w325 : Jvm.Cond.code ({ cls := "HybridTrack", name := "authorise", desc := "(I)I" } : Jvm.MethodName) prog_1_method_5_code (6 : Nat) (Option.some Jvm.ClassFile.FieldType.int) ∈ ht_tb := ht_wt 325 rfl rfl
theorem w327 : Jvm.Cond.methodLink "HybridTrack" (98 : Nat) ({ cls := "HybridTrack", name := "farthestFreeFrom", desc := "(II)I" } : Jvm.MethodName) ∈ ht_tb := ht_wt 327 rfl rfl
theorem w329 : Jvm.Cond.instanceMethod ({ cls := "HybridTrack", name := "farthestFreeFrom", desc := "(II)I" } : Jvm.MethodName) ∈ ht_tb := ht_wt 329 rfl rfl
theorem w330 : Jvm.Cond.code ({ cls := "HybridTrack", name := "farthestFreeFrom", desc := "(II)I" } : Jvm.MethodName) prog_1_method_23_code (5 : Nat) (Option.some Jvm.ClassFile.FieldType.int) ∈ ht_tb := ht_wt 330 rfl rfl
theorem w331 : Jvm.Cond.methodLink "HybridTrackLaw" (82 : Nat) ({ cls := "HybridTrackLaw", name := "relent", desc := "(LHybridTrack;I[J)I" } : Jvm.MethodName) ∈ ht_tb := ht_wt 331 rfl rfl
theorem w332 : Jvm.Cond.static ({ cls := "HybridTrackLaw", name := "relent", desc := "(LHybridTrack;I[J)I" } : Jvm.MethodName) ∈ ht_tb := ht_wt 332 rfl rfl
theorem w333 : Jvm.Cond.codeWith ({ cls := "HybridTrackLaw", name := "relent", desc := "(LHybridTrack;I[J)I" } : Jvm.MethodName) method_7_code (4 : Nat) (Option.some Jvm.ClassFile.FieldType.int) [((0 : Nat), (9 : Nat), (12 : Nat), (20 : Nat)), ((0 : Nat), (9 : Nat), (15 : Nat), (15 : Nat))] ∈ ht_tb := ht_wt 333 rfl rfl
theorem w334 : Jvm.Cond.methodLink "HybridTrackLaw" (30 : Nat) ({ cls := "HybridTrack", name := "relent", desc := "(I)I" } : Jvm.MethodName) ∈ ht_tb := ht_wt 334 rfl rfl
theorem w335 : Jvm.Cond.instanceMethod ({ cls := "HybridTrack", name := "relent", desc := "(I)I" } : Jvm.MethodName) ∈ ht_tb := ht_wt 335 rfl rfl
theorem w336 : Jvm.Cond.selects "HybridTrack" ({ cls := "HybridTrack", name := "relent", desc := "(I)I" } : Jvm.MethodName) ({ cls := "HybridTrack", name := "relent", desc := "(I)I" } : Jvm.MethodName) ∈ ht_tb := ht_wt 336 rfl rfl
theorem w337 : Jvm.Cond.code ({ cls := "HybridTrack", name := "relent", desc := "(I)I" } : Jvm.MethodName) prog_1_method_6_code (4 : Nat) (Option.some Jvm.ClassFile.FieldType.int) ∈ ht_tb := ht_wt 337 rfl rfl
theorem w339 : Jvm.Cond.methodLink "HybridTrackLaw" (85 : Nat) ({ cls := "HybridTrackLaw", name := "lose", desc := "(LHybridTrack;II[J)I" } : Jvm.MethodName) ∈ ht_tb := ht_wt 339 rfl rfl
theorem w340 : Jvm.Cond.static ({ cls := "HybridTrackLaw", name := "lose", desc := "(LHybridTrack;II[J)I" } : Jvm.MethodName) ∈ ht_tb := ht_wt 340 rfl rfl
theorem w341 : Jvm.Cond.codeWith ({ cls := "HybridTrackLaw", name := "lose", desc := "(LHybridTrack;II[J)I" } : Jvm.MethodName) method_8_code (5 : Nat) (Option.some Jvm.ClassFile.FieldType.int) [((0 : Nat), (10 : Nat), (13 : Nat), (20 : Nat)), ((0 : Nat), (10 : Nat), (17 : Nat), (13 : Nat)), ((0 : Nat), (10 : Nat), (21 : Nat), (15 : Nat))] ∈ ht_tb := ht_wt 341 rfl rfl
theorem w342 : Jvm.Cond.methodLink "HybridTrackLaw" (33 : Nat) ({ cls := "HybridTrack", name := "lose", desc := "(II)I" } : Jvm.MethodName) ∈ ht_tb := ht_wt 342 rfl rfl
theorem w343 : Jvm.Cond.instanceMethod ({ cls := "HybridTrack", name := "lose", desc := "(II)I" } : Jvm.MethodName) ∈ ht_tb := ht_wt 343 rfl rfl
theorem w344 : Jvm.Cond.selects "HybridTrack" ({ cls := "HybridTrack", name := "lose", desc := "(II)I" } : Jvm.MethodName) ({ cls := "HybridTrack", name := "lose", desc := "(II)I" } : Jvm.MethodName) ∈ ht_tb := ht_wt 344 rfl rfl
theorem w345 : Jvm.Cond.code ({ cls := "HybridTrack", name := "lose", desc := "(II)I" } : Jvm.MethodName) prog_1_method_7_code (4 : Nat) (Option.some Jvm.ClassFile.FieldType.int) ∈ ht_tb := ht_wt 345 rfl rfl
theorem w350 : Jvm.Cond.instanceMethod ({ cls := "HybridTrack$Vehicle", name := "becomeWagon", desc := "(II)V" } : Jvm.MethodName) ∈ ht_tb := ht_wt 350 rfl rfl
theorem w351 : Jvm.Cond.code ({ cls := "HybridTrack$Vehicle", name := "becomeWagon", desc := "(II)V" } : Jvm.MethodName) prog_2_method_3_code (3 : Nat) (Option.none : Option Jvm.ClassFile.FieldType) ∈ ht_tb := ht_wt 351 rfl rfl
theorem w352 : Jvm.Cond.methodLink "HybridTrackLaw" (88 : Nat) ({ cls := "HybridTrackLaw", name := "confirm", desc := "(LHybridTrack;I[J)I" } : Jvm.MethodName) ∈ ht_tb := ht_wt 352 rfl rfl
theorem w353 : Jvm.Cond.static ({ cls := "HybridTrackLaw", name := "confirm", desc := "(LHybridTrack;I[J)I" } : Jvm.MethodName) ∈ ht_tb := ht_wt 353 rfl rfl
theorem w354 : Jvm.Cond.codeWith ({ cls := "HybridTrackLaw", name := "confirm", desc := "(LHybridTrack;I[J)I" } : Jvm.MethodName) method_9_code (4 : Nat) (Option.some Jvm.ClassFile.FieldType.int) [((0 : Nat), (9 : Nat), (12 : Nat), (20 : Nat)), ((0 : Nat), (9 : Nat), (15 : Nat), (15 : Nat))] ∈ ht_tb := ht_wt 354 rfl rfl
theorem w355 : Jvm.Cond.methodLink "HybridTrackLaw" (36 : Nat) ({ cls := "HybridTrack", name := "confirm", desc := "(I)I" } : Jvm.MethodName) ∈ ht_tb := ht_wt 355 rfl rfl
theorem w356 : Jvm.Cond.instanceMethod ({ cls := "HybridTrack", name := "confirm", desc := "(I)I" } : Jvm.MethodName) ∈ ht_tb := ht_wt 356 rfl rfl
theorem w357 : Jvm.Cond.selects "HybridTrack" ({ cls := "HybridTrack", name := "confirm", desc := "(I)I" } : Jvm.MethodName) ({ cls := "HybridTrack", name := "confirm", desc := "(I)I" } : Jvm.MethodName) ∈ ht_tb := ht_wt 357 rfl rfl
theorem w358 : Jvm.Cond.code ({ cls := "HybridTrack", name := "confirm", desc := "(I)I" } : Jvm.MethodName) prog_1_method_8_code (3 : Nat) (Option.some Jvm.ClassFile.FieldType.int) ∈ ht_tb := ht_wt 358 rfl rfl
theorem w360 : Jvm.Cond.methodLink "HybridTrackLaw" (91 : Nat) ({ cls := "HybridTrackLaw", name := "clear", desc := "(LHybridTrack;I[J)I" } : Jvm.MethodName) ∈ ht_tb := ht_wt 360 rfl rfl
theorem w361 : Jvm.Cond.static ({ cls := "HybridTrackLaw", name := "clear", desc := "(LHybridTrack;I[J)I" } : Jvm.MethodName) ∈ ht_tb := ht_wt 361 rfl rfl
theorem w362 : Jvm.Cond.codeWith ({ cls := "HybridTrackLaw", name := "clear", desc := "(LHybridTrack;I[J)I" } : Jvm.MethodName) method_10_code (4 : Nat) (Option.some Jvm.ClassFile.FieldType.int) [((0 : Nat), (9 : Nat), (12 : Nat), (20 : Nat))] ∈ ht_tb := ht_wt 362 rfl rfl
theorem w363 : Jvm.Cond.methodLink "HybridTrackLaw" (39 : Nat) ({ cls := "HybridTrack", name := "clear", desc := "(I)I" } : Jvm.MethodName) ∈ ht_tb := ht_wt 363 rfl rfl
theorem w364 : Jvm.Cond.instanceMethod ({ cls := "HybridTrack", name := "clear", desc := "(I)I" } : Jvm.MethodName) ∈ ht_tb := ht_wt 364 rfl rfl
theorem w365 : Jvm.Cond.selects "HybridTrack" ({ cls := "HybridTrack", name := "clear", desc := "(I)I" } : Jvm.MethodName) ({ cls := "HybridTrack", name := "clear", desc := "(I)I" } : Jvm.MethodName) ∈ ht_tb := ht_wt 365 rfl rfl
theorem w366 : Jvm.Cond.code ({ cls := "HybridTrack", name := "clear", desc := "(I)I" } : Jvm.MethodName) prog_1_method_9_code (2 : Nat) (Option.some Jvm.ClassFile.FieldType.int) ∈ ht_tb := ht_wt 366 rfl rfl
theorem w368 : Jvm.Cond.methodLink "HybridTrackLaw" (94 : Nat) ({ cls := "HybridTrackLaw", name := "tick", desc := "(LHybridTrack;I[J)I" } : Jvm.MethodName) ∈ ht_tb := ht_wt 368 rfl rfl
theorem w369 : Jvm.Cond.static ({ cls := "HybridTrackLaw", name := "tick", desc := "(LHybridTrack;I[J)I" } : Jvm.MethodName) ∈ ht_tb := ht_wt 369 rfl rfl
theorem w370 : Jvm.Cond.codeWith ({ cls := "HybridTrackLaw", name := "tick", desc := "(LHybridTrack;I[J)I" } : Jvm.MethodName) method_11_code (4 : Nat) (Option.some Jvm.ClassFile.FieldType.int) [((0 : Nat), (9 : Nat), (12 : Nat), (13 : Nat))] ∈ ht_tb := ht_wt 370 rfl rfl
theorem w371 : Jvm.Cond.methodLink "HybridTrackLaw" (42 : Nat) ({ cls := "HybridTrack", name := "tick", desc := "(I)I" } : Jvm.MethodName) ∈ ht_tb := ht_wt 371 rfl rfl
theorem w372 : Jvm.Cond.instanceMethod ({ cls := "HybridTrack", name := "tick", desc := "(I)I" } : Jvm.MethodName) ∈ ht_tb := ht_wt 372 rfl rfl
theorem w373 : Jvm.Cond.selects "HybridTrack" ({ cls := "HybridTrack", name := "tick", desc := "(I)I" } : Jvm.MethodName) ({ cls := "HybridTrack", name := "tick", desc := "(I)I" } : Jvm.MethodName) ∈ ht_tb := ht_wt 373 rfl rfl
theorem w374 : Jvm.Cond.code ({ cls := "HybridTrack", name := "tick", desc := "(I)I" } : Jvm.MethodName) prog_1_method_10_code (3 : Nat) (Option.some Jvm.ClassFile.FieldType.int) ∈ ht_tb := ht_wt 374 rfl rfl
theorem w376 : Jvm.Cond.methodLink "HybridTrack" (144 : Nat) ({ cls := "HybridTrack", name := "makeTick", desc := "()V" } : Jvm.MethodName) ∈ ht_tb := ht_wt 376 rfl rfl
theorem w378 : Jvm.Cond.instanceMethod ({ cls := "HybridTrack", name := "makeTick", desc := "()V" } : Jvm.MethodName) ∈ ht_tb := ht_wt 378 rfl rfl
theorem w379 : Jvm.Cond.code ({ cls := "HybridTrack", name := "makeTick", desc := "()V" } : Jvm.MethodName) prog_1_method_27_code (2 : Nat) (Option.none : Option Jvm.ClassFile.FieldType) ∈ ht_tb := ht_wt 379 rfl rfl
theorem w380 : Jvm.Cond.methodLink "HybridTrack" (185 : Nat) ({ cls := "HybridTrack", name := "goForward", desc := "(LHybridTrack$Vehicle;)V" } : Jvm.MethodName) ∈ ht_tb := ht_wt 380 rfl rfl
theorem w382 : Jvm.Cond.instanceMethod ({ cls := "HybridTrack", name := "goForward", desc := "(LHybridTrack$Vehicle;)V" } : Jvm.MethodName) ∈ ht_tb := ht_wt 382 rfl rfl
theorem w383 : Jvm.Cond.code ({ cls := "HybridTrack", name := "goForward", desc := "(LHybridTrack$Vehicle;)V" } : Jvm.MethodName) prog_1_method_28_code (4 : Nat) (Option.none : Option Jvm.ClassFile.FieldType) ∈ ht_tb := ht_wt 383 rfl rfl
theorem w386 : Jvm.Cond.instanceMethod ({ cls := "HybridTrack$Vehicle", name := "reportOrAge", desc := "()V" } : Jvm.MethodName) ∈ ht_tb := ht_wt 386 rfl rfl
theorem w387 : Jvm.Cond.code ({ cls := "HybridTrack$Vehicle", name := "reportOrAge", desc := "()V" } : Jvm.MethodName) prog_2_method_5_code (1 : Nat) (Option.none : Option Jvm.ClassFile.FieldType) ∈ ht_tb := ht_wt 387 rfl rfl
theorem w388 : Jvm.Cond.methodLink "HybridTrack" (147 : Nat) ({ cls := "HybridTrack", name := "sectionsInState", desc := "(I)I" } : Jvm.MethodName) ∈ ht_tb := ht_wt 388 rfl rfl
theorem w390 : Jvm.Cond.instanceMethod ({ cls := "HybridTrack", name := "sectionsInState", desc := "(I)I" } : Jvm.MethodName) ∈ ht_tb := ht_wt 390 rfl rfl
theorem w391 : Jvm.Cond.code ({ cls := "HybridTrack", name := "sectionsInState", desc := "(I)I" } : Jvm.MethodName) prog_1_method_25_code (4 : Nat) (Option.some Jvm.ClassFile.FieldType.int) ∈ ht_tb := ht_wt 391 rfl rfl
theorem w392 : Jvm.Cond.methodLink "HybridTrackLaw" (97 : Nat) ({ cls := "HybridTrackLaw", name := "state", desc := "(LHybridTrack;I[J)I" } : Jvm.MethodName) ∈ ht_tb := ht_wt 392 rfl rfl
theorem w393 : Jvm.Cond.static ({ cls := "HybridTrackLaw", name := "state", desc := "(LHybridTrack;I[J)I" } : Jvm.MethodName) ∈ ht_tb := ht_wt 393 rfl rfl
theorem w394 : Jvm.Cond.codeWith ({ cls := "HybridTrackLaw", name := "state", desc := "(LHybridTrack;I[J)I" } : Jvm.MethodName) method_12_code (4 : Nat) (Option.some Jvm.ClassFile.FieldType.int) [((0 : Nat), (9 : Nat), (12 : Nat), (13 : Nat))] ∈ ht_tb := ht_wt 394 rfl rfl
theorem w395 : Jvm.Cond.methodLink "HybridTrackLaw" (45 : Nat) ({ cls := "HybridTrack", name := "state", desc := "(I)I" } : Jvm.MethodName) ∈ ht_tb := ht_wt 395 rfl rfl
theorem w396 : Jvm.Cond.instanceMethod ({ cls := "HybridTrack", name := "state", desc := "(I)I" } : Jvm.MethodName) ∈ ht_tb := ht_wt 396 rfl rfl
theorem w397 : Jvm.Cond.selects "HybridTrack" ({ cls := "HybridTrack", name := "state", desc := "(I)I" } : Jvm.MethodName) ({ cls := "HybridTrack", name := "state", desc := "(I)I" } : Jvm.MethodName) ∈ ht_tb := ht_wt 397 rfl rfl
theorem w398 : Jvm.Cond.code ({ cls := "HybridTrack", name := "state", desc := "(I)I" } : Jvm.MethodName) prog_1_method_11_code (2 : Nat) (Option.some Jvm.ClassFile.FieldType.int) ∈ ht_tb := ht_wt 398 rfl rfl
theorem w400 : Jvm.Cond.methodLink "HybridTrackLaw" (100 : Nat) ({ cls := "HybridTrackLaw", name := "detected", desc := "(LHybridTrack;I[J)I" } : Jvm.MethodName) ∈ ht_tb := ht_wt 400 rfl rfl
set_option maxRecDepth 100000 in
theorem w401 : Jvm.Cond.static ({ cls := "HybridTrackLaw", name := "detected", desc := "(LHybridTrack;I[J)I" } : Jvm.MethodName) ∈ ht_tb := ht_wt 401 rfl rfl
set_option maxRecDepth 100000 in
theorem w402 : Jvm.Cond.codeWith ({ cls := "HybridTrackLaw", name := "detected", desc := "(LHybridTrack;I[J)I" } : Jvm.MethodName) method_13_code (4 : Nat) (Option.some Jvm.ClassFile.FieldType.int) [((0 : Nat), (9 : Nat), (12 : Nat), (13 : Nat))] ∈ ht_tb := ht_wt 402 rfl rfl
set_option maxRecDepth 100000 in
theorem w403 : Jvm.Cond.methodLink "HybridTrackLaw" (48 : Nat) ({ cls := "HybridTrack", name := "detected", desc := "(I)I" } : Jvm.MethodName) ∈ ht_tb := ht_wt 403 rfl rfl
set_option maxRecDepth 100000 in
theorem w404 : Jvm.Cond.instanceMethod ({ cls := "HybridTrack", name := "detected", desc := "(I)I" } : Jvm.MethodName) ∈ ht_tb := ht_wt 404 rfl rfl
set_option maxRecDepth 100000 in
theorem w405 : Jvm.Cond.selects "HybridTrack" ({ cls := "HybridTrack", name := "detected", desc := "(I)I" } : Jvm.MethodName) ({ cls := "HybridTrack", name := "detected", desc := "(I)I" } : Jvm.MethodName) ∈ ht_tb := ht_wt 405 rfl rfl
set_option maxRecDepth 100000 in
theorem w406 : Jvm.Cond.code ({ cls := "HybridTrack", name := "detected", desc := "(I)I" } : Jvm.MethodName) prog_1_method_12_code (2 : Nat) (Option.some Jvm.ClassFile.FieldType.int) ∈ ht_tb := ht_wt 406 rfl rfl
set_option maxRecDepth 100000 in
theorem w408 : Jvm.Cond.methodLink "HybridTrackLaw" (103 : Nat) ({ cls := "HybridTrackLaw", name := "vehicle", desc := "(LHybridTrack;II[J)I" } : Jvm.MethodName) ∈ ht_tb := ht_wt 408 rfl rfl
set_option maxRecDepth 100000 in
theorem w409 : Jvm.Cond.static ({ cls := "HybridTrackLaw", name := "vehicle", desc := "(LHybridTrack;II[J)I" } : Jvm.MethodName) ∈ ht_tb := ht_wt 409 rfl rfl
set_option maxRecDepth 100000 in
theorem w410 : Jvm.Cond.codeWith ({ cls := "HybridTrackLaw", name := "vehicle", desc := "(LHybridTrack;II[J)I" } : Jvm.MethodName) method_14_code (5 : Nat) (Option.some Jvm.ClassFile.FieldType.int) [((0 : Nat), (10 : Nat), (13 : Nat), (20 : Nat)), ((0 : Nat), (10 : Nat), (17 : Nat), (13 : Nat))] ∈ ht_tb := ht_wt 410 rfl rfl
set_option maxRecDepth 100000 in
theorem w411 : Jvm.Cond.methodLink "HybridTrackLaw" (51 : Nat) ({ cls := "HybridTrack", name := "vehicle", desc := "(II)I" } : Jvm.MethodName) ∈ ht_tb := ht_wt 411 rfl rfl
set_option maxRecDepth 100000 in
theorem w412 : Jvm.Cond.instanceMethod ({ cls := "HybridTrack", name := "vehicle", desc := "(II)I" } : Jvm.MethodName) ∈ ht_tb := ht_wt 412 rfl rfl
set_option maxRecDepth 100000 in
theorem w413 : Jvm.Cond.selects "HybridTrack" ({ cls := "HybridTrack", name := "vehicle", desc := "(II)I" } : Jvm.MethodName) ({ cls := "HybridTrack", name := "vehicle", desc := "(II)I" } : Jvm.MethodName) ∈ ht_tb := ht_wt 413 rfl rfl
set_option maxRecDepth 100000 in
theorem w414 : Jvm.Cond.code ({ cls := "HybridTrack", name := "vehicle", desc := "(II)I" } : Jvm.MethodName) prog_1_method_13_code (4 : Nat) (Option.some Jvm.ClassFile.FieldType.int) ∈ ht_tb := ht_wt 414 rfl rfl
set_option maxRecDepth 100000 in
theorem w418 : Jvm.Cond.methodLink "HybridTrackLaw" (106 : Nat) ({ cls := "HybridTrackLaw", name := "count", desc := "(LHybridTrack;I[J)I" } : Jvm.MethodName) ∈ ht_tb := ht_wt 418 rfl rfl
set_option maxRecDepth 100000 in
theorem w419 : Jvm.Cond.static ({ cls := "HybridTrackLaw", name := "count", desc := "(LHybridTrack;I[J)I" } : Jvm.MethodName) ∈ ht_tb := ht_wt 419 rfl rfl
set_option maxRecDepth 100000 in
theorem w420 : Jvm.Cond.codeWith ({ cls := "HybridTrackLaw", name := "count", desc := "(LHybridTrack;I[J)I" } : Jvm.MethodName) method_15_code (4 : Nat) (Option.some Jvm.ClassFile.FieldType.int) [((0 : Nat), (9 : Nat), (12 : Nat), (13 : Nat))] ∈ ht_tb := ht_wt 420 rfl rfl
set_option maxRecDepth 100000 in
theorem w421 : Jvm.Cond.methodLink "HybridTrackLaw" (54 : Nat) ({ cls := "HybridTrack", name := "count", desc := "(I)I" } : Jvm.MethodName) ∈ ht_tb := ht_wt 421 rfl rfl
set_option maxRecDepth 100000 in
theorem w422 : Jvm.Cond.instanceMethod ({ cls := "HybridTrack", name := "count", desc := "(I)I" } : Jvm.MethodName) ∈ ht_tb := ht_wt 422 rfl rfl
set_option maxRecDepth 100000 in
theorem w423 : Jvm.Cond.selects "HybridTrack" ({ cls := "HybridTrack", name := "count", desc := "(I)I" } : Jvm.MethodName) ({ cls := "HybridTrack", name := "count", desc := "(I)I" } : Jvm.MethodName) ∈ ht_tb := ht_wt 423 rfl rfl
set_option maxRecDepth 100000 in
theorem w424 : Jvm.Cond.code ({ cls := "HybridTrack", name := "count", desc := "(I)I" } : Jvm.MethodName) prog_1_method_14_code (2 : Nat) (Option.some Jvm.ClassFile.FieldType.int) ∈ ht_tb := ht_wt 424 rfl rfl
set_option maxRecDepth 100000 in
theorem w425 : Jvm.Cond.methodLink "HybridTrack" (166 : Nat) ({ cls := "HybridTrack", name := "trainsThatCame", desc := "()I" } : Jvm.MethodName) ∈ ht_tb := ht_wt 425 rfl rfl
set_option maxRecDepth 100000 in
theorem w427 : Jvm.Cond.instanceMethod ({ cls := "HybridTrack", name := "trainsThatCame", desc := "()I" } : Jvm.MethodName) ∈ ht_tb := ht_wt 427 rfl rfl
set_option maxRecDepth 100000 in
theorem w428 : Jvm.Cond.code ({ cls := "HybridTrack", name := "trainsThatCame", desc := "()I" } : Jvm.MethodName) prog_1_method_24_code (3 : Nat) (Option.some Jvm.ClassFile.FieldType.int) ∈ ht_tb := ht_wt 428 rfl rfl
set_option maxRecDepth 100000 in
theorem w429 : Jvm.Cond.methodLink "HybridTrack" (169 : Nat) ({ cls := "HybridTrack", name := "sectionsWronglyFree", desc := "()I" } : Jvm.MethodName) ∈ ht_tb := ht_wt 429 rfl rfl
set_option maxRecDepth 100000 in
theorem w431 : Jvm.Cond.instanceMethod ({ cls := "HybridTrack", name := "sectionsWronglyFree", desc := "()I" } : Jvm.MethodName) ∈ ht_tb := ht_wt 431 rfl rfl
set_option maxRecDepth 100000 in
theorem w432 : Jvm.Cond.code ({ cls := "HybridTrack", name := "sectionsWronglyFree", desc := "()I" } : Jvm.MethodName) prog_1_method_26_code (3 : Nat) (Option.some Jvm.ClassFile.FieldType.int) ∈ ht_tb := ht_wt 432 rfl rfl
set_option maxRecDepth 100000 in
theorem w433 : Jvm.Cond.methodLink "HybridTrack" (182 : Nat) ({ cls := "HybridTrack", name := "isSectionStoodOn", desc := "(I)Z" } : Jvm.MethodName) ∈ ht_tb := ht_wt 433 rfl rfl
set_option maxRecDepth 100000 in
theorem w435 : Jvm.Cond.instanceMethod ({ cls := "HybridTrack", name := "isSectionStoodOn", desc := "(I)Z" } : Jvm.MethodName) ∈ ht_tb := ht_wt 435 rfl rfl
set_option maxRecDepth 100000 in
theorem w436 : Jvm.Cond.code ({ cls := "HybridTrack", name := "isSectionStoodOn", desc := "(I)Z" } : Jvm.MethodName) prog_1_method_20_code (3 : Nat) (Option.some Jvm.ClassFile.FieldType.boolean) ∈ ht_tb := ht_wt 436 rfl rfl
set_option maxRecDepth 100000 in
theorem w438 : Jvm.Cond.classLink "HybridTrackLaw" (58 : Nat) "HybridTrackModel" ∈ ht_tb := ht_wt 438 rfl rfl
set_option maxRecDepth 100000 in
theorem w439 : Jvm.Cond.instantiable "HybridTrackModel" (19 : Nat) ∈ ht_tb := ht_wt 439 rfl rfl
set_option maxRecDepth 100000 in
theorem w440 : Jvm.Cond.methodLink "HybridTrackLaw" (60 : Nat) ({ cls := "HybridTrackModel", name := "<init>", desc := "()V" } : Jvm.MethodName) ∈ ht_tb := ht_wt 440 rfl rfl
set_option maxRecDepth 100000 in
theorem w441 : Jvm.Cond.instanceMethod ({ cls := "HybridTrackModel", name := "<init>", desc := "()V" } : Jvm.MethodName) ∈ ht_tb := ht_wt 441 rfl rfl
set_option maxRecDepth 100000 in
theorem w442 : Jvm.Cond.code ({ cls := "HybridTrackModel", name := "<init>", desc := "()V" } : Jvm.MethodName) prog_4_method_1_code (2 : Nat) (Option.none : Option Jvm.ClassFile.FieldType) ∈ ht_tb := ht_wt 442 rfl rfl
set_option maxRecDepth 100000 in
theorem w443 : Jvm.Cond.methodLink "HybridTrackModel" (1 : Nat) ({ cls := "java/lang/Object", name := "<init>", desc := "()V" } : Jvm.MethodName) ∈ ht_tb := ht_wt 443 rfl rfl
set_option maxRecDepth 100000 in
theorem w444 : Jvm.Cond.fieldLink "HybridTrackModel" (59 : Nat) "HybridTrackModel" "thrown" "I" ∈ ht_tb := ht_wt 444 rfl rfl
set_option maxRecDepth 100000 in
theorem w445 : Jvm.Cond.fieldLink "HybridTrackModel" (7 : Nat) "HybridTrackModel" "train" "[Z" ∈ ht_tb := ht_wt 445 rfl rfl
set_option maxRecDepth 100000 in
theorem w446 : Jvm.Cond.fieldLink "HybridTrackModel" (13 : Nat) "HybridTrackModel" "there" "[Z" ∈ ht_tb := ht_wt 446 rfl rfl
set_option maxRecDepth 100000 in
theorem w447 : Jvm.Cond.fieldLink "HybridTrackModel" (16 : Nat) "HybridTrackModel" "front" "[I" ∈ ht_tb := ht_wt 447 rfl rfl
set_option maxRecDepth 100000 in
theorem w448 : Jvm.Cond.fieldLink "HybridTrackModel" (20 : Nat) "HybridTrackModel" "length" "[I" ∈ ht_tb := ht_wt 448 rfl rfl
set_option maxRecDepth 100000 in
theorem w449 : Jvm.Cond.fieldLink "HybridTrackModel" (23 : Nat) "HybridTrackModel" "speed" "[I" ∈ ht_tb := ht_wt 449 rfl rfl
set_option maxRecDepth 100000 in
theorem w450 : Jvm.Cond.fieldLink "HybridTrackModel" (26 : Nat) "HybridTrackModel" "end" "[I" ∈ ht_tb := ht_wt 450 rfl rfl
set_option maxRecDepth 100000 in
theorem w451 : Jvm.Cond.fieldLink "HybridTrackModel" (29 : Nat) "HybridTrackModel" "silent" "[Z" ∈ ht_tb := ht_wt 451 rfl rfl
set_option maxRecDepth 100000 in
theorem w452 : Jvm.Cond.fieldLink "HybridTrackModel" (32 : Nat) "HybridTrackModel" "whole" "[Z" ∈ ht_tb := ht_wt 452 rfl rfl
set_option maxRecDepth 100000 in
theorem w453 : Jvm.Cond.fieldLink "HybridTrackModel" (35 : Nat) "HybridTrackModel" "told" "[I" ∈ ht_tb := ht_wt 453 rfl rfl
set_option maxRecDepth 100000 in
theorem w454 : Jvm.Cond.fieldLink "HybridTrackModel" (38 : Nat) "HybridTrackModel" "toldLast" "[I" ∈ ht_tb := ht_wt 454 rfl rfl
set_option maxRecDepth 100000 in
theorem w455 : Jvm.Cond.fieldLink "HybridTrackModel" (41 : Nat) "HybridTrackModel" "toldWhole" "[Z" ∈ ht_tb := ht_wt 455 rfl rfl
set_option maxRecDepth 100000 in
theorem w456 : Jvm.Cond.fieldLink "HybridTrackModel" (44 : Nat) "HybridTrackModel" "age" "[I" ∈ ht_tb := ht_wt 456 rfl rfl
set_option maxRecDepth 100000 in
theorem w457 : Jvm.Cond.fieldLink "HybridTrackModel" (47 : Nat) "HybridTrackModel" "before" "[I" ∈ ht_tb := ht_wt 457 rfl rfl
set_option maxRecDepth 100000 in
theorem w458 : Jvm.Cond.fieldLink "HybridTrackModel" (63 : Nat) "HybridTrackModel" "came" "I" ∈ ht_tb := ht_wt 458 rfl rfl
set_option maxRecDepth 100000 in
theorem w459 : Jvm.Cond.fieldLink "HybridTrackModel" (50 : Nat) "HybridTrackModel" "states" "[I" ∈ ht_tb := ht_wt 459 rfl rfl
set_option maxRecDepth 100000 in
theorem w460 : Jvm.Cond.fieldLink "HybridTrackModel" (53 : Nat) "HybridTrackModel" "next" "[I" ∈ ht_tb := ht_wt 460 rfl rfl
set_option maxRecDepth 100000 in
theorem w461 : Jvm.Cond.fieldLink "HybridTrackModel" (56 : Nat) "HybridTrackModel" "alone" "[I" ∈ ht_tb := ht_wt 461 rfl rfl
set_option maxRecDepth 100000 in
theorem w462 : Jvm.Cond.fieldLink "HybridTrackModel" (120 : Nat) "HybridTrackModel" "ticks" "I" ∈ ht_tb := ht_wt 462 rfl rfl
set_option maxRecDepth 100000 in
theorem w463 : Jvm.Cond.lays "HybridTrackModel" "HybridTrackModel" "thrown" "I" ∈ ht_tb := ht_wt 463 rfl rfl
set_option maxRecDepth 100000 in
theorem w465 : Jvm.Cond.laysFinal "HybridTrackModel" "HybridTrackModel" "train" "[Z" ∈ ht_tb := ht_wt 465 rfl rfl
set_option maxRecDepth 100000 in
theorem w467 : Jvm.Cond.laysFinal "HybridTrackModel" "HybridTrackModel" "there" "[Z" ∈ ht_tb := ht_wt 467 rfl rfl
set_option maxRecDepth 100000 in
theorem w469 : Jvm.Cond.laysFinal "HybridTrackModel" "HybridTrackModel" "front" "[I" ∈ ht_tb := ht_wt 469 rfl rfl
set_option maxRecDepth 100000 in
theorem w471 : Jvm.Cond.laysFinal "HybridTrackModel" "HybridTrackModel" "length" "[I" ∈ ht_tb := ht_wt 471 rfl rfl
set_option maxRecDepth 100000 in
theorem w473 : Jvm.Cond.laysFinal "HybridTrackModel" "HybridTrackModel" "speed" "[I" ∈ ht_tb := ht_wt 473 rfl rfl
set_option maxRecDepth 100000 in
theorem w475 : Jvm.Cond.laysFinal "HybridTrackModel" "HybridTrackModel" "end" "[I" ∈ ht_tb := ht_wt 475 rfl rfl
set_option maxRecDepth 100000 in
theorem w477 : Jvm.Cond.laysFinal "HybridTrackModel" "HybridTrackModel" "silent" "[Z" ∈ ht_tb := ht_wt 477 rfl rfl
set_option maxRecDepth 100000 in
theorem w479 : Jvm.Cond.laysFinal "HybridTrackModel" "HybridTrackModel" "whole" "[Z" ∈ ht_tb := ht_wt 479 rfl rfl
set_option maxRecDepth 100000 in
theorem w481 : Jvm.Cond.laysFinal "HybridTrackModel" "HybridTrackModel" "told" "[I" ∈ ht_tb := ht_wt 481 rfl rfl
set_option maxRecDepth 100000 in
theorem w483 : Jvm.Cond.laysFinal "HybridTrackModel" "HybridTrackModel" "toldLast" "[I" ∈ ht_tb := ht_wt 483 rfl rfl
set_option maxRecDepth 100000 in
theorem w485 : Jvm.Cond.laysFinal "HybridTrackModel" "HybridTrackModel" "toldWhole" "[Z" ∈ ht_tb := ht_wt 485 rfl rfl
set_option maxRecDepth 100000 in
theorem w487 : Jvm.Cond.laysFinal "HybridTrackModel" "HybridTrackModel" "age" "[I" ∈ ht_tb := ht_wt 487 rfl rfl
set_option maxRecDepth 100000 in
theorem w489 : Jvm.Cond.laysFinal "HybridTrackModel" "HybridTrackModel" "before" "[I" ∈ ht_tb := ht_wt 489 rfl rfl
set_option maxRecDepth 100000 in
theorem w491 : Jvm.Cond.lays "HybridTrackModel" "HybridTrackModel" "came" "I" ∈ ht_tb := ht_wt 491 rfl rfl
set_option maxRecDepth 100000 in
theorem w493 : Jvm.Cond.laysFinal "HybridTrackModel" "HybridTrackModel" "states" "[I" ∈ ht_tb := ht_wt 493 rfl rfl
set_option maxRecDepth 100000 in
theorem w495 : Jvm.Cond.laysFinal "HybridTrackModel" "HybridTrackModel" "next" "[I" ∈ ht_tb := ht_wt 495 rfl rfl
set_option maxRecDepth 100000 in
theorem w497 : Jvm.Cond.laysFinal "HybridTrackModel" "HybridTrackModel" "alone" "[I" ∈ ht_tb := ht_wt 497 rfl rfl
set_option maxRecDepth 100000 in
theorem w499 : Jvm.Cond.lays "HybridTrackModel" "HybridTrackModel" "ticks" "I" ∈ ht_tb := ht_wt 499 rfl rfl
set_option maxRecDepth 100000 in
theorem w502 : Jvm.Cond.arrayClass Jvm.ClassFile.FieldType.boolean ∈ ht_tb := ht_wt 502 rfl rfl
set_option maxRecDepth 100000 in
theorem w503 : Jvm.Cond.methodLink "HybridTrackLaw" (67 : Nat) ({ cls := "HybridTrackModel", name := "thrown", desc := "()I" } : Jvm.MethodName) ∈ ht_tb := ht_wt 503 rfl rfl
set_option maxRecDepth 100000 in
theorem w504 : Jvm.Cond.instanceMethod ({ cls := "HybridTrackModel", name := "thrown", desc := "()I" } : Jvm.MethodName) ∈ ht_tb := ht_wt 504 rfl rfl
set_option maxRecDepth 100000 in
theorem w505 : Jvm.Cond.selects "HybridTrackModel" ({ cls := "HybridTrackModel", name := "thrown", desc := "()I" } : Jvm.MethodName) ({ cls := "HybridTrackModel", name := "thrown", desc := "()I" } : Jvm.MethodName) ∈ ht_tb := ht_wt 505 rfl rfl
set_option maxRecDepth 100000 in
theorem w506 : Jvm.Cond.code ({ cls := "HybridTrackModel", name := "thrown", desc := "()I" } : Jvm.MethodName) prog_4_method_2_code (1 : Nat) (Option.some Jvm.ClassFile.FieldType.int) ∈ ht_tb := ht_wt 506 rfl rfl
set_option maxRecDepth 100000 in
theorem w507 : Jvm.Cond.methodLink "HybridTrackLaw" (66 : Nat) ({ cls := "HybridTrackModel", name := "enter", desc := "(II)I" } : Jvm.MethodName) ∈ ht_tb := ht_wt 507 rfl rfl
set_option maxRecDepth 100000 in
theorem w508 : Jvm.Cond.instanceMethod ({ cls := "HybridTrackModel", name := "enter", desc := "(II)I" } : Jvm.MethodName) ∈ ht_tb := ht_wt 508 rfl rfl
set_option maxRecDepth 100000 in
theorem w509 : Jvm.Cond.selects "HybridTrackModel" ({ cls := "HybridTrackModel", name := "enter", desc := "(II)I" } : Jvm.MethodName) ({ cls := "HybridTrackModel", name := "enter", desc := "(II)I" } : Jvm.MethodName) ∈ ht_tb := ht_wt 509 rfl rfl
set_option maxRecDepth 100000 in
theorem w510 : Jvm.Cond.code ({ cls := "HybridTrackModel", name := "enter", desc := "(II)I" } : Jvm.MethodName) prog_4_method_19_code (4 : Nat) (Option.some Jvm.ClassFile.FieldType.int) ∈ ht_tb := ht_wt 510 rfl rfl
set_option maxRecDepth 100000 in
theorem w511 : Jvm.Cond.methodLink "HybridTrackModel" (66 : Nat) ({ cls := "HybridTrackModel", name := "in", desc := "(III)Z" } : Jvm.MethodName) ∈ ht_tb := ht_wt 511 rfl rfl
set_option maxRecDepth 100000 in
theorem w512 : Jvm.Cond.static ({ cls := "HybridTrackModel", name := "in", desc := "(III)Z" } : Jvm.MethodName) ∈ ht_tb := ht_wt 512 rfl rfl
set_option maxRecDepth 100000 in
theorem w513 : Jvm.Cond.code ({ cls := "HybridTrackModel", name := "in", desc := "(III)Z" } : Jvm.MethodName) prog_4_method_4_code (3 : Nat) (Option.some Jvm.ClassFile.FieldType.boolean) ∈ ht_tb := ht_wt 513 rfl rfl
set_option maxRecDepth 100000 in
theorem w514 : Jvm.Cond.methodLink "HybridTrackModel" (100 : Nat) ({ cls := "HybridTrackModel", name := "raise", desc := "(I)I" } : Jvm.MethodName) ∈ ht_tb := ht_wt 514 rfl rfl
set_option maxRecDepth 100000 in
theorem w516 : Jvm.Cond.instanceMethod ({ cls := "HybridTrackModel", name := "raise", desc := "(I)I" } : Jvm.MethodName) ∈ ht_tb := ht_wt 516 rfl rfl
set_option maxRecDepth 100000 in
theorem w517 : Jvm.Cond.code ({ cls := "HybridTrackModel", name := "raise", desc := "(I)I" } : Jvm.MethodName) prog_4_method_3_code (2 : Nat) (Option.some Jvm.ClassFile.FieldType.int) ∈ ht_tb := ht_wt 517 rfl rfl
set_option maxRecDepth 100000 in
theorem w518 : Jvm.Cond.methodLink "HybridTrackModel" (103 : Nat) ({ cls := "HybridTrackModel", name := "standsOn", desc := "(II)I" } : Jvm.MethodName) ∈ ht_tb := ht_wt 518 rfl rfl
set_option maxRecDepth 100000 in
theorem w520 : Jvm.Cond.instanceMethod ({ cls := "HybridTrackModel", name := "standsOn", desc := "(II)I" } : Jvm.MethodName) ∈ ht_tb := ht_wt 520 rfl rfl
set_option maxRecDepth 100000 in
theorem w521 : Jvm.Cond.code ({ cls := "HybridTrackModel", name := "standsOn", desc := "(II)I" } : Jvm.MethodName) prog_4_method_7_code (4 : Nat) (Option.some Jvm.ClassFile.FieldType.int) ∈ ht_tb := ht_wt 521 rfl rfl
set_option maxRecDepth 100000 in
theorem w522 : Jvm.Cond.methodLink "HybridTrackModel" (70 : Nat) ({ cls := "HybridTrackModel", name := "last", desc := "(I)I" } : Jvm.MethodName) ∈ ht_tb := ht_wt 522 rfl rfl
set_option maxRecDepth 100000 in
theorem w524 : Jvm.Cond.instanceMethod ({ cls := "HybridTrackModel", name := "last", desc := "(I)I" } : Jvm.MethodName) ∈ ht_tb := ht_wt 524 rfl rfl
set_option maxRecDepth 100000 in
theorem w525 : Jvm.Cond.code ({ cls := "HybridTrackModel", name := "last", desc := "(I)I" } : Jvm.MethodName) prog_4_method_6_code (2 : Nat) (Option.some Jvm.ClassFile.FieldType.int) ∈ ht_tb := ht_wt 525 rfl rfl
set_option maxRecDepth 100000 in
theorem w526 : Jvm.Cond.methodLink "HybridTrackModel" (107 : Nat) ({ cls := "HybridTrackModel", name := "claimed", desc := "(II)Z" } : Jvm.MethodName) ∈ ht_tb := ht_wt 526 rfl rfl
set_option maxRecDepth 100000 in
theorem w528 : Jvm.Cond.instanceMethod ({ cls := "HybridTrackModel", name := "claimed", desc := "(II)Z" } : Jvm.MethodName) ∈ ht_tb := ht_wt 528 rfl rfl
set_option maxRecDepth 100000 in
theorem w529 : Jvm.Cond.code ({ cls := "HybridTrackModel", name := "claimed", desc := "(II)Z" } : Jvm.MethodName) prog_4_method_12_code (4 : Nat) (Option.some Jvm.ClassFile.FieldType.boolean) ∈ ht_tb := ht_wt 529 rfl rfl
set_option maxRecDepth 100000 in
theorem w530 : Jvm.Cond.methodLink "HybridTrackModel" (78 : Nat) ({ cls := "HybridTrackModel", name := "claims", desc := "(II)Z" } : Jvm.MethodName) ∈ ht_tb := ht_wt 530 rfl rfl
set_option maxRecDepth 100000 in
theorem w532 : Jvm.Cond.instanceMethod ({ cls := "HybridTrackModel", name := "claims", desc := "(II)Z" } : Jvm.MethodName) ∈ ht_tb := ht_wt 532 rfl rfl
set_option maxRecDepth 100000 in
theorem w533 : Jvm.Cond.code ({ cls := "HybridTrackModel", name := "claims", desc := "(II)Z" } : Jvm.MethodName) prog_4_method_11_code (3 : Nat) (Option.some Jvm.ClassFile.FieldType.boolean) ∈ ht_tb := ht_wt 533 rfl rfl
set_option maxRecDepth 100000 in
theorem w534 : Jvm.Cond.methodLink "HybridTrackModel" (110 : Nat) ({ cls := "HybridTrackModel", name := "report", desc := "(I)V" } : Jvm.MethodName) ∈ ht_tb := ht_wt 534 rfl rfl
set_option maxRecDepth 100000 in
theorem w536 : Jvm.Cond.instanceMethod ({ cls := "HybridTrackModel", name := "report", desc := "(I)V" } : Jvm.MethodName) ∈ ht_tb := ht_wt 536 rfl rfl
set_option maxRecDepth 100000 in
theorem w537 : Jvm.Cond.code ({ cls := "HybridTrackModel", name := "report", desc := "(I)V" } : Jvm.MethodName) prog_4_method_18_code (2 : Nat) (Option.none : Option Jvm.ClassFile.FieldType) ∈ ht_tb := ht_wt 537 rfl rfl
set_option maxRecDepth 100000 in
theorem w538 : Jvm.Cond.methodLink "HybridTrackModel" (114 : Nat) ({ cls := "HybridTrackModel", name := "findStates", desc := "()V" } : Jvm.MethodName) ∈ ht_tb := ht_wt 538 rfl rfl
set_option maxRecDepth 100000 in
theorem w540 : Jvm.Cond.instanceMethod ({ cls := "HybridTrackModel", name := "findStates", desc := "()V" } : Jvm.MethodName) ∈ ht_tb := ht_wt 540 rfl rfl
set_option maxRecDepth 100000 in
theorem w541 : Jvm.Cond.code ({ cls := "HybridTrackModel", name := "findStates", desc := "()V" } : Jvm.MethodName) prog_4_method_17_code (4 : Nat) (Option.none : Option Jvm.ClassFile.FieldType) ∈ ht_tb := ht_wt 541 rfl rfl
set_option maxRecDepth 100000 in
theorem w542 : Jvm.Cond.methodLink "HybridTrackModel" (97 : Nat) ({ cls := "HybridTrackModel", name := "found", desc := "(I)I" } : Jvm.MethodName) ∈ ht_tb := ht_wt 542 rfl rfl
set_option maxRecDepth 100000 in
theorem w544 : Jvm.Cond.instanceMethod ({ cls := "HybridTrackModel", name := "found", desc := "(I)I" } : Jvm.MethodName) ∈ ht_tb := ht_wt 544 rfl rfl
set_option maxRecDepth 100000 in
theorem w545 : Jvm.Cond.code ({ cls := "HybridTrackModel", name := "found", desc := "(I)I" } : Jvm.MethodName) prog_4_method_16_code (3 : Nat) (Option.some Jvm.ClassFile.FieldType.int) ∈ ht_tb := ht_wt 545 rfl rfl
set_option maxRecDepth 100000 in
theorem w546 : Jvm.Cond.methodLink "HybridTrackModel" (85 : Nat) ({ cls := "HybridTrackModel", name := "occupied", desc := "(I)Z" } : Jvm.MethodName) ∈ ht_tb := ht_wt 546 rfl rfl
set_option maxRecDepth 100000 in
theorem w548 : Jvm.Cond.instanceMethod ({ cls := "HybridTrackModel", name := "occupied", desc := "(I)Z" } : Jvm.MethodName) ∈ ht_tb := ht_wt 548 rfl rfl
set_option maxRecDepth 100000 in
theorem w549 : Jvm.Cond.code ({ cls := "HybridTrackModel", name := "occupied", desc := "(I)Z" } : Jvm.MethodName) prog_4_method_8_code (3 : Nat) (Option.some Jvm.ClassFile.FieldType.boolean) ∈ ht_tb := ht_wt 549 rfl rfl
set_option maxRecDepth 100000 in
theorem w550 : Jvm.Cond.methodLink "HybridTrackModel" (88 : Nat) ({ cls := "HybridTrackModel", name := "many", desc := "(I)I" } : Jvm.MethodName) ∈ ht_tb := ht_wt 550 rfl rfl
set_option maxRecDepth 100000 in
theorem w552 : Jvm.Cond.instanceMethod ({ cls := "HybridTrackModel", name := "many", desc := "(I)I" } : Jvm.MethodName) ∈ ht_tb := ht_wt 552 rfl rfl
set_option maxRecDepth 100000 in
theorem w553 : Jvm.Cond.code ({ cls := "HybridTrackModel", name := "many", desc := "(I)I" } : Jvm.MethodName) prog_4_method_15_code (5 : Nat) (Option.some Jvm.ClassFile.FieldType.int) ∈ ht_tb := ht_wt 553 rfl rfl
set_option maxRecDepth 100000 in
theorem w554 : Jvm.Cond.methodLink "HybridTrackModel" (82 : Nat) ({ cls := "HybridTrackModel", name := "located", desc := "(II)Z" } : Jvm.MethodName) ∈ ht_tb := ht_wt 554 rfl rfl
set_option maxRecDepth 100000 in
theorem w556 : Jvm.Cond.instanceMethod ({ cls := "HybridTrackModel", name := "located", desc := "(II)Z" } : Jvm.MethodName) ∈ ht_tb := ht_wt 556 rfl rfl
set_option maxRecDepth 100000 in
theorem w557 : Jvm.Cond.code ({ cls := "HybridTrackModel", name := "located", desc := "(II)Z" } : Jvm.MethodName) prog_4_method_10_code (3 : Nat) (Option.some Jvm.ClassFile.FieldType.boolean) ∈ ht_tb := ht_wt 557 rfl rfl
set_option maxRecDepth 100000 in
theorem w558 : Jvm.Cond.methodLink "HybridTrackModel" (74 : Nat) ({ cls := "HybridTrackModel", name := "mute", desc := "(I)Z" } : Jvm.MethodName) ∈ ht_tb := ht_wt 558 rfl rfl
set_option maxRecDepth 100000 in
theorem w560 : Jvm.Cond.instanceMethod ({ cls := "HybridTrackModel", name := "mute", desc := "(I)Z" } : Jvm.MethodName) ∈ ht_tb := ht_wt 560 rfl rfl
set_option maxRecDepth 100000 in
theorem w561 : Jvm.Cond.code ({ cls := "HybridTrackModel", name := "mute", desc := "(I)Z" } : Jvm.MethodName) prog_4_method_9_code (2 : Nat) (Option.some Jvm.ClassFile.FieldType.boolean) ∈ ht_tb := ht_wt 561 rfl rfl
set_option maxRecDepth 100000 in
theorem w562 : Jvm.Cond.methodLink "HybridTrackModel" (91 : Nat) ({ cls := "HybridTrackModel", name := "accounted", desc := "(I)Z" } : Jvm.MethodName) ∈ ht_tb := ht_wt 562 rfl rfl
set_option maxRecDepth 100000 in
theorem w564 : Jvm.Cond.instanceMethod ({ cls := "HybridTrackModel", name := "accounted", desc := "(I)Z" } : Jvm.MethodName) ∈ ht_tb := ht_wt 564 rfl rfl
set_option maxRecDepth 100000 in
theorem w565 : Jvm.Cond.code ({ cls := "HybridTrackModel", name := "accounted", desc := "(I)Z" } : Jvm.MethodName) prog_4_method_14_code (4 : Nat) (Option.some Jvm.ClassFile.FieldType.boolean) ∈ ht_tb := ht_wt 565 rfl rfl
set_option maxRecDepth 100000 in
theorem w566 : Jvm.Cond.methodLink "HybridTrackModel" (94 : Nat) ({ cls := "HybridTrackModel", name := "left", desc := "(I)Z" } : Jvm.MethodName) ∈ ht_tb := ht_wt 566 rfl rfl
set_option maxRecDepth 100000 in
theorem w568 : Jvm.Cond.instanceMethod ({ cls := "HybridTrackModel", name := "left", desc := "(I)Z" } : Jvm.MethodName) ∈ ht_tb := ht_wt 568 rfl rfl
set_option maxRecDepth 100000 in
theorem w569 : Jvm.Cond.code ({ cls := "HybridTrackModel", name := "left", desc := "(I)Z" } : Jvm.MethodName) prog_4_method_13_code (3 : Nat) (Option.some Jvm.ClassFile.FieldType.boolean) ∈ ht_tb := ht_wt 569 rfl rfl
set_option maxRecDepth 100000 in
theorem w570 : Jvm.Cond.methodLink "HybridTrackLaw" (73 : Nat) ({ cls := "HybridTrackModel", name := "drive", desc := "(II)I" } : Jvm.MethodName) ∈ ht_tb := ht_wt 570 rfl rfl
set_option maxRecDepth 100000 in
theorem w571 : Jvm.Cond.instanceMethod ({ cls := "HybridTrackModel", name := "drive", desc := "(II)I" } : Jvm.MethodName) ∈ ht_tb := ht_wt 571 rfl rfl
set_option maxRecDepth 100000 in
theorem w572 : Jvm.Cond.selects "HybridTrackModel" ({ cls := "HybridTrackModel", name := "drive", desc := "(II)I" } : Jvm.MethodName) ({ cls := "HybridTrackModel", name := "drive", desc := "(II)I" } : Jvm.MethodName) ∈ ht_tb := ht_wt 572 rfl rfl
set_option maxRecDepth 100000 in
theorem w573 : Jvm.Cond.code ({ cls := "HybridTrackModel", name := "drive", desc := "(II)I" } : Jvm.MethodName) prog_4_method_20_code (4 : Nat) (Option.some Jvm.ClassFile.FieldType.int) ∈ ht_tb := ht_wt 573 rfl rfl
set_option maxRecDepth 100000 in
theorem w574 : Jvm.Cond.methodLink "HybridTrackModel" (117 : Nat) ({ cls := "HybridTrackModel", name := "isTrain", desc := "(I)Z" } : Jvm.MethodName) ∈ ht_tb := ht_wt 574 rfl rfl
set_option maxRecDepth 100000 in
theorem w576 : Jvm.Cond.instanceMethod ({ cls := "HybridTrackModel", name := "isTrain", desc := "(I)Z" } : Jvm.MethodName) ∈ ht_tb := ht_wt 576 rfl rfl
set_option maxRecDepth 100000 in
theorem w577 : Jvm.Cond.code ({ cls := "HybridTrackModel", name := "isTrain", desc := "(I)Z" } : Jvm.MethodName) prog_4_method_5_code (2 : Nat) (Option.some Jvm.ClassFile.FieldType.boolean) ∈ ht_tb := ht_wt 577 rfl rfl
set_option maxRecDepth 100000 in
theorem w578 : Jvm.Cond.methodLink "HybridTrackLaw" (77 : Nat) ({ cls := "HybridTrackModel", name := "silence", desc := "(IZ)I" } : Jvm.MethodName) ∈ ht_tb := ht_wt 578 rfl rfl
set_option maxRecDepth 100000 in
theorem w579 : Jvm.Cond.instanceMethod ({ cls := "HybridTrackModel", name := "silence", desc := "(IZ)I" } : Jvm.MethodName) ∈ ht_tb := ht_wt 579 rfl rfl
set_option maxRecDepth 100000 in
theorem w580 : Jvm.Cond.selects "HybridTrackModel" ({ cls := "HybridTrackModel", name := "silence", desc := "(IZ)I" } : Jvm.MethodName) ({ cls := "HybridTrackModel", name := "silence", desc := "(IZ)I" } : Jvm.MethodName) ∈ ht_tb := ht_wt 580 rfl rfl
set_option maxRecDepth 100000 in
theorem w581 : Jvm.Cond.code ({ cls := "HybridTrackModel", name := "silence", desc := "(IZ)I" } : Jvm.MethodName) prog_4_method_21_code (4 : Nat) (Option.some Jvm.ClassFile.FieldType.int) ∈ ht_tb := ht_wt 581 rfl rfl
set_option maxRecDepth 100000 in
theorem w582 : Jvm.Cond.methodLink "HybridTrackLaw" (81 : Nat) ({ cls := "HybridTrackModel", name := "authorise", desc := "(I)I" } : Jvm.MethodName) ∈ ht_tb := ht_wt 582 rfl rfl
set_option maxRecDepth 100000 in
theorem w583 : Jvm.Cond.instanceMethod ({ cls := "HybridTrackModel", name := "authorise", desc := "(I)I" } : Jvm.MethodName) ∈ ht_tb := ht_wt 583 rfl rfl
set_option maxRecDepth 100000 in
theorem w584 : Jvm.Cond.selects "HybridTrackModel" ({ cls := "HybridTrackModel", name := "authorise", desc := "(I)I" } : Jvm.MethodName) ({ cls := "HybridTrackModel", name := "authorise", desc := "(I)I" } : Jvm.MethodName) ∈ ht_tb := ht_wt 584 rfl rfl
set_option maxRecDepth 100000 in
theorem w585 : Jvm.Cond.code ({ cls := "HybridTrackModel", name := "authorise", desc := "(I)I" } : Jvm.MethodName) prog_4_method_22_code (3 : Nat) (Option.some Jvm.ClassFile.FieldType.int) ∈ ht_tb := ht_wt 585 rfl rfl
set_option maxRecDepth 100000 in
theorem w586 : Jvm.Cond.methodLink "HybridTrackLaw" (84 : Nat) ({ cls := "HybridTrackModel", name := "relent", desc := "(I)I" } : Jvm.MethodName) ∈ ht_tb := ht_wt 586 rfl rfl
set_option maxRecDepth 100000 in
theorem w587 : Jvm.Cond.instanceMethod ({ cls := "HybridTrackModel", name := "relent", desc := "(I)I" } : Jvm.MethodName) ∈ ht_tb := ht_wt 587 rfl rfl
set_option maxRecDepth 100000 in
theorem w588 : Jvm.Cond.selects "HybridTrackModel" ({ cls := "HybridTrackModel", name := "relent", desc := "(I)I" } : Jvm.MethodName) ({ cls := "HybridTrackModel", name := "relent", desc := "(I)I" } : Jvm.MethodName) ∈ ht_tb := ht_wt 588 rfl rfl
set_option maxRecDepth 100000 in
theorem w589 : Jvm.Cond.code ({ cls := "HybridTrackModel", name := "relent", desc := "(I)I" } : Jvm.MethodName) prog_4_method_23_code (3 : Nat) (Option.some Jvm.ClassFile.FieldType.int) ∈ ht_tb := ht_wt 589 rfl rfl
set_option maxRecDepth 100000 in
theorem w590 : Jvm.Cond.methodLink "HybridTrackLaw" (87 : Nat) ({ cls := "HybridTrackModel", name := "lose", desc := "(II)I" } : Jvm.MethodName) ∈ ht_tb := ht_wt 590 rfl rfl
set_option maxRecDepth 100000 in
theorem w591 : Jvm.Cond.instanceMethod ({ cls := "HybridTrackModel", name := "lose", desc := "(II)I" } : Jvm.MethodName) ∈ ht_tb := ht_wt 591 rfl rfl
set_option maxRecDepth 100000 in
theorem w592 : Jvm.Cond.selects "HybridTrackModel" ({ cls := "HybridTrackModel", name := "lose", desc := "(II)I" } : Jvm.MethodName) ({ cls := "HybridTrackModel", name := "lose", desc := "(II)I" } : Jvm.MethodName) ∈ ht_tb := ht_wt 592 rfl rfl
set_option maxRecDepth 100000 in
theorem w593 : Jvm.Cond.code ({ cls := "HybridTrackModel", name := "lose", desc := "(II)I" } : Jvm.MethodName) prog_4_method_24_code (4 : Nat) (Option.some Jvm.ClassFile.FieldType.int) ∈ ht_tb := ht_wt 593 rfl rfl
set_option maxRecDepth 100000 in
theorem w594 : Jvm.Cond.methodLink "HybridTrackLaw" (90 : Nat) ({ cls := "HybridTrackModel", name := "confirm", desc := "(I)I" } : Jvm.MethodName) ∈ ht_tb := ht_wt 594 rfl rfl
set_option maxRecDepth 100000 in
theorem w595 : Jvm.Cond.instanceMethod ({ cls := "HybridTrackModel", name := "confirm", desc := "(I)I" } : Jvm.MethodName) ∈ ht_tb := ht_wt 595 rfl rfl
set_option maxRecDepth 100000 in
theorem w596 : Jvm.Cond.selects "HybridTrackModel" ({ cls := "HybridTrackModel", name := "confirm", desc := "(I)I" } : Jvm.MethodName) ({ cls := "HybridTrackModel", name := "confirm", desc := "(I)I" } : Jvm.MethodName) ∈ ht_tb := ht_wt 596 rfl rfl
set_option maxRecDepth 100000 in
theorem w597 : Jvm.Cond.code ({ cls := "HybridTrackModel", name := "confirm", desc := "(I)I" } : Jvm.MethodName) prog_4_method_25_code (2 : Nat) (Option.some Jvm.ClassFile.FieldType.int) ∈ ht_tb := ht_wt 597 rfl rfl
set_option maxRecDepth 100000 in
theorem w598 : Jvm.Cond.methodLink "HybridTrackLaw" (93 : Nat) ({ cls := "HybridTrackModel", name := "clear", desc := "(I)I" } : Jvm.MethodName) ∈ ht_tb := ht_wt 598 rfl rfl
set_option maxRecDepth 100000 in
theorem w599 : Jvm.Cond.instanceMethod ({ cls := "HybridTrackModel", name := "clear", desc := "(I)I" } : Jvm.MethodName) ∈ ht_tb := ht_wt 599 rfl rfl
set_option maxRecDepth 100000 in
theorem w600 : Jvm.Cond.selects "HybridTrackModel" ({ cls := "HybridTrackModel", name := "clear", desc := "(I)I" } : Jvm.MethodName) ({ cls := "HybridTrackModel", name := "clear", desc := "(I)I" } : Jvm.MethodName) ∈ ht_tb := ht_wt 600 rfl rfl
set_option maxRecDepth 100000 in
theorem w601 : Jvm.Cond.code ({ cls := "HybridTrackModel", name := "clear", desc := "(I)I" } : Jvm.MethodName) prog_4_method_26_code (2 : Nat) (Option.some Jvm.ClassFile.FieldType.int) ∈ ht_tb := ht_wt 601 rfl rfl
set_option maxRecDepth 100000 in
theorem w602 : Jvm.Cond.methodLink "HybridTrackLaw" (96 : Nat) ({ cls := "HybridTrackModel", name := "tick", desc := "(I)I" } : Jvm.MethodName) ∈ ht_tb := ht_wt 602 rfl rfl
set_option maxRecDepth 100000 in
theorem w603 : Jvm.Cond.instanceMethod ({ cls := "HybridTrackModel", name := "tick", desc := "(I)I" } : Jvm.MethodName) ∈ ht_tb := ht_wt 603 rfl rfl
set_option maxRecDepth 100000 in
theorem w604 : Jvm.Cond.selects "HybridTrackModel" ({ cls := "HybridTrackModel", name := "tick", desc := "(I)I" } : Jvm.MethodName) ({ cls := "HybridTrackModel", name := "tick", desc := "(I)I" } : Jvm.MethodName) ∈ ht_tb := ht_wt 604 rfl rfl
set_option maxRecDepth 100000 in
theorem w605 : Jvm.Cond.code ({ cls := "HybridTrackModel", name := "tick", desc := "(I)I" } : Jvm.MethodName) prog_4_method_28_code (3 : Nat) (Option.some Jvm.ClassFile.FieldType.int) ∈ ht_tb := ht_wt 605 rfl rfl
set_option maxRecDepth 100000 in
theorem w606 : Jvm.Cond.methodLink "HybridTrackModel" (123 : Nat) ({ cls := "HybridTrackModel", name := "tickOnce", desc := "()V" } : Jvm.MethodName) ∈ ht_tb := ht_wt 606 rfl rfl
set_option maxRecDepth 100000 in
theorem w608 : Jvm.Cond.instanceMethod ({ cls := "HybridTrackModel", name := "tickOnce", desc := "()V" } : Jvm.MethodName) ∈ ht_tb := ht_wt 608 rfl rfl
set_option maxRecDepth 100000 in
theorem w609 : Jvm.Cond.code ({ cls := "HybridTrackModel", name := "tickOnce", desc := "()V" } : Jvm.MethodName) prog_4_method_27_code (3 : Nat) (Option.none : Option Jvm.ClassFile.FieldType) ∈ ht_tb := ht_wt 609 rfl rfl
set_option maxRecDepth 100000 in
theorem w610 : Jvm.Cond.methodLink "HybridTrackModel" (126 : Nat) ({ cls := "HybridTrackModel", name := "countStates", desc := "(I)I" } : Jvm.MethodName) ∈ ht_tb := ht_wt 610 rfl rfl
set_option maxRecDepth 100000 in
theorem w612 : Jvm.Cond.instanceMethod ({ cls := "HybridTrackModel", name := "countStates", desc := "(I)I" } : Jvm.MethodName) ∈ ht_tb := ht_wt 612 rfl rfl
set_option maxRecDepth 100000 in
theorem w613 : Jvm.Cond.code ({ cls := "HybridTrackModel", name := "countStates", desc := "(I)I" } : Jvm.MethodName) prog_4_method_32_code (4 : Nat) (Option.some Jvm.ClassFile.FieldType.int) ∈ ht_tb := ht_wt 613 rfl rfl
set_option maxRecDepth 100000 in
theorem w614 : Jvm.Cond.methodLink "HybridTrackLaw" (99 : Nat) ({ cls := "HybridTrackModel", name := "state", desc := "(I)I" } : Jvm.MethodName) ∈ ht_tb := ht_wt 614 rfl rfl
set_option maxRecDepth 100000 in
theorem w615 : Jvm.Cond.instanceMethod ({ cls := "HybridTrackModel", name := "state", desc := "(I)I" } : Jvm.MethodName) ∈ ht_tb := ht_wt 615 rfl rfl
set_option maxRecDepth 100000 in
theorem w616 : Jvm.Cond.selects "HybridTrackModel" ({ cls := "HybridTrackModel", name := "state", desc := "(I)I" } : Jvm.MethodName) ({ cls := "HybridTrackModel", name := "state", desc := "(I)I" } : Jvm.MethodName) ∈ ht_tb := ht_wt 616 rfl rfl
set_option maxRecDepth 100000 in
theorem w617 : Jvm.Cond.code ({ cls := "HybridTrackModel", name := "state", desc := "(I)I" } : Jvm.MethodName) prog_4_method_29_code (2 : Nat) (Option.some Jvm.ClassFile.FieldType.int) ∈ ht_tb := ht_wt 617 rfl rfl
set_option maxRecDepth 100000 in
theorem w618 : Jvm.Cond.methodLink "HybridTrackLaw" (102 : Nat) ({ cls := "HybridTrackModel", name := "detected", desc := "(I)I" } : Jvm.MethodName) ∈ ht_tb := ht_wt 618 rfl rfl
set_option maxRecDepth 100000 in
theorem w619 : Jvm.Cond.instanceMethod ({ cls := "HybridTrackModel", name := "detected", desc := "(I)I" } : Jvm.MethodName) ∈ ht_tb := ht_wt 619 rfl rfl
set_option maxRecDepth 100000 in
theorem w620 : Jvm.Cond.selects "HybridTrackModel" ({ cls := "HybridTrackModel", name := "detected", desc := "(I)I" } : Jvm.MethodName) ({ cls := "HybridTrackModel", name := "detected", desc := "(I)I" } : Jvm.MethodName) ∈ ht_tb := ht_wt 620 rfl rfl
set_option maxRecDepth 100000 in
theorem w621 : Jvm.Cond.code ({ cls := "HybridTrackModel", name := "detected", desc := "(I)I" } : Jvm.MethodName) prog_4_method_30_code (2 : Nat) (Option.some Jvm.ClassFile.FieldType.int) ∈ ht_tb := ht_wt 621 rfl rfl
set_option maxRecDepth 100000 in
theorem w622 : Jvm.Cond.methodLink "HybridTrackLaw" (105 : Nat) ({ cls := "HybridTrackModel", name := "vehicle", desc := "(II)I" } : Jvm.MethodName) ∈ ht_tb := ht_wt 622 rfl rfl
set_option maxRecDepth 100000 in
theorem w623 : Jvm.Cond.instanceMethod ({ cls := "HybridTrackModel", name := "vehicle", desc := "(II)I" } : Jvm.MethodName) ∈ ht_tb := ht_wt 623 rfl rfl
set_option maxRecDepth 100000 in
theorem w624 : Jvm.Cond.selects "HybridTrackModel" ({ cls := "HybridTrackModel", name := "vehicle", desc := "(II)I" } : Jvm.MethodName) ({ cls := "HybridTrackModel", name := "vehicle", desc := "(II)I" } : Jvm.MethodName) ∈ ht_tb := ht_wt 624 rfl rfl
set_option maxRecDepth 100000 in
theorem w625 : Jvm.Cond.code ({ cls := "HybridTrackModel", name := "vehicle", desc := "(II)I" } : Jvm.MethodName) prog_4_method_31_code (3 : Nat) (Option.some Jvm.ClassFile.FieldType.int) ∈ ht_tb := ht_wt 625 rfl rfl
set_option maxRecDepth 100000 in
theorem w626 : Jvm.Cond.methodLink "HybridTrackLaw" (108 : Nat) ({ cls := "HybridTrackModel", name := "count", desc := "(I)I" } : Jvm.MethodName) ∈ ht_tb := ht_wt 626 rfl rfl
set_option maxRecDepth 100000 in
theorem w627 : Jvm.Cond.instanceMethod ({ cls := "HybridTrackModel", name := "count", desc := "(I)I" } : Jvm.MethodName) ∈ ht_tb := ht_wt 627 rfl rfl
set_option maxRecDepth 100000 in
theorem w628 : Jvm.Cond.selects "HybridTrackModel" ({ cls := "HybridTrackModel", name := "count", desc := "(I)I" } : Jvm.MethodName) ({ cls := "HybridTrackModel", name := "count", desc := "(I)I" } : Jvm.MethodName) ∈ ht_tb := ht_wt 628 rfl rfl
set_option maxRecDepth 100000 in
theorem w629 : Jvm.Cond.code ({ cls := "HybridTrackModel", name := "count", desc := "(I)I" } : Jvm.MethodName) prog_4_method_34_code (4 : Nat) (Option.some Jvm.ClassFile.FieldType.int) ∈ ht_tb := ht_wt 629 rfl rfl
set_option maxRecDepth 100000 in
theorem w630 : Jvm.Cond.methodLink "HybridTrackModel" (129 : Nat) ({ cls := "HybridTrackModel", name := "stood", desc := "(I)Z" } : Jvm.MethodName) ∈ ht_tb := ht_wt 630 rfl rfl
set_option maxRecDepth 100000 in
theorem w632 : Jvm.Cond.instanceMethod ({ cls := "HybridTrackModel", name := "stood", desc := "(I)Z" } : Jvm.MethodName) ∈ ht_tb := ht_wt 632 rfl rfl
set_option maxRecDepth 100000 in
theorem w633 : Jvm.Cond.code ({ cls := "HybridTrackModel", name := "stood", desc := "(I)Z" } : Jvm.MethodName) prog_4_method_33_code (3 : Nat) (Option.some Jvm.ClassFile.FieldType.boolean) ∈ ht_tb := ht_wt 633 rfl rfl
set_option maxRecDepth 100000 in
theorem w634 : Jvm.Cond.arrayClass Jvm.ClassFile.FieldType.long ∈ ht_tb := ht_wt 634 rfl rfl
theorem s0 : Jvm.Cond.selects "java/lang/Throwable" ⟨"java/lang/Throwable", "fillInStackTrace", "(I)Ljava/lang/Throwable;"⟩ ⟨"java/lang/Throwable", "fillInStackTrace", "(I)Ljava/lang/Throwable;"⟩ ∈ ht_tb := ht_wp 0 rfl rfl
theorem s1 : Jvm.Cond.selects "HybridTrack" ⟨"HybridTrack", "isStoodOn", "(II)Z"⟩ ⟨"HybridTrack", "isStoodOn", "(II)Z"⟩ ∈ ht_tb := ht_wp 1 rfl rfl
theorem s2 : Jvm.Cond.selects "HybridTrack$Vehicle" ⟨"HybridTrack$Vehicle", "standsWithin", "(II)Z"⟩ ⟨"HybridTrack$Vehicle", "standsWithin", "(II)Z"⟩ ∈ ht_tb := ht_wp 2 rfl rfl
theorem s3 : Jvm.Cond.selects "HybridTrack$Vehicle" ⟨"HybridTrack$Vehicle", "lastPlace", "()I"⟩ ⟨"HybridTrack$Vehicle", "lastPlace", "()I"⟩ ∈ ht_tb := ht_wp 3 rfl rfl
theorem s4 : Jvm.Cond.selects "HybridTrack" ⟨"HybridTrack", "isAnyClaimed", "(III)Z"⟩ ⟨"HybridTrack", "isAnyClaimed", "(III)Z"⟩ ∈ ht_tb := ht_wp 4 rfl rfl
theorem s5 : Jvm.Cond.selects "HybridTrack$Vehicle" ⟨"HybridTrack$Vehicle", "claimsWithin", "(II)Z"⟩ ⟨"HybridTrack$Vehicle", "claimsWithin", "(II)Z"⟩ ∈ ht_tb := ht_wp 5 rfl rfl
theorem s6 : Jvm.Cond.selects "HybridTrack$Vehicle" ⟨"HybridTrack$Vehicle", "becomeTrain", "(II)V"⟩ ⟨"HybridTrack$Vehicle", "becomeTrain", "(II)V"⟩ ∈ ht_tb := ht_wp 6 rfl rfl
theorem s7 : Jvm.Cond.selects "HybridTrack$Vehicle" ⟨"HybridTrack$Vehicle", "sendReport", "()V"⟩ ⟨"HybridTrack$Vehicle", "sendReport", "()V"⟩ ∈ ht_tb := ht_wp 7 rfl rfl
theorem s8 : Jvm.Cond.selects "HybridTrack" ⟨"HybridTrack", "findStates", "()V"⟩ ⟨"HybridTrack", "findStates", "()V"⟩ ∈ ht_tb := ht_wp 8 rfl rfl
theorem s9 : Jvm.Cond.selects "HybridTrack" ⟨"HybridTrack", "locateTrains", "()V"⟩ ⟨"HybridTrack", "locateTrains", "()V"⟩ ∈ ht_tb := ht_wp 9 rfl rfl
theorem s10 : Jvm.Cond.selects "HybridTrack$Vehicle" ⟨"HybridTrack$Vehicle", "isLocatedOn", "(I)Z"⟩ ⟨"HybridTrack$Vehicle", "isLocatedOn", "(I)Z"⟩ ∈ ht_tb := ht_wp 10 rfl rfl
theorem s11 : Jvm.Cond.selects "HybridTrack$Vehicle" ⟨"HybridTrack$Vehicle", "isMute", "()Z"⟩ ⟨"HybridTrack$Vehicle", "isMute", "()Z"⟩ ∈ ht_tb := ht_wp 11 rfl rfl
theorem s12 : Jvm.Cond.selects "HybridTrack" ⟨"HybridTrack", "stateByReports", "(I)I"⟩ ⟨"HybridTrack", "stateByReports", "(I)I"⟩ ∈ ht_tb := ht_wp 12 rfl rfl
theorem s13 : Jvm.Cond.selects "HybridTrack" ⟨"HybridTrack", "isDetectedOccupied", "(I)Z"⟩ ⟨"HybridTrack", "isDetectedOccupied", "(I)Z"⟩ ∈ ht_tb := ht_wp 13 rfl rfl
theorem s14 : Jvm.Cond.selects "HybridTrack" ⟨"HybridTrack", "stateUnderTrains", "(I)I"⟩ ⟨"HybridTrack", "stateUnderTrains", "(I)I"⟩ ∈ ht_tb := ht_wp 14 rfl rfl
theorem s15 : Jvm.Cond.selects "HybridTrack" ⟨"HybridTrack", "staysFree", "(I)Z"⟩ ⟨"HybridTrack", "staysFree", "(I)Z"⟩ ∈ ht_tb := ht_wp 15 rfl rfl
theorem s16 : Jvm.Cond.selects "HybridTrack" ⟨"HybridTrack", "isAnyTrainLocated", "(II)Z"⟩ ⟨"HybridTrack", "isAnyTrainLocated", "(II)Z"⟩ ∈ ht_tb := ht_wp 16 rfl rfl
theorem s17 : Jvm.Cond.selects "HybridTrack" ⟨"HybridTrack", "isAnyClaimedByMute", "(II)Z"⟩ ⟨"HybridTrack", "isAnyClaimedByMute", "(II)Z"⟩ ∈ ht_tb := ht_wp 17 rfl rfl
theorem s18 : Jvm.Cond.selects "HybridTrack" ⟨"HybridTrack", "wasLeftByBrokenTrain", "(I)Z"⟩ ⟨"HybridTrack", "wasLeftByBrokenTrain", "(I)Z"⟩ ∈ ht_tb := ht_wp 18 rfl rfl
theorem s19 : Jvm.Cond.selects "HybridTrack$Vehicle" ⟨"HybridTrack$Vehicle", "hasLeft", "(I)Z"⟩ ⟨"HybridTrack$Vehicle", "hasLeft", "(I)Z"⟩ ∈ ht_tb := ht_wp 19 rfl rfl
theorem s20 : Jvm.Cond.selects "HybridTrack" ⟨"HybridTrack", "wasLeftByWholeTrain", "(I)Z"⟩ ⟨"HybridTrack", "wasLeftByWholeTrain", "(I)Z"⟩ ∈ ht_tb := ht_wp 20 rfl rfl
theorem s21 : Jvm.Cond.selects "HybridTrack" ⟨"HybridTrack", "existingTrain", "(I)LHybridTrack$Vehicle;"⟩ ⟨"HybridTrack", "existingTrain", "(I)LHybridTrack$Vehicle;"⟩ ∈ ht_tb := ht_wp 21 rfl rfl
theorem s22 : Jvm.Cond.selects "HybridTrack" ⟨"HybridTrack", "isOnTrack", "(I)Z"⟩ ⟨"HybridTrack", "isOnTrack", "(I)Z"⟩ ∈ ht_tb := ht_wp 22 rfl rfl
theorem s23 : Jvm.Cond.selects "HybridTrack" ⟨"HybridTrack", "farthestFreeFrom", "(II)I"⟩ ⟨"HybridTrack", "farthestFreeFrom", "(II)I"⟩ ∈ ht_tb := ht_wp 23 rfl rfl
theorem s24 : Jvm.Cond.selects "HybridTrack$Vehicle" ⟨"HybridTrack$Vehicle", "becomeWagon", "(II)V"⟩ ⟨"HybridTrack$Vehicle", "becomeWagon", "(II)V"⟩ ∈ ht_tb := ht_wp 24 rfl rfl
theorem s25 : Jvm.Cond.selects "HybridTrack" ⟨"HybridTrack", "makeTick", "()V"⟩ ⟨"HybridTrack", "makeTick", "()V"⟩ ∈ ht_tb := ht_wp 25 rfl rfl
theorem s26 : Jvm.Cond.selects "HybridTrack" ⟨"HybridTrack", "goForward", "(LHybridTrack$Vehicle;)V"⟩ ⟨"HybridTrack", "goForward", "(LHybridTrack$Vehicle;)V"⟩ ∈ ht_tb := ht_wp 26 rfl rfl
theorem s27 : Jvm.Cond.selects "HybridTrack$Vehicle" ⟨"HybridTrack$Vehicle", "reportOrAge", "()V"⟩ ⟨"HybridTrack$Vehicle", "reportOrAge", "()V"⟩ ∈ ht_tb := ht_wp 27 rfl rfl
theorem s28 : Jvm.Cond.selects "HybridTrack" ⟨"HybridTrack", "sectionsInState", "(I)I"⟩ ⟨"HybridTrack", "sectionsInState", "(I)I"⟩ ∈ ht_tb := ht_wp 28 rfl rfl
theorem s29 : Jvm.Cond.selects "HybridTrack" ⟨"HybridTrack", "trainsThatCame", "()I"⟩ ⟨"HybridTrack", "trainsThatCame", "()I"⟩ ∈ ht_tb := ht_wp 29 rfl rfl
theorem s30 : Jvm.Cond.selects "HybridTrack" ⟨"HybridTrack", "sectionsWronglyFree", "()I"⟩ ⟨"HybridTrack", "sectionsWronglyFree", "()I"⟩ ∈ ht_tb := ht_wp 30 rfl rfl
theorem s31 : Jvm.Cond.selects "HybridTrack" ⟨"HybridTrack", "isSectionStoodOn", "(I)Z"⟩ ⟨"HybridTrack", "isSectionStoodOn", "(I)Z"⟩ ∈ ht_tb := ht_wp 31 rfl rfl
theorem s32 : Jvm.Cond.selects "HybridTrackModel" ⟨"HybridTrackModel", "raise", "(I)I"⟩ ⟨"HybridTrackModel", "raise", "(I)I"⟩ ∈ ht_tb := ht_wp 32 rfl rfl
theorem s33 : Jvm.Cond.selects "HybridTrackModel" ⟨"HybridTrackModel", "standsOn", "(II)I"⟩ ⟨"HybridTrackModel", "standsOn", "(II)I"⟩ ∈ ht_tb := ht_wp 33 rfl rfl
theorem s34 : Jvm.Cond.selects "HybridTrackModel" ⟨"HybridTrackModel", "last", "(I)I"⟩ ⟨"HybridTrackModel", "last", "(I)I"⟩ ∈ ht_tb := ht_wp 34 rfl rfl
theorem s35 : Jvm.Cond.selects "HybridTrackModel" ⟨"HybridTrackModel", "claimed", "(II)Z"⟩ ⟨"HybridTrackModel", "claimed", "(II)Z"⟩ ∈ ht_tb := ht_wp 35 rfl rfl
theorem s36 : Jvm.Cond.selects "HybridTrackModel" ⟨"HybridTrackModel", "claims", "(II)Z"⟩ ⟨"HybridTrackModel", "claims", "(II)Z"⟩ ∈ ht_tb := ht_wp 36 rfl rfl
theorem s37 : Jvm.Cond.selects "HybridTrackModel" ⟨"HybridTrackModel", "report", "(I)V"⟩ ⟨"HybridTrackModel", "report", "(I)V"⟩ ∈ ht_tb := ht_wp 37 rfl rfl
theorem s38 : Jvm.Cond.selects "HybridTrackModel" ⟨"HybridTrackModel", "findStates", "()V"⟩ ⟨"HybridTrackModel", "findStates", "()V"⟩ ∈ ht_tb := ht_wp 38 rfl rfl
theorem s39 : Jvm.Cond.selects "HybridTrackModel" ⟨"HybridTrackModel", "found", "(I)I"⟩ ⟨"HybridTrackModel", "found", "(I)I"⟩ ∈ ht_tb := ht_wp 39 rfl rfl
theorem s40 : Jvm.Cond.selects "HybridTrackModel" ⟨"HybridTrackModel", "occupied", "(I)Z"⟩ ⟨"HybridTrackModel", "occupied", "(I)Z"⟩ ∈ ht_tb := ht_wp 40 rfl rfl
theorem s41 : Jvm.Cond.selects "HybridTrackModel" ⟨"HybridTrackModel", "many", "(I)I"⟩ ⟨"HybridTrackModel", "many", "(I)I"⟩ ∈ ht_tb := ht_wp 41 rfl rfl
theorem s42 : Jvm.Cond.selects "HybridTrackModel" ⟨"HybridTrackModel", "located", "(II)Z"⟩ ⟨"HybridTrackModel", "located", "(II)Z"⟩ ∈ ht_tb := ht_wp 42 rfl rfl
theorem s43 : Jvm.Cond.selects "HybridTrackModel" ⟨"HybridTrackModel", "mute", "(I)Z"⟩ ⟨"HybridTrackModel", "mute", "(I)Z"⟩ ∈ ht_tb := ht_wp 43 rfl rfl
theorem s44 : Jvm.Cond.selects "HybridTrackModel" ⟨"HybridTrackModel", "accounted", "(I)Z"⟩ ⟨"HybridTrackModel", "accounted", "(I)Z"⟩ ∈ ht_tb := ht_wp 44 rfl rfl
theorem s45 : Jvm.Cond.selects "HybridTrackModel" ⟨"HybridTrackModel", "left", "(I)Z"⟩ ⟨"HybridTrackModel", "left", "(I)Z"⟩ ∈ ht_tb := ht_wp 45 rfl rfl
theorem s46 : Jvm.Cond.selects "HybridTrackModel" ⟨"HybridTrackModel", "isTrain", "(I)Z"⟩ ⟨"HybridTrackModel", "isTrain", "(I)Z"⟩ ∈ ht_tb := ht_wp 46 rfl rfl
theorem s47 : Jvm.Cond.selects "HybridTrackModel" ⟨"HybridTrackModel", "tickOnce", "()V"⟩ ⟨"HybridTrackModel", "tickOnce", "()V"⟩ ∈ ht_tb := ht_wp 47 rfl rfl
theorem s48 : Jvm.Cond.selects "HybridTrackModel" ⟨"HybridTrackModel", "countStates", "(I)I"⟩ ⟨"HybridTrackModel", "countStates", "(I)I"⟩ ∈ ht_tb := ht_wp 48 rfl rfl
theorem s49 : Jvm.Cond.selects "HybridTrackModel" ⟨"HybridTrackModel", "stood", "(I)Z"⟩ ⟨"HybridTrackModel", "stood", "(I)Z"⟩ ∈ ht_tb := ht_wp 49 rfl rfl
end
section
abbrev RV : String := "HybridTrack$Vehicle"
abbrev RH : String := "HybridTrack"
abbrev RM : String := "HybridTrackModel"
abbrev RW : String := "HybridTrackLaw"
def TV : u_T := fun k => match k with
  | 0 => ("HybridTrack$Vehicle", "isTrain", "Z", false)
  | 1 => ("HybridTrack$Vehicle", "onTrack", "Z", false)
  | 2 => ("HybridTrack$Vehicle", "front", "I", false)
  | 3 => ("HybridTrack$Vehicle", "length", "I", false)
  | 4 => ("HybridTrack$Vehicle", "speed", "I", false)
  | 5 => ("HybridTrack$Vehicle", "end", "I", false)
  | 6 => ("HybridTrack$Vehicle", "silent", "Z", false)
  | 7 => ("HybridTrack$Vehicle", "whole", "Z", false)
  | 8 => ("HybridTrack$Vehicle", "age", "I", false)
  | 9 => ("HybridTrack$Vehicle", "reportedFront", "I", false)
  | 10 => ("HybridTrack$Vehicle", "reportedWhole", "Z", false)
  | 11 => ("HybridTrack$Vehicle", "tailSection", "I", false)
  | _ => ("HybridTrack$Vehicle", "tailSectionBefore", "I", false)
def tyV : Nat → FieldType := fun k => match k with
  | 0 => .boolean
  | 1 => .boolean
  | 2 => .int
  | 3 => .int
  | 4 => .int
  | 5 => .int
  | 6 => .boolean
  | 7 => .boolean
  | 8 => .int
  | 9 => .int
  | 10 => .boolean
  | 11 => .int
  | _ => .int
theorem nmV : ∀ a, a < 13 → ∀ b, b < 13 → a ≠ b → (TV a).2.1 ≠ (TV b).2.1 := by decide +kernel
theorem tyV_ok : ∀ k, k < 13 → parseFieldDescriptor (TV k).2.2.1 = some (tyV k) := by decide +kernel
set_option maxRecDepth 100000 in
theorem inV : ∀ w ∈ u_ws RV TV 13, w ∈ ht_tb := by decide +kernel
def TH : u_T := fun k => match k with
  | 0 => ("HybridTrack", "vehicles", "[LHybridTrack$Vehicle;", true)
  | 1 => ("HybridTrack", "came", "I", false)
  | 2 => ("HybridTrack", "ticksMade", "I", false)
  | 3 => ("HybridTrack", "states", "[I", true)
  | 4 => ("HybridTrack", "locatedTrains", "[I", true)
  | 5 => ("HybridTrack", "loneTrain", "[I", true)
  | _ => ("HybridTrack", "loneTrainBefore", "[I", true)
def tyH : Nat → FieldType := fun k => match k with
  | 0 => .array (.object "HybridTrack$Vehicle")
  | 1 => .int
  | 2 => .int
  | 3 => .array .int
  | 4 => .array .int
  | 5 => .array .int
  | _ => .array .int
theorem nmH : ∀ a, a < 7 → ∀ b, b < 7 → a ≠ b → (TH a).2.1 ≠ (TH b).2.1 := by decide +kernel
theorem tyH_ok : ∀ k, k < 7 → parseFieldDescriptor (TH k).2.2.1 = some (tyH k) := by decide +kernel
set_option maxRecDepth 100000 in
theorem inH : ∀ w ∈ u_ws RH TH 7, w ∈ ht_tb := by decide +kernel
def TM : u_T := fun k => match k with
  | 0 => ("HybridTrackModel", "thrown", "I", false)
  | 1 => ("HybridTrackModel", "train", "[Z", true)
  | 2 => ("HybridTrackModel", "there", "[Z", true)
  | 3 => ("HybridTrackModel", "front", "[I", true)
  | 4 => ("HybridTrackModel", "length", "[I", true)
  | 5 => ("HybridTrackModel", "speed", "[I", true)
  | 6 => ("HybridTrackModel", "end", "[I", true)
  | 7 => ("HybridTrackModel", "silent", "[Z", true)
  | 8 => ("HybridTrackModel", "whole", "[Z", true)
  | 9 => ("HybridTrackModel", "told", "[I", true)
  | 10 => ("HybridTrackModel", "toldLast", "[I", true)
  | 11 => ("HybridTrackModel", "toldWhole", "[Z", true)
  | 12 => ("HybridTrackModel", "age", "[I", true)
  | 13 => ("HybridTrackModel", "before", "[I", true)
  | 14 => ("HybridTrackModel", "came", "I", false)
  | 15 => ("HybridTrackModel", "states", "[I", true)
  | 16 => ("HybridTrackModel", "next", "[I", true)
  | 17 => ("HybridTrackModel", "alone", "[I", true)
  | _ => ("HybridTrackModel", "ticks", "I", false)
def tyM : Nat → FieldType := fun k => match k with
  | 0 => .int
  | 1 => .array .boolean
  | 2 => .array .boolean
  | 3 => .array .int
  | 4 => .array .int
  | 5 => .array .int
  | 6 => .array .int
  | 7 => .array .boolean
  | 8 => .array .boolean
  | 9 => .array .int
  | 10 => .array .int
  | 11 => .array .boolean
  | 12 => .array .int
  | 13 => .array .int
  | 14 => .int
  | 15 => .array .int
  | 16 => .array .int
  | 17 => .array .int
  | _ => .int
theorem nmM : ∀ a, a < 19 → ∀ b, b < 19 → a ≠ b → (TM a).2.1 ≠ (TM b).2.1 := by decide +kernel
theorem tyM_ok : ∀ k, k < 19 → parseFieldDescriptor (TM k).2.2.1 = some (tyM k) := by decide +kernel
set_option maxRecDepth 100000 in
theorem inM : ∀ w ∈ u_ws RM TM 19, w ∈ ht_tb := by decide +kernel
abbrev ht_cl : List vw_C := [(RV, TV, 13), (RH, TH, 7), (RM, TM, 19)]
abbrev kH_init : List Cond := Cond.code yH_init cH_init 2 none :: ht_tb
abbrev kH_enter : List Cond := Cond.code yH_enter cH_enter 4 (some .int) :: ht_tb
abbrev kH_drive : List Cond := Cond.code yH_drive cH_drive 5 (some .int) :: ht_tb
abbrev kH_silence : List Cond := Cond.code yH_silence cH_silence 5 (some .int) :: ht_tb
abbrev kH_authorise : List Cond := Cond.code yH_authorise cH_authorise 6 (some .int) :: ht_tb
abbrev kH_relent : List Cond := Cond.code yH_relent cH_relent 4 (some .int) :: ht_tb
abbrev kH_lose : List Cond := Cond.code yH_lose cH_lose 4 (some .int) :: ht_tb
abbrev kH_confirm : List Cond := Cond.code yH_confirm cH_confirm 3 (some .int) :: ht_tb
abbrev kH_clear : List Cond := Cond.code yH_clear cH_clear 2 (some .int) :: ht_tb
abbrev kH_tick : List Cond := Cond.code yH_tick cH_tick 3 (some .int) :: ht_tb
abbrev kH_state : List Cond := Cond.code yH_state cH_state 2 (some .int) :: ht_tb
abbrev kH_detected : List Cond := Cond.code yH_detected cH_detected 2 (some .int) :: ht_tb
abbrev kH_vehicle : List Cond := Cond.code yH_vehicle cH_vehicle 4 (some .int) :: ht_tb
abbrev kH_count : List Cond := Cond.code yH_count cH_count 2 (some .int) :: ht_tb
abbrev kH_sectionOf : List Cond := Cond.code yH_sectionOf cH_sectionOf 1 (some .int) :: ht_tb
abbrev kH_isOnTrack : List Cond := Cond.code yH_isOnTrack cH_isOnTrack 2 (some .boolean) :: ht_tb
abbrev kH_existingTrain : List Cond := Cond.code yH_existingTrain cH_existingTrain 2 (some (.object "HybridTrack$Vehicle")) :: ht_tb
abbrev kH_isStoodOn : List Cond := Cond.code yH_isStoodOn cH_isStoodOn 4 (some .boolean) :: ht_tb
abbrev kH_isDetectedOccupied : List Cond := Cond.code yH_isDetectedOccupied cH_isDetectedOccupied 3 (some .boolean) :: ht_tb
abbrev kH_isSectionStoodOn : List Cond := Cond.code yH_isSectionStoodOn cH_isSectionStoodOn 3 (some .boolean) :: ht_tb
abbrev kH_isAnyClaimed : List Cond := Cond.code yH_isAnyClaimed cH_isAnyClaimed 5 (some .boolean) :: ht_tb
abbrev kH_isAnyClaimedByMute : List Cond := Cond.code yH_isAnyClaimedByMute cH_isAnyClaimedByMute 4 (some .boolean) :: ht_tb
abbrev kH_farthestFreeFrom : List Cond := Cond.code yH_farthestFreeFrom cH_farthestFreeFrom 5 (some .int) :: ht_tb
abbrev kH_trainsThatCame : List Cond := Cond.code yH_trainsThatCame cH_trainsThatCame 3 (some .int) :: ht_tb
abbrev kH_sectionsInState : List Cond := Cond.code yH_sectionsInState cH_sectionsInState 4 (some .int) :: ht_tb
abbrev kH_sectionsWronglyFree : List Cond := Cond.code yH_sectionsWronglyFree cH_sectionsWronglyFree 3 (some .int) :: ht_tb
abbrev kH_makeTick : List Cond := Cond.code yH_makeTick cH_makeTick 2 none :: ht_tb
abbrev kH_goForward : List Cond := Cond.code yH_goForward cH_goForward 4 none :: ht_tb
abbrev kH_findStates : List Cond := Cond.code yH_findStates cH_findStates 2 none :: ht_tb
abbrev kH_locateTrains : List Cond := Cond.code yH_locateTrains cH_locateTrains 3 none :: ht_tb
abbrev kH_stateByReports : List Cond := Cond.code yH_stateByReports cH_stateByReports 2 (some .int) :: ht_tb
abbrev kH_stateUnderTrains : List Cond := Cond.code yH_stateUnderTrains cH_stateUnderTrains 5 (some .int) :: ht_tb
abbrev kH_staysFree : List Cond := Cond.code yH_staysFree cH_staysFree 5 (some .boolean) :: ht_tb
abbrev kH_isAnyTrainLocated : List Cond := Cond.code yH_isAnyTrainLocated cH_isAnyTrainLocated 4 (some .boolean) :: ht_tb
abbrev kH_wasLeftByBrokenTrain : List Cond := Cond.code yH_wasLeftByBrokenTrain cH_wasLeftByBrokenTrain 4 (some .boolean) :: ht_tb
abbrev kH_wasLeftByWholeTrain : List Cond := Cond.code yH_wasLeftByWholeTrain cH_wasLeftByWholeTrain 3 (some .boolean) :: ht_tb
abbrev kM_init : List Cond := Cond.code yM_init cM_init 2 none :: ht_tb
abbrev kM_thrown : List Cond := Cond.code yM_thrown cM_thrown 1 (some .int) :: ht_tb
abbrev kM_raise : List Cond := Cond.code yM_raise cM_raise 2 (some .int) :: ht_tb
abbrev kM_in : List Cond := Cond.code yM_in cM_in 3 (some .boolean) :: ht_tb
abbrev kM_isTrain : List Cond := Cond.code yM_isTrain cM_isTrain 2 (some .boolean) :: ht_tb
abbrev kM_last : List Cond := Cond.code yM_last cM_last 2 (some .int) :: ht_tb
abbrev kM_standsOn : List Cond := Cond.code yM_standsOn cM_standsOn 4 (some .int) :: ht_tb
abbrev kM_occupied : List Cond := Cond.code yM_occupied cM_occupied 3 (some .boolean) :: ht_tb
abbrev kM_mute : List Cond := Cond.code yM_mute cM_mute 2 (some .boolean) :: ht_tb
abbrev kM_located : List Cond := Cond.code yM_located cM_located 3 (some .boolean) :: ht_tb
abbrev kM_claims : List Cond := Cond.code yM_claims cM_claims 3 (some .boolean) :: ht_tb
abbrev kM_claimed : List Cond := Cond.code yM_claimed cM_claimed 4 (some .boolean) :: ht_tb
abbrev kM_left : List Cond := Cond.code yM_left cM_left 3 (some .boolean) :: ht_tb
abbrev kM_accounted : List Cond := Cond.code yM_accounted cM_accounted 4 (some .boolean) :: ht_tb
abbrev kM_many : List Cond := Cond.code yM_many cM_many 5 (some .int) :: ht_tb
abbrev kM_found : List Cond := Cond.code yM_found cM_found 3 (some .int) :: ht_tb
abbrev kM_findStates : List Cond := Cond.code yM_findStates cM_findStates 4 none :: ht_tb
abbrev kM_report : List Cond := Cond.code yM_report cM_report 2 none :: ht_tb
abbrev kM_enter : List Cond := Cond.code yM_enter cM_enter 4 (some .int) :: ht_tb
abbrev kM_drive : List Cond := Cond.code yM_drive cM_drive 4 (some .int) :: ht_tb
abbrev kM_silence : List Cond := Cond.code yM_silence cM_silence 4 (some .int) :: ht_tb
abbrev kM_authorise : List Cond := Cond.code yM_authorise cM_authorise 3 (some .int) :: ht_tb
abbrev kM_relent : List Cond := Cond.code yM_relent cM_relent 3 (some .int) :: ht_tb
abbrev kM_lose : List Cond := Cond.code yM_lose cM_lose 4 (some .int) :: ht_tb
abbrev kM_confirm : List Cond := Cond.code yM_confirm cM_confirm 2 (some .int) :: ht_tb
abbrev kM_clear : List Cond := Cond.code yM_clear cM_clear 2 (some .int) :: ht_tb
abbrev kM_tickOnce : List Cond := Cond.code yM_tickOnce cM_tickOnce 3 none :: ht_tb
abbrev kM_tick : List Cond := Cond.code yM_tick cM_tick 3 (some .int) :: ht_tb
abbrev kM_state : List Cond := Cond.code yM_state cM_state 2 (some .int) :: ht_tb
abbrev kM_detected : List Cond := Cond.code yM_detected cM_detected 2 (some .int) :: ht_tb
abbrev kM_vehicle : List Cond := Cond.code yM_vehicle cM_vehicle 3 (some .int) :: ht_tb
abbrev kM_countStates : List Cond := Cond.code yM_countStates cM_countStates 4 (some .int) :: ht_tb
abbrev kM_stood : List Cond := Cond.code yM_stood cM_stood 3 (some .boolean) :: ht_tb
abbrev kM_count : List Cond := Cond.code yM_count cM_count 4 (some .int) :: ht_tb
abbrev kV_init : List Cond := Cond.code yV_init cV_init 1 none :: ht_tb
abbrev kV_becomeTrain : List Cond := Cond.code yV_becomeTrain cV_becomeTrain 3 none :: ht_tb
abbrev kV_becomeWagon : List Cond := Cond.code yV_becomeWagon cV_becomeWagon 3 none :: ht_tb
abbrev kV_sendReport : List Cond := Cond.code yV_sendReport cV_sendReport 1 none :: ht_tb
abbrev kV_reportOrAge : List Cond := Cond.code yV_reportOrAge cV_reportOrAge 1 none :: ht_tb
abbrev kV_lastPlace : List Cond := Cond.code yV_lastPlace cV_lastPlace 1 (some .int) :: ht_tb
abbrev kV_standsWithin : List Cond := Cond.code yV_standsWithin cV_standsWithin 3 (some .boolean) :: ht_tb
abbrev kV_isMute : List Cond := Cond.code yV_isMute cV_isMute 1 (some .boolean) :: ht_tb
abbrev kV_isLocatedOn : List Cond := Cond.code yV_isLocatedOn cV_isLocatedOn 2 (some .boolean) :: ht_tb
abbrev kV_claimsWithin : List Cond := Cond.code yV_claimsWithin cV_claimsWithin 3 (some .boolean) :: ht_tb
abbrev kV_hasLeft : List Cond := Cond.code yV_hasLeft cV_hasLeft 2 (some .boolean) :: ht_tb
abbrev hL_enter : List (Nat × Nat × Nat × Nat) := [(0, 10, 13, 13), (0, 10, 17, 15)]
abbrev kL_enter : List Cond := Cond.codeWith yL_enter cL_enter 5 (some .int) hL_enter :: ht_tb
abbrev hL_drive : List (Nat × Nat × Nat × Nat) := [(0, 10, 13, 20), (0, 10, 17, 13)]
abbrev kL_drive : List Cond := Cond.codeWith yL_drive cL_drive 5 (some .int) hL_drive :: ht_tb
abbrev hL_silence : List (Nat × Nat × Nat × Nat) := [(0, 10, 13, 20)]
abbrev kL_silence : List Cond := Cond.codeWith yL_silence cL_silence 5 (some .int) hL_silence :: ht_tb
abbrev hL_authorise : List (Nat × Nat × Nat × Nat) := [(0, 9, 12, 20), (0, 9, 15, 15)]
abbrev kL_authorise : List Cond := Cond.codeWith yL_authorise cL_authorise 4 (some .int) hL_authorise :: ht_tb
abbrev hL_relent : List (Nat × Nat × Nat × Nat) := [(0, 9, 12, 20), (0, 9, 15, 15)]
abbrev kL_relent : List Cond := Cond.codeWith yL_relent cL_relent 4 (some .int) hL_relent :: ht_tb
abbrev hL_lose : List (Nat × Nat × Nat × Nat) := [(0, 10, 13, 20), (0, 10, 17, 13), (0, 10, 21, 15)]
abbrev kL_lose : List Cond := Cond.codeWith yL_lose cL_lose 5 (some .int) hL_lose :: ht_tb
abbrev hL_confirm : List (Nat × Nat × Nat × Nat) := [(0, 9, 12, 20), (0, 9, 15, 15)]
abbrev kL_confirm : List Cond := Cond.codeWith yL_confirm cL_confirm 4 (some .int) hL_confirm :: ht_tb
abbrev hL_clear : List (Nat × Nat × Nat × Nat) := [(0, 9, 12, 20)]
abbrev kL_clear : List Cond := Cond.codeWith yL_clear cL_clear 4 (some .int) hL_clear :: ht_tb
abbrev hL_tick : List (Nat × Nat × Nat × Nat) := [(0, 9, 12, 13)]
abbrev kL_tick : List Cond := Cond.codeWith yL_tick cL_tick 4 (some .int) hL_tick :: ht_tb
abbrev hL_state : List (Nat × Nat × Nat × Nat) := [(0, 9, 12, 13)]
abbrev kL_state : List Cond := Cond.codeWith yL_state cL_state 4 (some .int) hL_state :: ht_tb
abbrev hL_detected : List (Nat × Nat × Nat × Nat) := [(0, 9, 12, 13)]
abbrev kL_detected : List Cond := Cond.codeWith yL_detected cL_detected 4 (some .int) hL_detected :: ht_tb
abbrev hL_vehicle : List (Nat × Nat × Nat × Nat) := [(0, 10, 13, 20), (0, 10, 17, 13)]
abbrev kL_vehicle : List Cond := Cond.codeWith yL_vehicle cL_vehicle 5 (some .int) hL_vehicle :: ht_tb
abbrev hL_count : List (Nat × Nat × Nat × Nat) := [(0, 9, 12, 13)]
abbrev kL_count : List Cond := Cond.codeWith yL_count cL_count 4 (some .int) hL_count :: ht_tb
abbrev ht_nest : List Cond := [Jvm.Cond.methodLinkNest "HybridTrack" (35 : Nat) ({ cls := "HybridTrack$Vehicle", name := "<init>", desc := "()V" } : Jvm.MethodName) "HybridTrack", Jvm.Cond.fieldLinkNest "HybridTrack" (131 : Nat) "HybridTrack$Vehicle" "isTrain" "Z" "HybridTrack", Jvm.Cond.fieldLinkNest "HybridTrack" (139 : Nat) "HybridTrack$Vehicle" "onTrack" "Z" "HybridTrack", Jvm.Cond.fieldLinkNest "HybridTrack" (104 : Nat) "HybridTrack$Vehicle" "front" "I" "HybridTrack", Jvm.Cond.fieldLinkNest "HybridTrack" (107 : Nat) "HybridTrack$Vehicle" "length" "I" "HybridTrack", Jvm.Cond.fieldLinkNest "HybridTrack" (79 : Nat) "HybridTrack$Vehicle" "speed" "I" "HybridTrack", Jvm.Cond.fieldLinkNest "HybridTrack" (92 : Nat) "HybridTrack$Vehicle" "end" "I" "HybridTrack", Jvm.Cond.fieldLinkNest "HybridTrack" (82 : Nat) "HybridTrack$Vehicle" "silent" "Z" "HybridTrack", Jvm.Cond.fieldLinkNest "HybridTrack" (119 : Nat) "HybridTrack$Vehicle" "whole" "Z" "HybridTrack", Jvm.Cond.fieldLinkNest "HybridTrack" (163 : Nat) "HybridTrack$Vehicle" "age" "I" "HybridTrack", Jvm.Cond.fieldLinkNest "HybridTrack" (95 : Nat) "HybridTrack$Vehicle" "reportedFront" "I" "HybridTrack", Jvm.Cond.fieldLinkNest "HybridTrack" (122 : Nat) "HybridTrack$Vehicle" "reportedWhole" "Z" "HybridTrack", Jvm.Cond.methodLinkNest "HybridTrack" (176 : Nat) ({ cls := "HybridTrack$Vehicle", name := "standsWithin", desc := "(II)Z" } : Jvm.MethodName) "HybridTrack", Jvm.Cond.methodLinkNest "HybridTrack" (179 : Nat) ({ cls := "HybridTrack$Vehicle", name := "claimsWithin", desc := "(II)Z" } : Jvm.MethodName) "HybridTrack", Jvm.Cond.methodLinkNest "HybridTrack" (66 : Nat) ({ cls := "HybridTrack$Vehicle", name := "becomeTrain", desc := "(II)V" } : Jvm.MethodName) "HybridTrack", Jvm.Cond.methodLinkNest "HybridTrack" (201 : Nat) ({ cls := "HybridTrack$Vehicle", name := "isLocatedOn", desc := "(I)Z" } : Jvm.MethodName) "HybridTrack", Jvm.Cond.methodLinkNest "HybridTrack" (86 : Nat) ({ cls := "HybridTrack$Vehicle", name := "isMute", desc := "()Z" } : Jvm.MethodName) "HybridTrack", Jvm.Cond.methodLinkNest "HybridTrack" (219 : Nat) ({ cls := "HybridTrack$Vehicle", name := "hasLeft", desc := "(I)Z" } : Jvm.MethodName) "HybridTrack", Jvm.Cond.methodLinkNest "HybridTrack" (112 : Nat) ({ cls := "HybridTrack$Vehicle", name := "lastPlace", desc := "()I" } : Jvm.MethodName) "HybridTrack", Jvm.Cond.methodLinkNest "HybridTrack" (116 : Nat) ({ cls := "HybridTrack$Vehicle", name := "becomeWagon", desc := "(II)V" } : Jvm.MethodName) "HybridTrack", Jvm.Cond.methodLinkNest "HybridTrack" (189 : Nat) ({ cls := "HybridTrack$Vehicle", name := "reportOrAge", desc := "()V" } : Jvm.MethodName) "HybridTrack"]
theorem ht_gd {w : Cond} (h : w ∈ ht_tb) : w ∈ ht_tb ∧ ((w.onTables && w.keeps) = true ∨ ∃ ty, w = .arrayClass ty) := ⟨h, good_of_word (List.mem_filter.mp h).2⟩
theorem ht_gW {w : Cond} (h : w ∈ ht_tb) : GoodIn ht_tb (w :: ht_tb) := fun _ hw => (List.mem_cons.mp hw).elim (fun e => by rw [e]; exact ht_gd h) ht_gd
theorem ht_gV {own C : String} {i : Nat} {y : MethodName} {w : Cond} (h1 : Cond.methodLink own i y ∈ ht_tb) (h2 : Cond.instanceMethod y ∈ ht_tb) (h3 : Cond.selects C y y ∈ ht_tb) (h4 : Cond.initialized C ∈ ht_tb) (h5 : w ∈ ht_tb) : GoodIn ht_tb (wsV own i C y (w :: ht_tb)) := by
  intro z hz
  simp only [wsV, List.cons_append, List.nil_append, List.mem_cons] at hz
  rcases hz with rfl | rfl | rfl | rfl | rfl | hz
  · exact ht_gd h1
  · exact ht_gd h2
  · exact ht_gd h3
  · exact ht_gd h4
  · exact ht_gd h5
  · exact ht_gd hz
theorem ht_gS {own : String} {i : Nat} {y : MethodName} {w : Cond} (h1 : Cond.methodLink own i y ∈ ht_tb) (h2 : Cond.static y ∈ ht_tb) (h4 : Cond.initialized own ∈ ht_tb) (h5 : w ∈ ht_tb) : GoodIn ht_tb (wsS own i y (w :: ht_tb)) := by
  intro z hz
  simp only [wsS, List.cons_append, List.nil_append, List.mem_cons] at hz
  rcases hz with rfl | rfl | rfl | rfl | hz
  · exact ht_gd h1
  · exact ht_gd h2
  · exact ht_gd h4
  · exact ht_gd h5
  · exact ht_gd hz
def ht_N (U : State) : Prop := ∀ w ∈ ht_nest, va_Nw w U
theorem ht_N.warm {s U : State} (hW : s.WarmedH U.vm) (h : ht_N s) : ht_N U := by
  intro w hw
  have h1 := h w hw
  simp only [ht_nest, List.mem_cons, List.not_mem_nil, or_false] at hw
  rcases hw with rfl | rfl | rfl | rfl | rfl | rfl | rfl | rfl | rfl | rfl | rfl | rfl | rfl | rfl | rfl | rfl | rfl | rfl | rfl | rfl | rfl <;> first | exact va_Nw.warmF hW h1 | exact va_Nw.warmM hW h1
theorem ht_N.same {u U : State} (hv : u.vm = U.vm) (h : ht_N u) : ht_N U := by
  intro w hw
  have h1 := h w hw
  have h2 : w.onTables = true := by
    simp only [ht_nest, List.mem_cons, List.not_mem_nil, or_false] at hw
    rcases hw with rfl | rfl | rfl | rfl | rfl | rfl | rfl | rfl | rfl | rfl | rfl | rfl | rfl | rfl | rfl | rfl | rfl | rfl | rfl | rfl | rfl <;> rfl
  exact va_Nw.same h2 hv h1
theorem ht_N.use {s : State} {args : Array Value} (h : ht_N s) {w : Cond} (i : Nat) (hi : ht_nest[i]? = some w) (ho : w.onTables = true) : w.before args s = true := va_Nw.use ho (h w (List.mem_of_getElem? hi))
end
section
/-! A WORLD AS A MAP: n cells, cell i lies at q i and holds E i. -/
def mw (n : Nat) (q : Nat → Nat) (E : Nat → va_E) : va_W := (List.range n).map fun i => (q i, E i)
theorem mw_at {n : Nat} {q : Nat → Nat} {E : Nat → va_E} {i : Nat} (h : i < n) : (mw n q E)[i]? = some (q i, E i) := by
  simp [mw, List.getElem?_map, List.getElem?_range h]
theorem mw_no {n : Nat} {q : Nat → Nat} {E : Nat → va_E} {i : Nat} (h : ¬ i < n) : (mw n q E)[i]? = none := by
  rw [List.getElem?_eq_none_iff]; simp [mw]; omega
theorem mw_of {n : Nat} {q : Nat → Nat} {E : Nat → va_E} {i : Nat} {x : Nat × va_E} (h : (mw n q E)[i]? = some x) : i < n ∧ x = (q i, E i) := by
  by_cases hi : i < n
  · rw [mw_at hi] at h; exact ⟨hi, (Option.some.inj h).symm⟩
  · rw [mw_no hi] at h; cases h
theorem mw_set {n : Nat} {q : Nat → Nat} {E E' : Nat → va_E} {i : Nat} {e : va_E} (h : i < n) (he : E' i = e) (ho : ∀ m, m < n → m ≠ i → E' m = E m) : (mw n q E).set i (q i, e) = mw n q E' := by
  apply List.ext_getElem?
  intro j
  by_cases hj : j < n
  · rw [List.getElem?_set, mw_at hj]
    by_cases hij : i = j
    · subst hij
      have hl : i < (mw n q E).length := by simp [mw]; exact h
      rw [if_pos rfl, if_pos hl, mw_at hj, he]
    · rw [if_neg hij, mw_at hj, ho j hj (fun z => hij z.symm)]
  · rw [mw_no hj, List.getElem?_eq_none_iff]; simp [mw]; omega
/-- the places that may be written: those of the world, and all that come -/
def mw_A (n : Nat) (q : Nat → Nat) (sz : Nat) : Nat → Prop := fun z => (∃ i, i < n ∧ z = q i) ∨ sz ≤ z
def mw_J (n : Nat) (q : Nat → Nat) : Prop := ∀ i j, i < n → j < n → q i = q j → i = j
theorem mw_D {n : Nat} {q : Nat → Nat} {E : Nat → va_E} {A : Nat → Prop} (hJ : mw_J n q) (hA : ∀ i, i < n → A (q i)) : va_D A (mw n q E) := by
  refine ⟨fun i j p r hi hj he => ?_, fun k r hk => ?_⟩
  · obtain ⟨h1, rfl⟩ := mw_of hi
    obtain ⟨h2, rfl⟩ := mw_of hj
    exact hJ i j h1 h2 he
  · obtain ⟨h1, rfl⟩ := mw_of hk
    exact hA k h1
theorem mw_DA {n : Nat} {q : Nat → Nat} {E : Nat → va_E} {sz : Nat} (hJ : mw_J n q) : va_D (mw_A n q sz) (mw n q E) := mw_D hJ (fun i hi => Or.inl ⟨i, hi, rfl⟩)
theorem mw_lt {n : Nat} {q : Nat → Nat} {E : Nat → va_E} {D : va_G} {cl : List vw_C} {H : Heap} (hP : va_P D cl (mw n q E) H) {i : Nat} (hi : i < n) : q i < H.size := (hP i _ (mw_at hi)).lt
/-- a world stands where its cells stand -/
theorem mw_kept {n : Nat} {q : Nat → Nat} {E : Nat → va_E} {D : va_G} {cl : List vw_C} {H H1 : Heap} (hP : va_P D cl (mw n q E) H) (h : ∀ i, i < n → H1[q i]? = H[q i]?) : va_P D cl (mw n q E) H1 :=
  hP.kept (fun k r hk => by obtain ⟨h1, rfl⟩ := mw_of hk; exact h k h1)
theorem mw_AA {n : Nat} {q : Nat → Nat} {a b : Nat} : ∀ z, z < a → mw_A n q a z → mw_A n q b z := fun z hz h => h.elim Or.inl (fun h => absurd h (Nat.not_le.mpr hz))
theorem mw_AF {n : Nat} {q : Nat → Nat} {a b : Nat} (h : b ≤ a) : ∀ z, mw_A n q a z → mw_A n q b z := fun z hz => hz.elim Or.inl (fun k => Or.inr (Nat.le_trans h k))
/-! THE CLASS'S STATE AS A GRID OF NUMBERS: row 0: came, ticksMade; rows 1..4: states, locatedTrains, loneTrain, loneTrainBefore; row 5 + i: vehicle i's thirteen fields in the order of its slots.
Pure functions that mirror the methods of the class, on the grid; k: how many vehicles came. -/
abbrev ht_G : Type := Nat → Nat → Int32
def ht_up (g : ht_G) (r k : Nat) (x : Int32) : ht_G := fun i j => if i = r ∧ j = k then x else g i j
theorem ht_up_s (g : ht_G) (r k : Nat) (x : Int32) : ht_up g r k x r k = x := by simp [ht_up]
theorem ht_up_r {g : ht_G} {r k i j : Nat} {x : Int32} (h : i ≠ r) : ht_up g r k x i j = g i j := by simp [ht_up, h]
theorem ht_up_k {g : ht_G} {r k i j : Nat} {x : Int32} (h : j ≠ k) : ht_up g r k x i j = g i j := by simp [ht_up, h]
theorem ht_up_row {g : ht_G} {r k i : Nat} {x : Int32} (h : i ≠ r) : ht_up g r k x i = g i := funext fun j => ht_up_r h
def ht_b (p : Bool) : Int32 := if p = true then 1 else 0
theorem ht_b_t : ht_b true = 1 := rfl
theorem ht_b_f : ht_b false = 0 := rfl
theorem ht_b0 {p : Bool} : ht_b p = 0 ↔ p = false := by cases p <;> simp [ht_b]
theorem ht_b1 {p : Bool} : ¬ ht_b p = 0 ↔ p = true := by cases p <;> simp [ht_b]
/-- is there an i < n with p i -/
def ht_ex (p : Nat → Bool) : Nat → Bool
  | 0 => false
  | n + 1 => ht_ex p n || p n
theorem ht_ex_t {p : Nat → Bool} {n i : Nat} (hi : i < n) (h : p i = true) : ht_ex p n = true := by
  induction n with
  | zero => exact absurd hi (Nat.not_lt_zero i)
  | succ n ih =>
    rcases Nat.lt_succ_iff_lt_or_eq.mp hi with q | q
    · simp [ht_ex, ih q]
    · subst q; simp [ht_ex, h]
theorem ht_ex_s {p : Nat → Bool} {n : Nat} (h1 : ht_ex p n = false) (h2 : p n = false) : ht_ex p (n + 1) = false := by simp [ht_ex, h1, h2]
theorem ht_ex_iff {p : Nat → Bool} {n : Nat} : ht_ex p n = true ↔ ∃ i, i < n ∧ p i = true := by
  induction n with
  | zero => simp [ht_ex]
  | succ n ih =>
    simp only [ht_ex, Bool.or_eq_true, ih]
    constructor
    · rintro (⟨i, a, b⟩ | h)
      · exact ⟨i, by omega, b⟩
      · exact ⟨n, by omega, h⟩
    · rintro ⟨i, a, b⟩
      rcases Nat.lt_succ_iff_lt_or_eq.mp a with q | q
      · exact Or.inl ⟨i, q, b⟩
      · subst q; exact Or.inr b
theorem ht_ex_congr {p r : Nat → Bool} {n : Nat} (h : ∀ i, i < n → p i = r i) : ht_ex p n = ht_ex r n := by
  induction n with
  | zero => rfl
  | succ n ih => simp only [ht_ex]; rw [ih (fun i hi => h i (by omega)), h n (by omega)]
/-- how many i < n with p i -/
def ht_num (p : Nat → Bool) : Nat → Nat
  | 0 => 0
  | n + 1 => if p n = true then ht_num p n + 1 else ht_num p n
theorem ht_num_le (p : Nat → Bool) (n : Nat) : ht_num p n ≤ n := by
  induction n with
  | zero => exact Nat.le_refl _
  | succ n ih => simp only [ht_num]; split <;> omega
theorem ht_num_congr {p r : Nat → Bool} {n : Nat} (h : ∀ i, i < n → p i = r i) : ht_num p n = ht_num r n := by
  induction n with
  | zero => rfl
  | succ n ih => simp only [ht_num]; rw [ih (fun i hi => h i (by omega)), h n (by omega)]
/-- n turns of a body, by rising numbers -/
def ht_it {α : Type} (f : Nat → α → α) : Nat → α → α
  | 0, a => a
  | n + 1, a => f n (ht_it f n a)
-- a vehicle's row v
def ht_last (v : Nat → Int32) : Int32 := v 2 - v 3 + 1
def ht_stands (v : Nat → Int32) (lo hi : Int32) : Bool := !decide (v 1 = 0) && (!decide (v 2 < lo) && !decide (hi < ht_last v))
def ht_mute (v : Nat → Int32) : Bool := !decide (v 0 = 0) && !decide (v 8 ≤ 5)
def ht_locOn (v : Nat → Int32) (s : Int32) : Bool := !decide (v 0 = 0) && (!ht_mute v && (!decide (s < v 11) && !decide (v 9 / 10 < s)))
def ht_claims (v : Nat → Int32) (a b : Int32) : Bool := !decide (v 0 = 0) && (!decide (b < v 11) && !decide (v 5 / 10 < a))
def ht_left (v : Nat → Int32) (s : Int32) : Bool := !decide (s < v 12) && !decide (v 11 ≤ s)
-- the object's
def ht_stood (g : ht_G) (k : Nat) (lo hi : Int32) : Bool := ht_ex (fun i => ht_stands (g (5 + i)) lo hi) k
def ht_claimed (g : ht_G) (k : Nat) (a b ex : Int32) : Bool := ht_ex (fun i => !decide (nI i = ex) && ht_claims (g (5 + i)) a b) k
def ht_claimM (g : ht_G) (k : Nat) (a b : Int32) : Bool := ht_ex (fun i => ht_mute (g (5 + i)) && ht_claims (g (5 + i)) a b) k
def ht_det (g : ht_G) (k : Nat) (d : Int32) : Bool := ht_stood g k (d * 30) (d * 30 + 30 - 1)
def ht_sec (g : ht_G) (k : Nat) (s : Int32) : Bool := ht_stood g k (s * 10) (s * 10 + 10 - 1)
def ht_far (g : ht_G) (k : Nat) (t : Int32) : Nat → Nat → Nat
  | 0, s => s
  | n + 1, s => if g 1 (s + 1) = 0 ∧ ht_claimed g k (nI (s + 1)) (nI (s + 1)) t = false then ht_far g k t n (s + 1) else s
def ht_in (g : ht_G) (w : Int32) : Nat := ht_num (fun s => decide (g 1 s = w)) 12
def ht_wrong (g : ht_G) (k : Nat) : Nat := ht_num (fun s => decide (g 1 s = 0) && (!ht_claimed g k (nI s) (nI s) (-1) && ht_sec g k (nI s))) 12
def ht_trains (g : ht_G) (k : Nat) : Nat := ht_num (fun i => !decide (g (5 + i) 0 = 0)) k
def ht_go (k i : Nat) : Nat → ht_G → ht_G
  | 0, g => g
  | n + 1, g => if g (5 + i) 5 < g (5 + i) 2 + 1 then g else if ht_stood g k (g (5 + i) 2 + 1) (g (5 + i) 2 + 1) = true then g else ht_go k i n (ht_up g (5 + i) 2 (g (5 + i) 2 + 1))
def ht_mv (k i : Nat) (g : ht_G) : ht_G := if g (5 + i) 0 = 0 then g else ht_go k i (g (5 + i) 4).toNatClampNeg g
def ht_send (i : Nat) (g : ht_G) : ht_G :=
  let g1 := ht_up g (5 + i) 9 (g (5 + i) 2)
  let g2 := ht_up g1 (5 + i) 10 (g1 (5 + i) 7)
  let g3 := ht_up g2 (5 + i) 12 (g2 (5 + i) 11)
  let g4 := ht_up g3 (5 + i) 11 (ht_last (g3 (5 + i)) / 10)
  ht_up g4 (5 + i) 8 0
def ht_rp (i : Nat) (g : ht_G) : ht_G := if g (5 + i) 0 = 0 then g else if g (5 + i) 6 = 0 then ht_send i g else ht_up g (5 + i) 8 (g (5 + i) 8 + 1)
def ht_lc (s i : Nat) (g : ht_G) : ht_G := if ht_locOn (g (5 + i)) (nI s) = true then
    let g1 := ht_up g 2 s (g 2 s + 1)
    ht_up g1 3 s (if g1 2 s = 1 then nI i else -1)
  else g
def ht_ls (k s : Nat) (g : ht_G) : ht_G :=
  let g1 := ht_up g 4 s (g 3 s)
  let g2 := ht_up g1 3 s (-1)
  ht_it (ht_lc s) k (ht_up g2 2 s 0)
def ht_under (g : ht_G) (s : Nat) : Int32 := if (¬ g 3 s = -1 ∧ ¬ g (5 + (g 3 s).toNatClampNeg) 10 = 0) ∧ (g 1 s = 0 ∨ g 1 s = 1) then 1 else 2
def ht_anyLoc (g : ht_G) (a : Nat) : Nat → Bool := ht_ex (fun j => decide (0 < g 2 (a + j)))
def ht_broken (g : ht_G) (k s : Nat) : Bool := ht_ex (fun i => !decide (g (5 + i) 0 = 0) && (decide (g (5 + i) 8 = 0) && (decide (g (5 + i) 10 = 0) && ht_left (g (5 + i)) (nI s)))) k
def ht_stays (g : ht_G) (k s : Nat) : Bool := (ht_anyLoc g (s - s % 3) 3 || ht_claimM g k (nI (s - s % 3)) (nI (s - s % 3 + 2))) && !ht_broken g k s
def ht_byW (g : ht_G) (s : Nat) : Bool := !decide (g 4 s = -1) && (decide (g (5 + (g 4 s).toNatClampNeg) 8 = 0) && !decide (g (5 + (g 4 s).toNatClampNeg) 10 = 0))
def ht_st (g : ht_G) (k s : Nat) : Int32 := if ht_det g k (nI s / 3) = false then 0 else if ¬ g 2 s ≤ 0 then ht_under g s else if g 1 s = 0 then (if ht_stays g k s = true then 0 else 3) else if g 1 s = 1 then (if ht_byW g s = true then 0 else 3) else 3
def ht_s1 (k s : Nat) (g : ht_G) : ht_G := ht_up g 1 s (ht_st g k s)
def ht_s2 (k s : Nat) (g : ht_G) : ht_G := if g 1 s = 0 ∧ ht_claimM g k (nI s) (nI s) = true ∧ ht_det g k (nI s / 3) = true then ht_up g 1 s 3 else g
def ht_find (k : Nat) (g : ht_G) : ht_G := ht_it (ht_s2 k) 12 (ht_it (ht_s1 k) 12 (ht_it (ht_ls k) 12 g))
def ht_tick (k : Nat) (g : ht_G) : ht_G :=
  let g1 := ht_find k (ht_it ht_rp k (ht_it (ht_mv k) k g))
  ht_up g1 0 1 (g1 0 1 + 1)
end
section
def ht_vf (v : Nat → Int32) : List Value := [.int (v 0), .int (v 1), .int (v 2), .int (v 3), .int (v 4), .int (v 5), .int (v 6), .int (v 7), .int (v 8), .int (v 9), .int (v 10), .int (v 11), .int (v 12)]
abbrev ht_of (q : Nat → Nat) (x y : Int32) : List Value := [.ref (q 1), .int x, .int y, .ref (q 2), .ref (q 3), .ref (q 4), .ref (q 5)]
def ht_cell (c : ClassId × ClassId) (q : Nat → Nat) (g : ht_G) : Nat → va_E
  | 0 => .inr (1, ht_of q (g 0 0) (g 0 1))
  | 1 => .inl (c.1, 8, .inr (.inr (.inr (.inr (fun i => some (q (i + 6)))))))
  | 2 => .inl (c.2, 12, .inl (g 1))
  | 3 => .inl (c.2, 12, .inl (g 2))
  | 4 => .inl (c.2, 12, .inl (g 3))
  | 5 => .inl (c.2, 12, .inl (g 4))
  | n + 6 => .inr (0, ht_vf (g (5 + n)))
abbrev ht_w (c : ClassId × ClassId) (q : Nat → Nat) (g : ht_G) : va_W := mw 14 q (ht_cell c q g)
abbrev ht_ty (c : ClassId × ClassId) : List (ClassId × FieldType) := [(c.1, .object RV), (c.2, .int)]
theorem ht_atO {c : ClassId × ClassId} {q : Nat → Nat} {g : ht_G} : (ht_w c q g)[0]? = some (q 0, .inr (1, ht_of q (g 0 0) (g 0 1))) := mw_at (by decide)
theorem ht_atA {c : ClassId × ClassId} {q : Nat → Nat} {g : ht_G} : (ht_w c q g)[1]? = some (q 1, .inl (c.1, 8, .inr (.inr (.inr (.inr (fun i => some (q (i + 6)))))))) := mw_at (by decide)
theorem ht_atR {c : ClassId × ClassId} {q : Nat → Nat} {g : ht_G} {r : Nat} (h1 : 1 ≤ r) (h4 : r ≤ 4) : (ht_w c q g)[r + 1]? = some (q (r + 1), .inl (c.2, 12, .inl (g r))) := by
  rw [mw_at (by omega)]
  rcases (show r = 1 ∨ r = 2 ∨ r = 3 ∨ r = 4 by omega) with rfl | rfl | rfl | rfl <;> rfl
theorem ht_atV {c : ClassId × ClassId} {q : Nat → Nat} {g : ht_G} {j : Nat} (hj : j < 8) : (ht_w c q g)[j + 6]? = some (q (j + 6), .inr (0, ht_vf (g (5 + j)))) := mw_at (by omega)
theorem ht_vf_set (v : Nat → Int32) {K : Nat} (hK : K < 13) (x : Int32) : (ht_vf v).set K (.int x) = ht_vf (fun i => if i = K then x else v i) := by
  rcases (show K = 0 ∨ K = 1 ∨ K = 2 ∨ K = 3 ∨ K = 4 ∨ K = 5 ∨ K = 6 ∨ K = 7 ∨ K = 8 ∨ K = 9 ∨ K = 10 ∨ K = 11 ∨ K = 12 by omega) with rfl | rfl | rfl | rfl | rfl | rfl | rfl | rfl | rfl | rfl | rfl | rfl | rfl <;> rfl
theorem ht_cell_up {c : ClassId × ClassId} {q : Nat → Nat} {g : ht_G} {r k : Nat} {x : Int32} {m : Nat} (h0 : m = 0 → r ≠ 0) (h1 : ∀ a, 1 ≤ a → a ≤ 4 → m = a + 1 → r ≠ a) (h5 : ∀ a, m = a + 6 → r ≠ 5 + a) : ht_cell c q (ht_up g r k x) m = ht_cell c q g m := by
  match m, h0, h1, h5 with
  | 0, h0, _, _ => simp only [ht_cell, ht_up_row (fun e => h0 rfl e.symm)]
  | 1, _, _, _ => rfl
  | 2, _, h1, _ => simp only [ht_cell, ht_up_row (fun e => h1 1 (by decide) (by decide) rfl e.symm)]
  | 3, _, h1, _ => simp only [ht_cell, ht_up_row (fun e => h1 2 (by decide) (by decide) rfl e.symm)]
  | 4, _, h1, _ => simp only [ht_cell, ht_up_row (fun e => h1 3 (by decide) (by decide) rfl e.symm)]
  | 5, _, h1, _ => simp only [ht_cell, ht_up_row (fun e => h1 4 (by decide) (by decide) rfl e.symm)]
  | a + 6, _, _, h5 => simp only [ht_cell, ht_up_row (fun e => h5 a rfl e.symm)]
theorem ht_stV {c : ClassId × ClassId} {q : Nat → Nat} {g : ht_G} {j K : Nat} {x : Int32} (hj : j < 8) (hK : K < 13) : (ht_w c q g).set (j + 6) (q (j + 6), .inr (0, (ht_vf (g (5 + j))).set K (.int x))) = ht_w c q (ht_up g (5 + j) K x) := by
  refine mw_set (by omega) ?_ (fun m hm hne => ht_cell_up (by omega) (by omega) (by omega))
  rw [ht_vf_set _ hK]
  simp only [ht_cell]
  congr 3
  funext i
  simp [ht_up]
theorem ht_stR {c : ClassId × ClassId} {q : Nat → Nat} {g : ht_G} {r s : Nat} {x : Int32} (h1 : 1 ≤ r) (h4 : r ≤ 4) : (ht_w c q g).set (r + 1) (q (r + 1), .inl (c.2, 12, .inl (upd (g r) s x))) = ht_w c q (ht_up g r s x) := by
  refine mw_set (by omega) ?_ (fun m hm hne => ht_cell_up (by omega) (by omega) (by omega))
  have e : ht_up g r s x r = upd (g r) s x := by funext i; simp [ht_up, upd]
  rcases (show r = 1 ∨ r = 2 ∨ r = 3 ∨ r = 4 by omega) with rfl | rfl | rfl | rfl <;> simp only [ht_cell, e]
theorem ht_stC {c : ClassId × ClassId} {q : Nat → Nat} {g : ht_G} {x : Int32} : (ht_w c q g).set 0 (q 0, .inr (1, (ht_of q (g 0 0) (g 0 1)).set 1 (.int x))) = ht_w c q (ht_up g 0 0 x) := by
  refine mw_set (by omega) ?_ (fun m hm hne => ht_cell_up (by omega) (by omega) (by omega))
  simp [ht_cell, ht_up]
theorem ht_stT {c : ClassId × ClassId} {q : Nat → Nat} {g : ht_G} {x : Int32} : (ht_w c q g).set 0 (q 0, .inr (1, (ht_of q (g 0 0) (g 0 1)).set 2 (.int x))) = ht_w c q (ht_up g 0 1 x) := by
  refine mw_set (by omega) ?_ (fun m hm hne => ht_cell_up (by omega) (by omega) (by omega))
  simp [ht_cell, ht_up]
/-- what the world is at a state -/
def ht_I (D : va_G) (c : ClassId × ClassId) (q : Nat → Nat) (g : ht_G) (U : State) : Prop := va_P D ht_cl (ht_w c q g) U.heap ∧ va_K D ht_cl (ht_ty c) U ∧ ht_N U
theorem ht_Ic {D : va_G} {c : ClassId × ClassId} {q : Nat → Nat} {g : ht_G} {U : State} (f : JFrame) (mk : MethodId) (a : Array Value) (h : ht_I D c q g U) : ht_I D c q g (U.calling f mk a) :=
  ⟨h.1, va_K.moved (u := U) (U := U.calling f mk a) (Vm.Alike.refl U.vm) h.2.1, ht_N.same (u := U) (U := U.calling f mk a) rfl h.2.2⟩
theorem ht_Im {D : va_G} {c : ClassId × ClassId} {q : Nat → Nat} {g : ht_G} {s U : State} {H : Heap} (hP : va_P D ht_cl (ht_w c q g) H) (hK : va_K D ht_cl (ht_ty c) s) (hN : ht_N s) (hU : U.heap = H) (hW : s.WarmedH U.vm) : ht_I D c q g U := ⟨by rw [hU]; exact hP, va_K.moved hW.alike hK, ht_N.warm hW hN⟩
theorem ht_bl {D : va_G} {c : ClassId × ClassId} {q : Nat → Nat} {g : ht_G} {av : List Value} : FrameBlind (va_Pc av (ht_I D c q g)) := fun _ _ f mk h => ⟨h.1, ht_Ic f mk _ h.2⟩
theorem ht_bls {D : va_G} {c : ClassId × ClassId} {q : Nat → Nat} {g : ht_G} {av : List Value} {sz : Nat} : FrameBlind (va_Pc av (fun U => U.heap.size = sz ∧ ht_I D c q g U)) := fun _ _ f mk h => ⟨h.1, h.2.1, ht_Ic f mk _ h.2.2⟩
theorem ht_nb (p : Bool) : narrow .boolean (.int (ht_b p)) = .int (ht_b p) := by cases p <;> rfl
section HTR
variable {p : Program} {l : Launch} {e : Env} {R : Room} {s : State} {m : MethodId} {args : Array Value} {below : List Frame} {meth : Method} {c : Code} {H : Heap} {locs : List Loc} {cells slots : Nat} {Q : State → Prop}
variable {cc : ByteArray} {pc : Nat} {ls : Array Slot} {rest : List Value} {D : va_G} {A : Nat → Prop} {H0 : Heap} {cA : ClassId × ClassId} {q : Nat → Nat} {g : ht_G}
theorem ht_ldV (hexec : p.tables.exec = Jvm.exec) (hb : c.code = cc) (hK : va_K D ht_cl (ht_ty cA) s) (hP : va_P D ht_cl (ht_w cA q g) H) {j : Nat} {i : Int32} (hj : j < 8) (hi : i = nI j) (hdg : decode cc pc = .ok (.aaload, 1))
    (kk : W p l e R s m args below meth c H locs cells slots Q (F0 m (pc + 1) ls (.ref (q (j + 6)) :: rest))) : W p l e R s m args below meth c H locs cells slots Q (F0 m pc ls (.int i :: .ref (q 1) :: rest)) := by
  refine va_aldq hexec hb hK hP 1 0 ht_atA rfl (by rw [hi]; exact vp_in_nI hj (by decide)) hdg ?_
  rw [hi, nI_clamp (by omega)]
  exact kk
theorem ht_ldI (hexec : p.tables.exec = Jvm.exec) (hb : c.code = cc) (hK : va_K D ht_cl (ht_ty cA) s) (hP : va_P D ht_cl (ht_w cA q g) H) (r : Nat) {j : Nat} {i : Int32} (h1 : 1 ≤ r) (h4 : r ≤ 4) (hj : j < 12) (hi : i = nI j) (hdg : decode cc pc = .ok (.iaload, 1))
    (kk : W p l e R s m args below meth c H locs cells slots Q (F0 m (pc + 1) ls (.int (g r j) :: rest))) : W p l e R s m args below meth c H locs cells slots Q (F0 m pc ls (.int i :: .ref (q (r + 1)) :: rest)) := by
  refine va_iald hexec hb hK hP (r + 1) 1 (ht_atR h1 h4) rfl (by rw [hi]; exact vp_in_nI hj (by decide)) hdg ?_
  rw [hi, nI_clamp (by omega)]
  exact kk
theorem ht_stI (hexec : p.tables.exec = Jvm.exec) (hb : c.code = cc) (hK : va_K D ht_cl (ht_ty cA) s) (hP : va_P D ht_cl (ht_w cA q g) H) (hD : va_D A (ht_w cA q g)) (hS : va_S A H0 H locs) (r : Nat) {j : Nat} {i x : Int32} (h1 : 1 ≤ r) (h4 : r ≤ 4) (hj : j < 12) (hi : i = nI j) (hdg : decode cc pc = .ok (.iastore, 1))
    (kk : ∀ (H1 : Heap) (locs1 : List Loc), va_P D ht_cl (ht_w cA q (ht_up g r j x)) H1 → va_S A H0 H1 locs1 → W p l e R s m args below meth c H1 locs1 cells slots Q (F0 m (pc + 1) ls rest)) : W p l e R s m args below meth c H locs cells slots Q (F0 m pc ls (.int x :: .int i :: .ref (q (r + 1)) :: rest)) := by
  refine va_iast hexec hb hK hP hD hS (r + 1) 1 (ht_atR h1 h4) rfl (by rw [hi]; exact vp_in_nI hj (by decide)) hdg (fun H1 locs1 hP1 _ hS1 => ?_)
  rw [hi, nI_clamp (by omega), ht_stR h1 h4] at hP1
  exact kk H1 locs1 hP1 hS1
end HTR
end
section
def ht_become (j : Nat) (a b : Int32) (g : ht_G) : ht_G :=
  let g1 := ht_up g (5 + j) 0 1
  let g2 := ht_up g1 (5 + j) 1 1
  let g3 := ht_up g2 (5 + j) 2 a
  let g4 := ht_up g3 (5 + j) 3 b
  let g5 := ht_up g4 (5 + j) 5 a
  let g6 := ht_up g5 (5 + j) 7 1
  let g7 := ht_send j g6
  ht_up g7 (5 + j) 12 (g7 (5 + j) 11)
def ht_wagon (j : Nat) (a b : Int32) (g : ht_G) : ht_G :=
  let g1 := ht_up g (5 + j) 1 1
  let g2 := ht_up g1 (5 + j) 2 a
  ht_up g2 (5 + j) 3 b
def ht_roa (j : Nat) (g : ht_G) : ht_G := if g (5 + j) 6 = 0 then ht_send j g else ht_up g (5 + j) 8 (g (5 + j) 8 + 1)
theorem ht_fb (p : Bool) : fits .boolean (.int (ht_b p)) = true := by cases p <;> rfl
theorem ht_n01 {x : Int32} (h : x = 0 ∨ x = 1) : narrow .boolean (.int x) = .int x := by rcases h with rfl | rfl <;> rfl
theorem ht_f01 {x : Int32} (h : x = 0 ∨ x = 1) : fits .boolean (.int x) = true := by rcases h with rfl | rfl <;> rfl
set_option maxHeartbeats 4000000 in
set_option maxRecDepth 100000 in
theorem xV_lastPlace (l : Launch) (D : va_G) (cA : ClassId × ClassId) (q : Nat → Nat) (g : ht_G) (j : Nat) (hj : j < 8) : Met l yV_lastPlace kV_lastPlace ({ frames := 0, cells := 0, slots := 0, locals := 0 }) (va_Pc [.ref (q (j + 6))] (ht_I D cA q g)) (vp_Si (fun r => r = ht_last (g (5 + j)))) 0 0 (fun _ => False) := by
  refine Met.ofW (cc := cV_lastPlace) (maxL := 1) (ret := (some .int)) (by decide) rfl ?_
  intro p e s m args below meth c s₁ B hml hv
  obtain ⟨rfl, hP, hK, hN⟩ := hv
  have hx := B.exec
  have hb := B.bytes
  have hr := B.returns
  have hts := fun w h => atoms_spec (ws := kV_lastPlace) B.pre w (List.mem_cons_of_mem _ h)
  have hown : s.vm.findClass RV = some m.cls := findClass_of_methodNamed B.named
  have hlocks := B.notSynchronized
  have hl := lv_entry ([.ref (q (j + 6))]) (n := 1) (Nat.le_of_ble_eq_true rfl)
  rw [lg_entry_eq]
  generalize (lg_sl ([.ref (q (j + 6))]) ++ List.replicate (1 - (lg_sl ([.ref (q (j + 6))])).length) Slot.unset).toArray = ls at hl ⊢
  have hl : lv_has ls 1 [(0, .ref (q (j + 6)))] := hl
  refine lv_aload_n hx hb dV_lastPlace_0 rfl (lv_at hl 0 rfl) ?_
  refine va_get (D := D) (ci := 0) (C := RV) (T := TV) (N := 13) (v := .int (g (5 + j) 2)) hx hb hts inV hown hK hP (j + 6) (ht_atV hj) rfl 2 (by decide) (hts _ w29) (fun _ h9 => h9) rfl dV_lastPlace_1 ?_
  refine lv_aload_n hx hb dV_lastPlace_4 rfl (lv_at hl 0 rfl) ?_
  refine va_get (D := D) (ci := 0) (C := RV) (T := TV) (N := 13) (v := .int (g (5 + j) 3)) hx hb hts inV hown hK hP (j + 6) (ht_atV hj) rfl 3 (by decide) (hts _ w31) (fun _ h9 => h9) rfl dV_lastPlace_5 ?_
  refine lv_isub hx hb dV_lastPlace_8 ?_
  refine lv_iconst (v := 1) hx hb dV_lastPlace_9 (by decide) ?_
  refine lv_iadd hx hb dV_lastPlace_10 ?_
  exact W.iret (v := ((g (5 + j) 2) - (g (5 + j) 3)) + 1) hx hb hr (fun t ht hW => ⟨((g (5 + j) 2) - (g (5 + j) 3)) + 1, rfl, by simp [ht_b, ht_last, true_and], ht⟩) (fun _ h => nomatch h) dV_lastPlace_11
set_option maxHeartbeats 4000000 in
set_option maxRecDepth 100000 in
theorem xV_standsWithin (l : Launch) (D : va_G) (cA : ClassId × ClassId) (q : Nat → Nat) (g : ht_G) (j : Nat) (hj : j < 8) (lo hi : Int32) : Met l yV_standsWithin kV_standsWithin ({ frames := 1, cells := 0, slots := 0, locals := 20 }) (va_Pc [.ref (q (j + 6)), .int lo, .int hi] (ht_I D cA q g)) (vp_Si (fun r => r = ht_b (ht_stands (g (5 + j)) lo hi))) 0 0 (fun _ => False) := by
  refine Met.ofW (cc := cV_standsWithin) (maxL := 3) (ret := (some .boolean)) (by decide) rfl ?_
  intro p e s m args below meth c s₁ B hml hv
  obtain ⟨rfl, hP, hK, hN⟩ := hv
  have hx := B.exec
  have hb := B.bytes
  have hr := B.returns
  have hts := fun w h => atoms_spec (ws := kV_standsWithin) B.pre w (List.mem_cons_of_mem _ h)
  have hown : s.vm.findClass RV = some m.cls := findClass_of_methodNamed B.named
  have hlocks := B.notSynchronized
  have hl := lv_entry ([.ref (q (j + 6)), .int lo, .int hi]) (n := 3) (Nat.le_of_ble_eq_true rfl)
  rw [lg_entry_eq]
  generalize (lg_sl ([.ref (q (j + 6)), .int lo, .int hi]) ++ List.replicate (3 - (lg_sl ([.ref (q (j + 6)), .int lo, .int hi])).length) Slot.unset).toArray = ls at hl ⊢
  have hl : lv_has ls 3 [(0, .ref (q (j + 6))), (1, .int lo), (2, .int hi)] := hl
  refine lv_aload_n hx hb dV_standsWithin_0 rfl (lv_at hl 0 rfl) ?_
  refine va_get (D := D) (ci := 0) (C := RV) (T := TV) (N := 13) (v := .int (g (5 + j) 1)) hx hb hts inV hown hK hP (j + 6) (ht_atV hj) rfl 1 (by decide) (hts _ w27) (fun _ h9 => h9) rfl dV_standsWithin_1 ?_
  refine lv_if_eq (tgt := 27) hx hb dV_standsWithin_4 (by decide) (fun c1 => ?_) (fun c1 => ?_)
  · refine lv_iconst (v := 0) hx hb dV_standsWithin_27 (by decide) ?_
    exact W.zret (v := 0) (ty := .boolean) hx hb hr rfl (fun t ht hW => ⟨0, rfl, by simp [ht_b, ht_stands, c1], ht⟩) (fun _ h => nomatch h) dV_standsWithin_28
  · refine lv_aload_n hx hb dV_standsWithin_7 rfl (lv_at hl 0 rfl) ?_
    refine va_get (D := D) (ci := 0) (C := RV) (T := TV) (N := 13) (v := .int (g (5 + j) 2)) hx hb hts inV hown hK hP (j + 6) (ht_atV hj) rfl 2 (by decide) (hts _ w29) (fun _ h9 => h9) rfl dV_standsWithin_8 ?_
    refine lv_iload_n hx hb dV_standsWithin_11 rfl (lv_at hl 1 rfl) ?_
    refine lv_icmp_lt (tgt := 27) hx hb dV_standsWithin_12 (by decide) (fun c2 => ?_) (fun c2 => ?_)
    · refine lv_iconst (v := 0) hx hb dV_standsWithin_27 (by decide) ?_
      exact W.zret (v := 0) (ty := .boolean) hx hb hr rfl (fun t ht hW => ⟨0, rfl, by simp [ht_b, ht_stands, c1, c2], ht⟩) (fun _ h => nomatch h) dV_standsWithin_28
    · refine lv_aload_n hx hb dV_standsWithin_15 rfl (lv_at hl 0 rfl) ?_
      refine vp_callSi (va_Run.run (va_runV (As := []) (rest := []) ⟨hx, hb, hml, hown, hts⟩ (xV_lastPlace l D cA q g j hj ) (cwV 0 hts (ht_gV w201 w203 s3 w2 w204) rfl rfl rfl (by decide +kernel) ⟨Nat.le_of_ble_eq_true rfl, Nat.le_of_ble_eq_true rfl⟩) ⟨ht_bl, va_recv hK hP (ci := 0) (q0 := j + 6) rfl (ht_atV hj), fun U hU hW => ⟨rfl, ht_Im hP hK hN hU hW⟩⟩ rfl rfl hl.1 rfl (lv_room (Nat.le_of_ble_eq_true rfl)) dV_standsWithin_16 ⟨Nat.zero_le _, Nat.zero_le _⟩)) (fun r3 hr3 => ?_)
      subst hr3
      refine lv_iload_n hx hb dV_standsWithin_19 rfl (lv_at hl 2 rfl) ?_
      refine lv_icmp_gt (tgt := 27) hx hb dV_standsWithin_20 (by decide) (fun c4 => ?_) (fun c4 => ?_)
      · refine lv_iconst (v := 0) hx hb dV_standsWithin_27 (by decide) ?_
        exact W.zret (v := 0) (ty := .boolean) hx hb hr rfl (fun t ht hW => ⟨0, rfl, by simp [ht_b, ht_stands, c1, c2, c4], ht⟩) (fun _ h => nomatch h) dV_standsWithin_28
      · refine lv_iconst (v := 1) hx hb dV_standsWithin_23 (by decide) ?_
        refine lv_goto (tgt := 28) hx hb dV_standsWithin_24 (by decide) ?_
        exact W.zret (v := 1) (ty := .boolean) hx hb hr rfl (fun t ht hW => ⟨1, rfl, by simp [ht_b, ht_stands, c1, c2, c4], ht⟩) (fun _ h => nomatch h) dV_standsWithin_28
set_option maxHeartbeats 4000000 in
set_option maxRecDepth 100000 in
theorem xV_isMute (l : Launch) (D : va_G) (cA : ClassId × ClassId) (q : Nat → Nat) (g : ht_G) (j : Nat) (hj : j < 8) : Met l yV_isMute kV_isMute ({ frames := 0, cells := 0, slots := 0, locals := 0 }) (va_Pc [.ref (q (j + 6))] (ht_I D cA q g)) (vp_Si (fun r => r = ht_b (ht_mute (g (5 + j))))) 0 0 (fun _ => False) := by
  refine Met.ofW (cc := cV_isMute) (maxL := 1) (ret := (some .boolean)) (by decide) rfl ?_
  intro p e s m args below meth c s₁ B hml hv
  obtain ⟨rfl, hP, hK, hN⟩ := hv
  have hx := B.exec
  have hb := B.bytes
  have hr := B.returns
  have hts := fun w h => atoms_spec (ws := kV_isMute) B.pre w (List.mem_cons_of_mem _ h)
  have hown : s.vm.findClass RV = some m.cls := findClass_of_methodNamed B.named
  have hlocks := B.notSynchronized
  have hl := lv_entry ([.ref (q (j + 6))]) (n := 1) (Nat.le_of_ble_eq_true rfl)
  rw [lg_entry_eq]
  generalize (lg_sl ([.ref (q (j + 6))]) ++ List.replicate (1 - (lg_sl ([.ref (q (j + 6))])).length) Slot.unset).toArray = ls at hl ⊢
  have hl : lv_has ls 1 [(0, .ref (q (j + 6)))] := hl
  refine lv_aload_n hx hb dV_isMute_0 rfl (lv_at hl 0 rfl) ?_
  refine va_get (D := D) (ci := 0) (C := RV) (T := TV) (N := 13) (v := .int (g (5 + j) 0)) hx hb hts inV hown hK hP (j + 6) (ht_atV hj) rfl 0 (by decide) (hts _ w25) (fun _ h9 => h9) rfl dV_isMute_1 ?_
  refine lv_if_eq (tgt := 19) hx hb dV_isMute_4 (by decide) (fun c1 => ?_) (fun c1 => ?_)
  · refine lv_iconst (v := 0) hx hb dV_isMute_19 (by decide) ?_
    exact W.zret (v := 0) (ty := .boolean) hx hb hr rfl (fun t ht hW => ⟨0, rfl, by simp [ht_b, ht_mute, c1], ht⟩) (fun _ h => nomatch h) dV_isMute_20
  · refine lv_aload_n hx hb dV_isMute_7 rfl (lv_at hl 0 rfl) ?_
    refine va_get (D := D) (ci := 0) (C := RV) (T := TV) (N := 13) (v := .int (g (5 + j) 8)) hx hb hts inV hown hK hP (j + 6) (ht_atV hj) rfl 8 (by decide) (hts _ w41) (fun _ h9 => h9) rfl dV_isMute_8 ?_
    refine lv_iconst (v := 5) hx hb dV_isMute_11 (by decide) ?_
    refine lv_icmp_le (tgt := 19) hx hb dV_isMute_12 (by decide) (fun c2 => ?_) (fun c2 => ?_)
    · refine lv_iconst (v := 0) hx hb dV_isMute_19 (by decide) ?_
      exact W.zret (v := 0) (ty := .boolean) hx hb hr rfl (fun t ht hW => ⟨0, rfl, by simp [ht_b, ht_mute, c1, c2], ht⟩) (fun _ h => nomatch h) dV_isMute_20
    · refine lv_iconst (v := 1) hx hb dV_isMute_15 (by decide) ?_
      refine lv_goto (tgt := 20) hx hb dV_isMute_16 (by decide) ?_
      exact W.zret (v := 1) (ty := .boolean) hx hb hr rfl (fun t ht hW => ⟨1, rfl, by simp [ht_b, ht_mute, c1, c2], ht⟩) (fun _ h => nomatch h) dV_isMute_20
set_option maxHeartbeats 4000000 in
set_option maxRecDepth 100000 in
theorem xV_isLocatedOn (l : Launch) (D : va_G) (cA : ClassId × ClassId) (q : Nat → Nat) (g : ht_G) (j : Nat) (hj : j < 8) (x : Int32) : Met l yV_isLocatedOn kV_isLocatedOn ({ frames := 1, cells := 0, slots := 0, locals := 20 }) (va_Pc [.ref (q (j + 6)), .int x] (ht_I D cA q g)) (vp_Si (fun r => r = ht_b (ht_locOn (g (5 + j)) x))) 0 0 (fun _ => False) := by
  refine Met.ofW (cc := cV_isLocatedOn) (maxL := 2) (ret := (some .boolean)) (by decide) rfl ?_
  intro p e s m args below meth c s₁ B hml hv
  obtain ⟨rfl, hP, hK, hN⟩ := hv
  have hx := B.exec
  have hb := B.bytes
  have hr := B.returns
  have hts := fun w h => atoms_spec (ws := kV_isLocatedOn) B.pre w (List.mem_cons_of_mem _ h)
  have hown : s.vm.findClass RV = some m.cls := findClass_of_methodNamed B.named
  have hlocks := B.notSynchronized
  have hl := lv_entry ([.ref (q (j + 6)), .int x]) (n := 2) (Nat.le_of_ble_eq_true rfl)
  rw [lg_entry_eq]
  generalize (lg_sl ([.ref (q (j + 6)), .int x]) ++ List.replicate (2 - (lg_sl ([.ref (q (j + 6)), .int x])).length) Slot.unset).toArray = ls at hl ⊢
  have hl : lv_has ls 2 [(0, .ref (q (j + 6))), (1, .int x)] := hl
  refine lv_aload_n hx hb dV_isLocatedOn_0 rfl (lv_at hl 0 rfl) ?_
  refine va_get (D := D) (ci := 0) (C := RV) (T := TV) (N := 13) (v := .int (g (5 + j) 0)) hx hb hts inV hown hK hP (j + 6) (ht_atV hj) rfl 0 (by decide) (hts _ w25) (fun _ h9 => h9) rfl dV_isLocatedOn_1 ?_
  refine lv_if_eq (tgt := 37) hx hb dV_isLocatedOn_4 (by decide) (fun c1 => ?_) (fun c1 => ?_)
  · refine lv_iconst (v := 0) hx hb dV_isLocatedOn_37 (by decide) ?_
    exact W.zret (v := 0) (ty := .boolean) hx hb hr rfl (fun t ht hW => ⟨0, rfl, by simp [ht_b, ht_locOn, c1], ht⟩) (fun _ h => nomatch h) dV_isLocatedOn_38
  · refine lv_aload_n hx hb dV_isLocatedOn_7 rfl (lv_at hl 0 rfl) ?_
    refine vp_callSi (va_Run.run (va_runV (As := []) (rest := []) ⟨hx, hb, hml, hown, hts⟩ (xV_isMute l D cA q g j hj ) (cwV 0 hts (ht_gV w238 w240 s11 w2 w241) rfl rfl rfl (by decide +kernel) ⟨Nat.le_of_ble_eq_true rfl, Nat.le_of_ble_eq_true rfl⟩) ⟨ht_bl, va_recv hK hP (ci := 0) (q0 := j + 6) rfl (ht_atV hj), fun U hU hW => ⟨rfl, ht_Im hP hK hN hU hW⟩⟩ rfl rfl hl.1 rfl (lv_room (Nat.le_of_ble_eq_true rfl)) dV_isLocatedOn_8 ⟨Nat.zero_le _, Nat.zero_le _⟩)) (fun r2 hr2 => ?_)
    subst hr2
    refine lv_if_ne (tgt := 37) hx hb dV_isLocatedOn_11 (by decide) (fun c3 => ?_) (fun c3 => ?_)
    · replace c3 := ht_b1.mp c3
      refine lv_iconst (v := 0) hx hb dV_isLocatedOn_37 (by decide) ?_
      exact W.zret (v := 0) (ty := .boolean) hx hb hr rfl (fun t ht hW => ⟨0, rfl, by simp [ht_b, ht_locOn, c1, c3], ht⟩) (fun _ h => nomatch h) dV_isLocatedOn_38
    · replace c3 := ht_b0.mp c3
      refine lv_aload_n hx hb dV_isLocatedOn_14 rfl (lv_at hl 0 rfl) ?_
      refine va_get (D := D) (ci := 0) (C := RV) (T := TV) (N := 13) (v := .int (g (5 + j) 11)) hx hb hts inV hown hK hP (j + 6) (ht_atV hj) rfl 11 (by decide) (hts _ w47) (fun _ h9 => h9) rfl dV_isLocatedOn_15 ?_
      refine lv_iload_n hx hb dV_isLocatedOn_18 rfl (lv_at hl 1 rfl) ?_
      refine lv_icmp_gt (tgt := 37) hx hb dV_isLocatedOn_19 (by decide) (fun c4 => ?_) (fun c4 => ?_)
      · refine lv_iconst (v := 0) hx hb dV_isLocatedOn_37 (by decide) ?_
        exact W.zret (v := 0) (ty := .boolean) hx hb hr rfl (fun t ht hW => ⟨0, rfl, by simp [ht_b, ht_locOn, c1, c3, c4], ht⟩) (fun _ h => nomatch h) dV_isLocatedOn_38
      · refine lv_iload_n hx hb dV_isLocatedOn_22 rfl (lv_at hl 1 rfl) ?_
        refine lv_aload_n hx hb dV_isLocatedOn_23 rfl (lv_at hl 0 rfl) ?_
        refine va_get (D := D) (ci := 0) (C := RV) (T := TV) (N := 13) (v := .int (g (5 + j) 9)) hx hb hts inV hown hK hP (j + 6) (ht_atV hj) rfl 9 (by decide) (hts _ w43) (fun _ h9 => h9) rfl dV_isLocatedOn_24 ?_
        refine lv_bipush (v := 10) hx hb dV_isLocatedOn_27 (by decide) ?_
        refine lv_idiv hx hb dV_isLocatedOn_29 (by decide) ?_
        refine lv_icmp_gt (tgt := 37) hx hb dV_isLocatedOn_30 (by decide) (fun c5 => ?_) (fun c5 => ?_)
        · refine lv_iconst (v := 0) hx hb dV_isLocatedOn_37 (by decide) ?_
          exact W.zret (v := 0) (ty := .boolean) hx hb hr rfl (fun t ht hW => ⟨0, rfl, by simp [ht_b, ht_locOn, c1, c3, c4, c5], ht⟩) (fun _ h => nomatch h) dV_isLocatedOn_38
        · refine lv_iconst (v := 1) hx hb dV_isLocatedOn_33 (by decide) ?_
          refine lv_goto (tgt := 38) hx hb dV_isLocatedOn_34 (by decide) ?_
          exact W.zret (v := 1) (ty := .boolean) hx hb hr rfl (fun t ht hW => ⟨1, rfl, by simp [ht_b, ht_locOn, c1, c3, c4, c5], ht⟩) (fun _ h => nomatch h) dV_isLocatedOn_38
set_option maxHeartbeats 4000000 in
set_option maxRecDepth 100000 in
theorem xV_claimsWithin (l : Launch) (D : va_G) (cA : ClassId × ClassId) (q : Nat → Nat) (g : ht_G) (j : Nat) (hj : j < 8) (a b : Int32) : Met l yV_claimsWithin kV_claimsWithin ({ frames := 0, cells := 0, slots := 0, locals := 0 }) (va_Pc [.ref (q (j + 6)), .int a, .int b] (ht_I D cA q g)) (vp_Si (fun r => r = ht_b (ht_claims (g (5 + j)) a b))) 0 0 (fun _ => False) := by
  refine Met.ofW (cc := cV_claimsWithin) (maxL := 3) (ret := (some .boolean)) (by decide) rfl ?_
  intro p e s m args below meth c s₁ B hml hv
  obtain ⟨rfl, hP, hK, hN⟩ := hv
  have hx := B.exec
  have hb := B.bytes
  have hr := B.returns
  have hts := fun w h => atoms_spec (ws := kV_claimsWithin) B.pre w (List.mem_cons_of_mem _ h)
  have hown : s.vm.findClass RV = some m.cls := findClass_of_methodNamed B.named
  have hlocks := B.notSynchronized
  have hl := lv_entry ([.ref (q (j + 6)), .int a, .int b]) (n := 3) (Nat.le_of_ble_eq_true rfl)
  rw [lg_entry_eq]
  generalize (lg_sl ([.ref (q (j + 6)), .int a, .int b]) ++ List.replicate (3 - (lg_sl ([.ref (q (j + 6)), .int a, .int b])).length) Slot.unset).toArray = ls at hl ⊢
  have hl : lv_has ls 3 [(0, .ref (q (j + 6))), (1, .int a), (2, .int b)] := hl
  refine lv_aload_n hx hb dV_claimsWithin_0 rfl (lv_at hl 0 rfl) ?_
  refine va_get (D := D) (ci := 0) (C := RV) (T := TV) (N := 13) (v := .int (g (5 + j) 0)) hx hb hts inV hown hK hP (j + 6) (ht_atV hj) rfl 0 (by decide) (hts _ w25) (fun _ h9 => h9) rfl dV_claimsWithin_1 ?_
  refine lv_if_eq (tgt := 30) hx hb dV_claimsWithin_4 (by decide) (fun c1 => ?_) (fun c1 => ?_)
  · refine lv_iconst (v := 0) hx hb dV_claimsWithin_30 (by decide) ?_
    exact W.zret (v := 0) (ty := .boolean) hx hb hr rfl (fun t ht hW => ⟨0, rfl, by simp [ht_b, ht_claims, c1], ht⟩) (fun _ h => nomatch h) dV_claimsWithin_31
  · refine lv_aload_n hx hb dV_claimsWithin_7 rfl (lv_at hl 0 rfl) ?_
    refine va_get (D := D) (ci := 0) (C := RV) (T := TV) (N := 13) (v := .int (g (5 + j) 11)) hx hb hts inV hown hK hP (j + 6) (ht_atV hj) rfl 11 (by decide) (hts _ w47) (fun _ h9 => h9) rfl dV_claimsWithin_8 ?_
    refine lv_iload_n hx hb dV_claimsWithin_11 rfl (lv_at hl 2 rfl) ?_
    refine lv_icmp_gt (tgt := 30) hx hb dV_claimsWithin_12 (by decide) (fun c2 => ?_) (fun c2 => ?_)
    · refine lv_iconst (v := 0) hx hb dV_claimsWithin_30 (by decide) ?_
      exact W.zret (v := 0) (ty := .boolean) hx hb hr rfl (fun t ht hW => ⟨0, rfl, by simp [ht_b, ht_claims, c1, c2], ht⟩) (fun _ h => nomatch h) dV_claimsWithin_31
    · refine lv_aload_n hx hb dV_claimsWithin_15 rfl (lv_at hl 0 rfl) ?_
      refine va_get (D := D) (ci := 0) (C := RV) (T := TV) (N := 13) (v := .int (g (5 + j) 5)) hx hb hts inV hown hK hP (j + 6) (ht_atV hj) rfl 5 (by decide) (hts _ w35) (fun _ h9 => h9) rfl dV_claimsWithin_16 ?_
      refine lv_bipush (v := 10) hx hb dV_claimsWithin_19 (by decide) ?_
      refine lv_idiv hx hb dV_claimsWithin_21 (by decide) ?_
      refine lv_iload_n hx hb dV_claimsWithin_22 rfl (lv_at hl 1 rfl) ?_
      refine lv_icmp_lt (tgt := 30) hx hb dV_claimsWithin_23 (by decide) (fun c3 => ?_) (fun c3 => ?_)
      · refine lv_iconst (v := 0) hx hb dV_claimsWithin_30 (by decide) ?_
        exact W.zret (v := 0) (ty := .boolean) hx hb hr rfl (fun t ht hW => ⟨0, rfl, by simp [ht_b, ht_claims, c1, c2, c3], ht⟩) (fun _ h => nomatch h) dV_claimsWithin_31
      · refine lv_iconst (v := 1) hx hb dV_claimsWithin_26 (by decide) ?_
        refine lv_goto (tgt := 31) hx hb dV_claimsWithin_27 (by decide) ?_
        exact W.zret (v := 1) (ty := .boolean) hx hb hr rfl (fun t ht hW => ⟨1, rfl, by simp [ht_b, ht_claims, c1, c2, c3], ht⟩) (fun _ h => nomatch h) dV_claimsWithin_31
set_option maxHeartbeats 4000000 in
set_option maxRecDepth 100000 in
theorem xV_hasLeft (l : Launch) (D : va_G) (cA : ClassId × ClassId) (q : Nat → Nat) (g : ht_G) (j : Nat) (hj : j < 8) (x : Int32) : Met l yV_hasLeft kV_hasLeft ({ frames := 0, cells := 0, slots := 0, locals := 0 }) (va_Pc [.ref (q (j + 6)), .int x] (ht_I D cA q g)) (vp_Si (fun r => r = ht_b (ht_left (g (5 + j)) x))) 0 0 (fun _ => False) := by
  refine Met.ofW (cc := cV_hasLeft) (maxL := 2) (ret := (some .boolean)) (by decide) rfl ?_
  intro p e s m args below meth c s₁ B hml hv
  obtain ⟨rfl, hP, hK, hN⟩ := hv
  have hx := B.exec
  have hb := B.bytes
  have hr := B.returns
  have hts := fun w h => atoms_spec (ws := kV_hasLeft) B.pre w (List.mem_cons_of_mem _ h)
  have hown : s.vm.findClass RV = some m.cls := findClass_of_methodNamed B.named
  have hlocks := B.notSynchronized
  have hl := lv_entry ([.ref (q (j + 6)), .int x]) (n := 2) (Nat.le_of_ble_eq_true rfl)
  rw [lg_entry_eq]
  generalize (lg_sl ([.ref (q (j + 6)), .int x]) ++ List.replicate (2 - (lg_sl ([.ref (q (j + 6)), .int x])).length) Slot.unset).toArray = ls at hl ⊢
  have hl : lv_has ls 2 [(0, .ref (q (j + 6))), (1, .int x)] := hl
  refine lv_aload_n hx hb dV_hasLeft_0 rfl (lv_at hl 0 rfl) ?_
  refine va_get (D := D) (ci := 0) (C := RV) (T := TV) (N := 13) (v := .int (g (5 + j) 12)) hx hb hts inV hown hK hP (j + 6) (ht_atV hj) rfl 12 (by decide) (hts _ w48) (fun _ h9 => h9) rfl dV_hasLeft_1 ?_
  refine lv_iload_n hx hb dV_hasLeft_4 rfl (lv_at hl 1 rfl) ?_
  refine lv_icmp_gt (tgt := 20) hx hb dV_hasLeft_5 (by decide) (fun c1 => ?_) (fun c1 => ?_)
  · refine lv_iconst (v := 0) hx hb dV_hasLeft_20 (by decide) ?_
    exact W.zret (v := 0) (ty := .boolean) hx hb hr rfl (fun t ht hW => ⟨0, rfl, by simp [ht_b, ht_left, c1], ht⟩) (fun _ h => nomatch h) dV_hasLeft_21
  · refine lv_iload_n hx hb dV_hasLeft_8 rfl (lv_at hl 1 rfl) ?_
    refine lv_aload_n hx hb dV_hasLeft_9 rfl (lv_at hl 0 rfl) ?_
    refine va_get (D := D) (ci := 0) (C := RV) (T := TV) (N := 13) (v := .int (g (5 + j) 11)) hx hb hts inV hown hK hP (j + 6) (ht_atV hj) rfl 11 (by decide) (hts _ w47) (fun _ h9 => h9) rfl dV_hasLeft_10 ?_
    refine lv_icmp_ge (tgt := 20) hx hb dV_hasLeft_13 (by decide) (fun c2 => ?_) (fun c2 => ?_)
    · refine lv_iconst (v := 0) hx hb dV_hasLeft_20 (by decide) ?_
      exact W.zret (v := 0) (ty := .boolean) hx hb hr rfl (fun t ht hW => ⟨0, rfl, by simp [ht_b, ht_left, c1, c2], ht⟩) (fun _ h => nomatch h) dV_hasLeft_21
    · refine lv_iconst (v := 1) hx hb dV_hasLeft_16 (by decide) ?_
      refine lv_goto (tgt := 21) hx hb dV_hasLeft_17 (by decide) ?_
      exact W.zret (v := 1) (ty := .boolean) hx hb hr rfl (fun t ht hW => ⟨1, rfl, by simp [ht_b, ht_left, c1, c2], ht⟩) (fun _ h => nomatch h) dV_hasLeft_21
set_option maxHeartbeats 4000000 in
set_option maxRecDepth 100000 in
theorem xV_sendReport (l : Launch) (D : va_G) (cA : ClassId × ClassId) (q : Nat → Nat) (hJ : mw_J 14 q) (sz : Nat) (g : ht_G) (j : Nat) (hj : j < 8) (hw : g (5 + j) 7 = 0 ∨ g (5 + j) 7 = 1) : Met l yV_sendReport kV_sendReport ({ frames := 1, cells := 0, slots := 0, locals := 20 }) (va_Pc [.ref (q (j + 6))] (fun U => U.heap.size = sz ∧ ht_I D cA q g U)) (va_Qv (fun _ : Unit => True) (fun _ t => ht_I D cA q (ht_send j g) t) (mw_A 14 q sz)) 0 0 (mw_A 14 q sz) := by
  refine Met.ofW (cc := cV_sendReport) (maxL := 1) (ret := none) (by decide) rfl ?_
  intro p e s m args below meth c s₁ B hml hv
  obtain ⟨rfl, hsz, hP, hK, hN⟩ := hv
  have hx := B.exec
  have hb := B.bytes
  have hr := B.returns
  have hts := fun w h => atoms_spec (ws := kV_sendReport) B.pre w (List.mem_cons_of_mem _ h)
  have hown : s.vm.findClass RV = some m.cls := findClass_of_methodNamed B.named
  have hlocks := B.notSynchronized
  subst hsz
  have hS : va_S (mw_A 14 q s.heap.size) s.heap s.heap [] := va_S.rf
  have hl := lv_entry ([.ref (q (j + 6))]) (n := 1) (Nat.le_of_ble_eq_true rfl)
  rw [lg_entry_eq]
  generalize (lg_sl ([.ref (q (j + 6))]) ++ List.replicate (1 - (lg_sl ([.ref (q (j + 6))])).length) Slot.unset).toArray = ls at hl ⊢
  have hl : lv_has ls 1 [(0, .ref (q (j + 6)))] := hl
  refine lv_aload_n hx hb dV_sendReport_0 rfl (lv_at hl 0 rfl) ?_
  refine lv_aload_n hx hb dV_sendReport_1 rfl (lv_at hl 0 rfl) ?_
  refine va_get (D := D) (ci := 0) (C := RV) (T := TV) (N := 13) (v := .int (g (5 + j) 2)) hx hb hts inV hown hK hP (j + 6) (ht_atV hj) rfl 2 (by decide) (hts _ w29) (fun _ h9 => h9) rfl dV_sendReport_2 ?_
  refine va_put (D := D) (ci := 0) (C := RV) (T := TV) (N := 13) (v := .int (g (5 + j) 2)) (ty := .int) hx hb hts inV tyV tyV_ok nmV hown hK hP (mw_DA hJ) hS (j + 6) (ht_atV hj) rfl 9 (by decide) (hts _ w43) (fun _ h9 => h9) rfl rfl rfl rfl (Nat.le_of_ble_eq_true rfl) dV_sendReport_5 (fun H locs hP _ hS => ?_)
  rw [ht_stV hj (by decide)] at hP
  obtain ⟨g1, eg1⟩ : ∃ z, z = ht_up g (5 + j) 9 (g (5 + j) 2) := ⟨_, rfl⟩
  rw [← eg1] at hP
  refine lv_aload_n hx hb dV_sendReport_8 rfl (lv_at hl 0 rfl) ?_
  refine lv_aload_n hx hb dV_sendReport_9 rfl (lv_at hl 0 rfl) ?_
  refine va_get (D := D) (ci := 0) (C := RV) (T := TV) (N := 13) (v := .int (g1 (5 + j) 7)) hx hb hts inV hown hK hP (j + 6) (ht_atV hj) rfl 7 (by decide) (hts _ w39) (fun _ h9 => h9) rfl dV_sendReport_10 ?_
  refine va_put (D := D) (ci := 0) (C := RV) (T := TV) (N := 13) (v := .int (g1 (5 + j) 7)) (ty := .boolean) hx hb hts inV tyV tyV_ok nmV hown hK hP (mw_DA hJ) hS (j + 6) (ht_atV hj) rfl 10 (by decide) (hts _ w45) (fun _ h9 => h9) rfl rfl (ht_n01 (by simpa [ht_up, eg1] using hw)) (ht_f01 (by simpa [ht_up, eg1] using hw)) (Nat.le_of_ble_eq_true rfl) dV_sendReport_13 (fun H locs hP _ hS => ?_)
  rw [ht_stV hj (by decide)] at hP
  obtain ⟨g2, eg2⟩ : ∃ z, z = ht_up g1 (5 + j) 10 (g1 (5 + j) 7) := ⟨_, rfl⟩
  rw [← eg2] at hP
  refine lv_aload_n hx hb dV_sendReport_16 rfl (lv_at hl 0 rfl) ?_
  refine lv_aload_n hx hb dV_sendReport_17 rfl (lv_at hl 0 rfl) ?_
  refine va_get (D := D) (ci := 0) (C := RV) (T := TV) (N := 13) (v := .int (g2 (5 + j) 11)) hx hb hts inV hown hK hP (j + 6) (ht_atV hj) rfl 11 (by decide) (hts _ w47) (fun _ h9 => h9) rfl dV_sendReport_18 ?_
  refine va_put (D := D) (ci := 0) (C := RV) (T := TV) (N := 13) (v := .int (g2 (5 + j) 11)) (ty := .int) hx hb hts inV tyV tyV_ok nmV hown hK hP (mw_DA hJ) hS (j + 6) (ht_atV hj) rfl 12 (by decide) (hts _ w48) (fun _ h9 => h9) rfl rfl rfl rfl (Nat.le_of_ble_eq_true rfl) dV_sendReport_21 (fun H locs hP _ hS => ?_)
  rw [ht_stV hj (by decide)] at hP
  obtain ⟨g3, eg3⟩ : ∃ z, z = ht_up g2 (5 + j) 12 (g2 (5 + j) 11) := ⟨_, rfl⟩
  rw [← eg3] at hP
  refine lv_aload_n hx hb dV_sendReport_24 rfl (lv_at hl 0 rfl) ?_
  refine lv_aload_n hx hb dV_sendReport_25 rfl (lv_at hl 0 rfl) ?_
  refine vp_callSi (va_Run.run (va_runV (As := []) (rest := [.ref (q (j + 6))]) ⟨hx, hb, hml, hown, hts⟩ (xV_lastPlace l D cA q g3 j hj ) (cwV 0 hts (ht_gV w201 w203 s3 w2 w204) rfl rfl rfl (by decide +kernel) ⟨Nat.le_of_ble_eq_true rfl, Nat.le_of_ble_eq_true rfl⟩) ⟨ht_bl, va_recv hK hP (ci := 0) (q0 := j + 6) rfl (ht_atV hj), fun U hU hW => ⟨rfl, ht_Im hP hK hN hU hW⟩⟩ rfl rfl hl.1 rfl (lv_room (Nat.le_of_ble_eq_true rfl)) dV_sendReport_26 ⟨Nat.zero_le _, Nat.zero_le _⟩)) (fun r4 hr4 => ?_)
  subst hr4
  refine lv_bipush (v := 10) hx hb dV_sendReport_29 (by decide) ?_
  refine lv_idiv hx hb dV_sendReport_31 (by decide) ?_
  refine va_put (D := D) (ci := 0) (C := RV) (T := TV) (N := 13) (v := .int ((ht_last (g3 (5 + j))) / 10)) (ty := .int) hx hb hts inV tyV tyV_ok nmV hown hK hP (mw_DA hJ) hS (j + 6) (ht_atV hj) rfl 11 (by decide) (hts _ w47) (fun _ h9 => h9) rfl rfl rfl rfl (Nat.le_of_ble_eq_true rfl) dV_sendReport_32 (fun H locs hP _ hS => ?_)
  rw [ht_stV hj (by decide)] at hP
  obtain ⟨g5, eg5⟩ : ∃ z, z = ht_up g3 (5 + j) 11 ((ht_last (g3 (5 + j))) / 10) := ⟨_, rfl⟩
  rw [← eg5] at hP
  refine lv_aload_n hx hb dV_sendReport_35 rfl (lv_at hl 0 rfl) ?_
  refine lv_iconst (v := 0) hx hb dV_sendReport_36 (by decide) ?_
  refine va_put (D := D) (ci := 0) (C := RV) (T := TV) (N := 13) (v := .int 0) (ty := .int) hx hb hts inV tyV tyV_ok nmV hown hK hP (mw_DA hJ) hS (j + 6) (ht_atV hj) rfl 8 (by decide) (hts _ w41) (fun _ h9 => h9) rfl rfl rfl rfl (Nat.le_of_ble_eq_true rfl) dV_sendReport_37 (fun H locs hP _ hS => ?_)
  rw [ht_stV hj (by decide)] at hP
  obtain ⟨g6, eg6⟩ : ∃ z, z = ht_up g5 (5 + j) 8 0 := ⟨_, rfl⟩
  rw [← eg6] at hP
  have hG : g6 = ht_send j g := by simp only [ht_send, eg1, eg2, eg3, eg5, eg6]
  rw [hG] at hP
  exact W.vret hx hb hr (fun t ht hW => ⟨⟨(), rfl, trivial, ht_Im hP hK hN ht hW⟩, hS.F ht⟩) hS.2.2 dV_sendReport_40
set_option maxHeartbeats 4000000 in
set_option maxRecDepth 100000 in
theorem xV_becomeTrain (l : Launch) (D : va_G) (cA : ClassId × ClassId) (q : Nat → Nat) (hJ : mw_J 14 q) (sz : Nat) (g : ht_G) (j : Nat) (hj : j < 8) (a b : Int32) : Met l yV_becomeTrain kV_becomeTrain ({ frames := 2, cells := 0, slots := 0, locals := 40 }) (va_Pc [.ref (q (j + 6)), .int a, .int b] (fun U => U.heap.size = sz ∧ ht_I D cA q g U)) (va_Qv (fun _ : Unit => True) (fun _ t => ht_I D cA q (ht_become j a b g) t) (mw_A 14 q sz)) 0 0 (mw_A 14 q sz) := by
  refine Met.ofW (cc := cV_becomeTrain) (maxL := 3) (ret := none) (by decide) rfl ?_
  intro p e s m args below meth c s₁ B hml hv
  obtain ⟨rfl, hsz, hP, hK, hN⟩ := hv
  have hx := B.exec
  have hb := B.bytes
  have hr := B.returns
  have hts := fun w h => atoms_spec (ws := kV_becomeTrain) B.pre w (List.mem_cons_of_mem _ h)
  have hown : s.vm.findClass RV = some m.cls := findClass_of_methodNamed B.named
  have hlocks := B.notSynchronized
  subst hsz
  have hS : va_S (mw_A 14 q s.heap.size) s.heap s.heap [] := va_S.rf
  have hl := lv_entry ([.ref (q (j + 6)), .int a, .int b]) (n := 3) (Nat.le_of_ble_eq_true rfl)
  rw [lg_entry_eq]
  generalize (lg_sl ([.ref (q (j + 6)), .int a, .int b]) ++ List.replicate (3 - (lg_sl ([.ref (q (j + 6)), .int a, .int b])).length) Slot.unset).toArray = ls at hl ⊢
  have hl : lv_has ls 3 [(0, .ref (q (j + 6))), (1, .int a), (2, .int b)] := hl
  refine lv_aload_n hx hb dV_becomeTrain_0 rfl (lv_at hl 0 rfl) ?_
  refine lv_iconst (v := 1) hx hb dV_becomeTrain_1 (by decide) ?_
  refine va_put (D := D) (ci := 0) (C := RV) (T := TV) (N := 13) (v := .int 1) (ty := .boolean) hx hb hts inV tyV tyV_ok nmV hown hK hP (mw_DA hJ) hS (j + 6) (ht_atV hj) rfl 0 (by decide) (hts _ w25) (fun _ h9 => h9) rfl rfl rfl rfl (Nat.le_of_ble_eq_true rfl) dV_becomeTrain_2 (fun H locs hP _ hS => ?_)
  rw [ht_stV hj (by decide)] at hP
  obtain ⟨g1, eg1⟩ : ∃ z, z = ht_up g (5 + j) 0 1 := ⟨_, rfl⟩
  rw [← eg1] at hP
  refine lv_aload_n hx hb dV_becomeTrain_5 rfl (lv_at hl 0 rfl) ?_
  refine lv_iconst (v := 1) hx hb dV_becomeTrain_6 (by decide) ?_
  refine va_put (D := D) (ci := 0) (C := RV) (T := TV) (N := 13) (v := .int 1) (ty := .boolean) hx hb hts inV tyV tyV_ok nmV hown hK hP (mw_DA hJ) hS (j + 6) (ht_atV hj) rfl 1 (by decide) (hts _ w27) (fun _ h9 => h9) rfl rfl rfl rfl (Nat.le_of_ble_eq_true rfl) dV_becomeTrain_7 (fun H locs hP _ hS => ?_)
  rw [ht_stV hj (by decide)] at hP
  obtain ⟨g2, eg2⟩ : ∃ z, z = ht_up g1 (5 + j) 1 1 := ⟨_, rfl⟩
  rw [← eg2] at hP
  refine lv_aload_n hx hb dV_becomeTrain_10 rfl (lv_at hl 0 rfl) ?_
  refine lv_iload_n hx hb dV_becomeTrain_11 rfl (lv_at hl 1 rfl) ?_
  refine va_put (D := D) (ci := 0) (C := RV) (T := TV) (N := 13) (v := .int a) (ty := .int) hx hb hts inV tyV tyV_ok nmV hown hK hP (mw_DA hJ) hS (j + 6) (ht_atV hj) rfl 2 (by decide) (hts _ w29) (fun _ h9 => h9) rfl rfl rfl rfl (Nat.le_of_ble_eq_true rfl) dV_becomeTrain_12 (fun H locs hP _ hS => ?_)
  rw [ht_stV hj (by decide)] at hP
  obtain ⟨g3, eg3⟩ : ∃ z, z = ht_up g2 (5 + j) 2 a := ⟨_, rfl⟩
  rw [← eg3] at hP
  refine lv_aload_n hx hb dV_becomeTrain_15 rfl (lv_at hl 0 rfl) ?_
  refine lv_iload_n hx hb dV_becomeTrain_16 rfl (lv_at hl 2 rfl) ?_
  refine va_put (D := D) (ci := 0) (C := RV) (T := TV) (N := 13) (v := .int b) (ty := .int) hx hb hts inV tyV tyV_ok nmV hown hK hP (mw_DA hJ) hS (j + 6) (ht_atV hj) rfl 3 (by decide) (hts _ w31) (fun _ h9 => h9) rfl rfl rfl rfl (Nat.le_of_ble_eq_true rfl) dV_becomeTrain_17 (fun H locs hP _ hS => ?_)
  rw [ht_stV hj (by decide)] at hP
  obtain ⟨g4, eg4⟩ : ∃ z, z = ht_up g3 (5 + j) 3 b := ⟨_, rfl⟩
  rw [← eg4] at hP
  refine lv_aload_n hx hb dV_becomeTrain_20 rfl (lv_at hl 0 rfl) ?_
  refine lv_iload_n hx hb dV_becomeTrain_21 rfl (lv_at hl 1 rfl) ?_
  refine va_put (D := D) (ci := 0) (C := RV) (T := TV) (N := 13) (v := .int a) (ty := .int) hx hb hts inV tyV tyV_ok nmV hown hK hP (mw_DA hJ) hS (j + 6) (ht_atV hj) rfl 5 (by decide) (hts _ w35) (fun _ h9 => h9) rfl rfl rfl rfl (Nat.le_of_ble_eq_true rfl) dV_becomeTrain_22 (fun H locs hP _ hS => ?_)
  rw [ht_stV hj (by decide)] at hP
  obtain ⟨g5, eg5⟩ : ∃ z, z = ht_up g4 (5 + j) 5 a := ⟨_, rfl⟩
  rw [← eg5] at hP
  refine lv_aload_n hx hb dV_becomeTrain_25 rfl (lv_at hl 0 rfl) ?_
  refine lv_iconst (v := 1) hx hb dV_becomeTrain_26 (by decide) ?_
  refine va_put (D := D) (ci := 0) (C := RV) (T := TV) (N := 13) (v := .int 1) (ty := .boolean) hx hb hts inV tyV tyV_ok nmV hown hK hP (mw_DA hJ) hS (j + 6) (ht_atV hj) rfl 7 (by decide) (hts _ w39) (fun _ h9 => h9) rfl rfl rfl rfl (Nat.le_of_ble_eq_true rfl) dV_becomeTrain_27 (fun H locs hP _ hS => ?_)
  rw [ht_stV hj (by decide)] at hP
  obtain ⟨g6, eg6⟩ : ∃ z, z = ht_up g5 (5 + j) 7 1 := ⟨_, rfl⟩
  rw [← eg6] at hP
  refine lv_aload_n hx hb dV_becomeTrain_30 rfl (lv_at hl 0 rfl) ?_
  refine va_callv (va_runV (As := []) (rest := []) ⟨hx, hb, hml, hown, hts⟩ (xV_sendReport l D cA q hJ _ g6 j hj (by simp [ht_up, eg1, eg2, eg3, eg4, eg5, eg6])) (cwV 0 hts (ht_gV w222 w224 s7 w2 w225) rfl rfl rfl (by decide +kernel) ⟨Nat.le_of_ble_eq_true rfl, Nat.le_of_ble_eq_true rfl⟩) ⟨ht_bls, va_recv hK hP (ci := 0) (q0 := j + 6) rfl (ht_atV hj), fun U hU hW => ⟨rfl, by rw [hU], ht_Im hP hK hN hU hW⟩⟩ rfl rfl hl.1 rfl (lv_room (Nat.le_of_ble_eq_true rfl)) dV_becomeTrain_31 ⟨Nat.zero_le _, Nat.zero_le _⟩) hS mw_AA (mw_AF hS.1) (fun u7 t7 H locs ht7 hvm7 hw7 hB7 hz7 hk7 hS => ?_)
  have hP := hB7.1
  rw [ht7] at hP
  obtain ⟨g8, eg8⟩ : ∃ z, z = ht_send j g6 := ⟨_, rfl⟩
  rw [← eg8] at hP
  refine lv_aload_n hx hb dV_becomeTrain_34 rfl (lv_at hl 0 rfl) ?_
  refine lv_aload_n hx hb dV_becomeTrain_35 rfl (lv_at hl 0 rfl) ?_
  refine va_get (D := D) (ci := 0) (C := RV) (T := TV) (N := 13) (v := .int (g8 (5 + j) 11)) hx hb hts inV hown hK hP (j + 6) (ht_atV hj) rfl 11 (by decide) (hts _ w47) (fun _ h9 => h9) rfl dV_becomeTrain_36 ?_
  refine va_put (D := D) (ci := 0) (C := RV) (T := TV) (N := 13) (v := .int (g8 (5 + j) 11)) (ty := .int) hx hb hts inV tyV tyV_ok nmV hown hK hP (mw_DA hJ) hS (j + 6) (ht_atV hj) rfl 12 (by decide) (hts _ w48) (fun _ h9 => h9) rfl rfl rfl rfl (Nat.le_of_ble_eq_true rfl) dV_becomeTrain_39 (fun H locs hP _ hS => ?_)
  rw [ht_stV hj (by decide)] at hP
  obtain ⟨g9, eg9⟩ : ∃ z, z = ht_up g8 (5 + j) 12 (g8 (5 + j) 11) := ⟨_, rfl⟩
  rw [← eg9] at hP
  have hG : g9 = ht_become j a b g := by simp only [ht_become, eg1, eg2, eg3, eg4, eg5, eg6, eg8, eg9]
  rw [hG] at hP
  exact W.vret hx hb hr (fun t ht hW => ⟨⟨(), rfl, trivial, ht_Im hP hK hN ht hW⟩, hS.F ht⟩) hS.2.2 dV_becomeTrain_42
set_option maxHeartbeats 4000000 in
set_option maxRecDepth 100000 in
theorem xV_becomeWagon (l : Launch) (D : va_G) (cA : ClassId × ClassId) (q : Nat → Nat) (hJ : mw_J 14 q) (sz : Nat) (g : ht_G) (j : Nat) (hj : j < 8) (a b : Int32) : Met l yV_becomeWagon kV_becomeWagon ({ frames := 0, cells := 0, slots := 0, locals := 0 }) (va_Pc [.ref (q (j + 6)), .int a, .int b] (fun U => U.heap.size = sz ∧ ht_I D cA q g U)) (va_Qv (fun _ : Unit => True) (fun _ t => ht_I D cA q (ht_wagon j a b g) t) (mw_A 14 q sz)) 0 0 (mw_A 14 q sz) := by
  refine Met.ofW (cc := cV_becomeWagon) (maxL := 3) (ret := none) (by decide) rfl ?_
  intro p e s m args below meth c s₁ B hml hv
  obtain ⟨rfl, hsz, hP, hK, hN⟩ := hv
  have hx := B.exec
  have hb := B.bytes
  have hr := B.returns
  have hts := fun w h => atoms_spec (ws := kV_becomeWagon) B.pre w (List.mem_cons_of_mem _ h)
  have hown : s.vm.findClass RV = some m.cls := findClass_of_methodNamed B.named
  have hlocks := B.notSynchronized
  subst hsz
  have hS : va_S (mw_A 14 q s.heap.size) s.heap s.heap [] := va_S.rf
  have hl := lv_entry ([.ref (q (j + 6)), .int a, .int b]) (n := 3) (Nat.le_of_ble_eq_true rfl)
  rw [lg_entry_eq]
  generalize (lg_sl ([.ref (q (j + 6)), .int a, .int b]) ++ List.replicate (3 - (lg_sl ([.ref (q (j + 6)), .int a, .int b])).length) Slot.unset).toArray = ls at hl ⊢
  have hl : lv_has ls 3 [(0, .ref (q (j + 6))), (1, .int a), (2, .int b)] := hl
  refine lv_aload_n hx hb dV_becomeWagon_0 rfl (lv_at hl 0 rfl) ?_
  refine lv_iconst (v := 1) hx hb dV_becomeWagon_1 (by decide) ?_
  refine va_put (D := D) (ci := 0) (C := RV) (T := TV) (N := 13) (v := .int 1) (ty := .boolean) hx hb hts inV tyV tyV_ok nmV hown hK hP (mw_DA hJ) hS (j + 6) (ht_atV hj) rfl 1 (by decide) (hts _ w27) (fun _ h9 => h9) rfl rfl rfl rfl (Nat.le_of_ble_eq_true rfl) dV_becomeWagon_2 (fun H locs hP _ hS => ?_)
  rw [ht_stV hj (by decide)] at hP
  obtain ⟨g1, eg1⟩ : ∃ z, z = ht_up g (5 + j) 1 1 := ⟨_, rfl⟩
  rw [← eg1] at hP
  refine lv_aload_n hx hb dV_becomeWagon_5 rfl (lv_at hl 0 rfl) ?_
  refine lv_iload_n hx hb dV_becomeWagon_6 rfl (lv_at hl 1 rfl) ?_
  refine va_put (D := D) (ci := 0) (C := RV) (T := TV) (N := 13) (v := .int a) (ty := .int) hx hb hts inV tyV tyV_ok nmV hown hK hP (mw_DA hJ) hS (j + 6) (ht_atV hj) rfl 2 (by decide) (hts _ w29) (fun _ h9 => h9) rfl rfl rfl rfl (Nat.le_of_ble_eq_true rfl) dV_becomeWagon_7 (fun H locs hP _ hS => ?_)
  rw [ht_stV hj (by decide)] at hP
  obtain ⟨g2, eg2⟩ : ∃ z, z = ht_up g1 (5 + j) 2 a := ⟨_, rfl⟩
  rw [← eg2] at hP
  refine lv_aload_n hx hb dV_becomeWagon_10 rfl (lv_at hl 0 rfl) ?_
  refine lv_iload_n hx hb dV_becomeWagon_11 rfl (lv_at hl 2 rfl) ?_
  refine va_put (D := D) (ci := 0) (C := RV) (T := TV) (N := 13) (v := .int b) (ty := .int) hx hb hts inV tyV tyV_ok nmV hown hK hP (mw_DA hJ) hS (j + 6) (ht_atV hj) rfl 3 (by decide) (hts _ w31) (fun _ h9 => h9) rfl rfl rfl rfl (Nat.le_of_ble_eq_true rfl) dV_becomeWagon_12 (fun H locs hP _ hS => ?_)
  rw [ht_stV hj (by decide)] at hP
  obtain ⟨g3, eg3⟩ : ∃ z, z = ht_up g2 (5 + j) 3 b := ⟨_, rfl⟩
  rw [← eg3] at hP
  have hG : g3 = ht_wagon j a b g := by simp only [ht_wagon, eg1, eg2, eg3]
  rw [hG] at hP
  exact W.vret hx hb hr (fun t ht hW => ⟨⟨(), rfl, trivial, ht_Im hP hK hN ht hW⟩, hS.F ht⟩) hS.2.2 dV_becomeWagon_15
set_option maxHeartbeats 4000000 in
set_option maxRecDepth 100000 in
theorem xV_reportOrAge (l : Launch) (D : va_G) (cA : ClassId × ClassId) (q : Nat → Nat) (hJ : mw_J 14 q) (sz : Nat) (g : ht_G) (j : Nat) (hj : j < 8) (hw : g (5 + j) 7 = 0 ∨ g (5 + j) 7 = 1) : Met l yV_reportOrAge kV_reportOrAge ({ frames := 2, cells := 0, slots := 0, locals := 40 }) (va_Pc [.ref (q (j + 6))] (fun U => U.heap.size = sz ∧ ht_I D cA q g U)) (va_Qv (fun _ : Unit => True) (fun _ t => ht_I D cA q (ht_roa j g) t) (mw_A 14 q sz)) 0 0 (mw_A 14 q sz) := by
  refine Met.ofW (cc := cV_reportOrAge) (maxL := 1) (ret := none) (by decide) rfl ?_
  intro p e s m args below meth c s₁ B hml hv
  obtain ⟨rfl, hsz, hP, hK, hN⟩ := hv
  have hx := B.exec
  have hb := B.bytes
  have hr := B.returns
  have hts := fun w h => atoms_spec (ws := kV_reportOrAge) B.pre w (List.mem_cons_of_mem _ h)
  have hown : s.vm.findClass RV = some m.cls := findClass_of_methodNamed B.named
  have hlocks := B.notSynchronized
  subst hsz
  have hS : va_S (mw_A 14 q s.heap.size) s.heap s.heap [] := va_S.rf
  have hl := lv_entry ([.ref (q (j + 6))]) (n := 1) (Nat.le_of_ble_eq_true rfl)
  rw [lg_entry_eq]
  generalize (lg_sl ([.ref (q (j + 6))]) ++ List.replicate (1 - (lg_sl ([.ref (q (j + 6))])).length) Slot.unset).toArray = ls at hl ⊢
  have hl : lv_has ls 1 [(0, .ref (q (j + 6)))] := hl
  refine lv_aload_n hx hb dV_reportOrAge_0 rfl (lv_at hl 0 rfl) ?_
  refine va_get (D := D) (ci := 0) (C := RV) (T := TV) (N := 13) (v := .int (g (5 + j) 6)) hx hb hts inV hown hK hP (j + 6) (ht_atV hj) rfl 6 (by decide) (hts _ w37) (fun _ h9 => h9) rfl dV_reportOrAge_1 ?_
  refine lv_if_eq (tgt := 20) hx hb dV_reportOrAge_4 (by decide) (fun c1 => ?_) (fun c1 => ?_)
  · refine lv_aload_n hx hb dV_reportOrAge_20 rfl (lv_at hl 0 rfl) ?_
    refine va_callv (va_runV (As := []) (rest := []) ⟨hx, hb, hml, hown, hts⟩ (xV_sendReport l D cA q hJ _ g j hj hw) (cwV 0 hts (ht_gV w222 w224 s7 w2 w225) rfl rfl rfl (by decide +kernel) ⟨Nat.le_of_ble_eq_true rfl, Nat.le_of_ble_eq_true rfl⟩) ⟨ht_bls, va_recv hK hP (ci := 0) (q0 := j + 6) rfl (ht_atV hj), fun U hU hW => ⟨rfl, by rw [hU], ht_Im hP hK hN hU hW⟩⟩ rfl rfl hl.1 rfl (lv_room (Nat.le_of_ble_eq_true rfl)) dV_reportOrAge_21 ⟨Nat.zero_le _, Nat.zero_le _⟩) hS mw_AA (mw_AF hS.1) (fun u2 t2 H locs ht2 hvm2 hw2 hB2 hz2 hk2 hS => ?_)
    have hP := hB2.1
    rw [ht2] at hP
    obtain ⟨g3, eg3⟩ : ∃ z, z = ht_send j g := ⟨_, rfl⟩
    rw [← eg3] at hP
    have hG : g3 = ht_roa j g := by simp [ht_roa, c1, eg3]
    rw [hG] at hP
    exact W.vret hx hb hr (fun t ht hW => ⟨⟨(), rfl, trivial, ht_Im hP hK hN ht hW⟩, hS.F ht⟩) hS.2.2 dV_reportOrAge_24
  · refine lv_aload_n hx hb dV_reportOrAge_7 rfl (lv_at hl 0 rfl) ?_
    refine lv_dup hx hb dV_reportOrAge_8 rfl ?_
    refine va_get (D := D) (ci := 0) (C := RV) (T := TV) (N := 13) (v := .int (g (5 + j) 8)) hx hb hts inV hown hK hP (j + 6) (ht_atV hj) rfl 8 (by decide) (hts _ w41) (fun _ h9 => h9) rfl dV_reportOrAge_9 ?_
    refine lv_iconst (v := 1) hx hb dV_reportOrAge_12 (by decide) ?_
    refine lv_iadd hx hb dV_reportOrAge_13 ?_
    refine va_put (D := D) (ci := 0) (C := RV) (T := TV) (N := 13) (v := .int ((g (5 + j) 8) + 1)) (ty := .int) hx hb hts inV tyV tyV_ok nmV hown hK hP (mw_DA hJ) hS (j + 6) (ht_atV hj) rfl 8 (by decide) (hts _ w41) (fun _ h9 => h9) rfl rfl rfl rfl (Nat.le_of_ble_eq_true rfl) dV_reportOrAge_14 (fun H locs hP _ hS => ?_)
    rw [ht_stV hj (by decide)] at hP
    obtain ⟨g4, eg4⟩ : ∃ z, z = ht_up g (5 + j) 8 ((g (5 + j) 8) + 1) := ⟨_, rfl⟩
    rw [← eg4] at hP
    refine lv_goto (tgt := 24) hx hb dV_reportOrAge_17 (by decide) ?_
    have hG : g4 = ht_roa j g := by simp [ht_roa, c1, eg4]
    rw [hG] at hP
    exact W.vret hx hb hr (fun t ht hW => ⟨⟨(), rfl, trivial, ht_Im hP hK hN ht hW⟩, hS.F ht⟩) hS.2.2 dV_reportOrAge_24
end
section
theorem ht_end {j k : Nat} (hk : k ≤ 8) (hjk : j ≤ k) (c : nI k ≤ nI j) : j = k := by
  have h := (nI_leI (by omega) (by omega)).mp c
  omega
theorem ht_lt {j k : Nat} (hk : k ≤ 8) (hjk : j ≤ k) (c : ¬ nI k ≤ nI j) : j < k := Nat.not_le.mp (fun h => c (nI_le h (by omega)))
theorem ht_end12 {j : Nat} (hjk : j ≤ 12) (c : (12 : Int32) ≤ nI j) : j = 12 := by
  have h := (nI_leI (a := 12) (b := j) (by omega) (by omega)).mp c
  omega
theorem ht_lt12 {j : Nat} (hjk : j ≤ 12) (c : ¬ (12 : Int32) ≤ nI j) : j < 12 := Nat.not_le.mp (fun h => c (nI_le (a := 12) h (by omega)))
def ht_on (g : ht_G) (k : Nat) (x : Int32) : Bool := !decide (x < 0) && (!decide (nI k ≤ x) && !decide (g (5 + x.toNatClampNeg) 1 = 0))
set_option maxHeartbeats 4000000 in
set_option maxRecDepth 100000 in
theorem xH_sectionOf (l : Launch) (D : va_G) (cA : ClassId × ClassId) (q : Nat → Nat) (g : ht_G) (x : Int32) : Met l yH_sectionOf kH_sectionOf ({ frames := 0, cells := 0, slots := 0, locals := 0 }) (va_Pc [.int x] (ht_I D cA q g)) (vp_Si (fun r => r = x / 10)) 0 0 (fun _ => False) := by
  refine Met.ofW (cc := cH_sectionOf) (maxL := 1) (ret := (some .int)) (by decide) rfl ?_
  intro p e s m args below meth c s₁ B hml hv
  obtain ⟨rfl, hP, hK, hN⟩ := hv
  have hx := B.exec
  have hb := B.bytes
  have hr := B.returns
  have hts := fun w h => atoms_spec (ws := kH_sectionOf) B.pre w (List.mem_cons_of_mem _ h)
  have hown : s.vm.findClass RH = some m.cls := findClass_of_methodNamed B.named
  have hlocks := B.notSynchronized
  have hl := lv_entry ([.int x]) (n := 1) (Nat.le_of_ble_eq_true rfl)
  rw [lg_entry_eq]
  generalize (lg_sl ([.int x]) ++ List.replicate (1 - (lg_sl ([.int x])).length) Slot.unset).toArray = ls at hl ⊢
  have hl : lv_has ls 1 [(0, .int x)] := hl
  refine lv_iload_n hx hb dH_sectionOf_0 rfl (lv_at hl 0 rfl) ?_
  refine lv_bipush (v := 10) hx hb dH_sectionOf_1 (by decide) ?_
  refine lv_idiv hx hb dH_sectionOf_3 (by decide) ?_
  exact W.iret (v := x / 10) hx hb hr (fun t ht hW => ⟨x / 10, rfl, by rfl, ht⟩) (fun _ h => nomatch h) dH_sectionOf_4
set_option maxHeartbeats 4000000 in
set_option maxRecDepth 100000 in
theorem xH_isOnTrack (l : Launch) (D : va_G) (cA : ClassId × ClassId) (q : Nat → Nat) (g : ht_G) (k : Nat) (hk : k ≤ 8) (hn : g 0 0 = nI k) (x : Int32) : Met l yH_isOnTrack kH_isOnTrack ({ frames := 0, cells := 0, slots := 0, locals := 0 }) (va_Pc [.ref (q 0), .int x] (ht_I D cA q g)) (vp_Si (fun r => r = ht_b (ht_on g k x))) 0 0 (fun _ => False) := by
  refine Met.ofW (cc := cH_isOnTrack) (maxL := 2) (ret := (some .boolean)) (by decide) rfl ?_
  intro p e s m args below meth c s₁ B hml hv
  obtain ⟨rfl, hP, hK, hN⟩ := hv
  have hx := B.exec
  have hb := B.bytes
  have hr := B.returns
  have hts := fun w h => atoms_spec (ws := kH_isOnTrack) B.pre w (List.mem_cons_of_mem _ h)
  have hown : s.vm.findClass RH = some m.cls := findClass_of_methodNamed B.named
  have hlocks := B.notSynchronized
  have hl := lv_entry ([.ref (q 0), .int x]) (n := 2) (Nat.le_of_ble_eq_true rfl)
  rw [lg_entry_eq]
  generalize (lg_sl ([.ref (q 0), .int x]) ++ List.replicate (2 - (lg_sl ([.ref (q 0), .int x])).length) Slot.unset).toArray = ls at hl ⊢
  have hl : lv_has ls 2 [(0, .ref (q 0)), (1, .int x)] := hl
  refine lv_iload_n hx hb dH_isOnTrack_0 rfl (lv_at hl 1 rfl) ?_
  refine lv_if_lt (tgt := 28) hx hb dH_isOnTrack_1 (by decide) (fun c1 => ?_) (fun c1 => ?_)
  · refine lv_iconst (v := 0) hx hb dH_isOnTrack_28 (by decide) ?_
    exact W.zret (v := 0) (ty := .boolean) hx hb hr rfl (fun t ht hW => ⟨0, rfl, by simp [ht_on, ht_b, c1], ht⟩) (fun _ h => nomatch h) dH_isOnTrack_29
  · refine lv_iload_n hx hb dH_isOnTrack_4 rfl (lv_at hl 1 rfl) ?_
    refine lv_aload_n hx hb dH_isOnTrack_5 rfl (lv_at hl 0 rfl) ?_
    refine va_get (D := D) (ci := 1) (C := RH) (T := TH) (N := 7) (v := .int (g 0 0)) hx hb hts inH hown hK hP 0 ht_atO rfl 1 (by decide) (hts _ w78) (fun _ h9 => h9) rfl dH_isOnTrack_6 ?_
    refine lv_icmp_ge (tgt := 28) hx hb dH_isOnTrack_9 (by decide) (fun c2 => ?_) (fun c2 => ?_)
    · rw [hn] at c2
      refine lv_iconst (v := 0) hx hb dH_isOnTrack_28 (by decide) ?_
      exact W.zret (v := 0) (ty := .boolean) hx hb hr rfl (fun t ht hW => ⟨0, rfl, by simp [ht_on, ht_b, c1, c2], ht⟩) (fun _ h => nomatch h) dH_isOnTrack_29
    · rw [hn] at c2
      obtain ⟨j, hjl, hxj, -, hxc, -⟩ := pk_mu c1 c2 (by omega)
      have hj8 : j < 8 := Nat.lt_of_lt_of_le hjl hk
      refine lv_aload_n hx hb dH_isOnTrack_12 rfl (lv_at hl 0 rfl) ?_
      refine va_get (D := D) (ci := 1) (C := RH) (T := TH) (N := 7) (v := .ref (q 1)) hx hb hts inH hown hK hP 0 ht_atO rfl 0 (by decide) (hts _ w77) (fun _ h9 => h9) rfl dH_isOnTrack_13 ?_
      refine lv_iload_n hx hb dH_isOnTrack_16 rfl (lv_at hl 1 rfl) ?_
      refine ht_ldV hx hb hK hP (j := j) hj8 hxj dH_isOnTrack_17 ?_
      refine va_getN (D := D) (ci := 0) (C := RV) (T := TV) (N := 13) (v := .int (g (5 + j) 1)) hx hb hts inV hown hK hP (j + 6) (ht_atV hj8) rfl 1 (by decide) (hN.use 2 rfl rfl) (fun _ h9 => h9) rfl dH_isOnTrack_18 ?_
      refine lv_if_eq (tgt := 28) hx hb dH_isOnTrack_21 (by decide) (fun c3 => ?_) (fun c3 => ?_)
      · refine lv_iconst (v := 0) hx hb dH_isOnTrack_28 (by decide) ?_
        exact W.zret (v := 0) (ty := .boolean) hx hb hr rfl (fun t ht hW => ⟨0, rfl, by simp [ht_on, ht_b, hxc, c1, c2, c3], ht⟩) (fun _ h => nomatch h) dH_isOnTrack_29
      · refine lv_iconst (v := 1) hx hb dH_isOnTrack_24 (by decide) ?_
        refine lv_goto (tgt := 29) hx hb dH_isOnTrack_25 (by decide) ?_
        exact W.zret (v := 1) (ty := .boolean) hx hb hr rfl (fun t ht hW => ⟨1, rfl, by simp [ht_on, ht_b, hxc, c1, c2, c3], ht⟩) (fun _ h => nomatch h) dH_isOnTrack_29
set_option maxHeartbeats 4000000 in
set_option maxRecDepth 100000 in
theorem xH_isStoodOn (l : Launch) (D : va_G) (cA : ClassId × ClassId) (q : Nat → Nat) (g : ht_G) (k : Nat) (hk : k ≤ 8) (hn : g 0 0 = nI k) (lo hi : Int32) : Met l yH_isStoodOn kH_isStoodOn ({ frames := 2, cells := 0, slots := 0, locals := 42 }) (va_Pc [.ref (q 0), .int lo, .int hi] (ht_I D cA q g)) (vp_Si (fun r => r = ht_b (ht_stood g k lo hi))) 0 0 (fun _ => False) := by
  refine Met.ofW (cc := cH_isStoodOn) (maxL := 4) (ret := (some .boolean)) (by decide) rfl ?_
  intro p e s m args below meth c s₁ B hml hv
  obtain ⟨rfl, hP, hK, hN⟩ := hv
  have hx := B.exec
  have hb := B.bytes
  have hr := B.returns
  have hts := fun w h => atoms_spec (ws := kH_isStoodOn) B.pre w (List.mem_cons_of_mem _ h)
  have hown : s.vm.findClass RH = some m.cls := findClass_of_methodNamed B.named
  have hlocks := B.notSynchronized
  have hl := lv_entry ([.ref (q 0), .int lo, .int hi]) (n := 4) (Nat.le_of_ble_eq_true rfl)
  rw [lg_entry_eq]
  generalize (lg_sl ([.ref (q 0), .int lo, .int hi]) ++ List.replicate (4 - (lg_sl ([.ref (q 0), .int lo, .int hi])).length) Slot.unset).toArray = ls at hl ⊢
  have hl : lv_has ls 4 [(0, .ref (q 0)), (1, .int lo), (2, .int hi)] := hl
  have K2 : ∀ (n9 : Nat), ∀ (j : Nat), (k + 1 ≤ j + n9) → (j ≤ k) → (ht_ex (fun i => ht_stands (g (5 + i)) lo hi) j = false) → ∀ (ls : Array Slot), lv_has ls 4 [(0, .ref (q 0)), (1, .int lo), (2, .int hi), (3, .int (nI j))] → W p l e (headSpec kH_isStoodOn ({ frames := 2, cells := 0, slots := 0, locals := 42 })).room s m [.ref (q 0), .int lo, .int hi].toArray below meth c s.heap [] 0 0 (MQ below (vp_Si (fun r => r = ht_b (ht_stood g k lo hi))) [.ref (q 0), .int lo, .int hi].toArray s 0 0 (fun _ => False)) (F0 m 2 ls []) := by
    intro n9
    induction n9 with
    | zero =>
      intro j hn9 hjk hE ls hl
      exact absurd hn9 (by omega)
    | succ n9 ih =>
      intro j hn9 hjk hE ls hl
      refine lv_iload_n hx hb dH_isStoodOn_2 rfl (lv_at hl 3 rfl) ?_
      refine lv_aload_n hx hb dH_isStoodOn_3 rfl (lv_at hl 0 rfl) ?_
      refine va_get (D := D) (ci := 1) (C := RH) (T := TH) (N := 7) (v := .int (g 0 0)) hx hb hts inH hown hK hP 0 ht_atO rfl 1 (by decide) (hts _ w78) (fun _ h9 => h9) rfl dH_isStoodOn_4 ?_
      refine lv_icmp_ge (tgt := 32) hx hb dH_isStoodOn_7 (by decide) (fun c1 => ?_) (fun c1 => ?_)
      · rw [hn] at c1
        have e9 : j = k := ht_end hk hjk c1
        refine lv_iconst (v := 0) hx hb dH_isStoodOn_32 (by decide) ?_
        exact W.zret (v := 0) (ty := .boolean) hx hb hr rfl (fun t ht hW => ⟨0, rfl, by rw [e9] at hE; simp [ht_stood, ht_b, hE], ht⟩) (fun _ h => nomatch h) dH_isStoodOn_33
      · rw [hn] at c1
        have hjl : j < k := ht_lt hk hjk c1
        have hj8 : j < 8 := Nat.lt_of_lt_of_le hjl hk
        refine lv_aload_n hx hb dH_isStoodOn_10 rfl (lv_at hl 0 rfl) ?_
        refine va_get (D := D) (ci := 1) (C := RH) (T := TH) (N := 7) (v := .ref (q 1)) hx hb hts inH hown hK hP 0 ht_atO rfl 0 (by decide) (hts _ w77) (fun _ h9 => h9) rfl dH_isStoodOn_11 ?_
        refine lv_iload_n hx hb dH_isStoodOn_14 rfl (lv_at hl 3 rfl) ?_
        refine ht_ldV hx hb hK hP (j := j) hj8 rfl dH_isStoodOn_15 ?_
        refine lv_iload_n hx hb dH_isStoodOn_16 rfl (lv_at hl 1 rfl) ?_
        refine lv_iload_n hx hb dH_isStoodOn_17 rfl (lv_at hl 2 rfl) ?_
        refine vp_callSi (va_Run.run (va_runVN (As := [.int lo, .int hi]) (rest := []) ⟨hx, hb, hml, hown, hts⟩ (xV_standsWithin l D cA q g j hj8 lo hi) ⟨va_cnB 2 hts (ht_gW w200) rfl rfl rfl (hN _ (List.mem_of_getElem? (i := 12) rfl)) (hts _ w2) (by decide +kernel) ⟨Nat.le_of_ble_eq_true rfl, Nat.le_of_ble_eq_true rfl⟩, hts _ w199, hts _ s2⟩ ⟨ht_bl, va_recv hK hP (ci := 0) (q0 := j + 6) rfl (ht_atV hj8), fun U hU hW => ⟨rfl, ht_Im hP hK hN hU hW⟩⟩ rfl rfl hl.1 rfl (lv_room (Nat.le_of_ble_eq_true rfl)) dH_isStoodOn_18 ⟨Nat.zero_le _, Nat.zero_le _⟩)) (fun r2 hr2 => ?_)
        subst hr2
        refine lv_if_eq (tgt := 26) hx hb dH_isStoodOn_21 (by decide) (fun c3 => ?_) (fun c3 => ?_)
        · replace c3 := ht_b0.mp c3
          refine lv_iinc (v := nI (j + 1)) (lv' := [(3, .int (nI (j + 1))), (0, .ref (q 0)), (1, .int lo), (2, .int hi)]) hx hb dH_isStoodOn_26 hl (k := 3) rfl (nI_1 _) (by decide) rfl (fun ls hl => ?_)
          refine lv_goto (tgt := 2) hx hb dH_isStoodOn_29 (by decide) ?_
          exact ih (j + 1) (by omega) (by omega) (ht_ex_s hE (by simp [c3])) ls (lv_sub hl [1, 2, 3, 0] rfl)
        · replace c3 := ht_b1.mp c3
          refine lv_iconst (v := 1) hx hb dH_isStoodOn_24 (by decide) ?_
          exact W.zret (v := 1) (ty := .boolean) hx hb hr rfl (fun t ht hW => ⟨1, rfl, by rw [ht_stood, ht_ex_t (i := j) hjl (by simp [c3])]; rfl, ht⟩) (fun _ h => nomatch h) dH_isStoodOn_25
  refine lv_iconst (v := 0) hx hb dH_isStoodOn_0 (by decide) ?_
  refine lv_istore_n (lv' := [(3, .int 0), (0, .ref (q 0)), (1, .int lo), (2, .int hi)]) hx hb dH_isStoodOn_1 rfl hl (by decide) rfl (fun ls hl => ?_)
  exact K2 (k + 1) 0 (by omega) (by omega) rfl ls (lv_sub hl [1, 2, 3, 0] rfl)
set_option maxHeartbeats 4000000 in
set_option maxRecDepth 100000 in
theorem xH_isAnyClaimed (l : Launch) (D : va_G) (cA : ClassId × ClassId) (q : Nat → Nat) (g : ht_G) (k : Nat) (hk : k ≤ 8) (hn : g 0 0 = nI k) (a b ex : Int32) : Met l yH_isAnyClaimed kH_isAnyClaimed ({ frames := 1, cells := 0, slots := 0, locals := 22 }) (va_Pc [.ref (q 0), .int a, .int b, .int ex] (ht_I D cA q g)) (vp_Si (fun r => r = ht_b (ht_claimed g k a b ex))) 0 0 (fun _ => False) := by
  refine Met.ofW (cc := cH_isAnyClaimed) (maxL := 5) (ret := (some .boolean)) (by decide) rfl ?_
  intro p e s m args below meth c s₁ B hml hv
  obtain ⟨rfl, hP, hK, hN⟩ := hv
  have hx := B.exec
  have hb := B.bytes
  have hr := B.returns
  have hts := fun w h => atoms_spec (ws := kH_isAnyClaimed) B.pre w (List.mem_cons_of_mem _ h)
  have hown : s.vm.findClass RH = some m.cls := findClass_of_methodNamed B.named
  have hlocks := B.notSynchronized
  have hl := lv_entry ([.ref (q 0), .int a, .int b, .int ex]) (n := 5) (Nat.le_of_ble_eq_true rfl)
  rw [lg_entry_eq]
  generalize (lg_sl ([.ref (q 0), .int a, .int b, .int ex]) ++ List.replicate (5 - (lg_sl ([.ref (q 0), .int a, .int b, .int ex])).length) Slot.unset).toArray = ls at hl ⊢
  have hl : lv_has ls 5 [(0, .ref (q 0)), (1, .int a), (2, .int b), (3, .int ex)] := hl
  have K3 : ∀ (n9 : Nat), ∀ (j : Nat), (k + 1 ≤ j + n9) → (j ≤ k) → (ht_ex (fun i => !decide (nI i = ex) && ht_claims (g (5 + i)) a b) j = false) → ∀ (ls : Array Slot), lv_has ls 5 [(0, .ref (q 0)), (1, .int a), (2, .int b), (3, .int ex), (4, .int (nI j))] → W p l e (headSpec kH_isAnyClaimed ({ frames := 1, cells := 0, slots := 0, locals := 22 })).room s m [.ref (q 0), .int a, .int b, .int ex].toArray below meth c s.heap [] 0 0 (MQ below (vp_Si (fun r => r = ht_b (ht_claimed g k a b ex))) [.ref (q 0), .int a, .int b, .int ex].toArray s 0 0 (fun _ => False)) (F0 m 3 ls []) := by
    intro n9
    induction n9 with
    | zero =>
      intro j hn9 hjk hE ls hl
      exact absurd hn9 (by omega)
    | succ n9 ih =>
      intro j hn9 hjk hE ls hl
      refine lv_iload hx hb dH_isAnyClaimed_3 (lv_at hl 4 rfl) ?_
      refine lv_aload_n hx hb dH_isAnyClaimed_5 rfl (lv_at hl 0 rfl) ?_
      refine va_get (D := D) (ci := 1) (C := RH) (T := TH) (N := 7) (v := .int (g 0 0)) hx hb hts inH hown hK hP 0 ht_atO rfl 1 (by decide) (hts _ w78) (fun _ h9 => h9) rfl dH_isAnyClaimed_6 ?_
      refine lv_icmp_ge (tgt := 41) hx hb dH_isAnyClaimed_9 (by decide) (fun c1 => ?_) (fun c1 => ?_)
      · rw [hn] at c1
        have e9 : j = k := ht_end hk hjk c1
        refine lv_iconst (v := 0) hx hb dH_isAnyClaimed_41 (by decide) ?_
        exact W.zret (v := 0) (ty := .boolean) hx hb hr rfl (fun t ht hW => ⟨0, rfl, by rw [e9] at hE; simp [ht_claimed, ht_b, hE], ht⟩) (fun _ h => nomatch h) dH_isAnyClaimed_42
      · rw [hn] at c1
        have hjl : j < k := ht_lt hk hjk c1
        have hj8 : j < 8 := Nat.lt_of_lt_of_le hjl hk
        refine lv_iload hx hb dH_isAnyClaimed_12 (lv_at hl 4 rfl) ?_
        refine lv_iload_n hx hb dH_isAnyClaimed_14 rfl (lv_at hl 3 rfl) ?_
        refine lv_icmp_eq (tgt := 35) hx hb dH_isAnyClaimed_15 (by decide) (fun c2 => ?_) (fun c2 => ?_)
        · refine lv_iinc (v := nI (j + 1)) (lv' := [(4, .int (nI (j + 1))), (0, .ref (q 0)), (1, .int a), (2, .int b), (3, .int ex)]) hx hb dH_isAnyClaimed_35 hl (k := 4) rfl (nI_1 _) (by decide) rfl (fun ls hl => ?_)
          refine lv_goto (tgt := 3) hx hb dH_isAnyClaimed_38 (by decide) ?_
          exact ih (j + 1) (by omega) (by omega) (ht_ex_s hE (by simp [c2])) ls (lv_sub hl [1, 2, 3, 4, 0] rfl)
        · refine lv_aload_n hx hb dH_isAnyClaimed_18 rfl (lv_at hl 0 rfl) ?_
          refine va_get (D := D) (ci := 1) (C := RH) (T := TH) (N := 7) (v := .ref (q 1)) hx hb hts inH hown hK hP 0 ht_atO rfl 0 (by decide) (hts _ w77) (fun _ h9 => h9) rfl dH_isAnyClaimed_19 ?_
          refine lv_iload hx hb dH_isAnyClaimed_22 (lv_at hl 4 rfl) ?_
          refine ht_ldV hx hb hK hP (j := j) hj8 rfl dH_isAnyClaimed_24 ?_
          refine lv_iload_n hx hb dH_isAnyClaimed_25 rfl (lv_at hl 1 rfl) ?_
          refine lv_iload_n hx hb dH_isAnyClaimed_26 rfl (lv_at hl 2 rfl) ?_
          refine vp_callSi (va_Run.run (va_runVN (As := [.int a, .int b]) (rest := []) ⟨hx, hb, hml, hown, hts⟩ (xV_claimsWithin l D cA q g j hj8 a b) ⟨va_cnB 2 hts (ht_gW w216) rfl rfl rfl (hN _ (List.mem_of_getElem? (i := 13) rfl)) (hts _ w2) (by decide +kernel) ⟨Nat.le_of_ble_eq_true rfl, Nat.le_of_ble_eq_true rfl⟩, hts _ w215, hts _ s5⟩ ⟨ht_bl, va_recv hK hP (ci := 0) (q0 := j + 6) rfl (ht_atV hj8), fun U hU hW => ⟨rfl, ht_Im hP hK hN hU hW⟩⟩ rfl rfl hl.1 rfl (lv_room (Nat.le_of_ble_eq_true rfl)) dH_isAnyClaimed_27 ⟨Nat.zero_le _, Nat.zero_le _⟩)) (fun r3 hr3 => ?_)
          subst hr3
          refine lv_if_eq (tgt := 35) hx hb dH_isAnyClaimed_30 (by decide) (fun c4 => ?_) (fun c4 => ?_)
          · replace c4 := ht_b0.mp c4
            refine lv_iinc (v := nI (j + 1)) (lv' := [(4, .int (nI (j + 1))), (0, .ref (q 0)), (1, .int a), (2, .int b), (3, .int ex)]) hx hb dH_isAnyClaimed_35 hl (k := 4) rfl (nI_1 _) (by decide) rfl (fun ls hl => ?_)
            refine lv_goto (tgt := 3) hx hb dH_isAnyClaimed_38 (by decide) ?_
            exact ih (j + 1) (by omega) (by omega) (ht_ex_s hE (by simp [c2, c4])) ls (lv_sub hl [1, 2, 3, 4, 0] rfl)
          · replace c4 := ht_b1.mp c4
            refine lv_iconst (v := 1) hx hb dH_isAnyClaimed_33 (by decide) ?_
            exact W.zret (v := 1) (ty := .boolean) hx hb hr rfl (fun t ht hW => ⟨1, rfl, by rw [ht_claimed, ht_ex_t (i := j) hjl (by simp [c2, c4])]; rfl, ht⟩) (fun _ h => nomatch h) dH_isAnyClaimed_34
  refine lv_iconst (v := 0) hx hb dH_isAnyClaimed_0 (by decide) ?_
  refine lv_istore (lv' := [(4, .int 0), (0, .ref (q 0)), (1, .int a), (2, .int b), (3, .int ex)]) hx hb dH_isAnyClaimed_1 hl (by decide) rfl (fun ls hl => ?_)
  exact K3 (k + 1) 0 (by omega) (by omega) rfl ls (lv_sub hl [1, 2, 3, 4, 0] rfl)
set_option maxHeartbeats 4000000 in
set_option maxRecDepth 100000 in
theorem xH_isAnyClaimedByMute (l : Launch) (D : va_G) (cA : ClassId × ClassId) (q : Nat → Nat) (g : ht_G) (k : Nat) (hk : k ≤ 8) (hn : g 0 0 = nI k) (a b : Int32) : Met l yH_isAnyClaimedByMute kH_isAnyClaimedByMute ({ frames := 1, cells := 0, slots := 0, locals := 22 }) (va_Pc [.ref (q 0), .int a, .int b] (ht_I D cA q g)) (vp_Si (fun r => r = ht_b (ht_claimM g k a b))) 0 0 (fun _ => False) := by
  refine Met.ofW (cc := cH_isAnyClaimedByMute) (maxL := 4) (ret := (some .boolean)) (by decide) rfl ?_
  intro p e s m args below meth c s₁ B hml hv
  obtain ⟨rfl, hP, hK, hN⟩ := hv
  have hx := B.exec
  have hb := B.bytes
  have hr := B.returns
  have hts := fun w h => atoms_spec (ws := kH_isAnyClaimedByMute) B.pre w (List.mem_cons_of_mem _ h)
  have hown : s.vm.findClass RH = some m.cls := findClass_of_methodNamed B.named
  have hlocks := B.notSynchronized
  have hl := lv_entry ([.ref (q 0), .int a, .int b]) (n := 4) (Nat.le_of_ble_eq_true rfl)
  rw [lg_entry_eq]
  generalize (lg_sl ([.ref (q 0), .int a, .int b]) ++ List.replicate (4 - (lg_sl ([.ref (q 0), .int a, .int b])).length) Slot.unset).toArray = ls at hl ⊢
  have hl : lv_has ls 4 [(0, .ref (q 0)), (1, .int a), (2, .int b)] := hl
  have K2 : ∀ (n9 : Nat), ∀ (j : Nat), (k + 1 ≤ j + n9) → (j ≤ k) → (ht_ex (fun i => ht_mute (g (5 + i)) && ht_claims (g (5 + i)) a b) j = false) → ∀ (ls : Array Slot), lv_has ls 4 [(0, .ref (q 0)), (1, .int a), (2, .int b), (3, .int (nI j))] → W p l e (headSpec kH_isAnyClaimedByMute ({ frames := 1, cells := 0, slots := 0, locals := 22 })).room s m [.ref (q 0), .int a, .int b].toArray below meth c s.heap [] 0 0 (MQ below (vp_Si (fun r => r = ht_b (ht_claimM g k a b))) [.ref (q 0), .int a, .int b].toArray s 0 0 (fun _ => False)) (F0 m 2 ls []) := by
    intro n9
    induction n9 with
    | zero =>
      intro j hn9 hjk hE ls hl
      exact absurd hn9 (by omega)
    | succ n9 ih =>
      intro j hn9 hjk hE ls hl
      refine lv_iload_n hx hb dH_isAnyClaimedByMute_2 rfl (lv_at hl 3 rfl) ?_
      refine lv_aload_n hx hb dH_isAnyClaimedByMute_3 rfl (lv_at hl 0 rfl) ?_
      refine va_get (D := D) (ci := 1) (C := RH) (T := TH) (N := 7) (v := .int (g 0 0)) hx hb hts inH hown hK hP 0 ht_atO rfl 1 (by decide) (hts _ w78) (fun _ h9 => h9) rfl dH_isAnyClaimedByMute_4 ?_
      refine lv_icmp_ge (tgt := 44) hx hb dH_isAnyClaimedByMute_7 (by decide) (fun c1 => ?_) (fun c1 => ?_)
      · rw [hn] at c1
        have e9 : j = k := ht_end hk hjk c1
        refine lv_iconst (v := 0) hx hb dH_isAnyClaimedByMute_44 (by decide) ?_
        exact W.zret (v := 0) (ty := .boolean) hx hb hr rfl (fun t ht hW => ⟨0, rfl, by rw [e9] at hE; simp [ht_claimM, ht_b, hE], ht⟩) (fun _ h => nomatch h) dH_isAnyClaimedByMute_45
      · rw [hn] at c1
        have hjl : j < k := ht_lt hk hjk c1
        have hj8 : j < 8 := Nat.lt_of_lt_of_le hjl hk
        refine lv_aload_n hx hb dH_isAnyClaimedByMute_10 rfl (lv_at hl 0 rfl) ?_
        refine va_get (D := D) (ci := 1) (C := RH) (T := TH) (N := 7) (v := .ref (q 1)) hx hb hts inH hown hK hP 0 ht_atO rfl 0 (by decide) (hts _ w77) (fun _ h9 => h9) rfl dH_isAnyClaimedByMute_11 ?_
        refine lv_iload_n hx hb dH_isAnyClaimedByMute_14 rfl (lv_at hl 3 rfl) ?_
        refine ht_ldV hx hb hK hP (j := j) hj8 rfl dH_isAnyClaimedByMute_15 ?_
        refine vp_callSi (va_Run.run (va_runVN (As := []) (rest := []) ⟨hx, hb, hml, hown, hts⟩ (xV_isMute l D cA q g j hj8 ) ⟨va_cnB 0 hts (ht_gW w241) rfl rfl rfl (hN _ (List.mem_of_getElem? (i := 16) rfl)) (hts _ w2) (by decide +kernel) ⟨Nat.le_of_ble_eq_true rfl, Nat.le_of_ble_eq_true rfl⟩, hts _ w240, hts _ s11⟩ ⟨ht_bl, va_recv hK hP (ci := 0) (q0 := j + 6) rfl (ht_atV hj8), fun U hU hW => ⟨rfl, ht_Im hP hK hN hU hW⟩⟩ rfl rfl hl.1 rfl (lv_room (Nat.le_of_ble_eq_true rfl)) dH_isAnyClaimedByMute_16 ⟨Nat.zero_le _, Nat.zero_le _⟩)) (fun r2 hr2 => ?_)
        subst hr2
        refine lv_if_eq (tgt := 38) hx hb dH_isAnyClaimedByMute_19 (by decide) (fun c3 => ?_) (fun c3 => ?_)
        · replace c3 := ht_b0.mp c3
          refine lv_iinc (v := nI (j + 1)) (lv' := [(3, .int (nI (j + 1))), (0, .ref (q 0)), (1, .int a), (2, .int b)]) hx hb dH_isAnyClaimedByMute_38 hl (k := 3) rfl (nI_1 _) (by decide) rfl (fun ls hl => ?_)
          refine lv_goto (tgt := 2) hx hb dH_isAnyClaimedByMute_41 (by decide) ?_
          exact ih (j + 1) (by omega) (by omega) (ht_ex_s hE (by simp [c3])) ls (lv_sub hl [1, 2, 3, 0] rfl)
        · replace c3 := ht_b1.mp c3
          refine lv_aload_n hx hb dH_isAnyClaimedByMute_22 rfl (lv_at hl 0 rfl) ?_
          refine va_get (D := D) (ci := 1) (C := RH) (T := TH) (N := 7) (v := .ref (q 1)) hx hb hts inH hown hK hP 0 ht_atO rfl 0 (by decide) (hts _ w77) (fun _ h9 => h9) rfl dH_isAnyClaimedByMute_23 ?_
          refine lv_iload_n hx hb dH_isAnyClaimedByMute_26 rfl (lv_at hl 3 rfl) ?_
          refine ht_ldV hx hb hK hP (j := j) hj8 rfl dH_isAnyClaimedByMute_27 ?_
          refine lv_iload_n hx hb dH_isAnyClaimedByMute_28 rfl (lv_at hl 1 rfl) ?_
          refine lv_iload_n hx hb dH_isAnyClaimedByMute_29 rfl (lv_at hl 2 rfl) ?_
          refine vp_callSi (va_Run.run (va_runVN (As := [.int a, .int b]) (rest := []) ⟨hx, hb, hml, hown, hts⟩ (xV_claimsWithin l D cA q g j hj8 a b) ⟨va_cnB 2 hts (ht_gW w216) rfl rfl rfl (hN _ (List.mem_of_getElem? (i := 13) rfl)) (hts _ w2) (by decide +kernel) ⟨Nat.le_of_ble_eq_true rfl, Nat.le_of_ble_eq_true rfl⟩, hts _ w215, hts _ s5⟩ ⟨ht_bl, va_recv hK hP (ci := 0) (q0 := j + 6) rfl (ht_atV hj8), fun U hU hW => ⟨rfl, ht_Im hP hK hN hU hW⟩⟩ rfl rfl hl.1 rfl (lv_room (Nat.le_of_ble_eq_true rfl)) dH_isAnyClaimedByMute_30 ⟨Nat.zero_le _, Nat.zero_le _⟩)) (fun r4 hr4 => ?_)
          subst hr4
          refine lv_if_eq (tgt := 38) hx hb dH_isAnyClaimedByMute_33 (by decide) (fun c5 => ?_) (fun c5 => ?_)
          · replace c5 := ht_b0.mp c5
            refine lv_iinc (v := nI (j + 1)) (lv' := [(3, .int (nI (j + 1))), (0, .ref (q 0)), (1, .int a), (2, .int b)]) hx hb dH_isAnyClaimedByMute_38 hl (k := 3) rfl (nI_1 _) (by decide) rfl (fun ls hl => ?_)
            refine lv_goto (tgt := 2) hx hb dH_isAnyClaimedByMute_41 (by decide) ?_
            exact ih (j + 1) (by omega) (by omega) (ht_ex_s hE (by simp [c3, c5])) ls (lv_sub hl [1, 2, 3, 0] rfl)
          · replace c5 := ht_b1.mp c5
            refine lv_iconst (v := 1) hx hb dH_isAnyClaimedByMute_36 (by decide) ?_
            exact W.zret (v := 1) (ty := .boolean) hx hb hr rfl (fun t ht hW => ⟨1, rfl, by rw [ht_claimM, ht_ex_t (i := j) hjl (by simp [c3, c5])]; rfl, ht⟩) (fun _ h => nomatch h) dH_isAnyClaimedByMute_37
  refine lv_iconst (v := 0) hx hb dH_isAnyClaimedByMute_0 (by decide) ?_
  refine lv_istore_n (lv' := [(3, .int 0), (0, .ref (q 0)), (1, .int a), (2, .int b)]) hx hb dH_isAnyClaimedByMute_1 rfl hl (by decide) rfl (fun ls hl => ?_)
  exact K2 (k + 1) 0 (by omega) (by omega) rfl ls (lv_sub hl [1, 2, 3, 0] rfl)
set_option maxHeartbeats 4000000 in
set_option maxRecDepth 100000 in
theorem xH_isDetectedOccupied (l : Launch) (D : va_G) (cA : ClassId × ClassId) (q : Nat → Nat) (g : ht_G) (k : Nat) (hk : k ≤ 8) (hn : g 0 0 = nI k) (d : Int32) : Met l yH_isDetectedOccupied kH_isDetectedOccupied ({ frames := 3, cells := 0, slots := 0, locals := 65 }) (va_Pc [.ref (q 0), .int d] (ht_I D cA q g)) (vp_Si (fun r => r = ht_b (ht_det g k d))) 0 0 (fun _ => False) := by
  refine Met.ofW (cc := cH_isDetectedOccupied) (maxL := 3) (ret := (some .boolean)) (by decide) rfl ?_
  intro p e s m args below meth c s₁ B hml hv
  obtain ⟨rfl, hP, hK, hN⟩ := hv
  have hx := B.exec
  have hb := B.bytes
  have hr := B.returns
  have hts := fun w h => atoms_spec (ws := kH_isDetectedOccupied) B.pre w (List.mem_cons_of_mem _ h)
  have hown : s.vm.findClass RH = some m.cls := findClass_of_methodNamed B.named
  have hlocks := B.notSynchronized
  have hl := lv_entry ([.ref (q 0), .int d]) (n := 3) (Nat.le_of_ble_eq_true rfl)
  rw [lg_entry_eq]
  generalize (lg_sl ([.ref (q 0), .int d]) ++ List.replicate (3 - (lg_sl ([.ref (q 0), .int d])).length) Slot.unset).toArray = ls at hl ⊢
  have hl : lv_has ls 3 [(0, .ref (q 0)), (1, .int d)] := hl
  refine lv_iload_n hx hb dH_isDetectedOccupied_0 rfl (lv_at hl 1 rfl) ?_
  refine lv_bipush (v := 30) hx hb dH_isDetectedOccupied_1 (by decide) ?_
  refine lv_imul hx hb dH_isDetectedOccupied_3 ?_
  refine lv_istore_n (lv' := [(2, .int (d * 30)), (0, .ref (q 0)), (1, .int d)]) hx hb dH_isDetectedOccupied_4 rfl hl (by decide) rfl (fun ls hl => ?_)
  refine lv_aload_n hx hb dH_isDetectedOccupied_5 rfl (lv_at hl 1 rfl) ?_
  refine lv_iload_n hx hb dH_isDetectedOccupied_6 rfl (lv_at hl 0 rfl) ?_
  refine lv_iload_n hx hb dH_isDetectedOccupied_7 rfl (lv_at hl 0 rfl) ?_
  refine lv_bipush (v := 30) hx hb dH_isDetectedOccupied_8 (by decide) ?_
  refine lv_iadd hx hb dH_isDetectedOccupied_10 ?_
  refine lv_iconst (v := 1) hx hb dH_isDetectedOccupied_11 (by decide) ?_
  refine lv_isub hx hb dH_isDetectedOccupied_12 ?_
  refine vp_callSi (va_Run.run (va_runV (As := [.int (d * 30), .int (((d * 30) + 30) - 1)]) (rest := []) ⟨hx, hb, hml, hown, hts⟩ (xH_isStoodOn l D cA q g k hk hn (d * 30) (((d * 30) + 30) - 1)) (cwV 2 hts (ht_gV w193 w195 s1 w1 w196) rfl rfl rfl (by decide +kernel) ⟨Nat.le_of_ble_eq_true rfl, Nat.le_of_ble_eq_true rfl⟩) ⟨ht_bl, va_recv hK hP (ci := 1) (q0 := 0) rfl ht_atO, fun U hU hW => ⟨rfl, ht_Im hP hK hN hU hW⟩⟩ rfl rfl hl.1 rfl (lv_room (Nat.le_of_ble_eq_true rfl)) dH_isDetectedOccupied_13 ⟨Nat.zero_le _, Nat.zero_le _⟩)) (fun r1 hr1 => ?_)
  subst hr1
  exact W.zret (v := ht_b (ht_stood g k (d * 30) (((d * 30) + 30) - 1))) (ty := .boolean) hx hb hr (ht_nb _) (fun t ht hW => ⟨ht_b (ht_stood g k (d * 30) (((d * 30) + 30) - 1)), rfl, by rfl, ht⟩) (fun _ h => nomatch h) dH_isDetectedOccupied_16
set_option maxHeartbeats 4000000 in
set_option maxRecDepth 100000 in
theorem xH_isSectionStoodOn (l : Launch) (D : va_G) (cA : ClassId × ClassId) (q : Nat → Nat) (g : ht_G) (k : Nat) (hk : k ≤ 8) (hn : g 0 0 = nI k) (x : Int32) : Met l yH_isSectionStoodOn kH_isSectionStoodOn ({ frames := 3, cells := 0, slots := 0, locals := 65 }) (va_Pc [.ref (q 0), .int x] (ht_I D cA q g)) (vp_Si (fun r => r = ht_b (ht_sec g k x))) 0 0 (fun _ => False) := by
  refine Met.ofW (cc := cH_isSectionStoodOn) (maxL := 3) (ret := (some .boolean)) (by decide) rfl ?_
  intro p e s m args below meth c s₁ B hml hv
  obtain ⟨rfl, hP, hK, hN⟩ := hv
  have hx := B.exec
  have hb := B.bytes
  have hr := B.returns
  have hts := fun w h => atoms_spec (ws := kH_isSectionStoodOn) B.pre w (List.mem_cons_of_mem _ h)
  have hown : s.vm.findClass RH = some m.cls := findClass_of_methodNamed B.named
  have hlocks := B.notSynchronized
  have hl := lv_entry ([.ref (q 0), .int x]) (n := 3) (Nat.le_of_ble_eq_true rfl)
  rw [lg_entry_eq]
  generalize (lg_sl ([.ref (q 0), .int x]) ++ List.replicate (3 - (lg_sl ([.ref (q 0), .int x])).length) Slot.unset).toArray = ls at hl ⊢
  have hl : lv_has ls 3 [(0, .ref (q 0)), (1, .int x)] := hl
  refine lv_iload_n hx hb dH_isSectionStoodOn_0 rfl (lv_at hl 1 rfl) ?_
  refine lv_bipush (v := 10) hx hb dH_isSectionStoodOn_1 (by decide) ?_
  refine lv_imul hx hb dH_isSectionStoodOn_3 ?_
  refine lv_istore_n (lv' := [(2, .int (x * 10)), (0, .ref (q 0)), (1, .int x)]) hx hb dH_isSectionStoodOn_4 rfl hl (by decide) rfl (fun ls hl => ?_)
  refine lv_aload_n hx hb dH_isSectionStoodOn_5 rfl (lv_at hl 1 rfl) ?_
  refine lv_iload_n hx hb dH_isSectionStoodOn_6 rfl (lv_at hl 0 rfl) ?_
  refine lv_iload_n hx hb dH_isSectionStoodOn_7 rfl (lv_at hl 0 rfl) ?_
  refine lv_bipush (v := 10) hx hb dH_isSectionStoodOn_8 (by decide) ?_
  refine lv_iadd hx hb dH_isSectionStoodOn_10 ?_
  refine lv_iconst (v := 1) hx hb dH_isSectionStoodOn_11 (by decide) ?_
  refine lv_isub hx hb dH_isSectionStoodOn_12 ?_
  refine vp_callSi (va_Run.run (va_runV (As := [.int (x * 10), .int (((x * 10) + 10) - 1)]) (rest := []) ⟨hx, hb, hml, hown, hts⟩ (xH_isStoodOn l D cA q g k hk hn (x * 10) (((x * 10) + 10) - 1)) (cwV 2 hts (ht_gV w193 w195 s1 w1 w196) rfl rfl rfl (by decide +kernel) ⟨Nat.le_of_ble_eq_true rfl, Nat.le_of_ble_eq_true rfl⟩) ⟨ht_bl, va_recv hK hP (ci := 1) (q0 := 0) rfl ht_atO, fun U hU hW => ⟨rfl, ht_Im hP hK hN hU hW⟩⟩ rfl rfl hl.1 rfl (lv_room (Nat.le_of_ble_eq_true rfl)) dH_isSectionStoodOn_13 ⟨Nat.zero_le _, Nat.zero_le _⟩)) (fun r1 hr1 => ?_)
  subst hr1
  exact W.zret (v := ht_b (ht_stood g k (x * 10) (((x * 10) + 10) - 1))) (ty := .boolean) hx hb hr (ht_nb _) (fun t ht hW => ⟨ht_b (ht_stood g k (x * 10) (((x * 10) + 10) - 1)), rfl, by rfl, ht⟩) (fun _ h => nomatch h) dH_isSectionStoodOn_16
end
section
theorem ht_first {s : Nat} (hs : s < 12) : nI s - (nI s - nI s / 3 * 3) = nI (s - s % 3) := by
  rw [show (3 : Int32) = nI 3 from rfl, pk_rem (by omega) (by omega) (by omega), pk_sub (Nat.mod_le _ _)]
theorem ht_lastS (s : Nat) : nI (s - s % 3) + 3 - 1 = nI (s - s % 3 + 2) := by
  rw [show (3 : Int32) = nI 3 from rfl, show (1 : Int32) = nI 1 from rfl, nI_add, pk_sub (by omega), show s - s % 3 + 3 - 1 = s - s % 3 + 2 by omega]
set_option maxHeartbeats 4000000 in
set_option maxRecDepth 100000 in
theorem xH_trainsThatCame (l : Launch) (D : va_G) (cA : ClassId × ClassId) (q : Nat → Nat) (g : ht_G) (k : Nat) (hk : k ≤ 8) (hn : g 0 0 = nI k) : Met l yH_trainsThatCame kH_trainsThatCame ({ frames := 0, cells := 0, slots := 0, locals := 0 }) (va_Pc [.ref (q 0)] (ht_I D cA q g)) (vp_Si (fun r => r = nI (ht_trains g k))) 0 0 (fun _ => False) := by
  refine Met.ofW (cc := cH_trainsThatCame) (maxL := 3) (ret := (some .int)) (by decide) rfl ?_
  intro p e s m args below meth c s₁ B hml hv
  obtain ⟨rfl, hP, hK, hN⟩ := hv
  have hx := B.exec
  have hb := B.bytes
  have hr := B.returns
  have hts := fun w h => atoms_spec (ws := kH_trainsThatCame) B.pre w (List.mem_cons_of_mem _ h)
  have hown : s.vm.findClass RH = some m.cls := findClass_of_methodNamed B.named
  have hlocks := B.notSynchronized
  have hl := lv_entry ([.ref (q 0)]) (n := 3) (Nat.le_of_ble_eq_true rfl)
  rw [lg_entry_eq]
  generalize (lg_sl ([.ref (q 0)]) ++ List.replicate (3 - (lg_sl ([.ref (q 0)])).length) Slot.unset).toArray = ls at hl ⊢
  have hl : lv_has ls 3 [(0, .ref (q 0))] := hl
  have K4 : ∀ (n9 : Nat), ∀ (j : Nat), (k + 1 ≤ j + n9) → (j ≤ k) → ∀ (ls : Array Slot), lv_has ls 3 [(0, .ref (q 0)), (1, .int (nI (ht_num (fun i => !decide (g (5 + i) 0 = 0)) j))), (2, .int (nI j))] → W p l e (headSpec kH_trainsThatCame ({ frames := 0, cells := 0, slots := 0, locals := 0 })).room s m [.ref (q 0)].toArray below meth c s.heap [] 0 0 (MQ below (vp_Si (fun r => r = nI (ht_trains g k))) [.ref (q 0)].toArray s 0 0 (fun _ => False)) (F0 m 4 ls []) := by
    intro n9
    induction n9 with
    | zero =>
      intro j hn9 hjk ls hl
      exact absurd hn9 (by omega)
    | succ n9 ih =>
      intro j hn9 hjk ls hl
      refine lv_iload_n hx hb dH_trainsThatCame_4 rfl (lv_at hl 2 rfl) ?_
      refine lv_aload_n hx hb dH_trainsThatCame_5 rfl (lv_at hl 0 rfl) ?_
      refine va_get (D := D) (ci := 1) (C := RH) (T := TH) (N := 7) (v := .int (g 0 0)) hx hb hts inH hown hK hP 0 ht_atO rfl 1 (by decide) (hts _ w78) (fun _ h9 => h9) rfl dH_trainsThatCame_6 ?_
      refine lv_icmp_ge (tgt := 33) hx hb dH_trainsThatCame_9 (by decide) (fun c1 => ?_) (fun c1 => ?_)
      · rw [hn] at c1
        have e9 : j = k := ht_end hk hjk c1
        refine lv_iload_n hx hb dH_trainsThatCame_33 rfl (lv_at hl 1 rfl) ?_
        exact W.iret (v := nI (ht_num (fun i => !decide (g (5 + i) 0 = 0)) j)) hx hb hr (fun t ht hW => ⟨nI (ht_num (fun i => !decide (g (5 + i) 0 = 0)) j), rfl, by rw [e9, ht_trains], ht⟩) (fun _ h => nomatch h) dH_trainsThatCame_34
      · rw [hn] at c1
        have hjl : j < k := ht_lt hk hjk c1
        have hj8 : j < 8 := Nat.lt_of_lt_of_le hjl hk
        refine lv_aload_n hx hb dH_trainsThatCame_12 rfl (lv_at hl 0 rfl) ?_
        refine va_get (D := D) (ci := 1) (C := RH) (T := TH) (N := 7) (v := .ref (q 1)) hx hb hts inH hown hK hP 0 ht_atO rfl 0 (by decide) (hts _ w77) (fun _ h9 => h9) rfl dH_trainsThatCame_13 ?_
        refine lv_iload_n hx hb dH_trainsThatCame_16 rfl (lv_at hl 2 rfl) ?_
        refine ht_ldV hx hb hK hP (j := j) hj8 rfl dH_trainsThatCame_17 ?_
        refine va_getN (D := D) (ci := 0) (C := RV) (T := TV) (N := 13) (v := .int (g (5 + j) 0)) hx hb hts inV hown hK hP (j + 6) (ht_atV hj8) rfl 0 (by decide) (hN.use 1 rfl rfl) (fun _ h9 => h9) rfl dH_trainsThatCame_18 ?_
        refine lv_if_eq (tgt := 27) hx hb dH_trainsThatCame_21 (by decide) (fun c2 => ?_) (fun c2 => ?_)
        · refine lv_iinc (v := nI (j + 1)) (lv' := [(2, .int (nI (j + 1))), (0, .ref (q 0)), (1, .int (nI (ht_num (fun i => !decide (g (5 + i) 0 = 0)) j)))]) hx hb dH_trainsThatCame_27 hl (k := 2) rfl (nI_1 _) (by decide) rfl (fun ls hl => ?_)
          refine lv_goto (tgt := 4) hx hb dH_trainsThatCame_30 (by decide) ?_
          have e8 : ht_num (fun i => !decide (g (5 + i) 0 = 0)) (j + 1) = ht_num (fun i => !decide (g (5 + i) 0 = 0)) j := by simp [ht_num, c2]
          rw [← e8] at hl
          exact ih (j + 1) (by omega) (by omega) ls (lv_sub hl [1, 2, 0] rfl)
        · refine lv_iinc (v := nI (ht_num (fun i => !decide (g (5 + i) 0 = 0)) j + 1)) (lv' := [(1, .int (nI (ht_num (fun i => !decide (g (5 + i) 0 = 0)) j + 1))), (0, .ref (q 0)), (2, .int (nI j))]) hx hb dH_trainsThatCame_24 hl (k := 1) rfl (nI_1 _) (by decide) rfl (fun ls hl => ?_)
          refine lv_iinc (v := nI (j + 1)) (lv' := [(2, .int (nI (j + 1))), (1, .int (nI (ht_num (fun i => !decide (g (5 + i) 0 = 0)) j + 1))), (0, .ref (q 0))]) hx hb dH_trainsThatCame_27 hl (k := 2) rfl (nI_1 _) (by decide) rfl (fun ls hl => ?_)
          refine lv_goto (tgt := 4) hx hb dH_trainsThatCame_30 (by decide) ?_
          have e8 : ht_num (fun i => !decide (g (5 + i) 0 = 0)) (j + 1) = ht_num (fun i => !decide (g (5 + i) 0 = 0)) j + 1 := by simp [ht_num, c2]
          rw [← e8] at hl
          exact ih (j + 1) (by omega) (by omega) ls (lv_sub hl [2, 1, 0] rfl)
  refine lv_iconst (v := 0) hx hb dH_trainsThatCame_0 (by decide) ?_
  refine lv_istore_n (lv' := [(1, .int 0), (0, .ref (q 0))]) hx hb dH_trainsThatCame_1 rfl hl (by decide) rfl (fun ls hl => ?_)
  refine lv_iconst (v := 0) hx hb dH_trainsThatCame_2 (by decide) ?_
  refine lv_istore_n (lv' := [(2, .int 0), (1, .int 0), (0, .ref (q 0))]) hx hb dH_trainsThatCame_3 rfl hl (by decide) rfl (fun ls hl => ?_)
  exact K4 (k + 1) 0 (by omega) (by omega) ls (lv_sub hl [2, 1, 0] rfl)
set_option maxHeartbeats 4000000 in
set_option maxRecDepth 100000 in
theorem xH_sectionsInState (l : Launch) (D : va_G) (cA : ClassId × ClassId) (q : Nat → Nat) (g : ht_G) (k : Nat) (hk : k ≤ 8) (hn : g 0 0 = nI k) (x : Int32) : Met l yH_sectionsInState kH_sectionsInState ({ frames := 0, cells := 0, slots := 0, locals := 0 }) (va_Pc [.ref (q 0), .int x] (ht_I D cA q g)) (vp_Si (fun r => r = nI (ht_in g x))) 0 0 (fun _ => False) := by
  refine Met.ofW (cc := cH_sectionsInState) (maxL := 4) (ret := (some .int)) (by decide) rfl ?_
  intro p e s m args below meth c s₁ B hml hv
  obtain ⟨rfl, hP, hK, hN⟩ := hv
  have hx := B.exec
  have hb := B.bytes
  have hr := B.returns
  have hts := fun w h => atoms_spec (ws := kH_sectionsInState) B.pre w (List.mem_cons_of_mem _ h)
  have hown : s.vm.findClass RH = some m.cls := findClass_of_methodNamed B.named
  have hlocks := B.notSynchronized
  have hl := lv_entry ([.ref (q 0), .int x]) (n := 4) (Nat.le_of_ble_eq_true rfl)
  rw [lg_entry_eq]
  generalize (lg_sl ([.ref (q 0), .int x]) ++ List.replicate (4 - (lg_sl ([.ref (q 0), .int x])).length) Slot.unset).toArray = ls at hl ⊢
  have hl : lv_has ls 4 [(0, .ref (q 0)), (1, .int x)] := hl
  have K4 : ∀ (n9 : Nat), ∀ (j : Nat), (12 + 1 ≤ j + n9) → (j ≤ 12) → ∀ (ls : Array Slot), lv_has ls 4 [(0, .ref (q 0)), (1, .int x), (2, .int (nI (ht_num (fun s => decide (g 1 s = x)) j))), (3, .int (nI j))] → W p l e (headSpec kH_sectionsInState ({ frames := 0, cells := 0, slots := 0, locals := 0 })).room s m [.ref (q 0), .int x].toArray below meth c s.heap [] 0 0 (MQ below (vp_Si (fun r => r = nI (ht_in g x))) [.ref (q 0), .int x].toArray s 0 0 (fun _ => False)) (F0 m 4 ls []) := by
    intro n9
    induction n9 with
    | zero =>
      intro j hn9 hjk ls hl
      exact absurd hn9 (by omega)
    | succ n9 ih =>
      intro j hn9 hjk ls hl
      refine lv_iload_n hx hb dH_sectionsInState_4 rfl (lv_at hl 3 rfl) ?_
      refine lv_bipush (v := 12) hx hb dH_sectionsInState_5 (by decide) ?_
      refine lv_icmp_ge (tgt := 29) hx hb dH_sectionsInState_7 (by decide) (fun c1 => ?_) (fun c1 => ?_)
      · have e9 : j = 12 := ht_end12 hjk c1
        refine lv_iload_n hx hb dH_sectionsInState_29 rfl (lv_at hl 2 rfl) ?_
        exact W.iret (v := nI (ht_num (fun s => decide (g 1 s = x)) j)) hx hb hr (fun t ht hW => ⟨nI (ht_num (fun s => decide (g 1 s = x)) j), rfl, by rw [e9, ht_in], ht⟩) (fun _ h => nomatch h) dH_sectionsInState_30
      · have hjl : j < 12 := ht_lt12 hjk c1
        refine lv_aload_n hx hb dH_sectionsInState_10 rfl (lv_at hl 0 rfl) ?_
        refine va_get (D := D) (ci := 1) (C := RH) (T := TH) (N := 7) (v := .ref (q 2)) hx hb hts inH hown hK hP 0 ht_atO rfl 3 (by decide) (hts _ w80) (fun _ h9 => h9) rfl dH_sectionsInState_11 ?_
        refine lv_iload_n hx hb dH_sectionsInState_14 rfl (lv_at hl 3 rfl) ?_
        refine ht_ldI hx hb hK hP 1 (j := j) (by decide) (by decide) hjl rfl dH_sectionsInState_15 ?_
        refine lv_iload_n hx hb dH_sectionsInState_16 rfl (lv_at hl 1 rfl) ?_
        refine lv_icmp_ne (tgt := 23) hx hb dH_sectionsInState_17 (by decide) (fun c2 => ?_) (fun c2 => ?_)
        · refine lv_iinc (v := nI (j + 1)) (lv' := [(3, .int (nI (j + 1))), (0, .ref (q 0)), (1, .int x), (2, .int (nI (ht_num (fun s => decide (g 1 s = x)) j)))]) hx hb dH_sectionsInState_23 hl (k := 3) rfl (nI_1 _) (by decide) rfl (fun ls hl => ?_)
          refine lv_goto (tgt := 4) hx hb dH_sectionsInState_26 (by decide) ?_
          have e8 : ht_num (fun s => decide (g 1 s = x)) (j + 1) = ht_num (fun s => decide (g 1 s = x)) j := by simp [ht_num, c2]
          rw [← e8] at hl
          exact ih (j + 1) (by omega) (by omega) ls (lv_sub hl [1, 2, 3, 0] rfl)
        · refine lv_iinc (v := nI (ht_num (fun s => decide (g 1 s = x)) j + 1)) (lv' := [(2, .int (nI (ht_num (fun s => decide (g 1 s = x)) j + 1))), (0, .ref (q 0)), (1, .int x), (3, .int (nI j))]) hx hb dH_sectionsInState_20 hl (k := 2) rfl (nI_1 _) (by decide) rfl (fun ls hl => ?_)
          refine lv_iinc (v := nI (j + 1)) (lv' := [(3, .int (nI (j + 1))), (2, .int (nI (ht_num (fun s => decide (g 1 s = x)) j + 1))), (0, .ref (q 0)), (1, .int x)]) hx hb dH_sectionsInState_23 hl (k := 3) rfl (nI_1 _) (by decide) rfl (fun ls hl => ?_)
          refine lv_goto (tgt := 4) hx hb dH_sectionsInState_26 (by decide) ?_
          have e8 : ht_num (fun s => decide (g 1 s = x)) (j + 1) = ht_num (fun s => decide (g 1 s = x)) j + 1 := by simp [ht_num, c2]
          rw [← e8] at hl
          exact ih (j + 1) (by omega) (by omega) ls (lv_sub hl [2, 3, 1, 0] rfl)
  refine lv_iconst (v := 0) hx hb dH_sectionsInState_0 (by decide) ?_
  refine lv_istore_n (lv' := [(2, .int 0), (0, .ref (q 0)), (1, .int x)]) hx hb dH_sectionsInState_1 rfl hl (by decide) rfl (fun ls hl => ?_)
  refine lv_iconst (v := 0) hx hb dH_sectionsInState_2 (by decide) ?_
  refine lv_istore_n (lv' := [(3, .int 0), (2, .int 0), (0, .ref (q 0)), (1, .int x)]) hx hb dH_sectionsInState_3 rfl hl (by decide) rfl (fun ls hl => ?_)
  exact K4 (12 + 1) 0 (by omega) (by omega) ls (lv_sub hl [2, 3, 1, 0] rfl)
set_option maxHeartbeats 4000000 in
set_option maxRecDepth 100000 in
theorem xH_sectionsWronglyFree (l : Launch) (D : va_G) (cA : ClassId × ClassId) (q : Nat → Nat) (g : ht_G) (k : Nat) (hk : k ≤ 8) (hn : g 0 0 = nI k) : Met l yH_sectionsWronglyFree kH_sectionsWronglyFree ({ frames := 4, cells := 0, slots := 0, locals := 87 }) (va_Pc [.ref (q 0)] (ht_I D cA q g)) (vp_Si (fun r => r = nI (ht_wrong g k))) 0 0 (fun _ => False) := by
  refine Met.ofW (cc := cH_sectionsWronglyFree) (maxL := 3) (ret := (some .int)) (by decide) rfl ?_
  intro p e s m args below meth c s₁ B hml hv
  obtain ⟨rfl, hP, hK, hN⟩ := hv
  have hx := B.exec
  have hb := B.bytes
  have hr := B.returns
  have hts := fun w h => atoms_spec (ws := kH_sectionsWronglyFree) B.pre w (List.mem_cons_of_mem _ h)
  have hown : s.vm.findClass RH = some m.cls := findClass_of_methodNamed B.named
  have hlocks := B.notSynchronized
  have hl := lv_entry ([.ref (q 0)]) (n := 3) (Nat.le_of_ble_eq_true rfl)
  rw [lg_entry_eq]
  generalize (lg_sl ([.ref (q 0)]) ++ List.replicate (3 - (lg_sl ([.ref (q 0)])).length) Slot.unset).toArray = ls at hl ⊢
  have hl : lv_has ls 3 [(0, .ref (q 0))] := hl
  have K4 : ∀ (n9 : Nat), ∀ (j : Nat), (12 + 1 ≤ j + n9) → (j ≤ 12) → ∀ (ls : Array Slot), lv_has ls 3 [(0, .ref (q 0)), (1, .int (nI (ht_num (fun s => decide (g 1 s = 0) && (!ht_claimed g k (nI s) (nI s) (-1) && ht_sec g k (nI s))) j))), (2, .int (nI j))] → W p l e (headSpec kH_sectionsWronglyFree ({ frames := 4, cells := 0, slots := 0, locals := 87 })).room s m [.ref (q 0)].toArray below meth c s.heap [] 0 0 (MQ below (vp_Si (fun r => r = nI (ht_wrong g k))) [.ref (q 0)].toArray s 0 0 (fun _ => False)) (F0 m 4 ls []) := by
    intro n9
    induction n9 with
    | zero =>
      intro j hn9 hjk ls hl
      exact absurd hn9 (by omega)
    | succ n9 ih =>
      intro j hn9 hjk ls hl
      refine lv_iload_n hx hb dH_sectionsWronglyFree_4 rfl (lv_at hl 2 rfl) ?_
      refine lv_bipush (v := 12) hx hb dH_sectionsWronglyFree_5 (by decide) ?_
      refine lv_icmp_ge (tgt := 46) hx hb dH_sectionsWronglyFree_7 (by decide) (fun c1 => ?_) (fun c1 => ?_)
      · have e9 : j = 12 := ht_end12 hjk c1
        refine lv_iload_n hx hb dH_sectionsWronglyFree_46 rfl (lv_at hl 1 rfl) ?_
        exact W.iret (v := nI (ht_num (fun s => decide (g 1 s = 0) && (!ht_claimed g k (nI s) (nI s) (-1) && ht_sec g k (nI s))) j)) hx hb hr (fun t ht hW => ⟨nI (ht_num (fun s => decide (g 1 s = 0) && (!ht_claimed g k (nI s) (nI s) (-1) && ht_sec g k (nI s))) j), rfl, by rw [e9, ht_wrong], ht⟩) (fun _ h => nomatch h) dH_sectionsWronglyFree_47
      · have hjl : j < 12 := ht_lt12 hjk c1
        refine lv_aload_n hx hb dH_sectionsWronglyFree_10 rfl (lv_at hl 0 rfl) ?_
        refine va_get (D := D) (ci := 1) (C := RH) (T := TH) (N := 7) (v := .ref (q 2)) hx hb hts inH hown hK hP 0 ht_atO rfl 3 (by decide) (hts _ w80) (fun _ h9 => h9) rfl dH_sectionsWronglyFree_11 ?_
        refine lv_iload_n hx hb dH_sectionsWronglyFree_14 rfl (lv_at hl 2 rfl) ?_
        refine ht_ldI hx hb hK hP 1 (j := j) (by decide) (by decide) hjl rfl dH_sectionsWronglyFree_15 ?_
        refine lv_if_ne (tgt := 40) hx hb dH_sectionsWronglyFree_16 (by decide) (fun c2 => ?_) (fun c2 => ?_)
        · refine lv_iinc (v := nI (j + 1)) (lv' := [(2, .int (nI (j + 1))), (0, .ref (q 0)), (1, .int (nI (ht_num (fun s => decide (g 1 s = 0) && (!ht_claimed g k (nI s) (nI s) (-1) && ht_sec g k (nI s))) j)))]) hx hb dH_sectionsWronglyFree_40 hl (k := 2) rfl (nI_1 _) (by decide) rfl (fun ls hl => ?_)
          refine lv_goto (tgt := 4) hx hb dH_sectionsWronglyFree_43 (by decide) ?_
          have e8 : ht_num (fun s => decide (g 1 s = 0) && (!ht_claimed g k (nI s) (nI s) (-1) && ht_sec g k (nI s))) (j + 1) = ht_num (fun s => decide (g 1 s = 0) && (!ht_claimed g k (nI s) (nI s) (-1) && ht_sec g k (nI s))) j := by simp [ht_num, c2]
          rw [← e8] at hl
          exact ih (j + 1) (by omega) (by omega) ls (lv_sub hl [1, 2, 0] rfl)
        · refine lv_aload_n hx hb dH_sectionsWronglyFree_19 rfl (lv_at hl 0 rfl) ?_
          refine lv_iload_n hx hb dH_sectionsWronglyFree_20 rfl (lv_at hl 2 rfl) ?_
          refine lv_iload_n hx hb dH_sectionsWronglyFree_21 rfl (lv_at hl 2 rfl) ?_
          refine lv_iconst (v := (-1)) hx hb dH_sectionsWronglyFree_22 (by decide) ?_
          refine vp_callSi (va_Run.run (va_runV (As := [.int (nI j), .int (nI j), .int (-1 : Int32)]) (rest := []) ⟨hx, hb, hml, hown, hts⟩ (xH_isAnyClaimed l D cA q g k hk hn (nI j) (nI j) (-1 : Int32)) (cwV 3 hts (ht_gV w209 w211 s4 w1 w212) rfl rfl rfl (by decide +kernel) ⟨Nat.le_of_ble_eq_true rfl, Nat.le_of_ble_eq_true rfl⟩) ⟨ht_bl, va_recv hK hP (ci := 1) (q0 := 0) rfl ht_atO, fun U hU hW => ⟨rfl, ht_Im hP hK hN hU hW⟩⟩ rfl rfl hl.1 rfl (lv_room (Nat.le_of_ble_eq_true rfl)) dH_sectionsWronglyFree_23 ⟨Nat.zero_le _, Nat.zero_le _⟩)) (fun r3 hr3 => ?_)
          subst hr3
          refine lv_if_ne (tgt := 40) hx hb dH_sectionsWronglyFree_26 (by decide) (fun c4 => ?_) (fun c4 => ?_)
          · replace c4 := ht_b1.mp c4
            refine lv_iinc (v := nI (j + 1)) (lv' := [(2, .int (nI (j + 1))), (0, .ref (q 0)), (1, .int (nI (ht_num (fun s => decide (g 1 s = 0) && (!ht_claimed g k (nI s) (nI s) (-1) && ht_sec g k (nI s))) j)))]) hx hb dH_sectionsWronglyFree_40 hl (k := 2) rfl (nI_1 _) (by decide) rfl (fun ls hl => ?_)
            refine lv_goto (tgt := 4) hx hb dH_sectionsWronglyFree_43 (by decide) ?_
            have e8 : ht_num (fun s => decide (g 1 s = 0) && (!ht_claimed g k (nI s) (nI s) (-1) && ht_sec g k (nI s))) (j + 1) = ht_num (fun s => decide (g 1 s = 0) && (!ht_claimed g k (nI s) (nI s) (-1) && ht_sec g k (nI s))) j := by simp [ht_num, c2, c4]
            rw [← e8] at hl
            exact ih (j + 1) (by omega) (by omega) ls (lv_sub hl [1, 2, 0] rfl)
          · replace c4 := ht_b0.mp c4
            refine lv_aload_n hx hb dH_sectionsWronglyFree_29 rfl (lv_at hl 0 rfl) ?_
            refine lv_iload_n hx hb dH_sectionsWronglyFree_30 rfl (lv_at hl 2 rfl) ?_
            refine vp_callSi (va_Run.run (va_runV (As := [.int (nI j)]) (rest := []) ⟨hx, hb, hml, hown, hts⟩ (xH_isSectionStoodOn l D cA q g k hk hn (nI j)) (cwV 1 hts (ht_gV w433 w435 s31 w1 w436) rfl rfl rfl (by decide +kernel) ⟨Nat.le_of_ble_eq_true rfl, Nat.le_of_ble_eq_true rfl⟩) ⟨ht_bl, va_recv hK hP (ci := 1) (q0 := 0) rfl ht_atO, fun U hU hW => ⟨rfl, ht_Im hP hK hN hU hW⟩⟩ rfl rfl hl.1 rfl (lv_room (Nat.le_of_ble_eq_true rfl)) dH_sectionsWronglyFree_31 ⟨Nat.zero_le _, Nat.zero_le _⟩)) (fun r5 hr5 => ?_)
            subst hr5
            refine lv_if_eq (tgt := 40) hx hb dH_sectionsWronglyFree_34 (by decide) (fun c6 => ?_) (fun c6 => ?_)
            · replace c6 := ht_b0.mp c6
              refine lv_iinc (v := nI (j + 1)) (lv' := [(2, .int (nI (j + 1))), (0, .ref (q 0)), (1, .int (nI (ht_num (fun s => decide (g 1 s = 0) && (!ht_claimed g k (nI s) (nI s) (-1) && ht_sec g k (nI s))) j)))]) hx hb dH_sectionsWronglyFree_40 hl (k := 2) rfl (nI_1 _) (by decide) rfl (fun ls hl => ?_)
              refine lv_goto (tgt := 4) hx hb dH_sectionsWronglyFree_43 (by decide) ?_
              have e8 : ht_num (fun s => decide (g 1 s = 0) && (!ht_claimed g k (nI s) (nI s) (-1) && ht_sec g k (nI s))) (j + 1) = ht_num (fun s => decide (g 1 s = 0) && (!ht_claimed g k (nI s) (nI s) (-1) && ht_sec g k (nI s))) j := by simp [ht_num, c2, c4, c6]
              rw [← e8] at hl
              exact ih (j + 1) (by omega) (by omega) ls (lv_sub hl [1, 2, 0] rfl)
            · replace c6 := ht_b1.mp c6
              refine lv_iinc (v := nI (ht_num (fun s => decide (g 1 s = 0) && (!ht_claimed g k (nI s) (nI s) (-1) && ht_sec g k (nI s))) j + 1)) (lv' := [(1, .int (nI (ht_num (fun s => decide (g 1 s = 0) && (!ht_claimed g k (nI s) (nI s) (-1) && ht_sec g k (nI s))) j + 1))), (0, .ref (q 0)), (2, .int (nI j))]) hx hb dH_sectionsWronglyFree_37 hl (k := 1) rfl (nI_1 _) (by decide) rfl (fun ls hl => ?_)
              refine lv_iinc (v := nI (j + 1)) (lv' := [(2, .int (nI (j + 1))), (1, .int (nI (ht_num (fun s => decide (g 1 s = 0) && (!ht_claimed g k (nI s) (nI s) (-1) && ht_sec g k (nI s))) j + 1))), (0, .ref (q 0))]) hx hb dH_sectionsWronglyFree_40 hl (k := 2) rfl (nI_1 _) (by decide) rfl (fun ls hl => ?_)
              refine lv_goto (tgt := 4) hx hb dH_sectionsWronglyFree_43 (by decide) ?_
              have e8 : ht_num (fun s => decide (g 1 s = 0) && (!ht_claimed g k (nI s) (nI s) (-1) && ht_sec g k (nI s))) (j + 1) = ht_num (fun s => decide (g 1 s = 0) && (!ht_claimed g k (nI s) (nI s) (-1) && ht_sec g k (nI s))) j + 1 := by simp [ht_num, c2, c4, c6]
              rw [← e8] at hl
              exact ih (j + 1) (by omega) (by omega) ls (lv_sub hl [2, 1, 0] rfl)
  refine lv_iconst (v := 0) hx hb dH_sectionsWronglyFree_0 (by decide) ?_
  refine lv_istore_n (lv' := [(1, .int 0), (0, .ref (q 0))]) hx hb dH_sectionsWronglyFree_1 rfl hl (by decide) rfl (fun ls hl => ?_)
  refine lv_iconst (v := 0) hx hb dH_sectionsWronglyFree_2 (by decide) ?_
  refine lv_istore_n (lv' := [(2, .int 0), (1, .int 0), (0, .ref (q 0))]) hx hb dH_sectionsWronglyFree_3 rfl hl (by decide) rfl (fun ls hl => ?_)
  exact K4 (12 + 1) 0 (by omega) (by omega) ls (lv_sub hl [2, 1, 0] rfl)
set_option maxHeartbeats 4000000 in
set_option maxRecDepth 100000 in
theorem xH_farthestFreeFrom (l : Launch) (D : va_G) (cA : ClassId × ClassId) (q : Nat → Nat) (g : ht_G) (k : Nat) (hk : k ≤ 8) (hn : g 0 0 = nI k) (s0 : Nat) (hs : s0 < 12) (t : Int32) : Met l yH_farthestFreeFrom kH_farthestFreeFrom ({ frames := 2, cells := 0, slots := 0, locals := 46 }) (va_Pc [.ref (q 0), .int (nI s0), .int t] (ht_I D cA q g)) (vp_Si (fun r => r = nI (ht_far g k t (11 - s0) s0))) 0 0 (fun _ => False) := by
  refine Met.ofW (cc := cH_farthestFreeFrom) (maxL := 5) (ret := (some .int)) (by decide) rfl ?_
  intro p e s m args below meth c s₁ B hml hv
  obtain ⟨rfl, hP, hK, hN⟩ := hv
  have hx := B.exec
  have hb := B.bytes
  have hr := B.returns
  have hts := fun w h => atoms_spec (ws := kH_farthestFreeFrom) B.pre w (List.mem_cons_of_mem _ h)
  have hown : s.vm.findClass RH = some m.cls := findClass_of_methodNamed B.named
  have hlocks := B.notSynchronized
  have hl := lv_entry ([.ref (q 0), .int (nI s0), .int t]) (n := 5) (Nat.le_of_ble_eq_true rfl)
  rw [lg_entry_eq]
  generalize (lg_sl ([.ref (q 0), .int (nI s0), .int t]) ++ List.replicate (5 - (lg_sl ([.ref (q 0), .int (nI s0), .int t])).length) Slot.unset).toArray = ls at hl ⊢
  have hl : lv_has ls 5 [(0, .ref (q 0)), (1, .int (nI s0)), (2, .int t)] := hl
  have K7 : ∀ (n9 : Nat), ∀ (f : Nat), (13 ≤ f + n9) → (f < 12) → (ht_far g k t (11 - f) f = ht_far g k t (11 - s0) s0) → ∀ (ls : Array Slot), lv_has ls 5 [(0, .ref (q 0)), (2, .int t), (3, .int (nI f)), (4, .int (nI (f + 1)))] → W p l e (headSpec kH_farthestFreeFrom ({ frames := 2, cells := 0, slots := 0, locals := 46 })).room s m [.ref (q 0), .int (nI s0), .int t].toArray below meth c s.heap [] 0 0 (MQ below (vp_Si (fun r => r = nI (ht_far g k t (11 - s0) s0))) [.ref (q 0), .int (nI s0), .int t].toArray s 0 0 (fun _ => False)) (F0 m 7 ls []) := by
    intro n9
    induction n9 with
    | zero =>
      intro f hn9 hf hF ls hl
      exact absurd hn9 (by omega)
    | succ n9 ih =>
      intro f hn9 hf hF ls hl
      refine lv_iload hx hb dH_farthestFreeFrom_7 (lv_at hl 3 rfl) ?_
      refine lv_bipush (v := 12) hx hb dH_farthestFreeFrom_9 (by decide) ?_
      refine lv_icmp_ge (tgt := 48) hx hb dH_farthestFreeFrom_11 (by decide) (fun c1 => ?_) (fun c1 => ?_)
      · have e9 : f + 1 = 12 := ht_end12 (by omega) c1
        refine lv_iload_n hx hb dH_farthestFreeFrom_48 rfl (lv_at hl 2 rfl) ?_
        exact W.iret (v := nI f) hx hb hr (fun t ht hW => ⟨nI f, rfl, by rw [← hF, show f = 11 by omega]; rfl, ht⟩) (fun _ h => nomatch h) dH_farthestFreeFrom_49
      · have hjl : f + 1 < 12 := ht_lt12 (by omega) c1
        refine lv_aload_n hx hb dH_farthestFreeFrom_14 rfl (lv_at hl 0 rfl) ?_
        refine va_get (D := D) (ci := 1) (C := RH) (T := TH) (N := 7) (v := .ref (q 2)) hx hb hts inH hown hK hP 0 ht_atO rfl 3 (by decide) (hts _ w80) (fun _ h9 => h9) rfl dH_farthestFreeFrom_15 ?_
        refine lv_iload hx hb dH_farthestFreeFrom_18 (lv_at hl 3 rfl) ?_
        refine ht_ldI hx hb hK hP 1 (j := f + 1) (by decide) (by decide) hjl rfl dH_farthestFreeFrom_20 ?_
        refine lv_if_ne (tgt := 48) hx hb dH_farthestFreeFrom_21 (by decide) (fun c2 => ?_) (fun c2 => ?_)
        · refine lv_iload_n hx hb dH_farthestFreeFrom_48 rfl (lv_at hl 2 rfl) ?_
          exact W.iret (v := nI f) hx hb hr (fun t ht hW => ⟨nI f, rfl, by rw [← hF, show 11 - f = (11 - (f + 1)) + 1 by omega, ht_far, if_neg (by simp [c2])], ht⟩) (fun _ h => nomatch h) dH_farthestFreeFrom_49
        · refine lv_aload_n hx hb dH_farthestFreeFrom_24 rfl (lv_at hl 0 rfl) ?_
          refine lv_iload hx hb dH_farthestFreeFrom_25 (lv_at hl 3 rfl) ?_
          refine lv_iload hx hb dH_farthestFreeFrom_27 (lv_at hl 3 rfl) ?_
          refine lv_iload_n hx hb dH_farthestFreeFrom_29 rfl (lv_at hl 1 rfl) ?_
          refine vp_callSi (va_Run.run (va_runV (As := [.int (nI (f + 1)), .int (nI (f + 1)), .int t]) (rest := []) ⟨hx, hb, hml, hown, hts⟩ (xH_isAnyClaimed l D cA q g k hk hn (nI (f + 1)) (nI (f + 1)) t) (cwV 3 hts (ht_gV w209 w211 s4 w1 w212) rfl rfl rfl (by decide +kernel) ⟨Nat.le_of_ble_eq_true rfl, Nat.le_of_ble_eq_true rfl⟩) ⟨ht_bl, va_recv hK hP (ci := 1) (q0 := 0) rfl ht_atO, fun U hU hW => ⟨rfl, ht_Im hP hK hN hU hW⟩⟩ rfl rfl hl.1 rfl (lv_room (Nat.le_of_ble_eq_true rfl)) dH_farthestFreeFrom_30 ⟨Nat.zero_le _, Nat.zero_le _⟩)) (fun r3 hr3 => ?_)
          subst hr3
          refine lv_if_eq (tgt := 39) hx hb dH_farthestFreeFrom_33 (by decide) (fun c4 => ?_) (fun c4 => ?_)
          · replace c4 := ht_b0.mp c4
            refine lv_iload hx hb dH_farthestFreeFrom_39 (lv_at hl 3 rfl) ?_
            refine lv_istore_n (lv' := [(3, .int (nI (f + 1))), (0, .ref (q 0)), (2, .int t), (4, .int (nI (f + 1)))]) hx hb dH_farthestFreeFrom_41 rfl hl (by decide) rfl (fun ls hl => ?_)
            refine lv_iinc (v := nI (f + 1 + 1)) (lv' := [(4, .int (nI (f + 1 + 1))), (3, .int (nI (f + 1))), (0, .ref (q 0)), (2, .int t)]) hx hb dH_farthestFreeFrom_42 hl (k := 3) rfl (nI_1 _) (by decide) rfl (fun ls hl => ?_)
            refine lv_goto (tgt := 7) hx hb dH_farthestFreeFrom_45 (by decide) ?_
            exact ih (f + 1) (by omega) (by omega) (by rw [← hF, show 11 - f = (11 - (f + 1)) + 1 by omega, ht_far, if_pos ⟨c2, c4⟩]) ls (lv_sub hl [2, 3, 1, 0] rfl)
          · replace c4 := ht_b1.mp c4
            refine lv_goto (tgt := 48) hx hb dH_farthestFreeFrom_36 (by decide) ?_
            refine lv_iload_n hx hb dH_farthestFreeFrom_48 rfl (lv_at hl 2 rfl) ?_
            exact W.iret (v := nI f) hx hb hr (fun t ht hW => ⟨nI f, rfl, by rw [← hF, show 11 - f = (11 - (f + 1)) + 1 by omega, ht_far, if_neg (by simp [c2, c4])], ht⟩) (fun _ h => nomatch h) dH_farthestFreeFrom_49
  refine lv_iload_n hx hb dH_farthestFreeFrom_0 rfl (lv_at hl 1 rfl) ?_
  refine lv_istore_n (lv' := [(3, .int (nI s0)), (0, .ref (q 0)), (1, .int (nI s0)), (2, .int t)]) hx hb dH_farthestFreeFrom_1 rfl hl (by decide) rfl (fun ls hl => ?_)
  refine lv_iload_n hx hb dH_farthestFreeFrom_2 rfl (lv_at hl 2 rfl) ?_
  refine lv_iconst (v := 1) hx hb dH_farthestFreeFrom_3 (by decide) ?_
  refine lv_iadd hx hb dH_farthestFreeFrom_4 ?_
  rw [nI_1 s0]
  refine lv_istore (lv' := [(4, .int (nI (s0 + 1))), (3, .int (nI s0)), (0, .ref (q 0)), (1, .int (nI s0)), (2, .int t)]) hx hb dH_farthestFreeFrom_5 hl (by decide) rfl (fun ls hl => ?_)
  exact K7 13 s0 (by omega) hs rfl ls (lv_sub hl [2, 4, 1, 0] rfl)
set_option maxHeartbeats 4000000 in
set_option maxRecDepth 100000 in
theorem xH_isAnyTrainLocated (l : Launch) (D : va_G) (cA : ClassId × ClassId) (q : Nat → Nat) (g : ht_G) (a : Nat) (ha : a + 2 < 12) : Met l yH_isAnyTrainLocated kH_isAnyTrainLocated ({ frames := 0, cells := 0, slots := 0, locals := 0 }) (va_Pc [.ref (q 0), .int (nI a), .int (nI (a + 2))] (ht_I D cA q g)) (vp_Si (fun r => r = ht_b (ht_anyLoc g a 3))) 0 0 (fun _ => False) := by
  refine Met.ofW (cc := cH_isAnyTrainLocated) (maxL := 4) (ret := (some .boolean)) (by decide) rfl ?_
  intro p e s m args below meth c s₁ B hml hv
  obtain ⟨rfl, hP, hK, hN⟩ := hv
  have hx := B.exec
  have hb := B.bytes
  have hr := B.returns
  have hts := fun w h => atoms_spec (ws := kH_isAnyTrainLocated) B.pre w (List.mem_cons_of_mem _ h)
  have hown : s.vm.findClass RH = some m.cls := findClass_of_methodNamed B.named
  have hlocks := B.notSynchronized
  have hl := lv_entry ([.ref (q 0), .int (nI a), .int (nI (a + 2))]) (n := 4) (Nat.le_of_ble_eq_true rfl)
  rw [lg_entry_eq]
  generalize (lg_sl ([.ref (q 0), .int (nI a), .int (nI (a + 2))]) ++ List.replicate (4 - (lg_sl ([.ref (q 0), .int (nI a), .int (nI (a + 2))])).length) Slot.unset).toArray = ls at hl ⊢
  have hl : lv_has ls 4 [(0, .ref (q 0)), (1, .int (nI a)), (2, .int (nI (a + 2)))] := hl
  have K2 : ∀ (n9 : Nat), ∀ (u : Nat), (4 ≤ u + n9) → (u ≤ 3) → (ht_ex (fun i => decide (0 < g 2 (a + i))) u = false) → ∀ (ls : Array Slot), lv_has ls 4 [(0, .ref (q 0)), (2, .int (nI (a + 2))), (3, .int (nI (a + u)))] → W p l e (headSpec kH_isAnyTrainLocated ({ frames := 0, cells := 0, slots := 0, locals := 0 })).room s m [.ref (q 0), .int (nI a), .int (nI (a + 2))].toArray below meth c s.heap [] 0 0 (MQ below (vp_Si (fun r => r = ht_b (ht_anyLoc g a 3))) [.ref (q 0), .int (nI a), .int (nI (a + 2))].toArray s 0 0 (fun _ => False)) (F0 m 2 ls []) := by
    intro n9
    induction n9 with
    | zero =>
      intro u hn9 ht3 hE ls hl
      exact absurd hn9 (by omega)
    | succ n9 ih =>
      intro u hn9 ht3 hE ls hl
      refine lv_iload_n hx hb dH_isAnyTrainLocated_2 rfl (lv_at hl 2 rfl) ?_
      refine lv_iload_n hx hb dH_isAnyTrainLocated_3 rfl (lv_at hl 1 rfl) ?_
      refine lv_icmp_gt (tgt := 24) hx hb dH_isAnyTrainLocated_4 (by decide) (fun c1 => ?_) (fun c1 => ?_)
      · have e9 : u = 3 := by have h9 := (nI_ltI (by omega) (by omega)).mp c1; omega
        refine lv_iconst (v := 0) hx hb dH_isAnyTrainLocated_24 (by decide) ?_
        exact W.zret (v := 0) (ty := .boolean) hx hb hr rfl (fun t ht hW => ⟨0, rfl, by rw [e9] at hE; simp [ht_anyLoc, ht_b, hE], ht⟩) (fun _ h => nomatch h) dH_isAnyTrainLocated_25
      · have h2 : u < 3 := by have h9 := mt (nI_ltI (a := a + 2) (b := a + u) (by omega) (by omega)).mpr c1; omega
        refine lv_aload_n hx hb dH_isAnyTrainLocated_7 rfl (lv_at hl 0 rfl) ?_
        refine va_get (D := D) (ci := 1) (C := RH) (T := TH) (N := 7) (v := .ref (q 3)) hx hb hts inH hown hK hP 0 ht_atO rfl 4 (by decide) (hts _ w81) (fun _ h9 => h9) rfl dH_isAnyTrainLocated_8 ?_
        refine lv_iload_n hx hb dH_isAnyTrainLocated_11 rfl (lv_at hl 2 rfl) ?_
        refine ht_ldI hx hb hK hP 2 (j := a + u) (by decide) (by decide) (by omega) rfl dH_isAnyTrainLocated_12 ?_
        refine lv_if_le (tgt := 18) hx hb dH_isAnyTrainLocated_13 (by decide) (fun c2 => ?_) (fun c2 => ?_)
        · refine lv_iinc (v := nI (a + u + 1)) (lv' := [(3, .int (nI (a + u + 1))), (0, .ref (q 0)), (2, .int (nI (a + 2)))]) hx hb dH_isAnyTrainLocated_18 hl (k := 2) rfl (nI_1 _) (by decide) rfl (fun ls hl => ?_)
          refine lv_goto (tgt := 2) hx hb dH_isAnyTrainLocated_21 (by decide) ?_
          exact ih (u + 1) (by omega) (by omega) (ht_ex_s hE (by simp [c2])) ls (lv_sub hl [1, 2, 0] rfl)
        · refine lv_iconst (v := 1) hx hb dH_isAnyTrainLocated_16 (by decide) ?_
          exact W.zret (v := 1) (ty := .boolean) hx hb hr rfl (fun t ht hW => ⟨1, rfl, by rw [ht_anyLoc, ht_ex_t (i := u) h2 (by simpa using c2)]; rfl, ht⟩) (fun _ h => nomatch h) dH_isAnyTrainLocated_17
  refine lv_iload_n hx hb dH_isAnyTrainLocated_0 rfl (lv_at hl 1 rfl) ?_
  refine lv_istore_n (lv' := [(3, .int (nI a)), (0, .ref (q 0)), (1, .int (nI a)), (2, .int (nI (a + 2)))]) hx hb dH_isAnyTrainLocated_1 rfl hl (by decide) rfl (fun ls hl => ?_)
  exact K2 4 0 (by omega) (by omega) rfl ls (lv_sub hl [1, 3, 0] rfl)
set_option maxHeartbeats 4000000 in
set_option maxRecDepth 100000 in
theorem xH_wasLeftByBrokenTrain (l : Launch) (D : va_G) (cA : ClassId × ClassId) (q : Nat → Nat) (g : ht_G) (k : Nat) (hk : k ≤ 8) (hn : g 0 0 = nI k) (s0 : Nat) : Met l yH_wasLeftByBrokenTrain kH_wasLeftByBrokenTrain ({ frames := 1, cells := 0, slots := 0, locals := 21 }) (va_Pc [.ref (q 0), .int (nI s0)] (ht_I D cA q g)) (vp_Si (fun r => r = ht_b (ht_broken g k s0))) 0 0 (fun _ => False) := by
  refine Met.ofW (cc := cH_wasLeftByBrokenTrain) (maxL := 4) (ret := (some .boolean)) (by decide) rfl ?_
  intro p e s m args below meth c s₁ B hml hv
  obtain ⟨rfl, hP, hK, hN⟩ := hv
  have hx := B.exec
  have hb := B.bytes
  have hr := B.returns
  have hts := fun w h => atoms_spec (ws := kH_wasLeftByBrokenTrain) B.pre w (List.mem_cons_of_mem _ h)
  have hown : s.vm.findClass RH = some m.cls := findClass_of_methodNamed B.named
  have hlocks := B.notSynchronized
  have hl := lv_entry ([.ref (q 0), .int (nI s0)]) (n := 4) (Nat.le_of_ble_eq_true rfl)
  rw [lg_entry_eq]
  generalize (lg_sl ([.ref (q 0), .int (nI s0)]) ++ List.replicate (4 - (lg_sl ([.ref (q 0), .int (nI s0)])).length) Slot.unset).toArray = ls at hl ⊢
  have hl : lv_has ls 4 [(0, .ref (q 0)), (1, .int (nI s0))] := hl
  have K2 : ∀ (n9 : Nat), ∀ (j : Nat), (k + 1 ≤ j + n9) → (j ≤ k) → (ht_ex (fun i => !decide (g (5 + i) 0 = 0) && (decide (g (5 + i) 8 = 0) && (decide (g (5 + i) 10 = 0) && ht_left (g (5 + i)) (nI s0)))) j = false) → ∀ (ls : Array Slot), lv_has ls 4 [(0, .ref (q 0)), (1, .int (nI s0)), (2, .int (nI j))] → W p l e (headSpec kH_wasLeftByBrokenTrain ({ frames := 1, cells := 0, slots := 0, locals := 21 })).room s m [.ref (q 0), .int (nI s0)].toArray below meth c s.heap [] 0 0 (MQ below (vp_Si (fun r => r = ht_b (ht_broken g k s0))) [.ref (q 0), .int (nI s0)].toArray s 0 0 (fun _ => False)) (F0 m 2 ls []) := by
    intro n9
    induction n9 with
    | zero =>
      intro j hn9 hjk hE ls hl
      exact absurd hn9 (by omega)
    | succ n9 ih =>
      intro j hn9 hjk hE ls hl
      refine lv_iload_n hx hb dH_wasLeftByBrokenTrain_2 rfl (lv_at hl 2 rfl) ?_
      refine lv_aload_n hx hb dH_wasLeftByBrokenTrain_3 rfl (lv_at hl 0 rfl) ?_
      refine va_get (D := D) (ci := 1) (C := RH) (T := TH) (N := 7) (v := .int (g 0 0)) hx hb hts inH hown hK hP 0 ht_atO rfl 1 (by decide) (hts _ w78) (fun _ h9 => h9) rfl dH_wasLeftByBrokenTrain_4 ?_
      refine lv_icmp_ge (tgt := 54) hx hb dH_wasLeftByBrokenTrain_7 (by decide) (fun c1 => ?_) (fun c1 => ?_)
      · rw [hn] at c1
        have e9 : j = k := ht_end hk hjk c1
        refine lv_iconst (v := 0) hx hb dH_wasLeftByBrokenTrain_54 (by decide) ?_
        exact W.zret (v := 0) (ty := .boolean) hx hb hr rfl (fun t ht hW => ⟨0, rfl, by rw [e9] at hE; simp [ht_broken, ht_b, hE], ht⟩) (fun _ h => nomatch h) dH_wasLeftByBrokenTrain_55
      · rw [hn] at c1
        have hjl : j < k := ht_lt hk hjk c1
        have hj8 : j < 8 := Nat.lt_of_lt_of_le hjl hk
        refine lv_aload_n hx hb dH_wasLeftByBrokenTrain_10 rfl (lv_at hl 0 rfl) ?_
        refine va_get (D := D) (ci := 1) (C := RH) (T := TH) (N := 7) (v := .ref (q 1)) hx hb hts inH hown hK hP 0 ht_atO rfl 0 (by decide) (hts _ w77) (fun _ h9 => h9) rfl dH_wasLeftByBrokenTrain_11 ?_
        refine lv_iload_n hx hb dH_wasLeftByBrokenTrain_14 rfl (lv_at hl 2 rfl) ?_
        refine ht_ldV hx hb hK hP (j := j) hj8 rfl dH_wasLeftByBrokenTrain_15 ?_
        refine lv_astore_n (lv' := [(3, .ref (q (j + 6))), (0, .ref (q 0)), (1, .int (nI s0)), (2, .int (nI j))]) hx hb dH_wasLeftByBrokenTrain_16 rfl hl (by decide) rfl (fun ls hl => ?_)
        refine lv_aload_n hx hb dH_wasLeftByBrokenTrain_17 rfl (lv_at hl 0 rfl) ?_
        refine va_getN (D := D) (ci := 0) (C := RV) (T := TV) (N := 13) (v := .int (g (5 + j) 0)) hx hb hts inV hown hK hP (j + 6) (ht_atV hj8) rfl 0 (by decide) (hN.use 1 rfl rfl) (fun _ h9 => h9) rfl dH_wasLeftByBrokenTrain_18 ?_
        refine lv_if_eq (tgt := 48) hx hb dH_wasLeftByBrokenTrain_21 (by decide) (fun c2 => ?_) (fun c2 => ?_)
        · refine lv_iinc (v := nI (j + 1)) (lv' := [(2, .int (nI (j + 1))), (3, .ref (q (j + 6))), (0, .ref (q 0)), (1, .int (nI s0))]) hx hb dH_wasLeftByBrokenTrain_48 hl (k := 3) rfl (nI_1 _) (by decide) rfl (fun ls hl => ?_)
          refine lv_goto (tgt := 2) hx hb dH_wasLeftByBrokenTrain_51 (by decide) ?_
          exact ih (j + 1) (by omega) (by omega) (ht_ex_s hE (by simp [c2])) ls (lv_sub hl [2, 3, 0] rfl)
        · refine lv_aload_n hx hb dH_wasLeftByBrokenTrain_24 rfl (lv_at hl 0 rfl) ?_
          refine va_getN (D := D) (ci := 0) (C := RV) (T := TV) (N := 13) (v := .int (g (5 + j) 8)) hx hb hts inV hown hK hP (j + 6) (ht_atV hj8) rfl 8 (by decide) (hN.use 9 rfl rfl) (fun _ h9 => h9) rfl dH_wasLeftByBrokenTrain_25 ?_
          refine lv_if_ne (tgt := 48) hx hb dH_wasLeftByBrokenTrain_28 (by decide) (fun c3 => ?_) (fun c3 => ?_)
          · refine lv_iinc (v := nI (j + 1)) (lv' := [(2, .int (nI (j + 1))), (3, .ref (q (j + 6))), (0, .ref (q 0)), (1, .int (nI s0))]) hx hb dH_wasLeftByBrokenTrain_48 hl (k := 3) rfl (nI_1 _) (by decide) rfl (fun ls hl => ?_)
            refine lv_goto (tgt := 2) hx hb dH_wasLeftByBrokenTrain_51 (by decide) ?_
            exact ih (j + 1) (by omega) (by omega) (ht_ex_s hE (by simp [c2, c3])) ls (lv_sub hl [2, 3, 0] rfl)
          · refine lv_aload_n hx hb dH_wasLeftByBrokenTrain_31 rfl (lv_at hl 0 rfl) ?_
            refine va_getN (D := D) (ci := 0) (C := RV) (T := TV) (N := 13) (v := .int (g (5 + j) 10)) hx hb hts inV hown hK hP (j + 6) (ht_atV hj8) rfl 10 (by decide) (hN.use 11 rfl rfl) (fun _ h9 => h9) rfl dH_wasLeftByBrokenTrain_32 ?_
            refine lv_if_ne (tgt := 48) hx hb dH_wasLeftByBrokenTrain_35 (by decide) (fun c4 => ?_) (fun c4 => ?_)
            · refine lv_iinc (v := nI (j + 1)) (lv' := [(2, .int (nI (j + 1))), (3, .ref (q (j + 6))), (0, .ref (q 0)), (1, .int (nI s0))]) hx hb dH_wasLeftByBrokenTrain_48 hl (k := 3) rfl (nI_1 _) (by decide) rfl (fun ls hl => ?_)
              refine lv_goto (tgt := 2) hx hb dH_wasLeftByBrokenTrain_51 (by decide) ?_
              exact ih (j + 1) (by omega) (by omega) (ht_ex_s hE (by simp [c2, c3, c4])) ls (lv_sub hl [2, 3, 0] rfl)
            · refine lv_aload_n hx hb dH_wasLeftByBrokenTrain_38 rfl (lv_at hl 0 rfl) ?_
              refine lv_iload_n hx hb dH_wasLeftByBrokenTrain_39 rfl (lv_at hl 2 rfl) ?_
              refine vp_callSi (va_Run.run (va_runVN (As := [.int (nI s0)]) (rest := []) ⟨hx, hb, hml, hown, hts⟩ (xV_hasLeft l D cA q g j hj8 (nI s0)) ⟨va_cnB 1 hts (ht_gW w274) rfl rfl rfl (hN _ (List.mem_of_getElem? (i := 17) rfl)) (hts _ w2) (by decide +kernel) ⟨Nat.le_of_ble_eq_true rfl, Nat.le_of_ble_eq_true rfl⟩, hts _ w273, hts _ s19⟩ ⟨ht_bl, va_recv hK hP (ci := 0) (q0 := j + 6) rfl (ht_atV hj8), fun U hU hW => ⟨rfl, ht_Im hP hK hN hU hW⟩⟩ rfl rfl hl.1 rfl (lv_room (Nat.le_of_ble_eq_true rfl)) dH_wasLeftByBrokenTrain_40 ⟨Nat.zero_le _, Nat.zero_le _⟩)) (fun r5 hr5 => ?_)
              subst hr5
              refine lv_if_eq (tgt := 48) hx hb dH_wasLeftByBrokenTrain_43 (by decide) (fun c6 => ?_) (fun c6 => ?_)
              · replace c6 := ht_b0.mp c6
                refine lv_iinc (v := nI (j + 1)) (lv' := [(2, .int (nI (j + 1))), (3, .ref (q (j + 6))), (0, .ref (q 0)), (1, .int (nI s0))]) hx hb dH_wasLeftByBrokenTrain_48 hl (k := 3) rfl (nI_1 _) (by decide) rfl (fun ls hl => ?_)
                refine lv_goto (tgt := 2) hx hb dH_wasLeftByBrokenTrain_51 (by decide) ?_
                exact ih (j + 1) (by omega) (by omega) (ht_ex_s hE (by simp [c2, c3, c4, c6])) ls (lv_sub hl [2, 3, 0] rfl)
              · replace c6 := ht_b1.mp c6
                refine lv_iconst (v := 1) hx hb dH_wasLeftByBrokenTrain_46 (by decide) ?_
                exact W.zret (v := 1) (ty := .boolean) hx hb hr rfl (fun t ht hW => ⟨1, rfl, by rw [ht_broken, ht_ex_t (i := j) hjl (by simp [c2, c3, c4, c6])]; rfl, ht⟩) (fun _ h => nomatch h) dH_wasLeftByBrokenTrain_47
  refine lv_iconst (v := 0) hx hb dH_wasLeftByBrokenTrain_0 (by decide) ?_
  refine lv_istore_n (lv' := [(2, .int 0), (0, .ref (q 0)), (1, .int (nI s0))]) hx hb dH_wasLeftByBrokenTrain_1 rfl hl (by decide) rfl (fun ls hl => ?_)
  exact K2 (k + 1) 0 (by omega) (by omega) rfl ls (lv_sub hl [1, 2, 0] rfl)
set_option maxHeartbeats 4000000 in
set_option maxRecDepth 100000 in
theorem xH_wasLeftByWholeTrain (l : Launch) (D : va_G) (cA : ClassId × ClassId) (q : Nat → Nat) (g : ht_G) (z : Nat) (hs : z < 12) (ha : ¬ g 4 z = -1 → ∃ j, j < 8 ∧ g 4 z = nI j ∧ (g 4 z).toNatClampNeg = j) : Met l yH_wasLeftByWholeTrain kH_wasLeftByWholeTrain ({ frames := 0, cells := 0, slots := 0, locals := 0 }) (va_Pc [.ref (q 0), .int (nI z)] (ht_I D cA q g)) (vp_Si (fun r => r = ht_b (ht_byW g z))) 0 0 (fun _ => False) := by
  refine Met.ofW (cc := cH_wasLeftByWholeTrain) (maxL := 3) (ret := (some .boolean)) (by decide) rfl ?_
  intro p e s m args below meth c s₁ B hml hv
  obtain ⟨rfl, hP, hK, hN⟩ := hv
  have hx := B.exec
  have hb := B.bytes
  have hr := B.returns
  have hts := fun w h => atoms_spec (ws := kH_wasLeftByWholeTrain) B.pre w (List.mem_cons_of_mem _ h)
  have hown : s.vm.findClass RH = some m.cls := findClass_of_methodNamed B.named
  have hlocks := B.notSynchronized
  have hl := lv_entry ([.ref (q 0), .int (nI z)]) (n := 3) (Nat.le_of_ble_eq_true rfl)
  rw [lg_entry_eq]
  generalize (lg_sl ([.ref (q 0), .int (nI z)]) ++ List.replicate (3 - (lg_sl ([.ref (q 0), .int (nI z)])).length) Slot.unset).toArray = ls at hl ⊢
  have hl : lv_has ls 3 [(0, .ref (q 0)), (1, .int (nI z))] := hl
  refine lv_aload_n hx hb dH_wasLeftByWholeTrain_0 rfl (lv_at hl 0 rfl) ?_
  refine va_get (D := D) (ci := 1) (C := RH) (T := TH) (N := 7) (v := .ref (q 5)) hx hb hts inH hown hK hP 0 ht_atO rfl 6 (by decide) (hts _ w83) (fun _ h9 => h9) rfl dH_wasLeftByWholeTrain_1 ?_
  refine lv_iload_n hx hb dH_wasLeftByWholeTrain_4 rfl (lv_at hl 1 rfl) ?_
  refine ht_ldI hx hb hK hP 4 (j := z) (by decide) (by decide) hs rfl dH_wasLeftByWholeTrain_5 ?_
  refine lv_istore_n (lv' := [(2, .int (g 4 z)), (0, .ref (q 0)), (1, .int (nI z))]) hx hb dH_wasLeftByWholeTrain_6 rfl hl (by decide) rfl (fun ls hl => ?_)
  refine lv_iload_n hx hb dH_wasLeftByWholeTrain_7 rfl (lv_at hl 0 rfl) ?_
  refine lv_iconst (v := (-1)) hx hb dH_wasLeftByWholeTrain_8 (by decide) ?_
  refine lv_icmp_eq (tgt := 40) hx hb dH_wasLeftByWholeTrain_9 (by decide) (fun c1 => ?_) (fun c1 => ?_)
  · refine lv_iconst (v := 0) hx hb dH_wasLeftByWholeTrain_40 (by decide) ?_
    exact W.zret (v := 0) (ty := .boolean) hx hb hr rfl (fun t ht hW => ⟨0, rfl, by simp [ht_byW, ht_b, c1], ht⟩) (fun _ h => nomatch h) dH_wasLeftByWholeTrain_41
  · obtain ⟨j, hj8, hxj, hxc⟩ := ha c1
    refine lv_aload_n hx hb dH_wasLeftByWholeTrain_12 rfl (lv_at hl 1 rfl) ?_
    refine va_get (D := D) (ci := 1) (C := RH) (T := TH) (N := 7) (v := .ref (q 1)) hx hb hts inH hown hK hP 0 ht_atO rfl 0 (by decide) (hts _ w77) (fun _ h9 => h9) rfl dH_wasLeftByWholeTrain_13 ?_
    refine lv_iload_n hx hb dH_wasLeftByWholeTrain_16 rfl (lv_at hl 0 rfl) ?_
    refine ht_ldV hx hb hK hP (j := j) hj8 hxj dH_wasLeftByWholeTrain_17 ?_
    refine va_getN (D := D) (ci := 0) (C := RV) (T := TV) (N := 13) (v := .int (g (5 + j) 8)) hx hb hts inV hown hK hP (j + 6) (ht_atV hj8) rfl 8 (by decide) (hN.use 9 rfl rfl) (fun _ h9 => h9) rfl dH_wasLeftByWholeTrain_18 ?_
    refine lv_if_ne (tgt := 40) hx hb dH_wasLeftByWholeTrain_21 (by decide) (fun c2 => ?_) (fun c2 => ?_)
    · refine lv_iconst (v := 0) hx hb dH_wasLeftByWholeTrain_40 (by decide) ?_
      exact W.zret (v := 0) (ty := .boolean) hx hb hr rfl (fun t ht hW => ⟨0, rfl, by simp [ht_byW, ht_b, hxc, c1, c2], ht⟩) (fun _ h => nomatch h) dH_wasLeftByWholeTrain_41
    · refine lv_aload_n hx hb dH_wasLeftByWholeTrain_24 rfl (lv_at hl 1 rfl) ?_
      refine va_get (D := D) (ci := 1) (C := RH) (T := TH) (N := 7) (v := .ref (q 1)) hx hb hts inH hown hK hP 0 ht_atO rfl 0 (by decide) (hts _ w77) (fun _ h9 => h9) rfl dH_wasLeftByWholeTrain_25 ?_
      refine lv_iload_n hx hb dH_wasLeftByWholeTrain_28 rfl (lv_at hl 0 rfl) ?_
      refine ht_ldV hx hb hK hP (j := j) hj8 hxj dH_wasLeftByWholeTrain_29 ?_
      refine va_getN (D := D) (ci := 0) (C := RV) (T := TV) (N := 13) (v := .int (g (5 + j) 10)) hx hb hts inV hown hK hP (j + 6) (ht_atV hj8) rfl 10 (by decide) (hN.use 11 rfl rfl) (fun _ h9 => h9) rfl dH_wasLeftByWholeTrain_30 ?_
      refine lv_if_eq (tgt := 40) hx hb dH_wasLeftByWholeTrain_33 (by decide) (fun c3 => ?_) (fun c3 => ?_)
      · refine lv_iconst (v := 0) hx hb dH_wasLeftByWholeTrain_40 (by decide) ?_
        exact W.zret (v := 0) (ty := .boolean) hx hb hr rfl (fun t ht hW => ⟨0, rfl, by simp [ht_byW, ht_b, hxc, c1, c2, c3], ht⟩) (fun _ h => nomatch h) dH_wasLeftByWholeTrain_41
      · refine lv_iconst (v := 1) hx hb dH_wasLeftByWholeTrain_36 (by decide) ?_
        refine lv_goto (tgt := 41) hx hb dH_wasLeftByWholeTrain_37 (by decide) ?_
        exact W.zret (v := 1) (ty := .boolean) hx hb hr rfl (fun t ht hW => ⟨1, rfl, by simp [ht_byW, ht_b, hxc, c1, c2, c3], ht⟩) (fun _ h => nomatch h) dH_wasLeftByWholeTrain_41
set_option maxHeartbeats 4000000 in
set_option maxRecDepth 100000 in
theorem xH_stateUnderTrains (l : Launch) (D : va_G) (cA : ClassId × ClassId) (q : Nat → Nat) (g : ht_G) (z : Nat) (hs : z < 12) (ha : ¬ g 3 z = -1 → ∃ j, j < 8 ∧ g 3 z = nI j ∧ (g 3 z).toNatClampNeg = j) : Met l yH_stateUnderTrains kH_stateUnderTrains ({ frames := 0, cells := 0, slots := 0, locals := 0 }) (va_Pc [.ref (q 0), .int (nI z)] (ht_I D cA q g)) (vp_Si (fun r => r = ht_under g z)) 0 0 (fun _ => False) := by
  refine Met.ofW (cc := cH_stateUnderTrains) (maxL := 5) (ret := (some .int)) (by decide) rfl ?_
  intro p e s m args below meth c s₁ B hml hv
  obtain ⟨rfl, hP, hK, hN⟩ := hv
  have hx := B.exec
  have hb := B.bytes
  have hr := B.returns
  have hts := fun w h => atoms_spec (ws := kH_stateUnderTrains) B.pre w (List.mem_cons_of_mem _ h)
  have hown : s.vm.findClass RH = some m.cls := findClass_of_methodNamed B.named
  have hlocks := B.notSynchronized
  have hl := lv_entry ([.ref (q 0), .int (nI z)]) (n := 5) (Nat.le_of_ble_eq_true rfl)
  rw [lg_entry_eq]
  generalize (lg_sl ([.ref (q 0), .int (nI z)]) ++ List.replicate (5 - (lg_sl ([.ref (q 0), .int (nI z)])).length) Slot.unset).toArray = ls at hl ⊢
  have hl : lv_has ls 5 [(0, .ref (q 0)), (1, .int (nI z))] := hl
  refine lv_aload_n hx hb dH_stateUnderTrains_0 rfl (lv_at hl 0 rfl) ?_
  refine va_get (D := D) (ci := 1) (C := RH) (T := TH) (N := 7) (v := .ref (q 4)) hx hb hts inH hown hK hP 0 ht_atO rfl 5 (by decide) (hts _ w82) (fun _ h9 => h9) rfl dH_stateUnderTrains_1 ?_
  refine lv_iload_n hx hb dH_stateUnderTrains_4 rfl (lv_at hl 1 rfl) ?_
  refine ht_ldI hx hb hK hP 3 (j := z) (by decide) (by decide) hs rfl dH_stateUnderTrains_5 ?_
  refine lv_istore_n (lv' := [(2, .int (g 3 z)), (0, .ref (q 0)), (1, .int (nI z))]) hx hb dH_stateUnderTrains_6 rfl hl (by decide) rfl (fun ls hl => ?_)
  refine lv_aload_n hx hb dH_stateUnderTrains_7 rfl (lv_at hl 1 rfl) ?_
  refine va_get (D := D) (ci := 1) (C := RH) (T := TH) (N := 7) (v := .ref (q 2)) hx hb hts inH hown hK hP 0 ht_atO rfl 3 (by decide) (hts _ w80) (fun _ h9 => h9) rfl dH_stateUnderTrains_8 ?_
  refine lv_iload_n hx hb dH_stateUnderTrains_11 rfl (lv_at hl 2 rfl) ?_
  refine ht_ldI hx hb hK hP 1 (j := z) (by decide) (by decide) hs rfl dH_stateUnderTrains_12 ?_
  refine lv_if_eq (tgt := 26) hx hb dH_stateUnderTrains_13 (by decide) (fun c1 => ?_) (fun c1 => ?_)
  · refine lv_iconst (v := 1) hx hb dH_stateUnderTrains_26 (by decide) ?_
    refine lv_goto (tgt := 31) hx hb dH_stateUnderTrains_27 (by decide) ?_
    refine lv_istore_n (lv' := [(3, .int 1), (2, .int (g 3 z)), (0, .ref (q 0)), (1, .int (nI z))]) hx hb dH_stateUnderTrains_31 rfl hl (by decide) rfl (fun ls hl => ?_)
    refine lv_iload_n hx hb dH_stateUnderTrains_32 rfl (lv_at hl 1 rfl) ?_
    refine lv_iconst (v := (-1)) hx hb dH_stateUnderTrains_33 (by decide) ?_
    refine lv_icmp_eq (tgt := 57) hx hb dH_stateUnderTrains_34 (by decide) (fun c2 => ?_) (fun c2 => ?_)
    · refine lv_iconst (v := 0) hx hb dH_stateUnderTrains_57 (by decide) ?_
      refine lv_istore (lv' := [(4, .int 0), (3, .int 1), (2, .int (g 3 z)), (0, .ref (q 0)), (1, .int (nI z))]) hx hb dH_stateUnderTrains_58 hl (by decide) rfl (fun ls hl => ?_)
      refine lv_iload hx hb dH_stateUnderTrains_60 (lv_at hl 0 rfl) ?_
      refine lv_if_eq (tgt := 69) hx hb dH_stateUnderTrains_62 (by decide) (fun c3 => ?_) (fun c3 => ?_)
      · refine lv_iconst (v := 2) hx hb dH_stateUnderTrains_69 (by decide) ?_
        exact W.iret (v := 2) hx hb hr (fun t ht hW => ⟨2, rfl, by simp [ht_under, c1, c2], ht⟩) (fun _ h => nomatch h) dH_stateUnderTrains_70
      · exact absurd c3 (by decide)
    · obtain ⟨j, hj8, hxj, hxc⟩ := ha c2
      refine lv_aload_n hx hb dH_stateUnderTrains_37 rfl (lv_at hl 2 rfl) ?_
      refine va_get (D := D) (ci := 1) (C := RH) (T := TH) (N := 7) (v := .ref (q 1)) hx hb hts inH hown hK hP 0 ht_atO rfl 0 (by decide) (hts _ w77) (fun _ h9 => h9) rfl dH_stateUnderTrains_38 ?_
      refine lv_iload_n hx hb dH_stateUnderTrains_41 rfl (lv_at hl 1 rfl) ?_
      refine ht_ldV hx hb hK hP (j := j) hj8 hxj dH_stateUnderTrains_42 ?_
      refine va_getN (D := D) (ci := 0) (C := RV) (T := TV) (N := 13) (v := .int (g (5 + j) 10)) hx hb hts inV hown hK hP (j + 6) (ht_atV hj8) rfl 10 (by decide) (hN.use 11 rfl rfl) (fun _ h9 => h9) rfl dH_stateUnderTrains_43 ?_
      refine lv_if_eq (tgt := 57) hx hb dH_stateUnderTrains_46 (by decide) (fun c4 => ?_) (fun c4 => ?_)
      · refine lv_iconst (v := 0) hx hb dH_stateUnderTrains_57 (by decide) ?_
        refine lv_istore (lv' := [(4, .int 0), (3, .int 1), (2, .int (g 3 z)), (0, .ref (q 0)), (1, .int (nI z))]) hx hb dH_stateUnderTrains_58 hl (by decide) rfl (fun ls hl => ?_)
        refine lv_iload hx hb dH_stateUnderTrains_60 (lv_at hl 0 rfl) ?_
        refine lv_if_eq (tgt := 69) hx hb dH_stateUnderTrains_62 (by decide) (fun c5 => ?_) (fun c5 => ?_)
        · refine lv_iconst (v := 2) hx hb dH_stateUnderTrains_69 (by decide) ?_
          exact W.iret (v := 2) hx hb hr (fun t ht hW => ⟨2, rfl, by simp [ht_under, hxc, c1, c2, c4], ht⟩) (fun _ h => nomatch h) dH_stateUnderTrains_70
        · exact absurd c5 (by decide)
      · refine lv_iload_n hx hb dH_stateUnderTrains_49 rfl (lv_at hl 0 rfl) ?_
        refine lv_if_eq (tgt := 57) hx hb dH_stateUnderTrains_50 (by decide) (fun c6 => ?_) (fun c6 => ?_)
        · exact absurd c6 (by decide)
        · refine lv_iconst (v := 1) hx hb dH_stateUnderTrains_53 (by decide) ?_
          refine lv_goto (tgt := 58) hx hb dH_stateUnderTrains_54 (by decide) ?_
          refine lv_istore (lv' := [(4, .int 1), (3, .int 1), (2, .int (g 3 z)), (0, .ref (q 0)), (1, .int (nI z))]) hx hb dH_stateUnderTrains_58 hl (by decide) rfl (fun ls hl => ?_)
          refine lv_iload hx hb dH_stateUnderTrains_60 (lv_at hl 0 rfl) ?_
          refine lv_if_eq (tgt := 69) hx hb dH_stateUnderTrains_62 (by decide) (fun c7 => ?_) (fun c7 => ?_)
          · exact absurd c7 (by decide)
          · refine lv_iconst (v := 1) hx hb dH_stateUnderTrains_65 (by decide) ?_
            refine lv_goto (tgt := 70) hx hb dH_stateUnderTrains_66 (by decide) ?_
            exact W.iret (v := 1) hx hb hr (fun t ht hW => ⟨1, rfl, by simp [ht_under, hxc, c1, c2, c4], ht⟩) (fun _ h => nomatch h) dH_stateUnderTrains_70
  · refine lv_aload_n hx hb dH_stateUnderTrains_16 rfl (lv_at hl 1 rfl) ?_
    refine va_get (D := D) (ci := 1) (C := RH) (T := TH) (N := 7) (v := .ref (q 2)) hx hb hts inH hown hK hP 0 ht_atO rfl 3 (by decide) (hts _ w80) (fun _ h9 => h9) rfl dH_stateUnderTrains_17 ?_
    refine lv_iload_n hx hb dH_stateUnderTrains_20 rfl (lv_at hl 2 rfl) ?_
    refine ht_ldI hx hb hK hP 1 (j := z) (by decide) (by decide) hs rfl dH_stateUnderTrains_21 ?_
    refine lv_iconst (v := 1) hx hb dH_stateUnderTrains_22 (by decide) ?_
    refine lv_icmp_ne (tgt := 30) hx hb dH_stateUnderTrains_23 (by decide) (fun c8 => ?_) (fun c8 => ?_)
    · refine lv_iconst (v := 0) hx hb dH_stateUnderTrains_30 (by decide) ?_
      refine lv_istore_n (lv' := [(3, .int 0), (2, .int (g 3 z)), (0, .ref (q 0)), (1, .int (nI z))]) hx hb dH_stateUnderTrains_31 rfl hl (by decide) rfl (fun ls hl => ?_)
      refine lv_iload_n hx hb dH_stateUnderTrains_32 rfl (lv_at hl 1 rfl) ?_
      refine lv_iconst (v := (-1)) hx hb dH_stateUnderTrains_33 (by decide) ?_
      refine lv_icmp_eq (tgt := 57) hx hb dH_stateUnderTrains_34 (by decide) (fun c9 => ?_) (fun c9 => ?_)
      · refine lv_iconst (v := 0) hx hb dH_stateUnderTrains_57 (by decide) ?_
        refine lv_istore (lv' := [(4, .int 0), (3, .int 0), (2, .int (g 3 z)), (0, .ref (q 0)), (1, .int (nI z))]) hx hb dH_stateUnderTrains_58 hl (by decide) rfl (fun ls hl => ?_)
        refine lv_iload hx hb dH_stateUnderTrains_60 (lv_at hl 0 rfl) ?_
        refine lv_if_eq (tgt := 69) hx hb dH_stateUnderTrains_62 (by decide) (fun c10 => ?_) (fun c10 => ?_)
        · refine lv_iconst (v := 2) hx hb dH_stateUnderTrains_69 (by decide) ?_
          exact W.iret (v := 2) hx hb hr (fun t ht hW => ⟨2, rfl, by simp [ht_under, c1, c8, c9], ht⟩) (fun _ h => nomatch h) dH_stateUnderTrains_70
        · exact absurd c10 (by decide)
      · obtain ⟨j, hj8, hxj, hxc⟩ := ha c9
        refine lv_aload_n hx hb dH_stateUnderTrains_37 rfl (lv_at hl 2 rfl) ?_
        refine va_get (D := D) (ci := 1) (C := RH) (T := TH) (N := 7) (v := .ref (q 1)) hx hb hts inH hown hK hP 0 ht_atO rfl 0 (by decide) (hts _ w77) (fun _ h9 => h9) rfl dH_stateUnderTrains_38 ?_
        refine lv_iload_n hx hb dH_stateUnderTrains_41 rfl (lv_at hl 1 rfl) ?_
        refine ht_ldV hx hb hK hP (j := j) hj8 hxj dH_stateUnderTrains_42 ?_
        refine va_getN (D := D) (ci := 0) (C := RV) (T := TV) (N := 13) (v := .int (g (5 + j) 10)) hx hb hts inV hown hK hP (j + 6) (ht_atV hj8) rfl 10 (by decide) (hN.use 11 rfl rfl) (fun _ h9 => h9) rfl dH_stateUnderTrains_43 ?_
        refine lv_if_eq (tgt := 57) hx hb dH_stateUnderTrains_46 (by decide) (fun c11 => ?_) (fun c11 => ?_)
        · refine lv_iconst (v := 0) hx hb dH_stateUnderTrains_57 (by decide) ?_
          refine lv_istore (lv' := [(4, .int 0), (3, .int 0), (2, .int (g 3 z)), (0, .ref (q 0)), (1, .int (nI z))]) hx hb dH_stateUnderTrains_58 hl (by decide) rfl (fun ls hl => ?_)
          refine lv_iload hx hb dH_stateUnderTrains_60 (lv_at hl 0 rfl) ?_
          refine lv_if_eq (tgt := 69) hx hb dH_stateUnderTrains_62 (by decide) (fun c12 => ?_) (fun c12 => ?_)
          · refine lv_iconst (v := 2) hx hb dH_stateUnderTrains_69 (by decide) ?_
            exact W.iret (v := 2) hx hb hr (fun t ht hW => ⟨2, rfl, by simp [ht_under, hxc, c1, c8, c9, c11], ht⟩) (fun _ h => nomatch h) dH_stateUnderTrains_70
          · exact absurd c12 (by decide)
        · refine lv_iload_n hx hb dH_stateUnderTrains_49 rfl (lv_at hl 0 rfl) ?_
          refine lv_if_eq (tgt := 57) hx hb dH_stateUnderTrains_50 (by decide) (fun c13 => ?_) (fun c13 => ?_)
          · refine lv_iconst (v := 0) hx hb dH_stateUnderTrains_57 (by decide) ?_
            refine lv_istore (lv' := [(4, .int 0), (3, .int 0), (2, .int (g 3 z)), (0, .ref (q 0)), (1, .int (nI z))]) hx hb dH_stateUnderTrains_58 hl (by decide) rfl (fun ls hl => ?_)
            refine lv_iload hx hb dH_stateUnderTrains_60 (lv_at hl 0 rfl) ?_
            refine lv_if_eq (tgt := 69) hx hb dH_stateUnderTrains_62 (by decide) (fun c14 => ?_) (fun c14 => ?_)
            · refine lv_iconst (v := 2) hx hb dH_stateUnderTrains_69 (by decide) ?_
              exact W.iret (v := 2) hx hb hr (fun t ht hW => ⟨2, rfl, by simp [ht_under, hxc, c1, c8, c9, c11], ht⟩) (fun _ h => nomatch h) dH_stateUnderTrains_70
            · exact absurd c14 (by decide)
          · exact absurd c13 (by decide)
    · refine lv_iconst (v := 1) hx hb dH_stateUnderTrains_26 (by decide) ?_
      refine lv_goto (tgt := 31) hx hb dH_stateUnderTrains_27 (by decide) ?_
      refine lv_istore_n (lv' := [(3, .int 1), (2, .int (g 3 z)), (0, .ref (q 0)), (1, .int (nI z))]) hx hb dH_stateUnderTrains_31 rfl hl (by decide) rfl (fun ls hl => ?_)
      refine lv_iload_n hx hb dH_stateUnderTrains_32 rfl (lv_at hl 1 rfl) ?_
      refine lv_iconst (v := (-1)) hx hb dH_stateUnderTrains_33 (by decide) ?_
      refine lv_icmp_eq (tgt := 57) hx hb dH_stateUnderTrains_34 (by decide) (fun c15 => ?_) (fun c15 => ?_)
      · refine lv_iconst (v := 0) hx hb dH_stateUnderTrains_57 (by decide) ?_
        refine lv_istore (lv' := [(4, .int 0), (3, .int 1), (2, .int (g 3 z)), (0, .ref (q 0)), (1, .int (nI z))]) hx hb dH_stateUnderTrains_58 hl (by decide) rfl (fun ls hl => ?_)
        refine lv_iload hx hb dH_stateUnderTrains_60 (lv_at hl 0 rfl) ?_
        refine lv_if_eq (tgt := 69) hx hb dH_stateUnderTrains_62 (by decide) (fun c16 => ?_) (fun c16 => ?_)
        · refine lv_iconst (v := 2) hx hb dH_stateUnderTrains_69 (by decide) ?_
          exact W.iret (v := 2) hx hb hr (fun t ht hW => ⟨2, rfl, by simp [ht_under, c1, c8, c15], ht⟩) (fun _ h => nomatch h) dH_stateUnderTrains_70
        · exact absurd c16 (by decide)
      · obtain ⟨j, hj8, hxj, hxc⟩ := ha c15
        refine lv_aload_n hx hb dH_stateUnderTrains_37 rfl (lv_at hl 2 rfl) ?_
        refine va_get (D := D) (ci := 1) (C := RH) (T := TH) (N := 7) (v := .ref (q 1)) hx hb hts inH hown hK hP 0 ht_atO rfl 0 (by decide) (hts _ w77) (fun _ h9 => h9) rfl dH_stateUnderTrains_38 ?_
        refine lv_iload_n hx hb dH_stateUnderTrains_41 rfl (lv_at hl 1 rfl) ?_
        refine ht_ldV hx hb hK hP (j := j) hj8 hxj dH_stateUnderTrains_42 ?_
        refine va_getN (D := D) (ci := 0) (C := RV) (T := TV) (N := 13) (v := .int (g (5 + j) 10)) hx hb hts inV hown hK hP (j + 6) (ht_atV hj8) rfl 10 (by decide) (hN.use 11 rfl rfl) (fun _ h9 => h9) rfl dH_stateUnderTrains_43 ?_
        refine lv_if_eq (tgt := 57) hx hb dH_stateUnderTrains_46 (by decide) (fun c17 => ?_) (fun c17 => ?_)
        · refine lv_iconst (v := 0) hx hb dH_stateUnderTrains_57 (by decide) ?_
          refine lv_istore (lv' := [(4, .int 0), (3, .int 1), (2, .int (g 3 z)), (0, .ref (q 0)), (1, .int (nI z))]) hx hb dH_stateUnderTrains_58 hl (by decide) rfl (fun ls hl => ?_)
          refine lv_iload hx hb dH_stateUnderTrains_60 (lv_at hl 0 rfl) ?_
          refine lv_if_eq (tgt := 69) hx hb dH_stateUnderTrains_62 (by decide) (fun c18 => ?_) (fun c18 => ?_)
          · refine lv_iconst (v := 2) hx hb dH_stateUnderTrains_69 (by decide) ?_
            exact W.iret (v := 2) hx hb hr (fun t ht hW => ⟨2, rfl, by simp [ht_under, hxc, c1, c8, c15, c17], ht⟩) (fun _ h => nomatch h) dH_stateUnderTrains_70
          · exact absurd c18 (by decide)
        · refine lv_iload_n hx hb dH_stateUnderTrains_49 rfl (lv_at hl 0 rfl) ?_
          refine lv_if_eq (tgt := 57) hx hb dH_stateUnderTrains_50 (by decide) (fun c19 => ?_) (fun c19 => ?_)
          · exact absurd c19 (by decide)
          · refine lv_iconst (v := 1) hx hb dH_stateUnderTrains_53 (by decide) ?_
            refine lv_goto (tgt := 58) hx hb dH_stateUnderTrains_54 (by decide) ?_
            refine lv_istore (lv' := [(4, .int 1), (3, .int 1), (2, .int (g 3 z)), (0, .ref (q 0)), (1, .int (nI z))]) hx hb dH_stateUnderTrains_58 hl (by decide) rfl (fun ls hl => ?_)
            refine lv_iload hx hb dH_stateUnderTrains_60 (lv_at hl 0 rfl) ?_
            refine lv_if_eq (tgt := 69) hx hb dH_stateUnderTrains_62 (by decide) (fun c20 => ?_) (fun c20 => ?_)
            · exact absurd c20 (by decide)
            · refine lv_iconst (v := 1) hx hb dH_stateUnderTrains_65 (by decide) ?_
              refine lv_goto (tgt := 70) hx hb dH_stateUnderTrains_66 (by decide) ?_
              exact W.iret (v := 1) hx hb hr (fun t ht hW => ⟨1, rfl, by simp [ht_under, hxc, c1, c8, c15, c17], ht⟩) (fun _ h => nomatch h) dH_stateUnderTrains_70
set_option maxHeartbeats 4000000 in
set_option maxRecDepth 100000 in
theorem xH_staysFree (l : Launch) (D : va_G) (cA : ClassId × ClassId) (q : Nat → Nat) (g : ht_G) (k : Nat) (hk : k ≤ 8) (hn : g 0 0 = nI k) (z : Nat) (hs : z < 12) : Met l yH_staysFree kH_staysFree ({ frames := 2, cells := 0, slots := 0, locals := 45 }) (va_Pc [.ref (q 0), .int (nI z)] (ht_I D cA q g)) (vp_Si (fun r => r = ht_b (ht_stays g k z))) 0 0 (fun _ => False) := by
  refine Met.ofW (cc := cH_staysFree) (maxL := 5) (ret := (some .boolean)) (by decide) rfl ?_
  intro p e s m args below meth c s₁ B hml hv
  obtain ⟨rfl, hP, hK, hN⟩ := hv
  have hx := B.exec
  have hb := B.bytes
  have hr := B.returns
  have hts := fun w h => atoms_spec (ws := kH_staysFree) B.pre w (List.mem_cons_of_mem _ h)
  have hown : s.vm.findClass RH = some m.cls := findClass_of_methodNamed B.named
  have hlocks := B.notSynchronized
  have hl := lv_entry ([.ref (q 0), .int (nI z)]) (n := 5) (Nat.le_of_ble_eq_true rfl)
  rw [lg_entry_eq]
  generalize (lg_sl ([.ref (q 0), .int (nI z)]) ++ List.replicate (5 - (lg_sl ([.ref (q 0), .int (nI z)])).length) Slot.unset).toArray = ls at hl ⊢
  have hl : lv_has ls 5 [(0, .ref (q 0)), (1, .int (nI z))] := hl
  refine lv_iload_n hx hb dH_staysFree_0 rfl (lv_at hl 1 rfl) ?_
  refine lv_iload_n hx hb dH_staysFree_1 rfl (lv_at hl 1 rfl) ?_
  refine lv_iconst (v := 3) hx hb dH_staysFree_2 (by decide) ?_
  refine lv_irem hx hb dH_staysFree_3 (by decide) ?_
  refine lv_isub hx hb dH_staysFree_4 ?_
  refine lv_topi (fun f9 ef9 => ?_)
  obtain rfl : f9 = nI (z - z % 3) := ef9.trans (ht_first hs)
  refine lv_istore_n (lv' := [(2, .int (nI (z - z % 3))), (0, .ref (q 0)), (1, .int (nI z))]) hx hb dH_staysFree_5 rfl hl (by decide) rfl (fun ls hl => ?_)
  refine lv_iload_n hx hb dH_staysFree_6 rfl (lv_at hl 0 rfl) ?_
  refine lv_iconst (v := 3) hx hb dH_staysFree_7 (by decide) ?_
  refine lv_iadd hx hb dH_staysFree_8 ?_
  refine lv_iconst (v := 1) hx hb dH_staysFree_9 (by decide) ?_
  refine lv_isub hx hb dH_staysFree_10 ?_
  refine lv_topi (fun f9 ef9 => ?_)
  obtain rfl : f9 = nI (z - z % 3 + 2) := ef9.trans (ht_lastS z)
  refine lv_istore_n (lv' := [(3, .int (nI (z - z % 3 + 2))), (2, .int (nI (z - z % 3))), (0, .ref (q 0)), (1, .int (nI z))]) hx hb dH_staysFree_11 rfl hl (by decide) rfl (fun ls hl => ?_)
  refine lv_aload_n hx hb dH_staysFree_12 rfl (lv_at hl 2 rfl) ?_
  refine lv_iload_n hx hb dH_staysFree_13 rfl (lv_at hl 1 rfl) ?_
  refine lv_iload_n hx hb dH_staysFree_14 rfl (lv_at hl 0 rfl) ?_
  refine vp_callSi (va_Run.run (va_runV (As := [.int (nI (z - z % 3)), .int (nI (z - z % 3 + 2))]) (rest := []) ⟨hx, hb, hml, hown, hts⟩ (xH_isAnyTrainLocated l D cA q g (z - z % 3) (by omega)) (cwV 2 hts (ht_gV w258 w260 s16 w1 w261) rfl rfl rfl (by decide +kernel) ⟨Nat.le_of_ble_eq_true rfl, Nat.le_of_ble_eq_true rfl⟩) ⟨ht_bl, va_recv hK hP (ci := 1) (q0 := 0) rfl ht_atO, fun U hU hW => ⟨rfl, ht_Im hP hK hN hU hW⟩⟩ rfl rfl hl.1 rfl (lv_room (Nat.le_of_ble_eq_true rfl)) dH_staysFree_15 ⟨Nat.zero_le _, Nat.zero_le _⟩)) (fun r1 hr1 => ?_)
  subst hr1
  refine lv_if_ne (tgt := 30) hx hb dH_staysFree_18 (by decide) (fun c2 => ?_) (fun c2 => ?_)
  · replace c2 := ht_b1.mp c2
    refine lv_iconst (v := 1) hx hb dH_staysFree_30 (by decide) ?_
    refine lv_goto (tgt := 35) hx hb dH_staysFree_31 (by decide) ?_
    refine lv_istore (lv' := [(4, .int 1), (3, .int (nI (z - z % 3 + 2))), (2, .int (nI (z - z % 3))), (0, .ref (q 0)), (1, .int (nI z))]) hx hb dH_staysFree_35 hl (by decide) rfl (fun ls hl => ?_)
    refine lv_iload hx hb dH_staysFree_37 (lv_at hl 0 rfl) ?_
    refine lv_if_eq (tgt := 54) hx hb dH_staysFree_39 (by decide) (fun c3 => ?_) (fun c3 => ?_)
    · exact absurd c3 (by decide)
    · refine lv_aload_n hx hb dH_staysFree_42 rfl (lv_at hl 3 rfl) ?_
      refine lv_iload_n hx hb dH_staysFree_43 rfl (lv_at hl 4 rfl) ?_
      refine vp_callSi (va_Run.run (va_runV (As := [.int (nI z)]) (rest := []) ⟨hx, hb, hml, hown, hts⟩ (xH_wasLeftByBrokenTrain l D cA q g k hk hn z) (cwV 1 hts (ht_gV w267 w269 s18 w1 w270) rfl rfl rfl (by decide +kernel) ⟨Nat.le_of_ble_eq_true rfl, Nat.le_of_ble_eq_true rfl⟩) ⟨ht_bl, va_recv hK hP (ci := 1) (q0 := 0) rfl ht_atO, fun U hU hW => ⟨rfl, ht_Im hP hK hN hU hW⟩⟩ rfl rfl hl.1 rfl (lv_room (Nat.le_of_ble_eq_true rfl)) dH_staysFree_44 ⟨Nat.zero_le _, Nat.zero_le _⟩)) (fun r4 hr4 => ?_)
      subst hr4
      refine lv_if_ne (tgt := 54) hx hb dH_staysFree_47 (by decide) (fun c5 => ?_) (fun c5 => ?_)
      · replace c5 := ht_b1.mp c5
        refine lv_iconst (v := 0) hx hb dH_staysFree_54 (by decide) ?_
        exact W.zret (v := 0) (ty := .boolean) hx hb hr rfl (fun t ht hW => ⟨0, rfl, by simp [ht_stays, ht_b, c2, c5], ht⟩) (fun _ h => nomatch h) dH_staysFree_55
      · replace c5 := ht_b0.mp c5
        refine lv_iconst (v := 1) hx hb dH_staysFree_50 (by decide) ?_
        refine lv_goto (tgt := 55) hx hb dH_staysFree_51 (by decide) ?_
        exact W.zret (v := 1) (ty := .boolean) hx hb hr rfl (fun t ht hW => ⟨1, rfl, by simp [ht_stays, ht_b, c2, c5], ht⟩) (fun _ h => nomatch h) dH_staysFree_55
  · replace c2 := ht_b0.mp c2
    refine lv_aload_n hx hb dH_staysFree_21 rfl (lv_at hl 2 rfl) ?_
    refine lv_iload_n hx hb dH_staysFree_22 rfl (lv_at hl 1 rfl) ?_
    refine lv_iload_n hx hb dH_staysFree_23 rfl (lv_at hl 0 rfl) ?_
    refine vp_callSi (va_Run.run (va_runV (As := [.int (nI (z - z % 3)), .int (nI (z - z % 3 + 2))]) (rest := []) ⟨hx, hb, hml, hown, hts⟩ (xH_isAnyClaimedByMute l D cA q g k hk hn (nI (z - z % 3)) (nI (z - z % 3 + 2))) (cwV 2 hts (ht_gV w262 w264 s17 w1 w265) rfl rfl rfl (by decide +kernel) ⟨Nat.le_of_ble_eq_true rfl, Nat.le_of_ble_eq_true rfl⟩) ⟨ht_bl, va_recv hK hP (ci := 1) (q0 := 0) rfl ht_atO, fun U hU hW => ⟨rfl, ht_Im hP hK hN hU hW⟩⟩ rfl rfl hl.1 rfl (lv_room (Nat.le_of_ble_eq_true rfl)) dH_staysFree_24 ⟨Nat.zero_le _, Nat.zero_le _⟩)) (fun r6 hr6 => ?_)
    subst hr6
    refine lv_if_eq (tgt := 34) hx hb dH_staysFree_27 (by decide) (fun c7 => ?_) (fun c7 => ?_)
    · replace c7 := ht_b0.mp c7
      refine lv_iconst (v := 0) hx hb dH_staysFree_34 (by decide) ?_
      refine lv_istore (lv' := [(4, .int 0), (3, .int (nI (z - z % 3 + 2))), (2, .int (nI (z - z % 3))), (0, .ref (q 0)), (1, .int (nI z))]) hx hb dH_staysFree_35 hl (by decide) rfl (fun ls hl => ?_)
      refine lv_iload hx hb dH_staysFree_37 (lv_at hl 0 rfl) ?_
      refine lv_if_eq (tgt := 54) hx hb dH_staysFree_39 (by decide) (fun c8 => ?_) (fun c8 => ?_)
      · refine lv_iconst (v := 0) hx hb dH_staysFree_54 (by decide) ?_
        exact W.zret (v := 0) (ty := .boolean) hx hb hr rfl (fun t ht hW => ⟨0, rfl, by simp [ht_stays, ht_b, c2, c7], ht⟩) (fun _ h => nomatch h) dH_staysFree_55
      · exact absurd c8 (by decide)
    · replace c7 := ht_b1.mp c7
      refine lv_iconst (v := 1) hx hb dH_staysFree_30 (by decide) ?_
      refine lv_goto (tgt := 35) hx hb dH_staysFree_31 (by decide) ?_
      refine lv_istore (lv' := [(4, .int 1), (3, .int (nI (z - z % 3 + 2))), (2, .int (nI (z - z % 3))), (0, .ref (q 0)), (1, .int (nI z))]) hx hb dH_staysFree_35 hl (by decide) rfl (fun ls hl => ?_)
      refine lv_iload hx hb dH_staysFree_37 (lv_at hl 0 rfl) ?_
      refine lv_if_eq (tgt := 54) hx hb dH_staysFree_39 (by decide) (fun c9 => ?_) (fun c9 => ?_)
      · exact absurd c9 (by decide)
      · refine lv_aload_n hx hb dH_staysFree_42 rfl (lv_at hl 3 rfl) ?_
        refine lv_iload_n hx hb dH_staysFree_43 rfl (lv_at hl 4 rfl) ?_
        refine vp_callSi (va_Run.run (va_runV (As := [.int (nI z)]) (rest := []) ⟨hx, hb, hml, hown, hts⟩ (xH_wasLeftByBrokenTrain l D cA q g k hk hn z) (cwV 1 hts (ht_gV w267 w269 s18 w1 w270) rfl rfl rfl (by decide +kernel) ⟨Nat.le_of_ble_eq_true rfl, Nat.le_of_ble_eq_true rfl⟩) ⟨ht_bl, va_recv hK hP (ci := 1) (q0 := 0) rfl ht_atO, fun U hU hW => ⟨rfl, ht_Im hP hK hN hU hW⟩⟩ rfl rfl hl.1 rfl (lv_room (Nat.le_of_ble_eq_true rfl)) dH_staysFree_44 ⟨Nat.zero_le _, Nat.zero_le _⟩)) (fun r10 hr10 => ?_)
        subst hr10
        refine lv_if_ne (tgt := 54) hx hb dH_staysFree_47 (by decide) (fun c11 => ?_) (fun c11 => ?_)
        · replace c11 := ht_b1.mp c11
          refine lv_iconst (v := 0) hx hb dH_staysFree_54 (by decide) ?_
          exact W.zret (v := 0) (ty := .boolean) hx hb hr rfl (fun t ht hW => ⟨0, rfl, by simp [ht_stays, ht_b, c2, c7, c11], ht⟩) (fun _ h => nomatch h) dH_staysFree_55
        · replace c11 := ht_b0.mp c11
          refine lv_iconst (v := 1) hx hb dH_staysFree_50 (by decide) ?_
          refine lv_goto (tgt := 55) hx hb dH_staysFree_51 (by decide) ?_
          exact W.zret (v := 1) (ty := .boolean) hx hb hr rfl (fun t ht hW => ⟨1, rfl, by simp [ht_stays, ht_b, c2, c7, c11], ht⟩) (fun _ h => nomatch h) dH_staysFree_55
set_option maxHeartbeats 4000000 in
set_option maxRecDepth 100000 in
theorem xH_stateByReports (l : Launch) (D : va_G) (cA : ClassId × ClassId) (q : Nat → Nat) (g : ht_G) (k : Nat) (hk : k ≤ 8) (hn : g 0 0 = nI k) (z : Nat) (hs : z < 12) (ha3 : ¬ g 3 z = -1 → ∃ j, j < 8 ∧ g 3 z = nI j ∧ (g 3 z).toNatClampNeg = j) (ha4 : ¬ g 4 z = -1 → ∃ j, j < 8 ∧ g 4 z = nI j ∧ (g 4 z).toNatClampNeg = j) : Met l yH_stateByReports kH_stateByReports ({ frames := 4, cells := 0, slots := 0, locals := 87 }) (va_Pc [.ref (q 0), .int (nI z)] (ht_I D cA q g)) (vp_Si (fun r => r = ht_st g k z)) 0 0 (fun _ => False) := by
  refine Met.ofW (cc := cH_stateByReports) (maxL := 2) (ret := (some .int)) (by decide) rfl ?_
  intro p e s m args below meth c s₁ B hml hv
  obtain ⟨rfl, hP, hK, hN⟩ := hv
  have hx := B.exec
  have hb := B.bytes
  have hr := B.returns
  have hts := fun w h => atoms_spec (ws := kH_stateByReports) B.pre w (List.mem_cons_of_mem _ h)
  have hown : s.vm.findClass RH = some m.cls := findClass_of_methodNamed B.named
  have hlocks := B.notSynchronized
  have hl := lv_entry ([.ref (q 0), .int (nI z)]) (n := 2) (Nat.le_of_ble_eq_true rfl)
  rw [lg_entry_eq]
  generalize (lg_sl ([.ref (q 0), .int (nI z)]) ++ List.replicate (2 - (lg_sl ([.ref (q 0), .int (nI z)])).length) Slot.unset).toArray = ls at hl ⊢
  have hl : lv_has ls 2 [(0, .ref (q 0)), (1, .int (nI z))] := hl
  refine lv_aload_n hx hb dH_stateByReports_0 rfl (lv_at hl 0 rfl) ?_
  refine lv_iload_n hx hb dH_stateByReports_1 rfl (lv_at hl 1 rfl) ?_
  refine lv_iconst (v := 3) hx hb dH_stateByReports_2 (by decide) ?_
  refine lv_idiv hx hb dH_stateByReports_3 (by decide) ?_
  refine vp_callSi (va_Run.run (va_runV (As := [.int ((nI z) / 3)]) (rest := []) ⟨hx, hb, hml, hown, hts⟩ (xH_isDetectedOccupied l D cA q g k hk hn ((nI z) / 3)) (cwV 1 hts (ht_gV w246 w248 s13 w1 w249) rfl rfl rfl (by decide +kernel) ⟨Nat.le_of_ble_eq_true rfl, Nat.le_of_ble_eq_true rfl⟩) ⟨ht_bl, va_recv hK hP (ci := 1) (q0 := 0) rfl ht_atO, fun U hU hW => ⟨rfl, ht_Im hP hK hN hU hW⟩⟩ rfl rfl hl.1 rfl (lv_room (Nat.le_of_ble_eq_true rfl)) dH_stateByReports_4 ⟨Nat.zero_le _, Nat.zero_le _⟩)) (fun r1 hr1 => ?_)
  subst hr1
  refine lv_if_ne (tgt := 12) hx hb dH_stateByReports_7 (by decide) (fun c2 => ?_) (fun c2 => ?_)
  · replace c2 := ht_b1.mp c2
    refine lv_aload_n hx hb dH_stateByReports_12 rfl (lv_at hl 0 rfl) ?_
    refine va_get (D := D) (ci := 1) (C := RH) (T := TH) (N := 7) (v := .ref (q 3)) hx hb hts inH hown hK hP 0 ht_atO rfl 4 (by decide) (hts _ w81) (fun _ h9 => h9) rfl dH_stateByReports_13 ?_
    refine lv_iload_n hx hb dH_stateByReports_16 rfl (lv_at hl 1 rfl) ?_
    refine ht_ldI hx hb hK hP 2 (j := z) (by decide) (by decide) hs rfl dH_stateByReports_17 ?_
    refine lv_if_le (tgt := 27) hx hb dH_stateByReports_18 (by decide) (fun c3 => ?_) (fun c3 => ?_)
    · refine lv_aload_n hx hb dH_stateByReports_27 rfl (lv_at hl 0 rfl) ?_
      refine va_get (D := D) (ci := 1) (C := RH) (T := TH) (N := 7) (v := .ref (q 2)) hx hb hts inH hown hK hP 0 ht_atO rfl 3 (by decide) (hts _ w80) (fun _ h9 => h9) rfl dH_stateByReports_28 ?_
      refine lv_iload_n hx hb dH_stateByReports_31 rfl (lv_at hl 1 rfl) ?_
      refine ht_ldI hx hb hK hP 1 (j := z) (by decide) (by decide) hs rfl dH_stateByReports_32 ?_
      refine lv_if_ne (tgt := 50) hx hb dH_stateByReports_33 (by decide) (fun c4 => ?_) (fun c4 => ?_)
      · refine lv_aload_n hx hb dH_stateByReports_50 rfl (lv_at hl 0 rfl) ?_
        refine va_get (D := D) (ci := 1) (C := RH) (T := TH) (N := 7) (v := .ref (q 2)) hx hb hts inH hown hK hP 0 ht_atO rfl 3 (by decide) (hts _ w80) (fun _ h9 => h9) rfl dH_stateByReports_51 ?_
        refine lv_iload_n hx hb dH_stateByReports_54 rfl (lv_at hl 1 rfl) ?_
        refine ht_ldI hx hb hK hP 1 (j := z) (by decide) (by decide) hs rfl dH_stateByReports_55 ?_
        refine lv_iconst (v := 1) hx hb dH_stateByReports_56 (by decide) ?_
        refine lv_icmp_ne (tgt := 74) hx hb dH_stateByReports_57 (by decide) (fun c5 => ?_) (fun c5 => ?_)
        · refine lv_iconst (v := 3) hx hb dH_stateByReports_74 (by decide) ?_
          exact W.iret (v := 3) hx hb hr (fun t ht hW => ⟨3, rfl, by simp [ht_st, c2, c3, c4, c5], ht⟩) (fun _ h => nomatch h) dH_stateByReports_75
        · refine lv_aload_n hx hb dH_stateByReports_60 rfl (lv_at hl 0 rfl) ?_
          refine lv_iload_n hx hb dH_stateByReports_61 rfl (lv_at hl 1 rfl) ?_
          refine vp_callSi (va_Run.run (va_runV (As := [.int (nI z)]) (rest := []) ⟨hx, hb, hml, hown, hts⟩ (xH_wasLeftByWholeTrain l D cA q g z hs ha4) (cwV 1 hts (ht_gV w275 w277 s20 w1 w278) rfl rfl rfl (by decide +kernel) ⟨Nat.le_of_ble_eq_true rfl, Nat.le_of_ble_eq_true rfl⟩) ⟨ht_bl, va_recv hK hP (ci := 1) (q0 := 0) rfl ht_atO, fun U hU hW => ⟨rfl, ht_Im hP hK hN hU hW⟩⟩ rfl rfl hl.1 rfl (lv_room (Nat.le_of_ble_eq_true rfl)) dH_stateByReports_62 ⟨Nat.zero_le _, Nat.zero_le _⟩)) (fun r6 hr6 => ?_)
          subst hr6
          refine lv_if_eq (tgt := 72) hx hb dH_stateByReports_65 (by decide) (fun c7 => ?_) (fun c7 => ?_)
          · replace c7 := ht_b0.mp c7
            refine lv_iconst (v := 3) hx hb dH_stateByReports_72 (by decide) ?_
            exact W.iret (v := 3) hx hb hr (fun t ht hW => ⟨3, rfl, by simp [ht_st, c2, c3, c4, c5, c7], ht⟩) (fun _ h => nomatch h) dH_stateByReports_73
          · replace c7 := ht_b1.mp c7
            refine lv_iconst (v := 0) hx hb dH_stateByReports_68 (by decide) ?_
            refine lv_goto (tgt := 73) hx hb dH_stateByReports_69 (by decide) ?_
            exact W.iret (v := 0) hx hb hr (fun t ht hW => ⟨0, rfl, by simp [ht_st, c2, c3, c4, c5, c7], ht⟩) (fun _ h => nomatch h) dH_stateByReports_73
      · refine lv_aload_n hx hb dH_stateByReports_36 rfl (lv_at hl 0 rfl) ?_
        refine lv_iload_n hx hb dH_stateByReports_37 rfl (lv_at hl 1 rfl) ?_
        refine vp_callSi (va_Run.run (va_runV (As := [.int (nI z)]) (rest := []) ⟨hx, hb, hml, hown, hts⟩ (xH_staysFree l D cA q g k hk hn z hs) (cwV 1 hts (ht_gV w254 w256 s15 w1 w257) rfl rfl rfl (by decide +kernel) ⟨Nat.le_of_ble_eq_true rfl, Nat.le_of_ble_eq_true rfl⟩) ⟨ht_bl, va_recv hK hP (ci := 1) (q0 := 0) rfl ht_atO, fun U hU hW => ⟨rfl, ht_Im hP hK hN hU hW⟩⟩ rfl rfl hl.1 rfl (lv_room (Nat.le_of_ble_eq_true rfl)) dH_stateByReports_38 ⟨Nat.zero_le _, Nat.zero_le _⟩)) (fun r8 hr8 => ?_)
        subst hr8
        refine lv_if_eq (tgt := 48) hx hb dH_stateByReports_41 (by decide) (fun c9 => ?_) (fun c9 => ?_)
        · replace c9 := ht_b0.mp c9
          refine lv_iconst (v := 3) hx hb dH_stateByReports_48 (by decide) ?_
          exact W.iret (v := 3) hx hb hr (fun t ht hW => ⟨3, rfl, by simp [ht_st, c2, c3, c4, c9], ht⟩) (fun _ h => nomatch h) dH_stateByReports_49
        · replace c9 := ht_b1.mp c9
          refine lv_iconst (v := 0) hx hb dH_stateByReports_44 (by decide) ?_
          refine lv_goto (tgt := 49) hx hb dH_stateByReports_45 (by decide) ?_
          exact W.iret (v := 0) hx hb hr (fun t ht hW => ⟨0, rfl, by simp [ht_st, c2, c3, c4, c9], ht⟩) (fun _ h => nomatch h) dH_stateByReports_49
    · refine lv_aload_n hx hb dH_stateByReports_21 rfl (lv_at hl 0 rfl) ?_
      refine lv_iload_n hx hb dH_stateByReports_22 rfl (lv_at hl 1 rfl) ?_
      refine vp_callSi (va_Run.run (va_runV (As := [.int (nI z)]) (rest := []) ⟨hx, hb, hml, hown, hts⟩ (xH_stateUnderTrains l D cA q g z hs ha3) (cwV 1 hts (ht_gV w250 w252 s14 w1 w253) rfl rfl rfl (by decide +kernel) ⟨Nat.le_of_ble_eq_true rfl, Nat.le_of_ble_eq_true rfl⟩) ⟨ht_bl, va_recv hK hP (ci := 1) (q0 := 0) rfl ht_atO, fun U hU hW => ⟨rfl, ht_Im hP hK hN hU hW⟩⟩ rfl rfl hl.1 rfl (lv_room (Nat.le_of_ble_eq_true rfl)) dH_stateByReports_23 ⟨Nat.zero_le _, Nat.zero_le _⟩)) (fun r10 hr10 => ?_)
      subst hr10
      exact W.iret (v := ht_under g z) hx hb hr (fun t ht hW => ⟨ht_under g z, rfl, by simp [ht_st, c2, c3], ht⟩) (fun _ h => nomatch h) dH_stateByReports_26
  · replace c2 := ht_b0.mp c2
    refine lv_iconst (v := 0) hx hb dH_stateByReports_10 (by decide) ?_
    exact W.iret (v := 0) hx hb hr (fun t ht hW => ⟨0, rfl, by simp [ht_st, c2], ht⟩) (fun _ h => nomatch h) dH_stateByReports_11
end
section
theorem ht_it_keep {f : Nat → ht_G → ht_G} {r c : Nat} (h : ∀ i a, f i a r c = a r c) : ∀ (n : Nat) (a : ht_G), ht_it f n a r c = a r c := by
  intro n a
  induction n with
  | zero => rfl
  | succ n ih => rw [ht_it, h, ih]
theorem ht_go_o {k i r c : Nat} (h : r ≠ 5 + i ∨ c ≠ 2) : ∀ (n : Nat) (g : ht_G), ht_go k i n g r c = g r c := by
  intro n
  induction n with
  | zero => intro g; rfl
  | succ n ih =>
    intro g
    simp only [ht_go]
    split
    · rfl
    · split
      · rfl
      · rw [ih]
        rcases h with h | h
        · exact ht_up_r h
        · exact ht_up_k h
theorem ht_mv_o {k i r c : Nat} (h : r < 5 ∨ c ≠ 2) (g : ht_G) : ht_mv k i g r c = g r c := by
  unfold ht_mv
  split
  · rfl
  · exact ht_go_o (h.elim (fun h => Or.inl (by omega)) Or.inr) _ _
theorem ht_send_o {i r c : Nat} (h : r < 5 ∨ c < 8) (g : ht_G) : ht_send i g r c = g r c := by
  simp only [ht_send, ht_up]
  rcases h with h | h
  · simp [show ¬ r = 5 + i by omega]
  · simp [show ¬ c = 8 by omega, show ¬ c = 9 by omega, show ¬ c = 10 by omega, show ¬ c = 11 by omega, show ¬ c = 12 by omega]
theorem ht_rp_o {i r c : Nat} (h : r < 5 ∨ c < 8) (g : ht_G) : ht_rp i g r c = g r c := by
  unfold ht_rp
  split
  · rfl
  · split
    · exact ht_send_o h g
    · rcases h with h | h
      · exact ht_up_r (by omega)
      · exact ht_up_k (by omega)
theorem ht_lc_o {s i r c : Nat} (h2 : r ≠ 2) (h3 : r ≠ 3) (g : ht_G) : ht_lc s i g r c = g r c := by
  unfold ht_lc
  split
  · simp only [ht_up_r h3, ht_up_r h2]
  · rfl
theorem ht_lcs_o {s r c : Nat} (h2 : r ≠ 2) (h3 : r ≠ 3) (n : Nat) (g : ht_G) : ht_it (ht_lc s) n g r c = g r c := ht_it_keep (fun _ a => ht_lc_o h2 h3 a) n g
theorem ht_ls_o {k s r c : Nat} (h2 : r ≠ 2) (h3 : r ≠ 3) (h4 : r ≠ 4) (g : ht_G) : ht_ls k s g r c = g r c := by
  unfold ht_ls
  simp only [ht_lcs_o h2 h3, ht_up_r h2, ht_up_r h3, ht_up_r h4]
theorem ht_s1_o {k s r c : Nat} (h : r ≠ 1) (g : ht_G) : ht_s1 k s g r c = g r c := ht_up_r h
theorem ht_s2_o {k s r c : Nat} (h : r ≠ 1) (g : ht_G) : ht_s2 k s g r c = g r c := by
  unfold ht_s2
  split
  · exact ht_up_r h
  · rfl
/-- what a row of numbers of trains says: nobody, or a number under eight -/
def ht_al (g : ht_G) (r : Nat) : Prop := ∀ z, z < 12 → ¬ g r z = -1 → ∃ j, j < 8 ∧ g r z = nI j ∧ (g r z).toNatClampNeg = j
theorem ht_al_of {g g' : ht_G} {r r' : Nat} (h : ht_al g r) (e : ∀ z, z < 12 → g' r' z = g r z) : ht_al g' r' := by
  intro z hz
  rw [e z hz]
  exact h z hz
theorem ht_lc_c {s i z : Nat} {r : Nat} (h : z ≠ s) (g : ht_G) : ht_lc s i g r z = g r z := by
  unfold ht_lc
  split
  · simp only [ht_up_k h]
  · rfl
theorem ht_ls_c {k s z r : Nat} (h : z ≠ s) (g : ht_G) : ht_ls k s g r z = g r z := by
  unfold ht_ls
  simp only [ht_it_keep (fun _ a => ht_lc_c h a), ht_up_k h]
theorem ht_lone {s z : Nat} : ∀ (n : Nat) (g : ht_G), n ≤ 8 → (g 3 z = -1 ∨ ∃ j, j < 8 ∧ g 3 z = nI j) → (ht_it (ht_lc s) n g 3 z = -1 ∨ ∃ j, j < 8 ∧ ht_it (ht_lc s) n g 3 z = nI j) := by
  intro n g hn h
  induction n with
  | zero => exact h
  | succ n ih =>
    have ih := ih (by omega)
    by_cases hz : z = s
    · subst hz
      simp only [ht_it, ht_lc]
      split
      · simp only [ht_up_s]
        split
        · exact Or.inr ⟨n, by omega, rfl⟩
        · exact Or.inl rfl
      · exact ih
    · rw [ht_it, ht_lc_c hz]
      exact ih
theorem ht_ls3 {k s z : Nat} (hk : k ≤ 8) (g : ht_G) (h : g 3 z = -1 ∨ ∃ j, j < 8 ∧ g 3 z = nI j) : ht_ls k s g 3 z = -1 ∨ ∃ j, j < 8 ∧ ht_ls k s g 3 z = nI j := by
  unfold ht_ls
  refine ht_lone k _ hk ?_
  rw [ht_up_r (by decide)]
  by_cases hz : z = s
  · subst hz
    exact Or.inl (ht_up_s _ _ _ _)
  · rw [ht_up_k hz, ht_up_k hz]
    exact h
theorem ht_al_iff {g : ht_G} {r : Nat} : ht_al g r ↔ ∀ z, z < 12 → (g r z = -1 ∨ ∃ j, j < 8 ∧ g r z = nI j) := by
  constructor
  · intro h z hz
    by_cases e : g r z = -1
    · exact Or.inl e
    · obtain ⟨j, a, b, -⟩ := h z hz e
      exact Or.inr ⟨j, a, b⟩
  · intro h z hz e
    rcases h z hz with q | ⟨j, a, b⟩
    · exact absurd q e
    · exact ⟨j, a, b, by rw [b, nI_clamp (by omega)]⟩
theorem ht_loc3 {k : Nat} (hk : k ≤ 8) {g : ht_G} (h : ht_al g 3) (n : Nat) : ht_al (ht_it (ht_ls k) n g) 3 := by
  induction n with
  | zero => exact h
  | succ n ih =>
    rw [ht_al_iff] at ih ⊢
    intro z hz
    rw [ht_it]
    exact ht_ls3 hk _ (ih z hz)
/-- the row before is the row that was -/
theorem ht_loc4 {k : Nat} {g : ht_G} : ∀ (n z : Nat), ht_it (ht_ls k) n g 4 z = if z < n then g 3 z else g 4 z := by
  intro n z
  induction n with
  | zero => simp [ht_it]
  | succ n ih =>
    rw [ht_it]
    by_cases hz : z = n
    · subst hz
      rw [if_pos (by omega)]
      unfold ht_ls
      simp only [ht_lcs_o (r := 4) (by decide) (by decide), ht_up_r (r := 2) (i := 4) (by decide), ht_up_r (r := 3) (i := 4) (by decide), ht_up_s]
      clear ih
      have : ∀ m, m ≤ z → ht_it (ht_ls k) m g 3 z = g 3 z := by
        intro m
        induction m with
        | zero => intro _; rfl
        | succ m ih => intro hm; rw [ht_it, ht_ls_c (by omega), ih (by omega)]
      exact this z (Nat.le_refl z)
    · rw [ht_ls_c hz, ih]
      by_cases h2 : z < n
      · rw [if_pos h2, if_pos (by omega)]
      · rw [if_neg h2, if_neg (by omega)]
theorem ht_loc4a {k : Nat} {g : ht_G} (h : ht_al g 3) : ht_al (ht_it (ht_ls k) 12 g) 4 := ht_al_of h (fun z hz => by rw [ht_loc4, if_pos hz])
theorem ht_sp {x : Int32} {n : Nat} (hn : n < 2 ^ 31) : x ≤ nI n ↔ x.toNatClampNeg ≤ n := by
  rw [Int32.le_iff_toInt_le, nI_toInt hn]
  show x.toInt ≤ n ↔ x.toInt.toNat ≤ n
  omega
theorem ht_sp31 (x : Int32) : x.toNatClampNeg < 2 ^ 31 := by
  have h := x.toInt_lt
  show x.toInt.toNat < 2 ^ 31
  omega
def ht_bo (g : ht_G) (c : Nat) : Prop := ∀ i, i < 8 → g (5 + i) c = 0 ∨ g (5 + i) c = 1
theorem ht_find_o {k r c : Nat} (h : r = 0 ∨ 5 ≤ r) (g : ht_G) : ht_find k g r c = g r c := by
  unfold ht_find
  rw [ht_it_keep (fun _ a => ht_s2_o (by omega) a), ht_it_keep (fun _ a => ht_s1_o (by omega) a), ht_it_keep (fun _ a => ht_ls_o (by omega) (by omega) (by omega) a)]
theorem ht_tick_eq (k : Nat) (g : ht_G) : ht_tick k g = ht_up (ht_find k (ht_it ht_rp k (ht_it (ht_mv k) k g))) 0 1 (ht_find k (ht_it ht_rp k (ht_it (ht_mv k) k g)) 0 1 + 1) := by
  unfold ht_tick
  rfl
end
section
set_option maxHeartbeats 4000000 in
set_option maxRecDepth 100000 in
theorem xH_locateTrains (l : Launch) (D : va_G) (cA : ClassId × ClassId) (q : Nat → Nat) (hJ : mw_J 14 q) (sz : Nat) (g : ht_G) (k : Nat) (hk : k ≤ 8) (hn : g 0 0 = nI k) : Met l yH_locateTrains kH_locateTrains ({ frames := 2, cells := 0, slots := 0, locals := 41 }) (va_Pc [.ref (q 0)] (fun U => U.heap.size = sz ∧ ht_I D cA q g U)) (va_Qv (fun _ : Unit => True) (fun _ t => ht_I D cA q (ht_it (ht_ls k) 12 g) t) (mw_A 14 q sz)) 0 0 (mw_A 14 q sz) := by
  refine Met.ofW (cc := cH_locateTrains) (maxL := 3) (ret := none) (by decide) rfl ?_
  intro p e s m args below meth c s₁ B hml hv
  obtain ⟨rfl, hsz, hP, hK, hN⟩ := hv
  have hx := B.exec
  have hb := B.bytes
  have hr := B.returns
  have hts := fun w h => atoms_spec (ws := kH_locateTrains) B.pre w (List.mem_cons_of_mem _ h)
  have hown : s.vm.findClass RH = some m.cls := findClass_of_methodNamed B.named
  have hlocks := B.notSynchronized
  subst hsz
  have hS : va_S (mw_A 14 q s.heap.size) s.heap s.heap [] := va_S.rf
  have hl := lv_entry ([.ref (q 0)]) (n := 3) (Nat.le_of_ble_eq_true rfl)
  rw [lg_entry_eq]
  generalize (lg_sl ([.ref (q 0)]) ++ List.replicate (3 - (lg_sl ([.ref (q 0)])).length) Slot.unset).toArray = ls at hl ⊢
  have hl : lv_has ls 3 [(0, .ref (q 0))] := hl
  have K36 : ∀ (n9 : Nat), ∀ (z : Nat) (g0 : ht_G) (j : Nat), (k + 1 ≤ j + n9) → (z < 12) → (g0 0 0 = nI k) → (∀ (H : Heap) (locs : List Loc), va_P D ht_cl (ht_w cA q (ht_it (ht_lc z) k g0)) H → va_S (mw_A 14 q s.heap.size) s.heap H locs → ∀ (ls : Array Slot), lv_has ls 3 [(0, .ref (q 0)), (1, .int (nI z))] → W p l e (headSpec kH_locateTrains ({ frames := 2, cells := 0, slots := 0, locals := 41 })).room s m [.ref (q 0)].toArray below meth c H locs 0 0 (MQ below (va_Qv (fun _ : Unit => True) (fun _ t => ht_I D cA q (ht_it (ht_ls k) 12 g) t) (mw_A 14 q s.heap.size)) [.ref (q 0)].toArray s 0 0 (mw_A 14 q s.heap.size)) (F0 m 94 ls [])) → (j ≤ k) → ∀ (H : Heap) (locs : List Loc), va_P D ht_cl (ht_w cA q (ht_it (ht_lc z) j g0)) H → va_S (mw_A 14 q s.heap.size) s.heap H locs → ∀ (ls : Array Slot), lv_has ls 3 [(0, .ref (q 0)), (1, .int (nI z)), (2, .int (nI j))] → W p l e (headSpec kH_locateTrains ({ frames := 2, cells := 0, slots := 0, locals := 41 })).room s m [.ref (q 0)].toArray below meth c H locs 0 0 (MQ below (va_Qv (fun _ : Unit => True) (fun _ t => ht_I D cA q (ht_it (ht_ls k) 12 g) t) (mw_A 14 q s.heap.size)) [.ref (q 0)].toArray s 0 0 (mw_A 14 q s.heap.size)) (F0 m 36 ls []) := by
    intro n9
    induction n9 with
    | zero =>
      intro z g0 j hn9 hz hn0 hc hjk H locs hP hS ls hl
      exact absurd hn9 (by omega)
    | succ n9 ih =>
      intro z g0 j hn9 hz hn0 hc hjk H locs hP hS ls hl
      have hnj : (ht_it (ht_lc z) j g0) 0 0 = nI k := (ht_lcs_o (by decide) (by decide) j g0).trans hn0
      refine lv_iload_n hx hb dH_locateTrains_36 rfl (lv_at hl 2 rfl) ?_
      refine lv_aload_n hx hb dH_locateTrains_37 rfl (lv_at hl 0 rfl) ?_
      refine va_get (D := D) (ci := 1) (C := RH) (T := TH) (N := 7) (v := .int ((ht_it (ht_lc z) j g0) 0 0)) hx hb hts inH hown hK hP 0 ht_atO rfl 1 (by decide) (hts _ w78) (fun _ h9 => h9) rfl dH_locateTrains_38 ?_
      refine lv_icmp_ge (tgt := 94) hx hb dH_locateTrains_41 (by decide) (fun c1 => ?_) (fun c1 => ?_)
      · rw [hnj] at c1
        have e9 : j = k := ht_end hk hjk c1
        rw [e9] at hP
        exact hc _ _ hP hS ls (lv_sub hl [0, 1] rfl)
      · rw [hnj] at c1
        have hjl : j < k := ht_lt hk hjk c1
        have hj8 : j < 8 := Nat.lt_of_lt_of_le hjl hk
        refine lv_aload_n hx hb dH_locateTrains_44 rfl (lv_at hl 0 rfl) ?_
        refine va_get (D := D) (ci := 1) (C := RH) (T := TH) (N := 7) (v := .ref (q 1)) hx hb hts inH hown hK hP 0 ht_atO rfl 0 (by decide) (hts _ w77) (fun _ h9 => h9) rfl dH_locateTrains_45 ?_
        refine lv_iload_n hx hb dH_locateTrains_48 rfl (lv_at hl 2 rfl) ?_
        refine ht_ldV hx hb hK hP (j := j) hj8 rfl dH_locateTrains_49 ?_
        refine lv_iload_n hx hb dH_locateTrains_50 rfl (lv_at hl 1 rfl) ?_
        refine vp_callSi (va_Run.run (va_runVN (As := [.int (nI z)]) (rest := []) ⟨hx, hb, hml, hown, hts⟩ (xV_isLocatedOn l D cA q (ht_it (ht_lc z) j g0) j hj8 (nI z)) ⟨va_cnB 1 hts (ht_gW w237) rfl rfl rfl (hN _ (List.mem_of_getElem? (i := 15) rfl)) (hts _ w2) (by decide +kernel) ⟨Nat.le_of_ble_eq_true rfl, Nat.le_of_ble_eq_true rfl⟩, hts _ w236, hts _ s10⟩ ⟨ht_bl, va_recv hK hP (ci := 0) (q0 := j + 6) rfl (ht_atV hj8), fun U hU hW => ⟨rfl, ht_Im hP hK hN hU hW⟩⟩ rfl rfl hl.1 rfl (lv_room (Nat.le_of_ble_eq_true rfl)) dH_locateTrains_51 ⟨Nat.zero_le _, Nat.zero_le _⟩)) (fun r2 hr2 => ?_)
        subst hr2
        refine lv_if_eq (tgt := 88) hx hb dH_locateTrains_54 (by decide) (fun c3 => ?_) (fun c3 => ?_)
        · replace c3 := ht_b0.mp c3
          refine lv_iinc (v := nI (j + 1)) (lv' := [(2, .int (nI (j + 1))), (0, .ref (q 0)), (1, .int (nI z))]) hx hb dH_locateTrains_88 hl (k := 2) rfl (nI_1 _) (by decide) rfl (fun ls hl => ?_)
          refine lv_goto (tgt := 36) hx hb dH_locateTrains_91 (by decide) ?_
          have hG : ht_it (ht_lc z) j g0 = ht_it (ht_lc z) (j + 1) g0 := by simp [ht_it, ht_lc, c1, c3]
          rw [hG] at hP
          exact ih z g0 (j + 1) (by omega) hz hn0 hc (by omega) _ _ hP hS ls (lv_sub hl [1, 2, 0] rfl)
        · replace c3 := ht_b1.mp c3
          refine lv_aload_n hx hb dH_locateTrains_57 rfl (lv_at hl 0 rfl) ?_
          refine va_get (D := D) (ci := 1) (C := RH) (T := TH) (N := 7) (v := .ref (q 3)) hx hb hts inH hown hK hP 0 ht_atO rfl 4 (by decide) (hts _ w81) (fun _ h9 => h9) rfl dH_locateTrains_58 ?_
          refine lv_iload_n hx hb dH_locateTrains_61 rfl (lv_at hl 1 rfl) ?_
          refine lv_dup2_11 hx hb dH_locateTrains_62 rfl rfl ?_
          refine ht_ldI hx hb hK hP 2 (j := z) (by decide) (by decide) hz rfl dH_locateTrains_63 ?_
          refine lv_iconst (v := 1) hx hb dH_locateTrains_64 (by decide) ?_
          refine lv_iadd hx hb dH_locateTrains_65 ?_
          refine ht_stI hx hb hK hP (mw_DA hJ) hS 2 (j := z) (by decide) (by decide) hz rfl dH_locateTrains_66 (fun H locs hP hS => ?_)
          obtain ⟨g4, eg4⟩ : ∃ y9 : ht_G, y9 = ht_up (ht_it (ht_lc z) j g0) 2 z (((ht_it (ht_lc z) j g0) 2 z) + 1) := ⟨_, rfl⟩
          rw [← eg4] at hP
          refine lv_aload_n hx hb dH_locateTrains_67 rfl (lv_at hl 0 rfl) ?_
          refine va_get (D := D) (ci := 1) (C := RH) (T := TH) (N := 7) (v := .ref (q 4)) hx hb hts inH hown hK hP 0 ht_atO rfl 5 (by decide) (hts _ w82) (fun _ h9 => h9) rfl dH_locateTrains_68 ?_
          refine lv_iload_n hx hb dH_locateTrains_71 rfl (lv_at hl 1 rfl) ?_
          refine lv_aload_n hx hb dH_locateTrains_72 rfl (lv_at hl 0 rfl) ?_
          refine va_get (D := D) (ci := 1) (C := RH) (T := TH) (N := 7) (v := .ref (q 3)) hx hb hts inH hown hK hP 0 ht_atO rfl 4 (by decide) (hts _ w81) (fun _ h9 => h9) rfl dH_locateTrains_73 ?_
          refine lv_iload_n hx hb dH_locateTrains_76 rfl (lv_at hl 1 rfl) ?_
          refine ht_ldI hx hb hK hP 2 (j := z) (by decide) (by decide) hz rfl dH_locateTrains_77 ?_
          refine lv_iconst (v := 1) hx hb dH_locateTrains_78 (by decide) ?_
          refine lv_icmp_ne (tgt := 86) hx hb dH_locateTrains_79 (by decide) (fun c5 => ?_) (fun c5 => ?_)
          · refine lv_iconst (v := (-1)) hx hb dH_locateTrains_86 (by decide) ?_
            refine ht_stI hx hb hK hP (mw_DA hJ) hS 3 (j := z) (by decide) (by decide) hz rfl dH_locateTrains_87 (fun H locs hP hS => ?_)
            obtain ⟨g6, eg6⟩ : ∃ y9 : ht_G, y9 = ht_up g4 3 z (-1 : Int32) := ⟨_, rfl⟩
            rw [← eg6] at hP
            refine lv_iinc (v := nI (j + 1)) (lv' := [(2, .int (nI (j + 1))), (0, .ref (q 0)), (1, .int (nI z))]) hx hb dH_locateTrains_88 hl (k := 2) rfl (nI_1 _) (by decide) rfl (fun ls hl => ?_)
            refine lv_goto (tgt := 36) hx hb dH_locateTrains_91 (by decide) ?_
            have hG : g6 = ht_it (ht_lc z) (j + 1) g0 := by subst eg6 eg4; simp [ht_it, ht_lc, c1, c3, c5]
            rw [hG] at hP
            exact ih z g0 (j + 1) (by omega) hz hn0 hc (by omega) _ _ hP hS ls (lv_sub hl [1, 2, 0] rfl)
          · refine lv_iload_n hx hb dH_locateTrains_82 rfl (lv_at hl 2 rfl) ?_
            refine lv_goto (tgt := 87) hx hb dH_locateTrains_83 (by decide) ?_
            refine ht_stI hx hb hK hP (mw_DA hJ) hS 3 (j := z) (by decide) (by decide) hz rfl dH_locateTrains_87 (fun H locs hP hS => ?_)
            obtain ⟨g7, eg7⟩ : ∃ y9 : ht_G, y9 = ht_up g4 3 z (nI j) := ⟨_, rfl⟩
            rw [← eg7] at hP
            refine lv_iinc (v := nI (j + 1)) (lv' := [(2, .int (nI (j + 1))), (0, .ref (q 0)), (1, .int (nI z))]) hx hb dH_locateTrains_88 hl (k := 2) rfl (nI_1 _) (by decide) rfl (fun ls hl => ?_)
            refine lv_goto (tgt := 36) hx hb dH_locateTrains_91 (by decide) ?_
            have hG : g7 = ht_it (ht_lc z) (j + 1) g0 := by subst eg7 eg4; simp [ht_it, ht_lc, c1, c3, c5]
            rw [hG] at hP
            exact ih z g0 (j + 1) (by omega) hz hn0 hc (by omega) _ _ hP hS ls (lv_sub hl [1, 2, 0] rfl)
  have K2 : ∀ (n9 : Nat), ∀ (z : Nat), (13 ≤ z + n9) → (z ≤ 12) → ∀ (H : Heap) (locs : List Loc), va_P D ht_cl (ht_w cA q (ht_it (ht_ls k) z g)) H → va_S (mw_A 14 q s.heap.size) s.heap H locs → ∀ (ls : Array Slot), lv_has ls 3 [(0, .ref (q 0)), (1, .int (nI z))] → W p l e (headSpec kH_locateTrains ({ frames := 2, cells := 0, slots := 0, locals := 41 })).room s m [.ref (q 0)].toArray below meth c H locs 0 0 (MQ below (va_Qv (fun _ : Unit => True) (fun _ t => ht_I D cA q (ht_it (ht_ls k) 12 g) t) (mw_A 14 q s.heap.size)) [.ref (q 0)].toArray s 0 0 (mw_A 14 q s.heap.size)) (F0 m 2 ls []) := by
    intro n9
    induction n9 with
    | zero =>
      intro z hn9 hjk H locs hP hS ls hl
      exact absurd hn9 (by omega)
    | succ n9 ih =>
      intro z hn9 hjk H locs hP hS ls hl
      have hnz : (ht_it (ht_ls k) z g) 0 0 = nI k := (ht_it_keep (fun _ a => ht_ls_o (by decide) (by decide) (by decide) a) z g).trans hn
      refine lv_iload_n hx hb dH_locateTrains_2 rfl (lv_at hl 1 rfl) ?_
      refine lv_bipush (v := 12) hx hb dH_locateTrains_3 (by decide) ?_
      refine lv_icmp_ge (tgt := 100) hx hb dH_locateTrains_5 (by decide) (fun c8 => ?_) (fun c8 => ?_)
      · have e9 : z = 12 := ht_end12 hjk c8
        have hG : ht_it (ht_ls k) z g = ht_it (ht_ls k) 12 g := by rw [e9]
        rw [hG] at hP
        exact W.vret hx hb hr (fun t ht hW => ⟨⟨(), rfl, trivial, ht_Im hP hK hN ht hW⟩, hS.F ht⟩) hS.2.2 dH_locateTrains_100
      · have hjl : z < 12 := ht_lt12 hjk c8
        refine lv_aload_n hx hb dH_locateTrains_8 rfl (lv_at hl 0 rfl) ?_
        refine va_get (D := D) (ci := 1) (C := RH) (T := TH) (N := 7) (v := .ref (q 5)) hx hb hts inH hown hK hP 0 ht_atO rfl 6 (by decide) (hts _ w83) (fun _ h9 => h9) rfl dH_locateTrains_9 ?_
        refine lv_iload_n hx hb dH_locateTrains_12 rfl (lv_at hl 1 rfl) ?_
        refine lv_aload_n hx hb dH_locateTrains_13 rfl (lv_at hl 0 rfl) ?_
        refine va_get (D := D) (ci := 1) (C := RH) (T := TH) (N := 7) (v := .ref (q 4)) hx hb hts inH hown hK hP 0 ht_atO rfl 5 (by decide) (hts _ w82) (fun _ h9 => h9) rfl dH_locateTrains_14 ?_
        refine lv_iload_n hx hb dH_locateTrains_17 rfl (lv_at hl 1 rfl) ?_
        refine ht_ldI hx hb hK hP 3 (j := z) (by decide) (by decide) hjl rfl dH_locateTrains_18 ?_
        refine ht_stI hx hb hK hP (mw_DA hJ) hS 4 (j := z) (by decide) (by decide) hjl rfl dH_locateTrains_19 (fun H locs hP hS => ?_)
        obtain ⟨g9, eg9⟩ : ∃ y9 : ht_G, y9 = ht_up (ht_it (ht_ls k) z g) 4 z ((ht_it (ht_ls k) z g) 3 z) := ⟨_, rfl⟩
        rw [← eg9] at hP
        refine lv_aload_n hx hb dH_locateTrains_20 rfl (lv_at hl 0 rfl) ?_
        refine va_get (D := D) (ci := 1) (C := RH) (T := TH) (N := 7) (v := .ref (q 4)) hx hb hts inH hown hK hP 0 ht_atO rfl 5 (by decide) (hts _ w82) (fun _ h9 => h9) rfl dH_locateTrains_21 ?_
        refine lv_iload_n hx hb dH_locateTrains_24 rfl (lv_at hl 1 rfl) ?_
        refine lv_iconst (v := (-1)) hx hb dH_locateTrains_25 (by decide) ?_
        refine ht_stI hx hb hK hP (mw_DA hJ) hS 3 (j := z) (by decide) (by decide) hjl rfl dH_locateTrains_26 (fun H locs hP hS => ?_)
        obtain ⟨g10, eg10⟩ : ∃ y9 : ht_G, y9 = ht_up g9 3 z (-1 : Int32) := ⟨_, rfl⟩
        rw [← eg10] at hP
        refine lv_aload_n hx hb dH_locateTrains_27 rfl (lv_at hl 0 rfl) ?_
        refine va_get (D := D) (ci := 1) (C := RH) (T := TH) (N := 7) (v := .ref (q 3)) hx hb hts inH hown hK hP 0 ht_atO rfl 4 (by decide) (hts _ w81) (fun _ h9 => h9) rfl dH_locateTrains_28 ?_
        refine lv_iload_n hx hb dH_locateTrains_31 rfl (lv_at hl 1 rfl) ?_
        refine lv_iconst (v := 0) hx hb dH_locateTrains_32 (by decide) ?_
        refine ht_stI hx hb hK hP (mw_DA hJ) hS 2 (j := z) (by decide) (by decide) hjl rfl dH_locateTrains_33 (fun H locs hP hS => ?_)
        obtain ⟨g11, eg11⟩ : ∃ y9 : ht_G, y9 = ht_up g10 2 z 0 := ⟨_, rfl⟩
        rw [← eg11] at hP
        refine lv_iconst (v := 0) hx hb dH_locateTrains_34 (by decide) ?_
        refine lv_istore_n (lv' := [(2, .int 0), (0, .ref (q 0)), (1, .int (nI z))]) hx hb dH_locateTrains_35 rfl hl (by decide) rfl (fun ls hl => ?_)
        refine K36 (k + 1) z g11 0 (by omega) hjl (by subst eg11 eg10 eg9; simp [ht_up, hnz]) (fun H locs hP hS ls hl => ?_) (by omega) _ _ hP hS ls (lv_sub hl [1, 2, 0] rfl)
        refine lv_iinc (v := nI (z + 1)) (lv' := [(1, .int (nI (z + 1))), (0, .ref (q 0))]) hx hb dH_locateTrains_94 hl (k := 1) rfl (nI_1 _) (by decide) rfl (fun ls hl => ?_)
        refine lv_goto (tgt := 2) hx hb dH_locateTrains_97 (by decide) ?_
        have hG : ht_it (ht_lc z) k g11 = ht_it (ht_ls k) (z + 1) g := by subst eg11 eg10 eg9; rfl
        rw [hG] at hP
        exact ih (z + 1) (by omega) (by omega) _ _ hP hS ls (lv_sub hl [1, 0] rfl)
  refine lv_iconst (v := 0) hx hb dH_locateTrains_0 (by decide) ?_
  refine lv_istore_n (lv' := [(1, .int 0), (0, .ref (q 0))]) hx hb dH_locateTrains_1 rfl hl (by decide) rfl (fun ls hl => ?_)
  exact K2 13 0 (by omega) (by omega) _ _ hP hS ls (lv_sub hl [1, 0] rfl)
end
section
set_option maxHeartbeats 4000000 in
set_option maxRecDepth 100000 in
theorem xH_findStates (l : Launch) (D : va_G) (cA : ClassId × ClassId) (q : Nat → Nat) (hJ : mw_J 14 q) (sz : Nat) (g : ht_G) (k : Nat) (hk : k ≤ 8) (hn : g 0 0 = nI k) (hA : ht_al g 3) : Met l yH_findStates kH_findStates ({ frames := 5, cells := 0, slots := 0, locals := 108 }) (va_Pc [.ref (q 0)] (fun U => U.heap.size = sz ∧ ht_I D cA q g U)) (va_Qv (fun _ : Unit => True) (fun _ t => ht_I D cA q (ht_find k g) t) (mw_A 14 q sz)) 0 0 (mw_A 14 q sz) := by
  refine Met.ofW (cc := cH_findStates) (maxL := 2) (ret := none) (by decide) rfl ?_
  intro p e s m args below meth c s₁ B hml hv
  obtain ⟨rfl, hsz, hP, hK, hN⟩ := hv
  have hx := B.exec
  have hb := B.bytes
  have hr := B.returns
  have hts := fun w h => atoms_spec (ws := kH_findStates) B.pre w (List.mem_cons_of_mem _ h)
  have hown : s.vm.findClass RH = some m.cls := findClass_of_methodNamed B.named
  have hlocks := B.notSynchronized
  subst hsz
  have hS : va_S (mw_A 14 q s.heap.size) s.heap s.heap [] := va_S.rf
  have hl := lv_entry ([.ref (q 0)]) (n := 2) (Nat.le_of_ble_eq_true rfl)
  rw [lg_entry_eq]
  generalize (lg_sl ([.ref (q 0)]) ++ List.replicate (2 - (lg_sl ([.ref (q 0)])).length) Slot.unset).toArray = ls at hl ⊢
  have hl : lv_has ls 2 [(0, .ref (q 0))] := hl
  have K31 : ∀ (n9 : Nat), ∀ (gb : ht_G) (z : Nat), (13 ≤ z + n9) → (gb = ht_it (ht_s1 k) 12 (ht_it (ht_ls k) 12 g)) → (gb 0 0 = nI k) → (z ≤ 12) → ∀ (H : Heap) (locs : List Loc), va_P D ht_cl (ht_w cA q (ht_it (ht_s2 k) z gb)) H → va_S (mw_A 14 q s.heap.size) s.heap H locs → ∀ (ls : Array Slot), lv_has ls 2 [(0, .ref (q 0)), (1, .int (nI z))] → W p l e (headSpec kH_findStates ({ frames := 5, cells := 0, slots := 0, locals := 108 })).room s m [.ref (q 0)].toArray below meth c H locs 0 0 (MQ below (va_Qv (fun _ : Unit => True) (fun _ t => ht_I D cA q (ht_find k g) t) (mw_A 14 q s.heap.size)) [.ref (q 0)].toArray s 0 0 (mw_A 14 q s.heap.size)) (F0 m 31 ls []) := by
    intro n9
    induction n9 with
    | zero =>
      intro gb z hn9 hgb hnb hjk H locs hP hS ls hl
      exact absurd hn9 (by omega)
    | succ n9 ih =>
      intro gb z hn9 hgb hnb hjk H locs hP hS ls hl
      have hnz : (ht_it (ht_s2 k) z gb) 0 0 = nI k := (ht_it_keep (fun _ a => ht_s2_o (by decide) a) _ _).trans hnb
      refine lv_iload_n hx hb dH_findStates_31 rfl (lv_at hl 1 rfl) ?_
      refine lv_bipush (v := 12) hx hb dH_findStates_32 (by decide) ?_
      refine lv_icmp_ge (tgt := 78) hx hb dH_findStates_34 (by decide) (fun c1 => ?_) (fun c1 => ?_)
      · have e9 : z = 12 := ht_end12 hjk c1
        have hG : ht_it (ht_s2 k) z gb = ht_find k g := by rw [e9, hgb]; rfl
        rw [hG] at hP
        exact W.vret hx hb hr (fun t ht hW => ⟨⟨(), rfl, trivial, ht_Im hP hK hN ht hW⟩, hS.F ht⟩) hS.2.2 dH_findStates_78
      · have hjl : z < 12 := ht_lt12 hjk c1
        refine lv_aload_n hx hb dH_findStates_37 rfl (lv_at hl 0 rfl) ?_
        refine va_get (D := D) (ci := 1) (C := RH) (T := TH) (N := 7) (v := .ref (q 2)) hx hb hts inH hown hK hP 0 ht_atO rfl 3 (by decide) (hts _ w80) (fun _ h9 => h9) rfl dH_findStates_38 ?_
        refine lv_iload_n hx hb dH_findStates_41 rfl (lv_at hl 1 rfl) ?_
        refine ht_ldI hx hb hK hP 1 (j := z) (by decide) (by decide) hjl rfl dH_findStates_42 ?_
        refine lv_if_ne (tgt := 72) hx hb dH_findStates_43 (by decide) (fun c2 => ?_) (fun c2 => ?_)
        · refine lv_iinc (v := nI (z + 1)) (lv' := [(1, .int (nI (z + 1))), (0, .ref (q 0))]) hx hb dH_findStates_72 hl (k := 1) rfl (nI_1 _) (by decide) rfl (fun ls hl => ?_)
          refine lv_goto (tgt := 31) hx hb dH_findStates_75 (by decide) ?_
          have hG : ht_it (ht_s2 k) z gb = ht_it (ht_s2 k) (z + 1) gb := by simp [ht_it, ht_s2, c1, c2]
          rw [hG] at hP
          exact ih gb (z + 1) (by omega) hgb hnb (by omega) _ _ hP hS ls (lv_sub hl [1, 0] rfl)
        · refine lv_aload_n hx hb dH_findStates_46 rfl (lv_at hl 0 rfl) ?_
          refine lv_iload_n hx hb dH_findStates_47 rfl (lv_at hl 1 rfl) ?_
          refine lv_iload_n hx hb dH_findStates_48 rfl (lv_at hl 1 rfl) ?_
          refine vp_callSi (va_Run.run (va_runV (As := [.int (nI z), .int (nI z)]) (rest := []) ⟨hx, hb, hml, hown, hts⟩ (xH_isAnyClaimedByMute l D cA q (ht_it (ht_s2 k) z gb) k hk hnz (nI z) (nI z)) (cwV 2 hts (ht_gV w262 w264 s17 w1 w265) rfl rfl rfl (by decide +kernel) ⟨Nat.le_of_ble_eq_true rfl, Nat.le_of_ble_eq_true rfl⟩) ⟨ht_bl, va_recv hK hP (ci := 1) (q0 := 0) rfl ht_atO, fun U hU hW => ⟨rfl, ht_Im hP hK hN hU hW⟩⟩ rfl rfl hl.1 rfl (lv_room (Nat.le_of_ble_eq_true rfl)) dH_findStates_49 ⟨Nat.zero_le _, Nat.zero_le _⟩)) (fun r3 hr3 => ?_)
          subst hr3
          refine lv_if_eq (tgt := 72) hx hb dH_findStates_52 (by decide) (fun c4 => ?_) (fun c4 => ?_)
          · replace c4 := ht_b0.mp c4
            refine lv_iinc (v := nI (z + 1)) (lv' := [(1, .int (nI (z + 1))), (0, .ref (q 0))]) hx hb dH_findStates_72 hl (k := 1) rfl (nI_1 _) (by decide) rfl (fun ls hl => ?_)
            refine lv_goto (tgt := 31) hx hb dH_findStates_75 (by decide) ?_
            have hG : ht_it (ht_s2 k) z gb = ht_it (ht_s2 k) (z + 1) gb := by simp [ht_it, ht_s2, c1, c2, c4]
            rw [hG] at hP
            exact ih gb (z + 1) (by omega) hgb hnb (by omega) _ _ hP hS ls (lv_sub hl [1, 0] rfl)
          · replace c4 := ht_b1.mp c4
            refine lv_aload_n hx hb dH_findStates_55 rfl (lv_at hl 0 rfl) ?_
            refine lv_iload_n hx hb dH_findStates_56 rfl (lv_at hl 1 rfl) ?_
            refine lv_iconst (v := 3) hx hb dH_findStates_57 (by decide) ?_
            refine lv_idiv hx hb dH_findStates_58 (by decide) ?_
            refine vp_callSi (va_Run.run (va_runV (As := [.int ((nI z) / 3)]) (rest := []) ⟨hx, hb, hml, hown, hts⟩ (xH_isDetectedOccupied l D cA q (ht_it (ht_s2 k) z gb) k hk hnz (nI z / 3)) (cwV 1 hts (ht_gV w246 w248 s13 w1 w249) rfl rfl rfl (by decide +kernel) ⟨Nat.le_of_ble_eq_true rfl, Nat.le_of_ble_eq_true rfl⟩) ⟨ht_bl, va_recv hK hP (ci := 1) (q0 := 0) rfl ht_atO, fun U hU hW => ⟨rfl, ht_Im hP hK hN hU hW⟩⟩ rfl rfl hl.1 rfl (lv_room (Nat.le_of_ble_eq_true rfl)) dH_findStates_59 ⟨Nat.zero_le _, Nat.zero_le _⟩)) (fun r5 hr5 => ?_)
            subst hr5
            refine lv_if_eq (tgt := 72) hx hb dH_findStates_62 (by decide) (fun c6 => ?_) (fun c6 => ?_)
            · replace c6 := ht_b0.mp c6
              refine lv_iinc (v := nI (z + 1)) (lv' := [(1, .int (nI (z + 1))), (0, .ref (q 0))]) hx hb dH_findStates_72 hl (k := 1) rfl (nI_1 _) (by decide) rfl (fun ls hl => ?_)
              refine lv_goto (tgt := 31) hx hb dH_findStates_75 (by decide) ?_
              have hG : ht_it (ht_s2 k) z gb = ht_it (ht_s2 k) (z + 1) gb := by simp [ht_it, ht_s2, c1, c2, c4, c6]
              rw [hG] at hP
              exact ih gb (z + 1) (by omega) hgb hnb (by omega) _ _ hP hS ls (lv_sub hl [1, 0] rfl)
            · replace c6 := ht_b1.mp c6
              refine lv_aload_n hx hb dH_findStates_65 rfl (lv_at hl 0 rfl) ?_
              refine va_get (D := D) (ci := 1) (C := RH) (T := TH) (N := 7) (v := .ref (q 2)) hx hb hts inH hown hK hP 0 ht_atO rfl 3 (by decide) (hts _ w80) (fun _ h9 => h9) rfl dH_findStates_66 ?_
              refine lv_iload_n hx hb dH_findStates_69 rfl (lv_at hl 1 rfl) ?_
              refine lv_iconst (v := 3) hx hb dH_findStates_70 (by decide) ?_
              refine ht_stI hx hb hK hP (mw_DA hJ) hS 1 (j := z) (by decide) (by decide) hjl rfl dH_findStates_71 (fun H locs hP hS => ?_)
              obtain ⟨g7, eg7⟩ : ∃ y9 : ht_G, y9 = ht_up (ht_it (ht_s2 k) z gb) 1 z 3 := ⟨_, rfl⟩
              rw [← eg7] at hP
              refine lv_iinc (v := nI (z + 1)) (lv' := [(1, .int (nI (z + 1))), (0, .ref (q 0))]) hx hb dH_findStates_72 hl (k := 1) rfl (nI_1 _) (by decide) rfl (fun ls hl => ?_)
              refine lv_goto (tgt := 31) hx hb dH_findStates_75 (by decide) ?_
              have hG : g7 = ht_it (ht_s2 k) (z + 1) gb := by subst eg7; simp [ht_it, ht_s2, c1, c2, c4, c6]
              rw [hG] at hP
              exact ih gb (z + 1) (by omega) hgb hnb (by omega) _ _ hP hS ls (lv_sub hl [1, 0] rfl)
  have K6 : ∀ (n9 : Nat), ∀ (ga : ht_G) (z : Nat), (13 ≤ z + n9) → (ga = ht_it (ht_ls k) 12 g) → (ga 0 0 = nI k) → (ht_al ga 3) → (ht_al ga 4) → (z ≤ 12) → ∀ (H : Heap) (locs : List Loc), va_P D ht_cl (ht_w cA q (ht_it (ht_s1 k) z ga)) H → va_S (mw_A 14 q s.heap.size) s.heap H locs → ∀ (ls : Array Slot), lv_has ls 2 [(0, .ref (q 0)), (1, .int (nI z))] → W p l e (headSpec kH_findStates ({ frames := 5, cells := 0, slots := 0, locals := 108 })).room s m [.ref (q 0)].toArray below meth c H locs 0 0 (MQ below (va_Qv (fun _ : Unit => True) (fun _ t => ht_I D cA q (ht_find k g) t) (mw_A 14 q s.heap.size)) [.ref (q 0)].toArray s 0 0 (mw_A 14 q s.heap.size)) (F0 m 6 ls []) := by
    intro n9
    induction n9 with
    | zero =>
      intro ga z hn9 hga hna h3 h4 hjk H locs hP hS ls hl
      exact absurd hn9 (by omega)
    | succ n9 ih =>
      intro ga z hn9 hga hna h3 h4 hjk H locs hP hS ls hl
      have hnz : (ht_it (ht_s1 k) z ga) 0 0 = nI k := (ht_it_keep (fun _ a => ht_s1_o (by decide) a) _ _).trans hna
      have ha3 : ht_al (ht_it (ht_s1 k) z ga) 3 := ht_al_of h3 (fun y _ => (ht_it_keep (fun _ a => ht_s1_o (by decide) a) _ _))
      have ha4 : ht_al (ht_it (ht_s1 k) z ga) 4 := ht_al_of h4 (fun y _ => (ht_it_keep (fun _ a => ht_s1_o (by decide) a) _ _))
      refine lv_iload_n hx hb dH_findStates_6 rfl (lv_at hl 1 rfl) ?_
      refine lv_bipush (v := 12) hx hb dH_findStates_7 (by decide) ?_
      refine lv_icmp_ge (tgt := 29) hx hb dH_findStates_9 (by decide) (fun c8 => ?_) (fun c8 => ?_)
      · have e9 : z = 12 := ht_end12 hjk c8
        refine lv_iconst (v := 0) hx hb dH_findStates_29 (by decide) ?_
        refine lv_istore_n (lv' := [(1, .int 0), (0, .ref (q 0))]) hx hb dH_findStates_30 rfl hl (by decide) rfl (fun ls hl => ?_)
        rw [e9] at hP hnz
        exact K31 13 (ht_it (ht_s1 k) 12 ga) 0 (by omega) (by rw [hga]) hnz (by omega) _ _ hP hS ls (lv_sub hl [1, 0] rfl)
      · have hjl : z < 12 := ht_lt12 hjk c8
        refine lv_aload_n hx hb dH_findStates_12 rfl (lv_at hl 0 rfl) ?_
        refine va_get (D := D) (ci := 1) (C := RH) (T := TH) (N := 7) (v := .ref (q 2)) hx hb hts inH hown hK hP 0 ht_atO rfl 3 (by decide) (hts _ w80) (fun _ h9 => h9) rfl dH_findStates_13 ?_
        refine lv_iload_n hx hb dH_findStates_16 rfl (lv_at hl 1 rfl) ?_
        refine lv_aload_n hx hb dH_findStates_17 rfl (lv_at hl 0 rfl) ?_
        refine lv_iload_n hx hb dH_findStates_18 rfl (lv_at hl 1 rfl) ?_
        refine vp_callSi (va_Run.run (va_runV (As := [.int (nI z)]) (rest := [.int (nI z), .ref (q 2)]) ⟨hx, hb, hml, hown, hts⟩ (xH_stateByReports l D cA q (ht_it (ht_s1 k) z ga) k hk hnz z hjl (ha3 z hjl) (ha4 z hjl)) (cwV 1 hts (ht_gV w242 w244 s12 w1 w245) rfl rfl rfl (by decide +kernel) ⟨Nat.le_of_ble_eq_true rfl, Nat.le_of_ble_eq_true rfl⟩) ⟨ht_bl, va_recv hK hP (ci := 1) (q0 := 0) rfl ht_atO, fun U hU hW => ⟨rfl, ht_Im hP hK hN hU hW⟩⟩ rfl rfl hl.1 rfl (lv_room (Nat.le_of_ble_eq_true rfl)) dH_findStates_19 ⟨Nat.zero_le _, Nat.zero_le _⟩)) (fun r9 hr9 => ?_)
        subst hr9
        refine ht_stI hx hb hK hP (mw_DA hJ) hS 1 (j := z) (by decide) (by decide) hjl rfl dH_findStates_22 (fun H locs hP hS => ?_)
        obtain ⟨g10, eg10⟩ : ∃ y9 : ht_G, y9 = ht_up (ht_it (ht_s1 k) z ga) 1 z (ht_st (ht_it (ht_s1 k) z ga) k z) := ⟨_, rfl⟩
        rw [← eg10] at hP
        refine lv_iinc (v := nI (z + 1)) (lv' := [(1, .int (nI (z + 1))), (0, .ref (q 0))]) hx hb dH_findStates_23 hl (k := 1) rfl (nI_1 _) (by decide) rfl (fun ls hl => ?_)
        refine lv_goto (tgt := 6) hx hb dH_findStates_26 (by decide) ?_
        have hG : g10 = ht_it (ht_s1 k) (z + 1) ga := by subst eg10; rfl
        rw [hG] at hP
        exact ih ga (z + 1) (by omega) hga hna h3 h4 (by omega) _ _ hP hS ls (lv_sub hl [1, 0] rfl)
  refine lv_aload_n hx hb dH_findStates_0 rfl (lv_at hl 0 rfl) ?_
  refine va_callv (va_runV (As := []) (rest := []) ⟨hx, hb, hml, hown, hts⟩ (xH_locateTrains l D cA q hJ _ g k hk hn) (cwV 0 hts (ht_gV w230 w232 s9 w1 w233) rfl rfl rfl (by decide +kernel) ⟨Nat.le_of_ble_eq_true rfl, Nat.le_of_ble_eq_true rfl⟩) ⟨ht_bls, va_recv hK hP (ci := 1) (q0 := 0) rfl ht_atO, fun U hU hW => ⟨rfl, by rw [hU], ht_Im hP hK hN hU hW⟩⟩ rfl rfl hl.1 rfl (lv_room (Nat.le_of_ble_eq_true rfl)) dH_findStates_1 ⟨Nat.zero_le _, Nat.zero_le _⟩) hS mw_AA (mw_AF hS.1) (fun u11 t11 H locs ht11 hvm11 hw11 hB11 hz11 hk11 hS => ?_)
  have hP := hB11.1
  rw [ht11] at hP
  obtain ⟨g12, eg12⟩ : ∃ y9 : ht_G, y9 = ht_it (ht_ls k) 12 g := ⟨_, rfl⟩
  rw [← eg12] at hP
  refine lv_iconst (v := 0) hx hb dH_findStates_4 (by decide) ?_
  refine lv_istore_n (lv' := [(1, .int 0), (0, .ref (q 0))]) hx hb dH_findStates_5 rfl hl (by decide) rfl (fun ls hl => ?_)
  exact K6 13 g12 0 (by omega) eg12 (by rw [eg12]; exact (ht_it_keep (fun _ a => ht_ls_o (by decide) (by decide) (by decide) a) _ _).trans hn) (by rw [eg12]; exact ht_loc3 hk hA 12) (by rw [eg12]; exact ht_loc4a hA) (by omega) _ _ hP hS ls (lv_sub hl [1, 0] rfl)
end
section
set_option maxHeartbeats 4000000 in
set_option maxRecDepth 100000 in
theorem xH_goForward (l : Launch) (D : va_G) (cA : ClassId × ClassId) (q : Nat → Nat) (hJ : mw_J 14 q) (sz : Nat) (g : ht_G) (k : Nat) (hk : k ≤ 8) (hn : g 0 0 = nI k) (j : Nat) (hj : j < 8) : Met l yH_goForward kH_goForward ({ frames := 3, cells := 0, slots := 0, locals := 65 }) (va_Pc [.ref (q 0), .ref (q (j + 6))] (fun U => U.heap.size = sz ∧ ht_I D cA q g U)) (va_Qv (fun _ : Unit => True) (fun _ t => ht_I D cA q (ht_go k j (g (5 + j) 4).toNatClampNeg g) t) (mw_A 14 q sz)) 0 0 (mw_A 14 q sz) := by
  refine Met.ofW (cc := cH_goForward) (maxL := 4) (ret := none) (by decide) rfl ?_
  intro p e s m args below meth c s₁ B hml hv
  obtain ⟨rfl, hsz, hP, hK, hN⟩ := hv
  have hx := B.exec
  have hb := B.bytes
  have hr := B.returns
  have hts := fun w h => atoms_spec (ws := kH_goForward) B.pre w (List.mem_cons_of_mem _ h)
  have hown : s.vm.findClass RH = some m.cls := findClass_of_methodNamed B.named
  have hlocks := B.notSynchronized
  subst hsz
  have hS : va_S (mw_A 14 q s.heap.size) s.heap s.heap [] := va_S.rf
  have hl := lv_entry ([.ref (q 0), .ref (q (j + 6))]) (n := 4) (Nat.le_of_ble_eq_true rfl)
  rw [lg_entry_eq]
  generalize (lg_sl ([.ref (q 0), .ref (q (j + 6))]) ++ List.replicate (4 - (lg_sl ([.ref (q 0), .ref (q (j + 6))])).length) Slot.unset).toArray = ls at hl ⊢
  have hl : lv_has ls 4 [(0, .ref (q 0)), (1, .ref (q (j + 6)))] := hl
  have K2 : ∀ (n9 : Nat), ∀ (n : Nat) (gg : ht_G), ((g (5 + j) 4).toNatClampNeg + 1 ≤ n + n9) → (n ≤ (g (5 + j) 4).toNatClampNeg) → (ht_go k j ((g (5 + j) 4).toNatClampNeg - n) gg = ht_go k j (g (5 + j) 4).toNatClampNeg g) → (gg (5 + j) 4 = g (5 + j) 4) → (gg 0 0 = nI k) → ∀ (H : Heap) (locs : List Loc), va_P D ht_cl (ht_w cA q gg) H → va_S (mw_A 14 q s.heap.size) s.heap H locs → ∀ (ls : Array Slot), lv_has ls 4 [(0, .ref (q 0)), (1, .ref (q (j + 6))), (2, .int (nI n))] → W p l e (headSpec kH_goForward ({ frames := 3, cells := 0, slots := 0, locals := 65 })).room s m [.ref (q 0), .ref (q (j + 6))].toArray below meth c H locs 0 0 (MQ below (va_Qv (fun _ : Unit => True) (fun _ t => ht_I D cA q (ht_go k j (g (5 + j) 4).toNatClampNeg g) t) (mw_A 14 q s.heap.size)) [.ref (q 0), .ref (q (j + 6))].toArray s 0 0 (mw_A 14 q s.heap.size)) (F0 m 2 ls []) := by
    intro n9
    induction n9 with
    | zero =>
      intro n gg hn9 hnN hR h4 hng H locs hP hS ls hl
      exact absurd hn9 (by omega)
    | succ n9 ih =>
      intro n gg hn9 hnN hR h4 hng H locs hP hS ls hl
      have h31 := ht_sp31 (g (5 + j) 4)
      refine lv_iload_n hx hb dH_goForward_2 rfl (lv_at hl 2 rfl) ?_
      refine lv_aload_n hx hb dH_goForward_3 rfl (lv_at hl 1 rfl) ?_
      refine va_getN (D := D) (ci := 0) (C := RV) (T := TV) (N := 13) (v := .int (gg (5 + j) 4)) hx hb hts inV hown hK hP (j + 6) (ht_atV hj) rfl 4 (by decide) (hN.use 5 rfl rfl) (fun _ h9 => h9) rfl dH_goForward_4 ?_
      refine lv_icmp_ge (tgt := 46) hx hb dH_goForward_7 (by decide) (fun c1 => ?_) (fun c1 => ?_)
      · rw [h4, ht_sp (by omega)] at c1
        have hG : gg = ht_go k j (g (5 + j) 4).toNatClampNeg g := by rw [← hR, show (g (5 + j) 4).toNatClampNeg - n = 0 by omega]; rfl
        rw [hG] at hP
        exact W.vret hx hb hr (fun t ht hW => ⟨⟨(), rfl, trivial, ht_Im hP hK hN ht hW⟩, hS.F ht⟩) hS.2.2 dH_goForward_46
      · rw [h4, ht_sp (by omega)] at c1
        refine lv_aload_n hx hb dH_goForward_10 rfl (lv_at hl 1 rfl) ?_
        refine va_getN (D := D) (ci := 0) (C := RV) (T := TV) (N := 13) (v := .int (gg (5 + j) 2)) hx hb hts inV hown hK hP (j + 6) (ht_atV hj) rfl 2 (by decide) (hN.use 3 rfl rfl) (fun _ h9 => h9) rfl dH_goForward_11 ?_
        refine lv_iconst (v := 1) hx hb dH_goForward_14 (by decide) ?_
        refine lv_iadd hx hb dH_goForward_15 ?_
        refine lv_istore_n (lv' := [(3, .int ((gg (5 + j) 2) + 1)), (0, .ref (q 0)), (1, .ref (q (j + 6))), (2, .int (nI n))]) hx hb dH_goForward_16 rfl hl (by decide) rfl (fun ls hl => ?_)
        refine lv_iload_n hx hb dH_goForward_17 rfl (lv_at hl 0 rfl) ?_
        refine lv_aload_n hx hb dH_goForward_18 rfl (lv_at hl 2 rfl) ?_
        refine va_getN (D := D) (ci := 0) (C := RV) (T := TV) (N := 13) (v := .int (gg (5 + j) 5)) hx hb hts inV hown hK hP (j + 6) (ht_atV hj) rfl 5 (by decide) (hN.use 6 rfl rfl) (fun _ h9 => h9) rfl dH_goForward_19 ?_
        refine lv_icmp_gt (tgt := 34) hx hb dH_goForward_22 (by decide) (fun c2 => ?_) (fun c2 => ?_)
        · have hG : gg = ht_go k j (g (5 + j) 4).toNatClampNeg g := by rw [← hR, show (g (5 + j) 4).toNatClampNeg - n = ((g (5 + j) 4).toNatClampNeg - (n + 1)) + 1 by omega, ht_go, if_pos c2]
          rw [hG] at hP
          exact W.vret hx hb hr (fun t ht hW => ⟨⟨(), rfl, trivial, ht_Im hP hK hN ht hW⟩, hS.F ht⟩) hS.2.2 dH_goForward_34
        · refine lv_aload_n hx hb dH_goForward_25 rfl (lv_at hl 1 rfl) ?_
          refine lv_iload_n hx hb dH_goForward_26 rfl (lv_at hl 0 rfl) ?_
          refine lv_iload_n hx hb dH_goForward_27 rfl (lv_at hl 0 rfl) ?_
          refine vp_callSi (va_Run.run (va_runV (As := [.int ((gg (5 + j) 2) + 1), .int ((gg (5 + j) 2) + 1)]) (rest := []) ⟨hx, hb, hml, hown, hts⟩ (xH_isStoodOn l D cA q gg k hk hng ((gg (5 + j) 2) + 1) ((gg (5 + j) 2) + 1)) (cwV 2 hts (ht_gV w193 w195 s1 w1 w196) rfl rfl rfl (by decide +kernel) ⟨Nat.le_of_ble_eq_true rfl, Nat.le_of_ble_eq_true rfl⟩) ⟨ht_bl, va_recv hK hP (ci := 1) (q0 := 0) rfl ht_atO, fun U hU hW => ⟨rfl, ht_Im hP hK hN hU hW⟩⟩ rfl rfl hl.1 rfl (lv_room (Nat.le_of_ble_eq_true rfl)) dH_goForward_28 ⟨Nat.zero_le _, Nat.zero_le _⟩)) (fun r3 hr3 => ?_)
          subst hr3
          refine lv_if_eq (tgt := 35) hx hb dH_goForward_31 (by decide) (fun c4 => ?_) (fun c4 => ?_)
          · replace c4 := ht_b0.mp c4
            refine lv_aload_n hx hb dH_goForward_35 rfl (lv_at hl 2 rfl) ?_
            refine lv_iload_n hx hb dH_goForward_36 rfl (lv_at hl 0 rfl) ?_
            refine va_putN (D := D) (ci := 0) (C := RV) (T := TV) (N := 13) (v := .int ((gg (5 + j) 2) + 1)) (ty := .int) hx hb hts inV tyV tyV_ok nmV hown hK hP (mw_DA hJ) hS (j + 6) (ht_atV hj) rfl 2 (by decide) (hN.use 3 rfl rfl) (fun _ h9 => h9) rfl rfl rfl rfl (Nat.le_of_ble_eq_true rfl) dH_goForward_37 (fun H locs hP _ hS => ?_)
            rw [ht_stV hj (by decide)] at hP
            obtain ⟨g5, eg5⟩ : ∃ y9 : ht_G, y9 = ht_up gg (5 + j) 2 ((gg (5 + j) 2) + 1) := ⟨_, rfl⟩
            rw [← eg5] at hP
            refine lv_iinc (v := nI (n + 1)) (lv' := [(2, .int (nI (n + 1))), (3, .int ((gg (5 + j) 2) + 1)), (0, .ref (q 0)), (1, .ref (q (j + 6)))]) hx hb dH_goForward_40 hl (k := 3) rfl (nI_1 _) (by decide) rfl (fun ls hl => ?_)
            refine lv_goto (tgt := 2) hx hb dH_goForward_43 (by decide) ?_
            exact ih (n + 1) g5 (by omega) (by omega) (by rw [← hR, show (g (5 + j) 4).toNatClampNeg - n = ((g (5 + j) 4).toNatClampNeg - (n + 1)) + 1 by omega, ht_go, if_neg c2, if_neg (by simp [c4]), eg5]) (by rw [eg5, ht_up_k (by decide), h4]) (by rw [eg5, ht_up_r (by omega), hng]) _ _ hP hS ls (lv_sub hl [2, 3, 0] rfl)
          · replace c4 := ht_b1.mp c4
            have hG : gg = ht_go k j (g (5 + j) 4).toNatClampNeg g := by rw [← hR, show (g (5 + j) 4).toNatClampNeg - n = ((g (5 + j) 4).toNatClampNeg - (n + 1)) + 1 by omega, ht_go, if_neg c2, if_pos c4]
            rw [hG] at hP
            exact W.vret hx hb hr (fun t ht hW => ⟨⟨(), rfl, trivial, ht_Im hP hK hN ht hW⟩, hS.F ht⟩) hS.2.2 dH_goForward_34
  refine lv_iconst (v := 0) hx hb dH_goForward_0 (by decide) ?_
  refine lv_istore_n (lv' := [(2, .int 0), (0, .ref (q 0)), (1, .ref (q (j + 6)))]) hx hb dH_goForward_1 rfl hl (by decide) rfl (fun ls hl => ?_)
  exact K2 ((g (5 + j) 4).toNatClampNeg + 1) 0 g (by omega) (by omega) rfl rfl hn _ _ hP hS ls (lv_sub hl [1, 2, 0] rfl)
end
section
set_option maxHeartbeats 4000000 in
set_option maxRecDepth 100000 in
theorem xH_makeTick (l : Launch) (D : va_G) (cA : ClassId × ClassId) (q : Nat → Nat) (hJ : mw_J 14 q) (sz : Nat) (g : ht_G) (k : Nat) (hk : k ≤ 8) (hn : g 0 0 = nI k) (hA : ht_al g 3) (hB : ht_bo g 7) : Met l yH_makeTick kH_makeTick ({ frames := 6, cells := 0, slots := 0, locals := 129 }) (va_Pc [.ref (q 0)] (fun U => U.heap.size = sz ∧ ht_I D cA q g U)) (va_Qv (fun _ : Unit => True) (fun _ t => ht_I D cA q (ht_tick k g) t) (mw_A 14 q sz)) 0 0 (mw_A 14 q sz) := by
  refine Met.ofW (cc := cH_makeTick) (maxL := 2) (ret := none) (by decide) rfl ?_
  intro p e s m args below meth c s₁ B hml hv
  obtain ⟨rfl, hsz, hP, hK, hN⟩ := hv
  have hx := B.exec
  have hb := B.bytes
  have hr := B.returns
  have hts := fun w h => atoms_spec (ws := kH_makeTick) B.pre w (List.mem_cons_of_mem _ h)
  have hown : s.vm.findClass RH = some m.cls := findClass_of_methodNamed B.named
  have hlocks := B.notSynchronized
  subst hsz
  have hS : va_S (mw_A 14 q s.heap.size) s.heap s.heap [] := va_S.rf
  have hl := lv_entry ([.ref (q 0)]) (n := 2) (Nat.le_of_ble_eq_true rfl)
  rw [lg_entry_eq]
  generalize (lg_sl ([.ref (q 0)]) ++ List.replicate (2 - (lg_sl ([.ref (q 0)])).length) Slot.unset).toArray = ls at hl ⊢
  have hl : lv_has ls 2 [(0, .ref (q 0))] := hl
  have K40 : ∀ (n9 : Nat), ∀ (j : Nat), (k + 1 ≤ j + n9) → (j ≤ k) → ∀ (H : Heap) (locs : List Loc), va_P D ht_cl (ht_w cA q (ht_it ht_rp j (ht_it (ht_mv k) k g))) H → va_S (mw_A 14 q s.heap.size) s.heap H locs → ∀ (ls : Array Slot), lv_has ls 2 [(0, .ref (q 0)), (1, .int (nI j))] → W p l e (headSpec kH_makeTick ({ frames := 6, cells := 0, slots := 0, locals := 129 })).room s m [.ref (q 0)].toArray below meth c H locs 0 0 (MQ below (va_Qv (fun _ : Unit => True) (fun _ t => ht_I D cA q (ht_tick k g) t) (mw_A 14 q s.heap.size)) [.ref (q 0)].toArray s 0 0 (mw_A 14 q s.heap.size)) (F0 m 40 ls []) := by
    intro n9
    induction n9 with
    | zero =>
      intro j hn9 hjk H locs hP hS ls hl
      exact absurd hn9 (by omega)
    | succ n9 ih =>
      intro j hn9 hjk H locs hP hS ls hl
      have hnj : (ht_it ht_rp j (ht_it (ht_mv k) k g)) 0 0 = nI k := (ht_it_keep (fun _ a => ht_rp_o (by decide) a) _ _).trans ((ht_it_keep (fun _ a => ht_mv_o (by decide) a) _ _).trans hn)
      refine lv_iload_n hx hb dH_makeTick_40 rfl (lv_at hl 1 rfl) ?_
      refine lv_aload_n hx hb dH_makeTick_41 rfl (lv_at hl 0 rfl) ?_
      refine va_get (D := D) (ci := 1) (C := RH) (T := TH) (N := 7) (v := .int ((ht_it ht_rp j (ht_it (ht_mv k) k g)) 0 0)) hx hb hts inH hown hK hP 0 ht_atO rfl 1 (by decide) (hts _ w78) (fun _ h9 => h9) rfl dH_makeTick_42 ?_
      refine lv_icmp_ge (tgt := 75) hx hb dH_makeTick_45 (by decide) (fun c1 => ?_) (fun c1 => ?_)
      · rw [hnj] at c1
        have e9 : j = k := ht_end hk hjk c1
        rw [e9] at hP hnj
        refine lv_aload_n hx hb dH_makeTick_75 rfl (lv_at hl 0 rfl) ?_
        refine va_callv (va_runV (As := []) (rest := []) ⟨hx, hb, hml, hown, hts⟩ (xH_findStates l D cA q hJ _ (ht_it ht_rp k (ht_it (ht_mv k) k g)) k hk hnj (ht_al_of hA (fun y _ => by rw [ht_it_keep (fun _ a => ht_rp_o (Or.inl (by decide)) a), ht_it_keep (fun _ a => ht_mv_o (Or.inl (by decide)) a)]))) (cwV 0 hts (ht_gV w226 w228 s8 w1 w229) rfl rfl rfl (by decide +kernel) ⟨Nat.le_of_ble_eq_true rfl, Nat.le_of_ble_eq_true rfl⟩) ⟨ht_bls, va_recv hK hP (ci := 1) (q0 := 0) rfl ht_atO, fun U hU hW => ⟨rfl, by rw [hU], ht_Im hP hK hN hU hW⟩⟩ rfl rfl hl.1 rfl (lv_room (Nat.le_of_ble_eq_true rfl)) dH_makeTick_76 ⟨Nat.zero_le _, Nat.zero_le _⟩) hS mw_AA (mw_AF hS.1) (fun u2 t2 H locs ht2 hvm2 hw2 hB2 hz2 hk2 hS => ?_)
        have hP := hB2.1
        rw [ht2] at hP
        obtain ⟨g3, eg3⟩ : ∃ y9 : ht_G, y9 = ht_find k (ht_it ht_rp k (ht_it (ht_mv k) k g)) := ⟨_, rfl⟩
        rw [← eg3] at hP
        refine lv_aload_n hx hb dH_makeTick_79 rfl (lv_at hl 0 rfl) ?_
        refine lv_dup hx hb dH_makeTick_80 rfl ?_
        refine va_get (D := D) (ci := 1) (C := RH) (T := TH) (N := 7) (v := .int (g3 0 1)) hx hb hts inH hown hK hP 0 ht_atO rfl 2 (by decide) (hts _ w79) (fun _ h9 => h9) rfl dH_makeTick_81 ?_
        refine lv_iconst (v := 1) hx hb dH_makeTick_84 (by decide) ?_
        refine lv_iadd hx hb dH_makeTick_85 ?_
        refine va_put (D := D) (ci := 1) (C := RH) (T := TH) (N := 7) (v := .int ((g3 0 1) + 1)) (ty := .int) hx hb hts inH tyH tyH_ok nmH hown hK hP (mw_DA hJ) hS 0 ht_atO rfl 2 (by decide) (hts _ w79) (fun _ h9 => h9) rfl rfl rfl rfl (Nat.le_of_ble_eq_true rfl) dH_makeTick_86 (fun H locs hP _ hS => ?_)
        rw [ht_stT] at hP
        obtain ⟨g4, eg4⟩ : ∃ y9 : ht_G, y9 = ht_up g3 0 1 ((g3 0 1) + 1) := ⟨_, rfl⟩
        rw [← eg4] at hP
        have hG : g4 = ht_tick k g := by rw [eg4, eg3, ht_tick_eq]
        rw [hG] at hP
        exact W.vret hx hb hr (fun t ht hW => ⟨⟨(), rfl, trivial, ht_Im hP hK hN ht hW⟩, hS.F ht⟩) hS.2.2 dH_makeTick_89
      · rw [hnj] at c1
        have hjl : j < k := ht_lt hk hjk c1
        have hj8 : j < 8 := Nat.lt_of_lt_of_le hjl hk
        refine lv_aload_n hx hb dH_makeTick_48 rfl (lv_at hl 0 rfl) ?_
        refine va_get (D := D) (ci := 1) (C := RH) (T := TH) (N := 7) (v := .ref (q 1)) hx hb hts inH hown hK hP 0 ht_atO rfl 0 (by decide) (hts _ w77) (fun _ h9 => h9) rfl dH_makeTick_49 ?_
        refine lv_iload_n hx hb dH_makeTick_52 rfl (lv_at hl 1 rfl) ?_
        refine ht_ldV hx hb hK hP (j := j) hj8 rfl dH_makeTick_53 ?_
        refine va_getN (D := D) (ci := 0) (C := RV) (T := TV) (N := 13) (v := .int ((ht_it ht_rp j (ht_it (ht_mv k) k g)) (5 + j) 0)) hx hb hts inV hown hK hP (j + 6) (ht_atV hj8) rfl 0 (by decide) (hN.use 1 rfl rfl) (fun _ h9 => h9) rfl dH_makeTick_54 ?_
        refine lv_if_eq (tgt := 69) hx hb dH_makeTick_57 (by decide) (fun c5 => ?_) (fun c5 => ?_)
        · refine lv_iinc (v := nI (j + 1)) (lv' := [(1, .int (nI (j + 1))), (0, .ref (q 0))]) hx hb dH_makeTick_69 hl (k := 1) rfl (nI_1 _) (by decide) rfl (fun ls hl => ?_)
          refine lv_goto (tgt := 40) hx hb dH_makeTick_72 (by decide) ?_
          have hG : ht_it ht_rp j (ht_it (ht_mv k) k g) = ht_it ht_rp (j + 1) (ht_it (ht_mv k) k g) := by simp [ht_it, ht_rp, ht_roa, c1, c5]
          rw [hG] at hP
          exact ih (j + 1) (by omega) (by omega) _ _ hP hS ls (lv_sub hl [1, 0] rfl)
        · refine lv_aload_n hx hb dH_makeTick_60 rfl (lv_at hl 0 rfl) ?_
          refine va_get (D := D) (ci := 1) (C := RH) (T := TH) (N := 7) (v := .ref (q 1)) hx hb hts inH hown hK hP 0 ht_atO rfl 0 (by decide) (hts _ w77) (fun _ h9 => h9) rfl dH_makeTick_61 ?_
          refine lv_iload_n hx hb dH_makeTick_64 rfl (lv_at hl 1 rfl) ?_
          refine ht_ldV hx hb hK hP (j := j) hj8 rfl dH_makeTick_65 ?_
          refine va_callv (va_runVN (As := []) (rest := []) ⟨hx, hb, hml, hown, hts⟩ (xV_reportOrAge l D cA q hJ _ (ht_it ht_rp j (ht_it (ht_mv k) k g)) j hj8 (by rw [ht_it_keep (fun _ a => ht_rp_o (Or.inr (by decide)) a), ht_it_keep (fun _ a => ht_mv_o (Or.inr (by decide)) a)]; exact hB j hj8)) ⟨va_cnB 0 hts (ht_gW w387) rfl rfl rfl (hN _ (List.mem_of_getElem? (i := 20) rfl)) (hts _ w2) (by decide +kernel) ⟨Nat.le_of_ble_eq_true rfl, Nat.le_of_ble_eq_true rfl⟩, hts _ w386, hts _ s27⟩ ⟨ht_bls, va_recv hK hP (ci := 0) (q0 := j + 6) rfl (ht_atV hj8), fun U hU hW => ⟨rfl, by rw [hU], ht_Im hP hK hN hU hW⟩⟩ rfl rfl hl.1 rfl (lv_room (Nat.le_of_ble_eq_true rfl)) dH_makeTick_66 ⟨Nat.zero_le _, Nat.zero_le _⟩) hS mw_AA (mw_AF hS.1) (fun u6 t6 H locs ht6 hvm6 hw6 hB6 hz6 hk6 hS => ?_)
          have hP := hB6.1
          rw [ht6] at hP
          obtain ⟨g7, eg7⟩ : ∃ y9 : ht_G, y9 = ht_roa j (ht_it ht_rp j (ht_it (ht_mv k) k g)) := ⟨_, rfl⟩
          rw [← eg7] at hP
          refine lv_iinc (v := nI (j + 1)) (lv' := [(1, .int (nI (j + 1))), (0, .ref (q 0))]) hx hb dH_makeTick_69 hl (k := 1) rfl (nI_1 _) (by decide) rfl (fun ls hl => ?_)
          refine lv_goto (tgt := 40) hx hb dH_makeTick_72 (by decide) ?_
          have hG : g7 = ht_it ht_rp (j + 1) (ht_it (ht_mv k) k g) := by subst eg7; simp [ht_it, ht_rp, ht_roa, c1, c5]
          rw [hG] at hP
          exact ih (j + 1) (by omega) (by omega) _ _ hP hS ls (lv_sub hl [1, 0] rfl)
  have K2 : ∀ (n9 : Nat), ∀ (j : Nat), (k + 1 ≤ j + n9) → (j ≤ k) → ∀ (H : Heap) (locs : List Loc), va_P D ht_cl (ht_w cA q (ht_it (ht_mv k) j g)) H → va_S (mw_A 14 q s.heap.size) s.heap H locs → ∀ (ls : Array Slot), lv_has ls 2 [(0, .ref (q 0)), (1, .int (nI j))] → W p l e (headSpec kH_makeTick ({ frames := 6, cells := 0, slots := 0, locals := 129 })).room s m [.ref (q 0)].toArray below meth c H locs 0 0 (MQ below (va_Qv (fun _ : Unit => True) (fun _ t => ht_I D cA q (ht_tick k g) t) (mw_A 14 q s.heap.size)) [.ref (q 0)].toArray s 0 0 (mw_A 14 q s.heap.size)) (F0 m 2 ls []) := by
    intro n9
    induction n9 with
    | zero =>
      intro j hn9 hjk H locs hP hS ls hl
      exact absurd hn9 (by omega)
    | succ n9 ih =>
      intro j hn9 hjk H locs hP hS ls hl
      have hnj : (ht_it (ht_mv k) j g) 0 0 = nI k := (ht_it_keep (fun _ a => ht_mv_o (by decide) a) _ _).trans hn
      refine lv_iload_n hx hb dH_makeTick_2 rfl (lv_at hl 1 rfl) ?_
      refine lv_aload_n hx hb dH_makeTick_3 rfl (lv_at hl 0 rfl) ?_
      refine va_get (D := D) (ci := 1) (C := RH) (T := TH) (N := 7) (v := .int ((ht_it (ht_mv k) j g) 0 0)) hx hb hts inH hown hK hP 0 ht_atO rfl 1 (by decide) (hts _ w78) (fun _ h9 => h9) rfl dH_makeTick_4 ?_
      refine lv_icmp_ge (tgt := 38) hx hb dH_makeTick_7 (by decide) (fun c8 => ?_) (fun c8 => ?_)
      · rw [hnj] at c8
        have e9 : j = k := ht_end hk hjk c8
        refine lv_iconst (v := 0) hx hb dH_makeTick_38 (by decide) ?_
        refine lv_istore_n (lv' := [(1, .int 0), (0, .ref (q 0))]) hx hb dH_makeTick_39 rfl hl (by decide) rfl (fun ls hl => ?_)
        rw [e9] at hP
        exact K40 (k + 1) 0 (by omega) (by omega) _ _ hP hS ls (lv_sub hl [1, 0] rfl)
      · rw [hnj] at c8
        have hjl : j < k := ht_lt hk hjk c8
        have hj8 : j < 8 := Nat.lt_of_lt_of_le hjl hk
        refine lv_aload_n hx hb dH_makeTick_10 rfl (lv_at hl 0 rfl) ?_
        refine va_get (D := D) (ci := 1) (C := RH) (T := TH) (N := 7) (v := .ref (q 1)) hx hb hts inH hown hK hP 0 ht_atO rfl 0 (by decide) (hts _ w77) (fun _ h9 => h9) rfl dH_makeTick_11 ?_
        refine lv_iload_n hx hb dH_makeTick_14 rfl (lv_at hl 1 rfl) ?_
        refine ht_ldV hx hb hK hP (j := j) hj8 rfl dH_makeTick_15 ?_
        refine va_getN (D := D) (ci := 0) (C := RV) (T := TV) (N := 13) (v := .int ((ht_it (ht_mv k) j g) (5 + j) 0)) hx hb hts inV hown hK hP (j + 6) (ht_atV hj8) rfl 0 (by decide) (hN.use 1 rfl rfl) (fun _ h9 => h9) rfl dH_makeTick_16 ?_
        refine lv_if_eq (tgt := 32) hx hb dH_makeTick_19 (by decide) (fun c9 => ?_) (fun c9 => ?_)
        · refine lv_iinc (v := nI (j + 1)) (lv' := [(1, .int (nI (j + 1))), (0, .ref (q 0))]) hx hb dH_makeTick_32 hl (k := 1) rfl (nI_1 _) (by decide) rfl (fun ls hl => ?_)
          refine lv_goto (tgt := 2) hx hb dH_makeTick_35 (by decide) ?_
          have hG : ht_it (ht_mv k) j g = ht_it (ht_mv k) (j + 1) g := by simp [ht_it, ht_mv, c8, c9]
          rw [hG] at hP
          exact ih (j + 1) (by omega) (by omega) _ _ hP hS ls (lv_sub hl [1, 0] rfl)
        · refine lv_aload_n hx hb dH_makeTick_22 rfl (lv_at hl 0 rfl) ?_
          refine lv_aload_n hx hb dH_makeTick_23 rfl (lv_at hl 0 rfl) ?_
          refine va_get (D := D) (ci := 1) (C := RH) (T := TH) (N := 7) (v := .ref (q 1)) hx hb hts inH hown hK hP 0 ht_atO rfl 0 (by decide) (hts _ w77) (fun _ h9 => h9) rfl dH_makeTick_24 ?_
          refine lv_iload_n hx hb dH_makeTick_27 rfl (lv_at hl 1 rfl) ?_
          refine ht_ldV hx hb hK hP (j := j) hj8 rfl dH_makeTick_28 ?_
          refine va_callv (va_runV (As := [.ref (q (j + 6))]) (rest := []) ⟨hx, hb, hml, hown, hts⟩ (xH_goForward l D cA q hJ _ (ht_it (ht_mv k) j g) k hk hnj j hj8) (cwV 1 hts (ht_gV w380 w382 s26 w1 w383) rfl rfl rfl (by decide +kernel) ⟨Nat.le_of_ble_eq_true rfl, Nat.le_of_ble_eq_true rfl⟩) ⟨ht_bls, va_recv hK hP (ci := 1) (q0 := 0) rfl ht_atO, fun U hU hW => ⟨rfl, by rw [hU], ht_Im hP hK hN hU hW⟩⟩ rfl rfl hl.1 rfl (lv_room (Nat.le_of_ble_eq_true rfl)) dH_makeTick_29 ⟨Nat.zero_le _, Nat.zero_le _⟩) hS mw_AA (mw_AF hS.1) (fun u10 t10 H locs ht10 hvm10 hw10 hB10 hz10 hk10 hS => ?_)
          have hP := hB10.1
          rw [ht10] at hP
          obtain ⟨g11, eg11⟩ : ∃ y9 : ht_G, y9 = ht_go k j ((ht_it (ht_mv k) j g) (5 + j) 4).toNatClampNeg (ht_it (ht_mv k) j g) := ⟨_, rfl⟩
          rw [← eg11] at hP
          refine lv_iinc (v := nI (j + 1)) (lv' := [(1, .int (nI (j + 1))), (0, .ref (q 0))]) hx hb dH_makeTick_32 hl (k := 1) rfl (nI_1 _) (by decide) rfl (fun ls hl => ?_)
          refine lv_goto (tgt := 2) hx hb dH_makeTick_35 (by decide) ?_
          have hG : g11 = ht_it (ht_mv k) (j + 1) g := by subst eg11; simp [ht_it, ht_mv, c8, c9]
          rw [hG] at hP
          exact ih (j + 1) (by omega) (by omega) _ _ hP hS ls (lv_sub hl [1, 0] rfl)
  refine lv_iconst (v := 0) hx hb dH_makeTick_0 (by decide) ?_
  refine lv_istore_n (lv' := [(1, .int 0), (0, .ref (q 0))]) hx hb dH_makeTick_1 rfl hl (by decide) rfl (fun ls hl => ?_)
  exact K2 (k + 1) 0 (by omega) (by omega) _ _ hP hS ls (lv_sub hl [1, 0] rfl)
end
section
/-! 'throw new E("text")' where E's own constructor passes on by a link of another number than the library's chain has: the library's proof of ctorThrowS, with the first pass taken by itself -/
abbrev hx_six : ByteArray := prog_11_method_4_code
def hx_atoms (own : String) (ic : Nat) (X Y : String) (r : List String) (i7 : Nat) : List Cond :=
  Bundle.throwableAtoms ++ Bundle.throwableSAtoms ++ Bundle.passSAtoms X Y i7 hx_six ++ Bundle.chainSAtoms Y r ++
  [.methodLink own ic (Bundle.initS X), .instantiable X 6, .selects X Bundle.tFill0 Bundle.tFill0, .selects X Bundle.tFill Bundle.tFill,
   .lays X Bundle.tN "cause" "Ljava/lang/Throwable;", .lays X Bundle.tN "stackTrace" Bundle.steD, .lays X Bundle.tN "suppressedExceptions" Bundle.listD, .lays X Bundle.tN "detailMessage" "Ljava/lang/String;",
   .isRef (.static Bundle.tN "UNASSIGNED_STACK" Bundle.steD), .isRef (.static Bundle.tN "SUPPRESSED_SENTINEL" Bundle.listD),
   .fieldLink Bundle.tN 198 Bundle.tN "backtrace" "Ljava/lang/Object;", .lays Bundle.tN Bundle.tN "backtrace" "Ljava/lang/Object;", .lays X Bundle.tN "backtrace" "Ljava/lang/Object;"]
theorem hx_six0 : decode hx_six 0 = .ok (.aload_n 0, 1) := by decide +kernel
theorem hx_six1 : decode hx_six 1 = .ok (.aload_n 1, 1) := by decide +kernel
theorem hx_six2 : decode hx_six 2 = .ok (.invokespecial 13, 3) := by decide +kernel
theorem hx_six5 : decode hx_six 5 = .ok (.return_, 1) := by decide +kernel
section
variable {p : Program} {l : Launch} {e : Env} {R : Room} {s : State} {m₀ : MethodId} {args : Array Value} {below : List Frame} {meth : Method} {c : Code} {W0 : State} {locs : List Loc} {cells slots : Nat}
set_option maxHeartbeats 4000000 in
theorem hx_ctorS (X : Stand p l e R s m₀ args below meth c W0 locs cells slots) (hexec : p.tables.exec = Jvm.exec) (htr : e.platform.stackTraces = false) {own cls Y : String} {r : List String} {ic : Nat}
    (hown : s.vm.findClass own = some m₀.cls) (hcls : Bundle.fit cls = true) (hY : Bundle.fit Y = true) (hnames : ∀ n ∈ r, Bundle.fit n = true)
    (h : ∀ a ∈ hx_atoms own ic cls Y r 13, a.before args s = true)
    (hlocs : ∀ x ∈ locs, ∀ cell, s.heap[x.base]? = some cell → cell.vm.isStatics = false)
    {a : Addr} {cX : ClassId} {kX : Class} (hfoundX : s.vm.findClass cls = some cX) (hkX : s.vm.classes[cX]? = some kX) (hcell : W0.heap[a]? = some (freshCell cX kX)) (hnew : s.heap.size ≤ a)
    {msg : Value} (hmsg : msg.isRef = true)
    {g : JFrame} (hg : g.method = m₀) (hsize : g.locals.size = c.maxLocals) (hlocked : g.locked = none) (hentered : g.entered = []) {rest : List Value} (hstack : g.stack = msg :: .ref a :: .ref a :: rest)
    (hd6 : decode c.code g.pc = .ok (.invokespecial ic, 3)) (hd9 : decode c.code (g.pc + 3) = .ok (.athrow, 1)) (hout : ∀ x ∈ c.exceptionTable.toList, covers x (g.pc + 3) = false)
    (hRframes : r.length + 4 < R.frames) (hRlocals : 2 * g.monitorRoom + ((Value.ref a :: rest).map fun v => v.category).sum + (13 * (r.length + 2) + 42) ≤ R.locals) (hlocks : meth.locks = false) :
    ∃ U : State, Steps p.tables e below (W0.setTop g) U ∧ U.status = .running ∧ Ended U below (.threw a) ∧ s.WarmedH U.vm ∧ s.sameButNew ({ U with vm := s.vm } : State) locs cells slots ∧
      ∃ ce, U.heap[a]? = some ce ∧ s.vm.findClass cls = some ce.cls ∧ ce.vm = .none := by
  have howns : e.platform.frameOwnsMonitors = true := by rw [X.admits.platform]
  have hfin : e.platform.finalization = false := by rw [X.admits.platform]
  have hpl : e.platform.magicAccessors = ({} : Platform).magicAccessors := by rw [X.admits.platform]
  have a' : ∀ x, x ∈ hx_atoms own ic cls Y r 13 → x.holds args s none s [] = true := fun x hx => h x hx
  obtain ⟨T, Z0, L, -, Y1⟩ := ThrowableC.of_atoms (args := args) howns hfin hpl (fun x hx => h x (by simp [hx_atoms, hx]))
  obtain ⟨Z, M, LZ, LM, hnZ⟩ := Init0T.ofS_atoms (args := args) hpl L Y1 (fun x hx => h x (by simp [hx_atoms, hx]))
  obtain ⟨P2, Ps, hlen, L2, hL, hP2m, hlink1, hlink⟩ := Bundle.chainS (args := args) hpl hnZ r Y hY hnames (fun x hx => h x (by simp [hx_atoms, hx]))
  obtain ⟨P1, L1, hP1m, hP1s⟩ := PassC.ofS_atoms (args := args) hpl (X := cls) (Y := Y) (Bundle.fit_spec hcls).1 (Bundle.fit_spec hY).2 hx_six0 hx_six1 hx_six2 hx_six5 (fun x hx => h x (by simp [hx_atoms, hx]))
  have hP12 : P1.sup = P2.m := Option.some.inj (hP1s.symm.trans hP2m)
  have hfound : s.vm.findClass cls = some P1.m.cls := findClass_of_methodNamed hP1m
  cases Option.some.inj (hfoundX.symm.trans hfound)
  obtain ⟨c1, kX', hc1, hk, hord, -, -, hn6⟩ := Cond.instantiable_spec (a' (.instantiable cls 6) (by simp [hx_atoms]))
  cases Option.some.inj (hc1.symm.trans hfound)
  cases Option.some.inj (hkX.symm.trans hk)
  have hsel0 : selectMethod e.platform s.vm P1.m.cls T.fill0 = .method T.fill0 := by
    obtain ⟨c2, r2, m2, q1, q2, q3, q4, -⟩ := Cond.selects_spec (a' (.selects cls Bundle.tFill0 Bundle.tFill0) (by simp [hx_atoms]))
    cases Option.some.inj (q1.symm.trans hfound)
    cases Option.some.inj (q2.symm.trans (State.methodFound?_of_named Y1.fill0 (by decide)))
    cases Option.some.inj (q3.symm.trans Y1.fill0)
    rw [Launch.admits_selectMethod X.admits]; exact q4
  have hselF : selectMethod e.platform s.vm P1.m.cls T.fill = .method T.fill := by
    obtain ⟨c2, r2, m2, q1, q2, q3, q4, -⟩ := Cond.selects_spec (a' (.selects cls Bundle.tFill Bundle.tFill) (by simp [hx_atoms]))
    cases Option.some.inj (q1.symm.trans hfound)
    cases Option.some.inj (q2.symm.trans (State.methodFound?_of_named Y1.fill (by decide)))
    cases Option.some.inj (q3.symm.trans Y1.fill)
    rw [Launch.admits_selectMethod X.admits]; exact q4
  obtain ⟨cellS0, hcS0, hiss⟩ := Y1.statics
  obtain ⟨u0, hu0⟩ := Cond.staticRefV Y1.unassigned L.unassignedStatic L.statics hcS0 hiss (a' (.isRef (.static Bundle.tN "UNASSIGNED_STACK" Bundle.steD)) (by simp [hx_atoms]))
  obtain ⟨sen, hsen⟩ := Cond.staticRefV Y1.sentinel L.sentinelStatic L.statics hcS0 hiss (a' (.isRef (.static Bundle.tN "SUPPRESSED_SENTINEL" Bundle.listD)) (by simp [hx_atoms]))
  obtain ⟨ci198, i198, fB, hk198, hg198, ha198, hsB, -, hnB, htB, hffB⟩ := Cond.ownField (t := .object "java/lang/Object") Y1.found L.cls (by decide +kernel) (a' (.fieldLink Bundle.tN 198 Bundle.tN "backtrace" "Ljava/lang/Object;") (by simp [hx_atoms])) (a' (.lays Bundle.tN Bundle.tN "backtrace" "Ljava/lang/Object;") (by simp [hx_atoms])) e.platform hpl
  obtain ⟨cellS, hcS', heS, -, hkeep⟩ := X.same.2.2.2.2.2 T.aS cellS0 hcS0
  have hcellS : W0.heap[T.aS]? = some cellS := hcS'
  have hout' : ∀ i, (⟨T.aS, i⟩ : Loc) ∉ locs := fun i hmem => by
    have := hlocs _ hmem cellS0 hcS0
    rw [hiss] at this; cases this
  have hknownS : cellS.vm ≠ .unknown := by
    rw [heS]; intro hu
    rw [show cellS0.vm = .unknown from hu] at hiss
    cases hiss
  have hneS : T.aS ≠ a := Nat.ne_of_lt (Nat.lt_of_lt_of_le (Array.getElem?_eq_some_iff.mp hcS0).1 hnew)
  obtain ⟨iM, hffM⟩ := Y1.msg
  obtain ⟨tyC, dC, hdC, hdnC⟩ := Cond.laysAt hfound hk Y1.cause (a' (.lays cls Bundle.tN "cause" "Ljava/lang/Throwable;") (by simp [hx_atoms]))
  obtain ⟨tyS, dS, hdS, hdnS⟩ := Cond.laysAt hfound hk Y1.stack (a' (.lays cls Bundle.tN "stackTrace" Bundle.steD) (by simp [hx_atoms]))
  obtain ⟨tyP, dP, hdP, hdnP⟩ := Cond.laysAt hfound hk Y1.supp (a' (.lays cls Bundle.tN "suppressedExceptions" Bundle.listD) (by simp [hx_atoms]))
  obtain ⟨tyM, dM, hdM, hdnM⟩ := Cond.laysAt hfound hk hffM (a' (.lays cls Bundle.tN "detailMessage" "Ljava/lang/String;") (by simp [hx_atoms]))
  obtain ⟨tyB, dB, hdB, hdnB⟩ := Cond.laysAt hfound hk hffB (a' (.lays cls Bundle.tN "backtrace" "Ljava/lang/Object;") (by simp [hx_atoms]))
  have bC := Cond.laysApart hdB hdC hdnB hdnC (by rw [hnB, Y1.causeName]; decide)
  have bS := Cond.laysApart hdB hdS hdnB hdnS (by rw [hnB, Y1.stackName]; decide)
  have bP := Cond.laysApart hdB hdP hdnB hdnP (by rw [hnB, Y1.suppName]; decide)
  have hskip : SkipFacts T e.platform s (fun u => u) u0 ((preparedCellV T.toThrowableT (freshCell P1.m.cls kX) a u0 sen).withEntry W0.cur) :=
    ⟨{ ci198 := ci198, i198 := i198, fBack := fB }, ⟨hk198, hg198, ha198, hsB⟩, by
      have := fresh_default (c := P1.m.cls) tyB
      rw [htB] at this
      simpa [preparedCellV, Cell.setSlot, Cell.withEntry, Array.getElem?_setIfInBounds, bC, bS, bP, bC.symm, bS.symm, bP.symm, defaultValue] using this, fun _ _ => rfl⟩
  obtain ⟨tm, methC, cdC, kC, vm₁, hnC, -, -, -, -, -, -, -, hW₁, st1⟩ := Steps.initColdS (tb := p.tables) (e := e) (below := below) (s := s) (U := W0) X.here hexec X.warmed hpl hown (t := Bundle.initS cls) rfl rfl (Bundle.fit_spec hcls).2
    (a' (.methodLink own ic (Bundle.initS cls)) (by simp [hx_atoms])) (h (.instanceMethod (Bundle.initS cls)) (by simp [hx_atoms, Bundle.passSAtoms])) (bytes := hx_six) (maxL := 2) (h (.code (Bundle.initS cls) hx_six 2 none) (by simp [hx_atoms, Bundle.passSAtoms]))
    (f := g) hg (a := a) (msg := msg) (rest := .ref a :: rest) hstack hd6
  cases Option.some.inj (hnC.symm.trans hP1m)
  have X₁ := X.noted hW₁
  obtain ⟨vm₂, X₂, st2⟩ := X₁.ctorMessageOffV hexec (g := { g with stack := .ref a :: rest }) hg hsize T L Z LZ M LM (P1 :: P2 :: Ps)
    (fun P hP => by rcases List.mem_cons.mp hP with rfl | hP; exact L1; rcases List.mem_cons.mp hP with rfl | hP; exact L2; exact hL P hP) ⟨hP12, hlink1, hlink⟩ (u0 := u0) (sen := sen) (self := a) hmsg (cell := freshCell P1.m.cls kX) (cellS := cellS)
    hcell (fun _ => by simp) (by simp) rfl rfl hsel0 hselF hcellS hneS hknownS (by rw [hkeep _ (hout' _)]; exact hu0) (by rw [hkeep _ (hout' _)]; exact hsen)
    (Takes.of_laid hk hord tyC (by rw [Y1.causeType]; rfl)) (Takes.of_laid hk hord tyS (by rw [Y1.stackType]; exact fits_refV_array _ u0)) (Takes.of_laid hk hord tyP (by rw [Y1.suppType]; exact fits_refV_object _ sen))
    (Takes.of_laid hk hord tyM (by rw [Y1.msgType]; exact fits_refV_object _ ⟨msg, hmsg⟩)) Y1.objLocals hskip htr [] hd6
    (by simp only [List.length_cons, hlen]; omega) (by simp only [List.length_cons, hlen]; exact hRlocals)
  obtain ⟨hwalk, hrun, hended, hWU, hsame⟩ := X₂.athrowLeaves hexec (g := { g with stack := .ref a :: rest, pc := g.pc + 3 }) hg hlocked hentered hout (a := a) (rest := rest) rfl hd9
  have hlt : a < ((W0.setVm vm₁).setVm vm₂).heap.size := (Array.getElem?_eq_some_iff.mp hcell).1
  have hU := heapAt_setCell_self (s := (W0.setVm vm₁).setVm vm₂) (plainBareV T.toThrowableT (freshCell P1.m.cls kX) a u0 sen msg) hlt
  refine ⟨_, st1 _ (fun acts => ?_), hrun, hended, hWU, hsame.weaken (fun y hy hlt' => ?_) (Nat.le_refl _) (Nat.le_refl _), _, hU, hfound, rfl⟩
  · rw [doInvoke_state]
    exact st2 _ hwalk
  · rcases List.mem_append.mp hy with h1 | h1
    · exact h1
    · exfalso
      have hb : y.base = a := by
        simp only [List.mem_cons, List.not_mem_nil, or_false] at h1
        rcases h1 with rfl | rfl | rfl | rfl | rfl <;> rfl
      rw [hb] at hlt'
      exact Nat.not_lt.mpr hnew hlt'
end
def hx_at (own : String) (ic : Nat) (X Y : String) (r : List String) (i7 : Nat) : List Cond := (hx_atoms own ic X Y r i7).filter vx_no
section
variable {p : Program} {l : Launch} {e : Env} {R : Room} {s : State} {m : MethodId} {args : Array Value} {below : List Frame} {meth : Method} {c : Code} {H : Heap} {locs : List Loc} {cells slots : Nat}
variable {free : Addr → Prop} {ls : Array Slot} {rest : List Value} {Qc : Array Value → State → Outcome → State → Prop} {XC : String → State → State → Prop}
set_option maxHeartbeats 4000000 in
theorem hx_throwS {cc : ByteArray} {pc : Nat} (hexec : p.tables.exec = Jvm.exec) (hb : c.code = cc) (hl : l.stackTraces = false) {own cls Y text : String} {r : List String} {ik is ic mc ms sa : Nat} {A : Nat → Prop}
    (hown : s.vm.findClass own = some m.cls) (hcls : Bundle.fit cls = true) (hY : Bundle.fit Y = true) (hnames : ∀ n ∈ r, Bundle.fit n = true)
    (hk : (Cond.classLink own ik cls).before args s = true) (hini : (Cond.initialized cls).before args s = true) (hstr : vk_R own is text sa s) (hat : ∀ w ∈ hx_at own ic cls Y r 13, w.before args s = true)
    (hgood : ∀ w ∈ Cond.classLink own ik cls :: Cond.initialized cls :: hx_at own ic cls Y r 13, vx_ot w = true)
    (hU : vx_Zq Bundle.tN "UNASSIGNED_STACK" Bundle.steD A s s.heap) (hN : vx_Zq Bundle.tN "SUPPRESSED_SENTINEL" Bundle.listD A s s.heap) (hS : va_S A s.heap H locs) (hsize : ls.size = c.maxLocals)
    (d0 : decode cc pc = .ok (.new ik, 3)) (d3 : decode cc (pc + 3) = .ok (.dup, 1)) (d4 : decode cc (pc + 4) = .ok (.ldc is, 2)) (d6 : decode cc (pc + 6) = .ok (.invokespecial ic, 3)) (d9 : decode cc (pc + 9) = .ok (.athrow, 1))
    (hout : ∀ x ∈ c.exceptionTable.toList, covers x (pc + 9) = false)
    (hRframes : r.length + 4 < R.frames) (hRlocals : (rest.map fun v => v.category).sum + (13 * (r.length + 2) + 43) ≤ R.locals) (hRcells : cells + 1 ≤ R.cells) (hRslots : slots + 6 ≤ R.slots) (hlocks : meth.locks = false)
    (hx : ∀ t : State, s.vm.Alike t.vm → H.size ≤ t.heap.size → (∀ q : Nat, q < H.size → t.heap[q]? = H[q]?) → XC cls s t)
    (hf : ∀ z ∈ locs, free z.base) (hc : cells + 1 ≤ mc) (hs : slots + 6 ≤ ms) :
    W p l e R s m args below meth c H locs cells slots (vx_MQ below Qc XC args s mc ms free) (F0 m pc ls rest) := by
  intro T hT X
  have htr : e.platform.stackTraces = false := (show e.platform.stackTraces = l.stackTraces by rw [X.admits.platform]).trans hl
  have Y9 := vx_rebase X (R' := { frames := R.frames, locals := R.locals, cells := 1, slots := 6 }) (Nat.le_refl _) (Nat.le_refl _) hRcells hRslots
  obtain ⟨s', hA⟩ : ∃ z, z = (T.setVm s.vm).setFrames (.invoking m args :: below) := ⟨_, rfl⟩
  rw [← hA] at Y9
  have hvm : s'.vm = s.vm := by rw [hA]; rfl
  have hhp : s'.heap = H := by rw [hA]; exact hT
  have hW0 : s.WarmedH s'.vm := by rw [hvm]; exact State.WarmedH.refl s
  have hat' : ∀ w ∈ hx_at own ic cls Y r 13, w.before args s' = true := fun w hw => vx_ot_at hW0 hvm.symm (hgood w (List.mem_cons_of_mem _ (List.mem_cons_of_mem _ hw))) (hat w hw)
  have hk' : (Cond.classLink own ik cls).before args s' = true := vx_ot_at hW0 hvm.symm (hgood _ List.mem_cons_self) hk
  have hini' : (Cond.initialized cls).before args s' = true := vx_ot_at hW0 hvm.symm (hgood _ (List.mem_cons_of_mem _ List.mem_cons_self)) hini
  have hU' : vx_Zq Bundle.tN "UNASSIGNED_STACK" Bundle.steD A s' s'.heap := by rw [hhp]; exact vx_Zq.moved hW0.alike (hU.kept hS.2.1)
  have hN' : vx_Zq Bundle.tN "SUPPRESSED_SENTINEL" Bundle.listD A s' s'.heap := by rw [hhp]; exact vx_Zq.moved hW0.alike (hN.kept hS.2.1)
  have h : ∀ w ∈ hx_atoms own ic cls Y r 13, w.before args s' = true := vx_own hat' (vx_isRefq hU'.1) (vx_isRefq hN'.1) hU'.2.word hN'.2.word
  have hown' : s'.vm.findClass own = some m.cls := by rw [hvm]; exact hown
  have hins : (Cond.instantiable cls 6).before args s' = true := h _ (by simp [hx_atoms])
  obtain ⟨vm₁, cX, kX, hfX, hkX, -, -, X₁, st1⟩ := Y9.newCold hexec (own := own) (C := cls) (index := ik) (n := 6) hown' hk' hins hini'
    (g := F0 m pc ls rest) rfl (by rw [hb]; exact d0) (Nat.le_refl _) (Nat.le_refl _)
  generalize hT1 : (T.setVm vm₁).pushCell { cls := cX, slots := kX.instanceTypes.map defaultValue, vm := .none } = T1 at X₁ st1
  have hcat : (Value.ref T.heap.size).category = 1 := rfl
  have hcellA : T1.heap[T.heap.size]? = some (freshCell cX kX) := by rw [← hT1]; exact State.heap_pushCell_size _ _
  have d3' : decode c.code (pc + 3) = .ok (.dup, 1) := by rw [hb]; exact d3
  have d4' : decode c.code (pc + 4) = .ok (.ldc is, 2) := by rw [hb]; exact d4
  have hstr' : vk_R own is text sa s' := vk_R.warm hW0 hstr
  obtain ⟨U, hsteps, hrun, hend, hW, hsame, ce, hce, hO, hOv⟩ := hx_ctorS X₁ hexec htr (own := own) (cls := cls) (Y := Y) (r := r) (ic := ic) hown' hcls hY hnames h (fun x hx => nomatch hx) hfX hkX hcellA (by rw [hhp, hT]; exact Nat.le_refl _) (msg := .ref sa) rfl
    (g := { method := m, pc := pc + 6, locals := ls, stack := .ref sa :: .ref T.heap.size :: .ref T.heap.size :: rest, locked := none }) rfl hsize rfl rfl (rest := rest) rfl
    (by rw [hb]; exact d6) (by rw [hb]; exact d9) hout hRframes (by simp only [List.map_cons, List.sum_cons, hcat]; omega) hlocks
  obtain ⟨f1, f2⟩ := vx_frame hsame
  rw [hhp] at f1 f2
  have hWs : s.WarmedH U.vm := State.WarmedH.trans hW0 hW
  have hcl : s.vm.findClass cls = some ce.cls := by
    rw [hvm] at hO
    exact hO
  have hall : s.sameButNew ({ U with vm := s.vm } : State) locs mc ms := by
    subst hA
    obtain ⟨e1, e2⟩ := hsame
    rw [State.setFrames_setFrames] at e1
    have h2 : (T.setVm s.vm).sameButNew ({ U with vm := s.vm } : State) [] (0 + 1) (0 + 6) := ⟨e1, e2⟩
    have h3 := X.same.trans h2
    rw [List.append_nil] at h3
    exact h3.mono hc hs
  refine ⟨U, ?_, .threw T.heap.size, hrun, hend, Or.inr ⟨T.heap.size, rfl, cls, ce, locs, hx U hWs.alike f1 (fun q hq => f2 q hq (fun z hz => nomatch hz)), hce, hOv, hcl, hWs, hall, hf⟩⟩
  refine st1 _ ?_
  show Steps p.tables e below (T1.setTop { method := m, pc := pc + 3, locals := ls, stack := .ref T.heap.size :: rest, locked := none }) _
  jvm_step X₁.here [X₁.here.top, hexec, d3', Value.category]
  exact X₁.ldcString hexec (own := own) (text := text) (index := is) (a := sa) hown' hstr'.1 hstr'.2
    (g := { method := m, pc := pc + 4, locals := ls, stack := .ref T.heap.size :: .ref T.heap.size :: rest, locked := none }) rfl d4' _ hsteps
end
end
section
abbrev ht_nm : List String := ["java/lang/RuntimeException", "java/lang/Exception"]
abbrev EA : String := "java/lang/IllegalArgumentException"
abbrev ES : String := "java/lang/IllegalStateException"
abbrev EN : String := "java/util/NoSuchElementException"
abbrev ht_xw : List Cond := [Cond.castable EA EA, Cond.castable ES ES, Cond.castable EN EN, Jvm.Cond.declares ({ cls := "java/lang/RuntimeException", name := "<init>", desc := "()V" } : Jvm.MethodName), Jvm.Cond.declares ({ cls := "java/lang/RuntimeException", name := "<init>", desc := "(Ljava/lang/String;)V" } : Jvm.MethodName), Jvm.Cond.declares ({ cls := "java/lang/Exception", name := "<init>", desc := "()V" } : Jvm.MethodName), Jvm.Cond.declares ({ cls := "java/lang/Exception", name := "<init>", desc := "(Ljava/lang/String;)V" } : Jvm.MethodName), Jvm.Cond.declares ({ cls := "java/lang/Throwable", name := "<init>", desc := "()V" } : Jvm.MethodName), Jvm.Cond.declares ({ cls := "java/lang/Throwable", name := "<init>", desc := "(Ljava/lang/String;)V" } : Jvm.MethodName)]
set_option maxRecDepth 100000 in
theorem xg_A : ∀ w ∈ (vx_atS RH 40 EA ht_nm).filter goodWord, w ∈ ht_tb := by decide +kernel
set_option maxRecDepth 100000 in
theorem xb_A : ∀ w ∈ (vx_atS RH 40 EA ht_nm).filter (fun w => !goodWord w), w ∈ ht_xw := by decide +kernel
set_option maxRecDepth 100000 in
theorem xo_A : ∀ w ∈ Cond.classLink RH 36 EA :: Cond.initialized EA :: vx_atS RH 40 EA ht_nm, vx_ot w = true := by decide +kernel
set_option maxRecDepth 100000 in
theorem xg_S : ∀ w ∈ (vx_atS RH 49 ES ht_nm).filter goodWord, w ∈ ht_tb := by decide +kernel
set_option maxRecDepth 100000 in
theorem xb_S : ∀ w ∈ (vx_atS RH 49 ES ht_nm).filter (fun w => !goodWord w), w ∈ ht_xw := by decide +kernel
set_option maxRecDepth 100000 in
theorem xo_S : ∀ w ∈ Cond.classLink RH 45 ES :: Cond.initialized ES :: vx_atS RH 49 ES ht_nm, vx_ot w = true := by decide +kernel
set_option maxRecDepth 100000 in
theorem xg_N : ∀ w ∈ (hx_at RH 138 EN "java/lang/RuntimeException" ["java/lang/Exception"] 13).filter goodWord, w ∈ ht_tb := by decide +kernel
set_option maxRecDepth 100000 in
theorem xb_N : ∀ w ∈ (hx_at RH 138 EN "java/lang/RuntimeException" ["java/lang/Exception"] 13).filter (fun w => !goodWord w), w ∈ ht_xw := by decide +kernel
set_option maxRecDepth 100000 in
theorem xo_N : ∀ w ∈ Cond.classLink RH 134 EN :: Cond.initialized EN :: hx_at RH 138 EN "java/lang/RuntimeException" ["java/lang/Exception"] 13, vx_ot w = true := by decide +kernel
abbrev ht_ss : List (Nat × String) := [(38, "length not 1 .. 40"), (43, "not on the track"), (47, "8 vehicles came"), (54, "a vehicle stands there"), (64, "a train claims a section there"), (174, "no such train"), (77, "speed not 0 .. 9"), (90, "the train is mute or silent"), (102, "the train is silent"), (110, "n not 1 .. length less 1"), (125, "the train is whole, or was by its report"), (136, "no such wagon"), (142, "ticks not 1 .. 6"), (150, "section not 0 .. 11"), (152, "section not 0 .. 3"), (157, "no such vehicle"), (159, "what not 0 .. 5"), (161, "no train"), (172, "what not 0 .. 7")]
def ht_X (U : State) : Prop := ∀ w ∈ ht_xw, va_Nw w U
theorem ht_X.warm {s U : State} (hW : s.WarmedH U.vm) (h : ht_X s) : ht_X U := by
  intro w hw
  have h1 := h w hw
  simp only [ht_xw, List.mem_cons, List.not_mem_nil, or_false] at hw
  rcases hw with rfl | rfl | rfl | rfl | rfl | rfl | rfl | rfl | rfl <;> first | exact va_Nw.warmC hW h1 | exact va_Nw.warmD hW h1
theorem ht_X.on {w : Cond} (hw : w ∈ ht_xw) : w.onTables = true := by
  simp only [ht_xw, List.mem_cons, List.not_mem_nil, or_false] at hw
  rcases hw with rfl | rfl | rfl | rfl | rfl | rfl | rfl | rfl | rfl <;> rfl
theorem ht_X.same {u U : State} (hv : u.vm = U.vm) (h : ht_X u) : ht_X U := fun w hw => va_Nw.same (ht_X.on hw) hv (h w hw)
def ht_R (U : State) : Prop := ∀ x ∈ ht_ss, ∃ a, vk_R RH x.1 x.2 a U
theorem ht_R.warm {s U : State} (hW : s.WarmedH U.vm) (h : ht_R s) : ht_R U := fun x hx => let ⟨a, ha⟩ := h x hx; ⟨a, vk_R.warm hW ha⟩
theorem ht_R.same {u U : State} (hv : U.vm = u.vm) (h : ht_R u) : ht_R U := fun x hx => let ⟨a, ha⟩ := h x hx; ⟨a, vk_R.same hv ha⟩
def ht_Z (A : Nat → Prop) (U : State) (H : Heap) : Prop := vx_Zq Bundle.tN "UNASSIGNED_STACK" Bundle.steD A U H ∧ vx_Zq Bundle.tN "SUPPRESSED_SENTINEL" Bundle.listD A U H
theorem ht_Z.moved {A : Nat → Prop} {u U : State} {H : Heap} (hv : u.vm.Alike U.vm) (h : ht_Z A u H) : ht_Z A U H := ⟨vx_Zq.moved hv h.1, vx_Zq.moved hv h.2⟩
theorem ht_Z.kept {A : Nat → Prop} {U : State} {H H1 : Heap} (h : ht_Z A U H) (hq : ∀ a : Nat, a < H.size → ¬ A a → H1[a]? = H[a]?) : ht_Z A U H1 := ⟨vx_Zq.kept h.1 hq, vx_Zq.kept h.2 hq⟩
theorem ht_Z.narrow {A B : Nat → Prop} {U : State} {H : Heap} (h : ht_Z A U H) (hAB : ∀ q, B q → A q) : ht_Z B U H := ⟨vx_Zq.narrow h.1 hAB, vx_Zq.narrow h.2 hAB⟩
/-- the start of a method that may throw -/
def ht_E (D : va_G) (c : ClassId × ClassId) (q : Nat → Nat) (g : ht_G) (sz : Nat) (U : State) : Prop := U.heap.size = sz ∧ ht_I D c q g U ∧ ht_X U ∧ ht_R U ∧ ht_Z (mw_A 14 q sz) U U.heap
theorem ht_ble {D : va_G} {c : ClassId × ClassId} {q : Nat → Nat} {g : ht_G} {av : List Value} {sz : Nat} : FrameBlind (va_Pc av (ht_E D c q g sz)) := fun a U f mk h =>
  ⟨h.1, h.2.1, ht_Ic f mk _ h.2.2.1, ht_X.same (u := U) (U := U.calling f mk a) rfl h.2.2.2.1, ht_R.same (u := U) (U := U.calling f mk a) rfl h.2.2.2.2.1, ht_Z.moved (u := U) (U := U.calling f mk a) (Vm.Alike.refl U.vm) h.2.2.2.2.2⟩
theorem ht_Em {D : va_G} {c : ClassId × ClassId} {q : Nat → Nat} {g : ht_G} {s U : State} {H : Heap} {locs : List Loc} (hP : va_P D ht_cl (ht_w c q g) H) (hK : va_K D ht_cl (ht_ty c) s) (hN : ht_N s) (hX : ht_X s) (hR : ht_R s) (hZ : ht_Z (mw_A 14 q s.heap.size) s s.heap) (hS : va_S (mw_A 14 q s.heap.size) s.heap H locs) (hU : U.heap = H) (hW : s.WarmedH U.vm) : ht_E D c q g H.size U :=
  ⟨by rw [hU], ht_Im hP hK hN hU hW, ht_X.warm hW hX, ht_R.warm hW hR, by rw [hU]; exact ((hZ.kept hS.2.1).narrow (mw_AF hS.1)).moved hW.alike⟩
theorem ht_Fx {A : Nat → Prop} {s t : State} {H : Heap} {locs : List Loc} (hS : va_S A s.heap H locs) (h1 : H.size ≤ t.heap.size) (h2 : ∀ q : Nat, q < H.size → t.heap[q]? = H[q]?) : va_F A s t :=
  ⟨Nat.le_trans hS.1 h1, fun q hq ha => (h2 q (Nat.lt_of_lt_of_le hq hS.1)).trans (hS.2.1 q hq ha)⟩
theorem ht_Px {D : va_G} {c : ClassId × ClassId} {q : Nat → Nat} {g : ht_G} {t : State} {H : Heap} (hP : va_P D ht_cl (ht_w c q g) H) (h2 : ∀ q : Nat, q < H.size → t.heap[q]? = H[q]?) : va_P D ht_cl (ht_w c q g) t.heap := mw_kept hP (fun i hi => h2 _ (mw_lt hP hi))
section
variable {p : Program} {l : Launch} {e : Env} {R : Room} {s : State} {m : MethodId} {args : Array Value} {below : List Frame} {meth : Method} {c : Code} {H : Heap} {locs : List Loc} {cells slots : Nat} {Q : State → Prop}
variable {mc ms : Nat} {free : Addr → Prop} {A0 A1 : Nat → Prop} {H0 : Heap} {a : Array Value} {pc : Nat} {ls : Array Slot} {st0 rest : List Value}
theorem hx_callr {S SX : Type} {post : S → Prop} {px : SX → Prop} {B : S → Nat → State → Prop} {BX : String → SX → State → Prop} {AX : Nat → Prop} (hr : vx_Run p l e R s m args below meth c H locs cells slots mc ms (F0 m pc ls st0) rest (va_Qr post B A1 a) (vx_X px BX AX) free) (hS : va_S A0 H0 H locs) (hA : ∀ q, q < H.size → A1 q → A0 q) (hf : ∀ q, free q → A0 q) (hAX : ∀ q, q < H.size → AX q → A0 q)
    (kx : ∀ (E : String) (ce : Cell) (q9 : Addr) (u : SX) (t : State) (H1 : Heap) (locs1 : List Loc), t.heap = H1 → s.vm.Alike t.vm → px u → BX E u t → H.size ≤ H1.size → (∀ q : Nat, q < H.size → ¬ AX q → H1[q]? = H[q]?) → va_S A0 H0 H1 locs1 → H1[q9]? = some ce → ce.vm = .none → s.vm.findClass E = some ce.cls → vx_W p l e R s m args below meth c H1 locs1 (cells + mc) (slots + ms) Q (F0 m pc ls rest) q9)
    (kk : ∀ (u : S) (b : Nat) (t : State) (H1 : Heap) (locs1 : List Loc), t.heap = H1 → s.vm.Alike t.vm → post u → B u b t → H.size ≤ H1.size → (∀ q : Nat, q < H.size → ¬ A1 q → H1[q]? = H[q]?) → va_S A0 H0 H1 locs1 → W p l e R s m args below meth c H1 locs1 (cells + mc) (slots + ms) Q (F0 m (pc + 3) ls (.ref b :: rest))) : W p l e R s m args below meth c H locs cells slots Q (F0 m pc ls st0) := by
  intro T hT X
  rcases hr T hT X with ⟨v, st₀, t, T', L, h0, X', hL, e1, e2, ⟨⟨u, b, hv, hp, hb⟩, hF⟩, st⟩ | ⟨q, st₀, t, T', L, E, ce, h0, X', hL, e1, e2, ⟨u, hp, hb, hF⟩, hce, hcv, hcl, st⟩
  · cases hv
    obtain ⟨k1, k2, k3⟩ := vx_keep h0 e1 hS hA hf hL hF
    obtain ⟨t2, a1, b1⟩ := kk u b t T'.heap (locs ++ L) e1.symm (by rw [← e2]; exact X'.warmed.alike) hp hb k1 k2 k3 T' rfl X'
    exact ⟨t2, st t2 a1, b1⟩
  · obtain ⟨k1, k2, k3⟩ := vx_keep h0 e1 hS hAX hf hL hF
    obtain ⟨t2, a1, b1⟩ := kx E ce q u t T'.heap (locs ++ L) e1.symm (by rw [← e2]; exact X'.warmed.alike) hp hb k1 k2 k3 (by rw [e1]; exact hce) hcv hcl T' rfl X'
    exact ⟨t2, st.trans a1, b1⟩
end
def ht_tr (g : ht_G) (k : Nat) (x : Int32) : Bool := ht_on g k x && !decide (g (5 + x.toNatClampNeg) 0 = 0)
/-- a train's number -/
def ht_is (g : ht_G) (k : Nat) (x : Int32) (j : Nat) : Prop := j < k ∧ x = nI j ∧ x.toNatClampNeg = j ∧ ¬ g (5 + j) 1 = 0
theorem ht_on_is {g : ht_G} {k : Nat} (hk : k ≤ 8) {x : Int32} (h : ht_on g k x = true) : ht_is g k x x.toNatClampNeg := by
  simp only [ht_on, Bool.and_eq_true, Bool.not_eq_true', decide_eq_false_iff_not] at h
  obtain ⟨j, hjl, hxj, -, hxc, -⟩ := pk_mu h.1 h.2.1 (by omega)
  rw [hxc]
  exact ⟨hjl, hxj, hxc, by rw [← hxc]; exact h.2.2⟩
end
section
def ht_oDrive (g : ht_G) (k : Nat) (x y : Int32) : Int32 × Int32 × ht_G := if ht_tr g k x = false then (1, 0, g) else if y < 0 ∨ ¬ y ≤ 9 then (2, 0, g) else (0, g (5 + x.toNatClampNeg) 4, ht_up g (5 + x.toNatClampNeg) 4 y)
def ht_oSilence (g : ht_G) (k : Nat) (x y : Int32) : Int32 × Int32 × ht_G := if ht_tr g k x = false then (1, 0, g) else (0, if g (5 + x.toNatClampNeg) 6 = y then 0 else 1, ht_up g (5 + x.toNatClampNeg) 6 y)
def ht_oRelent (g : ht_G) (k : Nat) (x : Int32) : Int32 × Int32 × ht_G := if ht_tr g k x = false then (1, 0, g) else if ¬ g (5 + x.toNatClampNeg) 6 = 0 then (2, 0, g) else (0, g (5 + x.toNatClampNeg) 5 - g (5 + x.toNatClampNeg) 2, ht_up g (5 + x.toNatClampNeg) 5 (g (5 + x.toNatClampNeg) 2))
def ht_oConfirm (g : ht_G) (k : Nat) (x : Int32) : Int32 × Int32 × ht_G := if ht_tr g k x = false then (1, 0, g) else if ¬ g (5 + x.toNatClampNeg) 7 = 0 ∨ ¬ g (5 + x.toNatClampNeg) 10 = 0 then (2, 0, g) else (0, g (5 + x.toNatClampNeg) 3, ht_up g (5 + x.toNatClampNeg) 7 1)
def ht_oClear (g : ht_G) (k : Nat) (x : Int32) : Int32 × Int32 × ht_G := if ht_on g k x = false ∨ ¬ g (5 + x.toNatClampNeg) 0 = 0 then (1, 0, g) else (0, g (5 + x.toNatClampNeg) 3, ht_up g (5 + x.toNatClampNeg) 1 0)
def ht_oState (g : ht_G) (x : Int32) : Int32 × Int32 × ht_G := if x < 0 ∨ ¬ x < 12 then (1, 0, g) else (0, g 1 x.toNatClampNeg, g)
def ht_oDet (g : ht_G) (k : Nat) (x : Int32) : Int32 × Int32 × ht_G := if x < 0 ∨ ¬ x < 4 then (1, 0, g) else (0, ht_b (ht_det g k x), g)
set_option maxHeartbeats 4000000 in
set_option maxRecDepth 100000 in
theorem xH_existingTrain (l : Launch) (hl0 : l.stackTraces = false) (D : va_G) (cA : ClassId × ClassId) (q : Nat → Nat) (hJ : mw_J 14 q) (sz : Nat) (g : ht_G) (k : Nat) (hk : k ≤ 8) (hn : g 0 0 = nI k) (x : Int32) : vx_Met l yH_existingTrain kH_existingTrain ({ frames := 6, cells := 1, slots := 6, locals := 82 }) (va_Pc [.ref (q 0), .int x] (ht_E D cA q g sz)) (va_Qr (fun j => ht_tr g k x = true ∧ j < k ∧ x = nI j ∧ x.toNatClampNeg = j) (fun j a t => a = q (j + 6) ∧ va_P D ht_cl (ht_w cA q g) t.heap) (mw_A 14 q sz)) (vx_X (fun _ : Unit => True) (fun E _ t => va_P D ht_cl (ht_w cA q g) t.heap ∧ ht_tr g k x = false ∧ E = EN) (mw_A 14 q sz)) 1 6 (mw_A 14 q sz) := by
  refine vx_ofW (cc := cH_existingTrain) (maxL := 2) (ret := (some (.object "HybridTrack$Vehicle"))) (by decide) rfl ?_
  intro p e s m args below meth c s₁ B hml htab hv
  obtain ⟨rfl, hsz, ⟨hP, hK, hN⟩, hX, hR, hZ⟩ := hv
  have hx := B.exec
  have hb := B.bytes
  have hr := B.returns
  have hts := fun w h => atoms_spec (ws := kH_existingTrain) B.pre w (List.mem_cons_of_mem _ h)
  have hown : s.vm.findClass RH = some m.cls := findClass_of_methodNamed B.named
  have hlocks := B.notSynchronized
  subst hsz
  have hS : va_S (mw_A 14 q s.heap.size) s.heap s.heap [] := va_S.rf
  have hl := lv_entry ([.ref (q 0), .int x]) (n := 2) (Nat.le_of_ble_eq_true rfl)
  rw [lg_entry_eq]
  generalize (lg_sl ([.ref (q 0), .int x]) ++ List.replicate (2 - (lg_sl ([.ref (q 0), .int x])).length) Slot.unset).toArray = ls at hl ⊢
  have hl : lv_has ls 2 [(0, .ref (q 0)), (1, .int x)] := hl
  refine lv_aload_n hx hb dH_existingTrain_0 rfl (lv_at hl 0 rfl) ?_
  refine lv_iload_n hx hb dH_existingTrain_1 rfl (lv_at hl 1 rfl) ?_
  refine vp_callSi (va_Run.run (va_runV (As := [.int x]) (rest := []) ⟨hx, hb, hml, hown, hts⟩ (xH_isOnTrack l D cA q g k hk hn x) (cwV 1 hts (ht_gV w291 w293 s22 w1 w294) rfl rfl rfl (by decide +kernel) ⟨Nat.le_of_ble_eq_true rfl, Nat.le_of_ble_eq_true rfl⟩) ⟨ht_bl, va_recv hK hP (ci := 1) (q0 := 0) rfl ht_atO, fun U hU hW => ⟨rfl, ht_Im hP hK hN hU hW⟩⟩ rfl rfl hl.1 rfl (lv_room (Nat.le_of_ble_eq_true rfl)) dH_existingTrain_2 ⟨Nat.le_of_ble_eq_true rfl, Nat.le_of_ble_eq_true rfl⟩)) (fun r1 hr1 => ?_)
  subst hr1
  refine lv_if_eq (tgt := 20) hx hb dH_existingTrain_5 (by decide) (fun c2 => ?_) (fun c2 => ?_)
  · replace c2 := ht_b0.mp c2
    obtain ⟨sa, hsa⟩ := hR _ (List.mem_of_getElem? (i := 5) rfl)
    exact hx_throwS (Y := "java/lang/RuntimeException") (r := ["java/lang/Exception"]) (A := mw_A 14 q s.heap.size) hx hb hl0 hown (by decide) (by decide) (by decide) (hts _ w295) (hts _ w9) hsa (vx_hat (fun w h => hts w (xg_N w h)) xb_N (fun w h => va_Nw.use (ht_X.on h) (hX w h))) xo_N hZ.1 hZ.2 hS (by rw [hml]; exact hl.1) dH_existingTrain_20 dH_existingTrain_23 dH_existingTrain_24 dH_existingTrain_26 dH_existingTrain_29 (fun x hx => (htab x hx).elim) (Nat.le_of_ble_eq_true rfl) (Nat.le_of_ble_eq_true rfl) (Nat.le_of_ble_eq_true rfl) (Nat.le_of_ble_eq_true rfl) hlocks (fun t ha hz9 hk9 => ⟨(), trivial, ⟨ht_Px hP hk9, ⟨by simp [ht_tr, ht_tr, c2], rfl⟩⟩, ht_Fx hS hz9 hk9⟩) hS.2.2 (Nat.le_of_ble_eq_true rfl) (Nat.le_of_ble_eq_true rfl)
  · replace c2 := ht_b1.mp c2
    obtain ⟨hjk, hxj, -, -⟩ := ht_on_is hk c2
    obtain ⟨j, hxc⟩ : ∃ j, x.toNatClampNeg = j := ⟨_, rfl⟩
    rw [hxc] at hjk hxj
    have hj8 : j < 8 := Nat.lt_of_lt_of_le hjk hk
    refine lv_aload_n hx hb dH_existingTrain_8 rfl (lv_at hl 0 rfl) ?_
    refine va_get (D := D) (ci := 1) (C := RH) (T := TH) (N := 7) (v := .ref (q 1)) hx hb hts inH hown hK hP 0 ht_atO rfl 0 (by decide) (hts _ w77) (fun _ h9 => h9) rfl dH_existingTrain_9 ?_
    refine lv_iload_n hx hb dH_existingTrain_12 rfl (lv_at hl 1 rfl) ?_
    refine ht_ldV hx hb hK hP (j := j) hj8 hxj dH_existingTrain_13 ?_
    refine va_getN (D := D) (ci := 0) (C := RV) (T := TV) (N := 13) (v := .int (g (5 + j) 0)) hx hb hts inV hown hK hP (j + 6) (ht_atV hj8) rfl 0 (by decide) (hN.use 1 rfl rfl) (fun _ h9 => h9) rfl dH_existingTrain_14 ?_
    refine lv_if_ne (tgt := 30) hx hb dH_existingTrain_17 (by decide) (fun c3 => ?_) (fun c3 => ?_)
    · refine lv_aload_n hx hb dH_existingTrain_30 rfl (lv_at hl 0 rfl) ?_
      refine va_get (D := D) (ci := 1) (C := RH) (T := TH) (N := 7) (v := .ref (q 1)) hx hb hts inH hown hK hP 0 ht_atO rfl 0 (by decide) (hts _ w77) (fun _ h9 => h9) rfl dH_existingTrain_31 ?_
      refine lv_iload_n hx hb dH_existingTrain_34 rfl (lv_at hl 1 rfl) ?_
      refine ht_ldV hx hb hK hP (j := j) hj8 hxj dH_existingTrain_35 ?_
      exact vx_ret (W.widen (k := 1) (n := 6) (Nat.le_of_ble_eq_true rfl) (Nat.le_of_ble_eq_true rfl) (W.aret (v := .ref (q (j + 6))) hx hb hr (Or.inl ⟨_, rfl⟩) (Or.inr ⟨_, rfl⟩) (fun t ht hW => ⟨⟨j, q (j + 6), rfl, ⟨by simp [ht_tr, c2, hxc, c3], hjk, hxj, hxc⟩, rfl, by rw [ht]; exact hP⟩, hS.F ht⟩) hS.2.2 dH_existingTrain_36))
    · obtain ⟨sa, hsa⟩ := hR _ (List.mem_of_getElem? (i := 5) rfl)
      exact hx_throwS (Y := "java/lang/RuntimeException") (r := ["java/lang/Exception"]) (A := mw_A 14 q s.heap.size) hx hb hl0 hown (by decide) (by decide) (by decide) (hts _ w295) (hts _ w9) hsa (vx_hat (fun w h => hts w (xg_N w h)) xb_N (fun w h => va_Nw.use (ht_X.on h) (hX w h))) xo_N hZ.1 hZ.2 hS (by rw [hml]; exact hl.1) dH_existingTrain_20 dH_existingTrain_23 dH_existingTrain_24 dH_existingTrain_26 dH_existingTrain_29 (fun x hx => (htab x hx).elim) (Nat.le_of_ble_eq_true rfl) (Nat.le_of_ble_eq_true rfl) (Nat.le_of_ble_eq_true rfl) (Nat.le_of_ble_eq_true rfl) hlocks (fun t ha hz9 hk9 => ⟨(), trivial, ⟨ht_Px hP hk9, ⟨by simp [ht_tr, ht_tr, c2, hxc, c3], rfl⟩⟩, ht_Fx hS hz9 hk9⟩) hS.2.2 (Nat.le_of_ble_eq_true rfl) (Nat.le_of_ble_eq_true rfl)
set_option maxHeartbeats 4000000 in
set_option maxRecDepth 100000 in
theorem xH_drive (l : Launch) (hl0 : l.stackTraces = false) (D : va_G) (cA : ClassId × ClassId) (q : Nat → Nat) (hJ : mw_J 14 q) (sz : Nat) (g : ht_G) (k : Nat) (hk : k ≤ 8) (hn : g 0 0 = nI k) (x y : Int32) : vx_Met l yH_drive kH_drive ({ frames := 7, cells := 2, slots := 12, locals := 103 }) (va_Pc [.ref (q 0), .int x, .int y] (ht_E D cA q g sz)) (va_Qi (fun r (_ : Unit) => (ht_oDrive g k x y).1 = 0 ∧ r = (ht_oDrive g k x y).2.1) (fun _ t => va_P D ht_cl (ht_w cA q (ht_oDrive g k x y).2.2) t.heap) (mw_A 14 q sz)) (vx_X (fun _ : Unit => True) (fun E _ t => va_P D ht_cl (ht_w cA q g) t.heap ∧ ((ht_oDrive g k x y).1, E) ∈ [((1 : Int32), EN), ((2 : Int32), EA)]) (mw_A 14 q sz)) 2 12 (mw_A 14 q sz) := by
  refine vx_ofW (cc := cH_drive) (maxL := 5) (ret := (some .int)) (by decide) rfl ?_
  intro p e s m args below meth c s₁ B hml htab hv
  obtain ⟨rfl, hsz, ⟨hP, hK, hN⟩, hX, hR, hZ⟩ := hv
  have hx := B.exec
  have hb := B.bytes
  have hr := B.returns
  have hts := fun w h => atoms_spec (ws := kH_drive) B.pre w (List.mem_cons_of_mem _ h)
  have hown : s.vm.findClass RH = some m.cls := findClass_of_methodNamed B.named
  have hlocks := B.notSynchronized
  subst hsz
  have hS : va_S (mw_A 14 q s.heap.size) s.heap s.heap [] := va_S.rf
  have hl := lv_entry ([.ref (q 0), .int x, .int y]) (n := 5) (Nat.le_of_ble_eq_true rfl)
  rw [lg_entry_eq]
  generalize (lg_sl ([.ref (q 0), .int x, .int y]) ++ List.replicate (5 - (lg_sl ([.ref (q 0), .int x, .int y])).length) Slot.unset).toArray = ls at hl ⊢
  have hl : lv_has ls 5 [(0, .ref (q 0)), (1, .int x), (2, .int y)] := hl
  refine lv_aload_n hx hb dH_drive_0 rfl (lv_at hl 0 rfl) ?_
  refine lv_iload_n hx hb dH_drive_1 rfl (lv_at hl 1 rfl) ?_
  refine hx_callr (vx_runV (As := [.int x]) (rest := []) ⟨hx, hb, hml, hown, hts⟩ (xH_existingTrain l hl0 D cA q hJ _ g k hk hn x) (cwV 1 hts (ht_gV w287 w289 s21 w1 w290) rfl rfl rfl (by decide +kernel) ⟨Nat.le_of_ble_eq_true rfl, Nat.le_of_ble_eq_true rfl⟩) ⟨ht_ble, va_recv hK hP (ci := 1) (q0 := 0) rfl ht_atO, fun U hU hW => ⟨rfl, ht_Em hP hK hN hX hR hZ hS hU hW⟩⟩ rfl rfl hl.1 rfl (lv_room (Nat.le_of_ble_eq_true rfl)) dH_drive_2 ⟨Nat.le_of_ble_eq_true rfl, Nat.le_of_ble_eq_true rfl⟩) hS mw_AA (mw_AF hS.1) mw_AA (fun E ce q9 u t H locs ht hvm hpx hBX hz hk9 hS hce hcv hcl => ?_) (fun j b t H locs ht hvm hw hB hz hk9 hS => ?_)
  · exact vx_out (fun x hx => (htab x hx).elim) hlocks hce hcv hcl (fun t9 ht9 ha9 => ⟨(), trivial, ⟨by rw [ht9, ← ht]; exact hBX.1, by rw [hBX.2.2, show (ht_oDrive g k x y).1 = 1 by simp [ht_oDrive, hBX.2.1]]; exact List.mem_of_getElem? (i := 0) rfl⟩, hS.F ht9⟩) hS.2.2 (Nat.le_of_ble_eq_true rfl) (Nat.le_of_ble_eq_true rfl)
  obtain ⟨rfl, hP⟩ := hB
  rw [ht] at hP
  obtain ⟨hT, hjk, hxj, hxc⟩ := hw
  have hj8 : j < 8 := Nat.lt_of_lt_of_le hjk hk
  refine lv_astore_n (lv' := [(3, .ref (q (j + 6))), (0, .ref (q 0)), (1, .int x), (2, .int y)]) hx hb dH_drive_5 rfl hl (by decide) rfl (fun ls hl => ?_)
  refine lv_iload_n hx hb dH_drive_6 rfl (lv_at hl 3 rfl) ?_
  refine lv_if_lt (tgt := 16) hx hb dH_drive_7 (by decide) (fun c1 => ?_) (fun c1 => ?_)
  · obtain ⟨sa, hsa⟩ := hR _ (List.mem_of_getElem? (i := 6) rfl)
    exact vx_throwS (names := ht_nm) (A := mw_A 14 q s.heap.size) hx hb hl0 hown (by decide) (by decide) (hts _ w108) (hts _ w7) hsa (vx_hat (fun w h => hts w (xg_A w h)) xb_A (fun w h => va_Nw.use (ht_X.on h) (hX w h))) xo_A hZ.1 hZ.2 hS (by rw [hml]; exact hl.1) dH_drive_16 dH_drive_19 dH_drive_20 dH_drive_22 dH_drive_25 (fun x hx => (htab x hx).elim) (Nat.le_of_ble_eq_true rfl) (Nat.le_of_ble_eq_true rfl) (Nat.le_of_ble_eq_true rfl) (Nat.le_of_ble_eq_true rfl) hlocks (fun t ha hz9 hk9 => ⟨(), trivial, ⟨ht_Px hP hk9, by rw [show (ht_oDrive g k x y).1 = 2 by simp [ht_oDrive, hT, hxc, c1]]; exact List.mem_of_getElem? (i := 1) rfl⟩, ht_Fx hS hz9 hk9⟩) hS.2.2 (Nat.le_of_ble_eq_true rfl) (Nat.le_of_ble_eq_true rfl)
  · refine lv_iload_n hx hb dH_drive_10 rfl (lv_at hl 3 rfl) ?_
    refine lv_bipush (v := 9) hx hb dH_drive_11 (by decide) ?_
    refine lv_icmp_le (tgt := 26) hx hb dH_drive_13 (by decide) (fun c2 => ?_) (fun c2 => ?_)
    · refine lv_aload_n hx hb dH_drive_26 rfl (lv_at hl 0 rfl) ?_
      refine va_getN (D := D) (ci := 0) (C := RV) (T := TV) (N := 13) (v := .int (g (5 + j) 4)) hx hb hts inV hown hK hP (j + 6) (ht_atV hj8) rfl 4 (by decide) (hN.use 5 rfl rfl) (fun _ h9 => h9) rfl dH_drive_27 ?_
      refine lv_istore (lv' := [(4, .int (g (5 + j) 4)), (3, .ref (q (j + 6))), (0, .ref (q 0)), (1, .int x), (2, .int y)]) hx hb dH_drive_30 hl (by decide) rfl (fun ls hl => ?_)
      refine lv_aload_n hx hb dH_drive_32 rfl (lv_at hl 1 rfl) ?_
      refine lv_iload_n hx hb dH_drive_33 rfl (lv_at hl 4 rfl) ?_
      refine va_putN (D := D) (ci := 0) (C := RV) (T := TV) (N := 13) (v := .int y) (ty := .int) hx hb hts inV tyV tyV_ok nmV hown hK hP (mw_DA hJ) hS (j + 6) (ht_atV hj8) rfl 4 (by decide) (hN.use 5 rfl rfl) (fun _ h9 => h9) rfl rfl rfl rfl (Nat.le_of_ble_eq_true rfl) dH_drive_34 (fun H locs hP _ hS => ?_)
      rw [ht_stV hj8 (by decide)] at hP
      obtain ⟨g3, eg3⟩ : ∃ y9 : ht_G, y9 = ht_up g (5 + j) 4 y := ⟨_, rfl⟩
      rw [← eg3] at hP
      refine lv_iload hx hb dH_drive_37 (lv_at hl 0 rfl) ?_
      have hG : g3 = (ht_oDrive g k x y).2.2 := by subst eg3; simp [ht_oDrive, hT, hxc, c1, c2]
      have hC : (ht_oDrive g k x y).1 = 0 := by simp [ht_oDrive, hT, hxc, c1, c2]
      have hV : g (5 + j) 4 = (ht_oDrive g k x y).2.1 := by subst eg3; simp [ht_oDrive, hT, hxc, c1, c2, ht_up]
      rw [hG] at hP
      exact vx_ret (W.widen (k := 2) (n := 12) (Nat.le_of_ble_eq_true rfl) (Nat.le_of_ble_eq_true rfl) (W.iret (v := g (5 + j) 4) hx hb hr (fun t ht hW => ⟨⟨g (5 + j) 4, (), rfl, ⟨hC, hV⟩, by show va_P D ht_cl (ht_w cA q (ht_oDrive g k x y).2.2) t.heap; rw [ht]; exact hP⟩, hS.F ht⟩) hS.2.2 dH_drive_39))
    · obtain ⟨sa, hsa⟩ := hR _ (List.mem_of_getElem? (i := 6) rfl)
      exact vx_throwS (names := ht_nm) (A := mw_A 14 q s.heap.size) hx hb hl0 hown (by decide) (by decide) (hts _ w108) (hts _ w7) hsa (vx_hat (fun w h => hts w (xg_A w h)) xb_A (fun w h => va_Nw.use (ht_X.on h) (hX w h))) xo_A hZ.1 hZ.2 hS (by rw [hml]; exact hl.1) dH_drive_16 dH_drive_19 dH_drive_20 dH_drive_22 dH_drive_25 (fun x hx => (htab x hx).elim) (Nat.le_of_ble_eq_true rfl) (Nat.le_of_ble_eq_true rfl) (Nat.le_of_ble_eq_true rfl) (Nat.le_of_ble_eq_true rfl) hlocks (fun t ha hz9 hk9 => ⟨(), trivial, ⟨ht_Px hP hk9, by rw [show (ht_oDrive g k x y).1 = 2 by simp [ht_oDrive, hT, hxc, c1, c2]]; exact List.mem_of_getElem? (i := 1) rfl⟩, ht_Fx hS hz9 hk9⟩) hS.2.2 (Nat.le_of_ble_eq_true rfl) (Nat.le_of_ble_eq_true rfl)
set_option maxHeartbeats 4000000 in
set_option maxRecDepth 100000 in
theorem xH_silence (l : Launch) (hl0 : l.stackTraces = false) (D : va_G) (cA : ClassId × ClassId) (q : Nat → Nat) (hJ : mw_J 14 q) (sz : Nat) (g : ht_G) (k : Nat) (hk : k ≤ 8) (hn : g 0 0 = nI k) (x y : Int32) (hy : y = 0 ∨ y = 1) : vx_Met l yH_silence kH_silence ({ frames := 7, cells := 2, slots := 12, locals := 103 }) (va_Pc [.ref (q 0), .int x, .int y] (ht_E D cA q g sz)) (va_Qi (fun r (_ : Unit) => (ht_oSilence g k x y).1 = 0 ∧ r = (ht_oSilence g k x y).2.1) (fun _ t => va_P D ht_cl (ht_w cA q (ht_oSilence g k x y).2.2) t.heap) (mw_A 14 q sz)) (vx_X (fun _ : Unit => True) (fun E _ t => va_P D ht_cl (ht_w cA q g) t.heap ∧ ((ht_oSilence g k x y).1, E) ∈ [((1 : Int32), EN)]) (mw_A 14 q sz)) 2 12 (mw_A 14 q sz) := by
  refine vx_ofW (cc := cH_silence) (maxL := 5) (ret := (some .int)) (by decide) rfl ?_
  intro p e s m args below meth c s₁ B hml htab hv
  obtain ⟨rfl, hsz, ⟨hP, hK, hN⟩, hX, hR, hZ⟩ := hv
  have hx := B.exec
  have hb := B.bytes
  have hr := B.returns
  have hts := fun w h => atoms_spec (ws := kH_silence) B.pre w (List.mem_cons_of_mem _ h)
  have hown : s.vm.findClass RH = some m.cls := findClass_of_methodNamed B.named
  have hlocks := B.notSynchronized
  subst hsz
  have hS : va_S (mw_A 14 q s.heap.size) s.heap s.heap [] := va_S.rf
  have hl := lv_entry ([.ref (q 0), .int x, .int y]) (n := 5) (Nat.le_of_ble_eq_true rfl)
  rw [lg_entry_eq]
  generalize (lg_sl ([.ref (q 0), .int x, .int y]) ++ List.replicate (5 - (lg_sl ([.ref (q 0), .int x, .int y])).length) Slot.unset).toArray = ls at hl ⊢
  have hl : lv_has ls 5 [(0, .ref (q 0)), (1, .int x), (2, .int y)] := hl
  refine lv_aload_n hx hb dH_silence_0 rfl (lv_at hl 0 rfl) ?_
  refine lv_iload_n hx hb dH_silence_1 rfl (lv_at hl 1 rfl) ?_
  refine hx_callr (vx_runV (As := [.int x]) (rest := []) ⟨hx, hb, hml, hown, hts⟩ (xH_existingTrain l hl0 D cA q hJ _ g k hk hn x) (cwV 1 hts (ht_gV w287 w289 s21 w1 w290) rfl rfl rfl (by decide +kernel) ⟨Nat.le_of_ble_eq_true rfl, Nat.le_of_ble_eq_true rfl⟩) ⟨ht_ble, va_recv hK hP (ci := 1) (q0 := 0) rfl ht_atO, fun U hU hW => ⟨rfl, ht_Em hP hK hN hX hR hZ hS hU hW⟩⟩ rfl rfl hl.1 rfl (lv_room (Nat.le_of_ble_eq_true rfl)) dH_silence_2 ⟨Nat.le_of_ble_eq_true rfl, Nat.le_of_ble_eq_true rfl⟩) hS mw_AA (mw_AF hS.1) mw_AA (fun E ce q9 u t H locs ht hvm hpx hBX hz hk9 hS hce hcv hcl => ?_) (fun j b t H locs ht hvm hw hB hz hk9 hS => ?_)
  · exact vx_out (fun x hx => (htab x hx).elim) hlocks hce hcv hcl (fun t9 ht9 ha9 => ⟨(), trivial, ⟨by rw [ht9, ← ht]; exact hBX.1, by rw [hBX.2.2, show (ht_oSilence g k x y).1 = 1 by simp [ht_oSilence, hBX.2.1]]; exact List.mem_of_getElem? (i := 0) rfl⟩, hS.F ht9⟩) hS.2.2 (Nat.le_of_ble_eq_true rfl) (Nat.le_of_ble_eq_true rfl)
  obtain ⟨rfl, hP⟩ := hB
  rw [ht] at hP
  obtain ⟨hT, hjk, hxj, hxc⟩ := hw
  have hj8 : j < 8 := Nat.lt_of_lt_of_le hjk hk
  refine lv_astore_n (lv' := [(3, .ref (q (j + 6))), (0, .ref (q 0)), (1, .int x), (2, .int y)]) hx hb dH_silence_5 rfl hl (by decide) rfl (fun ls hl => ?_)
  refine lv_aload_n hx hb dH_silence_6 rfl (lv_at hl 0 rfl) ?_
  refine va_getN (D := D) (ci := 0) (C := RV) (T := TV) (N := 13) (v := .int (g (5 + j) 6)) hx hb hts inV hown hK hP (j + 6) (ht_atV hj8) rfl 6 (by decide) (hN.use 7 rfl rfl) (fun _ h9 => h9) rfl dH_silence_7 ?_
  refine lv_iload_n hx hb dH_silence_10 rfl (lv_at hl 3 rfl) ?_
  refine lv_icmp_eq (tgt := 18) hx hb dH_silence_11 (by decide) (fun c1 => ?_) (fun c1 => ?_)
  · refine lv_iconst (v := 0) hx hb dH_silence_18 (by decide) ?_
    refine lv_istore (lv' := [(4, .int 0), (3, .ref (q (j + 6))), (0, .ref (q 0)), (1, .int x), (2, .int y)]) hx hb dH_silence_19 hl (by decide) rfl (fun ls hl => ?_)
    refine lv_aload_n hx hb dH_silence_21 rfl (lv_at hl 1 rfl) ?_
    refine lv_iload_n hx hb dH_silence_22 rfl (lv_at hl 4 rfl) ?_
    refine va_putN (D := D) (ci := 0) (C := RV) (T := TV) (N := 13) (v := .int y) (ty := .boolean) hx hb hts inV tyV tyV_ok nmV hown hK hP (mw_DA hJ) hS (j + 6) (ht_atV hj8) rfl 6 (by decide) (hN.use 7 rfl rfl) (fun _ h9 => h9) rfl rfl (ht_n01 hy) (ht_f01 hy) (Nat.le_of_ble_eq_true rfl) dH_silence_23 (fun H locs hP _ hS => ?_)
    rw [ht_stV hj8 (by decide)] at hP
    obtain ⟨g2, eg2⟩ : ∃ y9 : ht_G, y9 = ht_up g (5 + j) 6 y := ⟨_, rfl⟩
    rw [← eg2] at hP
    refine lv_iload hx hb dH_silence_26 (lv_at hl 0 rfl) ?_
    refine lv_if_eq (tgt := 35) hx hb dH_silence_28 (by decide) (fun c3 => ?_) (fun c3 => ?_)
    · refine lv_iconst (v := 0) hx hb dH_silence_35 (by decide) ?_
      have hG : g2 = (ht_oSilence g k x y).2.2 := by subst eg2; simp [ht_oSilence, hT, hxc, c1]
      have hC : (ht_oSilence g k x y).1 = 0 := by simp [ht_oSilence, hT, hxc, c1]
      have hV : 0 = (ht_oSilence g k x y).2.1 := by subst eg2; simp [ht_oSilence, hT, hxc, c1, ht_up]
      rw [hG] at hP
      exact vx_ret (W.widen (k := 2) (n := 12) (Nat.le_of_ble_eq_true rfl) (Nat.le_of_ble_eq_true rfl) (W.iret (v := 0) hx hb hr (fun t ht hW => ⟨⟨0, (), rfl, ⟨hC, hV⟩, by show va_P D ht_cl (ht_w cA q (ht_oSilence g k x y).2.2) t.heap; rw [ht]; exact hP⟩, hS.F ht⟩) hS.2.2 dH_silence_36))
    · exact absurd c3 (by decide)
  · refine lv_iconst (v := 1) hx hb dH_silence_14 (by decide) ?_
    refine lv_goto (tgt := 19) hx hb dH_silence_15 (by decide) ?_
    refine lv_istore (lv' := [(4, .int 1), (3, .ref (q (j + 6))), (0, .ref (q 0)), (1, .int x), (2, .int y)]) hx hb dH_silence_19 hl (by decide) rfl (fun ls hl => ?_)
    refine lv_aload_n hx hb dH_silence_21 rfl (lv_at hl 1 rfl) ?_
    refine lv_iload_n hx hb dH_silence_22 rfl (lv_at hl 4 rfl) ?_
    refine va_putN (D := D) (ci := 0) (C := RV) (T := TV) (N := 13) (v := .int y) (ty := .boolean) hx hb hts inV tyV tyV_ok nmV hown hK hP (mw_DA hJ) hS (j + 6) (ht_atV hj8) rfl 6 (by decide) (hN.use 7 rfl rfl) (fun _ h9 => h9) rfl rfl (ht_n01 hy) (ht_f01 hy) (Nat.le_of_ble_eq_true rfl) dH_silence_23 (fun H locs hP _ hS => ?_)
    rw [ht_stV hj8 (by decide)] at hP
    obtain ⟨g4, eg4⟩ : ∃ y9 : ht_G, y9 = ht_up g (5 + j) 6 y := ⟨_, rfl⟩
    rw [← eg4] at hP
    refine lv_iload hx hb dH_silence_26 (lv_at hl 0 rfl) ?_
    refine lv_if_eq (tgt := 35) hx hb dH_silence_28 (by decide) (fun c5 => ?_) (fun c5 => ?_)
    · exact absurd c5 (by decide)
    · refine lv_iconst (v := 1) hx hb dH_silence_31 (by decide) ?_
      refine lv_goto (tgt := 36) hx hb dH_silence_32 (by decide) ?_
      have hG : g4 = (ht_oSilence g k x y).2.2 := by subst eg4; simp [ht_oSilence, hT, hxc, c1]
      have hC : (ht_oSilence g k x y).1 = 0 := by simp [ht_oSilence, hT, hxc, c1]
      have hV : 1 = (ht_oSilence g k x y).2.1 := by subst eg4; simp [ht_oSilence, hT, hxc, c1, ht_up]
      rw [hG] at hP
      exact vx_ret (W.widen (k := 2) (n := 12) (Nat.le_of_ble_eq_true rfl) (Nat.le_of_ble_eq_true rfl) (W.iret (v := 1) hx hb hr (fun t ht hW => ⟨⟨1, (), rfl, ⟨hC, hV⟩, by show va_P D ht_cl (ht_w cA q (ht_oSilence g k x y).2.2) t.heap; rw [ht]; exact hP⟩, hS.F ht⟩) hS.2.2 dH_silence_36))
set_option maxHeartbeats 4000000 in
set_option maxRecDepth 100000 in
theorem xH_relent (l : Launch) (hl0 : l.stackTraces = false) (D : va_G) (cA : ClassId × ClassId) (q : Nat → Nat) (hJ : mw_J 14 q) (sz : Nat) (g : ht_G) (k : Nat) (hk : k ≤ 8) (hn : g 0 0 = nI k) (x : Int32) : vx_Met l yH_relent kH_relent ({ frames := 7, cells := 2, slots := 12, locals := 103 }) (va_Pc [.ref (q 0), .int x] (ht_E D cA q g sz)) (va_Qi (fun r (_ : Unit) => (ht_oRelent g k x).1 = 0 ∧ r = (ht_oRelent g k x).2.1) (fun _ t => va_P D ht_cl (ht_w cA q (ht_oRelent g k x).2.2) t.heap) (mw_A 14 q sz)) (vx_X (fun _ : Unit => True) (fun E _ t => va_P D ht_cl (ht_w cA q g) t.heap ∧ ((ht_oRelent g k x).1, E) ∈ [((1 : Int32), EN), ((2 : Int32), ES)]) (mw_A 14 q sz)) 2 12 (mw_A 14 q sz) := by
  refine vx_ofW (cc := cH_relent) (maxL := 4) (ret := (some .int)) (by decide) rfl ?_
  intro p e s m args below meth c s₁ B hml htab hv
  obtain ⟨rfl, hsz, ⟨hP, hK, hN⟩, hX, hR, hZ⟩ := hv
  have hx := B.exec
  have hb := B.bytes
  have hr := B.returns
  have hts := fun w h => atoms_spec (ws := kH_relent) B.pre w (List.mem_cons_of_mem _ h)
  have hown : s.vm.findClass RH = some m.cls := findClass_of_methodNamed B.named
  have hlocks := B.notSynchronized
  subst hsz
  have hS : va_S (mw_A 14 q s.heap.size) s.heap s.heap [] := va_S.rf
  have hl := lv_entry ([.ref (q 0), .int x]) (n := 4) (Nat.le_of_ble_eq_true rfl)
  rw [lg_entry_eq]
  generalize (lg_sl ([.ref (q 0), .int x]) ++ List.replicate (4 - (lg_sl ([.ref (q 0), .int x])).length) Slot.unset).toArray = ls at hl ⊢
  have hl : lv_has ls 4 [(0, .ref (q 0)), (1, .int x)] := hl
  refine lv_aload_n hx hb dH_relent_0 rfl (lv_at hl 0 rfl) ?_
  refine lv_iload_n hx hb dH_relent_1 rfl (lv_at hl 1 rfl) ?_
  refine hx_callr (vx_runV (As := [.int x]) (rest := []) ⟨hx, hb, hml, hown, hts⟩ (xH_existingTrain l hl0 D cA q hJ _ g k hk hn x) (cwV 1 hts (ht_gV w287 w289 s21 w1 w290) rfl rfl rfl (by decide +kernel) ⟨Nat.le_of_ble_eq_true rfl, Nat.le_of_ble_eq_true rfl⟩) ⟨ht_ble, va_recv hK hP (ci := 1) (q0 := 0) rfl ht_atO, fun U hU hW => ⟨rfl, ht_Em hP hK hN hX hR hZ hS hU hW⟩⟩ rfl rfl hl.1 rfl (lv_room (Nat.le_of_ble_eq_true rfl)) dH_relent_2 ⟨Nat.le_of_ble_eq_true rfl, Nat.le_of_ble_eq_true rfl⟩) hS mw_AA (mw_AF hS.1) mw_AA (fun E ce q9 u t H locs ht hvm hpx hBX hz hk9 hS hce hcv hcl => ?_) (fun j b t H locs ht hvm hw hB hz hk9 hS => ?_)
  · exact vx_out (fun x hx => (htab x hx).elim) hlocks hce hcv hcl (fun t9 ht9 ha9 => ⟨(), trivial, ⟨by rw [ht9, ← ht]; exact hBX.1, by rw [hBX.2.2, show (ht_oRelent g k x).1 = 1 by simp [ht_oRelent, hBX.2.1]]; exact List.mem_of_getElem? (i := 0) rfl⟩, hS.F ht9⟩) hS.2.2 (Nat.le_of_ble_eq_true rfl) (Nat.le_of_ble_eq_true rfl)
  obtain ⟨rfl, hP⟩ := hB
  rw [ht] at hP
  obtain ⟨hT, hjk, hxj, hxc⟩ := hw
  have hj8 : j < 8 := Nat.lt_of_lt_of_le hjk hk
  refine lv_astore_n (lv' := [(2, .ref (q (j + 6))), (0, .ref (q 0)), (1, .int x)]) hx hb dH_relent_5 rfl hl (by decide) rfl (fun ls hl => ?_)
  refine lv_aload_n hx hb dH_relent_6 rfl (lv_at hl 0 rfl) ?_
  refine va_getN (D := D) (ci := 0) (C := RV) (T := TV) (N := 13) (v := .int (g (5 + j) 6)) hx hb hts inV hown hK hP (j + 6) (ht_atV hj8) rfl 6 (by decide) (hN.use 7 rfl rfl) (fun _ h9 => h9) rfl dH_relent_7 ?_
  refine lv_if_eq (tgt := 23) hx hb dH_relent_10 (by decide) (fun c1 => ?_) (fun c1 => ?_)
  · refine lv_aload_n hx hb dH_relent_23 rfl (lv_at hl 0 rfl) ?_
    refine va_getN (D := D) (ci := 0) (C := RV) (T := TV) (N := 13) (v := .int (g (5 + j) 5)) hx hb hts inV hown hK hP (j + 6) (ht_atV hj8) rfl 5 (by decide) (hN.use 6 rfl rfl) (fun _ h9 => h9) rfl dH_relent_24 ?_
    refine lv_aload_n hx hb dH_relent_27 rfl (lv_at hl 0 rfl) ?_
    refine va_getN (D := D) (ci := 0) (C := RV) (T := TV) (N := 13) (v := .int (g (5 + j) 2)) hx hb hts inV hown hK hP (j + 6) (ht_atV hj8) rfl 2 (by decide) (hN.use 3 rfl rfl) (fun _ h9 => h9) rfl dH_relent_28 ?_
    refine lv_isub hx hb dH_relent_31 ?_
    refine lv_istore_n (lv' := [(3, .int ((g (5 + j) 5) - (g (5 + j) 2))), (2, .ref (q (j + 6))), (0, .ref (q 0)), (1, .int x)]) hx hb dH_relent_32 rfl hl (by decide) rfl (fun ls hl => ?_)
    refine lv_aload_n hx hb dH_relent_33 rfl (lv_at hl 1 rfl) ?_
    refine lv_aload_n hx hb dH_relent_34 rfl (lv_at hl 1 rfl) ?_
    refine va_getN (D := D) (ci := 0) (C := RV) (T := TV) (N := 13) (v := .int (g (5 + j) 2)) hx hb hts inV hown hK hP (j + 6) (ht_atV hj8) rfl 2 (by decide) (hN.use 3 rfl rfl) (fun _ h9 => h9) rfl dH_relent_35 ?_
    refine va_putN (D := D) (ci := 0) (C := RV) (T := TV) (N := 13) (v := .int (g (5 + j) 2)) (ty := .int) hx hb hts inV tyV tyV_ok nmV hown hK hP (mw_DA hJ) hS (j + 6) (ht_atV hj8) rfl 5 (by decide) (hN.use 6 rfl rfl) (fun _ h9 => h9) rfl rfl rfl rfl (Nat.le_of_ble_eq_true rfl) dH_relent_38 (fun H locs hP _ hS => ?_)
    rw [ht_stV hj8 (by decide)] at hP
    obtain ⟨g2, eg2⟩ : ∃ y9 : ht_G, y9 = ht_up g (5 + j) 5 (g (5 + j) 2) := ⟨_, rfl⟩
    rw [← eg2] at hP
    refine lv_iload_n hx hb dH_relent_41 rfl (lv_at hl 0 rfl) ?_
    have hG : g2 = (ht_oRelent g k x).2.2 := by subst eg2; simp [ht_oRelent, hT, hxc, c1]
    have hC : (ht_oRelent g k x).1 = 0 := by simp [ht_oRelent, hT, hxc, c1]
    have hV : (g (5 + j) 5) - (g (5 + j) 2) = (ht_oRelent g k x).2.1 := by subst eg2; simp [ht_oRelent, hT, hxc, c1, ht_up]
    rw [hG] at hP
    exact vx_ret (W.widen (k := 2) (n := 12) (Nat.le_of_ble_eq_true rfl) (Nat.le_of_ble_eq_true rfl) (W.iret (v := (g (5 + j) 5) - (g (5 + j) 2)) hx hb hr (fun t ht hW => ⟨⟨(g (5 + j) 5) - (g (5 + j) 2), (), rfl, ⟨hC, hV⟩, by show va_P D ht_cl (ht_w cA q (ht_oRelent g k x).2.2) t.heap; rw [ht]; exact hP⟩, hS.F ht⟩) hS.2.2 dH_relent_42))
  · obtain ⟨sa, hsa⟩ := hR _ (List.mem_of_getElem? (i := 8) rfl)
    exact vx_throwS (names := ht_nm) (A := mw_A 14 q s.heap.size) hx hb hl0 hown (by decide) (by decide) (hts _ w177) (hts _ w8) hsa (vx_hat (fun w h => hts w (xg_S w h)) xb_S (fun w h => va_Nw.use (ht_X.on h) (hX w h))) xo_S hZ.1 hZ.2 hS (by rw [hml]; exact hl.1) dH_relent_13 dH_relent_16 dH_relent_17 dH_relent_19 dH_relent_22 (fun x hx => (htab x hx).elim) (Nat.le_of_ble_eq_true rfl) (Nat.le_of_ble_eq_true rfl) (Nat.le_of_ble_eq_true rfl) (Nat.le_of_ble_eq_true rfl) hlocks (fun t ha hz9 hk9 => ⟨(), trivial, ⟨ht_Px hP hk9, by rw [show (ht_oRelent g k x).1 = 2 by simp [ht_oRelent, hT, hxc, c1]]; exact List.mem_of_getElem? (i := 1) rfl⟩, ht_Fx hS hz9 hk9⟩) hS.2.2 (Nat.le_of_ble_eq_true rfl) (Nat.le_of_ble_eq_true rfl)
set_option maxHeartbeats 4000000 in
set_option maxRecDepth 100000 in
theorem xH_confirm (l : Launch) (hl0 : l.stackTraces = false) (D : va_G) (cA : ClassId × ClassId) (q : Nat → Nat) (hJ : mw_J 14 q) (sz : Nat) (g : ht_G) (k : Nat) (hk : k ≤ 8) (hn : g 0 0 = nI k) (x : Int32) : vx_Met l yH_confirm kH_confirm ({ frames := 7, cells := 2, slots := 12, locals := 103 }) (va_Pc [.ref (q 0), .int x] (ht_E D cA q g sz)) (va_Qi (fun r (_ : Unit) => (ht_oConfirm g k x).1 = 0 ∧ r = (ht_oConfirm g k x).2.1) (fun _ t => va_P D ht_cl (ht_w cA q (ht_oConfirm g k x).2.2) t.heap) (mw_A 14 q sz)) (vx_X (fun _ : Unit => True) (fun E _ t => va_P D ht_cl (ht_w cA q g) t.heap ∧ ((ht_oConfirm g k x).1, E) ∈ [((1 : Int32), EN), ((2 : Int32), ES)]) (mw_A 14 q sz)) 2 12 (mw_A 14 q sz) := by
  refine vx_ofW (cc := cH_confirm) (maxL := 3) (ret := (some .int)) (by decide) rfl ?_
  intro p e s m args below meth c s₁ B hml htab hv
  obtain ⟨rfl, hsz, ⟨hP, hK, hN⟩, hX, hR, hZ⟩ := hv
  have hx := B.exec
  have hb := B.bytes
  have hr := B.returns
  have hts := fun w h => atoms_spec (ws := kH_confirm) B.pre w (List.mem_cons_of_mem _ h)
  have hown : s.vm.findClass RH = some m.cls := findClass_of_methodNamed B.named
  have hlocks := B.notSynchronized
  subst hsz
  have hS : va_S (mw_A 14 q s.heap.size) s.heap s.heap [] := va_S.rf
  have hl := lv_entry ([.ref (q 0), .int x]) (n := 3) (Nat.le_of_ble_eq_true rfl)
  rw [lg_entry_eq]
  generalize (lg_sl ([.ref (q 0), .int x]) ++ List.replicate (3 - (lg_sl ([.ref (q 0), .int x])).length) Slot.unset).toArray = ls at hl ⊢
  have hl : lv_has ls 3 [(0, .ref (q 0)), (1, .int x)] := hl
  refine lv_aload_n hx hb dH_confirm_0 rfl (lv_at hl 0 rfl) ?_
  refine lv_iload_n hx hb dH_confirm_1 rfl (lv_at hl 1 rfl) ?_
  refine hx_callr (vx_runV (As := [.int x]) (rest := []) ⟨hx, hb, hml, hown, hts⟩ (xH_existingTrain l hl0 D cA q hJ _ g k hk hn x) (cwV 1 hts (ht_gV w287 w289 s21 w1 w290) rfl rfl rfl (by decide +kernel) ⟨Nat.le_of_ble_eq_true rfl, Nat.le_of_ble_eq_true rfl⟩) ⟨ht_ble, va_recv hK hP (ci := 1) (q0 := 0) rfl ht_atO, fun U hU hW => ⟨rfl, ht_Em hP hK hN hX hR hZ hS hU hW⟩⟩ rfl rfl hl.1 rfl (lv_room (Nat.le_of_ble_eq_true rfl)) dH_confirm_2 ⟨Nat.le_of_ble_eq_true rfl, Nat.le_of_ble_eq_true rfl⟩) hS mw_AA (mw_AF hS.1) mw_AA (fun E ce q9 u t H locs ht hvm hpx hBX hz hk9 hS hce hcv hcl => ?_) (fun j b t H locs ht hvm hw hB hz hk9 hS => ?_)
  · exact vx_out (fun x hx => (htab x hx).elim) hlocks hce hcv hcl (fun t9 ht9 ha9 => ⟨(), trivial, ⟨by rw [ht9, ← ht]; exact hBX.1, by rw [hBX.2.2, show (ht_oConfirm g k x).1 = 1 by simp [ht_oConfirm, hBX.2.1]]; exact List.mem_of_getElem? (i := 0) rfl⟩, hS.F ht9⟩) hS.2.2 (Nat.le_of_ble_eq_true rfl) (Nat.le_of_ble_eq_true rfl)
  obtain ⟨rfl, hP⟩ := hB
  rw [ht] at hP
  obtain ⟨hT, hjk, hxj, hxc⟩ := hw
  have hj8 : j < 8 := Nat.lt_of_lt_of_le hjk hk
  refine lv_astore_n (lv' := [(2, .ref (q (j + 6))), (0, .ref (q 0)), (1, .int x)]) hx hb dH_confirm_5 rfl hl (by decide) rfl (fun ls hl => ?_)
  refine lv_aload_n hx hb dH_confirm_6 rfl (lv_at hl 0 rfl) ?_
  refine va_getN (D := D) (ci := 0) (C := RV) (T := TV) (N := 13) (v := .int (g (5 + j) 7)) hx hb hts inV hown hK hP (j + 6) (ht_atV hj8) rfl 7 (by decide) (hN.use 8 rfl rfl) (fun _ h9 => h9) rfl dH_confirm_7 ?_
  refine lv_if_ne (tgt := 20) hx hb dH_confirm_10 (by decide) (fun c1 => ?_) (fun c1 => ?_)
  · obtain ⟨sa, hsa⟩ := hR _ (List.mem_of_getElem? (i := 10) rfl)
    exact vx_throwS (names := ht_nm) (A := mw_A 14 q s.heap.size) hx hb hl0 hown (by decide) (by decide) (hts _ w177) (hts _ w8) hsa (vx_hat (fun w h => hts w (xg_S w h)) xb_S (fun w h => va_Nw.use (ht_X.on h) (hX w h))) xo_S hZ.1 hZ.2 hS (by rw [hml]; exact hl.1) dH_confirm_20 dH_confirm_23 dH_confirm_24 dH_confirm_26 dH_confirm_29 (fun x hx => (htab x hx).elim) (Nat.le_of_ble_eq_true rfl) (Nat.le_of_ble_eq_true rfl) (Nat.le_of_ble_eq_true rfl) (Nat.le_of_ble_eq_true rfl) hlocks (fun t ha hz9 hk9 => ⟨(), trivial, ⟨ht_Px hP hk9, by rw [show (ht_oConfirm g k x).1 = 2 by simp [ht_oConfirm, hT, hxc, c1]]; exact List.mem_of_getElem? (i := 1) rfl⟩, ht_Fx hS hz9 hk9⟩) hS.2.2 (Nat.le_of_ble_eq_true rfl) (Nat.le_of_ble_eq_true rfl)
  · refine lv_aload_n hx hb dH_confirm_13 rfl (lv_at hl 0 rfl) ?_
    refine va_getN (D := D) (ci := 0) (C := RV) (T := TV) (N := 13) (v := .int (g (5 + j) 10)) hx hb hts inV hown hK hP (j + 6) (ht_atV hj8) rfl 10 (by decide) (hN.use 11 rfl rfl) (fun _ h9 => h9) rfl dH_confirm_14 ?_
    refine lv_if_eq (tgt := 30) hx hb dH_confirm_17 (by decide) (fun c2 => ?_) (fun c2 => ?_)
    · refine lv_aload_n hx hb dH_confirm_30 rfl (lv_at hl 0 rfl) ?_
      refine lv_iconst (v := 1) hx hb dH_confirm_31 (by decide) ?_
      refine va_putN (D := D) (ci := 0) (C := RV) (T := TV) (N := 13) (v := .int 1) (ty := .boolean) hx hb hts inV tyV tyV_ok nmV hown hK hP (mw_DA hJ) hS (j + 6) (ht_atV hj8) rfl 7 (by decide) (hN.use 8 rfl rfl) (fun _ h9 => h9) rfl rfl rfl rfl (Nat.le_of_ble_eq_true rfl) dH_confirm_32 (fun H locs hP _ hS => ?_)
      rw [ht_stV hj8 (by decide)] at hP
      obtain ⟨g3, eg3⟩ : ∃ y9 : ht_G, y9 = ht_up g (5 + j) 7 1 := ⟨_, rfl⟩
      rw [← eg3] at hP
      refine lv_aload_n hx hb dH_confirm_35 rfl (lv_at hl 0 rfl) ?_
      refine va_getN (D := D) (ci := 0) (C := RV) (T := TV) (N := 13) (v := .int (g3 (5 + j) 3)) hx hb hts inV hown hK hP (j + 6) (ht_atV hj8) rfl 3 (by decide) (hN.use 4 rfl rfl) (fun _ h9 => h9) rfl dH_confirm_36 ?_
      have hG : g3 = (ht_oConfirm g k x).2.2 := by subst eg3; simp [ht_oConfirm, hT, hxc, c1, c2]
      have hC : (ht_oConfirm g k x).1 = 0 := by simp [ht_oConfirm, hT, hxc, c1, c2]
      have hV : g3 (5 + j) 3 = (ht_oConfirm g k x).2.1 := by subst eg3; simp [ht_oConfirm, hT, hxc, c1, c2, ht_up]
      rw [hG] at hP
      exact vx_ret (W.widen (k := 2) (n := 12) (Nat.le_of_ble_eq_true rfl) (Nat.le_of_ble_eq_true rfl) (W.iret (v := g3 (5 + j) 3) hx hb hr (fun t ht hW => ⟨⟨g3 (5 + j) 3, (), rfl, ⟨hC, hV⟩, by show va_P D ht_cl (ht_w cA q (ht_oConfirm g k x).2.2) t.heap; rw [ht]; exact hP⟩, hS.F ht⟩) hS.2.2 dH_confirm_39))
    · obtain ⟨sa, hsa⟩ := hR _ (List.mem_of_getElem? (i := 10) rfl)
      exact vx_throwS (names := ht_nm) (A := mw_A 14 q s.heap.size) hx hb hl0 hown (by decide) (by decide) (hts _ w177) (hts _ w8) hsa (vx_hat (fun w h => hts w (xg_S w h)) xb_S (fun w h => va_Nw.use (ht_X.on h) (hX w h))) xo_S hZ.1 hZ.2 hS (by rw [hml]; exact hl.1) dH_confirm_20 dH_confirm_23 dH_confirm_24 dH_confirm_26 dH_confirm_29 (fun x hx => (htab x hx).elim) (Nat.le_of_ble_eq_true rfl) (Nat.le_of_ble_eq_true rfl) (Nat.le_of_ble_eq_true rfl) (Nat.le_of_ble_eq_true rfl) hlocks (fun t ha hz9 hk9 => ⟨(), trivial, ⟨ht_Px hP hk9, by rw [show (ht_oConfirm g k x).1 = 2 by simp [ht_oConfirm, hT, hxc, c1, c2]]; exact List.mem_of_getElem? (i := 1) rfl⟩, ht_Fx hS hz9 hk9⟩) hS.2.2 (Nat.le_of_ble_eq_true rfl) (Nat.le_of_ble_eq_true rfl)
set_option maxHeartbeats 4000000 in
set_option maxRecDepth 100000 in
theorem xH_clear (l : Launch) (hl0 : l.stackTraces = false) (D : va_G) (cA : ClassId × ClassId) (q : Nat → Nat) (hJ : mw_J 14 q) (sz : Nat) (g : ht_G) (k : Nat) (hk : k ≤ 8) (hn : g 0 0 = nI k) (x : Int32) : vx_Met l yH_clear kH_clear ({ frames := 6, cells := 1, slots := 6, locals := 82 }) (va_Pc [.ref (q 0), .int x] (ht_E D cA q g sz)) (va_Qi (fun r (_ : Unit) => (ht_oClear g k x).1 = 0 ∧ r = (ht_oClear g k x).2.1) (fun _ t => va_P D ht_cl (ht_w cA q (ht_oClear g k x).2.2) t.heap) (mw_A 14 q sz)) (vx_X (fun _ : Unit => True) (fun E _ t => va_P D ht_cl (ht_w cA q g) t.heap ∧ ((ht_oClear g k x).1, E) ∈ [((1 : Int32), EN)]) (mw_A 14 q sz)) 1 6 (mw_A 14 q sz) := by
  refine vx_ofW (cc := cH_clear) (maxL := 2) (ret := (some .int)) (by decide) rfl ?_
  intro p e s m args below meth c s₁ B hml htab hv
  obtain ⟨rfl, hsz, ⟨hP, hK, hN⟩, hX, hR, hZ⟩ := hv
  have hx := B.exec
  have hb := B.bytes
  have hr := B.returns
  have hts := fun w h => atoms_spec (ws := kH_clear) B.pre w (List.mem_cons_of_mem _ h)
  have hown : s.vm.findClass RH = some m.cls := findClass_of_methodNamed B.named
  have hlocks := B.notSynchronized
  subst hsz
  have hS : va_S (mw_A 14 q s.heap.size) s.heap s.heap [] := va_S.rf
  have hl := lv_entry ([.ref (q 0), .int x]) (n := 2) (Nat.le_of_ble_eq_true rfl)
  rw [lg_entry_eq]
  generalize (lg_sl ([.ref (q 0), .int x]) ++ List.replicate (2 - (lg_sl ([.ref (q 0), .int x])).length) Slot.unset).toArray = ls at hl ⊢
  have hl : lv_has ls 2 [(0, .ref (q 0)), (1, .int x)] := hl
  refine lv_aload_n hx hb dH_clear_0 rfl (lv_at hl 0 rfl) ?_
  refine lv_iload_n hx hb dH_clear_1 rfl (lv_at hl 1 rfl) ?_
  refine vp_callSi (va_Run.run (va_runV (As := [.int x]) (rest := []) ⟨hx, hb, hml, hown, hts⟩ (xH_isOnTrack l D cA q g k hk hn x) (cwV 1 hts (ht_gV w291 w293 s22 w1 w294) rfl rfl rfl (by decide +kernel) ⟨Nat.le_of_ble_eq_true rfl, Nat.le_of_ble_eq_true rfl⟩) ⟨ht_bl, va_recv hK hP (ci := 1) (q0 := 0) rfl ht_atO, fun U hU hW => ⟨rfl, ht_Im hP hK hN hU hW⟩⟩ rfl rfl hl.1 rfl (lv_room (Nat.le_of_ble_eq_true rfl)) dH_clear_2 ⟨Nat.le_of_ble_eq_true rfl, Nat.le_of_ble_eq_true rfl⟩)) (fun r1 hr1 => ?_)
  subst hr1
  refine lv_if_eq (tgt := 20) hx hb dH_clear_5 (by decide) (fun c2 => ?_) (fun c2 => ?_)
  · replace c2 := ht_b0.mp c2
    obtain ⟨sa, hsa⟩ := hR _ (List.mem_of_getElem? (i := 11) rfl)
    exact hx_throwS (Y := "java/lang/RuntimeException") (r := ["java/lang/Exception"]) (A := mw_A 14 q s.heap.size) hx hb hl0 hown (by decide) (by decide) (by decide) (hts _ w295) (hts _ w9) hsa (vx_hat (fun w h => hts w (xg_N w h)) xb_N (fun w h => va_Nw.use (ht_X.on h) (hX w h))) xo_N hZ.1 hZ.2 hS (by rw [hml]; exact hl.1) dH_clear_20 dH_clear_23 dH_clear_24 dH_clear_26 dH_clear_29 (fun x hx => (htab x hx).elim) (Nat.le_of_ble_eq_true rfl) (Nat.le_of_ble_eq_true rfl) (Nat.le_of_ble_eq_true rfl) (Nat.le_of_ble_eq_true rfl) hlocks (fun t ha hz9 hk9 => ⟨(), trivial, ⟨ht_Px hP hk9, by rw [show (ht_oClear g k x).1 = 1 by simp [ht_oClear, c2]]; exact List.mem_of_getElem? (i := 0) rfl⟩, ht_Fx hS hz9 hk9⟩) hS.2.2 (Nat.le_of_ble_eq_true rfl) (Nat.le_of_ble_eq_true rfl)
  · replace c2 := ht_b1.mp c2
    obtain ⟨hjk, hxj, -, -⟩ := ht_on_is hk c2
    obtain ⟨j, hxc⟩ : ∃ j, x.toNatClampNeg = j := ⟨_, rfl⟩
    rw [hxc] at hjk hxj
    have hj8 : j < 8 := Nat.lt_of_lt_of_le hjk hk
    refine lv_aload_n hx hb dH_clear_8 rfl (lv_at hl 0 rfl) ?_
    refine va_get (D := D) (ci := 1) (C := RH) (T := TH) (N := 7) (v := .ref (q 1)) hx hb hts inH hown hK hP 0 ht_atO rfl 0 (by decide) (hts _ w77) (fun _ h9 => h9) rfl dH_clear_9 ?_
    refine lv_iload_n hx hb dH_clear_12 rfl (lv_at hl 1 rfl) ?_
    refine ht_ldV hx hb hK hP (j := j) hj8 hxj dH_clear_13 ?_
    refine va_getN (D := D) (ci := 0) (C := RV) (T := TV) (N := 13) (v := .int (g (5 + j) 0)) hx hb hts inV hown hK hP (j + 6) (ht_atV hj8) rfl 0 (by decide) (hN.use 1 rfl rfl) (fun _ h9 => h9) rfl dH_clear_14 ?_
    refine lv_if_eq (tgt := 30) hx hb dH_clear_17 (by decide) (fun c3 => ?_) (fun c3 => ?_)
    · refine lv_aload_n hx hb dH_clear_30 rfl (lv_at hl 0 rfl) ?_
      refine va_get (D := D) (ci := 1) (C := RH) (T := TH) (N := 7) (v := .ref (q 1)) hx hb hts inH hown hK hP 0 ht_atO rfl 0 (by decide) (hts _ w77) (fun _ h9 => h9) rfl dH_clear_31 ?_
      refine lv_iload_n hx hb dH_clear_34 rfl (lv_at hl 1 rfl) ?_
      refine ht_ldV hx hb hK hP (j := j) hj8 hxj dH_clear_35 ?_
      refine lv_iconst (v := 0) hx hb dH_clear_36 (by decide) ?_
      refine va_putN (D := D) (ci := 0) (C := RV) (T := TV) (N := 13) (v := .int 0) (ty := .boolean) hx hb hts inV tyV tyV_ok nmV hown hK hP (mw_DA hJ) hS (j + 6) (ht_atV hj8) rfl 1 (by decide) (hN.use 2 rfl rfl) (fun _ h9 => h9) rfl rfl rfl rfl (Nat.le_of_ble_eq_true rfl) dH_clear_37 (fun H locs hP _ hS => ?_)
      rw [ht_stV hj8 (by decide)] at hP
      obtain ⟨g4, eg4⟩ : ∃ y9 : ht_G, y9 = ht_up g (5 + j) 1 0 := ⟨_, rfl⟩
      rw [← eg4] at hP
      refine lv_aload_n hx hb dH_clear_40 rfl (lv_at hl 0 rfl) ?_
      refine va_get (D := D) (ci := 1) (C := RH) (T := TH) (N := 7) (v := .ref (q 1)) hx hb hts inH hown hK hP 0 ht_atO rfl 0 (by decide) (hts _ w77) (fun _ h9 => h9) rfl dH_clear_41 ?_
      refine lv_iload_n hx hb dH_clear_44 rfl (lv_at hl 1 rfl) ?_
      refine ht_ldV hx hb hK hP (j := j) hj8 hxj dH_clear_45 ?_
      refine va_getN (D := D) (ci := 0) (C := RV) (T := TV) (N := 13) (v := .int (g4 (5 + j) 3)) hx hb hts inV hown hK hP (j + 6) (ht_atV hj8) rfl 3 (by decide) (hN.use 4 rfl rfl) (fun _ h9 => h9) rfl dH_clear_46 ?_
      have hG : g4 = (ht_oClear g k x).2.2 := by subst eg4; simp [ht_oClear, c2, hxc, c3]
      have hC : (ht_oClear g k x).1 = 0 := by simp [ht_oClear, c2, hxc, c3]
      have hV : g4 (5 + j) 3 = (ht_oClear g k x).2.1 := by subst eg4; simp [ht_oClear, c2, hxc, c3, ht_up]
      rw [hG] at hP
      exact vx_ret (W.widen (k := 1) (n := 6) (Nat.le_of_ble_eq_true rfl) (Nat.le_of_ble_eq_true rfl) (W.iret (v := g4 (5 + j) 3) hx hb hr (fun t ht hW => ⟨⟨g4 (5 + j) 3, (), rfl, ⟨hC, hV⟩, by show va_P D ht_cl (ht_w cA q (ht_oClear g k x).2.2) t.heap; rw [ht]; exact hP⟩, hS.F ht⟩) hS.2.2 dH_clear_49))
    · obtain ⟨sa, hsa⟩ := hR _ (List.mem_of_getElem? (i := 11) rfl)
      exact hx_throwS (Y := "java/lang/RuntimeException") (r := ["java/lang/Exception"]) (A := mw_A 14 q s.heap.size) hx hb hl0 hown (by decide) (by decide) (by decide) (hts _ w295) (hts _ w9) hsa (vx_hat (fun w h => hts w (xg_N w h)) xb_N (fun w h => va_Nw.use (ht_X.on h) (hX w h))) xo_N hZ.1 hZ.2 hS (by rw [hml]; exact hl.1) dH_clear_20 dH_clear_23 dH_clear_24 dH_clear_26 dH_clear_29 (fun x hx => (htab x hx).elim) (Nat.le_of_ble_eq_true rfl) (Nat.le_of_ble_eq_true rfl) (Nat.le_of_ble_eq_true rfl) (Nat.le_of_ble_eq_true rfl) hlocks (fun t ha hz9 hk9 => ⟨(), trivial, ⟨ht_Px hP hk9, by rw [show (ht_oClear g k x).1 = 1 by simp [ht_oClear, c2, hxc, c3]]; exact List.mem_of_getElem? (i := 0) rfl⟩, ht_Fx hS hz9 hk9⟩) hS.2.2 (Nat.le_of_ble_eq_true rfl) (Nat.le_of_ble_eq_true rfl)
set_option maxHeartbeats 4000000 in
set_option maxRecDepth 100000 in
theorem xH_state (l : Launch) (hl0 : l.stackTraces = false) (D : va_G) (cA : ClassId × ClassId) (q : Nat → Nat) (hJ : mw_J 14 q) (sz : Nat) (g : ht_G) (k : Nat) (hk : k ≤ 8) (hn : g 0 0 = nI k) (x : Int32) : vx_Met l yH_state kH_state ({ frames := 6, cells := 1, slots := 6, locals := 82 }) (va_Pc [.ref (q 0), .int x] (ht_E D cA q g sz)) (va_Qi (fun r (_ : Unit) => (ht_oState g x).1 = 0 ∧ r = (ht_oState g x).2.1) (fun _ t => va_P D ht_cl (ht_w cA q (ht_oState g x).2.2) t.heap) (mw_A 14 q sz)) (vx_X (fun _ : Unit => True) (fun E _ t => va_P D ht_cl (ht_w cA q g) t.heap ∧ ((ht_oState g x).1, E) ∈ [((1 : Int32), EA)]) (mw_A 14 q sz)) 1 6 (mw_A 14 q sz) := by
  refine vx_ofW (cc := cH_state) (maxL := 2) (ret := (some .int)) (by decide) rfl ?_
  intro p e s m args below meth c s₁ B hml htab hv
  obtain ⟨rfl, hsz, ⟨hP, hK, hN⟩, hX, hR, hZ⟩ := hv
  have hx := B.exec
  have hb := B.bytes
  have hr := B.returns
  have hts := fun w h => atoms_spec (ws := kH_state) B.pre w (List.mem_cons_of_mem _ h)
  have hown : s.vm.findClass RH = some m.cls := findClass_of_methodNamed B.named
  have hlocks := B.notSynchronized
  subst hsz
  have hS : va_S (mw_A 14 q s.heap.size) s.heap s.heap [] := va_S.rf
  have hl := lv_entry ([.ref (q 0), .int x]) (n := 2) (Nat.le_of_ble_eq_true rfl)
  rw [lg_entry_eq]
  generalize (lg_sl ([.ref (q 0), .int x]) ++ List.replicate (2 - (lg_sl ([.ref (q 0), .int x])).length) Slot.unset).toArray = ls at hl ⊢
  have hl : lv_has ls 2 [(0, .ref (q 0)), (1, .int x)] := hl
  refine lv_iload_n hx hb dH_state_0 rfl (lv_at hl 1 rfl) ?_
  refine lv_if_lt (tgt := 10) hx hb dH_state_1 (by decide) (fun c1 => ?_) (fun c1 => ?_)
  · obtain ⟨sa, hsa⟩ := hR _ (List.mem_of_getElem? (i := 13) rfl)
    exact vx_throwS (names := ht_nm) (A := mw_A 14 q s.heap.size) hx hb hl0 hown (by decide) (by decide) (hts _ w108) (hts _ w7) hsa (vx_hat (fun w h => hts w (xg_A w h)) xb_A (fun w h => va_Nw.use (ht_X.on h) (hX w h))) xo_A hZ.1 hZ.2 hS (by rw [hml]; exact hl.1) dH_state_10 dH_state_13 dH_state_14 dH_state_16 dH_state_19 (fun x hx => (htab x hx).elim) (Nat.le_of_ble_eq_true rfl) (Nat.le_of_ble_eq_true rfl) (Nat.le_of_ble_eq_true rfl) (Nat.le_of_ble_eq_true rfl) hlocks (fun t ha hz9 hk9 => ⟨(), trivial, ⟨ht_Px hP hk9, by rw [show (ht_oState g x).1 = 1 by simp [ht_oState, c1]]; exact List.mem_of_getElem? (i := 0) rfl⟩, ht_Fx hS hz9 hk9⟩) hS.2.2 (Nat.le_of_ble_eq_true rfl) (Nat.le_of_ble_eq_true rfl)
  · refine lv_iload_n hx hb dH_state_4 rfl (lv_at hl 1 rfl) ?_
    refine lv_bipush (v := 12) hx hb dH_state_5 (by decide) ?_
    refine lv_icmp_lt (tgt := 20) hx hb dH_state_7 (by decide) (fun c2 => ?_) (fun c2 => ?_)
    · obtain ⟨j, hj12, hxj, -, hxc, -⟩ := pk_mu (L := 12) c1 (Int32.not_le.mpr c2) (by omega)
      refine lv_aload_n hx hb dH_state_20 rfl (lv_at hl 0 rfl) ?_
      refine va_get (D := D) (ci := 1) (C := RH) (T := TH) (N := 7) (v := .ref (q 2)) hx hb hts inH hown hK hP 0 ht_atO rfl 3 (by decide) (hts _ w80) (fun _ h9 => h9) rfl dH_state_21 ?_
      refine lv_iload_n hx hb dH_state_24 rfl (lv_at hl 1 rfl) ?_
      refine ht_ldI hx hb hK hP 1 (j := j) (by decide) (by decide) hj12 hxj dH_state_25 ?_
      have hG : g = (ht_oState g x).2.2 := by simp [ht_oState, c1, c2, hxc]
      have hC : (ht_oState g x).1 = 0 := by simp [ht_oState, c1, c2, hxc]
      have hV : g 1 j = (ht_oState g x).2.1 := by simp [ht_oState, c1, c2, hxc, ht_up]
      rw [hG] at hP
      exact vx_ret (W.widen (k := 1) (n := 6) (Nat.le_of_ble_eq_true rfl) (Nat.le_of_ble_eq_true rfl) (W.iret (v := g 1 j) hx hb hr (fun t ht hW => ⟨⟨g 1 j, (), rfl, ⟨hC, hV⟩, by show va_P D ht_cl (ht_w cA q (ht_oState g x).2.2) t.heap; rw [ht]; exact hP⟩, hS.F ht⟩) hS.2.2 dH_state_26))
    · obtain ⟨sa, hsa⟩ := hR _ (List.mem_of_getElem? (i := 13) rfl)
      exact vx_throwS (names := ht_nm) (A := mw_A 14 q s.heap.size) hx hb hl0 hown (by decide) (by decide) (hts _ w108) (hts _ w7) hsa (vx_hat (fun w h => hts w (xg_A w h)) xb_A (fun w h => va_Nw.use (ht_X.on h) (hX w h))) xo_A hZ.1 hZ.2 hS (by rw [hml]; exact hl.1) dH_state_10 dH_state_13 dH_state_14 dH_state_16 dH_state_19 (fun x hx => (htab x hx).elim) (Nat.le_of_ble_eq_true rfl) (Nat.le_of_ble_eq_true rfl) (Nat.le_of_ble_eq_true rfl) (Nat.le_of_ble_eq_true rfl) hlocks (fun t ha hz9 hk9 => ⟨(), trivial, ⟨ht_Px hP hk9, by rw [show (ht_oState g x).1 = 1 by simp [ht_oState, c1, c2]]; exact List.mem_of_getElem? (i := 0) rfl⟩, ht_Fx hS hz9 hk9⟩) hS.2.2 (Nat.le_of_ble_eq_true rfl) (Nat.le_of_ble_eq_true rfl)
set_option maxHeartbeats 4000000 in
set_option maxRecDepth 100000 in
theorem xH_detected (l : Launch) (hl0 : l.stackTraces = false) (D : va_G) (cA : ClassId × ClassId) (q : Nat → Nat) (hJ : mw_J 14 q) (sz : Nat) (g : ht_G) (k : Nat) (hk : k ≤ 8) (hn : g 0 0 = nI k) (x : Int32) : vx_Met l yH_detected kH_detected ({ frames := 6, cells := 1, slots := 6, locals := 87 }) (va_Pc [.ref (q 0), .int x] (ht_E D cA q g sz)) (va_Qi (fun r (_ : Unit) => (ht_oDet g k x).1 = 0 ∧ r = (ht_oDet g k x).2.1) (fun _ t => va_P D ht_cl (ht_w cA q (ht_oDet g k x).2.2) t.heap) (mw_A 14 q sz)) (vx_X (fun _ : Unit => True) (fun E _ t => va_P D ht_cl (ht_w cA q g) t.heap ∧ ((ht_oDet g k x).1, E) ∈ [((1 : Int32), EA)]) (mw_A 14 q sz)) 1 6 (mw_A 14 q sz) := by
  refine vx_ofW (cc := cH_detected) (maxL := 2) (ret := (some .int)) (by decide) rfl ?_
  intro p e s m args below meth c s₁ B hml htab hv
  obtain ⟨rfl, hsz, ⟨hP, hK, hN⟩, hX, hR, hZ⟩ := hv
  have hx := B.exec
  have hb := B.bytes
  have hr := B.returns
  have hts := fun w h => atoms_spec (ws := kH_detected) B.pre w (List.mem_cons_of_mem _ h)
  have hown : s.vm.findClass RH = some m.cls := findClass_of_methodNamed B.named
  have hlocks := B.notSynchronized
  subst hsz
  have hS : va_S (mw_A 14 q s.heap.size) s.heap s.heap [] := va_S.rf
  have hl := lv_entry ([.ref (q 0), .int x]) (n := 2) (Nat.le_of_ble_eq_true rfl)
  rw [lg_entry_eq]
  generalize (lg_sl ([.ref (q 0), .int x]) ++ List.replicate (2 - (lg_sl ([.ref (q 0), .int x])).length) Slot.unset).toArray = ls at hl ⊢
  have hl : lv_has ls 2 [(0, .ref (q 0)), (1, .int x)] := hl
  refine lv_iload_n hx hb dH_detected_0 rfl (lv_at hl 1 rfl) ?_
  refine lv_if_lt (tgt := 9) hx hb dH_detected_1 (by decide) (fun c1 => ?_) (fun c1 => ?_)
  · obtain ⟨sa, hsa⟩ := hR _ (List.mem_of_getElem? (i := 14) rfl)
    exact vx_throwS (names := ht_nm) (A := mw_A 14 q s.heap.size) hx hb hl0 hown (by decide) (by decide) (hts _ w108) (hts _ w7) hsa (vx_hat (fun w h => hts w (xg_A w h)) xb_A (fun w h => va_Nw.use (ht_X.on h) (hX w h))) xo_A hZ.1 hZ.2 hS (by rw [hml]; exact hl.1) dH_detected_9 dH_detected_12 dH_detected_13 dH_detected_15 dH_detected_18 (fun x hx => (htab x hx).elim) (Nat.le_of_ble_eq_true rfl) (Nat.le_of_ble_eq_true rfl) (Nat.le_of_ble_eq_true rfl) (Nat.le_of_ble_eq_true rfl) hlocks (fun t ha hz9 hk9 => ⟨(), trivial, ⟨ht_Px hP hk9, by rw [show (ht_oDet g k x).1 = 1 by simp [ht_oDet, c1, ht_b]]; exact List.mem_of_getElem? (i := 0) rfl⟩, ht_Fx hS hz9 hk9⟩) hS.2.2 (Nat.le_of_ble_eq_true rfl) (Nat.le_of_ble_eq_true rfl)
  · refine lv_iload_n hx hb dH_detected_4 rfl (lv_at hl 1 rfl) ?_
    refine lv_iconst (v := 4) hx hb dH_detected_5 (by decide) ?_
    refine lv_icmp_lt (tgt := 19) hx hb dH_detected_6 (by decide) (fun c2 => ?_) (fun c2 => ?_)
    · refine lv_aload_n hx hb dH_detected_19 rfl (lv_at hl 0 rfl) ?_
      refine lv_iload_n hx hb dH_detected_20 rfl (lv_at hl 1 rfl) ?_
      refine vp_callSi (va_Run.run (va_runV (As := [.int x]) (rest := []) ⟨hx, hb, hml, hown, hts⟩ (xH_isDetectedOccupied l D cA q g k hk hn x) (cwV 1 hts (ht_gV w246 w248 s13 w1 w249) rfl rfl rfl (by decide +kernel) ⟨Nat.le_of_ble_eq_true rfl, Nat.le_of_ble_eq_true rfl⟩) ⟨ht_bl, va_recv hK hP (ci := 1) (q0 := 0) rfl ht_atO, fun U hU hW => ⟨rfl, ht_Im hP hK hN hU hW⟩⟩ rfl rfl hl.1 rfl (lv_room (Nat.le_of_ble_eq_true rfl)) dH_detected_21 ⟨Nat.le_of_ble_eq_true rfl, Nat.le_of_ble_eq_true rfl⟩)) (fun r3 hr3 => ?_)
      subst hr3
      refine lv_if_eq (tgt := 31) hx hb dH_detected_24 (by decide) (fun c4 => ?_) (fun c4 => ?_)
      · replace c4 := ht_b0.mp c4
        refine lv_iconst (v := 0) hx hb dH_detected_31 (by decide) ?_
        have hG : g = (ht_oDet g k x).2.2 := by simp [ht_oDet, c1, c2, c4, ht_b]
        have hC : (ht_oDet g k x).1 = 0 := by simp [ht_oDet, c1, c2, c4, ht_b]
        have hV : 0 = (ht_oDet g k x).2.1 := by simp [ht_oDet, c1, c2, c4, ht_b, ht_up]
        rw [hG] at hP
        exact vx_ret (W.widen (k := 1) (n := 6) (Nat.le_of_ble_eq_true rfl) (Nat.le_of_ble_eq_true rfl) (W.iret (v := 0) hx hb hr (fun t ht hW => ⟨⟨0, (), rfl, ⟨hC, hV⟩, by show va_P D ht_cl (ht_w cA q (ht_oDet g k x).2.2) t.heap; rw [ht]; exact hP⟩, hS.F ht⟩) hS.2.2 dH_detected_32))
      · replace c4 := ht_b1.mp c4
        refine lv_iconst (v := 1) hx hb dH_detected_27 (by decide) ?_
        refine lv_goto (tgt := 32) hx hb dH_detected_28 (by decide) ?_
        have hG : g = (ht_oDet g k x).2.2 := by simp [ht_oDet, c1, c2, c4, ht_b]
        have hC : (ht_oDet g k x).1 = 0 := by simp [ht_oDet, c1, c2, c4, ht_b]
        have hV : 1 = (ht_oDet g k x).2.1 := by simp [ht_oDet, c1, c2, c4, ht_b, ht_up]
        rw [hG] at hP
        exact vx_ret (W.widen (k := 1) (n := 6) (Nat.le_of_ble_eq_true rfl) (Nat.le_of_ble_eq_true rfl) (W.iret (v := 1) hx hb hr (fun t ht hW => ⟨⟨1, (), rfl, ⟨hC, hV⟩, by show va_P D ht_cl (ht_w cA q (ht_oDet g k x).2.2) t.heap; rw [ht]; exact hP⟩, hS.F ht⟩) hS.2.2 dH_detected_32))
    · obtain ⟨sa, hsa⟩ := hR _ (List.mem_of_getElem? (i := 14) rfl)
      exact vx_throwS (names := ht_nm) (A := mw_A 14 q s.heap.size) hx hb hl0 hown (by decide) (by decide) (hts _ w108) (hts _ w7) hsa (vx_hat (fun w h => hts w (xg_A w h)) xb_A (fun w h => va_Nw.use (ht_X.on h) (hX w h))) xo_A hZ.1 hZ.2 hS (by rw [hml]; exact hl.1) dH_detected_9 dH_detected_12 dH_detected_13 dH_detected_15 dH_detected_18 (fun x hx => (htab x hx).elim) (Nat.le_of_ble_eq_true rfl) (Nat.le_of_ble_eq_true rfl) (Nat.le_of_ble_eq_true rfl) (Nat.le_of_ble_eq_true rfl) hlocks (fun t ha hz9 hk9 => ⟨(), trivial, ⟨ht_Px hP hk9, by rw [show (ht_oDet g k x).1 = 1 by simp [ht_oDet, c1, c2, ht_b]]; exact List.mem_of_getElem? (i := 0) rfl⟩, ht_Fx hS hz9 hk9⟩) hS.2.2 (Nat.le_of_ble_eq_true rfl) (Nat.le_of_ble_eq_true rfl)
end
section
def ht_oCount (g : ht_G) (k : Nat) (y : Int32) : Int32 × Int32 × ht_G := if y = 0 then (0, g 0 0, g) else if y = 1 then (0, nI (ht_trains g k), g) else if y = 2 then (0, nI (ht_in g 0), g) else if y = 3 then (0, nI (ht_in g 1), g) else if y = 4 then (0, nI (ht_in g 2), g) else if y = 5 then (0, nI (ht_in g 3), g) else if y = 6 then (0, nI (ht_wrong g k), g) else if y = 7 then (0, g 0 1, g) else (1, 0, g)
def ht_oVehicle (g : ht_G) (k : Nat) (x y : Int32) : Int32 × Int32 × ht_G := if ht_on g k x = false then (1, 0, g) else if y < 0 ∨ ¬ y ≤ 5 then (2, 0, g) else if ¬ y < 2 ∧ g (5 + x.toNatClampNeg) 0 = 0 then (1, 0, g) else (0, if y = 0 then g (5 + x.toNatClampNeg) 2 else if y = 1 then g (5 + x.toNatClampNeg) 3 else if y = 2 then g (5 + x.toNatClampNeg) 5 else if y = 3 then g (5 + x.toNatClampNeg) 8 else if y = 4 then g (5 + x.toNatClampNeg) 9 else if g (5 + x.toNatClampNeg) 7 = 0 then 0 else 1, g)
def ht_oTick (g : ht_G) (k : Nat) (x : Int32) : Int32 × Int32 × ht_G := if x < 1 ∨ ¬ x ≤ 6 then (1, 0, g) else (0, nI (ht_in (ht_it (fun _ => ht_tick k) x.toNatClampNeg g) 0), ht_it (fun _ => ht_tick k) x.toNatClampNeg g)
def ht_oEnter (g : ht_G) (k : Nat) (x y : Int32) : Int32 × Int32 × ht_G := if y < 1 ∨ ¬ y ≤ 40 then (1, 0, g) else if x < 0 ∨ 120 ≤ x ∨ ¬ 0 ≤ x - y + 1 then (1, 0, g) else if ¬ g 0 0 < 8 then (2, 0, g) else if ht_stood g k (x - y + 1) x = true then (2, 0, g) else if ht_claimed g k ((x - y + 1) / 10) (x / 10) (-1) = true then (2, 0, g) else
  (0, ht_find (k + 1) (ht_up (ht_become k x y g) 0 0 (ht_become k x y g 0 0 + 1)) 0 0 - 1, ht_find (k + 1) (ht_up (ht_become k x y g) 0 0 (ht_become k x y g 0 0 + 1)))
def ht_lose3 (g : ht_G) (k j : Nat) (y : Int32) : ht_G :=
  let g1 := ht_wagon k (ht_last (g (5 + j)) + y - 1) y g
  let g2 := ht_up g1 0 0 (g1 0 0 + 1)
  let g3 := ht_up g2 (5 + j) 3 (g2 (5 + j) 3 - y)
  ht_up g3 (5 + j) 7 0
def ht_oLose (g : ht_G) (k : Nat) (x y : Int32) : Int32 × Int32 × ht_G := if ht_tr g k x = false then (1, 0, g) else if y < 1 ∨ ¬ y < g (5 + x.toNatClampNeg) 3 then (2, 0, g) else if ¬ g 0 0 < 8 then (3, 0, g) else (0, ht_lose3 g k x.toNatClampNeg y 0 0 - 1, ht_lose3 g k x.toNatClampNeg y)
def ht_oAuth (g : ht_G) (k : Nat) (x : Int32) : Int32 × Int32 × ht_G := if ht_tr g k x = false then (1, 0, g) else if ht_mute (g (5 + x.toNatClampNeg)) = true ∨ ¬ g (5 + x.toNatClampNeg) 6 = 0 then (2, 0, g)
  else if (g 1 (g (5 + x.toNatClampNeg) 5 / 10).toNatClampNeg = 0 ∨ g (5 + x.toNatClampNeg) 9 / 10 = g (5 + x.toNatClampNeg) 5 / 10) ∧ ht_claimed g k (g (5 + x.toNatClampNeg) 5 / 10) (g (5 + x.toNatClampNeg) 5 / 10) x = false then
    (0, nI (ht_far g k x (11 - (g (5 + x.toNatClampNeg) 5 / 10).toNatClampNeg) (g (5 + x.toNatClampNeg) 5 / 10).toNatClampNeg) * 10 + 10 - 1, ht_up g (5 + x.toNatClampNeg) 5 (nI (ht_far g k x (11 - (g (5 + x.toNatClampNeg) 5 / 10).toNatClampNeg) (g (5 + x.toNatClampNeg) 5 / 10).toNatClampNeg) * 10 + 10 - 1))
  else (0, g (5 + x.toNatClampNeg) 5, g)
def ht_en (g : ht_G) : Prop := ∀ j, j < 8 → ∃ a, a < 12 ∧ g (5 + j) 5 / 10 = nI a
theorem ht_t6 {x : Int32} (h1 : ¬ x < 1) (h2 : x ≤ 6) : ∃ N, N ≤ 6 ∧ x = nI N ∧ x.toNatClampNeg = N := by
  have h0 : ¬ x < 0 := fun h => h1 (Int32.lt_trans h (by decide))
  obtain ⟨j, hj, e⟩ := nI_of2 (M := 6) (n := 6) rfl h0 h2
  exact ⟨j, hj, e, by rw [e, nI_clamp (by omega)]⟩
theorem ht_01 {y : Int32} (h0 : ¬ y < 0) (h2 : y < 2) (n0 : ¬ y = 0) (n1 : ¬ y = 1) : False := by
  obtain ⟨j, hj, e⟩ := nI_of h0
  subst e
  have h := (nI_ltI (b := 2) hj (by omega)).mp h2
  rcases (show j = 0 ∨ j = 1 by omega) with rfl | rfl
  · exact n0 rfl
  · exact n1 rfl
theorem ht_lt8 {g : ht_G} {k : Nat} (hk : k ≤ 8) (hn : g 0 0 = nI k) (c : g 0 0 < 8) : k < 8 := by
  rw [hn] at c
  exact (nI_ltI (b := 8) (by omega) (by omega)).mp c
theorem ht_become_o {j r c : Nat} {a b : Int32} {g : ht_G} (h : r < 5) : ht_become j a b g r c = g r c := by
  simp only [ht_become, ht_up_r (show r ≠ 5 + j by omega), ht_send_o (Or.inl h)]
theorem ht_tick_n {k c : Nat} {g : ht_G} (h : c = 0 := by rfl) : ht_tick k g 0 c = g 0 c := by
  subst h
  rw [ht_tick_eq, ht_up_k (by decide), ht_find_o (Or.inl rfl), ht_it_keep (fun _ a => ht_rp_o (Or.inl (by decide)) a), ht_it_keep (fun _ a => ht_mv_o (Or.inl (by decide)) a)]
theorem ht_tick_al {k : Nat} {g : ht_G} (hk : k ≤ 8) (h : ht_al g 3) : ht_al (ht_tick k g) 3 := by
  rw [ht_tick_eq]
  refine ht_al_of (ht_loc3 (k := k) hk (g := ht_it ht_rp k (ht_it (ht_mv k) k g)) (ht_al_of h (fun z _ => by rw [ht_it_keep (fun _ a => ht_rp_o (Or.inl (by decide)) a), ht_it_keep (fun _ a => ht_mv_o (Or.inl (by decide)) a)])) 12) (fun z _ => ?_)
  rw [ht_up_r (by decide), ht_find, ht_it_keep (fun _ a => ht_s2_o (by decide) a), ht_it_keep (fun _ a => ht_s1_o (by decide) a)]
theorem ht_tick_bo {k : Nat} {g : ht_G} (h : ht_bo g 7) : ht_bo (ht_tick k g) 7 := by
  intro i hi
  rw [ht_tick_eq, ht_up_r (by omega), ht_find_o (Or.inr (by omega)), ht_it_keep (fun _ a => ht_rp_o (Or.inr (by decide)) a), ht_it_keep (fun _ a => ht_mv_o (Or.inr (by decide)) a)]
  exact h i hi
end
section
set_option maxHeartbeats 4000000 in
set_option maxRecDepth 100000 in
theorem xH_count (l : Launch) (hl0 : l.stackTraces = false) (D : va_G) (cA : ClassId × ClassId) (q : Nat → Nat) (hJ : mw_J 14 q) (sz : Nat) (g : ht_G) (k : Nat) (hk : k ≤ 8) (hn : g 0 0 = nI k) (y : Int32) : vx_Met l yH_count kH_count ({ frames := 6, cells := 1, slots := 6, locals := 109 }) (va_Pc [.ref (q 0), .int y] (ht_E D cA q g sz)) (va_Qi (fun r (_ : Unit) => (ht_oCount g k y).1 = 0 ∧ r = (ht_oCount g k y).2.1) (fun _ t => va_P D ht_cl (ht_w cA q (ht_oCount g k y).2.2) t.heap) (mw_A 14 q sz)) (vx_X (fun _ : Unit => True) (fun E _ t => va_P D ht_cl (ht_w cA q g) t.heap ∧ ((ht_oCount g k y).1, E) ∈ [((1 : Int32), EA)]) (mw_A 14 q sz)) 1 6 (mw_A 14 q sz) := by
  refine vx_ofW (cc := cH_count) (maxL := 2) (ret := (some .int)) (by decide) rfl ?_
  intro p e s m args below meth c s₁ B hml htab hv
  obtain ⟨rfl, hsz, ⟨hP, hK, hN⟩, hX, hR, hZ⟩ := hv
  have hx := B.exec
  have hb := B.bytes
  have hr := B.returns
  have hts := fun w h => atoms_spec (ws := kH_count) B.pre w (List.mem_cons_of_mem _ h)
  have hown : s.vm.findClass RH = some m.cls := findClass_of_methodNamed B.named
  have hlocks := B.notSynchronized
  subst hsz
  have hS : va_S (mw_A 14 q s.heap.size) s.heap s.heap [] := va_S.rf
  have hl := lv_entry ([.ref (q 0), .int y]) (n := 2) (Nat.le_of_ble_eq_true rfl)
  rw [lg_entry_eq]
  generalize (lg_sl ([.ref (q 0), .int y]) ++ List.replicate (2 - (lg_sl ([.ref (q 0), .int y])).length) Slot.unset).toArray = ls at hl ⊢
  have hl : lv_has ls 2 [(0, .ref (q 0)), (1, .int y)] := hl
  refine lv_iload_n hx hb dH_count_0 rfl (lv_at hl 1 rfl) ?_
  by_cases c1 : y = 0
  · refine lv_tableIn (tgt := 48) (off := 47) hx hb dH_count_1 (by rw [c1]; decide) (by rw [c1]; decide) (by rw [c1]; rfl) (by decide) ?_
    refine lv_aload_n hx hb dH_count_48 rfl (lv_at hl 0 rfl) ?_
    refine va_get (D := D) (ci := 1) (C := RH) (T := TH) (N := 7) (v := .int (g 0 0)) hx hb hts inH hown hK hP 0 ht_atO rfl 1 (by decide) (hts _ w78) (fun _ h9 => h9) rfl dH_count_49 ?_
    have hG : g = (ht_oCount g k y).2.2 := by simp [ht_oCount, c1]
    have hC : (ht_oCount g k y).1 = 0 := by simp [ht_oCount, c1]
    have hV : g 0 0 = (ht_oCount g k y).2.1 := by simp [ht_oCount, c1, ht_up]
    rw [hG] at hP
    exact vx_ret (W.widen (k := 1) (n := 6) (Nat.le_of_ble_eq_true rfl) (Nat.le_of_ble_eq_true rfl) (W.iret (v := g 0 0) hx hb hr (fun t ht hW => ⟨⟨g 0 0, (), rfl, ⟨hC, hV⟩, by show va_P D ht_cl (ht_w cA q (ht_oCount g k y).2.2) t.heap; rw [ht]; exact hP⟩, hS.F ht⟩) hS.2.2 dH_count_52))
  ·
    by_cases c2 : y = 1
    · refine lv_tableIn (tgt := 53) (off := 52) hx hb dH_count_1 (by rw [c2]; decide) (by rw [c2]; decide) (by rw [c2]; rfl) (by decide) ?_
      refine lv_aload_n hx hb dH_count_53 rfl (lv_at hl 0 rfl) ?_
      refine vp_callSi (va_Run.run (va_runV (As := []) (rest := []) ⟨hx, hb, hml, hown, hts⟩ (xH_trainsThatCame l D cA q g k hk hn ) (cwV 0 hts (ht_gV w425 w427 s29 w1 w428) rfl rfl rfl (by decide +kernel) ⟨Nat.le_of_ble_eq_true rfl, Nat.le_of_ble_eq_true rfl⟩) ⟨ht_bl, va_recv hK hP (ci := 1) (q0 := 0) rfl ht_atO, fun U hU hW => ⟨rfl, ht_Im hP hK hN hU hW⟩⟩ rfl rfl hl.1 rfl (lv_room (Nat.le_of_ble_eq_true rfl)) dH_count_54 ⟨Nat.le_of_ble_eq_true rfl, Nat.le_of_ble_eq_true rfl⟩)) (fun r3 hr3 => ?_)
      subst hr3
      have hG : g = (ht_oCount g k y).2.2 := by simp [ht_oCount, c1, c2]
      have hC : (ht_oCount g k y).1 = 0 := by simp [ht_oCount, c1, c2]
      have hV : nI (ht_trains g k) = (ht_oCount g k y).2.1 := by simp [ht_oCount, c1, c2, ht_up]
      rw [hG] at hP
      exact vx_ret (W.widen (k := 1) (n := 6) (Nat.le_of_ble_eq_true rfl) (Nat.le_of_ble_eq_true rfl) (W.iret (v := nI (ht_trains g k)) hx hb hr (fun t ht hW => ⟨⟨nI (ht_trains g k), (), rfl, ⟨hC, hV⟩, by show va_P D ht_cl (ht_w cA q (ht_oCount g k y).2.2) t.heap; rw [ht]; exact hP⟩, hS.F ht⟩) hS.2.2 dH_count_57))
    ·
      by_cases c4 : y = 2
      · refine lv_tableIn (tgt := 58) (off := 57) hx hb dH_count_1 (by rw [c4]; decide) (by rw [c4]; decide) (by rw [c4]; rfl) (by decide) ?_
        refine lv_aload_n hx hb dH_count_58 rfl (lv_at hl 0 rfl) ?_
        refine lv_iconst (v := 0) hx hb dH_count_59 (by decide) ?_
        refine vp_callSi (va_Run.run (va_runV (As := [.int 0]) (rest := []) ⟨hx, hb, hml, hown, hts⟩ (xH_sectionsInState l D cA q g k hk hn 0) (cwV 1 hts (ht_gV w388 w390 s28 w1 w391) rfl rfl rfl (by decide +kernel) ⟨Nat.le_of_ble_eq_true rfl, Nat.le_of_ble_eq_true rfl⟩) ⟨ht_bl, va_recv hK hP (ci := 1) (q0 := 0) rfl ht_atO, fun U hU hW => ⟨rfl, ht_Im hP hK hN hU hW⟩⟩ rfl rfl hl.1 rfl (lv_room (Nat.le_of_ble_eq_true rfl)) dH_count_60 ⟨Nat.le_of_ble_eq_true rfl, Nat.le_of_ble_eq_true rfl⟩)) (fun r5 hr5 => ?_)
        subst hr5
        have hG : g = (ht_oCount g k y).2.2 := by simp [ht_oCount, c1, c2, c4]
        have hC : (ht_oCount g k y).1 = 0 := by simp [ht_oCount, c1, c2, c4]
        have hV : nI (ht_in g 0) = (ht_oCount g k y).2.1 := by simp [ht_oCount, c1, c2, c4, ht_up]
        rw [hG] at hP
        exact vx_ret (W.widen (k := 1) (n := 6) (Nat.le_of_ble_eq_true rfl) (Nat.le_of_ble_eq_true rfl) (W.iret (v := nI (ht_in g 0)) hx hb hr (fun t ht hW => ⟨⟨nI (ht_in g 0), (), rfl, ⟨hC, hV⟩, by show va_P D ht_cl (ht_w cA q (ht_oCount g k y).2.2) t.heap; rw [ht]; exact hP⟩, hS.F ht⟩) hS.2.2 dH_count_63))
      ·
        by_cases c6 : y = 3
        · refine lv_tableIn (tgt := 64) (off := 63) hx hb dH_count_1 (by rw [c6]; decide) (by rw [c6]; decide) (by rw [c6]; rfl) (by decide) ?_
          refine lv_aload_n hx hb dH_count_64 rfl (lv_at hl 0 rfl) ?_
          refine lv_iconst (v := 1) hx hb dH_count_65 (by decide) ?_
          refine vp_callSi (va_Run.run (va_runV (As := [.int 1]) (rest := []) ⟨hx, hb, hml, hown, hts⟩ (xH_sectionsInState l D cA q g k hk hn 1) (cwV 1 hts (ht_gV w388 w390 s28 w1 w391) rfl rfl rfl (by decide +kernel) ⟨Nat.le_of_ble_eq_true rfl, Nat.le_of_ble_eq_true rfl⟩) ⟨ht_bl, va_recv hK hP (ci := 1) (q0 := 0) rfl ht_atO, fun U hU hW => ⟨rfl, ht_Im hP hK hN hU hW⟩⟩ rfl rfl hl.1 rfl (lv_room (Nat.le_of_ble_eq_true rfl)) dH_count_66 ⟨Nat.le_of_ble_eq_true rfl, Nat.le_of_ble_eq_true rfl⟩)) (fun r7 hr7 => ?_)
          subst hr7
          have hG : g = (ht_oCount g k y).2.2 := by simp [ht_oCount, c1, c2, c4, c6]
          have hC : (ht_oCount g k y).1 = 0 := by simp [ht_oCount, c1, c2, c4, c6]
          have hV : nI (ht_in g 1) = (ht_oCount g k y).2.1 := by simp [ht_oCount, c1, c2, c4, c6, ht_up]
          rw [hG] at hP
          exact vx_ret (W.widen (k := 1) (n := 6) (Nat.le_of_ble_eq_true rfl) (Nat.le_of_ble_eq_true rfl) (W.iret (v := nI (ht_in g 1)) hx hb hr (fun t ht hW => ⟨⟨nI (ht_in g 1), (), rfl, ⟨hC, hV⟩, by show va_P D ht_cl (ht_w cA q (ht_oCount g k y).2.2) t.heap; rw [ht]; exact hP⟩, hS.F ht⟩) hS.2.2 dH_count_69))
        ·
          by_cases c8 : y = 4
          · refine lv_tableIn (tgt := 70) (off := 69) hx hb dH_count_1 (by rw [c8]; decide) (by rw [c8]; decide) (by rw [c8]; rfl) (by decide) ?_
            refine lv_aload_n hx hb dH_count_70 rfl (lv_at hl 0 rfl) ?_
            refine lv_iconst (v := 2) hx hb dH_count_71 (by decide) ?_
            refine vp_callSi (va_Run.run (va_runV (As := [.int 2]) (rest := []) ⟨hx, hb, hml, hown, hts⟩ (xH_sectionsInState l D cA q g k hk hn 2) (cwV 1 hts (ht_gV w388 w390 s28 w1 w391) rfl rfl rfl (by decide +kernel) ⟨Nat.le_of_ble_eq_true rfl, Nat.le_of_ble_eq_true rfl⟩) ⟨ht_bl, va_recv hK hP (ci := 1) (q0 := 0) rfl ht_atO, fun U hU hW => ⟨rfl, ht_Im hP hK hN hU hW⟩⟩ rfl rfl hl.1 rfl (lv_room (Nat.le_of_ble_eq_true rfl)) dH_count_72 ⟨Nat.le_of_ble_eq_true rfl, Nat.le_of_ble_eq_true rfl⟩)) (fun r9 hr9 => ?_)
            subst hr9
            have hG : g = (ht_oCount g k y).2.2 := by simp [ht_oCount, c1, c2, c4, c6, c8]
            have hC : (ht_oCount g k y).1 = 0 := by simp [ht_oCount, c1, c2, c4, c6, c8]
            have hV : nI (ht_in g 2) = (ht_oCount g k y).2.1 := by simp [ht_oCount, c1, c2, c4, c6, c8, ht_up]
            rw [hG] at hP
            exact vx_ret (W.widen (k := 1) (n := 6) (Nat.le_of_ble_eq_true rfl) (Nat.le_of_ble_eq_true rfl) (W.iret (v := nI (ht_in g 2)) hx hb hr (fun t ht hW => ⟨⟨nI (ht_in g 2), (), rfl, ⟨hC, hV⟩, by show va_P D ht_cl (ht_w cA q (ht_oCount g k y).2.2) t.heap; rw [ht]; exact hP⟩, hS.F ht⟩) hS.2.2 dH_count_75))
          ·
            by_cases c10 : y = 5
            · refine lv_tableIn (tgt := 76) (off := 75) hx hb dH_count_1 (by rw [c10]; decide) (by rw [c10]; decide) (by rw [c10]; rfl) (by decide) ?_
              refine lv_aload_n hx hb dH_count_76 rfl (lv_at hl 0 rfl) ?_
              refine lv_iconst (v := 3) hx hb dH_count_77 (by decide) ?_
              refine vp_callSi (va_Run.run (va_runV (As := [.int 3]) (rest := []) ⟨hx, hb, hml, hown, hts⟩ (xH_sectionsInState l D cA q g k hk hn 3) (cwV 1 hts (ht_gV w388 w390 s28 w1 w391) rfl rfl rfl (by decide +kernel) ⟨Nat.le_of_ble_eq_true rfl, Nat.le_of_ble_eq_true rfl⟩) ⟨ht_bl, va_recv hK hP (ci := 1) (q0 := 0) rfl ht_atO, fun U hU hW => ⟨rfl, ht_Im hP hK hN hU hW⟩⟩ rfl rfl hl.1 rfl (lv_room (Nat.le_of_ble_eq_true rfl)) dH_count_78 ⟨Nat.le_of_ble_eq_true rfl, Nat.le_of_ble_eq_true rfl⟩)) (fun r11 hr11 => ?_)
              subst hr11
              have hG : g = (ht_oCount g k y).2.2 := by simp [ht_oCount, c1, c2, c4, c6, c8, c10]
              have hC : (ht_oCount g k y).1 = 0 := by simp [ht_oCount, c1, c2, c4, c6, c8, c10]
              have hV : nI (ht_in g 3) = (ht_oCount g k y).2.1 := by simp [ht_oCount, c1, c2, c4, c6, c8, c10, ht_up]
              rw [hG] at hP
              exact vx_ret (W.widen (k := 1) (n := 6) (Nat.le_of_ble_eq_true rfl) (Nat.le_of_ble_eq_true rfl) (W.iret (v := nI (ht_in g 3)) hx hb hr (fun t ht hW => ⟨⟨nI (ht_in g 3), (), rfl, ⟨hC, hV⟩, by show va_P D ht_cl (ht_w cA q (ht_oCount g k y).2.2) t.heap; rw [ht]; exact hP⟩, hS.F ht⟩) hS.2.2 dH_count_81))
            ·
              by_cases c12 : y = 6
              · refine lv_tableIn (tgt := 82) (off := 81) hx hb dH_count_1 (by rw [c12]; decide) (by rw [c12]; decide) (by rw [c12]; rfl) (by decide) ?_
                refine lv_aload_n hx hb dH_count_82 rfl (lv_at hl 0 rfl) ?_
                refine vp_callSi (va_Run.run (va_runV (As := []) (rest := []) ⟨hx, hb, hml, hown, hts⟩ (xH_sectionsWronglyFree l D cA q g k hk hn ) (cwV 0 hts (ht_gV w429 w431 s30 w1 w432) rfl rfl rfl (by decide +kernel) ⟨Nat.le_of_ble_eq_true rfl, Nat.le_of_ble_eq_true rfl⟩) ⟨ht_bl, va_recv hK hP (ci := 1) (q0 := 0) rfl ht_atO, fun U hU hW => ⟨rfl, ht_Im hP hK hN hU hW⟩⟩ rfl rfl hl.1 rfl (lv_room (Nat.le_of_ble_eq_true rfl)) dH_count_83 ⟨Nat.le_of_ble_eq_true rfl, Nat.le_of_ble_eq_true rfl⟩)) (fun r13 hr13 => ?_)
                subst hr13
                have hG : g = (ht_oCount g k y).2.2 := by simp [ht_oCount, c1, c2, c4, c6, c8, c10, c12]
                have hC : (ht_oCount g k y).1 = 0 := by simp [ht_oCount, c1, c2, c4, c6, c8, c10, c12]
                have hV : nI (ht_wrong g k) = (ht_oCount g k y).2.1 := by simp [ht_oCount, c1, c2, c4, c6, c8, c10, c12, ht_up]
                rw [hG] at hP
                exact vx_ret (W.widen (k := 1) (n := 6) (Nat.le_of_ble_eq_true rfl) (Nat.le_of_ble_eq_true rfl) (W.iret (v := nI (ht_wrong g k)) hx hb hr (fun t ht hW => ⟨⟨nI (ht_wrong g k), (), rfl, ⟨hC, hV⟩, by show va_P D ht_cl (ht_w cA q (ht_oCount g k y).2.2) t.heap; rw [ht]; exact hP⟩, hS.F ht⟩) hS.2.2 dH_count_86))
              ·
                by_cases c14 : y = 7
                · refine lv_tableIn (tgt := 87) (off := 86) hx hb dH_count_1 (by rw [c14]; decide) (by rw [c14]; decide) (by rw [c14]; rfl) (by decide) ?_
                  refine lv_aload_n hx hb dH_count_87 rfl (lv_at hl 0 rfl) ?_
                  refine va_get (D := D) (ci := 1) (C := RH) (T := TH) (N := 7) (v := .int (g 0 1)) hx hb hts inH hown hK hP 0 ht_atO rfl 2 (by decide) (hts _ w79) (fun _ h9 => h9) rfl dH_count_88 ?_
                  have hG : g = (ht_oCount g k y).2.2 := by simp [ht_oCount, c1, c2, c4, c6, c8, c10, c12, c14]
                  have hC : (ht_oCount g k y).1 = 0 := by simp [ht_oCount, c1, c2, c4, c6, c8, c10, c12, c14]
                  have hV : g 0 1 = (ht_oCount g k y).2.1 := by simp [ht_oCount, c1, c2, c4, c6, c8, c10, c12, c14, ht_up]
                  rw [hG] at hP
                  exact vx_ret (W.widen (k := 1) (n := 6) (Nat.le_of_ble_eq_true rfl) (Nat.le_of_ble_eq_true rfl) (W.iret (v := g 0 1) hx hb hr (fun t ht hW => ⟨⟨g 0 1, (), rfl, ⟨hC, hV⟩, by show va_P D ht_cl (ht_w cA q (ht_oCount g k y).2.2) t.heap; rw [ht]; exact hP⟩, hS.F ht⟩) hS.2.2 dH_count_91))
                ·
                  have nc1 := lv_neT c1 (a := 0) rfl
                  have nc2 := lv_neT c2 (a := 1) rfl
                  have nc4 := lv_neT c4 (a := 2) rfl
                  have nc6 := lv_neT c6 (a := 3) rfl
                  have nc8 := lv_neT c8 (a := 4) rfl
                  have nc10 := lv_neT c10 (a := 5) rfl
                  have nc12 := lv_neT c12 (a := 6) rfl
                  have nc14 := lv_neT c14 (a := 7) rfl
                  refine lv_tableOut (tgt := 92) hx hb dH_count_1 (by omega) (by decide) ?_
                  obtain ⟨sa, hsa⟩ := hR _ (List.mem_of_getElem? (i := 18) rfl)
                  exact vx_throwS (names := ht_nm) (A := mw_A 14 q s.heap.size) hx hb hl0 hown (by decide) (by decide) (hts _ w108) (hts _ w7) hsa (vx_hat (fun w h => hts w (xg_A w h)) xb_A (fun w h => va_Nw.use (ht_X.on h) (hX w h))) xo_A hZ.1 hZ.2 hS (by rw [hml]; exact hl.1) dH_count_92 dH_count_95 dH_count_96 dH_count_98 dH_count_101 (fun x hx => (htab x hx).elim) (Nat.le_of_ble_eq_true rfl) (Nat.le_of_ble_eq_true rfl) (Nat.le_of_ble_eq_true rfl) (Nat.le_of_ble_eq_true rfl) hlocks (fun t ha hz9 hk9 => ⟨(), trivial, ⟨ht_Px hP hk9, by rw [show (ht_oCount g k y).1 = 1 by simp [ht_oCount, c1, c2, c4, c6, c8, c10, c12, c14]]; exact List.mem_of_getElem? (i := 0) rfl⟩, ht_Fx hS hz9 hk9⟩) hS.2.2 (Nat.le_of_ble_eq_true rfl) (Nat.le_of_ble_eq_true rfl)
end
section
set_option maxHeartbeats 4000000 in
set_option maxRecDepth 100000 in
theorem xH_vehicle (l : Launch) (hl0 : l.stackTraces = false) (D : va_G) (cA : ClassId × ClassId) (q : Nat → Nat) (hJ : mw_J 14 q) (sz : Nat) (g : ht_G) (k : Nat) (hk : k ≤ 8) (hn : g 0 0 = nI k) (x y : Int32) : vx_Met l yH_vehicle kH_vehicle ({ frames := 6, cells := 1, slots := 6, locals := 82 }) (va_Pc [.ref (q 0), .int x, .int y] (ht_E D cA q g sz)) (va_Qi (fun r (_ : Unit) => (ht_oVehicle g k x y).1 = 0 ∧ r = (ht_oVehicle g k x y).2.1) (fun _ t => va_P D ht_cl (ht_w cA q (ht_oVehicle g k x y).2.2) t.heap) (mw_A 14 q sz)) (vx_X (fun _ : Unit => True) (fun E _ t => va_P D ht_cl (ht_w cA q g) t.heap ∧ ((ht_oVehicle g k x y).1, E) ∈ [((1 : Int32), EN), ((2 : Int32), EA)]) (mw_A 14 q sz)) 1 6 (mw_A 14 q sz) := by
  refine vx_ofW (cc := cH_vehicle) (maxL := 4) (ret := (some .int)) (by decide) rfl ?_
  intro p e s m args below meth c s₁ B hml htab hv
  obtain ⟨rfl, hsz, ⟨hP, hK, hN⟩, hX, hR, hZ⟩ := hv
  have hx := B.exec
  have hb := B.bytes
  have hr := B.returns
  have hts := fun w h => atoms_spec (ws := kH_vehicle) B.pre w (List.mem_cons_of_mem _ h)
  have hown : s.vm.findClass RH = some m.cls := findClass_of_methodNamed B.named
  have hlocks := B.notSynchronized
  subst hsz
  have hS : va_S (mw_A 14 q s.heap.size) s.heap s.heap [] := va_S.rf
  have hl := lv_entry ([.ref (q 0), .int x, .int y]) (n := 4) (Nat.le_of_ble_eq_true rfl)
  rw [lg_entry_eq]
  generalize (lg_sl ([.ref (q 0), .int x, .int y]) ++ List.replicate (4 - (lg_sl ([.ref (q 0), .int x, .int y])).length) Slot.unset).toArray = ls at hl ⊢
  have hl : lv_has ls 4 [(0, .ref (q 0)), (1, .int x), (2, .int y)] := hl
  refine lv_aload_n hx hb dH_vehicle_0 rfl (lv_at hl 0 rfl) ?_
  refine lv_iload_n hx hb dH_vehicle_1 rfl (lv_at hl 1 rfl) ?_
  refine vp_callSi (va_Run.run (va_runV (As := [.int x]) (rest := []) ⟨hx, hb, hml, hown, hts⟩ (xH_isOnTrack l D cA q g k hk hn x) (cwV 1 hts (ht_gV w291 w293 s22 w1 w294) rfl rfl rfl (by decide +kernel) ⟨Nat.le_of_ble_eq_true rfl, Nat.le_of_ble_eq_true rfl⟩) ⟨ht_bl, va_recv hK hP (ci := 1) (q0 := 0) rfl ht_atO, fun U hU hW => ⟨rfl, ht_Im hP hK hN hU hW⟩⟩ rfl rfl hl.1 rfl (lv_room (Nat.le_of_ble_eq_true rfl)) dH_vehicle_2 ⟨Nat.le_of_ble_eq_true rfl, Nat.le_of_ble_eq_true rfl⟩)) (fun r1 hr1 => ?_)
  subst hr1
  refine lv_if_ne (tgt := 18) hx hb dH_vehicle_5 (by decide) (fun c2 => ?_) (fun c2 => ?_)
  · replace c2 := ht_b1.mp c2
    obtain ⟨hjk, hxj, -, -⟩ := ht_on_is hk c2
    obtain ⟨j, hxc⟩ : ∃ j, x.toNatClampNeg = j := ⟨_, rfl⟩
    rw [hxc] at hjk hxj
    have hj8 : j < 8 := Nat.lt_of_lt_of_le hjk hk
    refine lv_iload_n hx hb dH_vehicle_18 rfl (lv_at hl 2 rfl) ?_
    refine lv_if_lt (tgt := 27) hx hb dH_vehicle_19 (by decide) (fun c3 => ?_) (fun c3 => ?_)
    · obtain ⟨sa, hsa⟩ := hR _ (List.mem_of_getElem? (i := 16) rfl)
      exact vx_throwS (names := ht_nm) (A := mw_A 14 q s.heap.size) hx hb hl0 hown (by decide) (by decide) (hts _ w108) (hts _ w7) hsa (vx_hat (fun w h => hts w (xg_A w h)) xb_A (fun w h => va_Nw.use (ht_X.on h) (hX w h))) xo_A hZ.1 hZ.2 hS (by rw [hml]; exact hl.1) dH_vehicle_27 dH_vehicle_30 dH_vehicle_31 dH_vehicle_33 dH_vehicle_36 (fun x hx => (htab x hx).elim) (Nat.le_of_ble_eq_true rfl) (Nat.le_of_ble_eq_true rfl) (Nat.le_of_ble_eq_true rfl) (Nat.le_of_ble_eq_true rfl) hlocks (fun t ha hz9 hk9 => ⟨(), trivial, ⟨ht_Px hP hk9, by rw [show (ht_oVehicle g k x y).1 = 2 by simp [ht_oVehicle, c2, hxc, c3]]; exact List.mem_of_getElem? (i := 1) rfl⟩, ht_Fx hS hz9 hk9⟩) hS.2.2 (Nat.le_of_ble_eq_true rfl) (Nat.le_of_ble_eq_true rfl)
    · refine lv_iload_n hx hb dH_vehicle_22 rfl (lv_at hl 2 rfl) ?_
      refine lv_iconst (v := 5) hx hb dH_vehicle_23 (by decide) ?_
      refine lv_icmp_le (tgt := 37) hx hb dH_vehicle_24 (by decide) (fun c4 => ?_) (fun c4 => ?_)
      · refine lv_aload_n hx hb dH_vehicle_37 rfl (lv_at hl 0 rfl) ?_
        refine va_get (D := D) (ci := 1) (C := RH) (T := TH) (N := 7) (v := .ref (q 1)) hx hb hts inH hown hK hP 0 ht_atO rfl 0 (by decide) (hts _ w77) (fun _ h9 => h9) rfl dH_vehicle_38 ?_
        refine lv_iload_n hx hb dH_vehicle_41 rfl (lv_at hl 1 rfl) ?_
        refine ht_ldV hx hb hK hP (j := j) hj8 hxj dH_vehicle_42 ?_
        refine lv_astore_n (lv' := [(3, .ref (q (j + 6))), (0, .ref (q 0)), (1, .int x), (2, .int y)]) hx hb dH_vehicle_43 rfl hl (by decide) rfl (fun ls hl => ?_)
        refine lv_iload_n hx hb dH_vehicle_44 rfl (lv_at hl 3 rfl) ?_
        refine lv_iconst (v := 2) hx hb dH_vehicle_45 (by decide) ?_
        refine lv_icmp_lt (tgt := 66) hx hb dH_vehicle_46 (by decide) (fun c5 => ?_) (fun c5 => ?_)
        · refine lv_iload_n hx hb dH_vehicle_66 rfl (lv_at hl 3 rfl) ?_
          by_cases c6 : y = 0
          · refine lv_tableIn (tgt := 100) (off := 33) hx hb dH_vehicle_67 (by rw [c6]; decide) (by rw [c6]; decide) (by rw [c6]; rfl) (by decide) ?_
            refine lv_aload_n hx hb dH_vehicle_100 rfl (lv_at hl 0 rfl) ?_
            refine va_getN (D := D) (ci := 0) (C := RV) (T := TV) (N := 13) (v := .int (g (5 + j) 2)) hx hb hts inV hown hK hP (j + 6) (ht_atV hj8) rfl 2 (by decide) (hN.use 3 rfl rfl) (fun _ h9 => h9) rfl dH_vehicle_101 ?_
            have hG : g = (ht_oVehicle g k x y).2.2 := by simp [ht_oVehicle, c2, hxc, c3, c4, c5, c6]
            have hC : (ht_oVehicle g k x y).1 = 0 := by simp [ht_oVehicle, c2, hxc, c3, c4, c5, c6]
            have hV : g (5 + j) 2 = (ht_oVehicle g k x y).2.1 := by simp [ht_oVehicle, c2, hxc, c3, c4, c5, c6, ht_up]
            rw [hG] at hP
            exact vx_ret (W.widen (k := 1) (n := 6) (Nat.le_of_ble_eq_true rfl) (Nat.le_of_ble_eq_true rfl) (W.iret (v := g (5 + j) 2) hx hb hr (fun t ht hW => ⟨⟨g (5 + j) 2, (), rfl, ⟨hC, hV⟩, by show va_P D ht_cl (ht_w cA q (ht_oVehicle g k x y).2.2) t.heap; rw [ht]; exact hP⟩, hS.F ht⟩) hS.2.2 dH_vehicle_104))
          ·
            by_cases c7 : y = 1
            · refine lv_tableIn (tgt := 105) (off := 38) hx hb dH_vehicle_67 (by rw [c7]; decide) (by rw [c7]; decide) (by rw [c7]; rfl) (by decide) ?_
              refine lv_aload_n hx hb dH_vehicle_105 rfl (lv_at hl 0 rfl) ?_
              refine va_getN (D := D) (ci := 0) (C := RV) (T := TV) (N := 13) (v := .int (g (5 + j) 3)) hx hb hts inV hown hK hP (j + 6) (ht_atV hj8) rfl 3 (by decide) (hN.use 4 rfl rfl) (fun _ h9 => h9) rfl dH_vehicle_106 ?_
              have hG : g = (ht_oVehicle g k x y).2.2 := by simp [ht_oVehicle, c2, hxc, c3, c4, c5, c6, c7]
              have hC : (ht_oVehicle g k x y).1 = 0 := by simp [ht_oVehicle, c2, hxc, c3, c4, c5, c6, c7]
              have hV : g (5 + j) 3 = (ht_oVehicle g k x y).2.1 := by simp [ht_oVehicle, c2, hxc, c3, c4, c5, c6, c7, ht_up]
              rw [hG] at hP
              exact vx_ret (W.widen (k := 1) (n := 6) (Nat.le_of_ble_eq_true rfl) (Nat.le_of_ble_eq_true rfl) (W.iret (v := g (5 + j) 3) hx hb hr (fun t ht hW => ⟨⟨g (5 + j) 3, (), rfl, ⟨hC, hV⟩, by show va_P D ht_cl (ht_w cA q (ht_oVehicle g k x y).2.2) t.heap; rw [ht]; exact hP⟩, hS.F ht⟩) hS.2.2 dH_vehicle_109))
            ·
              by_cases c8 : y = 2
              · exact absurd c5 (by rw [c8]; decide)
              ·
                by_cases c9 : y = 3
                · exact absurd c5 (by rw [c9]; decide)
                ·
                  by_cases c10 : y = 4
                  · exact absurd c5 (by rw [c10]; decide)
                  ·
                    exact (ht_01 c3 c5 c6 c7).elim
        · refine lv_aload_n hx hb dH_vehicle_49 rfl (lv_at hl 0 rfl) ?_
          refine va_getN (D := D) (ci := 0) (C := RV) (T := TV) (N := 13) (v := .int (g (5 + j) 0)) hx hb hts inV hown hK hP (j + 6) (ht_atV hj8) rfl 0 (by decide) (hN.use 1 rfl rfl) (fun _ h9 => h9) rfl dH_vehicle_50 ?_
          refine lv_if_ne (tgt := 66) hx hb dH_vehicle_53 (by decide) (fun c11 => ?_) (fun c11 => ?_)
          · refine lv_iload_n hx hb dH_vehicle_66 rfl (lv_at hl 3 rfl) ?_
            by_cases c12 : y = 0
            · exact absurd (show y < 2 by rw [c12]; decide) c5
            ·
              by_cases c13 : y = 1
              · exact absurd (show y < 2 by rw [c13]; decide) c5
              ·
                by_cases c14 : y = 2
                · refine lv_tableIn (tgt := 110) (off := 43) hx hb dH_vehicle_67 (by rw [c14]; decide) (by rw [c14]; decide) (by rw [c14]; rfl) (by decide) ?_
                  refine lv_aload_n hx hb dH_vehicle_110 rfl (lv_at hl 0 rfl) ?_
                  refine va_getN (D := D) (ci := 0) (C := RV) (T := TV) (N := 13) (v := .int (g (5 + j) 5)) hx hb hts inV hown hK hP (j + 6) (ht_atV hj8) rfl 5 (by decide) (hN.use 6 rfl rfl) (fun _ h9 => h9) rfl dH_vehicle_111 ?_
                  have hG : g = (ht_oVehicle g k x y).2.2 := by simp [ht_oVehicle, c2, hxc, c3, c4, c5, c11, c12, c13, c14]
                  have hC : (ht_oVehicle g k x y).1 = 0 := by simp [ht_oVehicle, c2, hxc, c3, c4, c5, c11, c12, c13, c14]
                  have hV : g (5 + j) 5 = (ht_oVehicle g k x y).2.1 := by simp [ht_oVehicle, c2, hxc, c3, c4, c5, c11, c12, c13, c14, ht_up]
                  rw [hG] at hP
                  exact vx_ret (W.widen (k := 1) (n := 6) (Nat.le_of_ble_eq_true rfl) (Nat.le_of_ble_eq_true rfl) (W.iret (v := g (5 + j) 5) hx hb hr (fun t ht hW => ⟨⟨g (5 + j) 5, (), rfl, ⟨hC, hV⟩, by show va_P D ht_cl (ht_w cA q (ht_oVehicle g k x y).2.2) t.heap; rw [ht]; exact hP⟩, hS.F ht⟩) hS.2.2 dH_vehicle_114))
                ·
                  by_cases c15 : y = 3
                  · refine lv_tableIn (tgt := 115) (off := 48) hx hb dH_vehicle_67 (by rw [c15]; decide) (by rw [c15]; decide) (by rw [c15]; rfl) (by decide) ?_
                    refine lv_aload_n hx hb dH_vehicle_115 rfl (lv_at hl 0 rfl) ?_
                    refine va_getN (D := D) (ci := 0) (C := RV) (T := TV) (N := 13) (v := .int (g (5 + j) 8)) hx hb hts inV hown hK hP (j + 6) (ht_atV hj8) rfl 8 (by decide) (hN.use 9 rfl rfl) (fun _ h9 => h9) rfl dH_vehicle_116 ?_
                    have hG : g = (ht_oVehicle g k x y).2.2 := by simp [ht_oVehicle, c2, hxc, c3, c4, c5, c11, c12, c13, c14, c15]
                    have hC : (ht_oVehicle g k x y).1 = 0 := by simp [ht_oVehicle, c2, hxc, c3, c4, c5, c11, c12, c13, c14, c15]
                    have hV : g (5 + j) 8 = (ht_oVehicle g k x y).2.1 := by simp [ht_oVehicle, c2, hxc, c3, c4, c5, c11, c12, c13, c14, c15, ht_up]
                    rw [hG] at hP
                    exact vx_ret (W.widen (k := 1) (n := 6) (Nat.le_of_ble_eq_true rfl) (Nat.le_of_ble_eq_true rfl) (W.iret (v := g (5 + j) 8) hx hb hr (fun t ht hW => ⟨⟨g (5 + j) 8, (), rfl, ⟨hC, hV⟩, by show va_P D ht_cl (ht_w cA q (ht_oVehicle g k x y).2.2) t.heap; rw [ht]; exact hP⟩, hS.F ht⟩) hS.2.2 dH_vehicle_119))
                  ·
                    by_cases c16 : y = 4
                    · refine lv_tableIn (tgt := 120) (off := 53) hx hb dH_vehicle_67 (by rw [c16]; decide) (by rw [c16]; decide) (by rw [c16]; rfl) (by decide) ?_
                      refine lv_aload_n hx hb dH_vehicle_120 rfl (lv_at hl 0 rfl) ?_
                      refine va_getN (D := D) (ci := 0) (C := RV) (T := TV) (N := 13) (v := .int (g (5 + j) 9)) hx hb hts inV hown hK hP (j + 6) (ht_atV hj8) rfl 9 (by decide) (hN.use 10 rfl rfl) (fun _ h9 => h9) rfl dH_vehicle_121 ?_
                      have hG : g = (ht_oVehicle g k x y).2.2 := by simp [ht_oVehicle, c2, hxc, c3, c4, c5, c11, c12, c13, c14, c15, c16]
                      have hC : (ht_oVehicle g k x y).1 = 0 := by simp [ht_oVehicle, c2, hxc, c3, c4, c5, c11, c12, c13, c14, c15, c16]
                      have hV : g (5 + j) 9 = (ht_oVehicle g k x y).2.1 := by simp [ht_oVehicle, c2, hxc, c3, c4, c5, c11, c12, c13, c14, c15, c16, ht_up]
                      rw [hG] at hP
                      exact vx_ret (W.widen (k := 1) (n := 6) (Nat.le_of_ble_eq_true rfl) (Nat.le_of_ble_eq_true rfl) (W.iret (v := g (5 + j) 9) hx hb hr (fun t ht hW => ⟨⟨g (5 + j) 9, (), rfl, ⟨hC, hV⟩, by show va_P D ht_cl (ht_w cA q (ht_oVehicle g k x y).2.2) t.heap; rw [ht]; exact hP⟩, hS.F ht⟩) hS.2.2 dH_vehicle_124))
                    ·
                      have nc12 := lv_neT c12 (a := 0) rfl
                      have nc13 := lv_neT c13 (a := 1) rfl
                      have nc14 := lv_neT c14 (a := 2) rfl
                      have nc15 := lv_neT c15 (a := 3) rfl
                      have nc16 := lv_neT c16 (a := 4) rfl
                      refine lv_tableOut (tgt := 125) hx hb dH_vehicle_67 (by omega) (by decide) ?_
                      refine lv_aload_n hx hb dH_vehicle_125 rfl (lv_at hl 0 rfl) ?_
                      refine va_getN (D := D) (ci := 0) (C := RV) (T := TV) (N := 13) (v := .int (g (5 + j) 7)) hx hb hts inV hown hK hP (j + 6) (ht_atV hj8) rfl 7 (by decide) (hN.use 8 rfl rfl) (fun _ h9 => h9) rfl dH_vehicle_126 ?_
                      refine lv_if_eq (tgt := 136) hx hb dH_vehicle_129 (by decide) (fun c17 => ?_) (fun c17 => ?_)
                      · refine lv_iconst (v := 0) hx hb dH_vehicle_136 (by decide) ?_
                        have hG : g = (ht_oVehicle g k x y).2.2 := by simp [ht_oVehicle, c2, hxc, c3, c4, c5, c11, c12, c13, c14, c15, c16, c17]
                        have hC : (ht_oVehicle g k x y).1 = 0 := by simp [ht_oVehicle, c2, hxc, c3, c4, c5, c11, c12, c13, c14, c15, c16, c17]
                        have hV : 0 = (ht_oVehicle g k x y).2.1 := by simp [ht_oVehicle, c2, hxc, c3, c4, c5, c11, c12, c13, c14, c15, c16, c17, ht_up]
                        rw [hG] at hP
                        exact vx_ret (W.widen (k := 1) (n := 6) (Nat.le_of_ble_eq_true rfl) (Nat.le_of_ble_eq_true rfl) (W.iret (v := 0) hx hb hr (fun t ht hW => ⟨⟨0, (), rfl, ⟨hC, hV⟩, by show va_P D ht_cl (ht_w cA q (ht_oVehicle g k x y).2.2) t.heap; rw [ht]; exact hP⟩, hS.F ht⟩) hS.2.2 dH_vehicle_137))
                      · refine lv_iconst (v := 1) hx hb dH_vehicle_132 (by decide) ?_
                        refine lv_goto (tgt := 137) hx hb dH_vehicle_133 (by decide) ?_
                        have hG : g = (ht_oVehicle g k x y).2.2 := by simp [ht_oVehicle, c2, hxc, c3, c4, c5, c11, c12, c13, c14, c15, c16, c17]
                        have hC : (ht_oVehicle g k x y).1 = 0 := by simp [ht_oVehicle, c2, hxc, c3, c4, c5, c11, c12, c13, c14, c15, c16, c17]
                        have hV : 1 = (ht_oVehicle g k x y).2.1 := by simp [ht_oVehicle, c2, hxc, c3, c4, c5, c11, c12, c13, c14, c15, c16, c17, ht_up]
                        rw [hG] at hP
                        exact vx_ret (W.widen (k := 1) (n := 6) (Nat.le_of_ble_eq_true rfl) (Nat.le_of_ble_eq_true rfl) (W.iret (v := 1) hx hb hr (fun t ht hW => ⟨⟨1, (), rfl, ⟨hC, hV⟩, by show va_P D ht_cl (ht_w cA q (ht_oVehicle g k x y).2.2) t.heap; rw [ht]; exact hP⟩, hS.F ht⟩) hS.2.2 dH_vehicle_137))
          · obtain ⟨sa, hsa⟩ := hR _ (List.mem_of_getElem? (i := 17) rfl)
            exact hx_throwS (Y := "java/lang/RuntimeException") (r := ["java/lang/Exception"]) (A := mw_A 14 q s.heap.size) hx hb hl0 hown (by decide) (by decide) (by decide) (hts _ w295) (hts _ w9) hsa (vx_hat (fun w h => hts w (xg_N w h)) xb_N (fun w h => va_Nw.use (ht_X.on h) (hX w h))) xo_N hZ.1 hZ.2 hS (by rw [hml]; exact hl.1) dH_vehicle_56 dH_vehicle_59 dH_vehicle_60 dH_vehicle_62 dH_vehicle_65 (fun x hx => (htab x hx).elim) (Nat.le_of_ble_eq_true rfl) (Nat.le_of_ble_eq_true rfl) (Nat.le_of_ble_eq_true rfl) (Nat.le_of_ble_eq_true rfl) hlocks (fun t ha hz9 hk9 => ⟨(), trivial, ⟨ht_Px hP hk9, by rw [show (ht_oVehicle g k x y).1 = 1 by simp [ht_oVehicle, c2, hxc, c3, c4, c5, c11]]; exact List.mem_of_getElem? (i := 0) rfl⟩, ht_Fx hS hz9 hk9⟩) hS.2.2 (Nat.le_of_ble_eq_true rfl) (Nat.le_of_ble_eq_true rfl)
      · obtain ⟨sa, hsa⟩ := hR _ (List.mem_of_getElem? (i := 16) rfl)
        exact vx_throwS (names := ht_nm) (A := mw_A 14 q s.heap.size) hx hb hl0 hown (by decide) (by decide) (hts _ w108) (hts _ w7) hsa (vx_hat (fun w h => hts w (xg_A w h)) xb_A (fun w h => va_Nw.use (ht_X.on h) (hX w h))) xo_A hZ.1 hZ.2 hS (by rw [hml]; exact hl.1) dH_vehicle_27 dH_vehicle_30 dH_vehicle_31 dH_vehicle_33 dH_vehicle_36 (fun x hx => (htab x hx).elim) (Nat.le_of_ble_eq_true rfl) (Nat.le_of_ble_eq_true rfl) (Nat.le_of_ble_eq_true rfl) (Nat.le_of_ble_eq_true rfl) hlocks (fun t ha hz9 hk9 => ⟨(), trivial, ⟨ht_Px hP hk9, by rw [show (ht_oVehicle g k x y).1 = 2 by simp [ht_oVehicle, c2, hxc, c3, c4]]; exact List.mem_of_getElem? (i := 1) rfl⟩, ht_Fx hS hz9 hk9⟩) hS.2.2 (Nat.le_of_ble_eq_true rfl) (Nat.le_of_ble_eq_true rfl)
  · replace c2 := ht_b0.mp c2
    obtain ⟨sa, hsa⟩ := hR _ (List.mem_of_getElem? (i := 15) rfl)
    exact hx_throwS (Y := "java/lang/RuntimeException") (r := ["java/lang/Exception"]) (A := mw_A 14 q s.heap.size) hx hb hl0 hown (by decide) (by decide) (by decide) (hts _ w295) (hts _ w9) hsa (vx_hat (fun w h => hts w (xg_N w h)) xb_N (fun w h => va_Nw.use (ht_X.on h) (hX w h))) xo_N hZ.1 hZ.2 hS (by rw [hml]; exact hl.1) dH_vehicle_8 dH_vehicle_11 dH_vehicle_12 dH_vehicle_14 dH_vehicle_17 (fun x hx => (htab x hx).elim) (Nat.le_of_ble_eq_true rfl) (Nat.le_of_ble_eq_true rfl) (Nat.le_of_ble_eq_true rfl) (Nat.le_of_ble_eq_true rfl) hlocks (fun t ha hz9 hk9 => ⟨(), trivial, ⟨ht_Px hP hk9, by rw [show (ht_oVehicle g k x y).1 = 1 by simp [ht_oVehicle, c2]]; exact List.mem_of_getElem? (i := 0) rfl⟩, ht_Fx hS hz9 hk9⟩) hS.2.2 (Nat.le_of_ble_eq_true rfl) (Nat.le_of_ble_eq_true rfl)
end
section
set_option maxHeartbeats 4000000 in
set_option maxRecDepth 100000 in
theorem xH_tick (l : Launch) (hl0 : l.stackTraces = false) (D : va_G) (cA : ClassId × ClassId) (q : Nat → Nat) (hJ : mw_J 14 q) (sz : Nat) (g : ht_G) (k : Nat) (hk : k ≤ 8) (hn : g 0 0 = nI k) (hA : ht_al g 3) (hB : ht_bo g 7) (x : Int32) : vx_Met l yH_tick kH_tick ({ frames := 7, cells := 1, slots := 6, locals := 150 }) (va_Pc [.ref (q 0), .int x] (ht_E D cA q g sz)) (va_Qi (fun r (_ : Unit) => (ht_oTick g k x).1 = 0 ∧ r = (ht_oTick g k x).2.1) (fun _ t => va_P D ht_cl (ht_w cA q (ht_oTick g k x).2.2) t.heap) (mw_A 14 q sz)) (vx_X (fun _ : Unit => True) (fun E _ t => va_P D ht_cl (ht_w cA q g) t.heap ∧ ((ht_oTick g k x).1, E) ∈ [((1 : Int32), EA)]) (mw_A 14 q sz)) 1 6 (mw_A 14 q sz) := by
  refine vx_ofW (cc := cH_tick) (maxL := 3) (ret := (some .int)) (by decide) rfl ?_
  intro p e s m args below meth c s₁ B hml htab hv
  obtain ⟨rfl, hsz, ⟨hP, hK, hN⟩, hX, hR, hZ⟩ := hv
  have hx := B.exec
  have hb := B.bytes
  have hr := B.returns
  have hts := fun w h => atoms_spec (ws := kH_tick) B.pre w (List.mem_cons_of_mem _ h)
  have hown : s.vm.findClass RH = some m.cls := findClass_of_methodNamed B.named
  have hlocks := B.notSynchronized
  subst hsz
  have hS : va_S (mw_A 14 q s.heap.size) s.heap s.heap [] := va_S.rf
  have hl := lv_entry ([.ref (q 0), .int x]) (n := 3) (Nat.le_of_ble_eq_true rfl)
  rw [lg_entry_eq]
  generalize (lg_sl ([.ref (q 0), .int x]) ++ List.replicate (3 - (lg_sl ([.ref (q 0), .int x])).length) Slot.unset).toArray = ls at hl ⊢
  have hl : lv_has ls 3 [(0, .ref (q 0)), (1, .int x)] := hl
  have K23 : ∀ (n9 : Nat), ∀ (N n : Nat) (gg : ht_G), (N + 1 ≤ n + n9) → (x = nI N) → (N ≤ 6) → (x.toNatClampNeg = N) → (¬ x < 1) → (x ≤ 6) → (n ≤ N) → (gg = ht_it (fun _ => ht_tick k) n g) → (gg 0 0 = nI k) → (ht_al gg 3) → (ht_bo gg 7) → ∀ (H : Heap) (locs : List Loc), va_P D ht_cl (ht_w cA q gg) H → va_S (mw_A 14 q s.heap.size) s.heap H locs → ∀ (ls : Array Slot), lv_has ls 3 [(0, .ref (q 0)), (1, .int x), (2, .int (nI n))] → W p l e (headSpec kH_tick ({ frames := 7, cells := 1, slots := 6, locals := 150 })).room s m [.ref (q 0), .int x].toArray below meth c H locs 0 0 (vx_MQ below (va_Qi (fun r (_ : Unit) => (ht_oTick g k x).1 = 0 ∧ r = (ht_oTick g k x).2.1) (fun _ t => va_P D ht_cl (ht_w cA q (ht_oTick g k x).2.2) t.heap) (mw_A 14 q s.heap.size)) (vx_X (fun _ : Unit => True) (fun E _ t => va_P D ht_cl (ht_w cA q g) t.heap ∧ ((ht_oTick g k x).1, E) ∈ [((1 : Int32), EA)]) (mw_A 14 q s.heap.size)) [.ref (q 0), .int x].toArray s 1 6 (mw_A 14 q s.heap.size)) (F0 m 23 ls []) := by
    intro n9
    induction n9 with
    | zero =>
      intro N n gg hn9 hxN hN6 hNc hc1 hc2 hnN hgg hng hAg hBg H locs hP hS ls hl
      exact absurd hn9 (by omega)
    | succ n9 ih =>
      intro N n gg hn9 hxN hN6 hNc hc1 hc2 hnN hgg hng hAg hBg H locs hP hS ls hl
      refine lv_iload_n hx hb dH_tick_23 rfl (lv_at hl 2 rfl) ?_
      refine lv_iload_n hx hb dH_tick_24 rfl (lv_at hl 1 rfl) ?_
      refine lv_icmp_ge (tgt := 38) hx hb dH_tick_25 (by decide) (fun c1 => ?_) (fun c1 => ?_)
      · rw [hxN] at c1
        have e9 : n = N := by have h9 := (nI_leI (by omega) (by omega)).mp c1; omega
        rw [e9] at hgg
        refine lv_aload_n hx hb dH_tick_38 rfl (lv_at hl 0 rfl) ?_
        refine lv_iconst (v := 0) hx hb dH_tick_39 (by decide) ?_
        refine vp_callSi (va_Run.run (va_runV (As := [.int 0]) (rest := []) ⟨hx, hb, hml, hown, hts⟩ (xH_sectionsInState l D cA q gg k hk hng 0) (cwV 1 hts (ht_gV w388 w390 s28 w1 w391) rfl rfl rfl (by decide +kernel) ⟨Nat.le_of_ble_eq_true rfl, Nat.le_of_ble_eq_true rfl⟩) ⟨ht_bl, va_recv hK hP (ci := 1) (q0 := 0) rfl ht_atO, fun U hU hW => ⟨rfl, ht_Im hP hK hN hU hW⟩⟩ rfl rfl hl.1 rfl (lv_room (Nat.le_of_ble_eq_true rfl)) dH_tick_40 ⟨Nat.le_of_ble_eq_true rfl, Nat.le_of_ble_eq_true rfl⟩)) (fun r2 hr2 => ?_)
        subst hr2
        have hG : gg = (ht_oTick g k x).2.2 := by rw [hgg]; simp [ht_oTick, hc1, hc2, hNc]
        have hC : (ht_oTick g k x).1 = 0 := by simp [ht_oTick, hc1, hc2]
        have hV : nI (ht_in gg 0) = (ht_oTick g k x).2.1 := by rw [hgg]; simp [ht_oTick, hc1, hc2, hNc]
        rw [hG] at hP
        exact vx_ret (W.widen (k := 1) (n := 6) (Nat.le_of_ble_eq_true rfl) (Nat.le_of_ble_eq_true rfl) (W.iret (v := nI (ht_in gg 0)) hx hb hr (fun t ht hW => ⟨⟨nI (ht_in gg 0), (), rfl, ⟨hC, hV⟩, by show va_P D ht_cl (ht_w cA q (ht_oTick g k x).2.2) t.heap; rw [ht]; exact hP⟩, hS.F ht⟩) hS.2.2 dH_tick_43))
      · rw [hxN] at c1
        have hlt : n < N := Nat.not_le.mp (fun h => c1 (nI_le h (by omega)))
        refine lv_aload_n hx hb dH_tick_28 rfl (lv_at hl 0 rfl) ?_
        refine va_callv (va_runV (As := []) (rest := []) ⟨hx, hb, hml, hown, hts⟩ (xH_makeTick l D cA q hJ _ gg k hk hng hAg hBg) (cwV 0 hts (ht_gV w376 w378 s25 w1 w379) rfl rfl rfl (by decide +kernel) ⟨Nat.le_of_ble_eq_true rfl, Nat.le_of_ble_eq_true rfl⟩) ⟨ht_bls, va_recv hK hP (ci := 1) (q0 := 0) rfl ht_atO, fun U hU hW => ⟨rfl, by rw [hU], ht_Im hP hK hN hU hW⟩⟩ rfl rfl hl.1 rfl (lv_room (Nat.le_of_ble_eq_true rfl)) dH_tick_29 ⟨Nat.le_of_ble_eq_true rfl, Nat.le_of_ble_eq_true rfl⟩) hS mw_AA (mw_AF hS.1) (fun u3 t3 H locs ht3 hvm3 hw3 hB3 hz3 hk3 hS => ?_)
        have hP := hB3.1
        rw [ht3] at hP
        obtain ⟨g4, eg4⟩ : ∃ y9 : ht_G, y9 = ht_tick k gg := ⟨_, rfl⟩
        rw [← eg4] at hP
        refine lv_iinc (v := nI (n + 1)) (lv' := [(2, .int (nI (n + 1))), (0, .ref (q 0)), (1, .int x)]) hx hb dH_tick_32 hl (k := 2) rfl (nI_1 _) (by decide) rfl (fun ls hl => ?_)
        refine lv_goto (tgt := 23) hx hb dH_tick_35 (by decide) ?_
        exact ih N (n + 1) g4 (by omega) hxN hN6 hNc hc1 hc2 (by omega) (by rw [eg4, hgg]; rfl) (by rw [eg4, ht_tick_n]; exact hng) (by rw [eg4]; exact ht_tick_al hk hAg) (by rw [eg4]; exact ht_tick_bo hBg) _ _ hP hS ls (lv_sub hl [1, 2, 0] rfl)
  refine lv_iload_n hx hb dH_tick_0 rfl (lv_at hl 1 rfl) ?_
  refine lv_iconst (v := 1) hx hb dH_tick_1 (by decide) ?_
  refine lv_icmp_lt (tgt := 11) hx hb dH_tick_2 (by decide) (fun c5 => ?_) (fun c5 => ?_)
  · obtain ⟨sa, hsa⟩ := hR _ (List.mem_of_getElem? (i := 12) rfl)
    exact vx_throwS (names := ht_nm) (A := mw_A 14 q s.heap.size) hx hb hl0 hown (by decide) (by decide) (hts _ w108) (hts _ w7) hsa (vx_hat (fun w h => hts w (xg_A w h)) xb_A (fun w h => va_Nw.use (ht_X.on h) (hX w h))) xo_A hZ.1 hZ.2 hS (by rw [hml]; exact hl.1) dH_tick_11 dH_tick_14 dH_tick_15 dH_tick_17 dH_tick_20 (fun x hx => (htab x hx).elim) (Nat.le_of_ble_eq_true rfl) (Nat.le_of_ble_eq_true rfl) (Nat.le_of_ble_eq_true rfl) (Nat.le_of_ble_eq_true rfl) hlocks (fun t ha hz9 hk9 => ⟨(), trivial, ⟨ht_Px hP hk9, by rw [show (ht_oTick g k x).1 = 1 by simp [ht_oTick, c5]]; exact List.mem_of_getElem? (i := 0) rfl⟩, ht_Fx hS hz9 hk9⟩) hS.2.2 (Nat.le_of_ble_eq_true rfl) (Nat.le_of_ble_eq_true rfl)
  · refine lv_iload_n hx hb dH_tick_5 rfl (lv_at hl 1 rfl) ?_
    refine lv_bipush (v := 6) hx hb dH_tick_6 (by decide) ?_
    refine lv_icmp_le (tgt := 21) hx hb dH_tick_8 (by decide) (fun c6 => ?_) (fun c6 => ?_)
    · obtain ⟨N, hN6, hxN, hNc⟩ := ht_t6 c5 c6
      refine lv_iconst (v := 0) hx hb dH_tick_21 (by decide) ?_
      refine lv_istore_n (lv' := [(2, .int 0), (0, .ref (q 0)), (1, .int x)]) hx hb dH_tick_22 rfl hl (by decide) rfl (fun ls hl => ?_)
      exact K23 (N + 1) N 0 g (by omega) hxN hN6 hNc c5 c6 (by omega) rfl hn hA hB _ _ hP hS ls (lv_sub hl [1, 2, 0] rfl)
    · obtain ⟨sa, hsa⟩ := hR _ (List.mem_of_getElem? (i := 12) rfl)
      exact vx_throwS (names := ht_nm) (A := mw_A 14 q s.heap.size) hx hb hl0 hown (by decide) (by decide) (hts _ w108) (hts _ w7) hsa (vx_hat (fun w h => hts w (xg_A w h)) xb_A (fun w h => va_Nw.use (ht_X.on h) (hX w h))) xo_A hZ.1 hZ.2 hS (by rw [hml]; exact hl.1) dH_tick_11 dH_tick_14 dH_tick_15 dH_tick_17 dH_tick_20 (fun x hx => (htab x hx).elim) (Nat.le_of_ble_eq_true rfl) (Nat.le_of_ble_eq_true rfl) (Nat.le_of_ble_eq_true rfl) (Nat.le_of_ble_eq_true rfl) hlocks (fun t ha hz9 hk9 => ⟨(), trivial, ⟨ht_Px hP hk9, by rw [show (ht_oTick g k x).1 = 1 by simp [ht_oTick, c5, c6]]; exact List.mem_of_getElem? (i := 0) rfl⟩, ht_Fx hS hz9 hk9⟩) hS.2.2 (Nat.le_of_ble_eq_true rfl) (Nat.le_of_ble_eq_true rfl)
end
section
set_option maxHeartbeats 4000000 in
set_option maxRecDepth 100000 in
theorem xH_enter (l : Launch) (hl0 : l.stackTraces = false) (D : va_G) (cA : ClassId × ClassId) (q : Nat → Nat) (hJ : mw_J 14 q) (sz : Nat) (g : ht_G) (k : Nat) (hk : k ≤ 8) (hn : g 0 0 = nI k) (hA : ht_al g 3) (x y : Int32) : vx_Met l yH_enter kH_enter ({ frames := 6, cells := 1, slots := 6, locals := 129 }) (va_Pc [.ref (q 0), .int x, .int y] (ht_E D cA q g sz)) (va_Qi (fun r (_ : Unit) => (ht_oEnter g k x y).1 = 0 ∧ r = (ht_oEnter g k x y).2.1) (fun _ t => va_P D ht_cl (ht_w cA q (ht_oEnter g k x y).2.2) t.heap) (mw_A 14 q sz)) (vx_X (fun _ : Unit => True) (fun E _ t => va_P D ht_cl (ht_w cA q g) t.heap ∧ ((ht_oEnter g k x y).1, E) ∈ [((1 : Int32), EA), ((2 : Int32), ES)]) (mw_A 14 q sz)) 1 6 (mw_A 14 q sz) := by
  refine vx_ofW (cc := cH_enter) (maxL := 4) (ret := (some .int)) (by decide) rfl ?_
  intro p e s m args below meth c s₁ B hml htab hv
  obtain ⟨rfl, hsz, ⟨hP, hK, hN⟩, hX, hR, hZ⟩ := hv
  have hx := B.exec
  have hb := B.bytes
  have hr := B.returns
  have hts := fun w h => atoms_spec (ws := kH_enter) B.pre w (List.mem_cons_of_mem _ h)
  have hown : s.vm.findClass RH = some m.cls := findClass_of_methodNamed B.named
  have hlocks := B.notSynchronized
  subst hsz
  have hS : va_S (mw_A 14 q s.heap.size) s.heap s.heap [] := va_S.rf
  have hl := lv_entry ([.ref (q 0), .int x, .int y]) (n := 4) (Nat.le_of_ble_eq_true rfl)
  rw [lg_entry_eq]
  generalize (lg_sl ([.ref (q 0), .int x, .int y]) ++ List.replicate (4 - (lg_sl ([.ref (q 0), .int x, .int y])).length) Slot.unset).toArray = ls at hl ⊢
  have hl : lv_has ls 4 [(0, .ref (q 0)), (1, .int x), (2, .int y)] := hl
  refine lv_iload_n hx hb dH_enter_0 rfl (lv_at hl 2 rfl) ?_
  refine lv_iconst (v := 1) hx hb dH_enter_1 (by decide) ?_
  refine lv_icmp_lt (tgt := 11) hx hb dH_enter_2 (by decide) (fun c1 => ?_) (fun c1 => ?_)
  · obtain ⟨sa, hsa⟩ := hR _ (List.mem_of_getElem? (i := 0) rfl)
    exact vx_throwS (names := ht_nm) (A := mw_A 14 q s.heap.size) hx hb hl0 hown (by decide) (by decide) (hts _ w108) (hts _ w7) hsa (vx_hat (fun w h => hts w (xg_A w h)) xb_A (fun w h => va_Nw.use (ht_X.on h) (hX w h))) xo_A hZ.1 hZ.2 hS (by rw [hml]; exact hl.1) dH_enter_11 dH_enter_14 dH_enter_15 dH_enter_17 dH_enter_20 (fun x hx => (htab x hx).elim) (Nat.le_of_ble_eq_true rfl) (Nat.le_of_ble_eq_true rfl) (Nat.le_of_ble_eq_true rfl) (Nat.le_of_ble_eq_true rfl) hlocks (fun t ha hz9 hk9 => ⟨(), trivial, ⟨ht_Px hP hk9, by rw [show (ht_oEnter g k x y).1 = 1 by simp [ht_oEnter, c1]]; exact List.mem_of_getElem? (i := 0) rfl⟩, ht_Fx hS hz9 hk9⟩) hS.2.2 (Nat.le_of_ble_eq_true rfl) (Nat.le_of_ble_eq_true rfl)
  · refine lv_iload_n hx hb dH_enter_5 rfl (lv_at hl 2 rfl) ?_
    refine lv_bipush (v := 40) hx hb dH_enter_6 (by decide) ?_
    refine lv_icmp_le (tgt := 21) hx hb dH_enter_8 (by decide) (fun c2 => ?_) (fun c2 => ?_)
    · refine lv_iload_n hx hb dH_enter_21 rfl (lv_at hl 1 rfl) ?_
      refine lv_if_lt (tgt := 39) hx hb dH_enter_22 (by decide) (fun c3 => ?_) (fun c3 => ?_)
      · obtain ⟨sa, hsa⟩ := hR _ (List.mem_of_getElem? (i := 1) rfl)
        exact vx_throwS (names := ht_nm) (A := mw_A 14 q s.heap.size) hx hb hl0 hown (by decide) (by decide) (hts _ w108) (hts _ w7) hsa (vx_hat (fun w h => hts w (xg_A w h)) xb_A (fun w h => va_Nw.use (ht_X.on h) (hX w h))) xo_A hZ.1 hZ.2 hS (by rw [hml]; exact hl.1) dH_enter_39 dH_enter_42 dH_enter_43 dH_enter_45 dH_enter_48 (fun x hx => (htab x hx).elim) (Nat.le_of_ble_eq_true rfl) (Nat.le_of_ble_eq_true rfl) (Nat.le_of_ble_eq_true rfl) (Nat.le_of_ble_eq_true rfl) hlocks (fun t ha hz9 hk9 => ⟨(), trivial, ⟨ht_Px hP hk9, by rw [show (ht_oEnter g k x y).1 = 1 by simp [ht_oEnter, c1, c2, c3]]; exact List.mem_of_getElem? (i := 0) rfl⟩, ht_Fx hS hz9 hk9⟩) hS.2.2 (Nat.le_of_ble_eq_true rfl) (Nat.le_of_ble_eq_true rfl)
      · refine lv_iload_n hx hb dH_enter_25 rfl (lv_at hl 1 rfl) ?_
        refine lv_bipush (v := 120) hx hb dH_enter_26 (by decide) ?_
        refine lv_icmp_ge (tgt := 39) hx hb dH_enter_28 (by decide) (fun c4 => ?_) (fun c4 => ?_)
        · obtain ⟨sa, hsa⟩ := hR _ (List.mem_of_getElem? (i := 1) rfl)
          exact vx_throwS (names := ht_nm) (A := mw_A 14 q s.heap.size) hx hb hl0 hown (by decide) (by decide) (hts _ w108) (hts _ w7) hsa (vx_hat (fun w h => hts w (xg_A w h)) xb_A (fun w h => va_Nw.use (ht_X.on h) (hX w h))) xo_A hZ.1 hZ.2 hS (by rw [hml]; exact hl.1) dH_enter_39 dH_enter_42 dH_enter_43 dH_enter_45 dH_enter_48 (fun x hx => (htab x hx).elim) (Nat.le_of_ble_eq_true rfl) (Nat.le_of_ble_eq_true rfl) (Nat.le_of_ble_eq_true rfl) (Nat.le_of_ble_eq_true rfl) hlocks (fun t ha hz9 hk9 => ⟨(), trivial, ⟨ht_Px hP hk9, by rw [show (ht_oEnter g k x y).1 = 1 by simp [ht_oEnter, c1, c2, c3, c4]]; exact List.mem_of_getElem? (i := 0) rfl⟩, ht_Fx hS hz9 hk9⟩) hS.2.2 (Nat.le_of_ble_eq_true rfl) (Nat.le_of_ble_eq_true rfl)
        · refine lv_iload_n hx hb dH_enter_31 rfl (lv_at hl 1 rfl) ?_
          refine lv_iload_n hx hb dH_enter_32 rfl (lv_at hl 2 rfl) ?_
          refine lv_isub hx hb dH_enter_33 ?_
          refine lv_iconst (v := 1) hx hb dH_enter_34 (by decide) ?_
          refine lv_iadd hx hb dH_enter_35 ?_
          refine lv_if_ge (tgt := 49) hx hb dH_enter_36 (by decide) (fun c5 => ?_) (fun c5 => ?_)
          · refine lv_aload_n hx hb dH_enter_49 rfl (lv_at hl 0 rfl) ?_
            refine va_get (D := D) (ci := 1) (C := RH) (T := TH) (N := 7) (v := .int (g 0 0)) hx hb hts inH hown hK hP 0 ht_atO rfl 1 (by decide) (hts _ w78) (fun _ h9 => h9) rfl dH_enter_50 ?_
            refine lv_bipush (v := 8) hx hb dH_enter_53 (by decide) ?_
            refine lv_icmp_lt (tgt := 68) hx hb dH_enter_55 (by decide) (fun c6 => ?_) (fun c6 => ?_)
            · have hk8 : k < 8 := ht_lt8 hk hn c6
              refine lv_iload_n hx hb dH_enter_68 rfl (lv_at hl 1 rfl) ?_
              refine lv_iload_n hx hb dH_enter_69 rfl (lv_at hl 2 rfl) ?_
              refine lv_isub hx hb dH_enter_70 ?_
              refine lv_iconst (v := 1) hx hb dH_enter_71 (by decide) ?_
              refine lv_iadd hx hb dH_enter_72 ?_
              refine lv_istore_n (lv' := [(3, .int ((x - y) + 1)), (0, .ref (q 0)), (1, .int x), (2, .int y)]) hx hb dH_enter_73 rfl hl (by decide) rfl (fun ls hl => ?_)
              refine lv_aload_n hx hb dH_enter_74 rfl (lv_at hl 1 rfl) ?_
              refine lv_iload_n hx hb dH_enter_75 rfl (lv_at hl 0 rfl) ?_
              refine lv_iload_n hx hb dH_enter_76 rfl (lv_at hl 2 rfl) ?_
              refine vp_callSi (va_Run.run (va_runV (As := [.int ((x - y) + 1), .int x]) (rest := []) ⟨hx, hb, hml, hown, hts⟩ (xH_isStoodOn l D cA q g k hk hn ((x - y) + 1) x) (cwV 2 hts (ht_gV w193 w195 s1 w1 w196) rfl rfl rfl (by decide +kernel) ⟨Nat.le_of_ble_eq_true rfl, Nat.le_of_ble_eq_true rfl⟩) ⟨ht_bl, va_recv hK hP (ci := 1) (q0 := 0) rfl ht_atO, fun U hU hW => ⟨rfl, ht_Im hP hK hN hU hW⟩⟩ rfl rfl hl.1 rfl (lv_room (Nat.le_of_ble_eq_true rfl)) dH_enter_77 ⟨Nat.le_of_ble_eq_true rfl, Nat.le_of_ble_eq_true rfl⟩)) (fun r7 hr7 => ?_)
              subst hr7
              refine lv_if_eq (tgt := 93) hx hb dH_enter_80 (by decide) (fun c8 => ?_) (fun c8 => ?_)
              · replace c8 := ht_b0.mp c8
                refine lv_aload_n hx hb dH_enter_93 rfl (lv_at hl 1 rfl) ?_
                refine lv_iload_n hx hb dH_enter_94 rfl (lv_at hl 0 rfl) ?_
                refine vp_callSi (va_Run.run (va_runS (As := [.int ((x - y) + 1)]) (rest := [.ref (q 0)]) ⟨hx, hb, hml, hown, hts⟩ (xH_sectionOf l D cA q g ((x - y) + 1)) (cwS 1 hts (ht_gS w206 w207 w1 w208) rfl rfl rfl (by decide +kernel) ⟨Nat.le_of_ble_eq_true rfl, Nat.le_of_ble_eq_true rfl⟩) ⟨ht_bl, fun U hU hW => ⟨rfl, ht_Im hP hK hN hU hW⟩⟩ rfl rfl hl.1 rfl (lv_room (Nat.le_of_ble_eq_true rfl)) dH_enter_95 ⟨Nat.le_of_ble_eq_true rfl, Nat.le_of_ble_eq_true rfl⟩)) (fun r9 hr9 => ?_)
                subst hr9
                refine lv_iload_n hx hb dH_enter_98 rfl (lv_at hl 2 rfl) ?_
                refine vp_callSi (va_Run.run (va_runS (As := [.int x]) (rest := [.int (((x - y) + 1) / 10), .ref (q 0)]) ⟨hx, hb, hml, hown, hts⟩ (xH_sectionOf l D cA q g x) (cwS 1 hts (ht_gS w206 w207 w1 w208) rfl rfl rfl (by decide +kernel) ⟨Nat.le_of_ble_eq_true rfl, Nat.le_of_ble_eq_true rfl⟩) ⟨ht_bl, fun U hU hW => ⟨rfl, ht_Im hP hK hN hU hW⟩⟩ rfl rfl hl.1 rfl (lv_room (Nat.le_of_ble_eq_true rfl)) dH_enter_99 ⟨Nat.le_of_ble_eq_true rfl, Nat.le_of_ble_eq_true rfl⟩)) (fun r10 hr10 => ?_)
                subst hr10
                refine lv_iconst (v := (-1)) hx hb dH_enter_102 (by decide) ?_
                refine vp_callSi (va_Run.run (va_runV (As := [.int (((x - y) + 1) / 10), .int (x / 10), .int (-1 : Int32)]) (rest := []) ⟨hx, hb, hml, hown, hts⟩ (xH_isAnyClaimed l D cA q g k hk hn (((x - y) + 1) / 10) (x / 10) (-1 : Int32)) (cwV 3 hts (ht_gV w209 w211 s4 w1 w212) rfl rfl rfl (by decide +kernel) ⟨Nat.le_of_ble_eq_true rfl, Nat.le_of_ble_eq_true rfl⟩) ⟨ht_bl, va_recv hK hP (ci := 1) (q0 := 0) rfl ht_atO, fun U hU hW => ⟨rfl, ht_Im hP hK hN hU hW⟩⟩ rfl rfl hl.1 rfl (lv_room (Nat.le_of_ble_eq_true rfl)) dH_enter_103 ⟨Nat.le_of_ble_eq_true rfl, Nat.le_of_ble_eq_true rfl⟩)) (fun r11 hr11 => ?_)
                subst hr11
                refine lv_if_eq (tgt := 119) hx hb dH_enter_106 (by decide) (fun c12 => ?_) (fun c12 => ?_)
                · replace c12 := ht_b0.mp c12
                  refine lv_aload_n hx hb dH_enter_119 rfl (lv_at hl 1 rfl) ?_
                  refine va_get (D := D) (ci := 1) (C := RH) (T := TH) (N := 7) (v := .ref (q 1)) hx hb hts inH hown hK hP 0 ht_atO rfl 0 (by decide) (hts _ w77) (fun _ h9 => h9) rfl dH_enter_120 ?_
                  refine lv_aload_n hx hb dH_enter_123 rfl (lv_at hl 1 rfl) ?_
                  refine va_get (D := D) (ci := 1) (C := RH) (T := TH) (N := 7) (v := .int (g 0 0)) hx hb hts inH hown hK hP 0 ht_atO rfl 1 (by decide) (hts _ w78) (fun _ h9 => h9) rfl dH_enter_124 ?_
                  refine ht_ldV hx hb hK hP (j := k) hk8 hn dH_enter_127 ?_
                  refine lv_iload_n hx hb dH_enter_128 rfl (lv_at hl 2 rfl) ?_
                  refine lv_iload_n hx hb dH_enter_129 rfl (lv_at hl 3 rfl) ?_
                  refine va_callv (va_runVN (As := [.int x, .int y]) (rest := []) ⟨hx, hb, hml, hown, hts⟩ (xV_becomeTrain l D cA q hJ _ g k hk8 x y ) ⟨va_cnB 2 hts (ht_gW w221) rfl rfl rfl (hN _ (List.mem_of_getElem? (i := 14) rfl)) (hts _ w2) (by decide +kernel) ⟨Nat.le_of_ble_eq_true rfl, Nat.le_of_ble_eq_true rfl⟩, hts _ w220, hts _ s6⟩ ⟨ht_bls, va_recv hK hP (ci := 0) (q0 := k + 6) rfl (ht_atV hk8), fun U hU hW => ⟨rfl, by rw [hU], ht_Im hP hK hN hU hW⟩⟩ rfl rfl hl.1 rfl (lv_room (Nat.le_of_ble_eq_true rfl)) dH_enter_130 ⟨Nat.le_of_ble_eq_true rfl, Nat.le_of_ble_eq_true rfl⟩) hS mw_AA (mw_AF hS.1) (fun u13 t13 H locs ht13 hvm13 hw13 hB13 hz13 hk13 hS => ?_)
                  have hP := hB13.1
                  rw [ht13] at hP
                  obtain ⟨g14, eg14⟩ : ∃ y9 : ht_G, y9 = ht_become k x y g := ⟨_, rfl⟩
                  rw [← eg14] at hP
                  refine lv_aload_n hx hb dH_enter_133 rfl (lv_at hl 1 rfl) ?_
                  refine lv_dup hx hb dH_enter_134 rfl ?_
                  refine va_get (D := D) (ci := 1) (C := RH) (T := TH) (N := 7) (v := .int (g14 0 0)) hx hb hts inH hown hK hP 0 ht_atO rfl 1 (by decide) (hts _ w78) (fun _ h9 => h9) rfl dH_enter_135 ?_
                  refine lv_iconst (v := 1) hx hb dH_enter_138 (by decide) ?_
                  refine lv_iadd hx hb dH_enter_139 ?_
                  refine va_put (D := D) (ci := 1) (C := RH) (T := TH) (N := 7) (v := .int ((g14 0 0) + 1)) (ty := .int) hx hb hts inH tyH tyH_ok nmH hown hK hP (mw_DA hJ) hS 0 ht_atO rfl 1 (by decide) (hts _ w78) (fun _ h9 => h9) rfl rfl rfl rfl (Nat.le_of_ble_eq_true rfl) dH_enter_140 (fun H locs hP _ hS => ?_)
                  rw [ht_stC] at hP
                  obtain ⟨g15, eg15⟩ : ∃ y9 : ht_G, y9 = ht_up g14 0 0 ((g14 0 0) + 1) := ⟨_, rfl⟩
                  rw [← eg15] at hP
                  refine lv_aload_n hx hb dH_enter_143 rfl (lv_at hl 1 rfl) ?_
                  refine va_callv (va_runV (As := []) (rest := []) ⟨hx, hb, hml, hown, hts⟩ (xH_findStates l D cA q hJ _ g15 (k + 1) (by omega) (by rw [eg15, ht_up_s, eg14, ht_become_o (by decide), hn]; exact nI_1 k) (ht_al_of hA (fun z _ => by rw [eg15, ht_up_r (by decide), eg14, ht_become_o (by decide)]))) (cwV 0 hts (ht_gV w226 w228 s8 w1 w229) rfl rfl rfl (by decide +kernel) ⟨Nat.le_of_ble_eq_true rfl, Nat.le_of_ble_eq_true rfl⟩) ⟨ht_bls, va_recv hK hP (ci := 1) (q0 := 0) rfl ht_atO, fun U hU hW => ⟨rfl, by rw [hU], ht_Im hP hK hN hU hW⟩⟩ rfl rfl hl.1 rfl (lv_room (Nat.le_of_ble_eq_true rfl)) dH_enter_144 ⟨Nat.le_of_ble_eq_true rfl, Nat.le_of_ble_eq_true rfl⟩) hS mw_AA (mw_AF hS.1) (fun u16 t16 H locs ht16 hvm16 hw16 hB16 hz16 hk16 hS => ?_)
                  have hP := hB16.1
                  rw [ht16] at hP
                  obtain ⟨g17, eg17⟩ : ∃ y9 : ht_G, y9 = ht_find (k + 1) g15 := ⟨_, rfl⟩
                  rw [← eg17] at hP
                  refine lv_aload_n hx hb dH_enter_147 rfl (lv_at hl 1 rfl) ?_
                  refine va_get (D := D) (ci := 1) (C := RH) (T := TH) (N := 7) (v := .int (g17 0 0)) hx hb hts inH hown hK hP 0 ht_atO rfl 1 (by decide) (hts _ w78) (fun _ h9 => h9) rfl dH_enter_148 ?_
                  refine lv_iconst (v := 1) hx hb dH_enter_151 (by decide) ?_
                  refine lv_isub hx hb dH_enter_152 ?_
                  have hG : g17 = (ht_oEnter g k x y).2.2 := by rw [eg17, eg15, eg14]; simp [ht_oEnter, c1, c2, c3, c4, c5, c6, c8, c12]
                  have hC : (ht_oEnter g k x y).1 = 0 := by simp [ht_oEnter, c1, c2, c3, c4, c5, c6, c8, c12]
                  have hV : (g17 0 0) - 1 = (ht_oEnter g k x y).2.1 := by rw [eg17, eg15, eg14]; simp [ht_oEnter, c1, c2, c3, c4, c5, c6, c8, c12]
                  rw [hG] at hP
                  exact vx_ret (W.widen (k := 1) (n := 6) (Nat.le_of_ble_eq_true rfl) (Nat.le_of_ble_eq_true rfl) (W.iret (v := (g17 0 0) - 1) hx hb hr (fun t ht hW => ⟨⟨(g17 0 0) - 1, (), rfl, ⟨hC, hV⟩, by show va_P D ht_cl (ht_w cA q (ht_oEnter g k x y).2.2) t.heap; rw [ht]; exact hP⟩, hS.F ht⟩) hS.2.2 dH_enter_153))
                · replace c12 := ht_b1.mp c12
                  obtain ⟨sa, hsa⟩ := hR _ (List.mem_of_getElem? (i := 4) rfl)
                  exact vx_throwS (names := ht_nm) (A := mw_A 14 q s.heap.size) hx hb hl0 hown (by decide) (by decide) (hts _ w177) (hts _ w8) hsa (vx_hat (fun w h => hts w (xg_S w h)) xb_S (fun w h => va_Nw.use (ht_X.on h) (hX w h))) xo_S hZ.1 hZ.2 hS (by rw [hml]; exact hl.1) dH_enter_109 dH_enter_112 dH_enter_113 dH_enter_115 dH_enter_118 (fun x hx => (htab x hx).elim) (Nat.le_of_ble_eq_true rfl) (Nat.le_of_ble_eq_true rfl) (Nat.le_of_ble_eq_true rfl) (Nat.le_of_ble_eq_true rfl) hlocks (fun t ha hz9 hk9 => ⟨(), trivial, ⟨ht_Px hP hk9, by rw [show (ht_oEnter g k x y).1 = 2 by simp [ht_oEnter, c1, c2, c3, c4, c5, c6, c8, c12]]; exact List.mem_of_getElem? (i := 1) rfl⟩, ht_Fx hS hz9 hk9⟩) hS.2.2 (Nat.le_of_ble_eq_true rfl) (Nat.le_of_ble_eq_true rfl)
              · replace c8 := ht_b1.mp c8
                obtain ⟨sa, hsa⟩ := hR _ (List.mem_of_getElem? (i := 3) rfl)
                exact vx_throwS (names := ht_nm) (A := mw_A 14 q s.heap.size) hx hb hl0 hown (by decide) (by decide) (hts _ w177) (hts _ w8) hsa (vx_hat (fun w h => hts w (xg_S w h)) xb_S (fun w h => va_Nw.use (ht_X.on h) (hX w h))) xo_S hZ.1 hZ.2 hS (by rw [hml]; exact hl.1) dH_enter_83 dH_enter_86 dH_enter_87 dH_enter_89 dH_enter_92 (fun x hx => (htab x hx).elim) (Nat.le_of_ble_eq_true rfl) (Nat.le_of_ble_eq_true rfl) (Nat.le_of_ble_eq_true rfl) (Nat.le_of_ble_eq_true rfl) hlocks (fun t ha hz9 hk9 => ⟨(), trivial, ⟨ht_Px hP hk9, by rw [show (ht_oEnter g k x y).1 = 2 by simp [ht_oEnter, c1, c2, c3, c4, c5, c6, c8]]; exact List.mem_of_getElem? (i := 1) rfl⟩, ht_Fx hS hz9 hk9⟩) hS.2.2 (Nat.le_of_ble_eq_true rfl) (Nat.le_of_ble_eq_true rfl)
            · obtain ⟨sa, hsa⟩ := hR _ (List.mem_of_getElem? (i := 2) rfl)
              exact vx_throwS (names := ht_nm) (A := mw_A 14 q s.heap.size) hx hb hl0 hown (by decide) (by decide) (hts _ w177) (hts _ w8) hsa (vx_hat (fun w h => hts w (xg_S w h)) xb_S (fun w h => va_Nw.use (ht_X.on h) (hX w h))) xo_S hZ.1 hZ.2 hS (by rw [hml]; exact hl.1) dH_enter_58 dH_enter_61 dH_enter_62 dH_enter_64 dH_enter_67 (fun x hx => (htab x hx).elim) (Nat.le_of_ble_eq_true rfl) (Nat.le_of_ble_eq_true rfl) (Nat.le_of_ble_eq_true rfl) (Nat.le_of_ble_eq_true rfl) hlocks (fun t ha hz9 hk9 => ⟨(), trivial, ⟨ht_Px hP hk9, by rw [show (ht_oEnter g k x y).1 = 2 by simp [ht_oEnter, c1, c2, c3, c4, c5, c6]]; exact List.mem_of_getElem? (i := 1) rfl⟩, ht_Fx hS hz9 hk9⟩) hS.2.2 (Nat.le_of_ble_eq_true rfl) (Nat.le_of_ble_eq_true rfl)
          · obtain ⟨sa, hsa⟩ := hR _ (List.mem_of_getElem? (i := 1) rfl)
            exact vx_throwS (names := ht_nm) (A := mw_A 14 q s.heap.size) hx hb hl0 hown (by decide) (by decide) (hts _ w108) (hts _ w7) hsa (vx_hat (fun w h => hts w (xg_A w h)) xb_A (fun w h => va_Nw.use (ht_X.on h) (hX w h))) xo_A hZ.1 hZ.2 hS (by rw [hml]; exact hl.1) dH_enter_39 dH_enter_42 dH_enter_43 dH_enter_45 dH_enter_48 (fun x hx => (htab x hx).elim) (Nat.le_of_ble_eq_true rfl) (Nat.le_of_ble_eq_true rfl) (Nat.le_of_ble_eq_true rfl) (Nat.le_of_ble_eq_true rfl) hlocks (fun t ha hz9 hk9 => ⟨(), trivial, ⟨ht_Px hP hk9, by rw [show (ht_oEnter g k x y).1 = 1 by simp [ht_oEnter, c1, c2, c3, c4, c5]]; exact List.mem_of_getElem? (i := 0) rfl⟩, ht_Fx hS hz9 hk9⟩) hS.2.2 (Nat.le_of_ble_eq_true rfl) (Nat.le_of_ble_eq_true rfl)
    · obtain ⟨sa, hsa⟩ := hR _ (List.mem_of_getElem? (i := 0) rfl)
      exact vx_throwS (names := ht_nm) (A := mw_A 14 q s.heap.size) hx hb hl0 hown (by decide) (by decide) (hts _ w108) (hts _ w7) hsa (vx_hat (fun w h => hts w (xg_A w h)) xb_A (fun w h => va_Nw.use (ht_X.on h) (hX w h))) xo_A hZ.1 hZ.2 hS (by rw [hml]; exact hl.1) dH_enter_11 dH_enter_14 dH_enter_15 dH_enter_17 dH_enter_20 (fun x hx => (htab x hx).elim) (Nat.le_of_ble_eq_true rfl) (Nat.le_of_ble_eq_true rfl) (Nat.le_of_ble_eq_true rfl) (Nat.le_of_ble_eq_true rfl) hlocks (fun t ha hz9 hk9 => ⟨(), trivial, ⟨ht_Px hP hk9, by rw [show (ht_oEnter g k x y).1 = 1 by simp [ht_oEnter, c1, c2]]; exact List.mem_of_getElem? (i := 0) rfl⟩, ht_Fx hS hz9 hk9⟩) hS.2.2 (Nat.le_of_ble_eq_true rfl) (Nat.le_of_ble_eq_true rfl)
end
section
set_option maxHeartbeats 4000000 in
set_option maxRecDepth 100000 in
theorem xH_lose (l : Launch) (hl0 : l.stackTraces = false) (D : va_G) (cA : ClassId × ClassId) (q : Nat → Nat) (hJ : mw_J 14 q) (sz : Nat) (g : ht_G) (k : Nat) (hk : k ≤ 8) (hn : g 0 0 = nI k) (x y : Int32) : vx_Met l yH_lose kH_lose ({ frames := 7, cells := 2, slots := 12, locals := 103 }) (va_Pc [.ref (q 0), .int x, .int y] (ht_E D cA q g sz)) (va_Qi (fun r (_ : Unit) => (ht_oLose g k x y).1 = 0 ∧ r = (ht_oLose g k x y).2.1) (fun _ t => va_P D ht_cl (ht_w cA q (ht_oLose g k x y).2.2) t.heap) (mw_A 14 q sz)) (vx_X (fun _ : Unit => True) (fun E _ t => va_P D ht_cl (ht_w cA q g) t.heap ∧ ((ht_oLose g k x y).1, E) ∈ [((1 : Int32), EN), ((2 : Int32), EA), ((3 : Int32), ES)]) (mw_A 14 q sz)) 2 12 (mw_A 14 q sz) := by
  refine vx_ofW (cc := cH_lose) (maxL := 4) (ret := (some .int)) (by decide) rfl ?_
  intro p e s m args below meth c s₁ B hml htab hv
  obtain ⟨rfl, hsz, ⟨hP, hK, hN⟩, hX, hR, hZ⟩ := hv
  have hx := B.exec
  have hb := B.bytes
  have hr := B.returns
  have hts := fun w h => atoms_spec (ws := kH_lose) B.pre w (List.mem_cons_of_mem _ h)
  have hown : s.vm.findClass RH = some m.cls := findClass_of_methodNamed B.named
  have hlocks := B.notSynchronized
  subst hsz
  have hS : va_S (mw_A 14 q s.heap.size) s.heap s.heap [] := va_S.rf
  have hl := lv_entry ([.ref (q 0), .int x, .int y]) (n := 4) (Nat.le_of_ble_eq_true rfl)
  rw [lg_entry_eq]
  generalize (lg_sl ([.ref (q 0), .int x, .int y]) ++ List.replicate (4 - (lg_sl ([.ref (q 0), .int x, .int y])).length) Slot.unset).toArray = ls at hl ⊢
  have hl : lv_has ls 4 [(0, .ref (q 0)), (1, .int x), (2, .int y)] := hl
  refine lv_aload_n hx hb dH_lose_0 rfl (lv_at hl 0 rfl) ?_
  refine lv_iload_n hx hb dH_lose_1 rfl (lv_at hl 1 rfl) ?_
  refine hx_callr (vx_runV (As := [.int x]) (rest := []) ⟨hx, hb, hml, hown, hts⟩ (xH_existingTrain l hl0 D cA q hJ _ g k hk hn x) (cwV 1 hts (ht_gV w287 w289 s21 w1 w290) rfl rfl rfl (by decide +kernel) ⟨Nat.le_of_ble_eq_true rfl, Nat.le_of_ble_eq_true rfl⟩) ⟨ht_ble, va_recv hK hP (ci := 1) (q0 := 0) rfl ht_atO, fun U hU hW => ⟨rfl, ht_Em hP hK hN hX hR hZ hS hU hW⟩⟩ rfl rfl hl.1 rfl (lv_room (Nat.le_of_ble_eq_true rfl)) dH_lose_2 ⟨Nat.le_of_ble_eq_true rfl, Nat.le_of_ble_eq_true rfl⟩) hS mw_AA (mw_AF hS.1) mw_AA (fun E ce q9 u t H locs ht hvm hpx hBX hz hk9 hS hce hcv hcl => ?_) (fun j b t H locs ht hvm hw hB hz hk9 hS => ?_)
  · exact vx_out (fun x hx => (htab x hx).elim) hlocks hce hcv hcl (fun t9 ht9 ha9 => ⟨(), trivial, ⟨by rw [ht9, ← ht]; exact hBX.1, by rw [hBX.2.2, show (ht_oLose g k x y).1 = 1 by simp [ht_oLose, hBX.2.1]]; exact List.mem_of_getElem? (i := 0) rfl⟩, hS.F ht9⟩) hS.2.2 (Nat.le_of_ble_eq_true rfl) (Nat.le_of_ble_eq_true rfl)
  obtain ⟨rfl, hP⟩ := hB
  rw [ht] at hP
  obtain ⟨hT, hjk, hxj, hxc⟩ := hw
  have hj8 : j < 8 := Nat.lt_of_lt_of_le hjk hk
  refine lv_astore_n (lv' := [(3, .ref (q (j + 6))), (0, .ref (q 0)), (1, .int x), (2, .int y)]) hx hb dH_lose_5 rfl hl (by decide) rfl (fun ls hl => ?_)
  refine lv_iload_n hx hb dH_lose_6 rfl (lv_at hl 3 rfl) ?_
  refine lv_iconst (v := 1) hx hb dH_lose_7 (by decide) ?_
  refine lv_icmp_lt (tgt := 19) hx hb dH_lose_8 (by decide) (fun c1 => ?_) (fun c1 => ?_)
  · obtain ⟨sa, hsa⟩ := hR _ (List.mem_of_getElem? (i := 9) rfl)
    exact vx_throwS (names := ht_nm) (A := mw_A 14 q s.heap.size) hx hb hl0 hown (by decide) (by decide) (hts _ w108) (hts _ w7) hsa (vx_hat (fun w h => hts w (xg_A w h)) xb_A (fun w h => va_Nw.use (ht_X.on h) (hX w h))) xo_A hZ.1 hZ.2 hS (by rw [hml]; exact hl.1) dH_lose_19 dH_lose_22 dH_lose_23 dH_lose_25 dH_lose_28 (fun x hx => (htab x hx).elim) (Nat.le_of_ble_eq_true rfl) (Nat.le_of_ble_eq_true rfl) (Nat.le_of_ble_eq_true rfl) (Nat.le_of_ble_eq_true rfl) hlocks (fun t ha hz9 hk9 => ⟨(), trivial, ⟨ht_Px hP hk9, by rw [show (ht_oLose g k x y).1 = 2 by simp [ht_oLose, hT, hxc, c1, ht_lose3]]; exact List.mem_of_getElem? (i := 1) rfl⟩, ht_Fx hS hz9 hk9⟩) hS.2.2 (Nat.le_of_ble_eq_true rfl) (Nat.le_of_ble_eq_true rfl)
  · refine lv_iload_n hx hb dH_lose_11 rfl (lv_at hl 3 rfl) ?_
    refine lv_aload_n hx hb dH_lose_12 rfl (lv_at hl 0 rfl) ?_
    refine va_getN (D := D) (ci := 0) (C := RV) (T := TV) (N := 13) (v := .int (g (5 + j) 3)) hx hb hts inV hown hK hP (j + 6) (ht_atV hj8) rfl 3 (by decide) (hN.use 4 rfl rfl) (fun _ h9 => h9) rfl dH_lose_13 ?_
    refine lv_icmp_lt (tgt := 29) hx hb dH_lose_16 (by decide) (fun c2 => ?_) (fun c2 => ?_)
    · refine lv_aload_n hx hb dH_lose_29 rfl (lv_at hl 1 rfl) ?_
      refine va_get (D := D) (ci := 1) (C := RH) (T := TH) (N := 7) (v := .int (g 0 0)) hx hb hts inH hown hK hP 0 ht_atO rfl 1 (by decide) (hts _ w78) (fun _ h9 => h9) rfl dH_lose_30 ?_
      refine lv_bipush (v := 8) hx hb dH_lose_33 (by decide) ?_
      refine lv_icmp_lt (tgt := 48) hx hb dH_lose_35 (by decide) (fun c3 => ?_) (fun c3 => ?_)
      · have hk8 : k < 8 := ht_lt8 hk hn c3
        refine lv_aload_n hx hb dH_lose_48 rfl (lv_at hl 1 rfl) ?_
        refine va_get (D := D) (ci := 1) (C := RH) (T := TH) (N := 7) (v := .ref (q 1)) hx hb hts inH hown hK hP 0 ht_atO rfl 0 (by decide) (hts _ w77) (fun _ h9 => h9) rfl dH_lose_49 ?_
        refine lv_aload_n hx hb dH_lose_52 rfl (lv_at hl 1 rfl) ?_
        refine va_get (D := D) (ci := 1) (C := RH) (T := TH) (N := 7) (v := .int (g 0 0)) hx hb hts inH hown hK hP 0 ht_atO rfl 1 (by decide) (hts _ w78) (fun _ h9 => h9) rfl dH_lose_53 ?_
        refine ht_ldV hx hb hK hP (j := k) hk8 hn dH_lose_56 ?_
        refine lv_aload_n hx hb dH_lose_57 rfl (lv_at hl 0 rfl) ?_
        refine vp_callSi (va_Run.run (va_runVN (As := []) (rest := [.ref (q (k + 6))]) ⟨hx, hb, hml, hown, hts⟩ (xV_lastPlace l D cA q g j hj8 ) ⟨va_cnB 0 hts (ht_gW w204) rfl rfl rfl (hN _ (List.mem_of_getElem? (i := 18) rfl)) (hts _ w2) (by decide +kernel) ⟨Nat.le_of_ble_eq_true rfl, Nat.le_of_ble_eq_true rfl⟩, hts _ w203, hts _ s3⟩ ⟨ht_bl, va_recv hK hP (ci := 0) (q0 := j + 6) rfl (ht_atV hj8), fun U hU hW => ⟨rfl, ht_Im hP hK hN hU hW⟩⟩ rfl rfl hl.1 rfl (lv_room (Nat.le_of_ble_eq_true rfl)) dH_lose_58 ⟨Nat.le_of_ble_eq_true rfl, Nat.le_of_ble_eq_true rfl⟩)) (fun r4 hr4 => ?_)
        subst hr4
        refine lv_iload_n hx hb dH_lose_61 rfl (lv_at hl 3 rfl) ?_
        refine lv_iadd hx hb dH_lose_62 ?_
        refine lv_iconst (v := 1) hx hb dH_lose_63 (by decide) ?_
        refine lv_isub hx hb dH_lose_64 ?_
        refine lv_iload_n hx hb dH_lose_65 rfl (lv_at hl 3 rfl) ?_
        refine va_callv (va_runVN (As := [.int (((ht_last (g (5 + j))) + y) - 1), .int y]) (rest := []) ⟨hx, hb, hml, hown, hts⟩ (xV_becomeWagon l D cA q hJ _ g k hk8 (((ht_last (g (5 + j))) + y) - 1) y ) ⟨va_cnB 2 hts (ht_gW w351) rfl rfl rfl (hN _ (List.mem_of_getElem? (i := 19) rfl)) (hts _ w2) (by decide +kernel) ⟨Nat.le_of_ble_eq_true rfl, Nat.le_of_ble_eq_true rfl⟩, hts _ w350, hts _ s24⟩ ⟨ht_bls, va_recv hK hP (ci := 0) (q0 := k + 6) rfl (ht_atV hk8), fun U hU hW => ⟨rfl, by rw [hU], ht_Im hP hK hN hU hW⟩⟩ rfl rfl hl.1 rfl (lv_room (Nat.le_of_ble_eq_true rfl)) dH_lose_66 ⟨Nat.le_of_ble_eq_true rfl, Nat.le_of_ble_eq_true rfl⟩) hS mw_AA (mw_AF hS.1) (fun u5 t5 H locs ht5 hvm5 hw5 hB5 hz5 hk5 hS => ?_)
        have hP := hB5.1
        rw [ht5] at hP
        obtain ⟨g6, eg6⟩ : ∃ y9 : ht_G, y9 = ht_wagon k (((ht_last (g (5 + j))) + y) - 1) y g := ⟨_, rfl⟩
        rw [← eg6] at hP
        refine lv_aload_n hx hb dH_lose_69 rfl (lv_at hl 1 rfl) ?_
        refine lv_dup hx hb dH_lose_70 rfl ?_
        refine va_get (D := D) (ci := 1) (C := RH) (T := TH) (N := 7) (v := .int (g6 0 0)) hx hb hts inH hown hK hP 0 ht_atO rfl 1 (by decide) (hts _ w78) (fun _ h9 => h9) rfl dH_lose_71 ?_
        refine lv_iconst (v := 1) hx hb dH_lose_74 (by decide) ?_
        refine lv_iadd hx hb dH_lose_75 ?_
        refine va_put (D := D) (ci := 1) (C := RH) (T := TH) (N := 7) (v := .int ((g6 0 0) + 1)) (ty := .int) hx hb hts inH tyH tyH_ok nmH hown hK hP (mw_DA hJ) hS 0 ht_atO rfl 1 (by decide) (hts _ w78) (fun _ h9 => h9) rfl rfl rfl rfl (Nat.le_of_ble_eq_true rfl) dH_lose_76 (fun H locs hP _ hS => ?_)
        rw [ht_stC] at hP
        obtain ⟨g7, eg7⟩ : ∃ y9 : ht_G, y9 = ht_up g6 0 0 ((g6 0 0) + 1) := ⟨_, rfl⟩
        rw [← eg7] at hP
        refine lv_aload_n hx hb dH_lose_79 rfl (lv_at hl 0 rfl) ?_
        refine lv_dup hx hb dH_lose_80 rfl ?_
        refine va_getN (D := D) (ci := 0) (C := RV) (T := TV) (N := 13) (v := .int (g7 (5 + j) 3)) hx hb hts inV hown hK hP (j + 6) (ht_atV hj8) rfl 3 (by decide) (hN.use 4 rfl rfl) (fun _ h9 => h9) rfl dH_lose_81 ?_
        refine lv_iload_n hx hb dH_lose_84 rfl (lv_at hl 3 rfl) ?_
        refine lv_isub hx hb dH_lose_85 ?_
        refine va_putN (D := D) (ci := 0) (C := RV) (T := TV) (N := 13) (v := .int ((g7 (5 + j) 3) - y)) (ty := .int) hx hb hts inV tyV tyV_ok nmV hown hK hP (mw_DA hJ) hS (j + 6) (ht_atV hj8) rfl 3 (by decide) (hN.use 4 rfl rfl) (fun _ h9 => h9) rfl rfl rfl rfl (Nat.le_of_ble_eq_true rfl) dH_lose_86 (fun H locs hP _ hS => ?_)
        rw [ht_stV hj8 (by decide)] at hP
        obtain ⟨g8, eg8⟩ : ∃ y9 : ht_G, y9 = ht_up g7 (5 + j) 3 ((g7 (5 + j) 3) - y) := ⟨_, rfl⟩
        rw [← eg8] at hP
        refine lv_aload_n hx hb dH_lose_89 rfl (lv_at hl 0 rfl) ?_
        refine lv_iconst (v := 0) hx hb dH_lose_90 (by decide) ?_
        refine va_putN (D := D) (ci := 0) (C := RV) (T := TV) (N := 13) (v := .int 0) (ty := .boolean) hx hb hts inV tyV tyV_ok nmV hown hK hP (mw_DA hJ) hS (j + 6) (ht_atV hj8) rfl 7 (by decide) (hN.use 8 rfl rfl) (fun _ h9 => h9) rfl rfl rfl rfl (Nat.le_of_ble_eq_true rfl) dH_lose_91 (fun H locs hP _ hS => ?_)
        rw [ht_stV hj8 (by decide)] at hP
        obtain ⟨g9, eg9⟩ : ∃ y9 : ht_G, y9 = ht_up g8 (5 + j) 7 0 := ⟨_, rfl⟩
        rw [← eg9] at hP
        refine lv_aload_n hx hb dH_lose_94 rfl (lv_at hl 1 rfl) ?_
        refine va_get (D := D) (ci := 1) (C := RH) (T := TH) (N := 7) (v := .int (g9 0 0)) hx hb hts inH hown hK hP 0 ht_atO rfl 1 (by decide) (hts _ w78) (fun _ h9 => h9) rfl dH_lose_95 ?_
        refine lv_iconst (v := 1) hx hb dH_lose_98 (by decide) ?_
        refine lv_isub hx hb dH_lose_99 ?_
        have hG : g9 = (ht_oLose g k x y).2.2 := by rw [eg9, eg8, eg7, eg6]; simp [ht_oLose, hT, hxc, c1, c2, c3, ht_lose3]
        have hC : (ht_oLose g k x y).1 = 0 := by simp [ht_oLose, hT, hxc, c1, c2, c3, ht_lose3]
        have hV : (g9 0 0) - 1 = (ht_oLose g k x y).2.1 := by rw [eg9, eg8, eg7, eg6]; simp [ht_oLose, hT, hxc, c1, c2, c3, ht_lose3]
        rw [hG] at hP
        exact vx_ret (W.widen (k := 2) (n := 12) (Nat.le_of_ble_eq_true rfl) (Nat.le_of_ble_eq_true rfl) (W.iret (v := (g9 0 0) - 1) hx hb hr (fun t ht hW => ⟨⟨(g9 0 0) - 1, (), rfl, ⟨hC, hV⟩, by show va_P D ht_cl (ht_w cA q (ht_oLose g k x y).2.2) t.heap; rw [ht]; exact hP⟩, hS.F ht⟩) hS.2.2 dH_lose_100))
      · obtain ⟨sa, hsa⟩ := hR _ (List.mem_of_getElem? (i := 2) rfl)
        exact vx_throwS (names := ht_nm) (A := mw_A 14 q s.heap.size) hx hb hl0 hown (by decide) (by decide) (hts _ w177) (hts _ w8) hsa (vx_hat (fun w h => hts w (xg_S w h)) xb_S (fun w h => va_Nw.use (ht_X.on h) (hX w h))) xo_S hZ.1 hZ.2 hS (by rw [hml]; exact hl.1) dH_lose_38 dH_lose_41 dH_lose_42 dH_lose_44 dH_lose_47 (fun x hx => (htab x hx).elim) (Nat.le_of_ble_eq_true rfl) (Nat.le_of_ble_eq_true rfl) (Nat.le_of_ble_eq_true rfl) (Nat.le_of_ble_eq_true rfl) hlocks (fun t ha hz9 hk9 => ⟨(), trivial, ⟨ht_Px hP hk9, by rw [show (ht_oLose g k x y).1 = 3 by simp [ht_oLose, hT, hxc, c1, c2, c3, ht_lose3]]; exact List.mem_of_getElem? (i := 2) rfl⟩, ht_Fx hS hz9 hk9⟩) hS.2.2 (Nat.le_of_ble_eq_true rfl) (Nat.le_of_ble_eq_true rfl)
    · obtain ⟨sa, hsa⟩ := hR _ (List.mem_of_getElem? (i := 9) rfl)
      exact vx_throwS (names := ht_nm) (A := mw_A 14 q s.heap.size) hx hb hl0 hown (by decide) (by decide) (hts _ w108) (hts _ w7) hsa (vx_hat (fun w h => hts w (xg_A w h)) xb_A (fun w h => va_Nw.use (ht_X.on h) (hX w h))) xo_A hZ.1 hZ.2 hS (by rw [hml]; exact hl.1) dH_lose_19 dH_lose_22 dH_lose_23 dH_lose_25 dH_lose_28 (fun x hx => (htab x hx).elim) (Nat.le_of_ble_eq_true rfl) (Nat.le_of_ble_eq_true rfl) (Nat.le_of_ble_eq_true rfl) (Nat.le_of_ble_eq_true rfl) hlocks (fun t ha hz9 hk9 => ⟨(), trivial, ⟨ht_Px hP hk9, by rw [show (ht_oLose g k x y).1 = 2 by simp [ht_oLose, hT, hxc, c1, c2, ht_lose3]]; exact List.mem_of_getElem? (i := 1) rfl⟩, ht_Fx hS hz9 hk9⟩) hS.2.2 (Nat.le_of_ble_eq_true rfl) (Nat.le_of_ble_eq_true rfl)
end
section
set_option maxHeartbeats 4000000 in
set_option maxRecDepth 100000 in
theorem xH_authorise (l : Launch) (hl0 : l.stackTraces = false) (D : va_G) (cA : ClassId × ClassId) (q : Nat → Nat) (hJ : mw_J 14 q) (sz : Nat) (g : ht_G) (k : Nat) (hk : k ≤ 8) (hn : g 0 0 = nI k) (hEn : ht_en g) (x : Int32) : vx_Met l yH_authorise kH_authorise ({ frames := 7, cells := 2, slots := 12, locals := 103 }) (va_Pc [.ref (q 0), .int x] (ht_E D cA q g sz)) (va_Qi (fun r (_ : Unit) => (ht_oAuth g k x).1 = 0 ∧ r = (ht_oAuth g k x).2.1) (fun _ t => va_P D ht_cl (ht_w cA q (ht_oAuth g k x).2.2) t.heap) (mw_A 14 q sz)) (vx_X (fun _ : Unit => True) (fun E _ t => va_P D ht_cl (ht_w cA q g) t.heap ∧ ((ht_oAuth g k x).1, E) ∈ [((1 : Int32), EN), ((2 : Int32), ES)]) (mw_A 14 q sz)) 2 12 (mw_A 14 q sz) := by
  refine vx_ofW (cc := cH_authorise) (maxL := 6) (ret := (some .int)) (by decide) rfl ?_
  intro p e s m args below meth c s₁ B hml htab hv
  obtain ⟨rfl, hsz, ⟨hP, hK, hN⟩, hX, hR, hZ⟩ := hv
  have hx := B.exec
  have hb := B.bytes
  have hr := B.returns
  have hts := fun w h => atoms_spec (ws := kH_authorise) B.pre w (List.mem_cons_of_mem _ h)
  have hown : s.vm.findClass RH = some m.cls := findClass_of_methodNamed B.named
  have hlocks := B.notSynchronized
  subst hsz
  have hS : va_S (mw_A 14 q s.heap.size) s.heap s.heap [] := va_S.rf
  have hl := lv_entry ([.ref (q 0), .int x]) (n := 6) (Nat.le_of_ble_eq_true rfl)
  rw [lg_entry_eq]
  generalize (lg_sl ([.ref (q 0), .int x]) ++ List.replicate (6 - (lg_sl ([.ref (q 0), .int x])).length) Slot.unset).toArray = ls at hl ⊢
  have hl : lv_has ls 6 [(0, .ref (q 0)), (1, .int x)] := hl
  refine lv_aload_n hx hb dH_authorise_0 rfl (lv_at hl 0 rfl) ?_
  refine lv_iload_n hx hb dH_authorise_1 rfl (lv_at hl 1 rfl) ?_
  refine hx_callr (vx_runV (As := [.int x]) (rest := []) ⟨hx, hb, hml, hown, hts⟩ (xH_existingTrain l hl0 D cA q hJ _ g k hk hn x) (cwV 1 hts (ht_gV w287 w289 s21 w1 w290) rfl rfl rfl (by decide +kernel) ⟨Nat.le_of_ble_eq_true rfl, Nat.le_of_ble_eq_true rfl⟩) ⟨ht_ble, va_recv hK hP (ci := 1) (q0 := 0) rfl ht_atO, fun U hU hW => ⟨rfl, ht_Em hP hK hN hX hR hZ hS hU hW⟩⟩ rfl rfl hl.1 rfl (lv_room (Nat.le_of_ble_eq_true rfl)) dH_authorise_2 ⟨Nat.le_of_ble_eq_true rfl, Nat.le_of_ble_eq_true rfl⟩) hS mw_AA (mw_AF hS.1) mw_AA (fun E ce q9 u t H locs ht hvm hpx hBX hz hk9 hS hce hcv hcl => ?_) (fun j b t H locs ht hvm hw hB hz hk9 hS => ?_)
  · exact vx_out (fun x hx => (htab x hx).elim) hlocks hce hcv hcl (fun t9 ht9 ha9 => ⟨(), trivial, ⟨by rw [ht9, ← ht]; exact hBX.1, by rw [hBX.2.2, show (ht_oAuth g k x).1 = 1 by simp [ht_oAuth, hBX.2.1]]; exact List.mem_of_getElem? (i := 0) rfl⟩, hS.F ht9⟩) hS.2.2 (Nat.le_of_ble_eq_true rfl) (Nat.le_of_ble_eq_true rfl)
  obtain ⟨rfl, hP⟩ := hB
  rw [ht] at hP
  obtain ⟨hT, hjk, hxj, hxc⟩ := hw
  have hj8 : j < 8 := Nat.lt_of_lt_of_le hjk hk
  refine lv_astore_n (lv' := [(2, .ref (q (j + 6))), (0, .ref (q 0)), (1, .int x)]) hx hb dH_authorise_5 rfl hl (by decide) rfl (fun ls hl => ?_)
  refine lv_aload_n hx hb dH_authorise_6 rfl (lv_at hl 0 rfl) ?_
  refine vp_callSi (va_Run.run (va_runVN (As := []) (rest := []) ⟨hx, hb, hml, hown, hts⟩ (xV_isMute l D cA q g j hj8 ) ⟨va_cnB 0 hts (ht_gW w241) rfl rfl rfl (hN _ (List.mem_of_getElem? (i := 16) rfl)) (hts _ w2) (by decide +kernel) ⟨Nat.le_of_ble_eq_true rfl, Nat.le_of_ble_eq_true rfl⟩, hts _ w240, hts _ s11⟩ ⟨ht_bl, va_recv hK hP (ci := 0) (q0 := j + 6) rfl (ht_atV hj8), fun U hU hW => ⟨rfl, ht_Im hP hK hN hU hW⟩⟩ rfl rfl hl.1 rfl (lv_room (Nat.le_of_ble_eq_true rfl)) dH_authorise_7 ⟨Nat.le_of_ble_eq_true rfl, Nat.le_of_ble_eq_true rfl⟩)) (fun r1 hr1 => ?_)
  subst hr1
  refine lv_if_ne (tgt := 20) hx hb dH_authorise_10 (by decide) (fun c2 => ?_) (fun c2 => ?_)
  · replace c2 := ht_b1.mp c2
    obtain ⟨sa, hsa⟩ := hR _ (List.mem_of_getElem? (i := 7) rfl)
    exact vx_throwS (names := ht_nm) (A := mw_A 14 q s.heap.size) hx hb hl0 hown (by decide) (by decide) (hts _ w177) (hts _ w8) hsa (vx_hat (fun w h => hts w (xg_S w h)) xb_S (fun w h => va_Nw.use (ht_X.on h) (hX w h))) xo_S hZ.1 hZ.2 hS (by rw [hml]; exact hl.1) dH_authorise_20 dH_authorise_23 dH_authorise_24 dH_authorise_26 dH_authorise_29 (fun x hx => (htab x hx).elim) (Nat.le_of_ble_eq_true rfl) (Nat.le_of_ble_eq_true rfl) (Nat.le_of_ble_eq_true rfl) (Nat.le_of_ble_eq_true rfl) hlocks (fun t ha hz9 hk9 => ⟨(), trivial, ⟨ht_Px hP hk9, by rw [show (ht_oAuth g k x).1 = 2 by simp [ht_oAuth, hT, hxc, c2]]; exact List.mem_of_getElem? (i := 1) rfl⟩, ht_Fx hS hz9 hk9⟩) hS.2.2 (Nat.le_of_ble_eq_true rfl) (Nat.le_of_ble_eq_true rfl)
  · replace c2 := ht_b0.mp c2
    refine lv_aload_n hx hb dH_authorise_13 rfl (lv_at hl 0 rfl) ?_
    refine va_getN (D := D) (ci := 0) (C := RV) (T := TV) (N := 13) (v := .int (g (5 + j) 6)) hx hb hts inV hown hK hP (j + 6) (ht_atV hj8) rfl 6 (by decide) (hN.use 7 rfl rfl) (fun _ h9 => h9) rfl dH_authorise_14 ?_
    refine lv_if_eq (tgt := 30) hx hb dH_authorise_17 (by decide) (fun c3 => ?_) (fun c3 => ?_)
    · refine lv_aload_n hx hb dH_authorise_30 rfl (lv_at hl 0 rfl) ?_
      refine va_getN (D := D) (ci := 0) (C := RV) (T := TV) (N := 13) (v := .int (g (5 + j) 5)) hx hb hts inV hown hK hP (j + 6) (ht_atV hj8) rfl 5 (by decide) (hN.use 6 rfl rfl) (fun _ h9 => h9) rfl dH_authorise_31 ?_
      refine vp_callSi (va_Run.run (va_runS (As := [.int (g (5 + j) 5)]) (rest := []) ⟨hx, hb, hml, hown, hts⟩ (xH_sectionOf l D cA q g (g (5 + j) 5)) (cwS 1 hts (ht_gS w206 w207 w1 w208) rfl rfl rfl (by decide +kernel) ⟨Nat.le_of_ble_eq_true rfl, Nat.le_of_ble_eq_true rfl⟩) ⟨ht_bl, fun U hU hW => ⟨rfl, ht_Im hP hK hN hU hW⟩⟩ rfl rfl hl.1 rfl (lv_room (Nat.le_of_ble_eq_true rfl)) dH_authorise_34 ⟨Nat.le_of_ble_eq_true rfl, Nat.le_of_ble_eq_true rfl⟩)) (fun r4 hr4 => ?_)
      subst hr4
      obtain ⟨a, ha12, hae⟩ := hEn j hj8
      have hac : (nI a).toNatClampNeg = a := nI_clamp (by omega)
      rw [hae]
      refine lv_istore_n (lv' := [(3, .int (nI a)), (2, .ref (q (j + 6))), (0, .ref (q 0)), (1, .int x)]) hx hb dH_authorise_37 rfl hl (by decide) rfl (fun ls hl => ?_)
      refine lv_aload_n hx hb dH_authorise_38 rfl (lv_at hl 2 rfl) ?_
      refine va_get (D := D) (ci := 1) (C := RH) (T := TH) (N := 7) (v := .ref (q 2)) hx hb hts inH hown hK hP 0 ht_atO rfl 3 (by decide) (hts _ w80) (fun _ h9 => h9) rfl dH_authorise_39 ?_
      refine lv_iload_n hx hb dH_authorise_42 rfl (lv_at hl 0 rfl) ?_
      refine ht_ldI hx hb hK hP 1 (j := a) (by decide) (by decide) ha12 rfl dH_authorise_43 ?_
      refine lv_if_eq (tgt := 58) hx hb dH_authorise_44 (by decide) (fun c5 => ?_) (fun c5 => ?_)
      · refine lv_iconst (v := 1) hx hb dH_authorise_58 (by decide) ?_
        refine lv_goto (tgt := 63) hx hb dH_authorise_59 (by decide) ?_
        refine lv_istore (lv' := [(4, .int 1), (3, .int (nI a)), (2, .ref (q (j + 6))), (0, .ref (q 0)), (1, .int x)]) hx hb dH_authorise_63 hl (by decide) rfl (fun ls hl => ?_)
        refine lv_iload hx hb dH_authorise_65 (lv_at hl 0 rfl) ?_
        refine lv_if_eq (tgt := 102) hx hb dH_authorise_67 (by decide) (fun c6 => ?_) (fun c6 => ?_)
        · exact absurd c6 (by decide)
        · refine lv_aload_n hx hb dH_authorise_70 rfl (lv_at hl 3 rfl) ?_
          refine lv_iload_n hx hb dH_authorise_71 rfl (lv_at hl 1 rfl) ?_
          refine lv_iload_n hx hb dH_authorise_72 rfl (lv_at hl 1 rfl) ?_
          refine lv_iload_n hx hb dH_authorise_73 rfl (lv_at hl 4 rfl) ?_
          refine vp_callSi (va_Run.run (va_runV (As := [.int (nI a), .int (nI a), .int x]) (rest := []) ⟨hx, hb, hml, hown, hts⟩ (xH_isAnyClaimed l D cA q g k hk hn (nI a) (nI a) x) (cwV 3 hts (ht_gV w209 w211 s4 w1 w212) rfl rfl rfl (by decide +kernel) ⟨Nat.le_of_ble_eq_true rfl, Nat.le_of_ble_eq_true rfl⟩) ⟨ht_bl, va_recv hK hP (ci := 1) (q0 := 0) rfl ht_atO, fun U hU hW => ⟨rfl, ht_Im hP hK hN hU hW⟩⟩ rfl rfl hl.1 rfl (lv_room (Nat.le_of_ble_eq_true rfl)) dH_authorise_74 ⟨Nat.le_of_ble_eq_true rfl, Nat.le_of_ble_eq_true rfl⟩)) (fun r7 hr7 => ?_)
          subst hr7
          refine lv_if_ne (tgt := 102) hx hb dH_authorise_77 (by decide) (fun c8 => ?_) (fun c8 => ?_)
          · replace c8 := ht_b1.mp c8
            refine lv_aload_n hx hb dH_authorise_102 rfl (lv_at hl 2 rfl) ?_
            refine va_getN (D := D) (ci := 0) (C := RV) (T := TV) (N := 13) (v := .int (g (5 + j) 5)) hx hb hts inV hown hK hP (j + 6) (ht_atV hj8) rfl 5 (by decide) (hN.use 6 rfl rfl) (fun _ h9 => h9) rfl dH_authorise_103 ?_
            have hG : g = (ht_oAuth g k x).2.2 := by simp [ht_oAuth, hT, hxc, c2, c3, hae, hac, c5, c8]
            have hC : (ht_oAuth g k x).1 = 0 := by simp [ht_oAuth, hT, hxc, c2, c3, hae, hac, c5, c8]
            have hV : g (5 + j) 5 = (ht_oAuth g k x).2.1 := by simp [ht_oAuth, hT, hxc, c2, c3, hae, hac, c5, c8, ht_up]
            rw [hG] at hP
            exact vx_ret (W.widen (k := 2) (n := 12) (Nat.le_of_ble_eq_true rfl) (Nat.le_of_ble_eq_true rfl) (W.iret (v := g (5 + j) 5) hx hb hr (fun t ht hW => ⟨⟨g (5 + j) 5, (), rfl, ⟨hC, hV⟩, by show va_P D ht_cl (ht_w cA q (ht_oAuth g k x).2.2) t.heap; rw [ht]; exact hP⟩, hS.F ht⟩) hS.2.2 dH_authorise_106))
          · replace c8 := ht_b0.mp c8
            refine lv_aload_n hx hb dH_authorise_80 rfl (lv_at hl 3 rfl) ?_
            refine lv_iload_n hx hb dH_authorise_81 rfl (lv_at hl 1 rfl) ?_
            refine lv_iload_n hx hb dH_authorise_82 rfl (lv_at hl 4 rfl) ?_
            refine vp_callSi (va_Run.run (va_runV (As := [.int (nI a), .int x]) (rest := []) ⟨hx, hb, hml, hown, hts⟩ (xH_farthestFreeFrom l D cA q g k hk hn a ha12 x) (cwV 2 hts (ht_gV w327 w329 s23 w1 w330) rfl rfl rfl (by decide +kernel) ⟨Nat.le_of_ble_eq_true rfl, Nat.le_of_ble_eq_true rfl⟩) ⟨ht_bl, va_recv hK hP (ci := 1) (q0 := 0) rfl ht_atO, fun U hU hW => ⟨rfl, ht_Im hP hK hN hU hW⟩⟩ rfl rfl hl.1 rfl (lv_room (Nat.le_of_ble_eq_true rfl)) dH_authorise_83 ⟨Nat.le_of_ble_eq_true rfl, Nat.le_of_ble_eq_true rfl⟩)) (fun r9 hr9 => ?_)
            subst hr9
            refine lv_istore (lv' := [(5, .int (nI (ht_far g k x (11 - a) a))), (4, .int 1), (3, .int (nI a)), (2, .ref (q (j + 6))), (0, .ref (q 0)), (1, .int x)]) hx hb dH_authorise_86 hl (by decide) rfl (fun ls hl => ?_)
            refine lv_aload_n hx hb dH_authorise_88 rfl (lv_at hl 3 rfl) ?_
            refine lv_iload hx hb dH_authorise_89 (lv_at hl 0 rfl) ?_
            refine lv_bipush (v := 10) hx hb dH_authorise_91 (by decide) ?_
            refine lv_imul hx hb dH_authorise_93 ?_
            refine lv_bipush (v := 10) hx hb dH_authorise_94 (by decide) ?_
            refine lv_iadd hx hb dH_authorise_96 ?_
            refine lv_iconst (v := 1) hx hb dH_authorise_97 (by decide) ?_
            refine lv_isub hx hb dH_authorise_98 ?_
            refine va_putN (D := D) (ci := 0) (C := RV) (T := TV) (N := 13) (v := .int ((((nI (ht_far g k x (11 - a) a)) * 10) + 10) - 1)) (ty := .int) hx hb hts inV tyV tyV_ok nmV hown hK hP (mw_DA hJ) hS (j + 6) (ht_atV hj8) rfl 5 (by decide) (hN.use 6 rfl rfl) (fun _ h9 => h9) rfl rfl rfl rfl (Nat.le_of_ble_eq_true rfl) dH_authorise_99 (fun H locs hP _ hS => ?_)
            rw [ht_stV hj8 (by decide)] at hP
            obtain ⟨g10, eg10⟩ : ∃ y9 : ht_G, y9 = ht_up g (5 + j) 5 ((((nI (ht_far g k x (11 - a) a)) * 10) + 10) - 1) := ⟨_, rfl⟩
            rw [← eg10] at hP
            refine lv_aload_n hx hb dH_authorise_102 rfl (lv_at hl 3 rfl) ?_
            refine va_getN (D := D) (ci := 0) (C := RV) (T := TV) (N := 13) (v := .int (g10 (5 + j) 5)) hx hb hts inV hown hK hP (j + 6) (ht_atV hj8) rfl 5 (by decide) (hN.use 6 rfl rfl) (fun _ h9 => h9) rfl dH_authorise_103 ?_
            have hG : g10 = (ht_oAuth g k x).2.2 := by subst eg10; simp [ht_oAuth, hT, hxc, c2, c3, hae, hac, c5, c8]
            have hC : (ht_oAuth g k x).1 = 0 := by simp [ht_oAuth, hT, hxc, c2, c3, hae, hac, c5, c8]
            have hV : g10 (5 + j) 5 = (ht_oAuth g k x).2.1 := by subst eg10; simp [ht_oAuth, hT, hxc, c2, c3, hae, hac, c5, c8, ht_up]
            rw [hG] at hP
            exact vx_ret (W.widen (k := 2) (n := 12) (Nat.le_of_ble_eq_true rfl) (Nat.le_of_ble_eq_true rfl) (W.iret (v := g10 (5 + j) 5) hx hb hr (fun t ht hW => ⟨⟨g10 (5 + j) 5, (), rfl, ⟨hC, hV⟩, by show va_P D ht_cl (ht_w cA q (ht_oAuth g k x).2.2) t.heap; rw [ht]; exact hP⟩, hS.F ht⟩) hS.2.2 dH_authorise_106))
      · refine lv_aload_n hx hb dH_authorise_47 rfl (lv_at hl 1 rfl) ?_
        refine va_getN (D := D) (ci := 0) (C := RV) (T := TV) (N := 13) (v := .int (g (5 + j) 9)) hx hb hts inV hown hK hP (j + 6) (ht_atV hj8) rfl 9 (by decide) (hN.use 10 rfl rfl) (fun _ h9 => h9) rfl dH_authorise_48 ?_
        refine vp_callSi (va_Run.run (va_runS (As := [.int (g (5 + j) 9)]) (rest := []) ⟨hx, hb, hml, hown, hts⟩ (xH_sectionOf l D cA q g (g (5 + j) 9)) (cwS 1 hts (ht_gS w206 w207 w1 w208) rfl rfl rfl (by decide +kernel) ⟨Nat.le_of_ble_eq_true rfl, Nat.le_of_ble_eq_true rfl⟩) ⟨ht_bl, fun U hU hW => ⟨rfl, ht_Im hP hK hN hU hW⟩⟩ rfl rfl hl.1 rfl (lv_room (Nat.le_of_ble_eq_true rfl)) dH_authorise_51 ⟨Nat.le_of_ble_eq_true rfl, Nat.le_of_ble_eq_true rfl⟩)) (fun r11 hr11 => ?_)
        subst hr11
        refine lv_iload_n hx hb dH_authorise_54 rfl (lv_at hl 0 rfl) ?_
        refine lv_icmp_ne (tgt := 62) hx hb dH_authorise_55 (by decide) (fun c12 => ?_) (fun c12 => ?_)
        · refine lv_iconst (v := 0) hx hb dH_authorise_62 (by decide) ?_
          refine lv_istore (lv' := [(4, .int 0), (3, .int (nI a)), (2, .ref (q (j + 6))), (0, .ref (q 0)), (1, .int x)]) hx hb dH_authorise_63 hl (by decide) rfl (fun ls hl => ?_)
          refine lv_iload hx hb dH_authorise_65 (lv_at hl 0 rfl) ?_
          refine lv_if_eq (tgt := 102) hx hb dH_authorise_67 (by decide) (fun c13 => ?_) (fun c13 => ?_)
          · refine lv_aload_n hx hb dH_authorise_102 rfl (lv_at hl 2 rfl) ?_
            refine va_getN (D := D) (ci := 0) (C := RV) (T := TV) (N := 13) (v := .int (g (5 + j) 5)) hx hb hts inV hown hK hP (j + 6) (ht_atV hj8) rfl 5 (by decide) (hN.use 6 rfl rfl) (fun _ h9 => h9) rfl dH_authorise_103 ?_
            have hG : g = (ht_oAuth g k x).2.2 := by simp [ht_oAuth, hT, hxc, c2, c3, hae, hac, c5, c12]
            have hC : (ht_oAuth g k x).1 = 0 := by simp [ht_oAuth, hT, hxc, c2, c3, hae, hac, c5, c12]
            have hV : g (5 + j) 5 = (ht_oAuth g k x).2.1 := by simp [ht_oAuth, hT, hxc, c2, c3, hae, hac, c5, c12, ht_up]
            rw [hG] at hP
            exact vx_ret (W.widen (k := 2) (n := 12) (Nat.le_of_ble_eq_true rfl) (Nat.le_of_ble_eq_true rfl) (W.iret (v := g (5 + j) 5) hx hb hr (fun t ht hW => ⟨⟨g (5 + j) 5, (), rfl, ⟨hC, hV⟩, by show va_P D ht_cl (ht_w cA q (ht_oAuth g k x).2.2) t.heap; rw [ht]; exact hP⟩, hS.F ht⟩) hS.2.2 dH_authorise_106))
          · exact absurd c13 (by decide)
        · refine lv_iconst (v := 1) hx hb dH_authorise_58 (by decide) ?_
          refine lv_goto (tgt := 63) hx hb dH_authorise_59 (by decide) ?_
          refine lv_istore (lv' := [(4, .int 1), (3, .int (nI a)), (2, .ref (q (j + 6))), (0, .ref (q 0)), (1, .int x)]) hx hb dH_authorise_63 hl (by decide) rfl (fun ls hl => ?_)
          refine lv_iload hx hb dH_authorise_65 (lv_at hl 0 rfl) ?_
          refine lv_if_eq (tgt := 102) hx hb dH_authorise_67 (by decide) (fun c14 => ?_) (fun c14 => ?_)
          · exact absurd c14 (by decide)
          · refine lv_aload_n hx hb dH_authorise_70 rfl (lv_at hl 3 rfl) ?_
            refine lv_iload_n hx hb dH_authorise_71 rfl (lv_at hl 1 rfl) ?_
            refine lv_iload_n hx hb dH_authorise_72 rfl (lv_at hl 1 rfl) ?_
            refine lv_iload_n hx hb dH_authorise_73 rfl (lv_at hl 4 rfl) ?_
            refine vp_callSi (va_Run.run (va_runV (As := [.int (nI a), .int (nI a), .int x]) (rest := []) ⟨hx, hb, hml, hown, hts⟩ (xH_isAnyClaimed l D cA q g k hk hn (nI a) (nI a) x) (cwV 3 hts (ht_gV w209 w211 s4 w1 w212) rfl rfl rfl (by decide +kernel) ⟨Nat.le_of_ble_eq_true rfl, Nat.le_of_ble_eq_true rfl⟩) ⟨ht_bl, va_recv hK hP (ci := 1) (q0 := 0) rfl ht_atO, fun U hU hW => ⟨rfl, ht_Im hP hK hN hU hW⟩⟩ rfl rfl hl.1 rfl (lv_room (Nat.le_of_ble_eq_true rfl)) dH_authorise_74 ⟨Nat.le_of_ble_eq_true rfl, Nat.le_of_ble_eq_true rfl⟩)) (fun r15 hr15 => ?_)
            subst hr15
            refine lv_if_ne (tgt := 102) hx hb dH_authorise_77 (by decide) (fun c16 => ?_) (fun c16 => ?_)
            · replace c16 := ht_b1.mp c16
              refine lv_aload_n hx hb dH_authorise_102 rfl (lv_at hl 2 rfl) ?_
              refine va_getN (D := D) (ci := 0) (C := RV) (T := TV) (N := 13) (v := .int (g (5 + j) 5)) hx hb hts inV hown hK hP (j + 6) (ht_atV hj8) rfl 5 (by decide) (hN.use 6 rfl rfl) (fun _ h9 => h9) rfl dH_authorise_103 ?_
              have hG : g = (ht_oAuth g k x).2.2 := by simp [ht_oAuth, hT, hxc, c2, c3, hae, hac, c5, c12, c16]
              have hC : (ht_oAuth g k x).1 = 0 := by simp [ht_oAuth, hT, hxc, c2, c3, hae, hac, c5, c12, c16]
              have hV : g (5 + j) 5 = (ht_oAuth g k x).2.1 := by simp [ht_oAuth, hT, hxc, c2, c3, hae, hac, c5, c12, c16, ht_up]
              rw [hG] at hP
              exact vx_ret (W.widen (k := 2) (n := 12) (Nat.le_of_ble_eq_true rfl) (Nat.le_of_ble_eq_true rfl) (W.iret (v := g (5 + j) 5) hx hb hr (fun t ht hW => ⟨⟨g (5 + j) 5, (), rfl, ⟨hC, hV⟩, by show va_P D ht_cl (ht_w cA q (ht_oAuth g k x).2.2) t.heap; rw [ht]; exact hP⟩, hS.F ht⟩) hS.2.2 dH_authorise_106))
            · replace c16 := ht_b0.mp c16
              refine lv_aload_n hx hb dH_authorise_80 rfl (lv_at hl 3 rfl) ?_
              refine lv_iload_n hx hb dH_authorise_81 rfl (lv_at hl 1 rfl) ?_
              refine lv_iload_n hx hb dH_authorise_82 rfl (lv_at hl 4 rfl) ?_
              refine vp_callSi (va_Run.run (va_runV (As := [.int (nI a), .int x]) (rest := []) ⟨hx, hb, hml, hown, hts⟩ (xH_farthestFreeFrom l D cA q g k hk hn a ha12 x) (cwV 2 hts (ht_gV w327 w329 s23 w1 w330) rfl rfl rfl (by decide +kernel) ⟨Nat.le_of_ble_eq_true rfl, Nat.le_of_ble_eq_true rfl⟩) ⟨ht_bl, va_recv hK hP (ci := 1) (q0 := 0) rfl ht_atO, fun U hU hW => ⟨rfl, ht_Im hP hK hN hU hW⟩⟩ rfl rfl hl.1 rfl (lv_room (Nat.le_of_ble_eq_true rfl)) dH_authorise_83 ⟨Nat.le_of_ble_eq_true rfl, Nat.le_of_ble_eq_true rfl⟩)) (fun r17 hr17 => ?_)
              subst hr17
              refine lv_istore (lv' := [(5, .int (nI (ht_far g k x (11 - a) a))), (4, .int 1), (3, .int (nI a)), (2, .ref (q (j + 6))), (0, .ref (q 0)), (1, .int x)]) hx hb dH_authorise_86 hl (by decide) rfl (fun ls hl => ?_)
              refine lv_aload_n hx hb dH_authorise_88 rfl (lv_at hl 3 rfl) ?_
              refine lv_iload hx hb dH_authorise_89 (lv_at hl 0 rfl) ?_
              refine lv_bipush (v := 10) hx hb dH_authorise_91 (by decide) ?_
              refine lv_imul hx hb dH_authorise_93 ?_
              refine lv_bipush (v := 10) hx hb dH_authorise_94 (by decide) ?_
              refine lv_iadd hx hb dH_authorise_96 ?_
              refine lv_iconst (v := 1) hx hb dH_authorise_97 (by decide) ?_
              refine lv_isub hx hb dH_authorise_98 ?_
              refine va_putN (D := D) (ci := 0) (C := RV) (T := TV) (N := 13) (v := .int ((((nI (ht_far g k x (11 - a) a)) * 10) + 10) - 1)) (ty := .int) hx hb hts inV tyV tyV_ok nmV hown hK hP (mw_DA hJ) hS (j + 6) (ht_atV hj8) rfl 5 (by decide) (hN.use 6 rfl rfl) (fun _ h9 => h9) rfl rfl rfl rfl (Nat.le_of_ble_eq_true rfl) dH_authorise_99 (fun H locs hP _ hS => ?_)
              rw [ht_stV hj8 (by decide)] at hP
              obtain ⟨g18, eg18⟩ : ∃ y9 : ht_G, y9 = ht_up g (5 + j) 5 ((((nI (ht_far g k x (11 - a) a)) * 10) + 10) - 1) := ⟨_, rfl⟩
              rw [← eg18] at hP
              refine lv_aload_n hx hb dH_authorise_102 rfl (lv_at hl 3 rfl) ?_
              refine va_getN (D := D) (ci := 0) (C := RV) (T := TV) (N := 13) (v := .int (g18 (5 + j) 5)) hx hb hts inV hown hK hP (j + 6) (ht_atV hj8) rfl 5 (by decide) (hN.use 6 rfl rfl) (fun _ h9 => h9) rfl dH_authorise_103 ?_
              have hG : g18 = (ht_oAuth g k x).2.2 := by subst eg18; simp [ht_oAuth, hT, hxc, c2, c3, hae, hac, c5, c12, c16]
              have hC : (ht_oAuth g k x).1 = 0 := by simp [ht_oAuth, hT, hxc, c2, c3, hae, hac, c5, c12, c16]
              have hV : g18 (5 + j) 5 = (ht_oAuth g k x).2.1 := by subst eg18; simp [ht_oAuth, hT, hxc, c2, c3, hae, hac, c5, c12, c16, ht_up]
              rw [hG] at hP
              exact vx_ret (W.widen (k := 2) (n := 12) (Nat.le_of_ble_eq_true rfl) (Nat.le_of_ble_eq_true rfl) (W.iret (v := g18 (5 + j) 5) hx hb hr (fun t ht hW => ⟨⟨g18 (5 + j) 5, (), rfl, ⟨hC, hV⟩, by show va_P D ht_cl (ht_w cA q (ht_oAuth g k x).2.2) t.heap; rw [ht]; exact hP⟩, hS.F ht⟩) hS.2.2 dH_authorise_106))
    · obtain ⟨sa, hsa⟩ := hR _ (List.mem_of_getElem? (i := 7) rfl)
      exact vx_throwS (names := ht_nm) (A := mw_A 14 q s.heap.size) hx hb hl0 hown (by decide) (by decide) (hts _ w177) (hts _ w8) hsa (vx_hat (fun w h => hts w (xg_S w h)) xb_S (fun w h => va_Nw.use (ht_X.on h) (hX w h))) xo_S hZ.1 hZ.2 hS (by rw [hml]; exact hl.1) dH_authorise_20 dH_authorise_23 dH_authorise_24 dH_authorise_26 dH_authorise_29 (fun x hx => (htab x hx).elim) (Nat.le_of_ble_eq_true rfl) (Nat.le_of_ble_eq_true rfl) (Nat.le_of_ble_eq_true rfl) (Nat.le_of_ble_eq_true rfl) hlocks (fun t ha hz9 hk9 => ⟨(), trivial, ⟨ht_Px hP hk9, by rw [show (ht_oAuth g k x).1 = 2 by simp [ht_oAuth, hT, hxc, c2, c3]]; exact List.mem_of_getElem? (i := 1) rfl⟩, ht_Fx hS hz9 hk9⟩) hS.2.2 (Nat.le_of_ble_eq_true rfl) (Nat.le_of_ble_eq_true rfl)
end
