section
-- ===== PART A: goes FIRST, ahead of the names: the tables' words, and 'selects' of the private methods out of them =====
/-- a private method of a class that the tables say can be made, by its rows of tables_1 -/
def lw_okq (q : MethodName × Nat) : Prop := (q.1.cls ≠ "java/lang/invoke/MethodHandle" ∧ q.1.cls ≠ "java/lang/invoke/VarHandle") ∧ Cond.instantiable q.1.cls q.2 ∈ tables_1 ∧ Cond.privateMethod q.1 ∈ tables_1 ∧ Cond.instanceMethod q.1 ∈ tables_1
theorem lw_p0 : lw_okq (⟨"CalendaryPlanner", "hasDoubleUse", "(I)Z"⟩, 7) := ⟨⟨by decide +kernel, by decide +kernel⟩, List.mem_of_getElem? (i := 35) (by decide +kernel), List.mem_of_getElem? (i := 180) (by decide +kernel), List.mem_of_getElem? (i := 181) (by decide +kernel)⟩
theorem lw_p1 : lw_okq (⟨"CalendaryPlanner", "dayWith", "(I)LCalendaryPlanner$Day;"⟩, 7) := ⟨⟨by decide +kernel, by decide +kernel⟩, List.mem_of_getElem? (i := 35) (by decide +kernel), List.mem_of_getElem? (i := 184) (by decide +kernel), List.mem_of_getElem? (i := 185) (by decide +kernel)⟩
theorem lw_p2 : lw_okq (⟨"java/lang/Throwable", "fillInStackTrace", "(I)Ljava/lang/Throwable;"⟩, 6) := ⟨⟨by decide +kernel, by decide +kernel⟩, List.mem_of_getElem? (i := 230) (by decide +kernel), List.mem_of_getElem? (i := 228) (by decide +kernel), List.mem_of_getElem? (i := 229) (by decide +kernel)⟩
theorem lw_p3 : lw_okq (⟨"CalendaryPlanner", "busyPeople", "(LCalendaryPlanner$Slot;LCalendaryPlanner$Date;)I"⟩, 7) := ⟨⟨by decide +kernel, by decide +kernel⟩, List.mem_of_getElem? (i := 35) (by decide +kernel), List.mem_of_getElem? (i := 261) (by decide +kernel), List.mem_of_getElem? (i := 262) (by decide +kernel)⟩
theorem lw_p4 : lw_okq (⟨"CalendaryPlanner", "isTaken", "(LCalendaryPlanner$Room;LCalendaryPlanner$Slot;LCalendaryPlanner$Date;)Z"⟩, 7) := ⟨⟨by decide +kernel, by decide +kernel⟩, List.mem_of_getElem? (i := 35) (by decide +kernel), List.mem_of_getElem? (i := 277) (by decide +kernel), List.mem_of_getElem? (i := 278) (by decide +kernel)⟩
theorem lw_p5 : lw_okq (⟨"CalendaryPlanner", "countsAgree", "(I)Z"⟩, 7) := ⟨⟨by decide +kernel, by decide +kernel⟩, List.mem_of_getElem? (i := 35) (by decide +kernel), List.mem_of_getElem? (i := 281) (by decide +kernel), List.mem_of_getElem? (i := 282) (by decide +kernel)⟩
theorem lw_p6 : lw_okq (⟨"CalendaryPlanner", "countFreeBySweep", "(II)I"⟩, 7) := ⟨⟨by decide +kernel, by decide +kernel⟩, List.mem_of_getElem? (i := 35) (by decide +kernel), List.mem_of_getElem? (i := 285) (by decide +kernel), List.mem_of_getElem? (i := 286) (by decide +kernel)⟩
theorem lw_p7 : lw_okq (⟨"CalendaryPlanner", "countFreeByTrying", "(II)I"⟩, 7) := ⟨⟨by decide +kernel, by decide +kernel⟩, List.mem_of_getElem? (i := 35) (by decide +kernel), List.mem_of_getElem? (i := 299) (by decide +kernel), List.mem_of_getElem? (i := 300) (by decide +kernel)⟩
theorem lw_p8 : lw_okq (⟨"CalendaryPlanner", "dateOfPersonAt", "(III)LCalendaryPlanner$Date;"⟩, 7) := ⟨⟨by decide +kernel, by decide +kernel⟩, List.mem_of_getElem? (i := 35) (by decide +kernel), List.mem_of_getElem? (i := 303) (by decide +kernel), List.mem_of_getElem? (i := 304) (by decide +kernel)⟩
theorem lw_p9 : lw_okq (⟨"CalendaryPlanner", "roomWith", "(I)LCalendaryPlanner$Room;"⟩, 7) := ⟨⟨by decide +kernel, by decide +kernel⟩, List.mem_of_getElem? (i := 35) (by decide +kernel), List.mem_of_getElem? (i := 319) (by decide +kernel), List.mem_of_getElem? (i := 320) (by decide +kernel)⟩
theorem lw_p10 : lw_okq (⟨"java/util/ArrayList", "add", "(Ljava/lang/Object;[Ljava/lang/Object;I)V"⟩, 3) := ⟨⟨by decide +kernel, by decide +kernel⟩, List.mem_of_getElem? (i := 70) (by decide +kernel), List.mem_of_getElem? (i := 440) (by decide +kernel), List.mem_of_getElem? (i := 441) (by decide +kernel)⟩
theorem lw_p11 : lw_okq (⟨"java/util/ArrayList", "grow", "()[Ljava/lang/Object;"⟩, 3) := ⟨⟨by decide +kernel, by decide +kernel⟩, List.mem_of_getElem? (i := 70) (by decide +kernel), List.mem_of_getElem? (i := 444) (by decide +kernel), List.mem_of_getElem? (i := 445) (by decide +kernel)⟩
theorem lw_p12 : lw_okq (⟨"java/util/ArrayList", "grow", "(I)[Ljava/lang/Object;"⟩, 3) := ⟨⟨by decide +kernel, by decide +kernel⟩, List.mem_of_getElem? (i := 70) (by decide +kernel), List.mem_of_getElem? (i := 448) (by decide +kernel), List.mem_of_getElem? (i := 449) (by decide +kernel)⟩
theorem lw_p13 : lw_okq (⟨"CalendaryPlanner", "planDates", "(LCalendaryPlanner$Meeting;Ljava/util/ArrayList;)V"⟩, 7) := ⟨⟨by decide +kernel, by decide +kernel⟩, List.mem_of_getElem? (i := 35) (by decide +kernel), List.mem_of_getElem? (i := 498) (by decide +kernel), List.mem_of_getElem? (i := 499) (by decide +kernel)⟩
theorem lw_p14 : lw_okq (⟨"CalendaryPlanner", "requireNobodyBusy", "(LCalendaryPlanner$Meeting;LCalendaryPlanner$Slot;LCalendaryPlanner$Date;)V"⟩, 7) := ⟨⟨by decide +kernel, by decide +kernel⟩, List.mem_of_getElem? (i := 35) (by decide +kernel), List.mem_of_getElem? (i := 502) (by decide +kernel), List.mem_of_getElem? (i := 503) (by decide +kernel)⟩
theorem lw_p15 : lw_okq (⟨"CalendaryPlanner", "noteRefusal", "(II)V"⟩, 7) := ⟨⟨by decide +kernel, by decide +kernel⟩, List.mem_of_getElem? (i := 35) (by decide +kernel), List.mem_of_getElem? (i := 510) (by decide +kernel), List.mem_of_getElem? (i := 511) (by decide +kernel)⟩
def lw_privs_1 : List (MethodName × Nat) := [(⟨"CalendaryPlanner", "hasDoubleUse", "(I)Z"⟩, 7), (⟨"CalendaryPlanner", "dayWith", "(I)LCalendaryPlanner$Day;"⟩, 7), (⟨"java/lang/Throwable", "fillInStackTrace", "(I)Ljava/lang/Throwable;"⟩, 6), (⟨"CalendaryPlanner", "busyPeople", "(LCalendaryPlanner$Slot;LCalendaryPlanner$Date;)I"⟩, 7), (⟨"CalendaryPlanner", "isTaken", "(LCalendaryPlanner$Room;LCalendaryPlanner$Slot;LCalendaryPlanner$Date;)Z"⟩, 7), (⟨"CalendaryPlanner", "countsAgree", "(I)Z"⟩, 7), (⟨"CalendaryPlanner", "countFreeBySweep", "(II)I"⟩, 7), (⟨"CalendaryPlanner", "countFreeByTrying", "(II)I"⟩, 7), (⟨"CalendaryPlanner", "dateOfPersonAt", "(III)LCalendaryPlanner$Date;"⟩, 7), (⟨"CalendaryPlanner", "roomWith", "(I)LCalendaryPlanner$Room;"⟩, 7), (⟨"java/util/ArrayList", "add", "(Ljava/lang/Object;[Ljava/lang/Object;I)V"⟩, 3), (⟨"java/util/ArrayList", "grow", "()[Ljava/lang/Object;"⟩, 3), (⟨"java/util/ArrayList", "grow", "(I)[Ljava/lang/Object;"⟩, 3), (⟨"CalendaryPlanner", "planDates", "(LCalendaryPlanner$Meeting;Ljava/util/ArrayList;)V"⟩, 7), (⟨"CalendaryPlanner", "requireNobodyBusy", "(LCalendaryPlanner$Meeting;LCalendaryPlanner$Slot;LCalendaryPlanner$Date;)V"⟩, 7), (⟨"CalendaryPlanner", "noteRefusal", "(II)V"⟩, 7)]
theorem lw_r1 : ∀ q ∈ lw_privs_1, lw_okq q := List.forall_mem_cons.mpr ⟨lw_p0, List.forall_mem_cons.mpr ⟨lw_p1, List.forall_mem_cons.mpr ⟨lw_p2, List.forall_mem_cons.mpr ⟨lw_p3, List.forall_mem_cons.mpr ⟨lw_p4, List.forall_mem_cons.mpr ⟨lw_p5, List.forall_mem_cons.mpr ⟨lw_p6, List.forall_mem_cons.mpr ⟨lw_p7, List.forall_mem_cons.mpr ⟨lw_p8, List.forall_mem_cons.mpr ⟨lw_p9, List.forall_mem_cons.mpr ⟨lw_p10, List.forall_mem_cons.mpr ⟨lw_p11, List.forall_mem_cons.mpr ⟨lw_p12, List.forall_mem_cons.mpr ⟨lw_p13, List.forall_mem_cons.mpr ⟨lw_p14, List.forall_mem_cons.mpr ⟨lw_p15, fun _ h => absurd h List.not_mem_nil⟩⟩⟩⟩⟩⟩⟩⟩⟩⟩⟩⟩⟩⟩⟩⟩
theorem lw_p16 : lw_okq (⟨"CalendaryPlanner", "requireRoom", "(LCalendaryPlanner$Meeting;ILCalendaryPlanner$Slot;LCalendaryPlanner$Date;)LCalendaryPlanner$Room;"⟩, 7) := ⟨⟨by decide +kernel, by decide +kernel⟩, List.mem_of_getElem? (i := 35) (by decide +kernel), List.mem_of_getElem? (i := 530) (by decide +kernel), List.mem_of_getElem? (i := 531) (by decide +kernel)⟩
theorem lw_p17 : lw_okq (⟨"CalendaryPlanner", "bestRoom", "(ILCalendaryPlanner$Slot;LCalendaryPlanner$Date;)LCalendaryPlanner$Room;"⟩, 7) := ⟨⟨by decide +kernel, by decide +kernel⟩, List.mem_of_getElem? (i := 35) (by decide +kernel), List.mem_of_getElem? (i := 534) (by decide +kernel), List.mem_of_getElem? (i := 535) (by decide +kernel)⟩
theorem lw_p18 : lw_okq (⟨"CalendaryPlanner", "wouldClash", "(ILCalendaryPlanner$Meeting;LCalendaryPlanner$Slot;LCalendaryPlanner$Room;LCalendaryPlanner$Date;)Z"⟩, 7) := ⟨⟨by decide +kernel, by decide +kernel⟩, List.mem_of_getElem? (i := 35) (by decide +kernel), List.mem_of_getElem? (i := 539) (by decide +kernel), List.mem_of_getElem? (i := 540) (by decide +kernel)⟩
theorem lw_p19 : lw_okq (⟨"CalendaryPlanner", "putOnItsDay", "(LCalendaryPlanner$Date;)V"⟩, 7) := ⟨⟨by decide +kernel, by decide +kernel⟩, List.mem_of_getElem? (i := 35) (by decide +kernel), List.mem_of_getElem? (i := 568) (by decide +kernel), List.mem_of_getElem? (i := 569) (by decide +kernel)⟩
theorem lw_p20 : lw_okq (⟨"java/util/ArrayList", "rangeCheckForAdd", "(I)V"⟩, 3) := ⟨⟨by decide +kernel, by decide +kernel⟩, List.mem_of_getElem? (i := 70) (by decide +kernel), List.mem_of_getElem? (i := 583) (by decide +kernel), List.mem_of_getElem? (i := 584) (by decide +kernel)⟩
theorem lw_p21 : lw_okq (⟨"java/util/ArrayList", "outOfBoundsMsg", "(I)Ljava/lang/String;"⟩, 3) := ⟨⟨by decide +kernel, by decide +kernel⟩, List.mem_of_getElem? (i := 70) (by decide +kernel), List.mem_of_getElem? (i := 596) (by decide +kernel), List.mem_of_getElem? (i := 597) (by decide +kernel)⟩
theorem lw_p22 : lw_okq (⟨"CalendaryPlanner", "meetingWith", "(I)LCalendaryPlanner$Meeting;"⟩, 7) := ⟨⟨by decide +kernel, by decide +kernel⟩, List.mem_of_getElem? (i := 35) (by decide +kernel), List.mem_of_getElem? (i := 846) (by decide +kernel), List.mem_of_getElem? (i := 847) (by decide +kernel)⟩
theorem lw_p23 : lw_okq (⟨"CalendaryPlanner", "rankOf", "(I)I"⟩, 7) := ⟨⟨by decide +kernel, by decide +kernel⟩, List.mem_of_getElem? (i := 35) (by decide +kernel), List.mem_of_getElem? (i := 850) (by decide +kernel), List.mem_of_getElem? (i := 851) (by decide +kernel)⟩
theorem lw_p24 : lw_okq (⟨"CalendaryPlanner", "takeOffItsDay", "(LCalendaryPlanner$Date;)V"⟩, 7) := ⟨⟨by decide +kernel, by decide +kernel⟩, List.mem_of_getElem? (i := 35) (by decide +kernel), List.mem_of_getElem? (i := 884) (by decide +kernel), List.mem_of_getElem? (i := 885) (by decide +kernel)⟩
theorem lw_p25 : lw_okq (⟨"java/util/ArrayList", "fastRemove", "([Ljava/lang/Object;I)V"⟩, 3) := ⟨⟨by decide +kernel, by decide +kernel⟩, List.mem_of_getElem? (i := 70) (by decide +kernel), List.mem_of_getElem? (i := 896) (by decide +kernel), List.mem_of_getElem? (i := 897) (by decide +kernel)⟩
theorem lw_p26 : lw_okq (⟨"CalendaryPlanner", "requireSeatsLeft", "(LCalendaryPlanner$Meeting;)V"⟩, 7) := ⟨⟨by decide +kernel, by decide +kernel⟩, List.mem_of_getElem? (i := 35) (by decide +kernel), List.mem_of_getElem? (i := 914) (by decide +kernel), List.mem_of_getElem? (i := 915) (by decide +kernel)⟩
theorem lw_p27 : lw_okq (⟨"CalendaryPlanner", "requireNoClashFor", "(ILCalendaryPlanner$Meeting;)V"⟩, 7) := ⟨⟨by decide +kernel, by decide +kernel⟩, List.mem_of_getElem? (i := 35) (by decide +kernel), List.mem_of_getElem? (i := 919) (by decide +kernel), List.mem_of_getElem? (i := 920) (by decide +kernel)⟩
theorem lw_p28 : lw_okq (⟨"CalendaryPlanner", "requireRefusal", "()V"⟩, 7) := ⟨⟨by decide +kernel, by decide +kernel⟩, List.mem_of_getElem? (i := 35) (by decide +kernel), List.mem_of_getElem? (i := 1037) (by decide +kernel), List.mem_of_getElem? (i := 1038) (by decide +kernel)⟩
theorem lw_p29 : lw_okq (⟨"CalendaryPlanner", "commonRoom", "(ILCalendaryPlanner$Slot;)LCalendaryPlanner$Room;"⟩, 7) := ⟨⟨by decide +kernel, by decide +kernel⟩, List.mem_of_getElem? (i := 35) (by decide +kernel), List.mem_of_getElem? (i := 1092) (by decide +kernel), List.mem_of_getElem? (i := 1093) (by decide +kernel)⟩
theorem lw_p30 : lw_okq (⟨"CalendaryPlannerModel", "fails", "(I)Z"⟩, 5) := ⟨⟨by decide +kernel, by decide +kernel⟩, List.mem_of_getElem? (i := 1158) (by decide +kernel), List.mem_of_getElem? (i := 1195) (by decide +kernel), List.mem_of_getElem? (i := 1196) (by decide +kernel)⟩
theorem lw_p31 : lw_okq (⟨"CalendaryPlannerModel", "busy", "(IIII)I"⟩, 5) := ⟨⟨by decide +kernel, by decide +kernel⟩, List.mem_of_getElem? (i := 1158) (by decide +kernel), List.mem_of_getElem? (i := 1224) (by decide +kernel), List.mem_of_getElem? (i := 1225) (by decide +kernel)⟩
def lw_privs_2 : List (MethodName × Nat) := [(⟨"CalendaryPlanner", "requireRoom", "(LCalendaryPlanner$Meeting;ILCalendaryPlanner$Slot;LCalendaryPlanner$Date;)LCalendaryPlanner$Room;"⟩, 7), (⟨"CalendaryPlanner", "bestRoom", "(ILCalendaryPlanner$Slot;LCalendaryPlanner$Date;)LCalendaryPlanner$Room;"⟩, 7), (⟨"CalendaryPlanner", "wouldClash", "(ILCalendaryPlanner$Meeting;LCalendaryPlanner$Slot;LCalendaryPlanner$Room;LCalendaryPlanner$Date;)Z"⟩, 7), (⟨"CalendaryPlanner", "putOnItsDay", "(LCalendaryPlanner$Date;)V"⟩, 7), (⟨"java/util/ArrayList", "rangeCheckForAdd", "(I)V"⟩, 3), (⟨"java/util/ArrayList", "outOfBoundsMsg", "(I)Ljava/lang/String;"⟩, 3), (⟨"CalendaryPlanner", "meetingWith", "(I)LCalendaryPlanner$Meeting;"⟩, 7), (⟨"CalendaryPlanner", "rankOf", "(I)I"⟩, 7), (⟨"CalendaryPlanner", "takeOffItsDay", "(LCalendaryPlanner$Date;)V"⟩, 7), (⟨"java/util/ArrayList", "fastRemove", "([Ljava/lang/Object;I)V"⟩, 3), (⟨"CalendaryPlanner", "requireSeatsLeft", "(LCalendaryPlanner$Meeting;)V"⟩, 7), (⟨"CalendaryPlanner", "requireNoClashFor", "(ILCalendaryPlanner$Meeting;)V"⟩, 7), (⟨"CalendaryPlanner", "requireRefusal", "()V"⟩, 7), (⟨"CalendaryPlanner", "commonRoom", "(ILCalendaryPlanner$Slot;)LCalendaryPlanner$Room;"⟩, 7), (⟨"CalendaryPlannerModel", "fails", "(I)Z"⟩, 5), (⟨"CalendaryPlannerModel", "busy", "(IIII)I"⟩, 5)]
theorem lw_r2 : ∀ q ∈ lw_privs_2, lw_okq q := List.forall_mem_cons.mpr ⟨lw_p16, List.forall_mem_cons.mpr ⟨lw_p17, List.forall_mem_cons.mpr ⟨lw_p18, List.forall_mem_cons.mpr ⟨lw_p19, List.forall_mem_cons.mpr ⟨lw_p20, List.forall_mem_cons.mpr ⟨lw_p21, List.forall_mem_cons.mpr ⟨lw_p22, List.forall_mem_cons.mpr ⟨lw_p23, List.forall_mem_cons.mpr ⟨lw_p24, List.forall_mem_cons.mpr ⟨lw_p25, List.forall_mem_cons.mpr ⟨lw_p26, List.forall_mem_cons.mpr ⟨lw_p27, List.forall_mem_cons.mpr ⟨lw_p28, List.forall_mem_cons.mpr ⟨lw_p29, List.forall_mem_cons.mpr ⟨lw_p30, List.forall_mem_cons.mpr ⟨lw_p31, fun _ h => absurd h List.not_mem_nil⟩⟩⟩⟩⟩⟩⟩⟩⟩⟩⟩⟩⟩⟩⟩⟩
theorem lw_p32 : lw_okq (⟨"CalendaryPlannerModel", "of", "(II)I"⟩, 5) := ⟨⟨by decide +kernel, by decide +kernel⟩, List.mem_of_getElem? (i := 1158) (by decide +kernel), List.mem_of_getElem? (i := 1228) (by decide +kernel), List.mem_of_getElem? (i := 1229) (by decide +kernel)⟩
theorem lw_p33 : lw_okq (⟨"CalendaryPlannerModel", "counts", "(III)Z"⟩, 5) := ⟨⟨by decide +kernel, by decide +kernel⟩, List.mem_of_getElem? (i := 1158) (by decide +kernel), List.mem_of_getElem? (i := 1232) (by decide +kernel), List.mem_of_getElem? (i := 1233) (by decide +kernel)⟩
theorem lw_p34 : lw_okq (⟨"CalendaryPlannerModel", "isOn", "(II)Z"⟩, 5) := ⟨⟨by decide +kernel, by decide +kernel⟩, List.mem_of_getElem? (i := 1158) (by decide +kernel), List.mem_of_getElem? (i := 1236) (by decide +kernel), List.mem_of_getElem? (i := 1237) (by decide +kernel)⟩
theorem lw_p35 : lw_okq (⟨"CalendaryPlannerModel", "date", "(III)I"⟩, 5) := ⟨⟨by decide +kernel, by decide +kernel⟩, List.mem_of_getElem? (i := 1158) (by decide +kernel), List.mem_of_getElem? (i := 1240) (by decide +kernel), List.mem_of_getElem? (i := 1241) (by decide +kernel)⟩
theorem lw_p36 : lw_okq (⟨"CalendaryPlannerModel", "between", "(IIII)I"⟩, 5) := ⟨⟨by decide +kernel, by decide +kernel⟩, List.mem_of_getElem? (i := 1158) (by decide +kernel), List.mem_of_getElem? (i := 1244) (by decide +kernel), List.mem_of_getElem? (i := 1245) (by decide +kernel)⟩
theorem lw_p37 : lw_okq (⟨"CalendaryPlannerModel", "people", "(I)I"⟩, 5) := ⟨⟨by decide +kernel, by decide +kernel⟩, List.mem_of_getElem? (i := 1158) (by decide +kernel), List.mem_of_getElem? (i := 1248) (by decide +kernel), List.mem_of_getElem? (i := 1249) (by decide +kernel)⟩
theorem lw_p38 : lw_okq (⟨"CalendaryPlannerModel", "isExpected", "(II)Z"⟩, 5) := ⟨⟨by decide +kernel, by decide +kernel⟩, List.mem_of_getElem? (i := 1158) (by decide +kernel), List.mem_of_getElem? (i := 1252) (by decide +kernel), List.mem_of_getElem? (i := 1253) (by decide +kernel)⟩
theorem lw_p39 : lw_okq (⟨"CalendaryPlannerModel", "refuses", "(III)Z"⟩, 5) := ⟨⟨by decide +kernel, by decide +kernel⟩, List.mem_of_getElem? (i := 1158) (by decide +kernel), List.mem_of_getElem? (i := 1256) (by decide +kernel), List.mem_of_getElem? (i := 1257) (by decide +kernel)⟩
theorem lw_p40 : lw_okq (⟨"CalendaryPlannerModel", "smallest", "(IIII)I"⟩, 5) := ⟨⟨by decide +kernel, by decide +kernel⟩, List.mem_of_getElem? (i := 1158) (by decide +kernel), List.mem_of_getElem? (i := 1260) (by decide +kernel), List.mem_of_getElem? (i := 1261) (by decide +kernel)⟩
theorem lw_p41 : lw_okq (⟨"CalendaryPlannerModel", "fits", "(IIIII)Z"⟩, 5) := ⟨⟨by decide +kernel, by decide +kernel⟩, List.mem_of_getElem? (i := 1158) (by decide +kernel), List.mem_of_getElem? (i := 1264) (by decide +kernel), List.mem_of_getElem? (i := 1265) (by decide +kernel)⟩
theorem lw_p42 : lw_okq (⟨"CalendaryPlannerModel", "lays", "(III)V"⟩, 5) := ⟨⟨by decide +kernel, by decide +kernel⟩, List.mem_of_getElem? (i := 1158) (by decide +kernel), List.mem_of_getElem? (i := 1271) (by decide +kernel), List.mem_of_getElem? (i := 1272) (by decide +kernel)⟩
theorem lw_p43 : lw_okq (⟨"CalendaryPlannerModel", "dates", "(IIIII)V"⟩, 5) := ⟨⟨by decide +kernel, by decide +kernel⟩, List.mem_of_getElem? (i := 1158) (by decide +kernel), List.mem_of_getElem? (i := 1275) (by decide +kernel), List.mem_of_getElem? (i := 1276) (by decide +kernel)⟩
theorem lw_p44 : lw_okq (⟨"CalendaryPlannerModel", "at", "(I)I"⟩, 5) := ⟨⟨by decide +kernel, by decide +kernel⟩, List.mem_of_getElem? (i := 1158) (by decide +kernel), List.mem_of_getElem? (i := 1283) (by decide +kernel), List.mem_of_getElem? (i := 1284) (by decide +kernel)⟩
theorem lw_p45 : lw_okq (⟨"CalendaryPlannerModel", "isNone", "(I)Z"⟩, 5) := ⟨⟨by decide +kernel, by decide +kernel⟩, List.mem_of_getElem? (i := 1158) (by decide +kernel), List.mem_of_getElem? (i := 1291) (by decide +kernel), List.mem_of_getElem? (i := 1292) (by decide +kernel)⟩
theorem lw_p46 : lw_okq (⟨"CalendaryPlannerModel", "isKeptOut", "(II)Z"⟩, 5) := ⟨⟨by decide +kernel, by decide +kernel⟩, List.mem_of_getElem? (i := 1158) (by decide +kernel), List.mem_of_getElem? (i := 1299) (by decide +kernel), List.mem_of_getElem? (i := 1300) (by decide +kernel)⟩
theorem lw_p47 : lw_okq (⟨"CalendaryPlannerModel", "clashes", "(III)Z"⟩, 5) := ⟨⟨by decide +kernel, by decide +kernel⟩, List.mem_of_getElem? (i := 1158) (by decide +kernel), List.mem_of_getElem? (i := 1303) (by decide +kernel), List.mem_of_getElem? (i := 1304) (by decide +kernel)⟩
def lw_privs_3 : List (MethodName × Nat) := [(⟨"CalendaryPlannerModel", "of", "(II)I"⟩, 5), (⟨"CalendaryPlannerModel", "counts", "(III)Z"⟩, 5), (⟨"CalendaryPlannerModel", "isOn", "(II)Z"⟩, 5), (⟨"CalendaryPlannerModel", "date", "(III)I"⟩, 5), (⟨"CalendaryPlannerModel", "between", "(IIII)I"⟩, 5), (⟨"CalendaryPlannerModel", "people", "(I)I"⟩, 5), (⟨"CalendaryPlannerModel", "isExpected", "(II)Z"⟩, 5), (⟨"CalendaryPlannerModel", "refuses", "(III)Z"⟩, 5), (⟨"CalendaryPlannerModel", "smallest", "(IIII)I"⟩, 5), (⟨"CalendaryPlannerModel", "fits", "(IIIII)Z"⟩, 5), (⟨"CalendaryPlannerModel", "lays", "(III)V"⟩, 5), (⟨"CalendaryPlannerModel", "dates", "(IIIII)V"⟩, 5), (⟨"CalendaryPlannerModel", "at", "(I)I"⟩, 5), (⟨"CalendaryPlannerModel", "isNone", "(I)Z"⟩, 5), (⟨"CalendaryPlannerModel", "isKeptOut", "(II)Z"⟩, 5), (⟨"CalendaryPlannerModel", "clashes", "(III)Z"⟩, 5)]
theorem lw_r3 : ∀ q ∈ lw_privs_3, lw_okq q := List.forall_mem_cons.mpr ⟨lw_p32, List.forall_mem_cons.mpr ⟨lw_p33, List.forall_mem_cons.mpr ⟨lw_p34, List.forall_mem_cons.mpr ⟨lw_p35, List.forall_mem_cons.mpr ⟨lw_p36, List.forall_mem_cons.mpr ⟨lw_p37, List.forall_mem_cons.mpr ⟨lw_p38, List.forall_mem_cons.mpr ⟨lw_p39, List.forall_mem_cons.mpr ⟨lw_p40, List.forall_mem_cons.mpr ⟨lw_p41, List.forall_mem_cons.mpr ⟨lw_p42, List.forall_mem_cons.mpr ⟨lw_p43, List.forall_mem_cons.mpr ⟨lw_p44, List.forall_mem_cons.mpr ⟨lw_p45, List.forall_mem_cons.mpr ⟨lw_p46, List.forall_mem_cons.mpr ⟨lw_p47, fun _ h => absurd h List.not_mem_nil⟩⟩⟩⟩⟩⟩⟩⟩⟩⟩⟩⟩⟩⟩⟩⟩
theorem lw_p48 : lw_okq (⟨"CalendaryPlannerModel", "isNoDate", "(II)Z"⟩, 5) := ⟨⟨by decide +kernel, by decide +kernel⟩, List.mem_of_getElem? (i := 1158) (by decide +kernel), List.mem_of_getElem? (i := 1311) (by decide +kernel), List.mem_of_getElem? (i := 1312) (by decide +kernel)⟩
theorem lw_p49 : lw_okq (⟨"CalendaryPlannerModel", "isFreeAt", "(III)Z"⟩, 5) := ⟨⟨by decide +kernel, by decide +kernel⟩, List.mem_of_getElem? (i := 1158) (by decide +kernel), List.mem_of_getElem? (i := 1375) (by decide +kernel), List.mem_of_getElem? (i := 1376) (by decide +kernel)⟩
theorem lw_p50 : lw_okq (⟨"CalendaryPlannerModel", "frees", "(II)I"⟩, 5) := ⟨⟨by decide +kernel, by decide +kernel⟩, List.mem_of_getElem? (i := 1158) (by decide +kernel), List.mem_of_getElem? (i := 1387) (by decide +kernel), List.mem_of_getElem? (i := 1388) (by decide +kernel)⟩
theorem lw_p51 : lw_okq (⟨"CalendaryPlannerModel", "isNoPlan", "(III)Z"⟩, 5) := ⟨⟨by decide +kernel, by decide +kernel⟩, List.mem_of_getElem? (i := 1158) (by decide +kernel), List.mem_of_getElem? (i := 1403) (by decide +kernel), List.mem_of_getElem? (i := 1404) (by decide +kernel)⟩
theorem lw_p52 : lw_okq (⟨"CalendaryPlannerModel", "roomFound", "(IIII)I"⟩, 5) := ⟨⟨by decide +kernel, by decide +kernel⟩, List.mem_of_getElem? (i := 1158) (by decide +kernel), List.mem_of_getElem? (i := 1407) (by decide +kernel), List.mem_of_getElem? (i := 1408) (by decide +kernel)⟩
theorem lw_p53 : lw_okq (⟨"CalendaryPlannerModel", "meetsItself", "(III)Z"⟩, 5) := ⟨⟨by decide +kernel, by decide +kernel⟩, List.mem_of_getElem? (i := 1158) (by decide +kernel), List.mem_of_getElem? (i := 1443) (by decide +kernel), List.mem_of_getElem? (i := 1444) (by decide +kernel)⟩
def lw_privs_4 : List (MethodName × Nat) := [(⟨"CalendaryPlannerModel", "isNoDate", "(II)Z"⟩, 5), (⟨"CalendaryPlannerModel", "isFreeAt", "(III)Z"⟩, 5), (⟨"CalendaryPlannerModel", "frees", "(II)I"⟩, 5), (⟨"CalendaryPlannerModel", "isNoPlan", "(III)Z"⟩, 5), (⟨"CalendaryPlannerModel", "roomFound", "(IIII)I"⟩, 5), (⟨"CalendaryPlannerModel", "meetsItself", "(III)Z"⟩, 5)]
theorem lw_r4 : ∀ q ∈ lw_privs_4, lw_okq q := List.forall_mem_cons.mpr ⟨lw_p48, List.forall_mem_cons.mpr ⟨lw_p49, List.forall_mem_cons.mpr ⟨lw_p50, List.forall_mem_cons.mpr ⟨lw_p51, List.forall_mem_cons.mpr ⟨lw_p52, List.forall_mem_cons.mpr ⟨lw_p53, fun _ h => absurd h List.not_mem_nil⟩⟩⟩⟩⟩⟩
def lw_privs : List (MethodName × Nat) := lw_privs_1 ++ (lw_privs_2 ++ (lw_privs_3 ++ (lw_privs_4)))
def lw_tbl : List Cond := k2_sels lw_privs ++ tables_1
theorem lw_privs_ok : ∀ q ∈ lw_privs, lw_okq q := by
  show ∀ q ∈ lw_privs_1 ++ (lw_privs_2 ++ (lw_privs_3 ++ (lw_privs_4))), lw_okq q
  exact List.forall_mem_append.mpr ⟨lw_r1, List.forall_mem_append.mpr ⟨lw_r2, List.forall_mem_append.mpr ⟨lw_r3, lw_r4⟩⟩⟩
/-- the streams that the claim lets the run draw from -/
abbrev lw_cs : List Choice := [Jvm.Choice.named "NaN.bits"]
theorem lw_bits : nanBits ∈ lw_cs := by first | decide | exact List.mem_cons_self | simp [lw_cs, nanBits]
end
section
/-! ===== BEGIN words of one list among another's, by their places ===== -/
theorem goodIn_r {big : List Cond} (ws : List Cond) (ps : List Nat) (hp : ws = ps.filterMap (fun i => big[i]?)) (h : ws.all goodWord = true) : GoodIn big ws := by
  intro w hw
  have h1 := List.all_eq_true.mp h w hw
  rw [hp] at hw
  obtain ⟨i, -, hi⟩ := List.mem_filterMap.mp hw
  have hm : w ∈ big := by first | exact List.mem_of_getElem? hi | exact List.getElem?_mem hi
  exact ⟨hm, good_of_word h1⟩
theorem goodIn_app {big a b : List Cond} (ha : GoodIn big a) (hb : GoodIn big b) : GoodIn big (a ++ b) := fun w h => (List.mem_append.mp h).elim (ha w) (hb w)
theorem goodIn_ca {big a b : List Cond} {c : Cond} (ha : GoodIn big (c :: a)) (hb : GoodIn big b) : GoodIn big (c :: (a ++ b)) := fun w h => (List.mem_cons.mp h).elim (fun e => ha w (List.mem_cons.mpr (Or.inl e))) (fun h => (List.mem_append.mp h).elim (fun h => ha w (List.mem_cons.mpr (Or.inr h))) (hb w))
theorem goodIn_sub {big ws : List Cond} (hm : ∀ w ∈ ws, w ∈ big) (h : ws.all goodWord = true) : GoodIn big ws := fun w hw => ⟨hm w hw, good_of_word (List.all_eq_true.mp h w hw)⟩
/-! ===== END ===== -/

/-! ===== BEGIN exceptions that leave a method, and their catching by the caller (launches without stack traces) ===== -/
section VXA
/-! The laws vx_back, vx_callV, vx_callS, vx_callSW, vx_throw0, vx_throwS follow proofs of the library, with one case more: JvmDerived/Free/Laws.lean (Back.of_free), Shelf42/LK1.lean (callV, callS), Shelf/KitTraced.lean (throwNew0V, throwNewS). -/
/-- where a method has thrown q: the class by its name, the cell, what was written, the world -/
def vx_T (XC : String → State → State → Prop) (st : State) (q : Addr) (t : State) (mc ms : Nat) (free : Addr → Prop) : Prop :=
  ∃ (E : String) (ce : Cell) (L : List Loc), XC E st t ∧ t.heap[q]? = some ce ∧ ce.vm = .none ∧ st.vm.findClass E = some ce.cls ∧ st.WarmedH t.vm ∧ st.sameButNew ({ t with vm := st.vm } : State) L mc ms ∧ ∀ z ∈ L, free z.base
def vx_Q (Qc : Array Value → State → Outcome → State → Prop) (XC : String → State → State → Prop) (mc ms : Nat) (free : Addr → Prop) : Array Value → State → Outcome → State → Prop := fun a st o t =>
  (Qc a st o t ∧ ∃ L, FrameEnd st o t L mc ms ∧ ∀ q ∈ L, free q.base) ∨ ∃ q, o = .threw q ∧ vx_T XC st q t mc ms free
/-- a callee that returns or throws -/
def vx_Met (l : Launch) (y : MethodName) (ws : List Cond) (rm : Room) (Pc : Array Value → State → Prop) (Qc : Array Value → State → Outcome → State → Prop) (XC : String → State → State → Prop) (mc ms : Nat) (free : Addr → Prop) : Prop :=
  MetFree l y (headSpec ws rm) Pc (fun _ _ _ _ _ => True) (vx_Q Qc XC mc ms free)
def vx_Post (XC : String → State → State → Prop) (mc ms : Nat) (free : Addr → Prop) : Pt → Array Value → Addr → Pt → Prop := fun A a q B =>
  ∃ (g : JFrame) (mk : MethodId) (t : State) (L : List Loc) (E : String) (ce : Cell), B.U.heap = t.heap ∧ B.U.vm = t.vm ∧ XC E (A.U.calling g mk a) t ∧ t.heap[q]? = some ce ∧ ce.vm = .none ∧ A.U.vm.findClass E = some ce.cls ∧ B.locs = A.locs ++ L ∧ (∀ z ∈ L, free z.base) ∧ B.cells = A.cells + mc ∧ B.slots = A.slots + ms
def vx_Back (l : Launch) (R : Room) (p : Program) (e : Env) (below : List Frame) (s : State) (sargs : Array Value) (y : MethodName) (len W9 : Nat)
    (Pre : Pt → Array Value → Prop) (Post : Pt → Array Value → Option Value → Pt → Prop) (PostX : Pt → Array Value → Addr → Pt → Prop) : Prop :=
  ∀ (m : MethodId) (meth : Method) (c : Code) (A : Pt) (g : JFrame) (ig : Instr) (mk : MethodId) (a : Array Value),
    Stand p l e R s m sargs below meth c A.U A.locs A.cells A.slots → g.method = m → g.locals.size = c.maxLocals → decode c.code g.pc = .ok (ig, len) →
    2 * g.monitorRoom + (g.stack.map fun v => v.category).sum ≤ W9 → A.U.methodNamed? y = some mk → Pre A a →
    (∃ (v : Option Value) (B : Pt), Stand p l e R s m sargs below meth c B.U B.locs B.cells B.slots ∧ Post A a v B ∧
      Steps p.tables e below (doInvoke e (A.U.setTop g) [] mk a).1 (B.U.setTop { g with pc := g.pc + len, stack := v.toList ++ g.stack })) ∨
    (∃ (q : Addr) (B : Pt), Stand p l e R s m sargs below meth c B.U B.locs B.cells B.slots ∧ PostX A a q B ∧
      Steps p.tables e below (doInvoke e (A.U.setTop g) [] mk a).1 ((B.U.setTop g).pushFrame (.throwing q)))
section Payer
variable {l : Launch} {R : Room} {p : Program} {e : Env} {below : List Frame} {s : State} {sargs : Array Value} {y : MethodName} {len W9 : Nat}
theorem vx_back {ws : List Cond} {rm : Room} {Pc : Array Value → State → Prop} {Qc : Array Value → State → Outcome → State → Prop} {XC : String → State → State → Prop} {mc ms : Nat} {free : Addr → Prop} {bytes : ByteArray} {maxL : Nat} {ret : Option FieldType}
    (hM : vx_Met l y ws rm Pc Qc XC mc ms free) (hblind : FrameBlind Pc) (hrc : rm.cells = mc) (hrs : rm.slots = ms)
    (hframes : rm.frames + 1 ≤ R.frames) (hlocals : W9 + (maxL + 11) + rm.locals ≤ R.locals)
    (hws : ∀ w ∈ ws, ∀ a' U, s.WarmedH U.vm → w.before a' U = true) (hcode : Cond.code y bytes maxL ret ∈ ws) (hinit : ∀ a' U, s.WarmedH U.vm → (Cond.initialized y.cls).before a' U = true) :
    vx_Back l R p e below s sargs y len W9 (PreOf R mc ms Pc) (PostOf Qc mc ms free) (vx_Post XC mc ms free) := by
  intro m meth c A g ig mk a X hg hsize hdg hW hn hp
  have h1 : (headSpec ws rm).pre.before a A.U = true := atoms_intro fun w hw => hws w hw _ _ X.warmed
  have h2 : (Cond.code y bytes maxL ret).before a A.U = true := hws _ hcode _ _ X.warmed
  have h3 : (Cond.initialized y.cls).before a A.U = true := hinit _ _ X.warmed
  have h4 : A.cells + (headSpec ws rm).room.cells ≤ R.cells := by rw [show (headSpec ws rm).room.cells = mc from hrc]; exact hp.1
  have h5 : A.slots + (headSpec ws rm).room.slots ≤ R.slots := by rw [show (headSpec ws rm).room.slots = ms from hrs]; exact hp.2.1
  have hPc : Pc a (A.U.calling g mk a) := hblind _ _ _ _ hp.2.2
  obtain ⟨U, Ls, c0, s0⟩ := A
  dsimp only [Pt.U, Pt.locs, Pt.cells, Pt.slots] at h1 h2 h3 h4 h5 X hn hPc ⊢
  obtain ⟨methY, cY, hmY, hcY, -, hlY, -, -, -, -⟩ := Cond.code_spec hn h2
  obtain ⟨kY, hkY, -⟩ := className_of_methodNamed hn
  have hinitY : kY.init = .initialized := Cond.initialized_spec (findClass_of_methodNamed hn) hkY h3
  have h : At U g.method c below := by rw [hg]; exact X.here
  have hlocals9 : W9 + (maxL + 11) + (headSpec ws rm).room.locals ≤ R.locals := hlocals
  have happ : (headSpec ws rm).appliesLoose y e.platform (U.calling g mk a) = true :=
    Spec.appliesLoose_calling (g := g) h hdg hn hkY hinitY
      (X.room_calling (g := g) (R' := (headSpec ws rm).room) hsize hmY hcY hframes (by rw [hlY]; omega) h4 h5) h1
  obtain ⟨mid, hmid⟩ := h.above
  have hfr : (U.setTop g).frames = (.java g :: mid) ++ below := by rw [State.frames_setTop' g h.top, hmid]; rfl
  obtain ⟨o, s₂, hsteps, -, hend, hq⟩ := Steps.callFree hM p X.admits X.cas X.clock (acts := []) hfr happ hPc trivial
  have hq' : vx_Q Qc XC mc ms free a (U.calling g mk a) o s₂ := hq
  rw [State.frames_setTop' g h.top] at hend
  obtain ⟨g₀, hg0⟩ := Option.isSome_iff_exists.mp h.top
  obtain ⟨r, hr⟩ := State.topJava?_eq_some.mp hg0
  have hr' : (({ U with heap := s₂.heap, slotsUsed := s₂.slotsUsed } : State).setVm s₂.vm).frames = .java g₀ :: r := hr
  rcases hq' with ⟨hqc, L, hfe, hL⟩ | ⟨q, rfl, E, ce, L, hx, hce, hcv, hcl, hW₂, hsm, hL⟩
  · obtain ⟨⟨v, rfl⟩, hW₂, e2, q2, q3, q4, q5, q6⟩ := id hfe
    have e3 : s₂ = ({ (U.calling g mk a).setFrames s₂.frames with heap := s₂.heap, slotsUsed := s₂.slotsUsed } : State).setVm s₂.vm := by
      have : s₂ = ({ s₂ with vm := (U.calling g mk a).vm } : State).setVm s₂.vm := rfl
      rw [e2] at this
      exact this
    obtain ⟨c₂, i₂, len₂, hc₂, hd₂, hf₂⟩ := hend
    have hW' : U.WarmedH s₂.vm := hW₂
    have hcc : c₂ = c := by
      have h1 : s₂.code? g.method = U.code? g.method := by
        rw [State.code?_eq, State.code?_eq, hW'.alike.method?]
      exact Option.some.inj (hc₂.symm.trans (h1.trans h.code))
    subst hcc
    have hlen : len₂ = len := by rw [hdg] at hd₂; cases hd₂; rfl
    subst hlen
    have hs₂ : s₂ = (({ U with heap := s₂.heap, slotsUsed := s₂.slotsUsed } : State).setVm s₂.vm).setTop { g with pc := g.pc + len₂, stack := v.toList ++ g.stack } := by
      refine e3.trans ?_
      rw [hf₂, State.calling_eq h.top, State.setFrames_setFrames, State.setTop_of_frames _ hr', hr]
      rfl
    have hsame : U.sameButNew ({ U with heap := s₂.heap, slotsUsed := s₂.slotsUsed } : State) L mc ms := by
      refine ⟨?_, q2, q3, q4, q5, q6⟩
      obtain ⟨t, ht, -⟩ := State.frames_cons hr
      show ({ U with heap := s₂.heap, slotsUsed := s₂.slotsUsed } : State) = { U.setFrames U.frames with heap := s₂.heap, slotsUsed := s₂.slotsUsed }
      rw [State.setFrames_self ht]
    subst hg
    refine Or.inl ⟨v, ⟨(({ U with heap := s₂.heap, slotsUsed := s₂.slotsUsed } : State).setVm s₂.vm), Ls ++ L, c0 + mc, s0 + ms⟩,
      ⟨X.admits, X.cas, X.clock, X.frames, X.room, X.hears, X.method, X.code, (X.here.setHeapUsed s₂.heap s₂.slotsUsed).setVm hW'.alike, X.tail, State.WarmedH.trans X.warmed hW', X.limits, X.bytes, X.same.trans (hsame.setVm s.vm)⟩,
      ⟨g, mk, s₂, L, rfl, rfl, hqc, rfl, hL, rfl, rfl⟩, ?_⟩
    show Steps p.tables e below _ ((({ U with heap := s₂.heap, slotsUsed := s₂.slotsUsed } : State).setVm s₂.vm).setTop { g with pc := g.pc + len₂, stack := v.toList ++ g.stack })
    rw [← hs₂]
    exact hsteps
  · obtain ⟨e2, q2, q3, q4, q5, q6⟩ := id hsm
    have e3 : s₂ = ({ (U.calling g mk a).setFrames s₂.frames with heap := s₂.heap, slotsUsed := s₂.slotsUsed } : State).setVm s₂.vm := by
      have : s₂ = ({ s₂ with vm := (U.calling g mk a).vm } : State).setVm s₂.vm := rfl
      rw [e2] at this
      exact this
    have hf₂ : s₂.frames = .throwing q :: .java g :: U.frames.tail := hend
    have hW' : U.WarmedH s₂.vm := hW₂
    have hs₂ : s₂ = ((({ U with heap := s₂.heap, slotsUsed := s₂.slotsUsed } : State).setVm s₂.vm).setTop g).pushFrame (.throwing q) := by
      refine e3.trans ?_
      rw [hf₂, State.calling_eq h.top, State.setFrames_setFrames, State.pushFrame, State.frames_setTop _ hr', State.setTop_of_frames _ hr', State.setFrames_setFrames, hr]
      rfl
    have hsame : U.sameButNew ({ U with heap := s₂.heap, slotsUsed := s₂.slotsUsed } : State) L mc ms := by
      refine ⟨?_, q2, q3, q4, q5, q6⟩
      obtain ⟨t, ht, -⟩ := State.frames_cons hr
      show ({ U with heap := s₂.heap, slotsUsed := s₂.slotsUsed } : State) = { U.setFrames U.frames with heap := s₂.heap, slotsUsed := s₂.slotsUsed }
      rw [State.setFrames_self ht]
    subst hg
    refine Or.inr ⟨q, ⟨(({ U with heap := s₂.heap, slotsUsed := s₂.slotsUsed } : State).setVm s₂.vm), Ls ++ L, c0 + mc, s0 + ms⟩,
      ⟨X.admits, X.cas, X.clock, X.frames, X.room, X.hears, X.method, X.code, (X.here.setHeapUsed s₂.heap s₂.slotsUsed).setVm hW'.alike, X.tail, State.WarmedH.trans X.warmed hW', X.limits, X.bytes, X.same.trans (hsame.setVm s.vm)⟩,
      ⟨g, mk, s₂, L, E, ce, rfl, rfl, hx, hce, hcv, hcl, rfl, hL, rfl, rfl⟩, ?_⟩
    show Steps p.tables e below _ (((({ U with heap := s₂.heap, slotsUsed := s₂.slotsUsed } : State).setVm s₂.vm).setTop g).pushFrame (.throwing q))
    rw [← hs₂]
    exact hsteps
end Payer
section Calls
variable {p : Program} {l : Launch} {e : Env} {R : Room} {s : State} {m : MethodId} {args : Array Value} {below : List Frame} {meth : Method} {c : Code} {T : State} {locs : List Loc} {cells slots : Nat}
theorem vx_callV (X : Stand p l e R s m args below meth c T locs cells slots) (hexec : p.tables.exec = Jvm.exec) {own C : String} {index : Nat} {y : MethodName} {bytes : ByteArray} {maxL : Nat} {ret : Option FieldType}
    (hown : s.vm.findClass own = some m.cls) (hlink : (Cond.methodLink own index y).before args s = true) (hinst : (Cond.instanceMethod y).before args s = true) (hsel : (Cond.selects C y y).before args s = true)
    (hcode : (Cond.code y bytes maxL ret).before args s = true) (hy : y.cls ≠ "java/lang/invoke/MethodHandle" ∧ y.cls ≠ "java/lang/invoke/VarHandle")
    {W9 : Nat} {Pre : Pt → Array Value → Prop} {Post : Pt → Array Value → Option Value → Pt → Prop} {PostX : Pt → Array Value → Addr → Pt → Prop} (hK : vx_Back l R p e below s args y 3 W9 Pre Post PostX)
    {b : Addr} {cellB : Cell} (hcell : T.heap[b]? = some cellB) (hobj : cellB.vm.isStatics = false) (hcls : s.vm.findClass C = some cellB.cls)
    {g : JFrame} (hg : g.method = m) (hsize : g.locals.size = c.maxLocals) {argsL rest : List Value} (hlen : ∀ sig, parseMethodDescriptor y.desc = some sig → argsL.length = sig.parameters.length)
    (hstack : g.stack = argsL.reverse ++ .ref b :: rest) (hW : 2 * g.monitorRoom + (rest.map fun v => v.category).sum ≤ W9) (hdg : decode c.code g.pc = .ok (.invokevirtual index, 3))
    (hpre : ∀ vm₁, s.WarmedH vm₁ → Pre ⟨T.setVm vm₁, locs, cells, slots⟩ (Value.ref b :: argsL).toArray) :
    (∃ (v : Option Value) (vm₁ : Vm) (B : Pt), s.WarmedH vm₁ ∧ Stand p l e R s m args below meth c B.U B.locs B.cells B.slots ∧ Post ⟨T.setVm vm₁, locs, cells, slots⟩ (Value.ref b :: argsL).toArray v B ∧
      ∀ target, Steps p.tables e below (B.U.setTop { g with pc := g.pc + 3, stack := v.toList ++ rest }) target → Steps p.tables e below (T.setTop g) target) ∨
    (∃ (q : Addr) (vm₁ : Vm) (B : Pt), s.WarmedH vm₁ ∧ Stand p l e R s m args below meth c B.U B.locs B.cells B.slots ∧ PostX ⟨T.setVm vm₁, locs, cells, slots⟩ (Value.ref b :: argsL).toArray q B ∧
      Steps p.tables e below (T.setTop g) ((B.U.setTop { g with stack := rest }).pushFrame (.throwing q))) := by
  obtain ⟨mk, methM, hnamed, hmethM, hstM, habM⟩ := Cond.instanceMethod_spec hinst
  obtain ⟨methM', cM, hmethM', -, -, -, -, -, -, hsigM⟩ := Cond.code_spec hnamed hcode
  cases hmethM.symm.trans hmethM'
  obtain ⟨c2, r2, m2, q1, q2, q3, q4, kP, hkP, hkPi⟩ := Cond.selects_spec hsel
  cases hcls.symm.trans q1
  cases (State.methodFound?_of_named hnamed hy).symm.trans q2
  cases hnamed.symm.trans q3
  have hselP : selectMethod e.platform s.vm cellB.cls mk = .method mk := by rw [Launch.admits_selectMethod X.admits]; exact q4
  obtain ⟨vm₁, X₁, hstep₁⟩ := X.invokevirtual hexec hown hlink hnamed hmethM hstM hkP hkPi hy (a := b) (cell := cellB) hcell
    (fun z h => by rw [h] at hobj; cases hobj) hselP hmethM habM hkP hkPi (g := g) hg (argsL := argsL) (rest := rest) (hlen _ hsigM) hstack hdg
  rcases hK m meth c ⟨T.setVm vm₁, locs, cells, slots⟩ { g with stack := rest } (.invokevirtual index) mk (Value.ref b :: argsL).toArray X₁ hg hsize hdg hW (X₁.named hnamed) (hpre vm₁ X₁.warmed) with ⟨v, B, X', hpost, hsteps⟩ | ⟨q, B, X', hpost, hsteps⟩
  · exact Or.inl ⟨v, vm₁, B, X₁.warmed, X', hpost, fun target h => hstep₁ _ fun acts => by rw [doInvoke_state]; exact hsteps.trans h⟩
  · exact Or.inr ⟨q, vm₁, B, X₁.warmed, X', hpost, hstep₁ _ fun acts => by rw [doInvoke_state]; exact hsteps⟩
theorem vx_callS (X : Stand p l e R s m args below meth c T locs cells slots) (hexec : p.tables.exec = Jvm.exec) {own : String} {index : Nat} {y : MethodName} {bytes : ByteArray} {maxL : Nat} {ret : Option FieldType}
    (hown : s.vm.findClass own = some m.cls) (hlink : (Cond.methodLink own index y).before args s = true) (hstat : (Cond.static y).before args s = true) (hinit : (Cond.initialized y.cls).before args s = true)
    (hcode : (Cond.code y bytes maxL ret).before args s = true) (hy : y.cls ≠ "java/lang/invoke/MethodHandle" ∧ y.cls ≠ "java/lang/invoke/VarHandle")
    {W9 : Nat} {Pre : Pt → Array Value → Prop} {Post : Pt → Array Value → Option Value → Pt → Prop} {PostX : Pt → Array Value → Addr → Pt → Prop} (hK : vx_Back l R p e below s args y 3 W9 Pre Post PostX)
    {g : JFrame} (hg : g.method = m) (hsize : g.locals.size = c.maxLocals) {argsL rest : List Value} (hlen : ∀ sig, parseMethodDescriptor y.desc = some sig → argsL.length = sig.parameters.length)
    (hstack : g.stack = argsL.reverse ++ rest) (hW : 2 * g.monitorRoom + (rest.map fun v => v.category).sum ≤ W9) (hdg : decode c.code g.pc = .ok (.invokestatic index, 3))
    (hpre : ∀ vm₁, s.WarmedH vm₁ → Pre ⟨T.setVm vm₁, locs, cells, slots⟩ argsL.toArray) :
    (∃ (v : Option Value) (vm₁ : Vm) (B : Pt), s.WarmedH vm₁ ∧ Stand p l e R s m args below meth c B.U B.locs B.cells B.slots ∧ Post ⟨T.setVm vm₁, locs, cells, slots⟩ argsL.toArray v B ∧
      ∀ target, Steps p.tables e below (B.U.setTop { g with pc := g.pc + 3, stack := v.toList ++ rest }) target → Steps p.tables e below (T.setTop g) target) ∨
    (∃ (q : Addr) (vm₁ : Vm) (B : Pt), s.WarmedH vm₁ ∧ Stand p l e R s m args below meth c B.U B.locs B.cells B.slots ∧ PostX ⟨T.setVm vm₁, locs, cells, slots⟩ argsL.toArray q B ∧
      Steps p.tables e below (T.setTop g) ((B.U.setTop { g with stack := rest }).pushFrame (.throwing q))) := by
  obtain ⟨mk, hnamed⟩ := Cond.code_named hcode
  obtain ⟨methM, cM, hmethM, -, -, -, -, -, -, hsigM⟩ := Cond.code_spec hnamed hcode
  have hstatic : methM.isStatic = true := Cond.static_spec hnamed hmethM hstat
  obtain ⟨kP, hkP, -⟩ := className_of_methodNamed hnamed
  have hinitP : kP.init = .initialized := Cond.initialized_spec (findClass_of_methodNamed hnamed) hkP hinit
  obtain ⟨vm₁, X₁, hstep₁⟩ := X.invokestatic hexec hown hlink hnamed hmethM hstatic hkP hinitP hy (g := g) hg (argsL := argsL) (rest := rest) (hlen _ hsigM) hstack hdg
  rcases hK m meth c ⟨T.setVm vm₁, locs, cells, slots⟩ { g with stack := rest } (.invokestatic index) mk argsL.toArray X₁ hg hsize hdg hW (X₁.named hnamed) (hpre vm₁ X₁.warmed) with ⟨v, B, X', hpost, hsteps⟩ | ⟨q, B, X', hpost, hsteps⟩
  · exact Or.inl ⟨v, vm₁, B, X₁.warmed, X', hpost, fun target h => hstep₁ _ fun acts => by rw [doInvoke_state]; exact hsteps.trans h⟩
  · exact Or.inr ⟨q, vm₁, B, X₁.warmed, X', hpost, hstep₁ _ fun acts => by rw [doInvoke_state]; exact hsteps⟩
end Calls
theorem vx_cls {s : State} {T : State} {vm₁ : Vm} {E : String} {k : ClassId} (hW : s.WarmedH vm₁) (h : (T.setVm vm₁).vm.findClass E = some k) : s.vm.findClass E = some k := by
  have h1 : vm₁.findClass E = some k := h
  rw [hW.alike.findClass] at h1
  exact h1
/-- the method's frame g, with q thrown over it -/
def vx_W (p : Program) (l : Launch) (e : Env) (R : Room) (s : State) (m : MethodId) (args : Array Value) (below : List Frame) (meth : Method) (c : Code) (H : Heap) (locs : List Loc) (cells slots : Nat) (Q : State → Prop) (g : JFrame) (q : Addr) : Prop :=
  ∀ T : State, T.heap = H → Stand p l e R s m args below meth c T locs cells slots → ∃ t, Steps p.tables e below ((T.setTop g).pushFrame (.throwing q)) t ∧ Q t
def vx_Run (p : Program) (l : Launch) (e : Env) (R : Room) (s : State) (m : MethodId) (args : Array Value) (below : List Frame) (meth : Method) (c : Code) (H : Heap) (locs : List Loc) (cells slots mc ms : Nat) (g : JFrame) (rest : List Value) (Qa : State → Outcome → State → Prop) (XC : String → State → State → Prop) (free : Addr → Prop) : Prop :=
  ∀ T : State, T.heap = H → Stand p l e R s m args below meth c T locs cells slots →
    (∃ (v : Option Value) (st₀ t T' : State) (L : List Loc), st₀.heap = H ∧ Stand p l e R s m args below meth c T' (locs ++ L) (cells + mc) (slots + ms) ∧ (∀ q ∈ L, free q.base) ∧ T'.heap = t.heap ∧ T'.vm = t.vm ∧ Qa st₀ (.returned v) t ∧
      Goes p e below T g T' { g with pc := g.pc + 3, stack := v.toList ++ rest }) ∨
    (∃ (q : Addr) (st₀ t T' : State) (L : List Loc) (E : String) (ce : Cell), st₀.heap = H ∧ Stand p l e R s m args below meth c T' (locs ++ L) (cells + mc) (slots + ms) ∧ (∀ z ∈ L, free z.base) ∧ T'.heap = t.heap ∧ T'.vm = t.vm ∧ XC E st₀ t ∧ t.heap[q]? = some ce ∧ ce.vm = .none ∧ s.vm.findClass E = some ce.cls ∧
      Steps p.tables e below (T.setTop g) ((T'.setTop { g with stack := rest }).pushFrame (.throwing q)))
def vx_X {S : Type} (px : S → Prop) (B : String → S → State → Prop) (A : Nat → Prop) : String → State → State → Prop := fun E st t => ∃ u : S, px u ∧ B E u t ∧ va_F A st t
section Runs
variable {p : Program} {l : Launch} {e : Env} {R : Room} {s : State} {m : MethodId} {args : Array Value} {below : List Frame} {meth : Method} {c : Code} {H : Heap} {locs : List Loc} {cells slots : Nat}
variable {y : MethodName} {bytes cc : ByteArray} {maxL nL mc ms n index : Nat} {ret : Option FieldType} {ws : List Cond} {rm : Room} {Pc : Array Value → State → Prop} {Qc : Array Value → State → Outcome → State → Prop} {XC : String → State → State → Prop} {free : Addr → Prop} {Ts : List Cond} {own C : String} {b : Addr} {As rest : List Value} {g : JFrame}
theorem vx_callBack (cb : CallB R s args own index y bytes maxL ret ws rm mc ms n) (hM : vx_Met l y ws rm Pc Qc XC mc ms free) (hbl : FrameBlind Pc) : vx_Back l R p e below s args y 3 8 (PreOf R mc ms Pc) (PostOf Qc mc ms free) (vx_Post XC mc ms free) := by
  obtain ⟨hrc, hrs, hfr, hlo, hws, hcw, -, hini, -⟩ := cb
  exact vx_back (bytes := bytes) (maxL := maxL) (ret := ret) hM hbl hrc hrs hfr hlo hws hcw (fun a' U hW => word_at hW (Or.inl (by first | rfl | simp [Cond.onTables, Cond.keeps, Cond.steady])) hini)
theorem vx_runV (S : CallFix p m c cc nL s args Ts own) (hM : vx_Met l y ws rm Pc Qc XC mc ms free) (cw : CallW R s args own C index y bytes maxL ret ws rm mc ms n) (hp : PreV s H C b Pc As)
    (hg : g.method = m) (hn : As.length = n) (hsize : g.locals.size = nL) (hstack : g.stack = As.reverse ++ .ref b :: rest) (hW : 2 * g.monitorRoom + (rest.map fun v => v.category).sum ≤ 8) (hdg : decode cc g.pc = .ok (.invokevirtual index, 3)) (hf : cells + mc ≤ R.cells ∧ slots + ms ≤ R.slots) :
    vx_Run p l e R s m args below meth c H locs cells slots mc ms g rest (Qc (Value.ref b :: As).toArray) XC free := by
  have hK : vx_Back l R p e below s args y 3 8 (PreOf R mc ms Pc) (PostOf Qc mc ms free) (vx_Post XC mc ms free) := vx_callBack cw.1 hM hp.1
  obtain ⟨⟨-, -, -, -, -, -, hcode, -, hy, hlen, hl⟩, hin, hse⟩ := cw
  obtain ⟨hx, hb, hml, ho, -⟩ := S
  obtain ⟨-, ⟨cellB, hcB, hoB, hclB⟩, hPc⟩ := hp
  intro T hT X
  rcases vx_callV X hx (C := C) (bytes := bytes) (maxL := maxL) (ret := ret) ho hl hin hse hcode hy hK (by rw [hT]; exact hcB) hoB hclB hg (hsize.trans hml.symm) (argsL := As) (rest := rest) (fun sig h => hn.trans (hlen sig h)) hstack hW (by rw [hb]; exact hdg)
    (fun vm₁ hW₁ => ⟨hf.1, hf.2, hPc (T.setVm vm₁) hT hW₁⟩) with ⟨v, vm₁, ⟨U', l2, c2, s2⟩, hW₁, X', ⟨g', mk, t, L, e1, e2, hq, h1, hL, h2, h3⟩, st⟩ | ⟨q, vm₁, ⟨U', l2, c2, s2⟩, hW₁, X', ⟨g', mk, t, L, E, ce, e1, e2, hq, hce, hcv, hcl, h1, hL, h2, h3⟩, st⟩
  · dsimp only [Pt.U, Pt.locs, Pt.cells, Pt.slots] at X' e1 e2 h1 h2 h3 st
    subst h1; subst h2; subst h3
    exact Or.inl ⟨v, (T.setVm vm₁).calling g' mk (Value.ref b :: As).toArray, t, U', L, hT, X', hL, e1, e2, hq, st⟩
  · dsimp only [Pt.U, Pt.locs, Pt.cells, Pt.slots] at X' e1 e2 h1 h2 h3 st hcl
    subst h1; subst h2; subst h3
    exact Or.inr ⟨q, (T.setVm vm₁).calling g' mk (Value.ref b :: As).toArray, t, U', L, E, ce, hT, X', hL, e1, e2, hq, hce, hcv, vx_cls hW₁ hcl, st⟩
theorem vx_runS (S : CallFix p m c cc nL s args Ts own) (hM : vx_Met l y ws rm Pc Qc XC mc ms free) (cw : CallB R s args own index y bytes maxL ret ws rm mc ms n ∧ (Cond.static y).before args s = true) (hp : PreS s H Pc As)
    (hg : g.method = m) (hn : As.length = n) (hsize : g.locals.size = nL) (hstack : g.stack = As.reverse ++ rest) (hW : 2 * g.monitorRoom + (rest.map fun v => v.category).sum ≤ 8) (hdg : decode cc g.pc = .ok (.invokestatic index, 3)) (hf : cells + mc ≤ R.cells ∧ slots + ms ≤ R.slots) :
    vx_Run p l e R s m args below meth c H locs cells slots mc ms g rest (Qc As.toArray) XC free := by
  have hK : vx_Back l R p e below s args y 3 8 (PreOf R mc ms Pc) (PostOf Qc mc ms free) (vx_Post XC mc ms free) := vx_callBack cw.1 hM hp.1
  obtain ⟨⟨-, -, -, -, -, -, hcode, hini, hy, hlen, hl⟩, hstt⟩ := cw
  obtain ⟨hx, hb, hml, ho, -⟩ := S
  intro T hT X
  rcases vx_callS X hx (bytes := bytes) (maxL := maxL) (ret := ret) ho hl hstt hini hcode hy hK hg (hsize.trans hml.symm) (argsL := As) (rest := rest) (fun sig h => hn.trans (hlen sig h)) hstack hW (by rw [hb]; exact hdg)
    (fun vm₁ hW₁ => ⟨hf.1, hf.2, hp.2 (T.setVm vm₁) hT hW₁⟩) with ⟨v, vm₁, ⟨U', l2, c2, s2⟩, hW₁, X', ⟨g', mk, t, L, e1, e2, hq, h1, hL, h2, h3⟩, st⟩ | ⟨q, vm₁, ⟨U', l2, c2, s2⟩, hW₁, X', ⟨g', mk, t, L, E, ce, e1, e2, hq, hce, hcv, hcl, h1, hL, h2, h3⟩, st⟩
  · dsimp only [Pt.U, Pt.locs, Pt.cells, Pt.slots] at X' e1 e2 h1 h2 h3 st
    subst h1; subst h2; subst h3
    exact Or.inl ⟨v, (T.setVm vm₁).calling g' mk As.toArray, t, U', L, hT, X', hL, e1, e2, hq, st⟩
  · dsimp only [Pt.U, Pt.locs, Pt.cells, Pt.slots] at X' e1 e2 h1 h2 h3 st hcl
    subst h1; subst h2; subst h3
    exact Or.inr ⟨q, (T.setVm vm₁).calling g' mk As.toArray, t, U', L, E, ce, hT, X', hL, e1, e2, hq, hce, hcv, vx_cls hW₁ hcl, st⟩
end Runs
section Rows
variable {p : Program} {l : Launch} {e : Env} {R : Room} {s : State} {m : MethodId} {args : Array Value} {below : List Frame} {meth : Method} {c : Code} {H : Heap} {locs : List Loc} {cells slots : Nat} {Q : State → Prop}
variable {mc ms : Nat} {free : Addr → Prop} {A0 A1 : Nat → Prop} {H0 : Heap} {a : Array Value} {pc : Nat} {ls : Array Slot} {st0 rest : List Value}
theorem vx_keep {st₀ t T' : State} {L : List Loc} (h0 : st₀.heap = H) (e1 : T'.heap = t.heap) (hS : va_S A0 H0 H locs) (hA : ∀ q, q < H.size → A1 q → A0 q) (hf : ∀ q, free q → A0 q) (hL : ∀ q ∈ L, free q.base) (hF : va_F A1 st₀ t) :
    H.size ≤ T'.heap.size ∧ (∀ q : Nat, q < H.size → ¬ A1 q → T'.heap[q]? = H[q]?) ∧ va_S A0 H0 T'.heap (locs ++ L) := by
  obtain ⟨hz, hk⟩ := hF
  rw [h0] at hz hk
  exact ⟨by rw [e1]; exact hz, fun q h1 h2 => by rw [e1]; exact hk q h1 h2,
    ⟨Nat.le_trans hS.1 (by rw [e1]; exact hz), fun q h1 h2 => by rw [e1, hk q (Nat.lt_of_lt_of_le h1 hS.1) (fun z => h2 (hA q (Nat.lt_of_lt_of_le h1 hS.1) z))]; exact hS.2.1 q h1 h2, fun q hq => by
      rcases List.mem_append.mp hq with h | h
      · exact hS.2.2 q h
      · exact hf _ (hL q h)⟩⟩
theorem vx_calli {S SX : Type} {post : Int32 → S → Prop} {px : SX → Prop} {B : S → State → Prop} {BX : String → SX → State → Prop} {AX : Nat → Prop} (hr : vx_Run p l e R s m args below meth c H locs cells slots mc ms (F0 m pc ls st0) rest (va_Qi post B A1 a) (vx_X px BX AX) free) (hS : va_S A0 H0 H locs) (hA : ∀ q, q < H.size → A1 q → A0 q) (hf : ∀ q, free q → A0 q) (hAX : ∀ q, q < H.size → AX q → A0 q)
    (kx : ∀ (E : String) (ce : Cell) (q9 : Addr) (u : SX) (t : State) (H1 : Heap) (locs1 : List Loc), t.heap = H1 → s.vm.Alike t.vm → px u → BX E u t → H.size ≤ H1.size → (∀ q : Nat, q < H.size → ¬ AX q → H1[q]? = H[q]?) → va_S A0 H0 H1 locs1 → H1[q9]? = some ce → ce.vm = .none → s.vm.findClass E = some ce.cls → vx_W p l e R s m args below meth c H1 locs1 (cells + mc) (slots + ms) Q (F0 m pc ls rest) q9)
    (kk : ∀ (r : Int32) (u : S) (t : State) (H1 : Heap) (locs1 : List Loc), t.heap = H1 → s.vm.Alike t.vm → post r u → B u t → H.size ≤ H1.size → (∀ q : Nat, q < H.size → ¬ A1 q → H1[q]? = H[q]?) → va_S A0 H0 H1 locs1 → W p l e R s m args below meth c H1 locs1 (cells + mc) (slots + ms) Q (F0 m (pc + 3) ls (.int r :: rest))) : W p l e R s m args below meth c H locs cells slots Q (F0 m pc ls st0) := by
  intro T hT X
  rcases hr T hT X with ⟨v, st₀, t, T', L, h0, X', hL, e1, e2, ⟨⟨r, u, hv, hp, hb⟩, hF⟩, st⟩ | ⟨q, st₀, t, T', L, E, ce, h0, X', hL, e1, e2, ⟨u, hp, hb, hF⟩, hce, hcv, hcl, st⟩
  · cases hv
    obtain ⟨k1, k2, k3⟩ := vx_keep h0 e1 hS hA hf hL hF
    obtain ⟨t2, a1, b1⟩ := kk r u t T'.heap (locs ++ L) e1.symm (by rw [← e2]; exact X'.warmed.alike) hp hb k1 k2 k3 T' rfl X'
    exact ⟨t2, st t2 a1, b1⟩
  · obtain ⟨k1, k2, k3⟩ := vx_keep h0 e1 hS hAX hf hL hF
    obtain ⟨t2, a1, b1⟩ := kx E ce q u t T'.heap (locs ++ L) e1.symm (by rw [← e2]; exact X'.warmed.alike) hp hb k1 k2 k3 (by rw [e1]; exact hce) hcv hcl T' rfl X'
    exact ⟨t2, st.trans a1, b1⟩
theorem vx_calll {S SX : Type} {post : Int64 → S → Prop} {px : SX → Prop} {B : S → State → Prop} {BX : String → SX → State → Prop} {AX : Nat → Prop} (hr : vx_Run p l e R s m args below meth c H locs cells slots mc ms (F0 m pc ls st0) rest (va_Ql post B A1 a) (vx_X px BX AX) free) (hS : va_S A0 H0 H locs) (hA : ∀ q, q < H.size → A1 q → A0 q) (hf : ∀ q, free q → A0 q) (hAX : ∀ q, q < H.size → AX q → A0 q)
    (kx : ∀ (E : String) (ce : Cell) (q9 : Addr) (u : SX) (t : State) (H1 : Heap) (locs1 : List Loc), t.heap = H1 → s.vm.Alike t.vm → px u → BX E u t → H.size ≤ H1.size → (∀ q : Nat, q < H.size → ¬ AX q → H1[q]? = H[q]?) → va_S A0 H0 H1 locs1 → H1[q9]? = some ce → ce.vm = .none → s.vm.findClass E = some ce.cls → vx_W p l e R s m args below meth c H1 locs1 (cells + mc) (slots + ms) Q (F0 m pc ls rest) q9)
    (kk : ∀ (r : Int64) (u : S) (t : State) (H1 : Heap) (locs1 : List Loc), t.heap = H1 → s.vm.Alike t.vm → post r u → B u t → H.size ≤ H1.size → (∀ q : Nat, q < H.size → ¬ A1 q → H1[q]? = H[q]?) → va_S A0 H0 H1 locs1 → W p l e R s m args below meth c H1 locs1 (cells + mc) (slots + ms) Q (F0 m (pc + 3) ls (.long r :: rest))) : W p l e R s m args below meth c H locs cells slots Q (F0 m pc ls st0) := by
  intro T hT X
  rcases hr T hT X with ⟨v, st₀, t, T', L, h0, X', hL, e1, e2, ⟨⟨r, u, hv, hp, hb⟩, hF⟩, st⟩ | ⟨q, st₀, t, T', L, E, ce, h0, X', hL, e1, e2, ⟨u, hp, hb, hF⟩, hce, hcv, hcl, st⟩
  · cases hv
    obtain ⟨k1, k2, k3⟩ := vx_keep h0 e1 hS hA hf hL hF
    obtain ⟨t2, a1, b1⟩ := kk r u t T'.heap (locs ++ L) e1.symm (by rw [← e2]; exact X'.warmed.alike) hp hb k1 k2 k3 T' rfl X'
    exact ⟨t2, st t2 a1, b1⟩
  · obtain ⟨k1, k2, k3⟩ := vx_keep h0 e1 hS hAX hf hL hF
    obtain ⟨t2, a1, b1⟩ := kx E ce q u t T'.heap (locs ++ L) e1.symm (by rw [← e2]; exact X'.warmed.alike) hp hb k1 k2 k3 (by rw [e1]; exact hce) hcv hcl T' rfl X'
    exact ⟨t2, st.trans a1, b1⟩
theorem vx_callf {S SX : Type} {post : UInt32 → S → Prop} {px : SX → Prop} {B : S → State → Prop} {BX : String → SX → State → Prop} {AX : Nat → Prop} (hr : vx_Run p l e R s m args below meth c H locs cells slots mc ms (F0 m pc ls st0) rest (va_Qf post B A1 a) (vx_X px BX AX) free) (hS : va_S A0 H0 H locs) (hA : ∀ q, q < H.size → A1 q → A0 q) (hf : ∀ q, free q → A0 q) (hAX : ∀ q, q < H.size → AX q → A0 q)
    (kx : ∀ (E : String) (ce : Cell) (q9 : Addr) (u : SX) (t : State) (H1 : Heap) (locs1 : List Loc), t.heap = H1 → s.vm.Alike t.vm → px u → BX E u t → H.size ≤ H1.size → (∀ q : Nat, q < H.size → ¬ AX q → H1[q]? = H[q]?) → va_S A0 H0 H1 locs1 → H1[q9]? = some ce → ce.vm = .none → s.vm.findClass E = some ce.cls → vx_W p l e R s m args below meth c H1 locs1 (cells + mc) (slots + ms) Q (F0 m pc ls rest) q9)
    (kk : ∀ (r : UInt32) (u : S) (t : State) (H1 : Heap) (locs1 : List Loc), t.heap = H1 → s.vm.Alike t.vm → post r u → B u t → H.size ≤ H1.size → (∀ q : Nat, q < H.size → ¬ A1 q → H1[q]? = H[q]?) → va_S A0 H0 H1 locs1 → W p l e R s m args below meth c H1 locs1 (cells + mc) (slots + ms) Q (F0 m (pc + 3) ls (.float r :: rest))) : W p l e R s m args below meth c H locs cells slots Q (F0 m pc ls st0) := by
  intro T hT X
  rcases hr T hT X with ⟨v, st₀, t, T', L, h0, X', hL, e1, e2, ⟨⟨r, u, hv, hp, hb⟩, hF⟩, st⟩ | ⟨q, st₀, t, T', L, E, ce, h0, X', hL, e1, e2, ⟨u, hp, hb, hF⟩, hce, hcv, hcl, st⟩
  · cases hv
    obtain ⟨k1, k2, k3⟩ := vx_keep h0 e1 hS hA hf hL hF
    obtain ⟨t2, a1, b1⟩ := kk r u t T'.heap (locs ++ L) e1.symm (by rw [← e2]; exact X'.warmed.alike) hp hb k1 k2 k3 T' rfl X'
    exact ⟨t2, st t2 a1, b1⟩
  · obtain ⟨k1, k2, k3⟩ := vx_keep h0 e1 hS hAX hf hL hF
    obtain ⟨t2, a1, b1⟩ := kx E ce q u t T'.heap (locs ++ L) e1.symm (by rw [← e2]; exact X'.warmed.alike) hp hb k1 k2 k3 (by rw [e1]; exact hce) hcv hcl T' rfl X'
    exact ⟨t2, st.trans a1, b1⟩
theorem vx_calld {S SX : Type} {post : UInt64 → S → Prop} {px : SX → Prop} {B : S → State → Prop} {BX : String → SX → State → Prop} {AX : Nat → Prop} (hr : vx_Run p l e R s m args below meth c H locs cells slots mc ms (F0 m pc ls st0) rest (va_Qd post B A1 a) (vx_X px BX AX) free) (hS : va_S A0 H0 H locs) (hA : ∀ q, q < H.size → A1 q → A0 q) (hf : ∀ q, free q → A0 q) (hAX : ∀ q, q < H.size → AX q → A0 q)
    (kx : ∀ (E : String) (ce : Cell) (q9 : Addr) (u : SX) (t : State) (H1 : Heap) (locs1 : List Loc), t.heap = H1 → s.vm.Alike t.vm → px u → BX E u t → H.size ≤ H1.size → (∀ q : Nat, q < H.size → ¬ AX q → H1[q]? = H[q]?) → va_S A0 H0 H1 locs1 → H1[q9]? = some ce → ce.vm = .none → s.vm.findClass E = some ce.cls → vx_W p l e R s m args below meth c H1 locs1 (cells + mc) (slots + ms) Q (F0 m pc ls rest) q9)
    (kk : ∀ (r : UInt64) (u : S) (t : State) (H1 : Heap) (locs1 : List Loc), t.heap = H1 → s.vm.Alike t.vm → post r u → B u t → H.size ≤ H1.size → (∀ q : Nat, q < H.size → ¬ A1 q → H1[q]? = H[q]?) → va_S A0 H0 H1 locs1 → W p l e R s m args below meth c H1 locs1 (cells + mc) (slots + ms) Q (F0 m (pc + 3) ls (.double r :: rest))) : W p l e R s m args below meth c H locs cells slots Q (F0 m pc ls st0) := by
  intro T hT X
  rcases hr T hT X with ⟨v, st₀, t, T', L, h0, X', hL, e1, e2, ⟨⟨r, u, hv, hp, hb⟩, hF⟩, st⟩ | ⟨q, st₀, t, T', L, E, ce, h0, X', hL, e1, e2, ⟨u, hp, hb, hF⟩, hce, hcv, hcl, st⟩
  · cases hv
    obtain ⟨k1, k2, k3⟩ := vx_keep h0 e1 hS hA hf hL hF
    obtain ⟨t2, a1, b1⟩ := kk r u t T'.heap (locs ++ L) e1.symm (by rw [← e2]; exact X'.warmed.alike) hp hb k1 k2 k3 T' rfl X'
    exact ⟨t2, st t2 a1, b1⟩
  · obtain ⟨k1, k2, k3⟩ := vx_keep h0 e1 hS hAX hf hL hF
    obtain ⟨t2, a1, b1⟩ := kx E ce q u t T'.heap (locs ++ L) e1.symm (by rw [← e2]; exact X'.warmed.alike) hp hb k1 k2 k3 (by rw [e1]; exact hce) hcv hcl T' rfl X'
    exact ⟨t2, st.trans a1, b1⟩
theorem vx_callv {S SX : Type} {post : S → Prop} {px : SX → Prop} {B : S → State → Prop} {BX : String → SX → State → Prop} {AX : Nat → Prop} (hr : vx_Run p l e R s m args below meth c H locs cells slots mc ms (F0 m pc ls st0) rest (va_Qv post B A1 a) (vx_X px BX AX) free) (hS : va_S A0 H0 H locs) (hA : ∀ q, q < H.size → A1 q → A0 q) (hf : ∀ q, free q → A0 q) (hAX : ∀ q, q < H.size → AX q → A0 q)
    (kx : ∀ (E : String) (ce : Cell) (q9 : Addr) (u : SX) (t : State) (H1 : Heap) (locs1 : List Loc), t.heap = H1 → s.vm.Alike t.vm → px u → BX E u t → H.size ≤ H1.size → (∀ q : Nat, q < H.size → ¬ AX q → H1[q]? = H[q]?) → va_S A0 H0 H1 locs1 → H1[q9]? = some ce → ce.vm = .none → s.vm.findClass E = some ce.cls → vx_W p l e R s m args below meth c H1 locs1 (cells + mc) (slots + ms) Q (F0 m pc ls rest) q9)
    (kk : ∀ (u : S) (t : State) (H1 : Heap) (locs1 : List Loc), t.heap = H1 → s.vm.Alike t.vm → post u → B u t → H.size ≤ H1.size → (∀ q : Nat, q < H.size → ¬ A1 q → H1[q]? = H[q]?) → va_S A0 H0 H1 locs1 → W p l e R s m args below meth c H1 locs1 (cells + mc) (slots + ms) Q (F0 m (pc + 3) ls (rest))) : W p l e R s m args below meth c H locs cells slots Q (F0 m pc ls st0) := by
  intro T hT X
  rcases hr T hT X with ⟨v, st₀, t, T', L, h0, X', hL, e1, e2, ⟨⟨u, hv, hp, hb⟩, hF⟩, st⟩ | ⟨q, st₀, t, T', L, E, ce, h0, X', hL, e1, e2, ⟨u, hp, hb, hF⟩, hce, hcv, hcl, st⟩
  · cases hv
    obtain ⟨k1, k2, k3⟩ := vx_keep h0 e1 hS hA hf hL hF
    obtain ⟨t2, a1, b1⟩ := kk u t T'.heap (locs ++ L) e1.symm (by rw [← e2]; exact X'.warmed.alike) hp hb k1 k2 k3 T' rfl X'
    exact ⟨t2, st t2 a1, b1⟩
  · obtain ⟨k1, k2, k3⟩ := vx_keep h0 e1 hS hAX hf hL hF
    obtain ⟨t2, a1, b1⟩ := kx E ce q u t T'.heap (locs ++ L) e1.symm (by rw [← e2]; exact X'.warmed.alike) hp hb k1 k2 k3 (by rw [e1]; exact hce) hcv hcl T' rfl X'
    exact ⟨t2, st.trans a1, b1⟩
/-- caught by the row x of this method's table; the rows ahead don't take it -/
theorem vx_catch {own name : String} {E : String} {ce : Cell} {q : Addr} (hown : s.vm.findClass own = some m.cls) (pre : List ExceptionTableEntry) (x : ExceptionTableEntry) (suf : List ExceptionTableEntry) (hsplit : c.exceptionTable.toList = pre ++ x :: suf)
    (hpass : ∀ z ∈ pre, covers z pc = false ∨ (z.catchType ≠ 0 ∧ ∃ nm : String, (Cond.classLink own z.catchType nm).before args s = true ∧ va_Nc E nm s)) (hx : covers x pc = true) (h0 : x.catchType ≠ 0)
    (hlink : (Cond.classLink own x.catchType name).before args s = true) (hcast : (Cond.castable E name).before args s = true) (hcell : H[q]? = some ce) (hv : ce.vm = .none) (hcl : s.vm.findClass E = some ce.cls)
    (kk : W p l e R s m args below meth c H locs cells slots Q (F0 m x.handlerPc ls [.ref q])) : vx_W p l e R s m args below meth c H locs cells slots Q (F0 m pc ls rest) q := by
  intro T hT X
  have hpl : e.platform.magicAccessors = ({} : Platform).magicAccessors := by rw [X.admits.platform]
  obtain ⟨c3, c4, hc3, hc4, hasg⟩ := Cond.castable_spec hcast
  cases Option.some.inj (hc3.symm.trans hcl)
  obtain ⟨c5, hc5, hcl5⟩ := Cond.classLink_spec hown hlink e.platform hpl
  cases Option.some.inj (hc4.symm.trans hc5)
  obtain ⟨vm', X', st⟩ := X.thenCaughtThrough q (g := F0 m pc ls rest) rfl (Steps.refl _) (by rw [hT]; exact hcell) (by rw [hv]; rfl) (by obtain ⟨k9, h9, -⟩ := Vm.findClass_spec hcl; exact ⟨k9, h9⟩) pre x suf hsplit
    (fun z hz => by
      rcases hpass z hz with h | ⟨hz0, nm, hl1, hn1⟩
      · exact Or.inl h
      · obtain ⟨c6, hc6, hcl6⟩ := Cond.classLink_spec hown hl1 e.platform hpl
        obtain ⟨a8, b8, h1, h2, h3⟩ := hn1
        cases Option.some.inj (h1.symm.trans hcl)
        cases Option.some.inj (h2.symm.trans hc6)
        exact Or.inr ⟨hz0, _, hcl6, h3⟩) hx (Or.inr ⟨h0, c4, hcl5, hasg⟩)
  obtain ⟨t, a1, b1⟩ := kk (T.setVm vm') hT X'
  exact ⟨t, st.trans a1, b1⟩
end Rows
section Ends
variable {p : Program} {l : Launch} {e : Env} {R : Room} {s : State} {m : MethodId} {args : Array Value} {below : List Frame} {meth : Method} {c : Code} {H : Heap} {locs : List Loc} {cells slots : Nat} {Q : State → Prop}
variable {mc ms : Nat} {free : Addr → Prop} {A0 A1 : Nat → Prop} {H0 : Heap} {a : Array Value} {ls : Array Slot} {st0 rest : List Value}
variable {Qc : Array Value → State → Outcome → State → Prop} {XC : String → State → State → Prop}
/-- what a body that may throw owes at its end -/
def vx_MQ (below : List Frame) (Qc : Array Value → State → Outcome → State → Prop) (XC : String → State → State → Prop) (a : Array Value) (s : State) (mc ms : Nat) (free : Addr → Prop) : State → Prop := fun t =>
  ∃ o, t.status = .running ∧ Ended t below o ∧ vx_Q Qc XC mc ms free a s o t
theorem vx_ret {g : JFrame} {mc ms : Nat} (k : W p l e R s m args below meth c H locs cells slots (MQ below Qc args s mc ms free) g) : W p l e R s m args below meth c H locs cells slots (vx_MQ below Qc XC args s mc ms free) g := by
  intro T hT X
  obtain ⟨t, a1, o, b1, b2, b3, b4⟩ := k T hT X
  exact ⟨t, a1, o, b1, b2, Or.inl ⟨b3, b4⟩⟩
/-- not caught here: it goes on to the caller -/
theorem vx_widen {g : JFrame} {q : Addr} {k n : Nat} (h1 : cells ≤ k) (h2 : slots ≤ n) (kk : vx_W p l e R s m args below meth c H locs k n Q g q) : vx_W p l e R s m args below meth c H locs cells slots Q g q := fun T hT X => kk T hT (stand_widen X h1 h2)
theorem vx_out {pc : Nat} {E : String} {ce : Cell} {q : Addr} {mc ms : Nat} (hout : ∀ x ∈ c.exceptionTable.toList, covers x pc = false) (hlocks : meth.locks = false) (hcell : H[q]? = some ce) (hv : ce.vm = .none) (hcl : s.vm.findClass E = some ce.cls)
    (hx : ∀ t : State, t.heap = H → s.vm.Alike t.vm → XC E s t) (hf : ∀ z ∈ locs, free z.base) (hc : cells ≤ mc) (hs : slots ≤ ms) :
    vx_W p l e R s m args below meth c H locs cells slots (vx_MQ below Qc XC args s mc ms free) (F0 m pc ls rest) q := by
  intro T hT X
  obtain ⟨st1, hrun, hend, hW, hsm⟩ := X.leaveThrown q (g := F0 m pc ls rest) rfl rfl rfl hout hlocks
  have hcell9 : (T.setFrames (.throwing q :: below)).heap[q]? = some ce := by
    show T.heap[q]? = some ce
    rw [hT]; exact hcell
  exact ⟨_, st1, .threw q, hrun, hend, Or.inr ⟨q, rfl, E, ce, locs, hx _ hT hW.alike, hcell9, hv, hcl, hW, hsm.mono hc hs, hf⟩⟩
theorem vx_frame {U : State} {k n : Nat} (h : s.sameButNew ({ U with vm := s.vm } : State) locs k n) : s.heap.size ≤ U.heap.size ∧ ∀ q : Nat, q < s.heap.size → (∀ z ∈ locs, z.base ≠ q) → U.heap[q]? = s.heap[q]? := by
  obtain ⟨-, h2, -, -, -, h6⟩ := h
  refine ⟨h2, fun q hq hz => ?_⟩
  obtain ⟨c9, e1, e2, e3, e4⟩ := h6 q _ (Array.getElem?_eq_getElem hq)
  have hs : c9.slots = (s.heap[q]).slots := Array.ext_getElem? fun i => e4 i fun hm => hz _ hm rfl
  have h9 : c9 = s.heap[q] := by
    rw [hs] at e2
    exact e2
  have e5 : U.heap[q]? = some c9 := e1
  rw [e5, h9, Array.getElem?_eq_getElem hq]
/-- the words of a throw but the four that speak of the heap -/
def vx_no (w : Cond) : Bool := decide (w ≠ .isRef (.static Bundle.tN "UNASSIGNED_STACK" Bundle.steD)) && decide (w ≠ .isRef (.static Bundle.tN "SUPPRESSED_SENTINEL" Bundle.listD)) && decide (w ≠ .laysStatic Bundle.tN "UNASSIGNED_STACK" Bundle.steD) && decide (w ≠ .laysStatic Bundle.tN "SUPPRESSED_SENTINEL" Bundle.listD)
def vx_at0 (own : String) (ic : Nat) (X : String) (names : List String) : List Cond := (Bundle.ownAtoms0 own ic X names).filter vx_no
def vx_atS (own : String) (ic : Nat) (X : String) (names : List String) : List Cond := (Bundle.ownAtoms own ic X names).filter vx_no
/-- a word that the tables alone decide, or a good one -/
def vx_ot (w : Cond) : Bool := w.onTables || goodWord w
theorem vx_ot_at {args a' : Array Value} {s U : State} {w : Cond} (hW : s.WarmedH U.vm) (hvm : s.vm = U.vm) (hg : vx_ot w = true) (h : w.before args s = true) : w.before a' U = true := by
  simp only [vx_ot, Bool.or_eq_true] at hg
  rcases hg with hg | hg
  · exact va_tabs hg hvm h
  · exact word_at hW (good_of_word hg) h
/-- a list's words: the good ones out of the method's own list, the others by premises of their own -/
theorem vx_hat {args : Array Value} {s : State} {L B : List Cond} (h1 : ∀ w ∈ L.filter goodWord, w.before args s = true) (h2 : ∀ w ∈ L.filter (fun w => !goodWord w), w ∈ B) (h3 : ∀ w ∈ B, w.before args s = true) : ∀ w ∈ L, w.before args s = true := by
  intro w hw
  by_cases g : goodWord w = true
  · exact h1 w (List.mem_filter.mpr ⟨hw, g⟩)
  · refine h3 w (h2 w (List.mem_filter.mpr ⟨hw, ?_⟩))
    show (!goodWord w) = true
    cases hgw : goodWord w
    · rfl
    · exact absurd hgw g
theorem vx_c {args : Array Value} {s : State} {w : Cond} {B : List Cond} (h : w.before args s = true) (t : ∀ w ∈ B, w.before args s = true) : ∀ w' ∈ w :: B, w'.before args s = true := fun w' h' => (List.mem_cons.mp h').elim (fun e => by rw [e]; exact h) (t w')
theorem vx_n {args : Array Value} {s : State} : ∀ w ∈ ([] : List Cond), w.before args s = true := fun _ h => nomatch h
theorem vx_own {args : Array Value} {s : State} {L : List Cond} (h1 : ∀ w ∈ L.filter vx_no, w.before args s = true)
    (hU : (Cond.isRef (.static Bundle.tN "UNASSIGNED_STACK" Bundle.steD)).before args s = true) (hN : (Cond.isRef (.static Bundle.tN "SUPPRESSED_SENTINEL" Bundle.listD)).before args s = true)
    (lU : (Cond.laysStatic Bundle.tN "UNASSIGNED_STACK" Bundle.steD).before args s = true) (lN : (Cond.laysStatic Bundle.tN "SUPPRESSED_SENTINEL" Bundle.listD).before args s = true) : ∀ w ∈ L, w.before args s = true := by
  intro w hw
  by_cases e1 : w = .isRef (.static Bundle.tN "UNASSIGNED_STACK" Bundle.steD)
  · rw [e1]; exact hU
  · by_cases e2 : w = .isRef (.static Bundle.tN "SUPPRESSED_SENTINEL" Bundle.listD)
    · rw [e2]; exact hN
    · by_cases e3 : w = .laysStatic Bundle.tN "UNASSIGNED_STACK" Bundle.steD
      · rw [e3]; exact lU
      · by_cases e4 : w = .laysStatic Bundle.tN "SUPPRESSED_SENTINEL" Bundle.listD
        · rw [e4]; exact lN
        · exact h1 w (List.mem_filter.mpr ⟨hw, by unfold vx_no; rw [decide_eq_true e1, decide_eq_true e2, decide_eq_true e3, decide_eq_true e4]; rfl⟩)
/-- where a static field lies, its class's statics cell in H -/
def vx_L (C n d : String) (A : Nat → Prop) (U : State) (H : Heap) : Prop := ∃ (c : ClassId) (k : Class) (i : Nat) (f : Field) (a : Nat) (cell : Cell), U.vm.findClass C = some c ∧ U.fieldFound? C n d = some (c, k, i, f) ∧ f.isStatic = true ∧ k.statics = some a ∧ H[a]? = some cell ∧ cell.vm.isStatics = true ∧ cell.cls = c ∧ f.slot < cell.slots.size ∧ k.staticTypes[f.slot]? = some f.type ∧ ¬ A a
theorem vx_L.moved {C n d : String} {A : Nat → Prop} {u U : State} {H : Heap} (hvm : u.vm.Alike U.vm) (h : vx_L C n d A u H) : vx_L C n d A U H := by
  obtain ⟨c, k, i, f, a, cell, h1, h2, h3, h4, h5, h6, h7, h8, h9, h10⟩ := h
  obtain ⟨k', hi', he⟩ := State.fieldFound?_setVm hvm h2
  exact ⟨c, k', i, f, a, cell, by rw [hvm.findClass]; exact h1, hi', h3, by rw [he]; exact h4, h5, h6, h7, h8, by rw [he]; exact h9, h10⟩
theorem vx_L.kept {C n d : String} {A : Nat → Prop} {U : State} {H H1 : Heap} (h : vx_L C n d A U H) (hq : ∀ a : Nat, a < H.size → ¬ A a → H1[a]? = H[a]?) : vx_L C n d A U H1 := by
  obtain ⟨c, k, i, f, a, cell, h1, h2, h3, h4, h5, h6, h7, h8, h9, h10⟩ := h
  exact ⟨c, k, i, f, a, cell, h1, h2, h3, h4, by rw [hq a (Array.getElem?_eq_some_iff.mp h5).1 h10]; exact h5, h6, h7, h8, h9, h10⟩
theorem vx_L.narrow {C n d : String} {A B : Nat → Prop} {U : State} {H : Heap} (h : vx_L C n d A U H) (hAB : ∀ q, B q → A q) : vx_L C n d B U H := by
  obtain ⟨c, k, i, f, a, cell, h1, h2, h3, h4, h5, h6, h7, h8, h9, h10⟩ := h
  exact ⟨c, k, i, f, a, cell, h1, h2, h3, h4, h5, h6, h7, h8, h9, fun z => h10 (hAB _ z)⟩
theorem vx_L.word {C n d : String} {A : Nat → Prop} {s : State} {args : Array Value} (h : vx_L C n d A s s.heap) : (Cond.laysStatic C n d).before args s = true := by
  obtain ⟨c, k, i, f, a, cell, h1, h2, h3, h4, h5, h6, h7, h8, h9, -⟩ := h
  show (Cond.laysStatic C n d).holds args s none s [] = true
  exact Cond.laysStatic_of h1 h2 h3 h4 h5 h6 h7 h8 h9
/-- .. and what it holds: null or some reference -/
def vx_Zq (C n d : String) (A : Nat → Prop) (U : State) (H : Heap) : Prop := va_Zq C n d A U H ∧ vx_L C n d A U H
theorem vx_Zq.moved {C n d : String} {A : Nat → Prop} {u U : State} {H : Heap} (hvm : u.vm.Alike U.vm) (h : vx_Zq C n d A u H) : vx_Zq C n d A U H := ⟨va_Zq.moved hvm h.1, vx_L.moved hvm h.2⟩
theorem vx_Zq.kept {C n d : String} {A : Nat → Prop} {U : State} {H H1 : Heap} (h : vx_Zq C n d A U H) (hq : ∀ a : Nat, a < H.size → ¬ A a → H1[a]? = H[a]?) : vx_Zq C n d A U H1 := ⟨va_Zq.kept h.1 hq, vx_L.kept h.2 hq⟩
theorem vx_Zq.narrow {C n d : String} {A B : Nat → Prop} {U : State} {H : Heap} (h : vx_Zq C n d A U H) (hAB : ∀ q, B q → A q) : vx_Zq C n d B U H := ⟨va_Zq.narrow h.1 hAB, vx_L.narrow h.2 hAB⟩
theorem vx_Zqof {args : Array Value} {s : State} {C n d : String} {A : Nat → Prop} (hl : (Cond.laysStatic C n d).before args s = true) (hini : (Cond.initialized C).before args s = true) (h : (Cond.isRef (.static C n d)).before args s = true) (hA : ∀ a : Nat, a < s.heap.size → ¬ A a) : vx_Zq C n d A s s.heap := by
  refine ⟨va_Zqof hl hini h hA, ?_⟩
  obtain ⟨c, k, i, f, a, cell, h1, h2, h3, h4, h5, h6, h7, h8, h9⟩ := Cond.laysStatic_spec hl
  exact ⟨c, k, i, f, a, cell, h1, h2, h3, h4, h5, h6, h7, h8, h9, hA a (Array.getElem?_eq_some_iff.mp h5).1⟩
theorem vx_isRef {C n d : String} {v : Value} {A : Nat → Prop} {s : State} {args : Array Value} (h : va_Z C n d v A s s.heap) (hv : v.isRef = true) : (Cond.isRef (.static C n d)).before args s = true := by
  obtain ⟨cf, kf, fi, f, a, cell, h1, h2, h3, h4, h5, h6, h7, -⟩ := h
  have he : (Term.static C n d).eval args s none [] s = some v := by
    simp [Term.eval, State.fieldNamed?, h1, h2, h4, h5, h6, h7]
  simp only [Cond.before, Cond.holds, Cond.value, he]
  cases v <;> simp_all [Value.isRef]
theorem vx_isRefq {C n d : String} {A : Nat → Prop} {s : State} {args : Array Value} (h : va_Zq C n d A s s.heap) : (Cond.isRef (.static C n d)).before args s = true := by
  rcases h with h | ⟨t, h⟩
  · exact vx_isRef h rfl
  · exact vx_isRef h rfl
/-- the same frame, seen from here: as if the method were called anew in this heap -/
theorem vx_rebase {T : State} (X : Stand p l e R s m args below meth c T locs cells slots) {R' : Room} (hf : R'.frames ≤ R.frames) (hl : R'.locals ≤ R.locals) (hc : cells + R'.cells ≤ R.cells) (hs : slots + R'.slots ≤ R.slots) :
    Stand p l e R' ((T.setVm s.vm).setFrames (.invoking m args :: below)) m args below meth c T [] 0 0 := by
  have htop : (T.setVm s.vm).topJava?.isSome := X.here.top
  have hF : ((T.setVm s.vm).setFrames (.invoking m args :: below)).frames = .invoking m args :: below := State.frames_setFrames _ (State.cur_lt_of_top htop)
  obtain ⟨g₀, hg0⟩ := Option.isSome_iff_exists.mp htop
  obtain ⟨r, hr⟩ := State.topJava?_eq_some.mp hg0
  have hl9 : e.platform.stackLimits (T.setVm s.vm).me = e.platform.stackLimits s.me := X.limits
  have hb9 : (T.setVm s.vm).me.stackBytes = s.me.stackBytes := X.bytes
  refine ⟨X.admits, X.cas, X.clock, hF, ?_, X.hears, X.method, X.code, X.here, X.tail, X.warmed, ?_, ?_, ?_⟩
  · have h := X.room
    have hU : ((T.setVm s.vm).setFrames (.invoking m args :: below)).localsInUse = s.localsInUse := by
      rw [State.localsInUse_invoking hF (meth := meth) (c := c) X.method X.code, State.localsInUse_invoking X.frames X.method X.code]
    simp only [State.hasRoom, Bool.and_eq_true, decide_eq_true_eq] at h ⊢
    obtain ⟨⟨⟨⟨h1, h2, h3, h4, h5, h6⟩, h7⟩, h8⟩, h9⟩ := h
    rw [X.frames, List.length_cons] at h2 h3
    have q1 := X.heapSize
    have q2 := X.used
    simp only [hF, hU, List.length_cons, State.stackLimits_setFrames, State.stackBytes_setFrames, hl9, hb9]
    refine ⟨⟨⟨⟨by omega, by omega, by omega, by omega, by omega, h6⟩, ?_⟩, ?_⟩, X.book⟩
    · show T.heap.size + R'.cells ≤ e.platform.maxCells
      omega
    · show T.slotsUsed + R'.slots ≤ e.platform.maxSlots
      omega
  · rw [State.stackLimits_setFrames]; rfl
  · rw [State.stackBytes_setFrames]; rfl
  · refine ⟨?_, Nat.le_refl _, Nat.le_refl _, ?_, ?_, fun a c9 h9 => ⟨c9, h9, rfl, rfl, fun _ _ => rfl⟩⟩
    · obtain ⟨t, ht, -⟩ := State.frames_cons hr
      show T.setVm s.vm = { ((T.setVm s.vm).setFrames (.invoking m args :: below)).setFrames (T.setVm s.vm).frames with heap := T.heap, slotsUsed := T.slotsUsed }
      rw [State.setFrames_setFrames, State.setFrames_self ht]
      rfl
    · show T.slotsUsed = T.slotsUsed + ((T.heap.toList.drop T.heap.size).map (·.slots.size)).sum
      rw [List.drop_eq_nil_of_le (Nat.le_of_eq Array.length_toList)]
      rfl
    · show ((T.heap.toList.drop T.heap.size).map (·.slots.size)).sum ≤ 0
      rw [List.drop_eq_nil_of_le (Nat.le_of_eq Array.length_toList)]
      exact Nat.le_refl _
/-- 'throw new E()': new; dup; invokespecial; athrow -/
theorem vx_throw0 {cc : ByteArray} {pc : Nat} (hexec : p.tables.exec = Jvm.exec) (hb : c.code = cc) (hl : l.stackTraces = false) {own cls : String} {names : List String} {ik ic mc ms : Nat} {A : Nat → Prop}
    (hown : s.vm.findClass own = some m.cls) (hcls : Bundle.fit cls = true) (hnames : ∀ n ∈ names, Bundle.fit n = true)
    (hk : (Cond.classLink own ik cls).before args s = true) (hini : (Cond.initialized cls).before args s = true) (hat : ∀ w ∈ vx_at0 own ic cls names, w.before args s = true)
    (hgood : ∀ w ∈ Cond.classLink own ik cls :: Cond.initialized cls :: vx_at0 own ic cls names, vx_ot w = true)
    (hU : vx_Zq Bundle.tN "UNASSIGNED_STACK" Bundle.steD A s s.heap) (hN : vx_Zq Bundle.tN "SUPPRESSED_SENTINEL" Bundle.listD A s s.heap) (hS : va_S A s.heap H locs) (hsize : ls.size = c.maxLocals)
    (d0 : decode cc pc = .ok (.new ik, 3)) (d3 : decode cc (pc + 3) = .ok (.dup, 1)) (d4 : decode cc (pc + 4) = .ok (.invokespecial ic, 3)) (d7 : decode cc (pc + 7) = .ok (.athrow, 1))
    (hout : ∀ x ∈ c.exceptionTable.toList, covers x (pc + 7) = false)
    (hRframes : names.length + 3 < R.frames) (hRlocals : (rest.map fun v => v.category).sum + (13 * (names.length + 1) + 42) ≤ R.locals) (hRcells : cells + 1 ≤ R.cells) (hRslots : slots + 6 ≤ R.slots) (hlocks : meth.locks = false)
    (hx : ∀ t : State, s.vm.Alike t.vm → H.size ≤ t.heap.size → (∀ q : Nat, q < H.size → t.heap[q]? = H[q]?) → XC cls s t)
    (hf : ∀ z ∈ locs, free z.base) (hc : cells + 1 ≤ mc) (hs : slots + 6 ≤ ms) :
    W p l e R s m args below meth c H locs cells slots (vx_MQ below Qc XC args s mc ms free) (F0 m pc ls rest) := by
  intro T hT X
  have htr : e.platform.stackTraces = false := (show e.platform.stackTraces = l.stackTraces by rw [X.admits.platform]).trans hl
  have Y := vx_rebase X (R' := { frames := R.frames, locals := R.locals, cells := 1, slots := 6 }) (Nat.le_refl _) (Nat.le_refl _) hRcells hRslots
  obtain ⟨s', hA⟩ : ∃ z, z = (T.setVm s.vm).setFrames (.invoking m args :: below) := ⟨_, rfl⟩
  rw [← hA] at Y
  have hvm : s'.vm = s.vm := by rw [hA]; rfl
  have hhp : s'.heap = H := by rw [hA]; exact hT
  have hW0 : s.WarmedH s'.vm := by rw [hvm]; exact State.WarmedH.refl s
  have hat' : ∀ w ∈ vx_at0 own ic cls names, w.before args s' = true := fun w hw => vx_ot_at hW0 hvm.symm (hgood w (List.mem_cons_of_mem _ (List.mem_cons_of_mem _ hw))) (hat w hw)
  have hk' : (Cond.classLink own ik cls).before args s' = true := vx_ot_at hW0 hvm.symm (hgood _ List.mem_cons_self) hk
  have hini' : (Cond.initialized cls).before args s' = true := vx_ot_at hW0 hvm.symm (hgood _ (List.mem_cons_of_mem _ List.mem_cons_self)) hini
  have hU' : vx_Zq Bundle.tN "UNASSIGNED_STACK" Bundle.steD A s' s'.heap := by rw [hhp]; exact vx_Zq.moved hW0.alike (hU.kept hS.2.1)
  have hN' : vx_Zq Bundle.tN "SUPPRESSED_SENTINEL" Bundle.listD A s' s'.heap := by rw [hhp]; exact vx_Zq.moved hW0.alike (hN.kept hS.2.1)
  have h : ∀ w ∈ Bundle.ownAtoms0 own ic cls names, w.before args s' = true := vx_own hat' (vx_isRefq hU'.1) (vx_isRefq hN'.1) hU'.2.word hN'.2.word
  have hown' : s'.vm.findClass own = some m.cls := by rw [hvm]; exact hown
  have hins : (Cond.instantiable cls 6).before args s' = true := h _ (by simp [Bundle.ownAtoms0])
  obtain ⟨vm₁, cX, kX, hfX, hkX, -, -, X₁, st1⟩ := Y.newCold hexec (own := own) (C := cls) (index := ik) (n := 6) hown' hk' hins hini'
    (g := F0 m pc ls rest) rfl (by rw [hb]; exact d0) (Nat.le_refl _) (Nat.le_refl _)
  generalize hT1 : (T.setVm vm₁).pushCell { cls := cX, slots := kX.instanceTypes.map defaultValue, vm := .none } = T1 at X₁ st1
  have hcat : (Value.ref T.heap.size).category = 1 := rfl
  have hcellA : T1.heap[T.heap.size]? = some (freshCell cX kX) := by rw [← hT1]; exact State.heap_pushCell_size _ _
  have d3' : decode c.code (pc + 3) = .ok (.dup, 1) := by rw [hb]; exact d3
  obtain ⟨U, hsteps, hrun, hend, hW, hsame, ce, hce, hO⟩ := X₁.ctorThrow0 hexec htr (own := own) (cls := cls) (names := names) (ic := ic) hown' hcls hnames h (fun x hx => nomatch hx) hfX hkX hcellA (by rw [hhp, hT]; exact Nat.le_refl _)
    (g := { method := m, pc := pc + 4, locals := ls, stack := .ref T.heap.size :: .ref T.heap.size :: rest, locked := none }) rfl hsize rfl rfl (rest := rest) rfl
    (by rw [hb]; exact d4) (by rw [hb]; exact d7) hout hRframes (by simp only [List.map_cons, List.sum_cons, hcat]; omega) hlocks
  obtain ⟨f1, f2⟩ := vx_frame hsame
  rw [hhp] at f1 f2
  have hWs : s.WarmedH U.vm := State.WarmedH.trans hW0 hW
  have hcl : s.vm.findClass cls = some ce.cls := by
    have h9 := hO.cls
    rw [hvm] at h9
    exact h9
  have hall : s.sameButNew ({ U with vm := s.vm } : State) locs mc ms := by
    subst hA
    obtain ⟨e1, e2⟩ := hsame
    rw [State.setFrames_setFrames] at e1
    have h2 : (T.setVm s.vm).sameButNew ({ U with vm := s.vm } : State) [] (0 + 1) (0 + 6) := ⟨e1, e2⟩
    have h3 := X.same.trans h2
    rw [List.append_nil] at h3
    exact h3.mono hc hs
  refine ⟨U, ?_, .threw T.heap.size, hrun, hend, Or.inr ⟨T.heap.size, rfl, cls, ce, locs, hx U hWs.alike f1 (fun q hq => f2 q hq (fun z hz => nomatch hz)), hce, hO.vm, hcl, hWs, hall, hf⟩⟩
  refine st1 _ ?_
  show Steps p.tables e below (T1.setTop { method := m, pc := pc + 3, locals := ls, stack := .ref T.heap.size :: rest, locked := none }) _
  jvm_step X₁.here [X₁.here.top, hexec, d3', Value.category]
  exact hsteps
/-- 'throw new E("text")': new; dup; ldc; invokespecial; athrow -/
theorem vx_throwS {cc : ByteArray} {pc : Nat} (hexec : p.tables.exec = Jvm.exec) (hb : c.code = cc) (hl : l.stackTraces = false) {own cls text : String} {names : List String} {ik is ic mc ms sa : Nat} {A : Nat → Prop}
    (hown : s.vm.findClass own = some m.cls) (hcls : Bundle.fit cls = true) (hnames : ∀ n ∈ names, Bundle.fit n = true)
    (hk : (Cond.classLink own ik cls).before args s = true) (hini : (Cond.initialized cls).before args s = true) (hstr : vk_R own is text sa s) (hat : ∀ w ∈ vx_atS own ic cls names, w.before args s = true)
    (hgood : ∀ w ∈ Cond.classLink own ik cls :: Cond.initialized cls :: vx_atS own ic cls names, vx_ot w = true)
    (hU : vx_Zq Bundle.tN "UNASSIGNED_STACK" Bundle.steD A s s.heap) (hN : vx_Zq Bundle.tN "SUPPRESSED_SENTINEL" Bundle.listD A s s.heap) (hS : va_S A s.heap H locs) (hsize : ls.size = c.maxLocals)
    (d0 : decode cc pc = .ok (.new ik, 3)) (d3 : decode cc (pc + 3) = .ok (.dup, 1)) (d4 : decode cc (pc + 4) = .ok (.ldc is, 2)) (d6 : decode cc (pc + 6) = .ok (.invokespecial ic, 3)) (d9 : decode cc (pc + 9) = .ok (.athrow, 1))
    (hout : ∀ x ∈ c.exceptionTable.toList, covers x (pc + 9) = false)
    (hRframes : names.length + 3 < R.frames) (hRlocals : (rest.map fun v => v.category).sum + (13 * (names.length + 1) + 43) ≤ R.locals) (hRcells : cells + 1 ≤ R.cells) (hRslots : slots + 6 ≤ R.slots) (hlocks : meth.locks = false)
    (hx : ∀ t : State, s.vm.Alike t.vm → H.size ≤ t.heap.size → (∀ q : Nat, q < H.size → t.heap[q]? = H[q]?) → XC cls s t)
    (hf : ∀ z ∈ locs, free z.base) (hc : cells + 1 ≤ mc) (hs : slots + 6 ≤ ms) :
    W p l e R s m args below meth c H locs cells slots (vx_MQ below Qc XC args s mc ms free) (F0 m pc ls rest) := by
  intro T hT X
  have htr : e.platform.stackTraces = false := (show e.platform.stackTraces = l.stackTraces by rw [X.admits.platform]).trans hl
  have Y := vx_rebase X (R' := { frames := R.frames, locals := R.locals, cells := 1, slots := 6 }) (Nat.le_refl _) (Nat.le_refl _) hRcells hRslots
  obtain ⟨s', hA⟩ : ∃ z, z = (T.setVm s.vm).setFrames (.invoking m args :: below) := ⟨_, rfl⟩
  rw [← hA] at Y
  have hvm : s'.vm = s.vm := by rw [hA]; rfl
  have hhp : s'.heap = H := by rw [hA]; exact hT
  have hW0 : s.WarmedH s'.vm := by rw [hvm]; exact State.WarmedH.refl s
  have hat' : ∀ w ∈ vx_atS own ic cls names, w.before args s' = true := fun w hw => vx_ot_at hW0 hvm.symm (hgood w (List.mem_cons_of_mem _ (List.mem_cons_of_mem _ hw))) (hat w hw)
  have hk' : (Cond.classLink own ik cls).before args s' = true := vx_ot_at hW0 hvm.symm (hgood _ List.mem_cons_self) hk
  have hini' : (Cond.initialized cls).before args s' = true := vx_ot_at hW0 hvm.symm (hgood _ (List.mem_cons_of_mem _ List.mem_cons_self)) hini
  have hU' : vx_Zq Bundle.tN "UNASSIGNED_STACK" Bundle.steD A s' s'.heap := by rw [hhp]; exact vx_Zq.moved hW0.alike (hU.kept hS.2.1)
  have hN' : vx_Zq Bundle.tN "SUPPRESSED_SENTINEL" Bundle.listD A s' s'.heap := by rw [hhp]; exact vx_Zq.moved hW0.alike (hN.kept hS.2.1)
  have h : ∀ w ∈ Bundle.ownAtoms own ic cls names, w.before args s' = true := vx_own hat' (vx_isRefq hU'.1) (vx_isRefq hN'.1) hU'.2.word hN'.2.word
  have hown' : s'.vm.findClass own = some m.cls := by rw [hvm]; exact hown
  have hins : (Cond.instantiable cls 6).before args s' = true := h _ (by simp [Bundle.ownAtoms])
  obtain ⟨vm₁, cX, kX, hfX, hkX, -, -, X₁, st1⟩ := Y.newCold hexec (own := own) (C := cls) (index := ik) (n := 6) hown' hk' hins hini'
    (g := F0 m pc ls rest) rfl (by rw [hb]; exact d0) (Nat.le_refl _) (Nat.le_refl _)
  generalize hT1 : (T.setVm vm₁).pushCell { cls := cX, slots := kX.instanceTypes.map defaultValue, vm := .none } = T1 at X₁ st1
  have hcat : (Value.ref T.heap.size).category = 1 := rfl
  have hcellA : T1.heap[T.heap.size]? = some (freshCell cX kX) := by rw [← hT1]; exact State.heap_pushCell_size _ _
  have d3' : decode c.code (pc + 3) = .ok (.dup, 1) := by rw [hb]; exact d3
  have d4' : decode c.code (pc + 4) = .ok (.ldc is, 2) := by rw [hb]; exact d4
  have hstr' : vk_R own is text sa s' := vk_R.warm hW0 hstr
  obtain ⟨U, hsteps, hrun, hend, hW, hsame, ce, hce, hO⟩ := X₁.ctorThrowS hexec htr (own := own) (cls := cls) (names := names) (ic := ic) hown' hcls hnames h (fun x hx => nomatch hx) hfX hkX hcellA (by rw [hhp, hT]; exact Nat.le_refl _) (msg := .ref sa) rfl
    (g := { method := m, pc := pc + 6, locals := ls, stack := .ref sa :: .ref T.heap.size :: .ref T.heap.size :: rest, locked := none }) rfl hsize rfl rfl (rest := rest) rfl
    (by rw [hb]; exact d6) (by rw [hb]; exact d9) hout hRframes (by simp only [List.map_cons, List.sum_cons, hcat]; omega) hlocks
  obtain ⟨f1, f2⟩ := vx_frame hsame
  rw [hhp] at f1 f2
  have hWs : s.WarmedH U.vm := State.WarmedH.trans hW0 hW
  have hcl : s.vm.findClass cls = some ce.cls := by
    have h9 := hO.cls
    rw [hvm] at h9
    exact h9
  have hall : s.sameButNew ({ U with vm := s.vm } : State) locs mc ms := by
    subst hA
    obtain ⟨e1, e2⟩ := hsame
    rw [State.setFrames_setFrames] at e1
    have h2 : (T.setVm s.vm).sameButNew ({ U with vm := s.vm } : State) [] (0 + 1) (0 + 6) := ⟨e1, e2⟩
    have h3 := X.same.trans h2
    rw [List.append_nil] at h3
    exact h3.mono hc hs
  refine ⟨U, ?_, .threw T.heap.size, hrun, hend, Or.inr ⟨T.heap.size, rfl, cls, ce, locs, hx U hWs.alike f1 (fun q hq => f2 q hq (fun z hz => nomatch hz)), hce, hO.vm, hcl, hWs, hall, hf⟩⟩
  refine st1 _ ?_
  show Steps p.tables e below (T1.setTop { method := m, pc := pc + 3, locals := ls, stack := .ref T.heap.size :: rest, locked := none }) _
  jvm_step X₁.here [X₁.here.top, hexec, d3', Value.category]
  exact X₁.ldcString hexec (own := own) (text := text) (index := is) (a := sa) hown' hstr'.1 hstr'.2
    (g := { method := m, pc := pc + 4, locals := ls, stack := .ref T.heap.size :: .ref T.heap.size :: rest, locked := none }) rfl d4' _ hsteps
/-- 'throw new E("text")', the text by a wide index -/
theorem vx_throwSW {cc : ByteArray} {pc : Nat} (hexec : p.tables.exec = Jvm.exec) (hb : c.code = cc) (hl : l.stackTraces = false) {own cls text : String} {names : List String} {ik is ic mc ms sa : Nat} {A : Nat → Prop}
    (hown : s.vm.findClass own = some m.cls) (hcls : Bundle.fit cls = true) (hnames : ∀ n ∈ names, Bundle.fit n = true)
    (hk : (Cond.classLink own ik cls).before args s = true) (hini : (Cond.initialized cls).before args s = true) (hstr : vk_R own is text sa s) (hat : ∀ w ∈ vx_atS own ic cls names, w.before args s = true)
    (hgood : ∀ w ∈ Cond.classLink own ik cls :: Cond.initialized cls :: vx_atS own ic cls names, vx_ot w = true)
    (hU : vx_Zq Bundle.tN "UNASSIGNED_STACK" Bundle.steD A s s.heap) (hN : vx_Zq Bundle.tN "SUPPRESSED_SENTINEL" Bundle.listD A s s.heap) (hS : va_S A s.heap H locs) (hsize : ls.size = c.maxLocals)
    (d0 : decode cc pc = .ok (.new ik, 3)) (d3 : decode cc (pc + 3) = .ok (.dup, 1)) (d4 : decode cc (pc + 4) = .ok (.ldc_w is, 3)) (d7 : decode cc (pc + 7) = .ok (.invokespecial ic, 3)) (d10 : decode cc (pc + 10) = .ok (.athrow, 1))
    (hout : ∀ x ∈ c.exceptionTable.toList, covers x (pc + 10) = false)
    (hRframes : names.length + 3 < R.frames) (hRlocals : (rest.map fun v => v.category).sum + (13 * (names.length + 1) + 43) ≤ R.locals) (hRcells : cells + 1 ≤ R.cells) (hRslots : slots + 6 ≤ R.slots) (hlocks : meth.locks = false)
    (hx : ∀ t : State, s.vm.Alike t.vm → H.size ≤ t.heap.size → (∀ q : Nat, q < H.size → t.heap[q]? = H[q]?) → XC cls s t)
    (hf : ∀ z ∈ locs, free z.base) (hc : cells + 1 ≤ mc) (hs : slots + 6 ≤ ms) :
    W p l e R s m args below meth c H locs cells slots (vx_MQ below Qc XC args s mc ms free) (F0 m pc ls rest) := by
  intro T hT X
  have htr : e.platform.stackTraces = false := (show e.platform.stackTraces = l.stackTraces by rw [X.admits.platform]).trans hl
  have Y := vx_rebase X (R' := { frames := R.frames, locals := R.locals, cells := 1, slots := 6 }) (Nat.le_refl _) (Nat.le_refl _) hRcells hRslots
  obtain ⟨s', hA⟩ : ∃ z, z = (T.setVm s.vm).setFrames (.invoking m args :: below) := ⟨_, rfl⟩
  rw [← hA] at Y
  have hvm : s'.vm = s.vm := by rw [hA]; rfl
  have hhp : s'.heap = H := by rw [hA]; exact hT
  have hW0 : s.WarmedH s'.vm := by rw [hvm]; exact State.WarmedH.refl s
  have hat' : ∀ w ∈ vx_atS own ic cls names, w.before args s' = true := fun w hw => vx_ot_at hW0 hvm.symm (hgood w (List.mem_cons_of_mem _ (List.mem_cons_of_mem _ hw))) (hat w hw)
  have hk' : (Cond.classLink own ik cls).before args s' = true := vx_ot_at hW0 hvm.symm (hgood _ List.mem_cons_self) hk
  have hini' : (Cond.initialized cls).before args s' = true := vx_ot_at hW0 hvm.symm (hgood _ (List.mem_cons_of_mem _ List.mem_cons_self)) hini
  have hU' : vx_Zq Bundle.tN "UNASSIGNED_STACK" Bundle.steD A s' s'.heap := by rw [hhp]; exact vx_Zq.moved hW0.alike (hU.kept hS.2.1)
  have hN' : vx_Zq Bundle.tN "SUPPRESSED_SENTINEL" Bundle.listD A s' s'.heap := by rw [hhp]; exact vx_Zq.moved hW0.alike (hN.kept hS.2.1)
  have h : ∀ w ∈ Bundle.ownAtoms own ic cls names, w.before args s' = true := vx_own hat' (vx_isRefq hU'.1) (vx_isRefq hN'.1) hU'.2.word hN'.2.word
  have hown' : s'.vm.findClass own = some m.cls := by rw [hvm]; exact hown
  have hins : (Cond.instantiable cls 6).before args s' = true := h _ (by simp [Bundle.ownAtoms])
  obtain ⟨vm₁, cX, kX, hfX, hkX, -, -, X₁, st1⟩ := Y.newCold hexec (own := own) (C := cls) (index := ik) (n := 6) hown' hk' hins hini'
    (g := F0 m pc ls rest) rfl (by rw [hb]; exact d0) (Nat.le_refl _) (Nat.le_refl _)
  generalize hT1 : (T.setVm vm₁).pushCell { cls := cX, slots := kX.instanceTypes.map defaultValue, vm := .none } = T1 at X₁ st1
  have hcat : (Value.ref T.heap.size).category = 1 := rfl
  have hcellA : T1.heap[T.heap.size]? = some (freshCell cX kX) := by rw [← hT1]; exact State.heap_pushCell_size _ _
  have d3' : decode c.code (pc + 3) = .ok (.dup, 1) := by rw [hb]; exact d3
  have d4' : decode c.code (pc + 4) = .ok (.ldc_w is, 3) := by rw [hb]; exact d4
  have hstr' : vk_R own is text sa s' := vk_R.warm hW0 hstr
  obtain ⟨U, hsteps, hrun, hend, hW, hsame, ce, hce, hO⟩ := X₁.ctorThrowS hexec htr (own := own) (cls := cls) (names := names) (ic := ic) hown' hcls hnames h (fun x hx => nomatch hx) hfX hkX hcellA (by rw [hhp, hT]; exact Nat.le_refl _) (msg := .ref sa) rfl
    (g := { method := m, pc := pc + 7, locals := ls, stack := .ref sa :: .ref T.heap.size :: .ref T.heap.size :: rest, locked := none }) rfl hsize rfl rfl (rest := rest) rfl
    (by rw [hb]; exact d7) (by rw [hb]; exact d10) hout hRframes (by simp only [List.map_cons, List.sum_cons, hcat]; omega) hlocks
  obtain ⟨f1, f2⟩ := vx_frame hsame
  rw [hhp] at f1 f2
  have hWs : s.WarmedH U.vm := State.WarmedH.trans hW0 hW
  have hcl : s.vm.findClass cls = some ce.cls := by
    have h9 := hO.cls
    rw [hvm] at h9
    exact h9
  have hall : s.sameButNew ({ U with vm := s.vm } : State) locs mc ms := by
    subst hA
    obtain ⟨e1, e2⟩ := hsame
    rw [State.setFrames_setFrames] at e1
    have h2 : (T.setVm s.vm).sameButNew ({ U with vm := s.vm } : State) [] (0 + 1) (0 + 6) := ⟨e1, e2⟩
    have h3 := X.same.trans h2
    rw [List.append_nil] at h3
    exact h3.mono hc hs
  refine ⟨U, ?_, .threw T.heap.size, hrun, hend, Or.inr ⟨T.heap.size, rfl, cls, ce, locs, hx U hWs.alike f1 (fun q hq => f2 q hq (fun z hz => nomatch hz)), hce, hO.vm, hcl, hWs, hall, hf⟩⟩
  refine st1 _ ?_
  show Steps p.tables e below (T1.setTop { method := m, pc := pc + 3, locals := ls, stack := .ref T.heap.size :: rest, locked := none }) _
  jvm_step X₁.here [X₁.here.top, hexec, d3', Value.category]
  exact X₁.ldcStringW hexec (own := own) (text := text) (index := is) (a := sa) hown' hstr'.1 hstr'.2
    (g := { method := m, pc := pc + 4, locals := ls, stack := .ref T.heap.size :: .ref T.heap.size :: rest, locked := none }) rfl d4' _ hsteps
end Ends
section Bodies
variable {l : Launch}
theorem vx_ofW {y : MethodName} {ws ws' : List Cond} {rm : Room} {Pc : Array Value → State → Prop} {Qc : Array Value → State → Outcome → State → Prop} {XC : String → State → State → Prop} {mc ms : Nat} {free : Addr → Prop} {cc : ByteArray} {maxL : Nat} {ret : Option FieldType}
    (hy : plainName y.cls = true) (hw : ws = Cond.code y cc maxL ret :: ws')
    (body : ∀ p e s m args below meth c s₁, BodyLoose p l y (headSpec ws rm) cc maxL ret e s m args below meth c s₁ → c.maxLocals = maxL → (∀ x ∈ c.exceptionTable.toList, False) → Pc args s →
      W p l e (headSpec ws rm).room s m args below meth c s.heap [] 0 0 (vx_MQ below Qc XC args s mc ms free) (entryFrame m args maxL)) : vx_Met l y ws rm Pc Qc XC mc ms free := by
  refine MetFree.of_bodyS (code := cc) (maxLocals := maxL) (ret := ret) hy ?_ ?_
  · intro args s m h hn
    obtain ⟨meth, c, h1, h2, h3, h4, h5, h6, -, -⟩ := Cond.code_spec hn (atoms_spec (ws := ws) h _ (by rw [hw]; exact List.mem_cons_self))
    exact ⟨meth, c, h1, h2, h3, h4, h5, h6⟩
  · intro p e s m args below meth c s₁ B hml hP _
    have hh0 : s₁.heap = s.heap := by rw [B.state]; rfl
    have ht : ∀ x ∈ c.exceptionTable.toList, False := by
      obtain ⟨meth9, c9, h1, h2, -, -, -, -, h7, -⟩ := Cond.code_spec B.named (atoms_spec (ws := ws) B.pre _ (by rw [hw]; exact List.mem_cons_self))
      cases Option.some.inj (h1.symm.trans B.method)
      cases Option.some.inj (h2.symm.trans (Stand.of_body B).code)
      intro x hx
      rw [Array.isEmpty_iff.mp h7] at hx
      cases hx
    obtain ⟨t, a1, o, b1, b2, b3⟩ := body p e s m args below meth c s₁ B hml ht hP s₁ hh0 (Stand.of_body B)
    exact ⟨t, o, a1, b1, b2, b3⟩
/-- the table of a body with handlers -/
theorem vx_table {p : Program} {x y : MethodName} {S : Spec} {cc bytes : ByteArray} {maxL maxL' : Nat} {ret ret' : Option FieldType} {e : Env} {s s₁ : State} {m : MethodId} {args : Array Value} {below : List Frame} {meth : Method} {c : Code} {hh : List (Nat × Nat × Nat × Nat)}
    (B : BodyLoose p l y S cc maxL ret e s m args below meth c s₁) (h : (Cond.codeWith y bytes maxL' ret' hh).before args s = true) : c.exceptionTable.toList = tableOf hh := by
  obtain ⟨m9, meth9, c9, hn9, h1, h2, -, -, h6, -⟩ := Cond.codeWith_spec h
  cases Option.some.inj (hn9.symm.trans B.named)
  cases Option.some.inj (h1.symm.trans B.method)
  cases Option.some.inj (h2.symm.trans (Stand.of_body B).code)
  rw [← h6, table_eq]
end Bodies
end VXA
/-! ===== END ===== -/
/-! ===== BEGIN a static call of a method with an exception table ===== -/
section VXS
variable {p : Program} {l : Launch} {e : Env} {R : Room} {s : State} {m : MethodId} {args : Array Value} {below : List Frame} {meth : Method} {c : Code} {T : State} {H : Heap} {locs : List Loc} {cells slots : Nat}
abbrev vx_CSW (R : Room) (s : State) (args : Array Value) (own : String) (index : Nat) (y : MethodName) (bytes : ByteArray) (maxL : Nat) (ret : Option FieldType) (hh : List (Nat × Nat × Nat × Nat)) (ws : List Cond) (rm : Room) (mc ms n : Nat) : Prop :=
  (rm.cells = mc ∧ rm.slots = ms ∧ rm.frames + 1 ≤ R.frames ∧ 8 + (maxL + 11) + rm.locals ≤ R.locals ∧ (∀ w ∈ ws, ∀ (a' : Array Value) (U : State), s.WarmedH U.vm → w.before a' U = true) ∧ Cond.codeWith y bytes maxL ret hh ∈ ws) ∧
  (Cond.codeWith y bytes maxL ret hh).before args s = true ∧ (Cond.initialized y.cls).before args s = true ∧ (y.cls ≠ "java/lang/invoke/MethodHandle" ∧ y.cls ≠ "java/lang/invoke/VarHandle") ∧
  (∀ sig, parseMethodDescriptor y.desc = some sig → n = sig.parameters.length) ∧ (Cond.methodLink own index y).before args s = true ∧ (Cond.static y).before args s = true
theorem vx_cwSW {own : String} {index maxL mc ms : Nat} {y : MethodName} {bytes : ByteArray} {ret : Option FieldType} {hh : List (Nat × Nat × Nat × Nat)} {Ts ws ws' : List Cond} {rm : Room} (n : Nat) (ht : ∀ w ∈ Ts, w.before args s = true) (hT : GoodIn Ts (va_wsS own index y ws)) (hw : ws = Cond.codeWith y bytes maxL ret hh :: ws') (hrc : rm.cells = mc) (hrs : rm.slots = ms)
    (hd : y.cls ≠ "java/lang/invoke/MethodHandle" ∧ y.cls ≠ "java/lang/invoke/VarHandle" ∧ (parseMethodDescriptor y.desc).map (fun d => d.parameters.length) = some n) (hR : rm.frames + 1 ≤ R.frames ∧ 8 + (maxL + 11) + rm.locals ≤ R.locals) :
    vx_CSW R s args own index y bytes maxL ret hh ws rm mc ms n := by
  have ok : ∀ w ∈ va_wsS own index y ws, w.before args s = true := fun w h => ht w (hT w h).1
  have hG : GoodIn Ts ws := fun w h => hT w (by unfold va_wsS; exact List.mem_append_right _ h)
  have hc : Cond.codeWith y bytes maxL ret hh ∈ ws := by rw [hw]; exact List.mem_cons_self
  refine ⟨⟨hrc, hrs, hR.1, hR.2, pay_in ht hG, hc⟩, ht _ (hG _ hc).1, ok _ (by simp [va_wsS]), ⟨hd.1, hd.2.1⟩, fun sig h => ?_, ok _ (by simp [va_wsS]), ok _ (by simp [va_wsS])⟩
  have h2 := hd.2.2
  rw [h] at h2
  exact (Option.some.inj h2).symm
theorem vx_callSW (X : Stand p l e R s m args below meth c T locs cells slots) (hexec : p.tables.exec = Jvm.exec) {own : String} {index : Nat} {y : MethodName} {bytes : ByteArray} {maxL : Nat} {ret : Option FieldType} {hh : List (Nat × Nat × Nat × Nat)}
    (hown : s.vm.findClass own = some m.cls) (hlink : (Cond.methodLink own index y).before args s = true) (hstat : (Cond.static y).before args s = true) (hinit : (Cond.initialized y.cls).before args s = true)
    (hcode : (Cond.codeWith y bytes maxL ret hh).before args s = true) (hy : y.cls ≠ "java/lang/invoke/MethodHandle" ∧ y.cls ≠ "java/lang/invoke/VarHandle")
    {W9 : Nat} {Pre : Pt → Array Value → Prop} {Post : Pt → Array Value → Option Value → Pt → Prop} (hK : Back l R p e below s args y 3 W9 Pre Post)
    {g : JFrame} (hg : g.method = m) (hsize : g.locals.size = c.maxLocals) {argsL rest : List Value} (hlen : ∀ sig, parseMethodDescriptor y.desc = some sig → argsL.length = sig.parameters.length)
    (hstack : g.stack = argsL.reverse ++ rest) (hW : 2 * g.monitorRoom + (rest.map fun v => v.category).sum ≤ W9) (hdg : decode c.code g.pc = .ok (.invokestatic index, 3))
    (hpre : ∀ vm₁, s.WarmedH vm₁ → Pre ⟨T.setVm vm₁, locs, cells, slots⟩ argsL.toArray) :
    ∃ (v : Option Value) (vm₁ : Vm) (B : Pt), s.WarmedH vm₁ ∧ Stand p l e R s m args below meth c B.U B.locs B.cells B.slots ∧ Post ⟨T.setVm vm₁, locs, cells, slots⟩ argsL.toArray v B ∧
      ∀ target, Steps p.tables e below (B.U.setTop { g with pc := g.pc + 3, stack := v.toList ++ rest }) target → Steps p.tables e below (T.setTop g) target := by
  obtain ⟨mk, methM, cM, hnamed, hmethM, -, -, -, -, -, -, hsigM⟩ := Cond.codeWith_spec hcode
  have hstatic : methM.isStatic = true := Cond.static_spec hnamed hmethM hstat
  obtain ⟨kP, hkP, -⟩ := className_of_methodNamed hnamed
  have hinitP : kP.init = .initialized := Cond.initialized_spec (findClass_of_methodNamed hnamed) hkP hinit
  obtain ⟨vm₁, X₁, hstep₁⟩ := X.invokestatic hexec hown hlink hnamed hmethM hstatic hkP hinitP hy (g := g) hg (argsL := argsL) (rest := rest) (hlen _ hsigM) hstack hdg
  obtain ⟨v, B, X', hpost, hsteps⟩ := hK m meth c ⟨T.setVm vm₁, locs, cells, slots⟩ { g with stack := rest } (.invokestatic index) mk argsL.toArray X₁ hg hsize hdg hW (X₁.named hnamed) (hpre vm₁ X₁.warmed)
  exact ⟨v, vm₁, B, X₁.warmed, X', hpost, fun target h => hstep₁ _ fun acts => by rw [doInvoke_state]; exact hsteps.trans h⟩
theorem vx_runSW {y : MethodName} {bytes cc : ByteArray} {maxL nL mc ms n index : Nat} {ret : Option FieldType} {hh : List (Nat × Nat × Nat × Nat)} {ws : List Cond} {rm : Room} {Pc : Array Value → State → Prop} {Qc : Array Value → State → Outcome → State → Prop} {free : Addr → Prop} {Ts : List Cond} {own : String} {As rest : List Value} {g : JFrame}
    (S : CallFix p m c cc nL s args Ts own) (hM : Met l y ws rm Pc Qc mc ms free) (cw : vx_CSW R s args own index y bytes maxL ret hh ws rm mc ms n) (hp : PreS s H Pc As)
    (hg : g.method = m) (hn : As.length = n) (hsize : g.locals.size = nL) (hstack : g.stack = As.reverse ++ rest) (hW : 2 * g.monitorRoom + (rest.map fun v => v.category).sum ≤ 8) (hdg : decode cc g.pc = .ok (.invokestatic index, 3)) (hf : cells + mc ≤ R.cells ∧ slots + ms ≤ R.slots) :
    va_Run p l e R s m args below meth c H locs cells slots mc ms g rest (Qc As.toArray) (free) := by
  obtain ⟨⟨hrc, hrs, hfr, hlo, hws, hcw⟩, hcode, hini, hy, hlen, hl, hstt⟩ := cw
  have hK : Back l R p e below s args y 3 8 (PreOf R mc ms Pc) (PostOf Qc mc ms free) := va_backW (hh := hh) (bytes := bytes) (maxL := maxL) (ret := ret) hM hp.1 hrc hrs hfr hlo hws hcw (fun a' U hW => word_at hW (Or.inl (by first | rfl | simp [Cond.onTables, Cond.keeps, Cond.steady])) hini)
  obtain ⟨hx, hb, hml, ho, -⟩ := S
  intro T hT X
  obtain ⟨v, vm₁, ⟨U', l2, c2, s2⟩, hW₁, X', ⟨g', mk, t, L, e1, e2, hq, h1, hL, h2, h3⟩, st⟩ := vx_callSW X hx (hh := hh) (bytes := bytes) (maxL := maxL) (ret := ret) ho hl hstt hini hcode hy hK hg (hsize.trans hml.symm) (argsL := As) (rest := rest) (fun sig h => hn.trans (hlen sig h)) hstack hW (by rw [hb]; exact hdg)
    (fun vm₁ hW₁ => ⟨hf.1, hf.2, hp.2 (T.setVm vm₁) hT hW₁⟩)
  dsimp only [Pt.U, Pt.locs, Pt.cells, Pt.slots] at X' e1 e2 h1 h2 h3 st
  subst h1; subst h2; subst h3
  exact ⟨v, (T.setVm vm₁).calling g' mk As.toArray, t, U', L, hT, X', hL, e1, e2, hq, st⟩
/-- not caught here, past rows that name other classes: it goes on to the caller -/
theorem vx_outP {p : Program} {l : Launch} {e : Env} {R : Room} {s : State} {m : MethodId} {args : Array Value} {below : List Frame} {meth : Method} {c : Code} {H : Heap} {locs : List Loc} {cells slots : Nat} {free : Addr → Prop} {ls : Array Slot} {rest : List Value} {Qc : Array Value → State → Outcome → State → Prop} {XC : String → State → State → Prop}
    {pc : Nat} {own E : String} {ce : Cell} {q : Addr} {mc ms : Nat} (hown : s.vm.findClass own = some m.cls) (hlocks : meth.locks = false)
    (hpass : ∀ z ∈ c.exceptionTable.toList, covers z pc = false ∨ (z.catchType ≠ 0 ∧ ∃ nm : String, (Cond.classLink own z.catchType nm).before args s = true ∧ va_Nc E nm s)) (hcell : H[q]? = some ce) (hv : ce.vm = .none) (hcl : s.vm.findClass E = some ce.cls)
    (hx : ∀ t : State, t.heap = H → s.vm.Alike t.vm → XC E s t) (hf : ∀ z ∈ locs, free z.base) (hc : cells ≤ mc) (hs : slots ≤ ms) :
    vx_W p l e R s m args below meth c H locs cells slots (vx_MQ below Qc XC args s mc ms free) (F0 m pc ls rest) q := by
  intro T hT X
  have hpl : e.platform.magicAccessors = ({} : Platform).magicAccessors := by rw [X.admits.platform]
  obtain ⟨vm', hW', X', st⟩ := X.outThrough hlocks q (g := F0 m pc ls rest) rfl rfl rfl (cell := ce) (by rw [hT]; exact hcell) (by rw [hv]; rfl)
    (by obtain ⟨k9, h9, -⟩ := Vm.findClass_spec hcl; exact ⟨k9, h9⟩) (fun z hz => by
      rcases hpass z hz with h | ⟨hz0, nm, hl1, hn1⟩
      · exact Or.inl h
      · obtain ⟨c6, hc6, hcl6⟩ := Cond.classLink_spec hown hl1 e.platform hpl
        obtain ⟨a8, b8, h1, h2, h3⟩ := hn1
        cases Option.some.inj (h1.symm.trans hcl)
        cases Option.some.inj (h2.symm.trans hc6)
        exact Or.inr ⟨hz0, _, hcl6, h3⟩)
  obtain ⟨g₀, hfr⟩ := X'.frames_eq
  have hcell9 : ((T.setVm vm').setFrames (.throwing q :: below)).heap[q]? = some ce := by
    show T.heap[q]? = some ce
    rw [hT]; exact hcell
  have hend : Ended ((T.setVm vm').setFrames (.throwing q :: below)) below (.threw q) := State.frames_setFrames _ (State.cur_lt_of_frames hfr)
  refine ⟨(T.setVm vm').setFrames (.throwing q :: below), ?_, .threw q, X'.here.running, hend, Or.inr ⟨q, rfl, E, ce, locs, hx _ hT (X'.ends _).1.alike, hcell9, hv, hcl, (X'.ends _).1, (X'.ends _).2.mono hc hs, hf⟩⟩
  rw [X.pushThrowing_eq]
  exact st
/-- a thing of a world lies in the heap -/
theorem vx_lt {D : va_G} {cl : List vw_C} {ws : va_W} {H1 : Heap} (h : va_P D cl ws H1) {k : Nat} {q : Nat × va_E} (hk : ws[k]? = some q) : q.1 < H1.size := (h k q hk).lt
end VXS
/-! ===== END ===== -/
/-! ===== BEGIN methods with a table of their own: called by a name, returning or throwing ===== -/
section VXH
/-! vx_backW, vx_callVX, vx_callSX, vx_callVW, vx_runVW, vx_runVX, vx_runSX, vx_ofWH follow the same proofs as their sisters above (Free/Laws.lean, Shelf42/LK1.lean); vx_outP calls Shelf42/NT130.lean (outThrough). -/
section
variable {l : Launch} {R : Room} {p : Program} {e : Env} {below : List Frame} {s : State} {sargs : Array Value} {y : MethodName} {len W9 : Nat}
theorem vx_backW {ws : List Cond} {rm : Room} {Pc : Array Value → State → Prop} {Qc : Array Value → State → Outcome → State → Prop} {XC : String → State → State → Prop} {mc ms : Nat} {free : Addr → Prop} {bytes : ByteArray} {maxL : Nat} {ret : Option FieldType} {hh : List (Nat × Nat × Nat × Nat)}
    (hM : vx_Met l y ws rm Pc Qc XC mc ms free) (hblind : FrameBlind Pc) (hrc : rm.cells = mc) (hrs : rm.slots = ms)
    (hframes : rm.frames + 1 ≤ R.frames) (hlocals : W9 + (maxL + 11) + rm.locals ≤ R.locals)
    (hws : ∀ w ∈ ws, ∀ a' U, s.WarmedH U.vm → w.before a' U = true) (hcode : Cond.codeWith y bytes maxL ret hh ∈ ws) (hinit : ∀ a' U, s.WarmedH U.vm → (Cond.initialized y.cls).before a' U = true) :
    vx_Back l R p e below s sargs y len W9 (PreOf R mc ms Pc) (PostOf Qc mc ms free) (vx_Post XC mc ms free) := by
  intro m meth c A g ig mk a X hg hsize hdg hW hn hp
  have h1 : (headSpec ws rm).pre.before a A.U = true := atoms_intro fun w hw => hws w hw _ _ X.warmed
  have h2 : (Cond.codeWith y bytes maxL ret hh).before a A.U = true := hws _ hcode _ _ X.warmed
  have h3 : (Cond.initialized y.cls).before a A.U = true := hinit _ _ X.warmed
  have h4 : A.cells + (headSpec ws rm).room.cells ≤ R.cells := by rw [show (headSpec ws rm).room.cells = mc from hrc]; exact hp.1
  have h5 : A.slots + (headSpec ws rm).room.slots ≤ R.slots := by rw [show (headSpec ws rm).room.slots = ms from hrs]; exact hp.2.1
  have hPc : Pc a (A.U.calling g mk a) := hblind _ _ _ _ hp.2.2
  obtain ⟨U, Ls, c0, s0⟩ := A
  dsimp only [Pt.U, Pt.locs, Pt.cells, Pt.slots] at h1 h2 h3 h4 h5 X hn hPc ⊢
  obtain ⟨m9, methY, cY, hn9, hmY, hcY, -, hlY, -⟩ := Cond.codeWith_spec h2
  cases Option.some.inj (hn9.symm.trans hn)
  obtain ⟨kY, hkY, -⟩ := className_of_methodNamed hn
  have hinitY : kY.init = .initialized := Cond.initialized_spec (findClass_of_methodNamed hn) hkY h3
  have h : At U g.method c below := by rw [hg]; exact X.here
  have hlocals9 : W9 + (maxL + 11) + (headSpec ws rm).room.locals ≤ R.locals := hlocals
  have happ : (headSpec ws rm).appliesLoose y e.platform (U.calling g mk a) = true :=
    Spec.appliesLoose_calling (g := g) h hdg hn hkY hinitY
      (X.room_calling (g := g) (R' := (headSpec ws rm).room) hsize hmY hcY hframes (by rw [hlY]; omega) h4 h5) h1
  obtain ⟨mid, hmid⟩ := h.above
  have hfr : (U.setTop g).frames = (.java g :: mid) ++ below := by rw [State.frames_setTop' g h.top, hmid]; rfl
  obtain ⟨o, s₂, hsteps, -, hend, hq⟩ := Steps.callFree hM p X.admits X.cas X.clock (acts := []) hfr happ hPc trivial
  have hq' : vx_Q Qc XC mc ms free a (U.calling g mk a) o s₂ := hq
  rw [State.frames_setTop' g h.top] at hend
  obtain ⟨g₀, hg0⟩ := Option.isSome_iff_exists.mp h.top
  obtain ⟨r, hr⟩ := State.topJava?_eq_some.mp hg0
  have hr' : (({ U with heap := s₂.heap, slotsUsed := s₂.slotsUsed } : State).setVm s₂.vm).frames = .java g₀ :: r := hr
  rcases hq' with ⟨hqc, L, hfe, hL⟩ | ⟨q, rfl, E, ce, L, hx, hce, hcv, hcl, hW₂, hsm, hL⟩
  · obtain ⟨⟨v, rfl⟩, hW₂, e2, q2, q3, q4, q5, q6⟩ := id hfe
    have e3 : s₂ = ({ (U.calling g mk a).setFrames s₂.frames with heap := s₂.heap, slotsUsed := s₂.slotsUsed } : State).setVm s₂.vm := by
      have : s₂ = ({ s₂ with vm := (U.calling g mk a).vm } : State).setVm s₂.vm := rfl
      rw [e2] at this
      exact this
    obtain ⟨c₂, i₂, len₂, hc₂, hd₂, hf₂⟩ := hend
    have hW' : U.WarmedH s₂.vm := hW₂
    have hcc : c₂ = c := by
      have h1 : s₂.code? g.method = U.code? g.method := by
        rw [State.code?_eq, State.code?_eq, hW'.alike.method?]
      exact Option.some.inj (hc₂.symm.trans (h1.trans h.code))
    subst hcc
    have hlen : len₂ = len := by rw [hdg] at hd₂; cases hd₂; rfl
    subst hlen
    have hs₂ : s₂ = (({ U with heap := s₂.heap, slotsUsed := s₂.slotsUsed } : State).setVm s₂.vm).setTop { g with pc := g.pc + len₂, stack := v.toList ++ g.stack } := by
      refine e3.trans ?_
      rw [hf₂, State.calling_eq h.top, State.setFrames_setFrames, State.setTop_of_frames _ hr', hr]
      rfl
    have hsame : U.sameButNew ({ U with heap := s₂.heap, slotsUsed := s₂.slotsUsed } : State) L mc ms := by
      refine ⟨?_, q2, q3, q4, q5, q6⟩
      obtain ⟨t, ht, -⟩ := State.frames_cons hr
      show ({ U with heap := s₂.heap, slotsUsed := s₂.slotsUsed } : State) = { U.setFrames U.frames with heap := s₂.heap, slotsUsed := s₂.slotsUsed }
      rw [State.setFrames_self ht]
    subst hg
    refine Or.inl ⟨v, ⟨(({ U with heap := s₂.heap, slotsUsed := s₂.slotsUsed } : State).setVm s₂.vm), Ls ++ L, c0 + mc, s0 + ms⟩,
      ⟨X.admits, X.cas, X.clock, X.frames, X.room, X.hears, X.method, X.code, (X.here.setHeapUsed s₂.heap s₂.slotsUsed).setVm hW'.alike, X.tail, State.WarmedH.trans X.warmed hW', X.limits, X.bytes, X.same.trans (hsame.setVm s.vm)⟩,
      ⟨g, mk, s₂, L, rfl, rfl, hqc, rfl, hL, rfl, rfl⟩, ?_⟩
    show Steps p.tables e below _ ((({ U with heap := s₂.heap, slotsUsed := s₂.slotsUsed } : State).setVm s₂.vm).setTop { g with pc := g.pc + len₂, stack := v.toList ++ g.stack })
    rw [← hs₂]
    exact hsteps
  · obtain ⟨e2, q2, q3, q4, q5, q6⟩ := id hsm
    have e3 : s₂ = ({ (U.calling g mk a).setFrames s₂.frames with heap := s₂.heap, slotsUsed := s₂.slotsUsed } : State).setVm s₂.vm := by
      have : s₂ = ({ s₂ with vm := (U.calling g mk a).vm } : State).setVm s₂.vm := rfl
      rw [e2] at this
      exact this
    have hf₂ : s₂.frames = .throwing q :: .java g :: U.frames.tail := hend
    have hW' : U.WarmedH s₂.vm := hW₂
    have hs₂ : s₂ = ((({ U with heap := s₂.heap, slotsUsed := s₂.slotsUsed } : State).setVm s₂.vm).setTop g).pushFrame (.throwing q) := by
      refine e3.trans ?_
      rw [hf₂, State.calling_eq h.top, State.setFrames_setFrames, State.pushFrame, State.frames_setTop _ hr', State.setTop_of_frames _ hr', State.setFrames_setFrames, hr]
      rfl
    have hsame : U.sameButNew ({ U with heap := s₂.heap, slotsUsed := s₂.slotsUsed } : State) L mc ms := by
      refine ⟨?_, q2, q3, q4, q5, q6⟩
      obtain ⟨t, ht, -⟩ := State.frames_cons hr
      show ({ U with heap := s₂.heap, slotsUsed := s₂.slotsUsed } : State) = { U.setFrames U.frames with heap := s₂.heap, slotsUsed := s₂.slotsUsed }
      rw [State.setFrames_self ht]
    subst hg
    refine Or.inr ⟨q, ⟨(({ U with heap := s₂.heap, slotsUsed := s₂.slotsUsed } : State).setVm s₂.vm), Ls ++ L, c0 + mc, s0 + ms⟩,
      ⟨X.admits, X.cas, X.clock, X.frames, X.room, X.hears, X.method, X.code, (X.here.setHeapUsed s₂.heap s₂.slotsUsed).setVm hW'.alike, X.tail, State.WarmedH.trans X.warmed hW', X.limits, X.bytes, X.same.trans (hsame.setVm s.vm)⟩,
      ⟨g, mk, s₂, L, E, ce, rfl, rfl, hx, hce, hcv, hcl, rfl, hL, rfl, rfl⟩, ?_⟩
    show Steps p.tables e below _ (((({ U with heap := s₂.heap, slotsUsed := s₂.slotsUsed } : State).setVm s₂.vm).setTop g).pushFrame (.throwing q))
    rw [← hs₂]
    exact hsteps
end
variable {p : Program} {l : Launch} {e : Env} {R : Room} {s : State} {m : MethodId} {args : Array Value} {below : List Frame} {meth : Method} {c : Code} {T : State} {H : Heap} {locs : List Loc} {cells slots : Nat}
theorem vx_callVX (X : Stand p l e R s m args below meth c T locs cells slots) (hexec : p.tables.exec = Jvm.exec) {own C : String} {index : Nat} {y : MethodName} {bytes : ByteArray} {maxL : Nat} {ret : Option FieldType} {hh : List (Nat × Nat × Nat × Nat)}
    (hown : s.vm.findClass own = some m.cls) (hlink : (Cond.methodLink own index y).before args s = true) (hinst : (Cond.instanceMethod y).before args s = true) (hsel : (Cond.selects C y y).before args s = true)
    (hcode : (Cond.codeWith y bytes maxL ret hh).before args s = true) (hy : y.cls ≠ "java/lang/invoke/MethodHandle" ∧ y.cls ≠ "java/lang/invoke/VarHandle")
    {W9 : Nat} {Pre : Pt → Array Value → Prop} {Post : Pt → Array Value → Option Value → Pt → Prop} {PostX : Pt → Array Value → Addr → Pt → Prop} (hK : vx_Back l R p e below s args y 3 W9 Pre Post PostX)
    {b : Addr} {cellB : Cell} (hcell : T.heap[b]? = some cellB) (hobj : cellB.vm.isStatics = false) (hcls : s.vm.findClass C = some cellB.cls)
    {g : JFrame} (hg : g.method = m) (hsize : g.locals.size = c.maxLocals) {argsL rest : List Value} (hlen : ∀ sig, parseMethodDescriptor y.desc = some sig → argsL.length = sig.parameters.length)
    (hstack : g.stack = argsL.reverse ++ .ref b :: rest) (hW : 2 * g.monitorRoom + (rest.map fun v => v.category).sum ≤ W9) (hdg : decode c.code g.pc = .ok (.invokevirtual index, 3))
    (hpre : ∀ vm₁, s.WarmedH vm₁ → Pre ⟨T.setVm vm₁, locs, cells, slots⟩ (Value.ref b :: argsL).toArray) :
    (∃ (v : Option Value) (vm₁ : Vm) (B : Pt), s.WarmedH vm₁ ∧ Stand p l e R s m args below meth c B.U B.locs B.cells B.slots ∧ Post ⟨T.setVm vm₁, locs, cells, slots⟩ (Value.ref b :: argsL).toArray v B ∧
      ∀ target, Steps p.tables e below (B.U.setTop { g with pc := g.pc + 3, stack := v.toList ++ rest }) target → Steps p.tables e below (T.setTop g) target) ∨
    (∃ (q : Addr) (vm₁ : Vm) (B : Pt), s.WarmedH vm₁ ∧ Stand p l e R s m args below meth c B.U B.locs B.cells B.slots ∧ PostX ⟨T.setVm vm₁, locs, cells, slots⟩ (Value.ref b :: argsL).toArray q B ∧
      Steps p.tables e below (T.setTop g) ((B.U.setTop { g with stack := rest }).pushFrame (.throwing q))) := by
  obtain ⟨mk, methM, hnamed, hmethM, hstM, habM⟩ := Cond.instanceMethod_spec hinst
  obtain ⟨m8, methM', cM, hn8, hmethM', -, -, -, -, -, -, hsigM⟩ := Cond.codeWith_spec hcode
  cases Option.some.inj (hn8.symm.trans hnamed)
  cases hmethM.symm.trans hmethM'
  obtain ⟨c2, r2, m2, q1, q2, q3, q4, kP, hkP, hkPi⟩ := Cond.selects_spec hsel
  cases hcls.symm.trans q1
  cases (State.methodFound?_of_named hnamed hy).symm.trans q2
  cases hnamed.symm.trans q3
  have hselP : selectMethod e.platform s.vm cellB.cls mk = .method mk := by rw [Launch.admits_selectMethod X.admits]; exact q4
  obtain ⟨vm₁, X₁, hstep₁⟩ := X.invokevirtual hexec hown hlink hnamed hmethM hstM hkP hkPi hy (a := b) (cell := cellB) hcell
    (fun z h => by rw [h] at hobj; cases hobj) hselP hmethM habM hkP hkPi (g := g) hg (argsL := argsL) (rest := rest) (hlen _ hsigM) hstack hdg
  rcases hK m meth c ⟨T.setVm vm₁, locs, cells, slots⟩ { g with stack := rest } (.invokevirtual index) mk (Value.ref b :: argsL).toArray X₁ hg hsize hdg hW (X₁.named hnamed) (hpre vm₁ X₁.warmed) with ⟨v, B, X', hpost, hsteps⟩ | ⟨q, B, X', hpost, hsteps⟩
  · exact Or.inl ⟨v, vm₁, B, X₁.warmed, X', hpost, fun target h => hstep₁ _ fun acts => by rw [doInvoke_state]; exact hsteps.trans h⟩
  · exact Or.inr ⟨q, vm₁, B, X₁.warmed, X', hpost, hstep₁ _ fun acts => by rw [doInvoke_state]; exact hsteps⟩
theorem vx_callSX (X : Stand p l e R s m args below meth c T locs cells slots) (hexec : p.tables.exec = Jvm.exec) {own : String} {index : Nat} {y : MethodName} {bytes : ByteArray} {maxL : Nat} {ret : Option FieldType} {hh : List (Nat × Nat × Nat × Nat)}
    (hown : s.vm.findClass own = some m.cls) (hlink : (Cond.methodLink own index y).before args s = true) (hstat : (Cond.static y).before args s = true) (hinit : (Cond.initialized y.cls).before args s = true)
    (hcode : (Cond.codeWith y bytes maxL ret hh).before args s = true) (hy : y.cls ≠ "java/lang/invoke/MethodHandle" ∧ y.cls ≠ "java/lang/invoke/VarHandle")
    {W9 : Nat} {Pre : Pt → Array Value → Prop} {Post : Pt → Array Value → Option Value → Pt → Prop} {PostX : Pt → Array Value → Addr → Pt → Prop} (hK : vx_Back l R p e below s args y 3 W9 Pre Post PostX)
    {g : JFrame} (hg : g.method = m) (hsize : g.locals.size = c.maxLocals) {argsL rest : List Value} (hlen : ∀ sig, parseMethodDescriptor y.desc = some sig → argsL.length = sig.parameters.length)
    (hstack : g.stack = argsL.reverse ++ rest) (hW : 2 * g.monitorRoom + (rest.map fun v => v.category).sum ≤ W9) (hdg : decode c.code g.pc = .ok (.invokestatic index, 3))
    (hpre : ∀ vm₁, s.WarmedH vm₁ → Pre ⟨T.setVm vm₁, locs, cells, slots⟩ argsL.toArray) :
    (∃ (v : Option Value) (vm₁ : Vm) (B : Pt), s.WarmedH vm₁ ∧ Stand p l e R s m args below meth c B.U B.locs B.cells B.slots ∧ Post ⟨T.setVm vm₁, locs, cells, slots⟩ argsL.toArray v B ∧
      ∀ target, Steps p.tables e below (B.U.setTop { g with pc := g.pc + 3, stack := v.toList ++ rest }) target → Steps p.tables e below (T.setTop g) target) ∨
    (∃ (q : Addr) (vm₁ : Vm) (B : Pt), s.WarmedH vm₁ ∧ Stand p l e R s m args below meth c B.U B.locs B.cells B.slots ∧ PostX ⟨T.setVm vm₁, locs, cells, slots⟩ argsL.toArray q B ∧
      Steps p.tables e below (T.setTop g) ((B.U.setTop { g with stack := rest }).pushFrame (.throwing q))) := by
  obtain ⟨mk, methM, cM, hnamed, hmethM, -, -, -, -, -, -, hsigM⟩ := Cond.codeWith_spec hcode
  have hstatic : methM.isStatic = true := Cond.static_spec hnamed hmethM hstat
  obtain ⟨kP, hkP, -⟩ := className_of_methodNamed hnamed
  have hinitP : kP.init = .initialized := Cond.initialized_spec (findClass_of_methodNamed hnamed) hkP hinit
  obtain ⟨vm₁, X₁, hstep₁⟩ := X.invokestatic hexec hown hlink hnamed hmethM hstatic hkP hinitP hy (g := g) hg (argsL := argsL) (rest := rest) (hlen _ hsigM) hstack hdg
  rcases hK m meth c ⟨T.setVm vm₁, locs, cells, slots⟩ { g with stack := rest } (.invokestatic index) mk argsL.toArray X₁ hg hsize hdg hW (X₁.named hnamed) (hpre vm₁ X₁.warmed) with ⟨v, B, X', hpost, hsteps⟩ | ⟨q, B, X', hpost, hsteps⟩
  · exact Or.inl ⟨v, vm₁, B, X₁.warmed, X', hpost, fun target h => hstep₁ _ fun acts => by rw [doInvoke_state]; exact hsteps.trans h⟩
  · exact Or.inr ⟨q, vm₁, B, X₁.warmed, X', hpost, hstep₁ _ fun acts => by rw [doInvoke_state]; exact hsteps⟩
theorem vx_callVW (X : Stand p l e R s m args below meth c T locs cells slots) (hexec : p.tables.exec = Jvm.exec) {own C : String} {index : Nat} {y : MethodName} {bytes : ByteArray} {maxL : Nat} {ret : Option FieldType} {hh : List (Nat × Nat × Nat × Nat)}
    (hown : s.vm.findClass own = some m.cls) (hlink : (Cond.methodLink own index y).before args s = true) (hinst : (Cond.instanceMethod y).before args s = true) (hsel : (Cond.selects C y y).before args s = true)
    (hcode : (Cond.codeWith y bytes maxL ret hh).before args s = true) (hy : y.cls ≠ "java/lang/invoke/MethodHandle" ∧ y.cls ≠ "java/lang/invoke/VarHandle")
    {W9 : Nat} {Pre : Pt → Array Value → Prop} {Post : Pt → Array Value → Option Value → Pt → Prop} (hK : Back l R p e below s args y 3 W9 Pre Post)
    {b : Addr} {cellB : Cell} (hcell : T.heap[b]? = some cellB) (hobj : cellB.vm.isStatics = false) (hcls : s.vm.findClass C = some cellB.cls)
    {g : JFrame} (hg : g.method = m) (hsize : g.locals.size = c.maxLocals) {argsL rest : List Value} (hlen : ∀ sig, parseMethodDescriptor y.desc = some sig → argsL.length = sig.parameters.length)
    (hstack : g.stack = argsL.reverse ++ .ref b :: rest) (hW : 2 * g.monitorRoom + (rest.map fun v => v.category).sum ≤ W9) (hdg : decode c.code g.pc = .ok (.invokevirtual index, 3))
    (hpre : ∀ vm₁, s.WarmedH vm₁ → Pre ⟨T.setVm vm₁, locs, cells, slots⟩ (Value.ref b :: argsL).toArray) :
    ∃ (v : Option Value) (vm₁ : Vm) (B : Pt), s.WarmedH vm₁ ∧ Stand p l e R s m args below meth c B.U B.locs B.cells B.slots ∧ Post ⟨T.setVm vm₁, locs, cells, slots⟩ (Value.ref b :: argsL).toArray v B ∧
      ∀ target, Steps p.tables e below (B.U.setTop { g with pc := g.pc + 3, stack := v.toList ++ rest }) target → Steps p.tables e below (T.setTop g) target := by
  obtain ⟨mk, methM, hnamed, hmethM, hstM, habM⟩ := Cond.instanceMethod_spec hinst
  obtain ⟨m8, methM', cM, hn8, hmethM', -, -, -, -, -, -, hsigM⟩ := Cond.codeWith_spec hcode
  cases Option.some.inj (hn8.symm.trans hnamed)
  cases hmethM.symm.trans hmethM'
  obtain ⟨c2, r2, m2, q1, q2, q3, q4, kP, hkP, hkPi⟩ := Cond.selects_spec hsel
  cases hcls.symm.trans q1
  cases (State.methodFound?_of_named hnamed hy).symm.trans q2
  cases hnamed.symm.trans q3
  have hselP : selectMethod e.platform s.vm cellB.cls mk = .method mk := by rw [Launch.admits_selectMethod X.admits]; exact q4
  obtain ⟨vm₁, X₁, hstep₁⟩ := X.invokevirtual hexec hown hlink hnamed hmethM hstM hkP hkPi hy (a := b) (cell := cellB) hcell
    (fun z h => by rw [h] at hobj; cases hobj) hselP hmethM habM hkP hkPi (g := g) hg (argsL := argsL) (rest := rest) (hlen _ hsigM) hstack hdg
  obtain ⟨v, B, X', hpost, hsteps⟩ := hK m meth c ⟨T.setVm vm₁, locs, cells, slots⟩ { g with stack := rest } (.invokevirtual index) mk (Value.ref b :: argsL).toArray X₁ hg hsize hdg hW (X₁.named hnamed) (hpre vm₁ X₁.warmed)
  exact ⟨v, vm₁, B, X₁.warmed, X', hpost, fun target h => hstep₁ _ fun acts => by rw [doInvoke_state]; exact hsteps.trans h⟩
abbrev vx_CVW (R : Room) (s : State) (args : Array Value) (own C : String) (index : Nat) (y : MethodName) (bytes : ByteArray) (maxL : Nat) (ret : Option FieldType) (hh : List (Nat × Nat × Nat × Nat)) (ws : List Cond) (rm : Room) (mc ms n : Nat) : Prop :=
  (rm.cells = mc ∧ rm.slots = ms ∧ rm.frames + 1 ≤ R.frames ∧ 8 + (maxL + 11) + rm.locals ≤ R.locals ∧ (∀ w ∈ ws, ∀ (a' : Array Value) (U : State), s.WarmedH U.vm → w.before a' U = true) ∧ Cond.codeWith y bytes maxL ret hh ∈ ws) ∧
  (Cond.codeWith y bytes maxL ret hh).before args s = true ∧ (Cond.initialized y.cls).before args s = true ∧ (y.cls ≠ "java/lang/invoke/MethodHandle" ∧ y.cls ≠ "java/lang/invoke/VarHandle") ∧
  (∀ sig, parseMethodDescriptor y.desc = some sig → n = sig.parameters.length) ∧ (Cond.methodLink own index y).before args s = true ∧ (Cond.instanceMethod y).before args s = true ∧ (Cond.selects C y y).before args s = true
theorem vx_cwVW {own C : String} {index maxL mc ms : Nat} {y : MethodName} {bytes : ByteArray} {ret : Option FieldType} {hh : List (Nat × Nat × Nat × Nat)} {Ts ws ws' : List Cond} {rm : Room} (n : Nat) (ht : ∀ w ∈ Ts, w.before args s = true) (hT : GoodIn Ts (wsV own index C y ws)) (hw : ws = Cond.codeWith y bytes maxL ret hh :: ws') (hrc : rm.cells = mc) (hrs : rm.slots = ms)
    (hd : y.cls = C ∧ y.cls ≠ "java/lang/invoke/MethodHandle" ∧ y.cls ≠ "java/lang/invoke/VarHandle" ∧ (parseMethodDescriptor y.desc).map (fun d => d.parameters.length) = some n) (hR : rm.frames + 1 ≤ R.frames ∧ 8 + (maxL + 11) + rm.locals ≤ R.locals) :
    vx_CVW R s args own C index y bytes maxL ret hh ws rm mc ms n := by
  obtain ⟨hC, hd⟩ := hd
  subst hC
  have ok : ∀ w ∈ wsV own index y.cls y ws, w.before args s = true := fun w h => ht w (hT w h).1
  have hG : GoodIn Ts ws := fun w h => hT w (by unfold wsV; exact List.mem_append_right _ h)
  have hc : Cond.codeWith y bytes maxL ret hh ∈ ws := by rw [hw]; exact List.mem_cons_self
  refine ⟨⟨hrc, hrs, hR.1, hR.2, pay_in ht hG, hc⟩, ht _ (hG _ hc).1, ok _ (by simp [wsV]), ⟨hd.1, hd.2.1⟩, fun sig h => ?_, ok _ (by simp [wsV]), ok _ (by simp [wsV]), ok _ (by simp [wsV])⟩
  have h2 := hd.2.2
  rw [h] at h2
  exact (Option.some.inj h2).symm
theorem vx_runVW {y : MethodName} {bytes cc : ByteArray} {maxL nL mc ms n index : Nat} {ret : Option FieldType} {hh : List (Nat × Nat × Nat × Nat)} {ws : List Cond} {rm : Room} {Pc : Array Value → State → Prop} {Qc : Array Value → State → Outcome → State → Prop} {free : Addr → Prop} {Ts : List Cond} {own C : String} {b : Addr} {As rest : List Value} {g : JFrame}
    (S : CallFix p m c cc nL s args Ts own) (hM : Met l y ws rm Pc Qc mc ms free) (cw : vx_CVW R s args own C index y bytes maxL ret hh ws rm mc ms n) (hp : PreV s H C b Pc As)
    (hg : g.method = m) (hn : As.length = n) (hsize : g.locals.size = nL) (hstack : g.stack = As.reverse ++ .ref b :: rest) (hW : 2 * g.monitorRoom + (rest.map fun v => v.category).sum ≤ 8) (hdg : decode cc g.pc = .ok (.invokevirtual index, 3)) (hf : cells + mc ≤ R.cells ∧ slots + ms ≤ R.slots) :
    va_Run p l e R s m args below meth c H locs cells slots mc ms g rest (Qc (Value.ref b :: As).toArray) free := by
  obtain ⟨⟨hrc, hrs, hfr, hlo, hws, hcw⟩, hcode, hini, hy, hlen, hl, hin, hse⟩ := cw
  have hK : Back l R p e below s args y 3 8 (PreOf R mc ms Pc) (PostOf Qc mc ms free) := va_backW (hh := hh) (bytes := bytes) (maxL := maxL) (ret := ret) hM hp.1 hrc hrs hfr hlo hws hcw (fun a' U hW => word_at hW (Or.inl (by first | rfl | simp [Cond.onTables, Cond.keeps, Cond.steady])) hini)
  obtain ⟨hx, hb, hml, ho, -⟩ := S
  obtain ⟨-, ⟨cellB, hcB, hoB, hclB⟩, hPc⟩ := hp
  intro T hT X
  obtain ⟨v, vm₁, ⟨U', l2, c2, s2⟩, hW₁, X', ⟨g', mk, t, L, e1, e2, hq, h1, hL, h2, h3⟩, st⟩ := vx_callVW X hx (C := C) (hh := hh) (bytes := bytes) (maxL := maxL) (ret := ret) ho hl hin hse hcode hy hK (by rw [hT]; exact hcB) hoB hclB hg (hsize.trans hml.symm) (argsL := As) (rest := rest) (fun sig h => hn.trans (hlen sig h)) hstack hW (by rw [hb]; exact hdg)
    (fun vm₁ hW₁ => ⟨hf.1, hf.2, hPc (T.setVm vm₁) hT hW₁⟩)
  dsimp only [Pt.U, Pt.locs, Pt.cells, Pt.slots] at X' e1 e2 h1 h2 h3 st
  subst h1; subst h2; subst h3
  exact ⟨v, (T.setVm vm₁).calling g' mk (Value.ref b :: As).toArray, t, U', L, hT, X', hL, e1, e2, hq, st⟩
section
variable {y : MethodName} {bytes cc : ByteArray} {maxL nL mc ms n index : Nat} {ret : Option FieldType} {ws : List Cond} {rm : Room} {Pc : Array Value → State → Prop} {Qc : Array Value → State → Outcome → State → Prop} {XC : String → State → State → Prop} {free : Addr → Prop} {Ts : List Cond} {own C : String} {b : Addr} {As rest : List Value} {g : JFrame}
theorem vx_runVX {hh : List (Nat × Nat × Nat × Nat)} (S : CallFix p m c cc nL s args Ts own) (hM : vx_Met l y ws rm Pc Qc XC mc ms free) (cw : vx_CVW R s args own C index y bytes maxL ret hh ws rm mc ms n) (hp : PreV s H C b Pc As)
    (hg : g.method = m) (hn : As.length = n) (hsize : g.locals.size = nL) (hstack : g.stack = As.reverse ++ .ref b :: rest) (hW : 2 * g.monitorRoom + (rest.map fun v => v.category).sum ≤ 8) (hdg : decode cc g.pc = .ok (.invokevirtual index, 3)) (hf : cells + mc ≤ R.cells ∧ slots + ms ≤ R.slots) :
    vx_Run p l e R s m args below meth c H locs cells slots mc ms g rest (Qc (Value.ref b :: As).toArray) XC free := by
  obtain ⟨⟨hrc, hrs, hfr, hlo, hws, hcw⟩, hcode, hini, hy, hlen, hl, hin, hse⟩ := cw
  have hK : vx_Back l R p e below s args y 3 8 (PreOf R mc ms Pc) (PostOf Qc mc ms free) (vx_Post XC mc ms free) := vx_backW (hh := hh) (bytes := bytes) (maxL := maxL) (ret := ret) hM hp.1 hrc hrs hfr hlo hws hcw (fun a' U hW => word_at hW (Or.inl (by first | rfl | simp [Cond.onTables, Cond.keeps, Cond.steady])) hini)
  obtain ⟨hx, hb, hml, ho, -⟩ := S
  obtain ⟨-, ⟨cellB, hcB, hoB, hclB⟩, hPc⟩ := hp
  intro T hT X
  rcases vx_callVX X hx (C := C) (hh := hh) (bytes := bytes) (maxL := maxL) (ret := ret) ho hl hin hse hcode hy hK (by rw [hT]; exact hcB) hoB hclB hg (hsize.trans hml.symm) (argsL := As) (rest := rest) (fun sig h => hn.trans (hlen sig h)) hstack hW (by rw [hb]; exact hdg)
    (fun vm₁ hW₁ => ⟨hf.1, hf.2, hPc (T.setVm vm₁) hT hW₁⟩) with ⟨v, vm₁, ⟨U', l2, c2, s2⟩, hW₁, X', ⟨g', mk, t, L, e1, e2, hq, h1, hL, h2, h3⟩, st⟩ | ⟨q, vm₁, ⟨U', l2, c2, s2⟩, hW₁, X', ⟨g', mk, t, L, E, ce, e1, e2, hq, hce, hcv, hcl, h1, hL, h2, h3⟩, st⟩
  · dsimp only [Pt.U, Pt.locs, Pt.cells, Pt.slots] at X' e1 e2 h1 h2 h3 st
    subst h1; subst h2; subst h3
    exact Or.inl ⟨v, (T.setVm vm₁).calling g' mk (Value.ref b :: As).toArray, t, U', L, hT, X', hL, e1, e2, hq, st⟩
  · dsimp only [Pt.U, Pt.locs, Pt.cells, Pt.slots] at X' e1 e2 h1 h2 h3 st hcl
    subst h1; subst h2; subst h3
    exact Or.inr ⟨q, (T.setVm vm₁).calling g' mk (Value.ref b :: As).toArray, t, U', L, E, ce, hT, X', hL, e1, e2, hq, hce, hcv, vx_cls hW₁ hcl, st⟩
theorem vx_runSX {hh : List (Nat × Nat × Nat × Nat)} (S : CallFix p m c cc nL s args Ts own) (hM : vx_Met l y ws rm Pc Qc XC mc ms free) (cw : vx_CSW R s args own index y bytes maxL ret hh ws rm mc ms n) (hp : PreS s H Pc As)
    (hg : g.method = m) (hn : As.length = n) (hsize : g.locals.size = nL) (hstack : g.stack = As.reverse ++ rest) (hW : 2 * g.monitorRoom + (rest.map fun v => v.category).sum ≤ 8) (hdg : decode cc g.pc = .ok (.invokestatic index, 3)) (hf : cells + mc ≤ R.cells ∧ slots + ms ≤ R.slots) :
    vx_Run p l e R s m args below meth c H locs cells slots mc ms g rest (Qc As.toArray) XC free := by
  obtain ⟨⟨hrc, hrs, hfr, hlo, hws, hcw⟩, hcode, hini, hy, hlen, hl, hstt⟩ := cw
  have hK : vx_Back l R p e below s args y 3 8 (PreOf R mc ms Pc) (PostOf Qc mc ms free) (vx_Post XC mc ms free) := vx_backW (hh := hh) (bytes := bytes) (maxL := maxL) (ret := ret) hM hp.1 hrc hrs hfr hlo hws hcw (fun a' U hW => word_at hW (Or.inl (by first | rfl | simp [Cond.onTables, Cond.keeps, Cond.steady])) hini)
  obtain ⟨hx, hb, hml, ho, -⟩ := S
  intro T hT X
  rcases vx_callSX X hx (hh := hh) (bytes := bytes) (maxL := maxL) (ret := ret) ho hl hstt hini hcode hy hK hg (hsize.trans hml.symm) (argsL := As) (rest := rest) (fun sig h => hn.trans (hlen sig h)) hstack hW (by rw [hb]; exact hdg)
    (fun vm₁ hW₁ => ⟨hf.1, hf.2, hp.2 (T.setVm vm₁) hT hW₁⟩) with ⟨v, vm₁, ⟨U', l2, c2, s2⟩, hW₁, X', ⟨g', mk, t, L, e1, e2, hq, h1, hL, h2, h3⟩, st⟩ | ⟨q, vm₁, ⟨U', l2, c2, s2⟩, hW₁, X', ⟨g', mk, t, L, E, ce, e1, e2, hq, hce, hcv, hcl, h1, hL, h2, h3⟩, st⟩
  · dsimp only [Pt.U, Pt.locs, Pt.cells, Pt.slots] at X' e1 e2 h1 h2 h3 st
    subst h1; subst h2; subst h3
    exact Or.inl ⟨v, (T.setVm vm₁).calling g' mk As.toArray, t, U', L, hT, X', hL, e1, e2, hq, st⟩
  · dsimp only [Pt.U, Pt.locs, Pt.cells, Pt.slots] at X' e1 e2 h1 h2 h3 st hcl
    subst h1; subst h2; subst h3
    exact Or.inr ⟨q, (T.setVm vm₁).calling g' mk As.toArray, t, U', L, E, ce, hT, X', hL, e1, e2, hq, hce, hcv, vx_cls hW₁ hcl, st⟩
end
end VXH
theorem vx_ofWH {l : Launch} {y : MethodName} {ws ws' : List Cond} {rm : Room} {Pc : Array Value → State → Prop} {Qc : Array Value → State → Outcome → State → Prop} {XC : String → State → State → Prop} {mc ms : Nat} {free : Addr → Prop} {cc : ByteArray} {maxL : Nat} {ret : Option FieldType} {hh : List (Nat × Nat × Nat × Nat)}
    (hy : plainName y.cls = true) (hw : ws = Cond.codeWith y cc maxL ret hh :: ws')
    (body : ∀ p e s m args below meth c s₁, BodyLoose p l y (headSpec ws rm) cc maxL ret e s m args below meth c s₁ → c.maxLocals = maxL → Pc args s →
      W p l e (headSpec ws rm).room s m args below meth c s.heap [] 0 0 (vx_MQ below Qc XC args s mc ms free) (entryFrame m args maxL)) : vx_Met l y ws rm Pc Qc XC mc ms free := by
  refine MetFree.of_bodyS (code := cc) (maxLocals := maxL) (ret := ret) hy ?_ ?_
  · intro args s m h hn
    obtain ⟨m9, meth, c, hn9, h1, h2, h3, h4, -, h5, h6, -⟩ := Cond.codeWith_spec (atoms_spec (ws := ws) h _ (by rw [hw]; exact List.mem_cons_self))
    cases hn.symm.trans hn9
    exact ⟨meth, c, h1, h2, h3, h4, h5, h6⟩
  · intro p e s m args below meth c s₁ B hml hP _
    have hh0 : s₁.heap = s.heap := by rw [B.state]; rfl
    obtain ⟨t, a1, o, b1, b2, b3⟩ := body p e s m args below meth c s₁ B hml hP s₁ hh0 (Stand.of_body B)
    exact ⟨t, o, a1, b1, b2, b3⟩
/-! ===== END ===== -/

/-! ===== BEGIN what the machine throws by itself, no traces kept ===== -/
section VXM
set_option maxHeartbeats 1000000 in
/-- the machine throws cls with the message text, no traces kept: from its note over the frame g to 'throwing' over the same frame (follows the proofs of Stand.vmThrowsMessage, Shelf/KitTracedVmS.lean, and Stand.throwsMessageColdBareV, StandMessageColdV.lean, without the step out of the frame) -/
theorem vx_vmAt {p : Program} {l : Launch} {e : Env} {R : Room} {s : State} {m₀ : MethodId} {args : Array Value} {below : List Frame} {meth : Method} {c : Code} {W : State} {locs : List Loc} {cells slots : Nat}
    (X : Stand p l e R s m₀ args below meth c W locs cells slots) (hexec : p.tables.exec = Jvm.exec) (htr : e.platform.stackTraces = false) {cls : String} {names : List String} {text : String}
    (hcls : Bundle.fit cls = true) (hnames : ∀ n ∈ names, Bundle.fit n = true) (hsoe : (cls == "java/lang/StackOverflowError") = false) (hoom : (cls == "java/lang/OutOfMemoryError") = false)
    (h : ∀ a ∈ Bundle.messageArmAtoms cls names, a.before args s = true)
    (hlocs : ∀ x ∈ locs, ∀ cell, s.heap[x.base]? = some cell → cell.vm.isStatics = false)
    (htext : (text == notModelled) = false) (hlimit : ¬ (stringBytes (stringToUtf16 text)).size > e.platform.arrayLengthLimit) (hheap : ¬ (stringBytes (stringToUtf16 text)).size * componentBytes .byte > e.platform.maxHeapBytes)
    {g : JFrame} (hg : g.method = m₀) (hsize : g.locals.size = c.maxLocals)
    (hRframes : names.length + 4 < R.frames) (hRlocals : 2 * g.monitorRoom + (g.stack.map fun v => v.category).sum + 10240 ≤ R.locals) (hshort : 13 * names.length + 55 ≤ 10240)
    (hRcells : cells + 3 ≤ R.cells) (hRslots : slots + ((stringBytes (stringToUtf16 text)).size + 4 + 6) ≤ R.slots) (hlocks : meth.locks = false) :
    ∃ (S : State) (q : Addr) (ce : Cell), (∀ target, Steps p.tables e below ((S.setTop g).pushFrame (.throwing q)) target → Steps p.tables e below ((W.setTop g).pushFrame (.throwNew cls (some text) none)) target) ∧
      Stand p l e R s m₀ args below meth c S locs (cells + 3) (slots + ((stringBytes (stringToUtf16 text)).size + 4 + 6)) ∧ S.heap[q]? = some ce ∧ s.vm.findClass cls = some ce.cls ∧ ce.vm = .none := by
  have howns : e.platform.frameOwnsMonitors = true := by rw [X.admits.platform]
  have hfin : e.platform.finalization = false := by rw [X.admits.platform]
  have hpl : e.platform.magicAccessors = ({} : Platform).magicAccessors := by rw [X.admits.platform]
  have a : ∀ x, x ∈ Bundle.messageArmAtoms cls names → x.holds args s none s [] = true := fun x hx => h x hx
  obtain ⟨T, Z0, L, -, Y⟩ := ThrowableC.of_atoms (args := args) howns hfin hpl (fun x hx => h x (by simp [Bundle.messageArmAtoms, hx]))
  obtain ⟨Z, M, LZ, LM, hnZ⟩ := Init0T.ofS_atoms (args := args) hpl L Y (fun x hx => h x (by simp [Bundle.messageArmAtoms, hx]))
  obtain ⟨P1, Ps, hlen, L1, hL, hP1m, hlink1, hlink⟩ := Bundle.chainS (args := args) hpl hnZ names cls hcls hnames (fun x hx => h x (by simp [Bundle.messageArmAtoms, hx]))
  obtain ⟨Zs, LZs, hn4, hfitv, hfitc⟩ := StringT.of_atoms (args := args) (fun x hx => h x (by simp [Bundle.messageArmAtoms, hx]))
  have hfound : s.vm.findClass cls = some P1.m.cls := findClass_of_methodNamed hP1m
  obtain ⟨c1, kX, hc1, hk, hord, -, -, hn6⟩ := Cond.instantiable_spec (a (.instantiable cls 6) (by simp [Bundle.messageArmAtoms]))
  cases Option.some.inj (hc1.symm.trans hfound)
  have hinit := Cond.initialized_spec hfound hk (a (.initialized cls) (by simp [Bundle.messageArmAtoms]))
  have hctor : kX.findMethod "<init>" "(Ljava/lang/String;)V" = some P1.m.idx := findMethod_of_methodNamed hP1m hk
  have hsel0 : selectMethod e.platform s.vm P1.m.cls T.fill0 = .method T.fill0 := by
    obtain ⟨c2, r2, m2, q1, q2, q3, q4, -⟩ := Cond.selects_spec (a (.selects cls Bundle.tFill0 Bundle.tFill0) (by simp [Bundle.messageArmAtoms]))
    cases Option.some.inj (q1.symm.trans hfound)
    cases Option.some.inj (q2.symm.trans (State.methodFound?_of_named Y.fill0 (by decide)))
    cases Option.some.inj (q3.symm.trans Y.fill0)
    rw [Launch.admits_selectMethod X.admits]; exact q4
  have hselF : selectMethod e.platform s.vm P1.m.cls T.fill = .method T.fill := by
    obtain ⟨c2, r2, m2, q1, q2, q3, q4, -⟩ := Cond.selects_spec (a (.selects cls Bundle.tFill Bundle.tFill) (by simp [Bundle.messageArmAtoms]))
    cases Option.some.inj (q1.symm.trans hfound)
    cases Option.some.inj (q2.symm.trans (State.methodFound?_of_named Y.fill (by decide)))
    cases Option.some.inj (q3.symm.trans Y.fill)
    rw [Launch.admits_selectMethod X.admits]; exact q4
  obtain ⟨cellS0, hcS0, hiss⟩ := Y.statics
  obtain ⟨u0, hu0⟩ := Cond.staticRefV Y.unassigned L.unassignedStatic L.statics hcS0 hiss (a (.isRef (.static Bundle.tN "UNASSIGNED_STACK" Bundle.steD)) (by simp [Bundle.messageArmAtoms]))
  obtain ⟨sen, hsen⟩ := Cond.staticRefV Y.sentinel L.sentinelStatic L.statics hcS0 hiss (a (.isRef (.static Bundle.tN "SUPPRESSED_SENTINEL" Bundle.listD)) (by simp [Bundle.messageArmAtoms]))
  obtain ⟨ci198, i198, fB, hk198, hg198, ha198, hsB, -, hnB, htB, hffB⟩ := Cond.ownField (t := .object "java/lang/Object") Y.found L.cls (by decide +kernel) (a (.fieldLink Bundle.tN 198 Bundle.tN "backtrace" "Ljava/lang/Object;") (by simp [Bundle.messageArmAtoms])) (a (.lays Bundle.tN Bundle.tN "backtrace" "Ljava/lang/Object;") (by simp [Bundle.messageArmAtoms])) e.platform hpl
  obtain ⟨cellS, hcS', heS, -, hkeep⟩ := X.same.2.2.2.2.2 T.aS cellS0 hcS0
  have hcellS : W.heap[T.aS]? = some cellS := hcS'
  have hout' : ∀ i, (⟨T.aS, i⟩ : Loc) ∉ locs := fun i hmem => by
    have := hlocs _ hmem cellS0 hcS0
    rw [hiss] at this; cases this
  have hknownS : cellS.vm ≠ .unknown := by
    rw [heS]; intro hu
    rw [show cellS0.vm = .unknown from hu] at hiss
    cases hiss
  have hvU : cellS.slots[T.fUnassigned.slot]? = some u0.v := by rw [hkeep _ (hout' _)]; exact hu0
  have hvSen : cellS.slots[T.fSentinel.slot]? = some sen.v := by rw [hkeep _ (hout' _)]; exact hsen
  obtain ⟨iM, hffM⟩ := Y.msg
  obtain ⟨tyC, dC, hdC, hdnC⟩ := Cond.laysAt hfound hk Y.cause (a (.lays cls Bundle.tN "cause" "Ljava/lang/Throwable;") (by simp [Bundle.messageArmAtoms]))
  obtain ⟨tyS, dS, hdS, hdnS⟩ := Cond.laysAt hfound hk Y.stack (a (.lays cls Bundle.tN "stackTrace" Bundle.steD) (by simp [Bundle.messageArmAtoms]))
  obtain ⟨tyP, dP, hdP, hdnP⟩ := Cond.laysAt hfound hk Y.supp (a (.lays cls Bundle.tN "suppressedExceptions" Bundle.listD) (by simp [Bundle.messageArmAtoms]))
  obtain ⟨tyM, dM, hdM, hdnM⟩ := Cond.laysAt hfound hk hffM (a (.lays cls Bundle.tN "detailMessage" "Ljava/lang/String;") (by simp [Bundle.messageArmAtoms]))
  obtain ⟨tyB, dB, hdB, hdnB⟩ := Cond.laysAt hfound hk hffB (a (.lays cls Bundle.tN "backtrace" "Ljava/lang/Object;") (by simp [Bundle.messageArmAtoms]))
  have bC := Cond.laysApart hdB hdC hdnB hdnC (by rw [hnB, Y.causeName]; decide)
  have bS := Cond.laysApart hdB hdS hdnB hdnS (by rw [hnB, Y.stackName]; decide)
  have bP := Cond.laysApart hdB hdP hdnB hdnP (by rw [hnB, Y.suppName]; decide)
  have hbk : ((preparedCellV T.toThrowableT (freshCell P1.m.cls kX) (W.heap.size + 2) u0 sen).withEntry W.cur).slots[fB.slot]? = some .null := by
    have := fresh_default (c := P1.m.cls) tyB
    rw [htB] at this
    simpa [preparedCellV, Cell.setSlot, Cell.withEntry, Array.getElem?_setIfInBounds, bC, bS, bP, bC.symm, bS.symm, bP.symm, defaultValue] using this
  have tkC := Takes.of_laid (v := .ref (W.heap.size + 2)) hk hord tyC (by rw [Y.causeType]; rfl)
  have tkS := Takes.of_laid (v := u0.v) hk hord tyS (by rw [Y.stackType]; exact fits_refV_array _ u0)
  have tkP := Takes.of_laid (v := sen.v) hk hord tyP (by rw [Y.suppType]; exact fits_refV_object _ sen)
  have tkM := Takes.of_laid (v := .ref (W.heap.size + 1)) hk hord tyM (by rw [Y.msgType]; rfl)
  have hskip : SkipFacts T e.platform s (fun u => u) u0 ((preparedCellV T.toThrowableT (freshCell P1.m.cls kX) (W.heap.size + 2) u0 sen).withEntry W.cur) := ⟨{ ci198 := ci198, i198 := i198, fBack := fB }, ⟨hk198, hg198, ha198, hsB⟩, hbk, fun _ _ => rfl⟩
  have h0 : At W g.method c below := by rw [hg]; exact X.here
  obtain ⟨hbeyond, hfreeW⟩ := X.vmMayThrow hsize (.throwNew cls (some text) none) (fun f hf => by cases hf) rfl hRlocals
  have hfr' : W.frames.length + Ps.length + 4 < (e.platform.stackLimits W.me).1 := by have := X.framesAbove hRframes; omega
  have hwd' : (stackUse (.java g :: W.frames.tail)).2 + 13 * Ps.length + 55 ≤ (e.platform.stackLimits W.me).2 := by have := X.stackAbove hsize (K := 13 * Ps.length + 55) (by omega); omega
  have hslots : W.slotsUsed + (stringBytes (stringToUtf16 text)).size + Zs.kS.instanceTypes.size + kX.instanceTypes.size ≤ e.platform.maxSlots := by
    have := X.slotsAbove hRslots
    rw [hn4, hn6]
    omega
  obtain ⟨vm', hW', st⟩ := Steps.vmThrowsMessageColdByV p (s₀ := s) (S := W) (g := g) h0 hexec T L Z LZ M LM X.warmed (t := W.cur) rfl Zs LZs P1 L1 Ps hL hlink1 hlink hsoe hoom hfound hk hinit hord hctor
    (Launch.admits_hotImplicitExceptions X.admits) hbeyond hfreeW htext hlimit hheap (X.cellsAbove hRcells) hslots (hfitv _) (hfitc _)
    (Nn := fun u => u) heapOnly_id (fun _ _ => rfl) (fun _ => rfl) (fun u x y => setCell_twice _ _ _ _) (fun _ => Nat.le_refl _) (cN := ((preparedCellV T.toThrowableT (freshCell P1.m.cls kX) (W.heap.size + 2) u0 sen).withEntry W.cur))
    hsel0 hcellS hknownS hvU tkS (fun _ hu => hu) (fun _ hu => hu) rfl rfl rfl (by simp [preparedCellV, Cell.setSlot, Cell.withEntry]) hskip (fun _ _ hA hW _ hroom _ hrest => L.nativeOff p htr hA hW hroom hrest) hselF hvSen tkC tkP tkM Y.objLocals rfl hfr' hwd'
  rw [plainBareV_eq T.toThrowableT (W.heap.size + 2) u0 sen (.ref (W.heap.size + 1)) W.cur rfl rfl] at st
  obtain ⟨-, -, w3, w4, -, -, -⟩ := withThrown_facts e.platform W Zs text P1.m.cls kX
  have X3 := ((X.pushed (bytesOf Zs.cB (stringToUtf16 text))).pushed (stringAt Zs.cS Zs.kS Zs.fv Zs.fc (stringToUtf16 text) W.heap.size)).pushed (freshCell P1.m.cls kX)
  rw [← withString_eq] at X3
  have X4 := X3.noted hW'
  have ha : (W.heap.size + 2) < ((withThrown W Zs text P1.m.cls kX).setVm vm').heap.size := by show _ < (withThrown W Zs text P1.m.cls kX).heap.size; rw [w3]; omega
  have hcell : ((withThrown W Zs text P1.m.cls kX).setVm vm').heap[(W.heap.size + 2)]? = some (freshCell P1.m.cls kX) := w4
  have X5 := ((((X4.stored hcell T.fCause.slot (.ref (W.heap.size + 2))).storedAgain ha T.fStack.slot u0.v).storedAgain ha T.fSupp.slot sen.v).storedAgain ha T.fStack.slot u0.v).storedAgain ha T.fMsg.slot (.ref (W.heap.size + 1))
  obtain ⟨g₁, hfrM⟩ := X5.frames_eq
  have hU : ((((withThrown W Zs text P1.m.cls kX).setVm vm').setCell (W.heap.size + 2) (plainBareV T.toThrowableT (freshCell P1.m.cls kX) (W.heap.size + 2) u0 sen (.ref (W.heap.size + 1)))).setTop g).pushFrame (.throwing (W.heap.size + 2)) = (((withThrown W Zs text P1.m.cls kX).setVm vm').setCell (W.heap.size + 2) (plainBareV T.toThrowableT (freshCell P1.m.cls kX) (W.heap.size + 2) u0 sen (.ref (W.heap.size + 1)))).setFrames (.throwing (W.heap.size + 2) :: .java g :: below) := by
    rw [State.pushFrame, State.frames_setTop _ hfrM, State.setTop_of_frames _ hfrM, State.setFrames_setFrames]
  have b1 : (bytesOf Zs.cB (stringToUtf16 text)).slots.size = (stringBytes (stringToUtf16 text)).size := by
    rw [(Cell.writeAll_facts _ _).2.2]; simp [bytes0]
  have b2 : (stringAt Zs.cS Zs.kS Zs.fv Zs.fc (stringToUtf16 text) W.heap.size).slots.size = 4 := by simp [string0, Cell.setSlot, hn4]
  have b3 : (freshCell P1.m.cls kX).slots.size = 6 := by simp [hn6]
  rw [b1, b2, b3] at X5
  have e9 : slots + (stringBytes (stringToUtf16 text)).size + 4 + 6 = slots + ((stringBytes (stringToUtf16 text)).size + 4 + 6) := by omega
  rw [e9] at X5
  simp only [List.append_assoc, List.cons_append, List.nil_append] at X5
  refine ⟨((withThrown W Zs text P1.m.cls kX).setVm vm').setCell (W.heap.size + 2) (plainBareV T.toThrowableT (freshCell P1.m.cls kX) (W.heap.size + 2) u0 sen (.ref (W.heap.size + 1))), W.heap.size + 2, _, fun target ht => st _ (by rw [X.tail, ← hU]; exact ht),
    X5.forget (fun y hy => ?_), heapAt_setCell_self _ ha, hfound, rfl⟩
  simp only [List.mem_cons, List.not_mem_nil, or_false] at hy
  have hge : s.heap.size ≤ W.heap.size := X.same.2.1
  rcases hy with rfl | rfl | rfl | rfl | rfl <;> exact Nat.le_trans hge (Nat.le_add_right _ 2)
set_option maxHeartbeats 1000000 in
/-- the machine throws NullPointerException, no traces kept: from its note over the frame g to 'throwing' over the same frame (follows the proof of Stand.vmThrowsNpe, Shelf42/KT2.lean; throwsNpeColdBareVAt, Shelf42/NT91.lean, called) -/
theorem vx_npeAt {p : Program} {l : Launch} {e : Env} {R : Room} {s : State} {m₀ : MethodId} {args : Array Value} {below : List Frame} {meth : Method} {c : Code} {W : State} {locs : List Loc} {cells slots : Nat}
    (X : Stand p l e R s m₀ args below meth c W locs cells slots) (hexec : p.tables.exec = Jvm.exec) (htr : e.platform.stackTraces = false) {n : Nat}
    (h : ∀ a ∈ Bundle.npeArmAtoms n, a.before args s = true)
    (hlocs : ∀ x ∈ locs, ∀ cell, s.heap[x.base]? = some cell → cell.vm.isStatics = false)
    {g : JFrame} (hg : g.method = m₀) (hsize : g.locals.size = c.maxLocals)
    (hRframes : 7 < R.frames) (hRlocals : 2 * g.monitorRoom + (g.stack.map fun v => v.category).sum + 10240 ≤ R.locals)
    (hRcells : cells + 1 ≤ R.cells) (hRslots : slots + n ≤ R.slots) (hlocks : meth.locks = false) :
    ∃ (S : State) (q : Addr) (ce : Cell), (∀ target, Steps p.tables e below ((S.setTop g).pushFrame (.throwing q)) target → Steps p.tables e below ((W.setTop g).pushFrame (.throwNew "java/lang/NullPointerException" none none)) target) ∧
      Stand p l e R s m₀ args below meth c S locs (cells + 1) (slots + n) ∧ S.heap[q]? = some ce ∧ s.vm.findClass "java/lang/NullPointerException" = some ce.cls ∧ ce.vm = .none := by
  have howns : e.platform.frameOwnsMonitors = true := by rw [X.admits.platform]
  have hfin : e.platform.finalization = false := by rw [X.admits.platform]
  have hpl : e.platform.magicAccessors = ({} : Platform).magicAccessors := by rw [X.admits.platform]
  have hpl2 : e.platform.arrayCloneIsPublic = true := by rw [X.admits.platform]
  have a' : ∀ x, x ∈ Bundle.npeArmAtoms n → x.holds args s none s [] = true := fun x hx => h x hx
  obtain ⟨T, Z, L, LZ, Y⟩ := ThrowableC.of_atoms (args := args) howns hfin hpl (fun x hx => h x (by simp [Bundle.npeArmAtoms, hx]))
  obtain ⟨N, LN, hcN, hnNF, hordN, hffS⟩ := NpeC.of_atoms (args := args) hpl hpl2 L Y (fun x hx => h x (by simp [Bundle.npeArmAtoms, hx]))
  obtain ⟨P1, L1, hP1m, hP1s⟩ := PassC.of_atoms (args := args) (s := s) hpl (X := Bundle.nN) (Y := Bundle.rN) (by decide) (by decide) LibCode.NullPointerException.Init0.at_0 LibCode.NullPointerException.Init0.at_1 LibCode.NullPointerException.Init0.at_4 (fun x hx => h x (by simp [Bundle.npeArmAtoms, hx]))
  obtain ⟨PR, LR, hPRm, hPRs⟩ := PassC.of_atoms (args := args) (s := s) hpl (X := Bundle.rN) (Y := Bundle.eN) (by decide) (by decide) LibCode.RuntimeException.Init0.at_0 LibCode.RuntimeException.Init0.at_1 LibCode.RuntimeException.Init0.at_4 (fun x hx => h x (by simp [Bundle.npeArmAtoms, hx]))
  obtain ⟨PE, LEx, hPEm, hPEs⟩ := PassC.of_atoms (args := args) (s := s) hpl (X := Bundle.eN) (Y := Bundle.tN) (by decide) (by decide) LibCode.Exception.Init0.at_0 LibCode.Exception.Init0.at_1 LibCode.Exception.Init0.at_4 (fun x hx => h x (by simp [Bundle.npeArmAtoms, hx]))
  have hfound : s.vm.findClass Bundle.nN = some P1.m.cls := findClass_of_methodNamed hP1m
  have ecls : N.cN = P1.m.cls := Option.some.inj (hcN.symm.trans hfound)
  have hk : s.vm.classes[P1.m.cls]? = some N.kN := by rw [← ecls]; exact LN.cls
  have hinit := Cond.initialized_spec hfound hk (a' (.initialized Bundle.nN) (by simp [Bundle.npeArmAtoms]))
  have hctor : N.kN.findMethod "<init>" "()V" = some P1.m.idx := findMethod_of_methodNamed hP1m hk
  obtain ⟨c1, k1, hc1, hk1, -, -, -, hn⟩ := Cond.instantiable_spec (a' (.instantiable Bundle.nN n) (by simp [Bundle.npeArmAtoms]))
  cases Option.some.inj (hc1.symm.trans hfound)
  cases Option.some.inj (hk1.symm.trans hk)
  have hfsz : (freshCell P1.m.cls N.kN).slots.size = n := by simp [hn]
  have hlink1 : P1.sup = PR.m := Option.some.inj (hP1s.symm.trans hPRm)
  have hlinkR : PR.sup = PE.m := Option.some.inj (hPRs.symm.trans hPEm)
  have hlinkE : PE.sup = Z.m T.toThrowableT := Option.some.inj (hPEs.symm.trans Y.init0)
  have hLs : ∀ P, P ∈ [PR, PE] → P.Links0 e.platform s := fun P hP => by
    simp only [List.mem_cons, List.not_mem_nil, or_false] at hP
    rcases hP with rfl | rfl
    · exact LR
    · exact LEx
  have hsel0 : selectMethod e.platform s.vm P1.m.cls T.fill0 = .method T.fill0 := by
    obtain ⟨c2, r2, m2, q1, q2, q3, q4, -⟩ := Cond.selects_spec (a' (.selects Bundle.nN Bundle.tFill0 Bundle.tFill0) (by simp [Bundle.npeArmAtoms]))
    cases Option.some.inj (q1.symm.trans hfound)
    cases Option.some.inj (q2.symm.trans (State.methodFound?_of_named Y.fill0 (by decide)))
    cases Option.some.inj (q3.symm.trans Y.fill0)
    rw [Launch.admits_selectMethod X.admits]; exact q4
  have hselF : selectMethod e.platform s.vm P1.m.cls T.fill = .method N.fill := by
    obtain ⟨c2, r2, m2, q1, q2, q3, q4, -⟩ := Cond.selects_spec (a' (.selects Bundle.nN Bundle.tFill Bundle.nFill) (by simp [Bundle.npeArmAtoms]))
    cases Option.some.inj (q1.symm.trans hfound)
    cases Option.some.inj (q2.symm.trans (State.methodFound?_of_named Y.fill (by decide)))
    cases Option.some.inj (q3.symm.trans hnNF)
    rw [Launch.admits_selectMethod X.admits]; exact q4
  obtain ⟨cellS0, hcS0, hiss⟩ := Y.statics
  obtain ⟨u0, hu0⟩ := Cond.staticRefV Y.unassigned L.unassignedStatic L.statics hcS0 hiss (a' (.isRef (.static Bundle.tN "UNASSIGNED_STACK" Bundle.steD)) (by simp [Bundle.npeArmAtoms]))
  obtain ⟨sen, hsen⟩ := Cond.staticRefV Y.sentinel L.sentinelStatic L.statics hcS0 hiss (a' (.isRef (.static Bundle.tN "SUPPRESSED_SENTINEL" Bundle.listD)) (by simp [Bundle.npeArmAtoms]))
  obtain ⟨ci198, i198, fB, hk198, hg198, ha198, hsB, -, hnB, htB, hffB⟩ := Cond.ownField (t := .object "java/lang/Object") Y.found L.cls (by decide +kernel) (a' (.fieldLink Bundle.tN 198 Bundle.tN "backtrace" Bundle.objD) (by simp [Bundle.npeArmAtoms])) (a' (.lays Bundle.tN Bundle.tN "backtrace" Bundle.objD) (by simp [Bundle.npeArmAtoms])) e.platform hpl
  obtain ⟨cellS, hcS', heS, -, hkeep⟩ := X.same.2.2.2.2.2 T.aS cellS0 hcS0
  have hcellS : W.heap[T.aS]? = some cellS := hcS'
  have hout' : ∀ i, (⟨T.aS, i⟩ : Loc) ∉ locs := fun i hmem => by
    have := hlocs _ hmem cellS0 hcS0
    rw [hiss] at this; cases this
  have hknownS : cellS.vm ≠ .unknown := by
    rw [heS]; intro hu
    rw [show cellS0.vm = .unknown from hu] at hiss
    cases hiss
  have hvU : cellS.slots[T.fUnassigned.slot]? = some u0.v := by rw [hkeep _ (hout' _)]; exact hu0
  have hvSen : cellS.slots[T.fSentinel.slot]? = some sen.v := by rw [hkeep _ (hout' _)]; exact hsen
  obtain ⟨tyC, dC, hdC, hdnC⟩ := Cond.laysAt hfound hk Y.cause (a' (.lays Bundle.nN Bundle.tN "cause" "Ljava/lang/Throwable;") (by simp [Bundle.npeArmAtoms]))
  obtain ⟨tyS, dS, hdS, hdnS⟩ := Cond.laysAt hfound hk Y.stack (a' (.lays Bundle.nN Bundle.tN "stackTrace" Bundle.steD) (by simp [Bundle.npeArmAtoms]))
  obtain ⟨tyP, dP, hdP, hdnP⟩ := Cond.laysAt hfound hk Y.supp (a' (.lays Bundle.nN Bundle.tN "suppressedExceptions" Bundle.listD) (by simp [Bundle.npeArmAtoms]))
  obtain ⟨tyX, dX, hdX, hdnX⟩ := Cond.laysAt hfound hk hffS (a' (.lays Bundle.nN Bundle.nN "extendedMessageState" "I") (by simp [Bundle.npeArmAtoms, Bundle.npeAtoms]))
  obtain ⟨hnX, htX⟩ := State.fieldFound?_type hffS (t := .int) (by decide +kernel)
  have xC := Cond.laysApart hdC hdX hdnC hdnX (by rw [hnX, Y.causeName]; decide)
  have xS := Cond.laysApart hdS hdX hdnS hdnX (by rw [hnX, Y.stackName]; decide)
  have xP := Cond.laysApart hdP hdX hdnP hdnX (by rw [hnX, Y.suppName]; decide)
  have hv0 : (freshCell P1.m.cls N.kN).slots[N.fState.slot]? = some (.int 0) := by
    have := fresh_default (c := P1.m.cls) tyX
    rw [htX] at this; exact this
  obtain ⟨tyB, dB, hdB, hdnB⟩ := Cond.laysAt hfound hk hffB (a' (.lays Bundle.nN Bundle.tN "backtrace" Bundle.objD) (by simp [Bundle.npeArmAtoms]))
  have bC := Cond.laysApart hdB hdC hdnB hdnC (by rw [hnB, Y.causeName]; decide)
  have bS := Cond.laysApart hdB hdS hdnB hdnS (by rw [hnB, Y.stackName]; decide)
  have bP := Cond.laysApart hdB hdP hdnB hdnP (by rw [hnB, Y.suppName]; decide)
  have bX := Cond.laysApart hdB hdX hdnB hdnX (by rw [hnB, hnX]; decide)
  have hbk : ((npeCell N.toNpeT (preparedCellV T.toThrowableT (freshCell P1.m.cls N.kN) W.heap.size u0 sen) W.cur).withEntry W.cur).slots[fB.slot]? = some .null := by
    have := fresh_default (c := P1.m.cls) tyB
    rw [htB] at this
    simpa [npeCell, preparedCellV, Cell.setSlot, Cell.withEntry, Array.getElem?_setIfInBounds, bC, bS, bP, bX, bC.symm, bS.symm, bP.symm, bX.symm, defaultValue] using this
  have tkC := Takes.of_laid (v := .ref W.heap.size) hk hordN tyC (by rw [Y.causeType]; rfl)
  have tkS := Takes.of_laid (v := u0.v) hk hordN tyS (by rw [Y.stackType]; exact fits_refV_array _ u0)
  have tkP := Takes.of_laid (v := sen.v) hk hordN tyP (by rw [Y.suppType]; exact fits_refV_object _ sen)
  have tkX := Takes.of_laid (v := .int 1) hk hordN tyX (by rw [htX]; rfl)
  have hskip : SkipFacts T e.platform s (fun u => u) u0 ((npeCell N.toNpeT (preparedCellV T.toThrowableT (freshCell P1.m.cls N.kN) W.heap.size u0 sen) W.cur).withEntry W.cur) := ⟨{ ci198 := ci198, i198 := i198, fBack := fB }, ⟨hk198, hg198, ha198, hsB⟩, hbk, fun _ _ => rfl⟩
  obtain ⟨vm', X3, st, -⟩ := X.throwsNpeColdBareVAt hexec hg hsize T L Z LZ N LN P1 L1 [PR, PE] hLs hlink1 ⟨hlinkR, hlinkE, trivial⟩ hfound hk hinit hordN hctor hsel0 hselF hcellS hknownS hvU hvSen
    hv0 xC xS xP tkC tkS tkP tkX Y.objLocals hskip (fun _ _ hA hW _ hroom _ hrest => L.nativeOff p htr hA hW hroom hrest) (by simpa using hRframes) hRlocals (by simp) hRcells (by rw [hn]; exact hRslots)
  have hlt : W.heap.size < ((W.pushCell (freshCell P1.m.cls N.kN)).setVm vm').heap.size := by
    show W.heap.size < (W.pushCell (freshCell P1.m.cls N.kN)).heap.size
    rw [State.heap_size_pushCell]; omega
  rw [hfsz] at X3
  obtain ⟨g₁, hfrM⟩ := X3.frames_eq
  have hU : ((((W.pushCell (freshCell P1.m.cls N.kN)).setVm vm').setCell W.heap.size (npeBareV T.toThrowableT N.toNpeT (freshCell P1.m.cls N.kN) W.heap.size u0 sen)).setTop g).pushFrame (.throwing W.heap.size) = (((W.pushCell (freshCell P1.m.cls N.kN)).setVm vm').setCell W.heap.size (npeBareV T.toThrowableT N.toNpeT (freshCell P1.m.cls N.kN) W.heap.size u0 sen)).setFrames (.throwing W.heap.size :: .java g :: below) := by
    rw [State.pushFrame, State.frames_setTop _ hfrM, State.setTop_of_frames _ hfrM, State.setFrames_setFrames]
  refine ⟨_, W.heap.size, _, fun target ht => st.trans (by rw [← hU]; exact ht), X3.forget (fun y hy => ?_), heapAt_setCell_self _ hlt, hfound, rfl⟩
  simp only [List.mem_cons, List.not_mem_nil, or_false] at hy
  have hge : s.heap.size ≤ W.heap.size := X.same.2.1
  rcases hy with rfl | rfl | rfl | rfl | rfl <;> exact hge
/-- the words of a machine's NullPointerException, but the four that speak of the heap -/
def vx_atN (n : Nat) : List Cond := (Bundle.npeArmAtoms n).filter vx_no
/-- the words of a machine's throw with a message, but the four that speak of the heap -/
def vx_atM (X : String) (names : List String) : List Cond := (Bundle.messageArmAtoms X names).filter vx_no
section
variable {p : Program} {l : Launch} {e : Env} {R : Room} {s : State} {m : MethodId} {args : Array Value} {below : List Frame} {meth : Method} {c : Code} {H : Heap} {locs : List Loc} {cells slots : Nat}
/-- a frame seen from a rebased start, seen from the first start again -/
theorem vx_back9 {T S : State} {R' : Room} {k n : Nat} (X : Stand p l e R s m args below meth c T locs cells slots) (Y : Stand p l e R' ((T.setVm s.vm).setFrames (.invoking m args :: below)) m args below meth c T [] 0 0) (Z : Stand p l e R' ((T.setVm s.vm).setFrames (.invoking m args :: below)) m args below meth c S [] k n) :
    Stand p l e R s m args below meth c S locs (cells + k) (slots + n) := by
  have hW0 : s.WarmedH ((T.setVm s.vm).setFrames (.invoking m args :: below)).vm := State.WarmedH.refl s
  refine { admits := X.admits, cas := X.cas, clock := X.clock, frames := X.frames, room := X.room, hears := X.hears, method := X.method, code := X.code, here := Z.here, tail := Z.tail, warmed := State.WarmedH.trans hW0 Z.warmed, limits := Z.limits.trans (Y.limits.symm.trans X.limits), bytes := Z.bytes.trans (Y.bytes.symm.trans X.bytes), same := ?_ }
  obtain ⟨e1, e2⟩ := Z.same
  rw [State.setFrames_setFrames] at e1
  have h2 : (T.setVm s.vm).sameButNew (S.setVm s.vm) [] k n := ⟨e1, e2⟩
  have h3 := X.same.trans h2
  rw [List.append_nil] at h3
  exact h3
/-- from the machine's note that E is thrown here with this text -/
def vx_Note (p : Program) (l : Launch) (e : Env) (R : Room) (s : State) (m : MethodId) (args : Array Value) (below : List Frame) (meth : Method) (c : Code) (H : Heap) (locs : List Loc) (cells slots : Nat) (Q : State → Prop) (g : JFrame) (E text : String) : Prop :=
  ∀ T : State, T.heap = H → Stand p l e R s m args below meth c T locs cells slots → ∃ t, Steps p.tables e below ((T.setTop g).pushFrame (.throwNew E (some text) none)) t ∧ Q t
theorem vx_vm {pc : Nat} {ls : Array Slot} {rest : List Value} {Q : State → Prop} (hexec : p.tables.exec = Jvm.exec) (hl : l.stackTraces = false) {cls text : String} {names : List String} {nb : Nat} {A : Nat → Prop}
    (hcls : Bundle.fit cls = true) (hnames : ∀ n ∈ names, Bundle.fit n = true) (hsoe : (cls == "java/lang/StackOverflowError") = false) (hoom : (cls == "java/lang/OutOfMemoryError") = false)
    (hat : ∀ w ∈ vx_atM cls names, w.before args s = true) (hgood : ∀ w ∈ vx_atM cls names, vx_ot w = true)
    (hU : vx_Zq Bundle.tN "UNASSIGNED_STACK" Bundle.steD A s s.heap) (hN : vx_Zq Bundle.tN "SUPPRESSED_SENTINEL" Bundle.listD A s s.heap) (hS : va_S A s.heap H locs) (hsize : ls.size = c.maxLocals)
    (htext : (text == notModelled) = false) (hnb : (stringBytes (stringToUtf16 text)).size ≤ nb) (hnb1 : nb ≤ 1000)
    (hRframes : names.length + 4 < R.frames) (hRlocals : (rest.map fun v => v.category).sum + 10240 ≤ R.locals) (hshort : 13 * names.length + 55 ≤ 10240) (hRcells : cells + 3 ≤ R.cells) (hRslots : slots + (nb + 10) ≤ R.slots) (hlocks : meth.locks = false)
    (k : ∀ (H1 : Heap) (q9 : Addr) (ce : Cell), H.size ≤ H1.size → (∀ q : Nat, q < H.size → H1[q]? = H[q]?) → va_S A s.heap H1 locs → H1[q9]? = some ce → ce.vm = .none → s.vm.findClass cls = some ce.cls → vx_W p l e R s m args below meth c H1 locs (cells + 3) (slots + (nb + 10)) Q (F0 m pc ls rest) q9) :
    vx_Note p l e R s m args below meth c H locs cells slots Q (F0 m pc ls rest) cls text := by
  intro T hT X
  have htr : e.platform.stackTraces = false := (show e.platform.stackTraces = l.stackTraces by rw [X.admits.platform]).trans hl
  have Y := vx_rebase X (R' := { frames := R.frames, locals := R.locals, cells := 3, slots := nb + 10 }) (Nat.le_refl _) (Nat.le_refl _) hRcells hRslots
  have hhp : ((T.setVm s.vm).setFrames (.invoking m args :: below)).heap = H := hT
  have hW0 : s.WarmedH ((T.setVm s.vm).setFrames (.invoking m args :: below)).vm := State.WarmedH.refl s
  have hat' : ∀ w ∈ vx_atM cls names, w.before args ((T.setVm s.vm).setFrames (.invoking m args :: below)) = true := fun w hw => vx_ot_at hW0 rfl (hgood w hw) (hat w hw)
  have hU' : vx_Zq Bundle.tN "UNASSIGNED_STACK" Bundle.steD A ((T.setVm s.vm).setFrames (.invoking m args :: below)) ((T.setVm s.vm).setFrames (.invoking m args :: below)).heap := by rw [hhp]; exact vx_Zq.moved hW0.alike (hU.kept hS.2.1)
  have hN' : vx_Zq Bundle.tN "SUPPRESSED_SENTINEL" Bundle.listD A ((T.setVm s.vm).setFrames (.invoking m args :: below)) ((T.setVm s.vm).setFrames (.invoking m args :: below)).heap := by rw [hhp]; exact vx_Zq.moved hW0.alike (hN.kept hS.2.1)
  obtain ⟨S, q, ce, st, Z, hce, hcl', hv⟩ := vx_vmAt Y hexec htr (cls := cls) (names := names) (text := text) hcls hnames hsoe hoom (vx_own hat' (vx_isRefq hU'.1) (vx_isRefq hN'.1) hU'.2.word hN'.2.word) (fun x hx => nomatch hx) htext
    (by rw [Launch.admits_arrayLengthLimit X.admits]; omega) (by rw [Launch.admits_maxHeapBytes X.admits]; simp only [componentBytes]; omega)
    (g := F0 m pc ls rest) rfl hsize hRframes (by show 2 * 0 + (rest.map fun v => v.category).sum + 10240 ≤ R.locals; omega) hshort (by show 0 + 3 ≤ 3; omega) (by show 0 + (_ + 4 + 6) ≤ nb + 10; omega) hlocks
  obtain ⟨f1, f2⟩ := vx_frame Z.same
  have f1' : H.size ≤ S.heap.size := by rw [← hT]; exact f1
  have f2' : ∀ q : Nat, q < H.size → S.heap[q]? = H[q]? := fun q hq => by
    rw [← hT]
    exact f2 q (by rw [← hT] at hq; exact hq) (fun z hz => nomatch hz)
  have X5 := vx_back9 X Y Z
  have X6 : Stand p l e R s m args below meth c S locs (cells + 3) (slots + (nb + 10)) := { X5 with same := X5.same.mono (by omega) (by omega) }
  obtain ⟨t, a1, b1⟩ := k S.heap q ce f1' f2' ⟨Nat.le_trans hS.1 f1', fun q h1 h2 => (f2' q (Nat.lt_of_lt_of_le h1 hS.1)).trans (hS.2.1 q h1 h2), hS.2.2⟩ hce hv hcl' S rfl X6
  exact ⟨t, st t a1, b1⟩
/-- from the machine's note that NullPointerException is thrown here -/
def vx_NoteN (p : Program) (l : Launch) (e : Env) (R : Room) (s : State) (m : MethodId) (args : Array Value) (below : List Frame) (meth : Method) (c : Code) (H : Heap) (locs : List Loc) (cells slots : Nat) (Q : State → Prop) (g : JFrame) : Prop :=
  ∀ T : State, T.heap = H → Stand p l e R s m args below meth c T locs cells slots → ∃ t, Steps p.tables e below ((T.setTop g).pushFrame (.throwNew "java/lang/NullPointerException" none none)) t ∧ Q t
theorem vx_npe {pc : Nat} {ls : Array Slot} {rest : List Value} {Q : State → Prop} (hexec : p.tables.exec = Jvm.exec) (hl : l.stackTraces = false) {nb : Nat} {A : Nat → Prop}
    (hat : ∀ w ∈ vx_atN nb, w.before args s = true) (hgood : ∀ w ∈ vx_atN nb, vx_ot w = true)
    (hU : vx_Zq Bundle.tN "UNASSIGNED_STACK" Bundle.steD A s s.heap) (hN : vx_Zq Bundle.tN "SUPPRESSED_SENTINEL" Bundle.listD A s s.heap) (hS : va_S A s.heap H locs) (hsize : ls.size = c.maxLocals)
    (hRframes : 7 < R.frames) (hRlocals : (rest.map fun v => v.category).sum + 10240 ≤ R.locals) (hRcells : cells + 1 ≤ R.cells) (hRslots : slots + nb ≤ R.slots) (hlocks : meth.locks = false)
    (k : ∀ (H1 : Heap) (q9 : Addr) (ce : Cell), H.size ≤ H1.size → (∀ q : Nat, q < H.size → H1[q]? = H[q]?) → va_S A s.heap H1 locs → H1[q9]? = some ce → ce.vm = .none → s.vm.findClass "java/lang/NullPointerException" = some ce.cls → vx_W p l e R s m args below meth c H1 locs (cells + 1) (slots + nb) Q (F0 m pc ls rest) q9) :
    vx_NoteN p l e R s m args below meth c H locs cells slots Q (F0 m pc ls rest) := by
  intro T hT X
  have htr : e.platform.stackTraces = false := (show e.platform.stackTraces = l.stackTraces by rw [X.admits.platform]).trans hl
  have Y := vx_rebase X (R' := { frames := R.frames, locals := R.locals, cells := 1, slots := nb }) (Nat.le_refl _) (Nat.le_refl _) hRcells hRslots
  have hhp : ((T.setVm s.vm).setFrames (.invoking m args :: below)).heap = H := hT
  have hW0 : s.WarmedH ((T.setVm s.vm).setFrames (.invoking m args :: below)).vm := State.WarmedH.refl s
  have hat' : ∀ w ∈ vx_atN nb, w.before args ((T.setVm s.vm).setFrames (.invoking m args :: below)) = true := fun w hw => vx_ot_at hW0 rfl (hgood w hw) (hat w hw)
  have hU' : vx_Zq Bundle.tN "UNASSIGNED_STACK" Bundle.steD A ((T.setVm s.vm).setFrames (.invoking m args :: below)) ((T.setVm s.vm).setFrames (.invoking m args :: below)).heap := by rw [hhp]; exact vx_Zq.moved hW0.alike (hU.kept hS.2.1)
  have hN' : vx_Zq Bundle.tN "SUPPRESSED_SENTINEL" Bundle.listD A ((T.setVm s.vm).setFrames (.invoking m args :: below)) ((T.setVm s.vm).setFrames (.invoking m args :: below)).heap := by rw [hhp]; exact vx_Zq.moved hW0.alike (hN.kept hS.2.1)
  obtain ⟨S, q, ce, st, Z, hce, hcl', hv⟩ := vx_npeAt Y hexec htr (n := nb) (vx_own hat' (vx_isRefq hU'.1) (vx_isRefq hN'.1) hU'.2.word hN'.2.word) (fun x hx => nomatch hx)
    (g := F0 m pc ls rest) rfl hsize hRframes (by show 2 * 0 + (rest.map fun v => v.category).sum + 10240 ≤ R.locals; omega) (by show 0 + 1 ≤ 1; omega) (by show 0 + nb ≤ nb; omega) hlocks
  obtain ⟨f1, f2⟩ := vx_frame Z.same
  have f1' : H.size ≤ S.heap.size := by rw [← hT]; exact f1
  have f2' : ∀ q : Nat, q < H.size → S.heap[q]? = H[q]? := fun q hq => by
    rw [← hT]
    exact f2 q (by rw [← hT] at hq; exact hq) (fun z hz => nomatch hz)
  have X5 := vx_back9 X Y Z
  have X6 : Stand p l e R s m args below meth c S locs (cells + 1) (slots + nb) := { X5 with same := X5.same.mono (by omega) (by omega) }
  obtain ⟨t, a1, b1⟩ := k S.heap q ce f1' f2' ⟨Nat.le_trans hS.1 f1', fun q h1 h2 => (f2' q (Nat.lt_of_lt_of_le h1 hS.1)).trans (hS.2.1 q h1 h2), hS.2.2⟩ hce hv hcl' S rfl X6
  exact ⟨t, st t a1, b1⟩
variable {Q : State → Prop} {cc : ByteArray} {pc : Nat} {ls : Array Slot} {rest : List Value}
theorem vx_idivZ (hexec : p.tables.exec = Jvm.exec) (hb : c.code = cc) {a b : Int32} (h0 : b = 0) (d : decode cc pc = .ok (.idiv, 1)) (k : vx_Note p l e R s m args below meth c H locs cells slots Q (F0 m pc ls rest) "java/lang/ArithmeticException" "/ by zero") :
    W p l e R s m args below meth c H locs cells slots Q (F0 m pc ls (.int b :: .int a :: rest)) := by
  intro T hT X
  obtain ⟨t, st, q⟩ := k T hT X
  exact ⟨t, X.idivZero hexec (g := F0 m pc ls (.int b :: .int a :: rest)) rfl (a := a) (rest := rest) (by rw [h0]) (by rw [hb]; exact d) t st, q⟩
theorem vx_iremZ (hexec : p.tables.exec = Jvm.exec) (hb : c.code = cc) {a b : Int32} (h0 : b = 0) (d : decode cc pc = .ok (.irem, 1)) (k : vx_Note p l e R s m args below meth c H locs cells slots Q (F0 m pc ls rest) "java/lang/ArithmeticException" "/ by zero") :
    W p l e R s m args below meth c H locs cells slots Q (F0 m pc ls (.int b :: .int a :: rest)) := by
  intro T hT X
  obtain ⟨t, st, q⟩ := k T hT X
  exact ⟨t, X.iremZero hexec (g := F0 m pc ls (.int b :: .int a :: rest)) rfl (a := a) (rest := rest) (by rw [h0]) (by rw [hb]; exact d) t st, q⟩
theorem vx_ldivZ (hexec : p.tables.exec = Jvm.exec) (hb : c.code = cc) {a b : Int64} (h0 : b = 0) (d : decode cc pc = .ok (.ldiv, 1)) (k : vx_Note p l e R s m args below meth c H locs cells slots Q (F0 m pc ls rest) "java/lang/ArithmeticException" "/ by zero") :
    W p l e R s m args below meth c H locs cells slots Q (F0 m pc ls (.long b :: .long a :: rest)) := by
  intro T hT X
  obtain ⟨t, st, q⟩ := k T hT X
  exact ⟨t, X.ldivZero hexec (g := F0 m pc ls (.long b :: .long a :: rest)) rfl (a := a) (rest := rest) (by rw [h0]) (by rw [hb]; exact d) t st, q⟩
theorem vx_lremZ (hexec : p.tables.exec = Jvm.exec) (hb : c.code = cc) {a b : Int64} (h0 : b = 0) (d : decode cc pc = .ok (.lrem, 1)) (k : vx_Note p l e R s m args below meth c H locs cells slots Q (F0 m pc ls rest) "java/lang/ArithmeticException" "/ by zero") :
    W p l e R s m args below meth c H locs cells slots Q (F0 m pc ls (.long b :: .long a :: rest)) := by
  intro T hT X
  obtain ⟨t, st, q⟩ := k T hT X
  exact ⟨t, X.lremZero hexec (g := F0 m pc ls (.long b :: .long a :: rest)) rfl (a := a) (rest := rest) (by rw [h0]) (by rw [hb]; exact d) t st, q⟩
theorem vx_ialdZ {D : va_G} {cl : List vw_C} {ws : va_W} {tys : List (ClassId × FieldType)} {a : Nat} (hexec : p.tables.exec = Jvm.exec) (hb : c.code = cc) (hK : va_K D cl tys s) (hP : va_P D cl ws H) (q0 t0 : Nat) {cA : ClassId} {n : Nat} {f : Nat → Int32} (ha : ws[q0]? = some (a, .inl (cA, n, .inl f))) (ht : tys[t0]? = some (cA, .int)) {i : Int32} (hout : ¬ vp_in i n) (hdg : decode cc pc = .ok (.iaload, 1))
    (k : ∀ tx : String, tx = (toString "Index " ++ toString i ++ toString " out of bounds for length " ++ toString n : String) → vx_Note p l e R s m args below meth c H locs cells slots Q (F0 m pc ls rest) "java/lang/ArrayIndexOutOfBoundsException" tx) : W p l e R s m args below meth c H locs cells slots Q (F0 m pc ls (.int i :: .ref a :: rest)) := by
  intro T hT X
  obtain ⟨t, st, q⟩ := k _ rfl T hT X
  refine ⟨t, ?_, q⟩
  have h1 := X.ialoadOut hexec (by rw [hT]; exact hP q0 _ ha) ((hK.2 t0 _ ht).1 n (fun j => .int (f j))) (j := i) (by show (i < 0 ∨ (arrV _ _ _).slots.size ≤ _); rw [arrV_size]; exact Classical.byContradiction hout) (g := F0 m pc ls (.int i :: .ref a :: rest)) rfl (rest := rest) rfl (by rw [hb]; exact hdg) t
  simp only [arrV_size] at h1
  exact h1 st
theorem vx_iastZ {D : va_G} {cl : List vw_C} {ws : va_W} {tys : List (ClassId × FieldType)} {a : Nat} (hexec : p.tables.exec = Jvm.exec) (hb : c.code = cc) (hK : va_K D cl tys s) (hP : va_P D cl ws H) (q0 t0 : Nat) {cA : ClassId} {n : Nat} {f : Nat → Int32} (ha : ws[q0]? = some (a, .inl (cA, n, .inl f))) (ht : tys[t0]? = some (cA, .int)) {i : Int32} {x : Int32} (hout : ¬ vp_in i n) (hdg : decode cc pc = .ok (.iastore, 1))
    (k : ∀ tx : String, tx = (toString "Index " ++ toString i ++ toString " out of bounds for length " ++ toString n : String) → vx_Note p l e R s m args below meth c H locs cells slots Q (F0 m pc ls rest) "java/lang/ArrayIndexOutOfBoundsException" tx) : W p l e R s m args below meth c H locs cells slots Q (F0 m pc ls (.int x :: .int i :: .ref a :: rest)) := by
  intro T hT X
  obtain ⟨t, st, q⟩ := k _ rfl T hT X
  refine ⟨t, ?_, q⟩
  have h1 := X.iastoreOut hexec (by rw [hT]; exact hP q0 _ ha) ((hK.2 t0 _ ht).1 n (fun j => .int (f j))) (j := i) (by show (i < 0 ∨ (arrV _ _ _).slots.size ≤ _); rw [arrV_size]; exact Classical.byContradiction hout) (g := F0 m pc ls (.int x :: .int i :: .ref a :: rest)) rfl (rest := rest) rfl (by rw [hb]; exact hdg) t
  simp only [arrV_size] at h1
  exact h1 st
theorem vx_baldZ {D : va_G} {cl : List vw_C} {ws : va_W} {tys : List (ClassId × FieldType)} {a : Nat} (hexec : p.tables.exec = Jvm.exec) (hb : c.code = cc) (hK : va_K D cl tys s) (hP : va_P D cl ws H) (q0 t0 : Nat) {cA : ClassId} {n : Nat} {f : Nat → Int32} (ha : ws[q0]? = some (a, .inl (cA, n, .inl f))) (ht : tys[t0]? = some (cA, .byte)) {i : Int32} (hout : ¬ vp_in i n) (hdg : decode cc pc = .ok (.baload, 1))
    (k : ∀ tx : String, tx = (toString "Index " ++ toString i ++ toString " out of bounds for length " ++ toString n : String) → vx_Note p l e R s m args below meth c H locs cells slots Q (F0 m pc ls rest) "java/lang/ArrayIndexOutOfBoundsException" tx) : W p l e R s m args below meth c H locs cells slots Q (F0 m pc ls (.int i :: .ref a :: rest)) := by
  intro T hT X
  obtain ⟨t, st, q⟩ := k _ rfl T hT X
  refine ⟨t, ?_, q⟩
  have h1 := X.baloadOut hexec (by rw [hT]; exact hP q0 _ ha) ((hK.2 t0 _ ht).1 n (fun j => .int (f j))) (j := i) (by show (i < 0 ∨ (arrV _ _ _).slots.size ≤ _); rw [arrV_size]; exact Classical.byContradiction hout) (g := F0 m pc ls (.int i :: .ref a :: rest)) rfl (rest := rest) rfl (by rw [hb]; exact hdg) t
  simp only [arrV_size] at h1
  exact h1 st
theorem vx_bastZ {D : va_G} {cl : List vw_C} {ws : va_W} {tys : List (ClassId × FieldType)} {a : Nat} (hexec : p.tables.exec = Jvm.exec) (hb : c.code = cc) (hK : va_K D cl tys s) (hP : va_P D cl ws H) (q0 t0 : Nat) {cA : ClassId} {n : Nat} {f : Nat → Int32} (ha : ws[q0]? = some (a, .inl (cA, n, .inl f))) (ht : tys[t0]? = some (cA, .byte)) {i : Int32} {x : Int32} (hout : ¬ vp_in i n) (hdg : decode cc pc = .ok (.bastore, 1))
    (k : ∀ tx : String, tx = (toString "Index " ++ toString i ++ toString " out of bounds for length " ++ toString n : String) → vx_Note p l e R s m args below meth c H locs cells slots Q (F0 m pc ls rest) "java/lang/ArrayIndexOutOfBoundsException" tx) : W p l e R s m args below meth c H locs cells slots Q (F0 m pc ls (.int x :: .int i :: .ref a :: rest)) := by
  intro T hT X
  obtain ⟨t, st, q⟩ := k _ rfl T hT X
  refine ⟨t, ?_, q⟩
  have h1 := X.bastoreOut hexec (by rw [hT]; exact hP q0 _ ha) ((hK.2 t0 _ ht).1 n (fun j => .int (f j))) (j := i) (by show (i < 0 ∨ (arrV _ _ _).slots.size ≤ _); rw [arrV_size]; exact Classical.byContradiction hout) (g := F0 m pc ls (.int x :: .int i :: .ref a :: rest)) rfl (rest := rest) rfl (by rw [hb]; exact hdg) t
  simp only [arrV_size] at h1
  exact h1 st
theorem vx_zaldZ {D : va_G} {cl : List vw_C} {ws : va_W} {tys : List (ClassId × FieldType)} {a : Nat} (hexec : p.tables.exec = Jvm.exec) (hb : c.code = cc) (hK : va_K D cl tys s) (hP : va_P D cl ws H) (q0 t0 : Nat) {cA : ClassId} {n : Nat} {f : Nat → Int32} (ha : ws[q0]? = some (a, .inl (cA, n, .inl f))) (ht : tys[t0]? = some (cA, .boolean)) {i : Int32} (hout : ¬ vp_in i n) (hdg : decode cc pc = .ok (.baload, 1))
    (k : ∀ tx : String, tx = (toString "Index " ++ toString i ++ toString " out of bounds for length " ++ toString n : String) → vx_Note p l e R s m args below meth c H locs cells slots Q (F0 m pc ls rest) "java/lang/ArrayIndexOutOfBoundsException" tx) : W p l e R s m args below meth c H locs cells slots Q (F0 m pc ls (.int i :: .ref a :: rest)) := by
  intro T hT X
  obtain ⟨t, st, q⟩ := k _ rfl T hT X
  refine ⟨t, ?_, q⟩
  have h1 := X.baloadOut hexec (by rw [hT]; exact hP q0 _ ha) ((hK.2 t0 _ ht).1 n (fun j => .int (f j))) (j := i) (by show (i < 0 ∨ (arrV _ _ _).slots.size ≤ _); rw [arrV_size]; exact Classical.byContradiction hout) (g := F0 m pc ls (.int i :: .ref a :: rest)) rfl (rest := rest) rfl (by rw [hb]; exact hdg) t
  simp only [arrV_size] at h1
  exact h1 st
theorem vx_zastZ {D : va_G} {cl : List vw_C} {ws : va_W} {tys : List (ClassId × FieldType)} {a : Nat} (hexec : p.tables.exec = Jvm.exec) (hb : c.code = cc) (hK : va_K D cl tys s) (hP : va_P D cl ws H) (q0 t0 : Nat) {cA : ClassId} {n : Nat} {f : Nat → Int32} (ha : ws[q0]? = some (a, .inl (cA, n, .inl f))) (ht : tys[t0]? = some (cA, .boolean)) {i : Int32} {x : Int32} (hout : ¬ vp_in i n) (hdg : decode cc pc = .ok (.bastore, 1))
    (k : ∀ tx : String, tx = (toString "Index " ++ toString i ++ toString " out of bounds for length " ++ toString n : String) → vx_Note p l e R s m args below meth c H locs cells slots Q (F0 m pc ls rest) "java/lang/ArrayIndexOutOfBoundsException" tx) : W p l e R s m args below meth c H locs cells slots Q (F0 m pc ls (.int x :: .int i :: .ref a :: rest)) := by
  intro T hT X
  obtain ⟨t, st, q⟩ := k _ rfl T hT X
  refine ⟨t, ?_, q⟩
  have h1 := X.bastoreOut hexec (by rw [hT]; exact hP q0 _ ha) ((hK.2 t0 _ ht).1 n (fun j => .int (f j))) (j := i) (by show (i < 0 ∨ (arrV _ _ _).slots.size ≤ _); rw [arrV_size]; exact Classical.byContradiction hout) (g := F0 m pc ls (.int x :: .int i :: .ref a :: rest)) rfl (rest := rest) rfl (by rw [hb]; exact hdg) t
  simp only [arrV_size] at h1
  exact h1 st
theorem vx_caldZ {D : va_G} {cl : List vw_C} {ws : va_W} {tys : List (ClassId × FieldType)} {a : Nat} (hexec : p.tables.exec = Jvm.exec) (hb : c.code = cc) (hK : va_K D cl tys s) (hP : va_P D cl ws H) (q0 t0 : Nat) {cA : ClassId} {n : Nat} {f : Nat → Int32} (ha : ws[q0]? = some (a, .inl (cA, n, .inl f))) (ht : tys[t0]? = some (cA, .char)) {i : Int32} (hout : ¬ vp_in i n) (hdg : decode cc pc = .ok (.caload, 1))
    (k : ∀ tx : String, tx = (toString "Index " ++ toString i ++ toString " out of bounds for length " ++ toString n : String) → vx_Note p l e R s m args below meth c H locs cells slots Q (F0 m pc ls rest) "java/lang/ArrayIndexOutOfBoundsException" tx) : W p l e R s m args below meth c H locs cells slots Q (F0 m pc ls (.int i :: .ref a :: rest)) := by
  intro T hT X
  obtain ⟨t, st, q⟩ := k _ rfl T hT X
  refine ⟨t, ?_, q⟩
  have h1 := X.caloadOut hexec (by rw [hT]; exact hP q0 _ ha) ((hK.2 t0 _ ht).1 n (fun j => .int (f j))) (j := i) (by show (i < 0 ∨ (arrV _ _ _).slots.size ≤ _); rw [arrV_size]; exact Classical.byContradiction hout) (g := F0 m pc ls (.int i :: .ref a :: rest)) rfl (rest := rest) rfl (by rw [hb]; exact hdg) t
  simp only [arrV_size] at h1
  exact h1 st
theorem vx_castZ {D : va_G} {cl : List vw_C} {ws : va_W} {tys : List (ClassId × FieldType)} {a : Nat} (hexec : p.tables.exec = Jvm.exec) (hb : c.code = cc) (hK : va_K D cl tys s) (hP : va_P D cl ws H) (q0 t0 : Nat) {cA : ClassId} {n : Nat} {f : Nat → Int32} (ha : ws[q0]? = some (a, .inl (cA, n, .inl f))) (ht : tys[t0]? = some (cA, .char)) {i : Int32} {x : Int32} (hout : ¬ vp_in i n) (hdg : decode cc pc = .ok (.castore, 1))
    (k : ∀ tx : String, tx = (toString "Index " ++ toString i ++ toString " out of bounds for length " ++ toString n : String) → vx_Note p l e R s m args below meth c H locs cells slots Q (F0 m pc ls rest) "java/lang/ArrayIndexOutOfBoundsException" tx) : W p l e R s m args below meth c H locs cells slots Q (F0 m pc ls (.int x :: .int i :: .ref a :: rest)) := by
  intro T hT X
  obtain ⟨t, st, q⟩ := k _ rfl T hT X
  refine ⟨t, ?_, q⟩
  have h1 := X.castoreOut hexec (by rw [hT]; exact hP q0 _ ha) ((hK.2 t0 _ ht).1 n (fun j => .int (f j))) (j := i) (by show (i < 0 ∨ (arrV _ _ _).slots.size ≤ _); rw [arrV_size]; exact Classical.byContradiction hout) (g := F0 m pc ls (.int x :: .int i :: .ref a :: rest)) rfl (rest := rest) rfl (by rw [hb]; exact hdg) t
  simp only [arrV_size] at h1
  exact h1 st
theorem vx_saldZ {D : va_G} {cl : List vw_C} {ws : va_W} {tys : List (ClassId × FieldType)} {a : Nat} (hexec : p.tables.exec = Jvm.exec) (hb : c.code = cc) (hK : va_K D cl tys s) (hP : va_P D cl ws H) (q0 t0 : Nat) {cA : ClassId} {n : Nat} {f : Nat → Int32} (ha : ws[q0]? = some (a, .inl (cA, n, .inl f))) (ht : tys[t0]? = some (cA, .short)) {i : Int32} (hout : ¬ vp_in i n) (hdg : decode cc pc = .ok (.saload, 1))
    (k : ∀ tx : String, tx = (toString "Index " ++ toString i ++ toString " out of bounds for length " ++ toString n : String) → vx_Note p l e R s m args below meth c H locs cells slots Q (F0 m pc ls rest) "java/lang/ArrayIndexOutOfBoundsException" tx) : W p l e R s m args below meth c H locs cells slots Q (F0 m pc ls (.int i :: .ref a :: rest)) := by
  intro T hT X
  obtain ⟨t, st, q⟩ := k _ rfl T hT X
  refine ⟨t, ?_, q⟩
  have h1 := X.saloadOut hexec (by rw [hT]; exact hP q0 _ ha) ((hK.2 t0 _ ht).1 n (fun j => .int (f j))) (j := i) (by show (i < 0 ∨ (arrV _ _ _).slots.size ≤ _); rw [arrV_size]; exact Classical.byContradiction hout) (g := F0 m pc ls (.int i :: .ref a :: rest)) rfl (rest := rest) rfl (by rw [hb]; exact hdg) t
  simp only [arrV_size] at h1
  exact h1 st
theorem vx_sastZ {D : va_G} {cl : List vw_C} {ws : va_W} {tys : List (ClassId × FieldType)} {a : Nat} (hexec : p.tables.exec = Jvm.exec) (hb : c.code = cc) (hK : va_K D cl tys s) (hP : va_P D cl ws H) (q0 t0 : Nat) {cA : ClassId} {n : Nat} {f : Nat → Int32} (ha : ws[q0]? = some (a, .inl (cA, n, .inl f))) (ht : tys[t0]? = some (cA, .short)) {i : Int32} {x : Int32} (hout : ¬ vp_in i n) (hdg : decode cc pc = .ok (.sastore, 1))
    (k : ∀ tx : String, tx = (toString "Index " ++ toString i ++ toString " out of bounds for length " ++ toString n : String) → vx_Note p l e R s m args below meth c H locs cells slots Q (F0 m pc ls rest) "java/lang/ArrayIndexOutOfBoundsException" tx) : W p l e R s m args below meth c H locs cells slots Q (F0 m pc ls (.int x :: .int i :: .ref a :: rest)) := by
  intro T hT X
  obtain ⟨t, st, q⟩ := k _ rfl T hT X
  refine ⟨t, ?_, q⟩
  have h1 := X.sastoreOut hexec (by rw [hT]; exact hP q0 _ ha) ((hK.2 t0 _ ht).1 n (fun j => .int (f j))) (j := i) (by show (i < 0 ∨ (arrV _ _ _).slots.size ≤ _); rw [arrV_size]; exact Classical.byContradiction hout) (g := F0 m pc ls (.int x :: .int i :: .ref a :: rest)) rfl (rest := rest) rfl (by rw [hb]; exact hdg) t
  simp only [arrV_size] at h1
  exact h1 st
theorem vx_laldZ {D : va_G} {cl : List vw_C} {ws : va_W} {tys : List (ClassId × FieldType)} {a : Nat} (hexec : p.tables.exec = Jvm.exec) (hb : c.code = cc) (hK : va_K D cl tys s) (hP : va_P D cl ws H) (q0 t0 : Nat) {cA : ClassId} {n : Nat} {f : Nat → Int64} (ha : ws[q0]? = some (a, .inl (cA, n, .inr (.inl f)))) (ht : tys[t0]? = some (cA, .long)) {i : Int32} (hout : ¬ vp_in i n) (hdg : decode cc pc = .ok (.laload, 1))
    (k : ∀ tx : String, tx = (toString "Index " ++ toString i ++ toString " out of bounds for length " ++ toString n : String) → vx_Note p l e R s m args below meth c H locs cells slots Q (F0 m pc ls rest) "java/lang/ArrayIndexOutOfBoundsException" tx) : W p l e R s m args below meth c H locs cells slots Q (F0 m pc ls (.int i :: .ref a :: rest)) := by
  intro T hT X
  obtain ⟨t, st, q⟩ := k _ rfl T hT X
  refine ⟨t, ?_, q⟩
  have h1 := X.laloadOut hexec (by rw [hT]; exact hP q0 _ ha) ((hK.2 t0 _ ht).1 n (fun j => .long (f j))) (j := i) (by show (i < 0 ∨ (arrV _ _ _).slots.size ≤ _); rw [arrV_size]; exact Classical.byContradiction hout) (g := F0 m pc ls (.int i :: .ref a :: rest)) rfl (rest := rest) rfl (by rw [hb]; exact hdg) t
  simp only [arrV_size] at h1
  exact h1 st
theorem vx_lastZ {D : va_G} {cl : List vw_C} {ws : va_W} {tys : List (ClassId × FieldType)} {a : Nat} (hexec : p.tables.exec = Jvm.exec) (hb : c.code = cc) (hK : va_K D cl tys s) (hP : va_P D cl ws H) (q0 t0 : Nat) {cA : ClassId} {n : Nat} {f : Nat → Int64} (ha : ws[q0]? = some (a, .inl (cA, n, .inr (.inl f)))) (ht : tys[t0]? = some (cA, .long)) {i : Int32} {x : Int64} (hout : ¬ vp_in i n) (hdg : decode cc pc = .ok (.lastore, 1))
    (k : ∀ tx : String, tx = (toString "Index " ++ toString i ++ toString " out of bounds for length " ++ toString n : String) → vx_Note p l e R s m args below meth c H locs cells slots Q (F0 m pc ls rest) "java/lang/ArrayIndexOutOfBoundsException" tx) : W p l e R s m args below meth c H locs cells slots Q (F0 m pc ls (.long x :: .int i :: .ref a :: rest)) := by
  intro T hT X
  obtain ⟨t, st, q⟩ := k _ rfl T hT X
  refine ⟨t, ?_, q⟩
  have h1 := X.lastoreOut hexec (by rw [hT]; exact hP q0 _ ha) ((hK.2 t0 _ ht).1 n (fun j => .long (f j))) (j := i) (by show (i < 0 ∨ (arrV _ _ _).slots.size ≤ _); rw [arrV_size]; exact Classical.byContradiction hout) (g := F0 m pc ls (.long x :: .int i :: .ref a :: rest)) rfl (rest := rest) rfl (by rw [hb]; exact hdg) t
  simp only [arrV_size] at h1
  exact h1 st
theorem vx_faldZ {D : va_G} {cl : List vw_C} {ws : va_W} {tys : List (ClassId × FieldType)} {a : Nat} (hexec : p.tables.exec = Jvm.exec) (hb : c.code = cc) (hK : va_K D cl tys s) (hP : va_P D cl ws H) (q0 t0 : Nat) {cA : ClassId} {n : Nat} {f : Nat → UInt32} (ha : ws[q0]? = some (a, .inl (cA, n, .inr (.inr (.inl f))))) (ht : tys[t0]? = some (cA, .float)) {i : Int32} (hout : ¬ vp_in i n) (hdg : decode cc pc = .ok (.faload, 1))
    (k : ∀ tx : String, tx = (toString "Index " ++ toString i ++ toString " out of bounds for length " ++ toString n : String) → vx_Note p l e R s m args below meth c H locs cells slots Q (F0 m pc ls rest) "java/lang/ArrayIndexOutOfBoundsException" tx) : W p l e R s m args below meth c H locs cells slots Q (F0 m pc ls (.int i :: .ref a :: rest)) := by
  intro T hT X
  obtain ⟨t, st, q⟩ := k _ rfl T hT X
  refine ⟨t, ?_, q⟩
  have h1 := X.faloadOut hexec (by rw [hT]; exact hP q0 _ ha) ((hK.2 t0 _ ht).1 n (fun j => .float (f j))) (j := i) (by show (i < 0 ∨ (arrV _ _ _).slots.size ≤ _); rw [arrV_size]; exact Classical.byContradiction hout) (g := F0 m pc ls (.int i :: .ref a :: rest)) rfl (rest := rest) rfl (by rw [hb]; exact hdg) t
  simp only [arrV_size] at h1
  exact h1 st
theorem vx_fastZ {D : va_G} {cl : List vw_C} {ws : va_W} {tys : List (ClassId × FieldType)} {a : Nat} (hexec : p.tables.exec = Jvm.exec) (hb : c.code = cc) (hK : va_K D cl tys s) (hP : va_P D cl ws H) (q0 t0 : Nat) {cA : ClassId} {n : Nat} {f : Nat → UInt32} (ha : ws[q0]? = some (a, .inl (cA, n, .inr (.inr (.inl f))))) (ht : tys[t0]? = some (cA, .float)) {i : Int32} {x : UInt32} (hout : ¬ vp_in i n) (hdg : decode cc pc = .ok (.fastore, 1))
    (k : ∀ tx : String, tx = (toString "Index " ++ toString i ++ toString " out of bounds for length " ++ toString n : String) → vx_Note p l e R s m args below meth c H locs cells slots Q (F0 m pc ls rest) "java/lang/ArrayIndexOutOfBoundsException" tx) : W p l e R s m args below meth c H locs cells slots Q (F0 m pc ls (.float x :: .int i :: .ref a :: rest)) := by
  intro T hT X
  obtain ⟨t, st, q⟩ := k _ rfl T hT X
  refine ⟨t, ?_, q⟩
  have h1 := X.fastoreOut hexec (by rw [hT]; exact hP q0 _ ha) ((hK.2 t0 _ ht).1 n (fun j => .float (f j))) (j := i) (by show (i < 0 ∨ (arrV _ _ _).slots.size ≤ _); rw [arrV_size]; exact Classical.byContradiction hout) (g := F0 m pc ls (.float x :: .int i :: .ref a :: rest)) rfl (rest := rest) rfl (by rw [hb]; exact hdg) t
  simp only [arrV_size] at h1
  exact h1 st
theorem vx_daldZ {D : va_G} {cl : List vw_C} {ws : va_W} {tys : List (ClassId × FieldType)} {a : Nat} (hexec : p.tables.exec = Jvm.exec) (hb : c.code = cc) (hK : va_K D cl tys s) (hP : va_P D cl ws H) (q0 t0 : Nat) {cA : ClassId} {n : Nat} {f : Nat → UInt64} (ha : ws[q0]? = some (a, .inl (cA, n, .inr (.inr (.inr (.inl f)))))) (ht : tys[t0]? = some (cA, .double)) {i : Int32} (hout : ¬ vp_in i n) (hdg : decode cc pc = .ok (.daload, 1))
    (k : ∀ tx : String, tx = (toString "Index " ++ toString i ++ toString " out of bounds for length " ++ toString n : String) → vx_Note p l e R s m args below meth c H locs cells slots Q (F0 m pc ls rest) "java/lang/ArrayIndexOutOfBoundsException" tx) : W p l e R s m args below meth c H locs cells slots Q (F0 m pc ls (.int i :: .ref a :: rest)) := by
  intro T hT X
  obtain ⟨t, st, q⟩ := k _ rfl T hT X
  refine ⟨t, ?_, q⟩
  have h1 := X.daloadOut hexec (by rw [hT]; exact hP q0 _ ha) ((hK.2 t0 _ ht).1 n (fun j => .double (f j))) (j := i) (by show (i < 0 ∨ (arrV _ _ _).slots.size ≤ _); rw [arrV_size]; exact Classical.byContradiction hout) (g := F0 m pc ls (.int i :: .ref a :: rest)) rfl (rest := rest) rfl (by rw [hb]; exact hdg) t
  simp only [arrV_size] at h1
  exact h1 st
theorem vx_dastZ {D : va_G} {cl : List vw_C} {ws : va_W} {tys : List (ClassId × FieldType)} {a : Nat} (hexec : p.tables.exec = Jvm.exec) (hb : c.code = cc) (hK : va_K D cl tys s) (hP : va_P D cl ws H) (q0 t0 : Nat) {cA : ClassId} {n : Nat} {f : Nat → UInt64} (ha : ws[q0]? = some (a, .inl (cA, n, .inr (.inr (.inr (.inl f)))))) (ht : tys[t0]? = some (cA, .double)) {i : Int32} {x : UInt64} (hout : ¬ vp_in i n) (hdg : decode cc pc = .ok (.dastore, 1))
    (k : ∀ tx : String, tx = (toString "Index " ++ toString i ++ toString " out of bounds for length " ++ toString n : String) → vx_Note p l e R s m args below meth c H locs cells slots Q (F0 m pc ls rest) "java/lang/ArrayIndexOutOfBoundsException" tx) : W p l e R s m args below meth c H locs cells slots Q (F0 m pc ls (.double x :: .int i :: .ref a :: rest)) := by
  intro T hT X
  obtain ⟨t, st, q⟩ := k _ rfl T hT X
  refine ⟨t, ?_, q⟩
  have h1 := X.dastoreOut hexec (by rw [hT]; exact hP q0 _ ha) ((hK.2 t0 _ ht).1 n (fun j => .double (f j))) (j := i) (by show (i < 0 ∨ (arrV _ _ _).slots.size ≤ _); rw [arrV_size]; exact Classical.byContradiction hout) (g := F0 m pc ls (.double x :: .int i :: .ref a :: rest)) rfl (rest := rest) rfl (by rw [hb]; exact hdg) t
  simp only [arrV_size] at h1
  exact h1 st
theorem vx_arraylengthN (hexec : p.tables.exec = Jvm.exec) (hb : c.code = cc) (hdg : decode cc pc = .ok (.arraylength, 1)) (k : vx_NoteN p l e R s m args below meth c H locs cells slots Q (F0 m pc ls rest)) : W p l e R s m args below meth c H locs cells slots Q (F0 m pc ls (.null :: rest)) := by
  intro T hT X
  obtain ⟨t, st, q⟩ := k T hT X
  exact ⟨t, X.arraylengthNull hexec (g := F0 m pc ls (.null :: rest)) rfl (rest := rest) rfl (by rw [hb]; exact hdg) t st, q⟩
theorem vx_ialoadN (hexec : p.tables.exec = Jvm.exec) (hb : c.code = cc) {i : Int32} (hdg : decode cc pc = .ok (.iaload, 1)) (k : vx_NoteN p l e R s m args below meth c H locs cells slots Q (F0 m pc ls rest)) : W p l e R s m args below meth c H locs cells slots Q (F0 m pc ls (.int i :: .null :: rest)) := by
  intro T hT X
  obtain ⟨t, st, q⟩ := k T hT X
  exact ⟨t, X.ialoadNull hexec (g := F0 m pc ls (.int i :: .null :: rest)) rfl (rest := rest) rfl (by rw [hb]; exact hdg) t st, q⟩
theorem vx_laloadN (hexec : p.tables.exec = Jvm.exec) (hb : c.code = cc) {i : Int32} (hdg : decode cc pc = .ok (.laload, 1)) (k : vx_NoteN p l e R s m args below meth c H locs cells slots Q (F0 m pc ls rest)) : W p l e R s m args below meth c H locs cells slots Q (F0 m pc ls (.int i :: .null :: rest)) := by
  intro T hT X
  obtain ⟨t, st, q⟩ := k T hT X
  exact ⟨t, X.laloadNull hexec (g := F0 m pc ls (.int i :: .null :: rest)) rfl (rest := rest) rfl (by rw [hb]; exact hdg) t st, q⟩
theorem vx_faloadN (hexec : p.tables.exec = Jvm.exec) (hb : c.code = cc) {i : Int32} (hdg : decode cc pc = .ok (.faload, 1)) (k : vx_NoteN p l e R s m args below meth c H locs cells slots Q (F0 m pc ls rest)) : W p l e R s m args below meth c H locs cells slots Q (F0 m pc ls (.int i :: .null :: rest)) := by
  intro T hT X
  obtain ⟨t, st, q⟩ := k T hT X
  exact ⟨t, X.faloadNull hexec (g := F0 m pc ls (.int i :: .null :: rest)) rfl (rest := rest) rfl (by rw [hb]; exact hdg) t st, q⟩
theorem vx_daloadN (hexec : p.tables.exec = Jvm.exec) (hb : c.code = cc) {i : Int32} (hdg : decode cc pc = .ok (.daload, 1)) (k : vx_NoteN p l e R s m args below meth c H locs cells slots Q (F0 m pc ls rest)) : W p l e R s m args below meth c H locs cells slots Q (F0 m pc ls (.int i :: .null :: rest)) := by
  intro T hT X
  obtain ⟨t, st, q⟩ := k T hT X
  exact ⟨t, X.daloadNull hexec (g := F0 m pc ls (.int i :: .null :: rest)) rfl (rest := rest) rfl (by rw [hb]; exact hdg) t st, q⟩
theorem vx_aaloadN (hexec : p.tables.exec = Jvm.exec) (hb : c.code = cc) {i : Int32} (hdg : decode cc pc = .ok (.aaload, 1)) (k : vx_NoteN p l e R s m args below meth c H locs cells slots Q (F0 m pc ls rest)) : W p l e R s m args below meth c H locs cells slots Q (F0 m pc ls (.int i :: .null :: rest)) := by
  intro T hT X
  obtain ⟨t, st, q⟩ := k T hT X
  exact ⟨t, X.aaloadNull hexec (g := F0 m pc ls (.int i :: .null :: rest)) rfl (rest := rest) rfl (by rw [hb]; exact hdg) t st, q⟩
theorem vx_baloadN (hexec : p.tables.exec = Jvm.exec) (hb : c.code = cc) {i : Int32} (hdg : decode cc pc = .ok (.baload, 1)) (k : vx_NoteN p l e R s m args below meth c H locs cells slots Q (F0 m pc ls rest)) : W p l e R s m args below meth c H locs cells slots Q (F0 m pc ls (.int i :: .null :: rest)) := by
  intro T hT X
  obtain ⟨t, st, q⟩ := k T hT X
  exact ⟨t, X.baloadNull hexec (g := F0 m pc ls (.int i :: .null :: rest)) rfl (rest := rest) rfl (by rw [hb]; exact hdg) t st, q⟩
theorem vx_caloadN (hexec : p.tables.exec = Jvm.exec) (hb : c.code = cc) {i : Int32} (hdg : decode cc pc = .ok (.caload, 1)) (k : vx_NoteN p l e R s m args below meth c H locs cells slots Q (F0 m pc ls rest)) : W p l e R s m args below meth c H locs cells slots Q (F0 m pc ls (.int i :: .null :: rest)) := by
  intro T hT X
  obtain ⟨t, st, q⟩ := k T hT X
  exact ⟨t, X.caloadNull hexec (g := F0 m pc ls (.int i :: .null :: rest)) rfl (rest := rest) rfl (by rw [hb]; exact hdg) t st, q⟩
theorem vx_saloadN (hexec : p.tables.exec = Jvm.exec) (hb : c.code = cc) {i : Int32} (hdg : decode cc pc = .ok (.saload, 1)) (k : vx_NoteN p l e R s m args below meth c H locs cells slots Q (F0 m pc ls rest)) : W p l e R s m args below meth c H locs cells slots Q (F0 m pc ls (.int i :: .null :: rest)) := by
  intro T hT X
  obtain ⟨t, st, q⟩ := k T hT X
  exact ⟨t, X.saloadNull hexec (g := F0 m pc ls (.int i :: .null :: rest)) rfl (rest := rest) rfl (by rw [hb]; exact hdg) t st, q⟩
theorem vx_iastoreN (hexec : p.tables.exec = Jvm.exec) (hb : c.code = cc) {x : Int32} {i : Int32} (hdg : decode cc pc = .ok (.iastore, 1)) (k : vx_NoteN p l e R s m args below meth c H locs cells slots Q (F0 m pc ls rest)) : W p l e R s m args below meth c H locs cells slots Q (F0 m pc ls (.int x :: .int i :: .null :: rest)) := by
  intro T hT X
  obtain ⟨t, st, q⟩ := k T hT X
  exact ⟨t, X.iastoreNull hexec (g := F0 m pc ls (.int x :: .int i :: .null :: rest)) rfl (rest := rest) rfl (by rw [hb]; exact hdg) t st, q⟩
theorem vx_lastoreN (hexec : p.tables.exec = Jvm.exec) (hb : c.code = cc) {x : Int64} {i : Int32} (hdg : decode cc pc = .ok (.lastore, 1)) (k : vx_NoteN p l e R s m args below meth c H locs cells slots Q (F0 m pc ls rest)) : W p l e R s m args below meth c H locs cells slots Q (F0 m pc ls (.long x :: .int i :: .null :: rest)) := by
  intro T hT X
  obtain ⟨t, st, q⟩ := k T hT X
  exact ⟨t, X.lastoreNull hexec (g := F0 m pc ls (.long x :: .int i :: .null :: rest)) rfl (rest := rest) rfl (by rw [hb]; exact hdg) t st, q⟩
theorem vx_fastoreN (hexec : p.tables.exec = Jvm.exec) (hb : c.code = cc) {x : UInt32} {i : Int32} (hdg : decode cc pc = .ok (.fastore, 1)) (k : vx_NoteN p l e R s m args below meth c H locs cells slots Q (F0 m pc ls rest)) : W p l e R s m args below meth c H locs cells slots Q (F0 m pc ls (.float x :: .int i :: .null :: rest)) := by
  intro T hT X
  obtain ⟨t, st, q⟩ := k T hT X
  exact ⟨t, X.fastoreNull hexec (g := F0 m pc ls (.float x :: .int i :: .null :: rest)) rfl (rest := rest) rfl (by rw [hb]; exact hdg) t st, q⟩
theorem vx_dastoreN (hexec : p.tables.exec = Jvm.exec) (hb : c.code = cc) {x : UInt64} {i : Int32} (hdg : decode cc pc = .ok (.dastore, 1)) (k : vx_NoteN p l e R s m args below meth c H locs cells slots Q (F0 m pc ls rest)) : W p l e R s m args below meth c H locs cells slots Q (F0 m pc ls (.double x :: .int i :: .null :: rest)) := by
  intro T hT X
  obtain ⟨t, st, q⟩ := k T hT X
  exact ⟨t, X.dastoreNull hexec (g := F0 m pc ls (.double x :: .int i :: .null :: rest)) rfl (rest := rest) rfl (by rw [hb]; exact hdg) t st, q⟩
theorem vx_bastoreN (hexec : p.tables.exec = Jvm.exec) (hb : c.code = cc) {x : Int32} {i : Int32} (hdg : decode cc pc = .ok (.bastore, 1)) (k : vx_NoteN p l e R s m args below meth c H locs cells slots Q (F0 m pc ls rest)) : W p l e R s m args below meth c H locs cells slots Q (F0 m pc ls (.int x :: .int i :: .null :: rest)) := by
  intro T hT X
  obtain ⟨t, st, q⟩ := k T hT X
  exact ⟨t, X.bastoreNull hexec (g := F0 m pc ls (.int x :: .int i :: .null :: rest)) rfl (rest := rest) rfl (by rw [hb]; exact hdg) t st, q⟩
theorem vx_castoreN (hexec : p.tables.exec = Jvm.exec) (hb : c.code = cc) {x : Int32} {i : Int32} (hdg : decode cc pc = .ok (.castore, 1)) (k : vx_NoteN p l e R s m args below meth c H locs cells slots Q (F0 m pc ls rest)) : W p l e R s m args below meth c H locs cells slots Q (F0 m pc ls (.int x :: .int i :: .null :: rest)) := by
  intro T hT X
  obtain ⟨t, st, q⟩ := k T hT X
  exact ⟨t, X.castoreNull hexec (g := F0 m pc ls (.int x :: .int i :: .null :: rest)) rfl (rest := rest) rfl (by rw [hb]; exact hdg) t st, q⟩
theorem vx_sastoreN (hexec : p.tables.exec = Jvm.exec) (hb : c.code = cc) {x : Int32} {i : Int32} (hdg : decode cc pc = .ok (.sastore, 1)) (k : vx_NoteN p l e R s m args below meth c H locs cells slots Q (F0 m pc ls rest)) : W p l e R s m args below meth c H locs cells slots Q (F0 m pc ls (.int x :: .int i :: .null :: rest)) := by
  intro T hT X
  obtain ⟨t, st, q⟩ := k T hT X
  exact ⟨t, X.sastoreNull hexec (g := F0 m pc ls (.int x :: .int i :: .null :: rest)) rfl (rest := rest) rfl (by rw [hb]; exact hdg) t st, q⟩
theorem vx_invokeN {own C : String} {index maxL : Nat} {y : MethodName} {bytes : ByteArray} {ret : Option FieldType} (hexec : p.tables.exec = Jvm.exec) (hb : c.code = cc) (hown : s.vm.findClass own = some m.cls) (hlink : (Cond.methodLink own index y).before args s = true) (hinst : (Cond.instanceMethod y).before args s = true) (hcode : (Cond.code y bytes maxL ret).before args s = true) (hsel : (Cond.selects C y y).before args s = true)
    (hx : y.cls ≠ "java/lang/invoke/MethodHandle" ∧ y.cls ≠ "java/lang/invoke/VarHandle") {As : List Value} (hlen : (parseMethodDescriptor y.desc).map (fun d => d.parameters.length) = some As.length) (hdg : decode cc pc = .ok (.invokevirtual index, 3))
    (k : vx_NoteN p l e R s m args below meth c H locs cells slots Q (F0 m pc ls rest)) {st0 : List Value} (hst : st0 = As.reverse ++ .null :: rest) : W p l e R s m args below meth c H locs cells slots Q (F0 m pc ls st0) := by
  intro T hT X
  obtain ⟨r0, r, hn, hrm, hstR, hsigR⟩ := va_Decl.of hinst hcode
  obtain ⟨c2, r2, m2, q1, q2, q3, q4, kP, hkP, hkPi⟩ := Cond.selects_spec hsel
  cases hn.symm.trans q3
  have hl9 : As.length = r.sig.parameters.length := by
    rw [hsigR] at hlen
    exact (Option.some.inj hlen).symm
  obtain ⟨vm', X1, st1⟩ := X.invokevirtualNull hexec hown hlink hn hrm hstR hkP hkPi hx (g := F0 m pc ls st0) rfl (argsL := As) (rest := rest) hl9 hst (by rw [hb]; exact hdg)
  obtain ⟨t, st, q⟩ := k (T.setVm vm') hT X1
  exact ⟨t, st1 t st, q⟩
theorem vx_newarrayZ {atype : ArrayType} (hexec : p.tables.exec = Jvm.exec) (hb : c.code = cc) {n : Int32} (h0 : n < 0) (hdg : decode cc pc = .ok (.newarray atype, 2)) (k : ∀ tx : String, tx = toString n → vx_Note p l e R s m args below meth c H locs cells slots Q (F0 m pc ls rest) "java/lang/NegativeArraySizeException" tx) : W p l e R s m args below meth c H locs cells slots Q (F0 m pc ls (.int n :: rest)) := by
  intro T hT X
  obtain ⟨t, st, q⟩ := k _ rfl T hT X
  exact ⟨t, X.newarrayNegative hexec (g := F0 m pc ls (.int n :: rest)) rfl h0 (rest := rest) rfl (by rw [hb]; exact hdg) t st, q⟩
end
end VXM
/-! ===== END ===== -/
end
section
/-! ===== exceptions whose own constructor passes its text on from another place of its pool ===== -/
def kv_at9 (own : String) (ic : Nat) (X Y9 : String) (ix : Nat) (rx : ByteArray) (names : List String) : List Cond :=
  Bundle.throwableAtoms ++ Bundle.throwableSAtoms ++ (Bundle.passSAtoms X Y9 ix rx ++ Bundle.chainSAtoms Y9 names) ++
  [.methodLink own ic (Bundle.initS X), .instantiable X 6, .castable X X, .selects X Bundle.tFill0 Bundle.tFill0, .selects X Bundle.tFill Bundle.tFill,
   .lays X Bundle.tN "cause" "Ljava/lang/Throwable;", .lays X Bundle.tN "stackTrace" Bundle.steD, .lays X Bundle.tN "suppressedExceptions" Bundle.listD, .lays X Bundle.tN "detailMessage" "Ljava/lang/String;",
   .isRef (.static Bundle.tN "UNASSIGNED_STACK" Bundle.steD), .isRef (.static Bundle.tN "SUPPRESSED_SENTINEL" Bundle.listD),
   .fieldLink Bundle.tN 198 Bundle.tN "backtrace" "Ljava/lang/Object;", .lays Bundle.tN Bundle.tN "backtrace" "Ljava/lang/Object;", .lays X Bundle.tN "backtrace" "Ljava/lang/Object;"]
def kv_atS9 (own : String) (ic : Nat) (X Y9 : String) (ix : Nat) (rx : ByteArray) (names : List String) : List Cond := (kv_at9 own ic X Y9 ix rx names).filter vx_no
theorem kv_chain9 {args : Array Value} {s : State} {pl : Platform} (hpl : pl.magicAccessors = ({} : Platform).magicAccessors) {top : MethodId} (htop : s.methodNamed? (Bundle.initS Bundle.tN) = some top)
    {ix : Nat} {rx : ByteArray} (x0 : decode rx 0 = .ok (.aload_n 0, 1)) (x1 : decode rx 1 = .ok (.aload_n 1, 1)) (x2 : decode rx 2 = .ok (.invokespecial ix, 3)) (x5 : decode rx 5 = .ok (.return_, 1))
    (names : List String) (X Y9 : String) (hX : Bundle.fit X = true) (hY : Bundle.fit Y9 = true) (hn : ∀ n ∈ names, Bundle.fit n = true)
    (h1 : ∀ c ∈ Bundle.passSAtoms X Y9 ix rx, c.before args s = true) (h2 : ∀ c ∈ Bundle.chainSAtoms Y9 names, c.before args s = true) :
    ∃ (P1 : PassC) (Ps : List PassC), Ps.length = names.length + 1 ∧ P1.LinksS pl s ∧ (∀ P, P ∈ Ps → P.LinksS pl s) ∧ s.methodNamed? (Bundle.initS X) = some P1.m ∧
      P1.sup = firstOf top (Ps.map (·.toPassT)) ∧ PassesOn top (Ps.map (·.toPassT)) := by
  obtain ⟨P, LP, hm, hs⟩ := PassC.ofS_atoms (args := args) (s := s) hpl (Bundle.fit_spec hX).1 (Bundle.fit_spec hY).2 x0 x1 x2 x5 h1
  obtain ⟨P', Ps, hlen, L', hL, hm', hsup, hpass⟩ := Bundle.chainS (args := args) hpl htop names Y9 hY hn h2
  refine ⟨P, P' :: Ps, by rw [List.length_cons, hlen], LP, fun Q hQ => ?_, hm, Option.some.inj (hs.symm.trans hm'), hsup, hpass⟩
  rcases List.mem_cons.mp hQ with rfl | hQ
  · exact L'
  · exact hL Q hQ
section KV9
variable {p : Program} {l : Launch} {e : Env} {R : Room} {s : State} {m₀ : MethodId} {args : Array Value} {below : List Frame} {meth : Method} {c : Code} {W : State} {locs : List Loc} {cells slots : Nat}
set_option maxHeartbeats 1000000 in
theorem kv_ctorMadeX (X : Stand p l e R s m₀ args below meth c W locs cells slots) (hexec : p.tables.exec = Jvm.exec) (htr : e.platform.stackTraces = false) {own cls Y9 : String} {names : List String} {ic ix : Nat} {rx : ByteArray} (x0 : decode rx 0 = .ok (.aload_n 0, 1)) (x1 : decode rx 1 = .ok (.aload_n 1, 1)) (x2 : decode rx 2 = .ok (.invokespecial ix, 3)) (x5 : decode rx 5 = .ok (.return_, 1)) (hY9 : Bundle.fit Y9 = true)
    (hown : s.vm.findClass own = some m₀.cls) (hcls : Bundle.fit cls = true) (hnames : ∀ n ∈ names, Bundle.fit n = true)
    (h : ∀ a ∈ kv_at9 own ic cls Y9 ix rx names, a.before args s = true)
    (hlocs : ∀ x ∈ locs, ∀ cell, s.heap[x.base]? = some cell → cell.vm.isStatics = false)
    {a : Addr} {cX : ClassId} {kX : Class} (hfoundX : s.vm.findClass cls = some cX) (hkX : s.vm.classes[cX]? = some kX) (hcell : W.heap[a]? = some (freshCell cX kX)) (hnew : s.heap.size ≤ a)
    {msg : Value} (hmsg : msg.isRef = true)
    {g : JFrame} (hg : g.method = m₀) (hsize : g.locals.size = c.maxLocals) {rest : List Value} (hstack : g.stack = msg :: .ref a :: .ref a :: rest)
    (hd6 : decode c.code g.pc = .ok (.invokespecial ic, 3))
    (hRframes : names.length + 4 < R.frames) (hRlocals : 2 * g.monitorRoom + ((Value.ref a :: rest).map fun v => v.category).sum + (13 * (names.length + 2) + 42) ≤ R.locals) :
    ∃ (V : State) (ce : Cell) (L : List Loc), Stand p l e R s m₀ args below meth c (V.setCell a ce) (locs ++ L) cells slots ∧ (∀ y ∈ L, y.base = a) ∧ a < V.heap.size ∧ ce.cls = cX ∧ ce.vm = .none ∧
      ∀ target, Steps p.tables e below ((V.setCell a ce).setTop { g with stack := .ref a :: rest, pc := g.pc + 3 }) target → Steps p.tables e below (W.setTop g) target := by
  have howns : e.platform.frameOwnsMonitors = true := by rw [X.admits.platform]
  have hfin : e.platform.finalization = false := by rw [X.admits.platform]
  have hpl : e.platform.magicAccessors = ({} : Platform).magicAccessors := by rw [X.admits.platform]
  have a' : ∀ x, x ∈ kv_at9 own ic cls Y9 ix rx names → x.holds args s none s [] = true := fun x hx => h x hx
  obtain ⟨T, Z0, L, -, Y⟩ := ThrowableC.of_atoms (args := args) howns hfin hpl (fun x hx => h x (by simp [kv_at9, hx]))
  obtain ⟨Z, M, LZ, LM, hnZ⟩ := Init0T.ofS_atoms (args := args) hpl L Y (fun x hx => h x (by simp [kv_at9, hx]))
  obtain ⟨P1, Ps, hlen, L1, hL, hP1m, hlink1, hlink⟩ := kv_chain9 (args := args) hpl hnZ x0 x1 x2 x5 names cls Y9 hcls hY9 hnames (fun x hx => h x (by simp [kv_at9, hx])) (fun x hx => h x (by simp [kv_at9, hx]))
  have hfound : s.vm.findClass cls = some P1.m.cls := findClass_of_methodNamed hP1m
  cases Option.some.inj (hfoundX.symm.trans hfound)
  obtain ⟨c1, kX', hc1, hk, hord, -, -, hn6⟩ := Cond.instantiable_spec (a' (.instantiable cls 6) (by simp [kv_at9]))
  cases Option.some.inj (hc1.symm.trans hfound)
  cases Option.some.inj (hkX.symm.trans hk)
  have hsel0 : selectMethod e.platform s.vm P1.m.cls T.fill0 = .method T.fill0 := by
    obtain ⟨c2, r2, m2, q1, q2, q3, q4, -⟩ := Cond.selects_spec (a' (.selects cls Bundle.tFill0 Bundle.tFill0) (by simp [kv_at9]))
    cases Option.some.inj (q1.symm.trans hfound)
    cases Option.some.inj (q2.symm.trans (State.methodFound?_of_named Y.fill0 (by decide)))
    cases Option.some.inj (q3.symm.trans Y.fill0)
    rw [Launch.admits_selectMethod X.admits]; exact q4
  have hselF : selectMethod e.platform s.vm P1.m.cls T.fill = .method T.fill := by
    obtain ⟨c2, r2, m2, q1, q2, q3, q4, -⟩ := Cond.selects_spec (a' (.selects cls Bundle.tFill Bundle.tFill) (by simp [kv_at9]))
    cases Option.some.inj (q1.symm.trans hfound)
    cases Option.some.inj (q2.symm.trans (State.methodFound?_of_named Y.fill (by decide)))
    cases Option.some.inj (q3.symm.trans Y.fill)
    rw [Launch.admits_selectMethod X.admits]; exact q4
  obtain ⟨cellS0, hcS0, hiss⟩ := Y.statics
  obtain ⟨u0, hu0⟩ := Cond.staticRefV Y.unassigned L.unassignedStatic L.statics hcS0 hiss (a' (.isRef (.static Bundle.tN "UNASSIGNED_STACK" Bundle.steD)) (by simp [kv_at9]))
  obtain ⟨sen, hsen⟩ := Cond.staticRefV Y.sentinel L.sentinelStatic L.statics hcS0 hiss (a' (.isRef (.static Bundle.tN "SUPPRESSED_SENTINEL" Bundle.listD)) (by simp [kv_at9]))
  obtain ⟨ci198, i198, fB, hk198, hg198, ha198, hsB, -, hnB, htB, hffB⟩ := Cond.ownField (t := .object "java/lang/Object") Y.found L.cls (by decide +kernel) (a' (.fieldLink Bundle.tN 198 Bundle.tN "backtrace" "Ljava/lang/Object;") (by simp [kv_at9])) (a' (.lays Bundle.tN Bundle.tN "backtrace" "Ljava/lang/Object;") (by simp [kv_at9])) e.platform hpl
  obtain ⟨cellS, hcS', heS, -, hkeep⟩ := X.same.2.2.2.2.2 T.aS cellS0 hcS0
  have hcellS : W.heap[T.aS]? = some cellS := hcS'
  have hout' : ∀ i, (⟨T.aS, i⟩ : Loc) ∉ locs := fun i hmem => by
    have := hlocs _ hmem cellS0 hcS0
    rw [hiss] at this; cases this
  have hknownS : cellS.vm ≠ .unknown := by
    rw [heS]; intro hu
    rw [show cellS0.vm = .unknown from hu] at hiss
    cases hiss
  have hneS : T.aS ≠ a := Nat.ne_of_lt (Nat.lt_of_lt_of_le (Array.getElem?_eq_some_iff.mp hcS0).1 hnew)
  obtain ⟨iM, hffM⟩ := Y.msg
  obtain ⟨tyC, dC, hdC, hdnC⟩ := Cond.laysAt hfound hk Y.cause (a' (.lays cls Bundle.tN "cause" "Ljava/lang/Throwable;") (by simp [kv_at9]))
  obtain ⟨tyS, dS, hdS, hdnS⟩ := Cond.laysAt hfound hk Y.stack (a' (.lays cls Bundle.tN "stackTrace" Bundle.steD) (by simp [kv_at9]))
  obtain ⟨tyP, dP, hdP, hdnP⟩ := Cond.laysAt hfound hk Y.supp (a' (.lays cls Bundle.tN "suppressedExceptions" Bundle.listD) (by simp [kv_at9]))
  obtain ⟨tyM, dM, hdM, hdnM⟩ := Cond.laysAt hfound hk hffM (a' (.lays cls Bundle.tN "detailMessage" "Ljava/lang/String;") (by simp [kv_at9]))
  obtain ⟨tyB, dB, hdB, hdnB⟩ := Cond.laysAt hfound hk hffB (a' (.lays cls Bundle.tN "backtrace" "Ljava/lang/Object;") (by simp [kv_at9]))
  have bC := Cond.laysApart hdB hdC hdnB hdnC (by rw [hnB, Y.causeName]; decide)
  have bS := Cond.laysApart hdB hdS hdnB hdnS (by rw [hnB, Y.stackName]; decide)
  have bP := Cond.laysApart hdB hdP hdnB hdnP (by rw [hnB, Y.suppName]; decide)
  have hskip : SkipFacts T e.platform s (fun u => u) u0 ((preparedCellV T.toThrowableT (freshCell P1.m.cls kX) a u0 sen).withEntry W.cur) :=
    ⟨{ ci198 := ci198, i198 := i198, fBack := fB }, ⟨hk198, hg198, ha198, hsB⟩, by
      have := fresh_default (c := P1.m.cls) tyB
      rw [htB] at this
      simpa [preparedCellV, Cell.setSlot, Cell.withEntry, Array.getElem?_setIfInBounds, bC, bS, bP, bC.symm, bS.symm, bP.symm, defaultValue] using this, fun _ _ => rfl⟩
  obtain ⟨tm, methC, cdC, kC, vm₁, hnC, -, -, -, -, -, -, -, hW₁, st1⟩ := Steps.initColdS (tb := p.tables) (e := e) (below := below) (s := s) (U := W) X.here hexec X.warmed hpl hown (t := Bundle.initS cls) rfl rfl (Bundle.fit_spec hcls).2
    (a' (.methodLink own ic (Bundle.initS cls)) (by simp [kv_at9])) (h (.instanceMethod (Bundle.initS cls)) (by simp [kv_at9, Bundle.passSAtoms])) (bytes := rx) (maxL := 2) (h (.code (Bundle.initS cls) rx 2 none) (by simp [kv_at9, Bundle.passSAtoms]))
    (f := g) hg (a := a) (msg := msg) (rest := .ref a :: rest) hstack hd6
  cases Option.some.inj (hnC.symm.trans hP1m)
  have X₁ := X.noted hW₁
  obtain ⟨vm₂, X₂, st2⟩ := X₁.ctorMessageOffV hexec (g := { g with stack := .ref a :: rest }) hg hsize T L Z LZ M LM (P1 :: Ps)
    (fun P hP => by rcases List.mem_cons.mp hP with rfl | hP; exact L1; exact hL P hP) ⟨hlink1, hlink⟩ (u0 := u0) (sen := sen) (self := a) hmsg (cell := freshCell P1.m.cls kX) (cellS := cellS)
    hcell (fun _ => by simp) (by simp) rfl rfl hsel0 hselF hcellS hneS hknownS (by rw [hkeep _ (hout' _)]; exact hu0) (by rw [hkeep _ (hout' _)]; exact hsen)
    (Takes.of_laid hk hord tyC (by rw [Y.causeType]; rfl)) (Takes.of_laid hk hord tyS (by rw [Y.stackType]; exact fits_refV_array _ u0)) (Takes.of_laid hk hord tyP (by rw [Y.suppType]; exact fits_refV_object _ sen))
    (Takes.of_laid hk hord tyM (by rw [Y.msgType]; exact fits_refV_object _ ⟨msg, hmsg⟩)) Y.objLocals hskip htr [] hd6
    (by simp only [List.length_cons, hlen]; omega) (by simp only [List.length_cons, hlen]; exact hRlocals)
  have hlt : a < ((W.setVm vm₁).setVm vm₂).heap.size := (Array.getElem?_eq_some_iff.mp hcell).1
  refine ⟨(W.setVm vm₁).setVm vm₂, _, _, X₂, fun y hy => ?_, hlt, rfl, rfl, fun target hwalk => st1 _ (fun acts => ?_)⟩
  · simp only [List.mem_cons, List.not_mem_nil, or_false] at hy
    rcases hy with rfl | rfl | rfl | rfl | rfl <;> rfl
  · rw [doInvoke_state]
    exact st2 _ hwalk
end KV9
section KV92
variable {p : Program} {l : Launch} {e : Env} {R : Room} {s : State} {m : MethodId} {args : Array Value} {below : List Frame} {meth : Method} {c : Code} {H : Heap} {locs : List Loc} {cells slots : Nat} {Q : State → Prop}
variable {ls : Array Slot} {rest : List Value}
theorem kv_makeX {cc : ByteArray} {pc : Nat} (hexec : p.tables.exec = Jvm.exec) (hb : c.code = cc) (hl : l.stackTraces = false) {own cls Y9 text : String} {names : List String} {ik is ic ix sa : Nat} {rx : ByteArray} {A : Nat → Prop} (x0 : decode rx 0 = .ok (.aload_n 0, 1)) (x1 : decode rx 1 = .ok (.aload_n 1, 1)) (x2 : decode rx 2 = .ok (.invokespecial ix, 3)) (x5 : decode rx 5 = .ok (.return_, 1)) (hY9 : Bundle.fit Y9 = true)
    (hown : s.vm.findClass own = some m.cls) (hcls : Bundle.fit cls = true) (hnames : ∀ n ∈ names, Bundle.fit n = true)
    (hk : (Cond.classLink own ik cls).before args s = true) (hini : (Cond.initialized cls).before args s = true) (hstr : vk_R own is text sa s) (hat : ∀ w ∈ kv_atS9 own ic cls Y9 ix rx names, w.before args s = true)
    (hgood : ∀ w ∈ Cond.classLink own ik cls :: Cond.initialized cls :: kv_atS9 own ic cls Y9 ix rx names, vx_ot w = true)
    (hU : vx_Zq Bundle.tN "UNASSIGNED_STACK" Bundle.steD A s s.heap) (hN : vx_Zq Bundle.tN "SUPPRESSED_SENTINEL" Bundle.listD A s s.heap) (hS : va_S A s.heap H locs) (hsize : ls.size = c.maxLocals)
    (d0 : decode cc pc = .ok (.new ik, 3)) (d3 : decode cc (pc + 3) = .ok (.dup, 1)) (d4 : decode cc (pc + 4) = .ok (.ldc is, 2)) (d6 : decode cc (pc + 6) = .ok (.invokespecial ic, 3))
    (hRframes : names.length + 4 < R.frames) (hRlocals : (rest.map fun v => v.category).sum + (13 * (names.length + 2) + 43) ≤ R.locals) (hRcells : cells + 1 ≤ R.cells) (hRslots : slots + 6 ≤ R.slots)
    (kk : ∀ (q : Nat) (H1 : Heap) (ce : Cell), H1[q]? = some ce → ce.vm = .none → s.vm.findClass cls = some ce.cls → H.size ≤ H1.size → (∀ x : Nat, x < H.size → H1[x]? = H[x]?) → va_S A s.heap H1 locs → W p l e R s m args below meth c H1 locs (cells + 1) (slots + 6) Q (F0 m (pc + 9) ls (.ref q :: rest))) :
    W p l e R s m args below meth c H locs cells slots Q (F0 m pc ls rest) := by
  intro T hT X
  subst hT
  have htr : e.platform.stackTraces = false := (show e.platform.stackTraces = l.stackTraces by rw [X.admits.platform]).trans hl
  have Y := vx_rebase X (R' := { frames := R.frames, locals := R.locals, cells := 1, slots := 6 }) (Nat.le_refl _) (Nat.le_refl _) hRcells hRslots
  obtain ⟨s', hA'⟩ : ∃ z, z = (T.setVm s.vm).setFrames (.invoking m args :: below) := ⟨_, rfl⟩
  rw [← hA'] at Y
  have hvm : s'.vm = s.vm := by rw [hA']; rfl
  have hhp : s'.heap = T.heap := by rw [hA']; rfl
  have hW0 : s.WarmedH s'.vm := by rw [hvm]; exact State.WarmedH.refl s
  have hat' : ∀ w ∈ kv_atS9 own ic cls Y9 ix rx names, w.before args s' = true := fun w hw => vx_ot_at hW0 hvm.symm (hgood w (List.mem_cons_of_mem _ (List.mem_cons_of_mem _ hw))) (hat w hw)
  have hk' : (Cond.classLink own ik cls).before args s' = true := vx_ot_at hW0 hvm.symm (hgood _ List.mem_cons_self) hk
  have hini' : (Cond.initialized cls).before args s' = true := vx_ot_at hW0 hvm.symm (hgood _ (List.mem_cons_of_mem _ List.mem_cons_self)) hini
  have hU' : vx_Zq Bundle.tN "UNASSIGNED_STACK" Bundle.steD A s' s'.heap := by rw [hhp]; exact vx_Zq.moved hW0.alike (hU.kept hS.2.1)
  have hN' : vx_Zq Bundle.tN "SUPPRESSED_SENTINEL" Bundle.listD A s' s'.heap := by rw [hhp]; exact vx_Zq.moved hW0.alike (hN.kept hS.2.1)
  have h : ∀ w ∈ kv_at9 own ic cls Y9 ix rx names, w.before args s' = true := vx_own hat' (vx_isRefq hU'.1) (vx_isRefq hN'.1) hU'.2.word hN'.2.word
  have hown' : s'.vm.findClass own = some m.cls := by rw [hvm]; exact hown
  have hins : (Cond.instantiable cls 6).before args s' = true := h _ (by simp [kv_at9])
  obtain ⟨vm₁, cX, kX, hfX, hkX, -, -, X₁, st1⟩ := Y.newCold hexec (own := own) (C := cls) (index := ik) (n := 6) hown' hk' hins hini'
    (g := F0 m pc ls rest) rfl (by rw [hb]; exact d0) (Nat.le_refl _) (Nat.le_refl _)
  generalize hT1 : (T.setVm vm₁).pushCell { cls := cX, slots := kX.instanceTypes.map defaultValue, vm := .none } = T1 at X₁ st1
  have hcat : (Value.ref T.heap.size).category = 1 := rfl
  have hcellA : T1.heap[T.heap.size]? = some (freshCell cX kX) := by rw [← hT1]; exact State.heap_pushCell_size _ _
  have d3' : decode c.code (pc + 3) = .ok (.dup, 1) := by rw [hb]; exact d3
  have d4' : decode c.code (pc + 4) = .ok (.ldc is, 2) := by rw [hb]; exact d4
  have hstr' : vk_R own is text sa s' := vk_R.warm hW0 hstr
  obtain ⟨V, ce, L, Z, hL, hlt, hcl9, hvm9, st⟩ := kv_ctorMadeX X₁ hexec htr (own := own) (cls := cls) (Y9 := Y9) (names := names) (ic := ic) x0 x1 x2 x5 hY9 hown' hcls hnames h (fun x hx => nomatch hx) hfX hkX hcellA (by rw [hhp]; exact Nat.le_refl _) (msg := .ref sa) rfl
    (g := { method := m, pc := pc + 6, locals := ls, stack := .ref sa :: .ref T.heap.size :: .ref T.heap.size :: rest, locked := none }) rfl hsize (rest := rest) rfl
    (by rw [hb]; exact d6) hRframes (by simp only [List.map_cons, List.sum_cons, hcat]; omega)
  have Z0 := Stand.forget (locs := []) Z (fun y hy => by rw [hL y hy, hhp]; exact Nat.le_refl _)
  obtain ⟨f1, f2⟩ := vx_frame Z0.same
  rw [hhp] at f1 f2
  have hcid : s.vm.findClass cls = some ce.cls := by
    rw [hcl9]
    rw [hvm] at hfX
    exact hfX
  have hh : (V.setCell T.heap.size ce).heap[T.heap.size]? = some ce := heapAt_setCell_self (s := V) ce hlt
  subst hA'
  have X5 := vx_back9 X Y Z0
  have X6 : Stand p l e R s m args below meth c (V.setCell T.heap.size ce) locs (cells + 1) (slots + 6) := { X5 with same := X5.same.mono (by omega) (by omega) }
  obtain ⟨t, a1, b1⟩ := kk T.heap.size (V.setCell T.heap.size ce).heap ce hh hvm9 hcid f1 (fun q h1 => f2 q h1 (fun z hz => nomatch hz)) ⟨Nat.le_trans hS.1 f1, fun q h1 h2 => (f2 q (Nat.lt_of_lt_of_le h1 hS.1) (fun z hz => nomatch hz)).trans (hS.2.1 q h1 h2), hS.2.2⟩ _ rfl X6
  refine ⟨t, st1 _ ?_, b1⟩
  show Steps p.tables e below (T1.setTop { method := m, pc := pc + 3, locals := ls, stack := .ref T.heap.size :: rest, locked := none }) _
  jvm_step X₁.here [X₁.here.top, hexec, d3', Value.category]
  exact X₁.ldcString hexec (own := own) (text := text) (index := is) (a := sa) hown' hstr'.1 hstr'.2
    (g := { method := m, pc := pc + 4, locals := ls, stack := .ref T.heap.size :: .ref T.heap.size :: rest, locked := none }) rfl d4' _ (st _ a1)
theorem kv_makeXW {cc : ByteArray} {pc : Nat} (hexec : p.tables.exec = Jvm.exec) (hb : c.code = cc) (hl : l.stackTraces = false) {own cls Y9 text : String} {names : List String} {ik is ic ix sa : Nat} {rx : ByteArray} {A : Nat → Prop} (x0 : decode rx 0 = .ok (.aload_n 0, 1)) (x1 : decode rx 1 = .ok (.aload_n 1, 1)) (x2 : decode rx 2 = .ok (.invokespecial ix, 3)) (x5 : decode rx 5 = .ok (.return_, 1)) (hY9 : Bundle.fit Y9 = true)
    (hown : s.vm.findClass own = some m.cls) (hcls : Bundle.fit cls = true) (hnames : ∀ n ∈ names, Bundle.fit n = true)
    (hk : (Cond.classLink own ik cls).before args s = true) (hini : (Cond.initialized cls).before args s = true) (hstr : vk_R own is text sa s) (hat : ∀ w ∈ kv_atS9 own ic cls Y9 ix rx names, w.before args s = true)
    (hgood : ∀ w ∈ Cond.classLink own ik cls :: Cond.initialized cls :: kv_atS9 own ic cls Y9 ix rx names, vx_ot w = true)
    (hU : vx_Zq Bundle.tN "UNASSIGNED_STACK" Bundle.steD A s s.heap) (hN : vx_Zq Bundle.tN "SUPPRESSED_SENTINEL" Bundle.listD A s s.heap) (hS : va_S A s.heap H locs) (hsize : ls.size = c.maxLocals)
    (d0 : decode cc pc = .ok (.new ik, 3)) (d3 : decode cc (pc + 3) = .ok (.dup, 1)) (d4 : decode cc (pc + 4) = .ok (.ldc_w is, 3)) (d6 : decode cc (pc + 7) = .ok (.invokespecial ic, 3))
    (hRframes : names.length + 4 < R.frames) (hRlocals : (rest.map fun v => v.category).sum + (13 * (names.length + 2) + 43) ≤ R.locals) (hRcells : cells + 1 ≤ R.cells) (hRslots : slots + 6 ≤ R.slots)
    (kk : ∀ (q : Nat) (H1 : Heap) (ce : Cell), H1[q]? = some ce → ce.vm = .none → s.vm.findClass cls = some ce.cls → H.size ≤ H1.size → (∀ x : Nat, x < H.size → H1[x]? = H[x]?) → va_S A s.heap H1 locs → W p l e R s m args below meth c H1 locs (cells + 1) (slots + 6) Q (F0 m (pc + 10) ls (.ref q :: rest))) :
    W p l e R s m args below meth c H locs cells slots Q (F0 m pc ls rest) := by
  intro T hT X
  subst hT
  have htr : e.platform.stackTraces = false := (show e.platform.stackTraces = l.stackTraces by rw [X.admits.platform]).trans hl
  have Y := vx_rebase X (R' := { frames := R.frames, locals := R.locals, cells := 1, slots := 6 }) (Nat.le_refl _) (Nat.le_refl _) hRcells hRslots
  obtain ⟨s', hA'⟩ : ∃ z, z = (T.setVm s.vm).setFrames (.invoking m args :: below) := ⟨_, rfl⟩
  rw [← hA'] at Y
  have hvm : s'.vm = s.vm := by rw [hA']; rfl
  have hhp : s'.heap = T.heap := by rw [hA']; rfl
  have hW0 : s.WarmedH s'.vm := by rw [hvm]; exact State.WarmedH.refl s
  have hat' : ∀ w ∈ kv_atS9 own ic cls Y9 ix rx names, w.before args s' = true := fun w hw => vx_ot_at hW0 hvm.symm (hgood w (List.mem_cons_of_mem _ (List.mem_cons_of_mem _ hw))) (hat w hw)
  have hk' : (Cond.classLink own ik cls).before args s' = true := vx_ot_at hW0 hvm.symm (hgood _ List.mem_cons_self) hk
  have hini' : (Cond.initialized cls).before args s' = true := vx_ot_at hW0 hvm.symm (hgood _ (List.mem_cons_of_mem _ List.mem_cons_self)) hini
  have hU' : vx_Zq Bundle.tN "UNASSIGNED_STACK" Bundle.steD A s' s'.heap := by rw [hhp]; exact vx_Zq.moved hW0.alike (hU.kept hS.2.1)
  have hN' : vx_Zq Bundle.tN "SUPPRESSED_SENTINEL" Bundle.listD A s' s'.heap := by rw [hhp]; exact vx_Zq.moved hW0.alike (hN.kept hS.2.1)
  have h : ∀ w ∈ kv_at9 own ic cls Y9 ix rx names, w.before args s' = true := vx_own hat' (vx_isRefq hU'.1) (vx_isRefq hN'.1) hU'.2.word hN'.2.word
  have hown' : s'.vm.findClass own = some m.cls := by rw [hvm]; exact hown
  have hins : (Cond.instantiable cls 6).before args s' = true := h _ (by simp [kv_at9])
  obtain ⟨vm₁, cX, kX, hfX, hkX, -, -, X₁, st1⟩ := Y.newCold hexec (own := own) (C := cls) (index := ik) (n := 6) hown' hk' hins hini'
    (g := F0 m pc ls rest) rfl (by rw [hb]; exact d0) (Nat.le_refl _) (Nat.le_refl _)
  generalize hT1 : (T.setVm vm₁).pushCell { cls := cX, slots := kX.instanceTypes.map defaultValue, vm := .none } = T1 at X₁ st1
  have hcat : (Value.ref T.heap.size).category = 1 := rfl
  have hcellA : T1.heap[T.heap.size]? = some (freshCell cX kX) := by rw [← hT1]; exact State.heap_pushCell_size _ _
  have d3' : decode c.code (pc + 3) = .ok (.dup, 1) := by rw [hb]; exact d3
  have d4' : decode c.code (pc + 4) = .ok (.ldc_w is, 3) := by rw [hb]; exact d4
  have hstr' : vk_R own is text sa s' := vk_R.warm hW0 hstr
  obtain ⟨V, ce, L, Z, hL, hlt, hcl9, hvm9, st⟩ := kv_ctorMadeX X₁ hexec htr (own := own) (cls := cls) (Y9 := Y9) (names := names) (ic := ic) x0 x1 x2 x5 hY9 hown' hcls hnames h (fun x hx => nomatch hx) hfX hkX hcellA (by rw [hhp]; exact Nat.le_refl _) (msg := .ref sa) rfl
    (g := { method := m, pc := pc + 7, locals := ls, stack := .ref sa :: .ref T.heap.size :: .ref T.heap.size :: rest, locked := none }) rfl hsize (rest := rest) rfl
    (by rw [hb]; exact d6) hRframes (by simp only [List.map_cons, List.sum_cons, hcat]; omega)
  have Z0 := Stand.forget (locs := []) Z (fun y hy => by rw [hL y hy, hhp]; exact Nat.le_refl _)
  obtain ⟨f1, f2⟩ := vx_frame Z0.same
  rw [hhp] at f1 f2
  have hcid : s.vm.findClass cls = some ce.cls := by
    rw [hcl9]
    rw [hvm] at hfX
    exact hfX
  have hh : (V.setCell T.heap.size ce).heap[T.heap.size]? = some ce := heapAt_setCell_self (s := V) ce hlt
  subst hA'
  have X5 := vx_back9 X Y Z0
  have X6 : Stand p l e R s m args below meth c (V.setCell T.heap.size ce) locs (cells + 1) (slots + 6) := { X5 with same := X5.same.mono (by omega) (by omega) }
  obtain ⟨t, a1, b1⟩ := kk T.heap.size (V.setCell T.heap.size ce).heap ce hh hvm9 hcid f1 (fun q h1 => f2 q h1 (fun z hz => nomatch hz)) ⟨Nat.le_trans hS.1 f1, fun q h1 h2 => (f2 q (Nat.lt_of_lt_of_le h1 hS.1) (fun z hz => nomatch hz)).trans (hS.2.1 q h1 h2), hS.2.2⟩ _ rfl X6
  refine ⟨t, st1 _ ?_, b1⟩
  show Steps p.tables e below (T1.setTop { method := m, pc := pc + 3, locals := ls, stack := .ref T.heap.size :: rest, locked := none }) _
  jvm_step X₁.here [X₁.here.top, hexec, d3', Value.category]
  exact X₁.ldcStringW hexec (own := own) (text := text) (index := is) (a := sa) hown' hstr'.1 hstr'.2
    (g := { method := m, pc := pc + 4, locals := ls, stack := .ref T.heap.size :: .ref T.heap.size :: rest, locked := none }) rfl d4' _ (st _ a1)
theorem kv_athrow {cc : ByteArray} {pc : Nat} (hexec : p.tables.exec = Jvm.exec) (hb : c.code = cc) {q : Addr} (hdg : decode cc pc = .ok (.athrow, 1)) (k : vx_W p l e R s m args below meth c H locs cells slots Q (F0 m pc ls rest) q) : W p l e R s m args below meth c H locs cells slots Q (F0 m pc ls (.ref q :: rest)) := by
  intro T hT X
  obtain ⟨t, st, hq⟩ := k T hT X
  refine ⟨t, ?_, hq⟩
  have hdg' : decode c.code pc = .ok (.athrow, 1) := by rw [hb]; exact hdg
  jvm_step X.here [X.here.top, hexec, hdg', athrow.wp_sem]
  exact st
end KV92
end
section
def RX0 : String := "CalendaryPlanner$Date"
def TX0 : u_T := fun k => match k with
  | 0 => ("CalendaryPlanner$Date", "meeting", "LCalendaryPlanner$Meeting;", true)
  | 1 => ("CalendaryPlanner$Date", "slot", "LCalendaryPlanner$Slot;", false)
  | 2 => ("CalendaryPlanner$Date", "room", "LCalendaryPlanner$Room;", false)
  | _ => ("CalendaryPlanner$Date", "cancelled", "Z", false)
def tyX0 : Nat → FieldType := fun k => match k with
  | 0 => .object "CalendaryPlanner$Meeting"
  | 1 => .object "CalendaryPlanner$Slot"
  | 2 => .object "CalendaryPlanner$Room"
  | _ => .boolean
abbrev wsX00 : List Cond := u_ws RX0 TX0 4
theorem nmX0 : ∀ a, a < 4 → ∀ b, b < 4 → a ≠ b → (TX0 a).2.1 ≠ (TX0 b).2.1 := by decide +kernel
theorem tyX0_ok : ∀ k, k < 4 → parseFieldDescriptor (TX0 k).2.2.1 = some (tyX0 k) := by decide +kernel
abbrev cX0_init : ByteArray := prog_2_method_1_code
def yX0_init : MethodName := ⟨RX0, "<init>", "(LCalendaryPlanner$Meeting;LCalendaryPlanner$Slot;LCalendaryPlanner$Room;)V"⟩
def RX1 : String := "CalendaryPlanner$Day"
def TX1 : u_T := fun k => match k with
  | _ => ("CalendaryPlanner$Day", "dates", "Ljava/util/ArrayList;", true)
def tyX1 : Nat → FieldType := fun k => match k with
  | _ => .object "java/util/ArrayList"
abbrev wsX10 : List Cond := u_ws RX1 TX1 1
theorem nmX1 : ∀ a, a < 1 → ∀ b, b < 1 → a ≠ b → (TX1 a).2.1 ≠ (TX1 b).2.1 := by decide +kernel
theorem tyX1_ok : ∀ k, k < 1 → parseFieldDescriptor (TX1 k).2.2.1 = some (tyX1 k) := by decide +kernel
abbrev cX1_init : ByteArray := prog_3_method_1_code
def yX1_init : MethodName := ⟨RX1, "<init>", "()V"⟩
abbrev cX1_take : ByteArray := prog_3_method_2_code
def yX1_take : MethodName := ⟨RX1, "take", "(LCalendaryPlanner$Date;)V"⟩
abbrev cX1_drop : ByteArray := prog_3_method_3_code
def yX1_drop : MethodName := ⟨RX1, "drop", "(LCalendaryPlanner$Date;)V"⟩
def RX2 : String := "CalendaryPlanner$Meeting"
def TX2 : u_T := fun k => match k with
  | 0 => ("CalendaryPlanner$Meeting", "number", "I", true)
  | 1 => ("CalendaryPlanner$Meeting", "host", "I", true)
  | 2 => ("CalendaryPlanner$Meeting", "asked", "I", true)
  | 3 => ("CalendaryPlanner$Meeting", "dates", "Ljava/util/ArrayList;", true)
  | 4 => ("CalendaryPlanner$Meeting", "yes", "I", false)
  | _ => ("CalendaryPlanner$Meeting", "no", "I", false)
def tyX2 : Nat → FieldType := fun k => match k with
  | 0 => .int
  | 1 => .int
  | 2 => .int
  | 3 => .object "java/util/ArrayList"
  | 4 => .int
  | _ => .int
abbrev wsX20 : List Cond := u_ws RX2 TX2 6
theorem nmX2 : ∀ a, a < 6 → ∀ b, b < 6 → a ≠ b → (TX2 a).2.1 ≠ (TX2 b).2.1 := by decide +kernel
theorem tyX2_ok : ∀ k, k < 6 → parseFieldDescriptor (TX2 k).2.2.1 = some (tyX2 k) := by decide +kernel
abbrev cX2_init : ByteArray := prog_4_method_1_code
def yX2_init : MethodName := ⟨RX2, "<init>", "(III)V"⟩
abbrev cX2_expectedPeople : ByteArray := prog_4_method_2_code
def yX2_expectedPeople : MethodName := ⟨RX2, "expectedPeople", "()I"⟩
abbrev cX2_expectedCount : ByteArray := prog_4_method_3_code
def yX2_expectedCount : MethodName := ⟨RX2, "expectedCount", "()I"⟩
abbrev cX2_expects : ByteArray := prog_4_method_4_code
def yX2_expects : MethodName := ⟨RX2, "expects", "(I)Z"⟩
abbrev cX2_answerFrom : ByteArray := prog_4_method_5_code
def yX2_answerFrom : MethodName := ⟨RX2, "answerFrom", "(I)C"⟩
abbrev cX2_note : ByteArray := prog_4_method_6_code
def yX2_note : MethodName := ⟨RX2, "note", "(IC)V"⟩
abbrev cX2_standingDates : ByteArray := prog_4_method_7_code
def yX2_standingDates : MethodName := ⟨RX2, "standingDates", "()I"⟩
abbrev cX2_standingTimes : ByteArray := prog_4_method_8_code
def yX2_standingTimes : MethodName := ⟨RX2, "standingTimes", "()I"⟩
def RX3 : String := "CalendaryPlanner$Room"
def TX3 : u_T := fun k => match k with
  | 0 => ("CalendaryPlanner$Room", "number", "I", true)
  | 1 => ("CalendaryPlanner$Room", "seats", "I", false)
  | _ => ("CalendaryPlanner$Room", "house", "I", false)
def tyX3 : Nat → FieldType := fun k => match k with
  | 0 => .int
  | 1 => .int
  | _ => .int
abbrev wsX30 : List Cond := u_ws RX3 TX3 3
theorem nmX3 : ∀ a, a < 3 → ∀ b, b < 3 → a ≠ b → (TX3 a).2.1 ≠ (TX3 b).2.1 := by decide +kernel
theorem tyX3_ok : ∀ k, k < 3 → parseFieldDescriptor (TX3 k).2.2.1 = some (tyX3 k) := by decide +kernel
abbrev cX3_init : ByteArray := prog_5_method_1_code
def yX3_init : MethodName := ⟨RX3, "<init>", "(III)V"⟩
def RX4 : String := "CalendaryPlanner$Slot"
def TX4 : u_T := fun k => match k with
  | 0 => ("CalendaryPlanner$Slot", "day", "I", false)
  | 1 => ("CalendaryPlanner$Slot", "time", "I", false)
  | _ => ("CalendaryPlanner$Slot", "length", "I", true)
def tyX4 : Nat → FieldType := fun k => match k with
  | 0 => .int
  | 1 => .int
  | _ => .int
abbrev wsX40 : List Cond := u_ws RX4 TX4 3
theorem nmX4 : ∀ a, a < 3 → ∀ b, b < 3 → a ≠ b → (TX4 a).2.1 ≠ (TX4 b).2.1 := by decide +kernel
theorem tyX4_ok : ∀ k, k < 3 → parseFieldDescriptor (TX4 k).2.2.1 = some (tyX4 k) := by decide +kernel
abbrev cX4_init : ByteArray := prog_6_method_1_code
def yX4_init : MethodName := ⟨RX4, "<init>", "(III)V"⟩
abbrev cX4_end : ByteArray := prog_6_method_2_code
def yX4_end : MethodName := ⟨RX4, "end", "()I"⟩
abbrev cX4_holds : ByteArray := prog_6_method_3_code
def yX4_holds : MethodName := ⟨RX4, "holds", "(I)Z"⟩
abbrev cX4_timesBetween : ByteArray := prog_6_method_4_code
def yX4_timesBetween : MethodName := ⟨RX4, "timesBetween", "(LCalendaryPlanner$Slot;)I"⟩
def RX5 : String := "CalendaryPlanner"
def TX5 : u_T := fun k => match k with
  | 0 => ("CalendaryPlanner", "rooms", "[LCalendaryPlanner$Room;", true)
  | 1 => ("CalendaryPlanner", "days", "[LCalendaryPlanner$Day;", true)
  | 2 => ("CalendaryPlanner", "meetings", "Ljava/util/ArrayList;", true)
  | 3 => ("CalendaryPlanner", "gap", "I", false)
  | 4 => ("CalendaryPlanner", "nextNumber", "I", false)
  | 5 => ("CalendaryPlanner", "latestReason", "I", false)
  | _ => ("CalendaryPlanner", "latestDetail", "I", false)
def tyX5 : Nat → FieldType := fun k => match k with
  | 0 => .array (.object "CalendaryPlanner$Room")
  | 1 => .array (.object "CalendaryPlanner$Day")
  | 2 => .object "java/util/ArrayList"
  | 3 => .int
  | 4 => .int
  | 5 => .int
  | _ => .int
abbrev wsX50 : List Cond := u_ws RX5 TX5 7
theorem nmX5 : ∀ a, a < 7 → ∀ b, b < 7 → a ≠ b → (TX5 a).2.1 ≠ (TX5 b).2.1 := by decide +kernel
theorem tyX5_ok : ∀ k, k < 7 → parseFieldDescriptor (TX5 k).2.2.1 = some (tyX5 k) := by decide +kernel
abbrev cX5_init : ByteArray := prog_1_method_1_code
def yX5_init : MethodName := ⟨RX5, "<init>", "()V"⟩
abbrev cX5_setRoom : ByteArray := prog_1_method_2_code
def yX5_setRoom : MethodName := ⟨RX5, "setRoom", "(III)I"⟩
abbrev cX5_setGap : ByteArray := prog_1_method_3_code
def yX5_setGap : MethodName := ⟨RX5, "setGap", "(I)I"⟩
abbrev cX5_seatsOf : ByteArray := prog_1_method_4_code
def yX5_seatsOf : MethodName := ⟨RX5, "seatsOf", "(I)I"⟩
abbrev cX5_houseOf : ByteArray := prog_1_method_5_code
def yX5_houseOf : MethodName := ⟨RX5, "houseOf", "(I)I"⟩
abbrev cX5_ask : ByteArray := prog_1_method_6_code
def yX5_ask : MethodName := ⟨RX5, "ask", "(IIIII)I"⟩
abbrev cX5_extend : ByteArray := prog_1_method_7_code
def yX5_extend : MethodName := ⟨RX5, "extend", "(III)I"⟩
abbrev cX5_remove : ByteArray := prog_1_method_8_code
def yX5_remove : MethodName := ⟨RX5, "remove", "(I)I"⟩
abbrev cX5_answer : ByteArray := prog_1_method_9_code
def yX5_answer : MethodName := ⟨RX5, "answer", "(IIC)C"⟩
abbrev cX5_cancel : ByteArray := prog_1_method_10_code
def yX5_cancel : MethodName := ⟨RX5, "cancel", "(II)I"⟩
abbrev cX5_move : ByteArray := prog_1_method_11_code
def yX5_move : MethodName := ⟨RX5, "move", "(IIII)I"⟩
abbrev cX5_meetingCount : ByteArray := prog_1_method_12_code
def yX5_meetingCount : MethodName := ⟨RX5, "meetingCount", "()I"⟩
abbrev cX5_meetingAt : ByteArray := prog_1_method_13_code
def yX5_meetingAt : MethodName := ⟨RX5, "meetingAt", "(I)I"⟩
abbrev cX5_hostOf : ByteArray := prog_1_method_14_code
def yX5_hostOf : MethodName := ⟨RX5, "hostOf", "(I)I"⟩
abbrev cX5_answerOf : ByteArray := prog_1_method_15_code
def yX5_answerOf : MethodName := ⟨RX5, "answerOf", "(II)C"⟩
abbrev cX5_expected : ByteArray := prog_1_method_16_code
def yX5_expected : MethodName := ⟨RX5, "expected", "(I)I"⟩
abbrev cX5_dateCount : ByteArray := prog_1_method_17_code
def yX5_dateCount : MethodName := ⟨RX5, "dateCount", "(I)I"⟩
abbrev cX5_dayOf : ByteArray := prog_1_method_18_code
def yX5_dayOf : MethodName := ⟨RX5, "dayOf", "(II)I"⟩
abbrev cX5_timeOf : ByteArray := prog_1_method_19_code
def yX5_timeOf : MethodName := ⟨RX5, "timeOf", "(II)I"⟩
abbrev cX5_isCancelled : ByteArray := prog_1_method_20_code
def yX5_isCancelled : MethodName := ⟨RX5, "isCancelled", "(II)Z"⟩
abbrev cX5_roomOf : ByteArray := prog_1_method_21_code
def yX5_roomOf : MethodName := ⟨RX5, "roomOf", "(II)I"⟩
abbrev cX5_refusalReason : ByteArray := prog_1_method_22_code
def yX5_refusalReason : MethodName := ⟨RX5, "refusalReason", "()I"⟩
abbrev cX5_refusalDetail : ByteArray := prog_1_method_23_code
def yX5_refusalDetail : MethodName := ⟨RX5, "refusalDetail", "()I"⟩
abbrev cX5_isFree : ByteArray := prog_1_method_24_code
def yX5_isFree : MethodName := ⟨RX5, "isFree", "(III)Z"⟩
abbrev cX5_meetingOf : ByteArray := prog_1_method_25_code
def yX5_meetingOf : MethodName := ⟨RX5, "meetingOf", "(III)I"⟩
abbrev cX5_freeTimes : ByteArray := prog_1_method_26_code
def yX5_freeTimes : MethodName := ⟨RX5, "freeTimes", "(II)I"⟩
abbrev cX5_freeByTrying : ByteArray := prog_1_method_27_code
def yX5_freeByTrying : MethodName := ⟨RX5, "freeByTrying", "(II)I"⟩
abbrev cX5_longestFree : ByteArray := prog_1_method_28_code
def yX5_longestFree : MethodName := ⟨RX5, "longestFree", "(II)I"⟩
abbrev cX5_firstCommon : ByteArray := prog_1_method_29_code
def yX5_firstCommon : MethodName := ⟨RX5, "firstCommon", "(III)I"⟩
abbrev cX5_commonCount : ByteArray := prog_1_method_30_code
def yX5_commonCount : MethodName := ⟨RX5, "commonCount", "(III)I"⟩
abbrev cX5_roomFor : ByteArray := prog_1_method_31_code
def yX5_roomFor : MethodName := ⟨RX5, "roomFor", "(IIII)I"⟩
abbrev cX5_usedTimes : ByteArray := prog_1_method_32_code
def yX5_usedTimes : MethodName := ⟨RX5, "usedTimes", "(II)I"⟩
abbrev cX5_walks : ByteArray := prog_1_method_33_code
def yX5_walks : MethodName := ⟨RX5, "walks", "(II)I"⟩
abbrev cX5_sittings : ByteArray := prog_1_method_34_code
def yX5_sittings : MethodName := ⟨RX5, "sittings", "()J"⟩
abbrev cX5_meanExpected : ByteArray := prog_1_method_35_code
def yX5_meanExpected : MethodName := ⟨RX5, "meanExpected", "()D"⟩
abbrev cX5_yesShare : ByteArray := prog_1_method_36_code
def yX5_yesShare : MethodName := ⟨RX5, "yesShare", "()F"⟩
abbrev cX5_isConsistent : ByteArray := prog_1_method_37_code
def yX5_isConsistent : MethodName := ⟨RX5, "isConsistent", "()Z"⟩
abbrev cX5_requireWithin : ByteArray := prog_1_method_38_code
def yX5_requireWithin : MethodName := ⟨RX5, "requireWithin", "(III)V"⟩
abbrev cX5_requirePerson : ByteArray := prog_1_method_39_code
def yX5_requirePerson : MethodName := ⟨RX5, "requirePerson", "(I)V"⟩
abbrev cX5_requireDay : ByteArray := prog_1_method_40_code
def yX5_requireDay : MethodName := ⟨RX5, "requireDay", "(I)V"⟩
abbrev cX5_requireSlot : ByteArray := prog_1_method_41_code
def yX5_requireSlot : MethodName := ⟨RX5, "requireSlot", "(III)V"⟩
abbrev cX5_requireRefusal : ByteArray := prog_1_method_42_code
def yX5_requireRefusal : MethodName := ⟨RX5, "requireRefusal", "()V"⟩
abbrev cX5_roomWith : ByteArray := prog_1_method_43_code
def yX5_roomWith : MethodName := ⟨RX5, "roomWith", "(I)LCalendaryPlanner$Room;"⟩
abbrev cX5_dayWith : ByteArray := prog_1_method_44_code
def yX5_dayWith : MethodName := ⟨RX5, "dayWith", "(I)LCalendaryPlanner$Day;"⟩
abbrev cX5_rankOf : ByteArray := prog_1_method_45_code
def yX5_rankOf : MethodName := ⟨RX5, "rankOf", "(I)I"⟩
abbrev cX5_meetingWith : ByteArray := prog_1_method_46_code
def yX5_meetingWith : MethodName := ⟨RX5, "meetingWith", "(I)LCalendaryPlanner$Meeting;"⟩
abbrev cX5_dateWith : ByteArray := prog_1_method_47_code
def yX5_dateWith : MethodName := ⟨RX5, "dateWith", "(LCalendaryPlanner$Meeting;I)LCalendaryPlanner$Date;"⟩
abbrev cX5_standingDateWith : ByteArray := prog_1_method_48_code
def yX5_standingDateWith : MethodName := ⟨RX5, "standingDateWith", "(LCalendaryPlanner$Meeting;I)LCalendaryPlanner$Date;"⟩
abbrev cX5_bitOf : ByteArray := prog_1_method_49_code
def yX5_bitOf : MethodName := ⟨RX5, "bitOf", "(I)I"⟩
abbrev cX5_holdsPerson : ByteArray := prog_1_method_50_code
def yX5_holdsPerson : MethodName := ⟨RX5, "holdsPerson", "(II)Z"⟩
abbrev cX5_lowestPerson : ByteArray := prog_1_method_51_code
def yX5_lowestPerson : MethodName := ⟨RX5, "lowestPerson", "(I)I"⟩
abbrev cX5_planDates : ByteArray := prog_1_method_52_code
def yX5_planDates : MethodName := ⟨RX5, "planDates", "(LCalendaryPlanner$Meeting;Ljava/util/ArrayList;)V"⟩
abbrev cX5_putOnItsDay : ByteArray := prog_1_method_53_code
def yX5_putOnItsDay : MethodName := ⟨RX5, "putOnItsDay", "(LCalendaryPlanner$Date;)V"⟩
abbrev cX5_takeOffItsDay : ByteArray := prog_1_method_54_code
def yX5_takeOffItsDay : MethodName := ⟨RX5, "takeOffItsDay", "(LCalendaryPlanner$Date;)V"⟩
abbrev cX5_noteRefusal : ByteArray := prog_1_method_55_code
def yX5_noteRefusal : MethodName := ⟨RX5, "noteRefusal", "(II)V"⟩
abbrev cX5_requireNobodyBusy : ByteArray := prog_1_method_56_code
def yX5_requireNobodyBusy : MethodName := ⟨RX5, "requireNobodyBusy", "(LCalendaryPlanner$Meeting;LCalendaryPlanner$Slot;LCalendaryPlanner$Date;)V"⟩
abbrev cX5_requireRoom : ByteArray := prog_1_method_57_code
def yX5_requireRoom : MethodName := ⟨RX5, "requireRoom", "(LCalendaryPlanner$Meeting;ILCalendaryPlanner$Slot;LCalendaryPlanner$Date;)LCalendaryPlanner$Room;"⟩
abbrev cX5_requireSeatsLeft : ByteArray := prog_1_method_58_code
def yX5_requireSeatsLeft : MethodName := ⟨RX5, "requireSeatsLeft", "(LCalendaryPlanner$Meeting;)V"⟩
abbrev cX5_requireNoClashFor : ByteArray := prog_1_method_59_code
def yX5_requireNoClashFor : MethodName := ⟨RX5, "requireNoClashFor", "(ILCalendaryPlanner$Meeting;)V"⟩
abbrev cX5_busyPeople : ByteArray := prog_1_method_60_code
def yX5_busyPeople : MethodName := ⟨RX5, "busyPeople", "(LCalendaryPlanner$Slot;LCalendaryPlanner$Date;)I"⟩
abbrev cX5_bestRoom : ByteArray := prog_1_method_61_code
def yX5_bestRoom : MethodName := ⟨RX5, "bestRoom", "(ILCalendaryPlanner$Slot;LCalendaryPlanner$Date;)LCalendaryPlanner$Room;"⟩
abbrev cX5_isTaken : ByteArray := prog_1_method_62_code
def yX5_isTaken : MethodName := ⟨RX5, "isTaken", "(LCalendaryPlanner$Room;LCalendaryPlanner$Slot;LCalendaryPlanner$Date;)Z"⟩
abbrev cX5_wouldClash : ByteArray := prog_1_method_63_code
def yX5_wouldClash : MethodName := ⟨RX5, "wouldClash", "(ILCalendaryPlanner$Meeting;LCalendaryPlanner$Slot;LCalendaryPlanner$Room;LCalendaryPlanner$Date;)Z"⟩
abbrev cX5_dateOfPersonAt : ByteArray := prog_1_method_64_code
def yX5_dateOfPersonAt : MethodName := ⟨RX5, "dateOfPersonAt", "(III)LCalendaryPlanner$Date;"⟩
abbrev cX5_countFreeBySweep : ByteArray := prog_1_method_65_code
def yX5_countFreeBySweep : MethodName := ⟨RX5, "countFreeBySweep", "(II)I"⟩
abbrev cX5_countFreeByTrying : ByteArray := prog_1_method_66_code
def yX5_countFreeByTrying : MethodName := ⟨RX5, "countFreeByTrying", "(II)I"⟩
abbrev cX5_commonRoom : ByteArray := prog_1_method_67_code
def yX5_commonRoom : MethodName := ⟨RX5, "commonRoom", "(ILCalendaryPlanner$Slot;)LCalendaryPlanner$Room;"⟩
abbrev cX5_hasDoubleUse : ByteArray := prog_1_method_68_code
def yX5_hasDoubleUse : MethodName := ⟨RX5, "hasDoubleUse", "(I)Z"⟩
abbrev cX5_countsAgree : ByteArray := prog_1_method_69_code
def yX5_countsAgree : MethodName := ⟨RX5, "countsAgree", "(I)Z"⟩
def RX6 : String := "CalendaryPlannerModel"
def TX6 : u_T := fun k => match k with
  | 0 => ("CalendaryPlannerModel", "g", "[I", true)
  | 1 => ("CalendaryPlannerModel", "code", "I", false)
  | 2 => ("CalendaryPlannerModel", "withoutMeeting", "I", false)
  | 3 => ("CalendaryPlannerModel", "withoutDate", "I", false)
  | _ => ("CalendaryPlannerModel", "rooms", "[I", true)
def tyX6 : Nat → FieldType := fun k => match k with
  | 0 => .array .int
  | 1 => .int
  | 2 => .int
  | 3 => .int
  | _ => .array .int
abbrev wsX60 : List Cond := u_ws RX6 TX6 5
theorem nmX6 : ∀ a, a < 5 → ∀ b, b < 5 → a ≠ b → (TX6 a).2.1 ≠ (TX6 b).2.1 := by decide +kernel
theorem tyX6_ok : ∀ k, k < 5 → parseFieldDescriptor (TX6 k).2.2.1 = some (tyX6 k) := by decide +kernel
abbrev cX6_init : ByteArray := prog_8_method_1_code
def yX6_init : MethodName := ⟨RX6, "<init>", "()V"⟩
abbrev cX6_thrown : ByteArray := prog_8_method_2_code
def yX6_thrown : MethodName := ⟨RX6, "thrown", "()I"⟩
abbrev cX6_fails : ByteArray := prog_8_method_3_code
def yX6_fails : MethodName := ⟨RX6, "fails", "(I)Z"⟩
abbrev cX6_in : ByteArray := prog_8_method_4_code
def yX6_in : MethodName := ⟨RX6, "in", "(III)Z"⟩
abbrev cX6_isRoom : ByteArray := prog_8_method_5_code
def yX6_isRoom : MethodName := ⟨RX6, "isRoom", "(I)Z"⟩
abbrev cX6_isPerson : ByteArray := prog_8_method_6_code
def yX6_isPerson : MethodName := ⟨RX6, "isPerson", "(I)Z"⟩
abbrev cX6_isDay : ByteArray := prog_8_method_7_code
def yX6_isDay : MethodName := ⟨RX6, "isDay", "(I)Z"⟩
abbrev cX6_isTime : ByteArray := prog_8_method_8_code
def yX6_isTime : MethodName := ⟨RX6, "isTime", "(I)Z"⟩
abbrev cX6_setRoom : ByteArray := prog_8_method_9_code
def yX6_setRoom : MethodName := ⟨RX6, "setRoom", "(III)I"⟩
abbrev cX6_setGap : ByteArray := prog_8_method_10_code
def yX6_setGap : MethodName := ⟨RX6, "setGap", "(I)I"⟩
abbrev cX6_seatsOf : ByteArray := prog_8_method_11_code
def yX6_seatsOf : MethodName := ⟨RX6, "seatsOf", "(I)I"⟩
abbrev cX6_houseOf : ByteArray := prog_8_method_12_code
def yX6_houseOf : MethodName := ⟨RX6, "houseOf", "(I)I"⟩
abbrev cX6_of : ByteArray := prog_8_method_13_code
def yX6_of : MethodName := ⟨RX6, "of", "(II)I"⟩
abbrev cX6_lays : ByteArray := prog_8_method_14_code
def yX6_lays : MethodName := ⟨RX6, "lays", "(III)V"⟩
abbrev cX6_date : ByteArray := prog_8_method_15_code
def yX6_date : MethodName := ⟨RX6, "date", "(III)I"⟩
abbrev cX6_at : ByteArray := prog_8_method_16_code
def yX6_at : MethodName := ⟨RX6, "at", "(I)I"⟩
abbrev cX6_isExpected : ByteArray := prog_8_method_17_code
def yX6_isExpected : MethodName := ⟨RX6, "isExpected", "(II)Z"⟩
abbrev cX6_people : ByteArray := prog_8_method_18_code
def yX6_people : MethodName := ⟨RX6, "people", "(I)I"⟩
abbrev cX6_many : ByteArray := prog_8_method_19_code
def yX6_many : MethodName := ⟨RX6, "many", "(I)I"⟩
abbrev cX6_isOn : ByteArray := prog_8_method_20_code
def yX6_isOn : MethodName := ⟨RX6, "isOn", "(II)Z"⟩
abbrev cX6_between : ByteArray := prog_8_method_21_code
def yX6_between : MethodName := ⟨RX6, "between", "(IIII)I"⟩
abbrev cX6_counts : ByteArray := prog_8_method_22_code
def yX6_counts : MethodName := ⟨RX6, "counts", "(III)Z"⟩
abbrev cX6_busy : ByteArray := prog_8_method_23_code
def yX6_busy : MethodName := ⟨RX6, "busy", "(IIII)I"⟩
abbrev cX6_fits : ByteArray := prog_8_method_24_code
def yX6_fits : MethodName := ⟨RX6, "fits", "(IIIII)Z"⟩
abbrev cX6_smallest : ByteArray := prog_8_method_25_code
def yX6_smallest : MethodName := ⟨RX6, "smallest", "(IIII)I"⟩
abbrev cX6_refuses : ByteArray := prog_8_method_26_code
def yX6_refuses : MethodName := ⟨RX6, "refuses", "(III)Z"⟩
abbrev cX6_dates : ByteArray := prog_8_method_27_code
def yX6_dates : MethodName := ⟨RX6, "dates", "(IIIII)V"⟩
abbrev cX6_ask : ByteArray := prog_8_method_28_code
def yX6_ask : MethodName := ⟨RX6, "ask", "(IIIII)I"⟩
abbrev cX6_extend : ByteArray := prog_8_method_29_code
def yX6_extend : MethodName := ⟨RX6, "extend", "(III)I"⟩
abbrev cX6_isNone : ByteArray := prog_8_method_30_code
def yX6_isNone : MethodName := ⟨RX6, "isNone", "(I)Z"⟩
abbrev cX6_isNoDate : ByteArray := prog_8_method_31_code
def yX6_isNoDate : MethodName := ⟨RX6, "isNoDate", "(II)Z"⟩
abbrev cX6_remove : ByteArray := prog_8_method_32_code
def yX6_remove : MethodName := ⟨RX6, "remove", "(I)I"⟩
abbrev cX6_isKeptOut : ByteArray := prog_8_method_33_code
def yX6_isKeptOut : MethodName := ⟨RX6, "isKeptOut", "(II)Z"⟩
abbrev cX6_clashes : ByteArray := prog_8_method_34_code
def yX6_clashes : MethodName := ⟨RX6, "clashes", "(III)Z"⟩
abbrev cX6_answer : ByteArray := prog_8_method_35_code
def yX6_answer : MethodName := ⟨RX6, "answer", "(IIC)C"⟩
abbrev cX6_cancel : ByteArray := prog_8_method_36_code
def yX6_cancel : MethodName := ⟨RX6, "cancel", "(II)I"⟩
abbrev cX6_move : ByteArray := prog_8_method_37_code
def yX6_move : MethodName := ⟨RX6, "move", "(IIII)I"⟩
abbrev cX6_meetingCount : ByteArray := prog_8_method_38_code
def yX6_meetingCount : MethodName := ⟨RX6, "meetingCount", "()I"⟩
abbrev cX6_meetingAt : ByteArray := prog_8_method_39_code
def yX6_meetingAt : MethodName := ⟨RX6, "meetingAt", "(I)I"⟩
abbrev cX6_hostOf : ByteArray := prog_8_method_40_code
def yX6_hostOf : MethodName := ⟨RX6, "hostOf", "(I)I"⟩
abbrev cX6_answerOf : ByteArray := prog_8_method_41_code
def yX6_answerOf : MethodName := ⟨RX6, "answerOf", "(II)C"⟩
abbrev cX6_expected : ByteArray := prog_8_method_42_code
def yX6_expected : MethodName := ⟨RX6, "expected", "(I)I"⟩
abbrev cX6_dateCount : ByteArray := prog_8_method_43_code
def yX6_dateCount : MethodName := ⟨RX6, "dateCount", "(I)I"⟩
abbrev cX6_dayOf : ByteArray := prog_8_method_44_code
def yX6_dayOf : MethodName := ⟨RX6, "dayOf", "(II)I"⟩
abbrev cX6_timeOf : ByteArray := prog_8_method_45_code
def yX6_timeOf : MethodName := ⟨RX6, "timeOf", "(II)I"⟩
abbrev cX6_isCancelled : ByteArray := prog_8_method_46_code
def yX6_isCancelled : MethodName := ⟨RX6, "isCancelled", "(II)Z"⟩
abbrev cX6_roomOf : ByteArray := prog_8_method_47_code
def yX6_roomOf : MethodName := ⟨RX6, "roomOf", "(II)I"⟩
abbrev cX6_refusalReason : ByteArray := prog_8_method_48_code
def yX6_refusalReason : MethodName := ⟨RX6, "refusalReason", "()I"⟩
abbrev cX6_refusalDetail : ByteArray := prog_8_method_49_code
def yX6_refusalDetail : MethodName := ⟨RX6, "refusalDetail", "()I"⟩
abbrev cX6_isFreeAt : ByteArray := prog_8_method_50_code
def yX6_isFreeAt : MethodName := ⟨RX6, "isFreeAt", "(III)Z"⟩
abbrev cX6_isNoTime : ByteArray := prog_8_method_51_code
def yX6_isNoTime : MethodName := ⟨RX6, "isNoTime", "(III)Z"⟩
abbrev cX6_isFree : ByteArray := prog_8_method_52_code
def yX6_isFree : MethodName := ⟨RX6, "isFree", "(III)Z"⟩
abbrev cX6_meetingOf : ByteArray := prog_8_method_53_code
def yX6_meetingOf : MethodName := ⟨RX6, "meetingOf", "(III)I"⟩
abbrev cX6_frees : ByteArray := prog_8_method_54_code
def yX6_frees : MethodName := ⟨RX6, "frees", "(II)I"⟩
abbrev cX6_freeTimes : ByteArray := prog_8_method_55_code
def yX6_freeTimes : MethodName := ⟨RX6, "freeTimes", "(II)I"⟩
abbrev cX6_freeByTrying : ByteArray := prog_8_method_56_code
def yX6_freeByTrying : MethodName := ⟨RX6, "freeByTrying", "(II)I"⟩
abbrev cX6_longestFree : ByteArray := prog_8_method_57_code
def yX6_longestFree : MethodName := ⟨RX6, "longestFree", "(II)I"⟩
abbrev cX6_isNoPlan : ByteArray := prog_8_method_58_code
def yX6_isNoPlan : MethodName := ⟨RX6, "isNoPlan", "(III)Z"⟩
abbrev cX6_roomFound : ByteArray := prog_8_method_59_code
def yX6_roomFound : MethodName := ⟨RX6, "roomFound", "(IIII)I"⟩
abbrev cX6_firstCommon : ByteArray := prog_8_method_60_code
def yX6_firstCommon : MethodName := ⟨RX6, "firstCommon", "(III)I"⟩
abbrev cX6_commonCount : ByteArray := prog_8_method_61_code
def yX6_commonCount : MethodName := ⟨RX6, "commonCount", "(III)I"⟩
abbrev cX6_roomFor : ByteArray := prog_8_method_62_code
def yX6_roomFor : MethodName := ⟨RX6, "roomFor", "(IIII)I"⟩
abbrev cX6_usedTimes : ByteArray := prog_8_method_63_code
def yX6_usedTimes : MethodName := ⟨RX6, "usedTimes", "(II)I"⟩
abbrev cX6_walks : ByteArray := prog_8_method_64_code
def yX6_walks : MethodName := ⟨RX6, "walks", "(II)I"⟩
abbrev cX6_sittings : ByteArray := prog_8_method_65_code
def yX6_sittings : MethodName := ⟨RX6, "sittings", "()J"⟩
abbrev cX6_meanExpected : ByteArray := prog_8_method_66_code
def yX6_meanExpected : MethodName := ⟨RX6, "meanExpected", "()D"⟩
abbrev cX6_yesShare : ByteArray := prog_8_method_67_code
def yX6_yesShare : MethodName := ⟨RX6, "yesShare", "()F"⟩
abbrev cX6_isConsistent : ByteArray := prog_8_method_68_code
def yX6_isConsistent : MethodName := ⟨RX6, "isConsistent", "()Z"⟩
abbrev cX6_meetsItself : ByteArray := prog_8_method_69_code
def yX6_meetsItself : MethodName := ⟨RX6, "meetsItself", "(III)Z"⟩
def RJx145de : String := "java/io/Serializable"
def TJx145de : u_T := fun k => match k with
  | _ => ("", "", "", false)
def tyJx145de : Nat → FieldType := fun k => match k with
  | _ => .int
abbrev wsJx145de0 : List Cond := u_ws RJx145de TJx145de 0
theorem nmJx145de : ∀ a, a < 0 → ∀ b, b < 0 → a ≠ b → (TJx145de a).2.1 ≠ (TJx145de b).2.1 := by decide +kernel
theorem tyJx145de_ok : ∀ k, k < 0 → parseFieldDescriptor (TJx145de k).2.2.1 = some (tyJx145de k) := by decide +kernel
def RJ5 : String := "java/lang/AbstractStringBuilder"
def TJ5 : u_T := fun k => match k with
  | _ => ("", "", "", false)
def tyJ5 : Nat → FieldType := fun k => match k with
  | _ => .int
abbrev wsJ50 : List Cond := u_ws RJ5 TJ5 0
theorem nmJ5 : ∀ a, a < 0 → ∀ b, b < 0 → a ≠ b → (TJ5 a).2.1 ≠ (TJ5 b).2.1 := by decide +kernel
theorem tyJ5_ok : ∀ k, k < 0 → parseFieldDescriptor (TJ5 k).2.2.1 = some (tyJ5 k) := by decide +kernel
abbrev cJ5_init_d00df : ByteArray := prog_10_method_2_code
def yJ5_init_d00df : MethodName := ⟨RJ5, "<init>", "(I)V"⟩
abbrev cJ5_length_8abf5 : ByteArray := prog_10_method_6_code
def yJ5_length_8abf5 : MethodName := ⟨RJ5, "length", "()I"⟩
abbrev cJ5_ensureCapacityInternal_d00df : ByteArray := prog_10_method_9_code
def yJ5_ensureCapacityInternal_d00df : MethodName := ⟨RJ5, "ensureCapacityInternal", "(I)V"⟩
abbrev cJ5_newCapacity_0f7a4 : ByteArray := prog_10_method_10_code
def yJ5_newCapacity_0f7a4 : MethodName := ⟨RJ5, "newCapacity", "(I)I"⟩
abbrev cJ5_inflate_da8c8 : ByteArray := prog_10_method_11_code
def yJ5_inflate_da8c8 : MethodName := ⟨RJ5, "inflate", "()V"⟩
abbrev cJ5_append_cf1ce : ByteArray := prog_10_method_22_code
def yJ5_append_cf1ce : MethodName := ⟨RJ5, "append", "(Ljava/lang/String;)Ljava/lang/AbstractStringBuilder;"⟩
abbrev cJ5_appendNull_278bc : ByteArray := prog_10_method_26_code
def yJ5_appendNull_278bc : MethodName := ⟨RJ5, "appendNull", "()Ljava/lang/AbstractStringBuilder;"⟩
abbrev cJ5_append_c97b9 : ByteArray := prog_10_method_32_code
def yJ5_append_c97b9 : MethodName := ⟨RJ5, "append", "(I)Ljava/lang/AbstractStringBuilder;"⟩
abbrev cJ5_getValue_6d5f1 : ByteArray := prog_10_method_64_code
def yJ5_getValue_6d5f1 : MethodName := ⟨RJ5, "getValue", "()[B"⟩
abbrev cJ5_isLatin1_aae02 : ByteArray := prog_10_method_68_code
def yJ5_isLatin1_aae02 : MethodName := ⟨RJ5, "isLatin1", "()Z"⟩
abbrev cJ5_inflateIfNeededFor_a7421 : ByteArray := prog_10_method_71_code
def yJ5_inflateIfNeededFor_a7421 : MethodName := ⟨RJ5, "inflateIfNeededFor", "(Ljava/lang/String;)V"⟩
abbrev cJ5_putStringAt_47b60 : ByteArray := prog_10_method_73_code
def yJ5_putStringAt_47b60 : MethodName := ⟨RJ5, "putStringAt", "(ILjava/lang/String;)V"⟩
def RJx2cfe8 : String := "java/lang/Appendable"
def TJx2cfe8 : u_T := fun k => match k with
  | _ => ("", "", "", false)
def tyJx2cfe8 : Nat → FieldType := fun k => match k with
  | _ => .int
abbrev wsJx2cfe80 : List Cond := u_ws RJx2cfe8 TJx2cfe8 0
theorem nmJx2cfe8 : ∀ a, a < 0 → ∀ b, b < 0 → a ≠ b → (TJx2cfe8 a).2.1 ≠ (TJx2cfe8 b).2.1 := by decide +kernel
theorem tyJx2cfe8_ok : ∀ k, k < 0 → parseFieldDescriptor (TJx2cfe8 k).2.2.1 = some (tyJx2cfe8 k) := by decide +kernel
def RJx00060 : String := "java/lang/ArrayIndexOutOfBoundsException"
def TJx00060 : u_T := fun k => match k with
  | 0 => ("java/lang/Throwable", "backtrace", "Ljava/lang/Object;", false)
  | 1 => ("java/lang/Throwable", "detailMessage", "Ljava/lang/String;", false)
  | 2 => ("java/lang/Throwable", "cause", "Ljava/lang/Throwable;", false)
  | 3 => ("java/lang/Throwable", "stackTrace", "[Ljava/lang/StackTraceElement;", false)
  | 4 => ("java/lang/Throwable", "depth", "I", false)
  | _ => ("java/lang/Throwable", "suppressedExceptions", "Ljava/util/List;", false)
def tyJx00060 : Nat → FieldType := fun k => match k with
  | 0 => .object "java/lang/Object"
  | 1 => .object "java/lang/String"
  | 2 => .object "java/lang/Throwable"
  | 3 => .array (.object "java/lang/StackTraceElement")
  | 4 => .int
  | _ => .object "java/util/List"
abbrev wsJx000600 : List Cond := u_ws RJx00060 TJx00060 6
theorem nmJx00060 : ∀ a, a < 6 → ∀ b, b < 6 → a ≠ b → (TJx00060 a).2.1 ≠ (TJx00060 b).2.1 := by decide +kernel
theorem tyJx00060_ok : ∀ k, k < 6 → parseFieldDescriptor (TJx00060 k).2.2.1 = some (tyJx00060 k) := by decide +kernel
abbrev cJx00060_init_a7421 : ByteArray := prog_13_method_2_code
def yJx00060_init_a7421 : MethodName := ⟨RJx00060, "<init>", "(Ljava/lang/String;)V"⟩
def RJx9f9b0 : String := "java/lang/CharSequence"
def TJx9f9b0 : u_T := fun k => match k with
  | _ => ("", "", "", false)
def tyJx9f9b0 : Nat → FieldType := fun k => match k with
  | _ => .int
abbrev wsJx9f9b00 : List Cond := u_ws RJx9f9b0 TJx9f9b0 0
theorem nmJx9f9b0 : ∀ a, a < 0 → ∀ b, b < 0 → a ≠ b → (TJx9f9b0 a).2.1 ≠ (TJx9f9b0 b).2.1 := by decide +kernel
theorem tyJx9f9b0_ok : ∀ k, k < 0 → parseFieldDescriptor (TJx9f9b0 k).2.2.1 = some (tyJx9f9b0 k) := by decide +kernel
def RJx8e188 : String := "java/lang/Cloneable"
def TJx8e188 : u_T := fun k => match k with
  | _ => ("", "", "", false)
def tyJx8e188 : Nat → FieldType := fun k => match k with
  | _ => .int
abbrev wsJx8e1880 : List Cond := u_ws RJx8e188 TJx8e188 0
theorem nmJx8e188 : ∀ a, a < 0 → ∀ b, b < 0 → a ≠ b → (TJx8e188 a).2.1 ≠ (TJx8e188 b).2.1 := by decide +kernel
theorem tyJx8e188_ok : ∀ k, k < 0 → parseFieldDescriptor (TJx8e188 k).2.2.1 = some (tyJx8e188 k) := by decide +kernel
def RJxb160c : String := "java/lang/Comparable"
def TJxb160c : u_T := fun k => match k with
  | _ => ("", "", "", false)
def tyJxb160c : Nat → FieldType := fun k => match k with
  | _ => .int
abbrev wsJxb160c0 : List Cond := u_ws RJxb160c TJxb160c 0
theorem nmJxb160c : ∀ a, a < 0 → ∀ b, b < 0 → a ≠ b → (TJxb160c a).2.1 ≠ (TJxb160c b).2.1 := by decide +kernel
theorem tyJxb160c_ok : ∀ k, k < 0 → parseFieldDescriptor (TJxb160c k).2.2.1 = some (tyJxb160c k) := by decide +kernel
def RJ6 : String := "java/lang/Integer"
def TJ6 : u_T := fun k => match k with
  | _ => ("", "", "", false)
def tyJ6 : Nat → FieldType := fun k => match k with
  | _ => .int
abbrev wsJ60 : List Cond := u_ws RJ6 TJ6 0
theorem nmJ6 : ∀ a, a < 0 → ∀ b, b < 0 → a ≠ b → (TJ6 a).2.1 ≠ (TJ6 b).2.1 := by decide +kernel
theorem tyJ6_ok : ∀ k, k < 0 → parseFieldDescriptor (TJ6 k).2.2.1 = some (tyJ6 k) := by decide +kernel
abbrev cJ6_getChars_ba4f3 : ByteArray := prog_21_method_12_code
def yJ6_getChars_ba4f3 : MethodName := ⟨RJ6, "getChars", "(II[B)I"⟩
abbrev cJ6_stringSize_0f7a4 : ByteArray := prog_21_method_13_code
def yJ6_stringSize_0f7a4 : MethodName := ⟨RJ6, "stringSize", "(I)I"⟩
abbrev cJ6_bitCount_0f7a4 : ByteArray := prog_21_method_49_code
def yJ6_bitCount_0f7a4 : MethodName := ⟨RJ6, "bitCount", "(I)I"⟩
def RJxab1ab : String := "java/lang/Iterable"
def TJxab1ab : u_T := fun k => match k with
  | _ => ("", "", "", false)
def tyJxab1ab : Nat → FieldType := fun k => match k with
  | _ => .int
abbrev wsJxab1ab0 : List Cond := u_ws RJxab1ab TJxab1ab 0
theorem nmJxab1ab : ∀ a, a < 0 → ∀ b, b < 0 → a ≠ b → (TJxab1ab a).2.1 ≠ (TJxab1ab b).2.1 := by decide +kernel
theorem tyJxab1ab_ok : ∀ k, k < 0 → parseFieldDescriptor (TJxab1ab k).2.2.1 = some (tyJxab1ab k) := by decide +kernel
def RJ9 : String := "java/lang/Math"
def TJ9 : u_T := fun k => match k with
  | _ => ("", "", "", false)
def tyJ9 : Nat → FieldType := fun k => match k with
  | _ => .int
abbrev wsJ90 : List Cond := u_ws RJ9 TJ9 0
theorem nmJ9 : ∀ a, a < 0 → ∀ b, b < 0 → a ≠ b → (TJ9 a).2.1 ≠ (TJ9 b).2.1 := by decide +kernel
theorem tyJ9_ok : ∀ k, k < 0 → parseFieldDescriptor (TJ9 k).2.2.1 = some (tyJ9 k) := by decide +kernel
abbrev cJ9_max_7cf53 : ByteArray := prog_23_method_65_code
def yJ9_max_7cf53 : MethodName := ⟨RJ9, "max", "(II)I"⟩
abbrev cJ9_min_7cf53 : ByteArray := prog_23_method_69_code
def yJ9_min_7cf53 : MethodName := ⟨RJ9, "min", "(II)I"⟩
def RJxd2413 : String := "java/lang/Number"
def TJxd2413 : u_T := fun k => match k with
  | _ => ("", "", "", false)
def tyJxd2413 : Nat → FieldType := fun k => match k with
  | _ => .int
abbrev wsJxd24130 : List Cond := u_ws RJxd2413 TJxd2413 0
theorem nmJxd2413 : ∀ a, a < 0 → ∀ b, b < 0 → a ≠ b → (TJxd2413 a).2.1 ≠ (TJxd2413 b).2.1 := by decide +kernel
theorem tyJxd2413_ok : ∀ k, k < 0 → parseFieldDescriptor (TJxd2413 k).2.2.1 = some (tyJxd2413 k) := by decide +kernel
def RJ0 : String := "java/lang/String"
def TJ0 : u_T := fun k => match k with
  | 0 => ("java/lang/String", "value", "[B", true)
  | 1 => ("java/lang/String", "coder", "B", true)
  | 2 => ("java/lang/String", "hash", "I", false)
  | _ => ("java/lang/String", "hashIsZero", "Z", false)
def tyJ0 : Nat → FieldType := fun k => match k with
  | 0 => .array .byte
  | 1 => .byte
  | 2 => .int
  | _ => .boolean
abbrev wsJ00 : List Cond := u_ws RJ0 TJ0 4
theorem nmJ0 : ∀ a, a < 4 → ∀ b, b < 4 → a ≠ b → (TJ0 a).2.1 ≠ (TJ0 b).2.1 := by decide +kernel
theorem tyJ0_ok : ∀ k, k < 4 → parseFieldDescriptor (TJ0 k).2.2.1 = some (tyJ0 k) := by decide +kernel
abbrev cJ0_init_81219 : ByteArray := prog_26_method_53_code
def yJ0_init_81219 : MethodName := ⟨RJ0, "<init>", "(Ljava/lang/StringBuilder;)V"⟩
abbrev cJ0_length_8abf5 : ByteArray := prog_26_method_54_code
def yJ0_length_8abf5 : MethodName := ⟨RJ0, "length", "()I"⟩
abbrev cJ0_getBytes_840e7 : ByteArray := prog_26_method_147_code
def yJ0_getBytes_840e7 : MethodName := ⟨RJ0, "getBytes", "([BIB)V"⟩
abbrev cJ0_init_db425 : ByteArray := prog_26_method_150_code
def yJ0_init_db425 : MethodName := ⟨RJ0, "<init>", "(Ljava/lang/AbstractStringBuilder;Ljava/lang/Void;)V"⟩
abbrev cJ0_coder_7d493 : ByteArray := prog_26_method_152_code
def yJ0_coder_7d493 : MethodName := ⟨RJ0, "coder", "()B"⟩
abbrev cJ0_checkBoundsOffCount_cabcc : ByteArray := prog_26_method_157_code
def yJ0_checkBoundsOffCount_cabcc : MethodName := ⟨RJ0, "checkBoundsOffCount", "(III)I"⟩
abbrev cJ0_checkBoundsBeginEnd_23922 : ByteArray := prog_26_method_158_code
def yJ0_checkBoundsBeginEnd_23922 : MethodName := ⟨RJ0, "checkBoundsBeginEnd", "(III)V"⟩
def RJ4 : String := "java/lang/StringBuilder"
def TJ4 : u_T := fun k => match k with
  | 0 => ("java/lang/AbstractStringBuilder", "value", "[B", false)
  | 1 => ("java/lang/AbstractStringBuilder", "coder", "B", false)
  | 2 => ("java/lang/AbstractStringBuilder", "maybeLatin1", "Z", false)
  | _ => ("java/lang/AbstractStringBuilder", "count", "I", false)
def tyJ4 : Nat → FieldType := fun k => match k with
  | 0 => .array .byte
  | 1 => .byte
  | 2 => .boolean
  | _ => .int
abbrev wsJ40 : List Cond := u_ws RJ4 TJ4 4
theorem nmJ4 : ∀ a, a < 4 → ∀ b, b < 4 → a ≠ b → (TJ4 a).2.1 ≠ (TJ4 b).2.1 := by decide +kernel
theorem tyJ4_ok : ∀ k, k < 4 → parseFieldDescriptor (TJ4 k).2.2.1 = some (tyJ4 k) := by decide +kernel
abbrev cJ4_init_da8c8 : ByteArray := prog_27_method_1_code
def yJ4_init_da8c8 : MethodName := ⟨RJ4, "<init>", "()V"⟩
abbrev cJ4_append_15ec4 : ByteArray := prog_27_method_7_code
def yJ4_append_15ec4 : MethodName := ⟨RJ4, "append", "(Ljava/lang/String;)Ljava/lang/StringBuilder;"⟩
abbrev cJ4_append_bf812 : ByteArray := prog_27_method_15_code
def yJ4_append_bf812 : MethodName := ⟨RJ4, "append", "(I)Ljava/lang/StringBuilder;"⟩
abbrev cJ4_toString_0e30d : ByteArray := prog_27_method_42_code
def yJ4_toString_0e30d : MethodName := ⟨RJ4, "toString", "()Ljava/lang/String;"⟩
abbrev cJ4_length_8abf5 : ByteArray := prog_27_method_93_code
def yJ4_length_8abf5 : MethodName := ⟨RJ4, "length", "()I"⟩
def RJ1 : String := "java/lang/StringLatin1"
def TJ1 : u_T := fun k => match k with
  | _ => ("", "", "", false)
def tyJ1 : Nat → FieldType := fun k => match k with
  | _ => .int
abbrev wsJ10 : List Cond := u_ws RJ1 TJ1 0
theorem nmJ1 : ∀ a, a < 0 → ∀ b, b < 0 → a ≠ b → (TJ1 a).2.1 ≠ (TJ1 b).2.1 := by decide +kernel
theorem tyJ1_ok : ∀ k, k < 0 → parseFieldDescriptor (TJ1 k).2.2.1 = some (tyJ1 k) := by decide +kernel
abbrev cJ1_inflate_0e8fd : ByteArray := prog_28_method_50_code
def yJ1_inflate_0e8fd : MethodName := ⟨RJ1, "inflate", "([BI[BII)V"⟩
def RJ2 : String := "java/lang/StringUTF16"
def TJ2 : u_T := fun k => match k with
  | _ => ("", "", "", false)
def tyJ2 : Nat → FieldType := fun k => match k with
  | _ => .int
abbrev wsJ20 : List Cond := u_ws RJ2 TJ2 0
theorem nmJ2 : ∀ a, a < 0 → ∀ b, b < 0 → a ≠ b → (TJ2 a).2.1 ≠ (TJ2 b).2.1 := by decide +kernel
theorem tyJ2_ok : ∀ k, k < 0 → parseFieldDescriptor (TJ2 k).2.2.1 = some (tyJ2 k) := by decide +kernel
abbrev cJ2_newBytesFor_77867 : ByteArray := prog_29_method_2_code
def yJ2_newBytesFor_77867 : MethodName := ⟨RJ2, "newBytesFor", "(I)[B"⟩
abbrev cJ2_newBytesLength_0f7a4 : ByteArray := prog_29_method_3_code
def yJ2_newBytesLength_0f7a4 : MethodName := ⟨RJ2, "newBytesLength", "(I)I"⟩
abbrev cJ2_putChar_b72d1 : ByteArray := prog_29_method_4_code
def yJ2_putChar_b72d1 : MethodName := ⟨RJ2, "putChar", "([BII)V"⟩
abbrev cJ2_getChar_3b067 : ByteArray := prog_29_method_5_code
def yJ2_getChar_3b067 : MethodName := ⟨RJ2, "getChar", "([BI)C"⟩
abbrev cJ2_length_9d52b : ByteArray := prog_29_method_6_code
def yJ2_length_9d52b : MethodName := ⟨RJ2, "length", "([B)I"⟩
abbrev cJ2_coderFromArrayLen_85cad : ByteArray := prog_29_method_15_code
def yJ2_coderFromArrayLen_85cad : MethodName := ⟨RJ2, "coderFromArrayLen", "([BI)B"⟩
abbrev cJ2_compress_39247 : ByteArray := prog_29_method_17_code
def yJ2_compress_39247 : MethodName := ⟨RJ2, "compress", "([BII)[B"⟩
abbrev cJ2_compress_5af95 : ByteArray := prog_29_method_22_code
def yJ2_compress_5af95 : MethodName := ⟨RJ2, "compress", "([BI[BII)I"⟩
abbrev cJ2_getChars_46870 : ByteArray := prog_29_method_77_code
def yJ2_getChars_46870 : MethodName := ⟨RJ2, "getChars", "(III[B)I"⟩
abbrev cJ2_putCharsAt_cd4e5 : ByteArray := prog_29_method_81_code
def yJ2_putCharsAt_cd4e5 : MethodName := ⟨RJ2, "putCharsAt", "([BICCCC)I"⟩
abbrev cJ2_inflate_0e8fd : ByteArray := prog_29_method_86_code
def yJ2_inflate_0e8fd : MethodName := ⟨RJ2, "inflate", "([BI[BII)V"⟩
abbrev cJ2_getChars_ba4f3 : ByteArray := prog_29_method_89_code
def yJ2_getChars_ba4f3 : MethodName := ⟨RJ2, "getChars", "(II[B)I"⟩
abbrev cJ2_checkBoundsBeginEnd_d044e : ByteArray := prog_29_method_93_code
def yJ2_checkBoundsBeginEnd_d044e : MethodName := ⟨RJ2, "checkBoundsBeginEnd", "(II[B)V"⟩
abbrev cJ2_checkBoundsOffCount_d044e : ByteArray := prog_29_method_94_code
def yJ2_checkBoundsOffCount_d044e : MethodName := ⟨RJ2, "checkBoundsOffCount", "(II[B)V"⟩
def RJ10 : String := "java/lang/System"
def TJ10 : u_T := fun k => match k with
  | _ => ("", "", "", false)
def tyJ10 : Nat → FieldType := fun k => match k with
  | _ => .int
abbrev wsJ100 : List Cond := u_ws RJ10 TJ10 0
theorem nmJ10 : ∀ a, a < 0 → ∀ b, b < 0 → a ≠ b → (TJ10 a).2.1 ≠ (TJ10 b).2.1 := by decide +kernel
theorem tyJ10_ok : ∀ k, k < 0 → parseFieldDescriptor (TJ10 k).2.2.1 = some (tyJ10 k) := by decide +kernel
def RJxfd54e : String := "java/lang/constant/Constable"
def TJxfd54e : u_T := fun k => match k with
  | _ => ("", "", "", false)
def tyJxfd54e : Nat → FieldType := fun k => match k with
  | _ => .int
abbrev wsJxfd54e0 : List Cond := u_ws RJxfd54e TJxfd54e 0
theorem nmJxfd54e : ∀ a, a < 0 → ∀ b, b < 0 → a ≠ b → (TJxfd54e a).2.1 ≠ (TJxfd54e b).2.1 := by decide +kernel
theorem tyJxfd54e_ok : ∀ k, k < 0 → parseFieldDescriptor (TJxfd54e k).2.2.1 = some (tyJxfd54e k) := by decide +kernel
def RJx3cf43 : String := "java/lang/constant/ConstantDesc"
def TJx3cf43 : u_T := fun k => match k with
  | _ => ("", "", "", false)
def tyJx3cf43 : Nat → FieldType := fun k => match k with
  | _ => .int
abbrev wsJx3cf430 : List Cond := u_ws RJx3cf43 TJx3cf43 0
theorem nmJx3cf43 : ∀ a, a < 0 → ∀ b, b < 0 → a ≠ b → (TJx3cf43 a).2.1 ≠ (TJx3cf43 b).2.1 := by decide +kernel
theorem tyJx3cf43_ok : ∀ k, k < 0 → parseFieldDescriptor (TJx3cf43 k).2.2.1 = some (tyJx3cf43 k) := by decide +kernel
def RJxa1e45 : String := "java/util/AbstractCollection"
def TJxa1e45 : u_T := fun k => match k with
  | _ => ("", "", "", false)
def tyJxa1e45 : Nat → FieldType := fun k => match k with
  | _ => .int
abbrev wsJxa1e450 : List Cond := u_ws RJxa1e45 TJxa1e45 0
theorem nmJxa1e45 : ∀ a, a < 0 → ∀ b, b < 0 → a ≠ b → (TJxa1e45 a).2.1 ≠ (TJxa1e45 b).2.1 := by decide +kernel
theorem tyJxa1e45_ok : ∀ k, k < 0 → parseFieldDescriptor (TJxa1e45 k).2.2.1 = some (tyJxa1e45 k) := by decide +kernel
abbrev cJxa1e45_init_da8c8 : ByteArray := prog_35_method_1_code
def yJxa1e45_init_da8c8 : MethodName := ⟨RJxa1e45, "<init>", "()V"⟩
def RJxc12de : String := "java/util/AbstractList"
def TJxc12de : u_T := fun k => match k with
  | _ => ("", "", "", false)
def tyJxc12de : Nat → FieldType := fun k => match k with
  | _ => .int
abbrev wsJxc12de0 : List Cond := u_ws RJxc12de TJxc12de 0
theorem nmJxc12de : ∀ a, a < 0 → ∀ b, b < 0 → a ≠ b → (TJxc12de a).2.1 ≠ (TJxc12de b).2.1 := by decide +kernel
theorem tyJxc12de_ok : ∀ k, k < 0 → parseFieldDescriptor (TJxc12de k).2.2.1 = some (tyJxc12de k) := by decide +kernel
abbrev cJxc12de_init_da8c8 : ByteArray := prog_36_method_1_code
def yJxc12de_init_da8c8 : MethodName := ⟨RJxc12de, "<init>", "()V"⟩
def RJx4a65c : String := "java/util/ArrayList"
def TJx4a65c : u_T := fun k => match k with
  | 0 => ("java/util/AbstractList", "modCount", "I", false)
  | 1 => ("java/util/ArrayList", "elementData", "[Ljava/lang/Object;", false)
  | _ => ("java/util/ArrayList", "size", "I", false)
def tyJx4a65c : Nat → FieldType := fun k => match k with
  | 0 => .int
  | 1 => .array (.object "java/lang/Object")
  | _ => .int
abbrev wsJx4a65c0 : List Cond := u_ws RJx4a65c TJx4a65c 3
theorem nmJx4a65c : ∀ a, a < 3 → ∀ b, b < 3 → a ≠ b → (TJx4a65c a).2.1 ≠ (TJx4a65c b).2.1 := by decide +kernel
theorem tyJx4a65c_ok : ∀ k, k < 3 → parseFieldDescriptor (TJx4a65c k).2.2.1 = some (tyJx4a65c k) := by decide +kernel
abbrev cJx4a65c_init_da8c8 : ByteArray := prog_37_method_2_code
def yJx4a65c_init_da8c8 : MethodName := ⟨RJx4a65c, "<init>", "()V"⟩
abbrev cJx4a65c_grow_92f84 : ByteArray := prog_37_method_6_code
def yJx4a65c_grow_92f84 : MethodName := ⟨RJx4a65c, "grow", "(I)[Ljava/lang/Object;"⟩
abbrev cJx4a65c_grow_d5877 : ByteArray := prog_37_method_7_code
def yJx4a65c_grow_d5877 : MethodName := ⟨RJx4a65c, "grow", "()[Ljava/lang/Object;"⟩
abbrev cJx4a65c_size_8abf5 : ByteArray := prog_37_method_8_code
def yJx4a65c_size_8abf5 : MethodName := ⟨RJx4a65c, "size", "()I"⟩
abbrev cJx4a65c_elementData_915e3 : ByteArray := prog_37_method_18_code
def yJx4a65c_elementData_915e3 : MethodName := ⟨RJx4a65c, "elementData", "(I)Ljava/lang/Object;"⟩
abbrev cJx4a65c_get_915e3 : ByteArray := prog_37_method_20_code
def yJx4a65c_get_915e3 : MethodName := ⟨RJx4a65c, "get", "(I)Ljava/lang/Object;"⟩
abbrev cJx4a65c_add_72be8 : ByteArray := prog_37_method_24_code
def yJx4a65c_add_72be8 : MethodName := ⟨RJx4a65c, "add", "(Ljava/lang/Object;[Ljava/lang/Object;I)V"⟩
abbrev cJx4a65c_add_9ea2d : ByteArray := prog_37_method_25_code
def yJx4a65c_add_9ea2d : MethodName := ⟨RJx4a65c, "add", "(Ljava/lang/Object;)Z"⟩
abbrev cJx4a65c_add_7a177 : ByteArray := prog_37_method_26_code
def yJx4a65c_add_7a177 : MethodName := ⟨RJx4a65c, "add", "(ILjava/lang/Object;)V"⟩
abbrev cJx4a65c_remove_915e3 : ByteArray := prog_37_method_29_code
def yJx4a65c_remove_915e3 : MethodName := ⟨RJx4a65c, "remove", "(I)Ljava/lang/Object;"⟩
abbrev cJx4a65c_fastRemove_b59b0 : ByteArray := prog_37_method_39_code
def yJx4a65c_fastRemove_b59b0 : MethodName := ⟨RJx4a65c, "fastRemove", "([Ljava/lang/Object;I)V"⟩
abbrev cJx4a65c_rangeCheckForAdd_d00df : ByteArray := prog_37_method_45_code
def yJx4a65c_rangeCheckForAdd_d00df : MethodName := ⟨RJx4a65c, "rangeCheckForAdd", "(I)V"⟩
abbrev cJx4a65c_outOfBoundsMsg_b52d3 : ByteArray := prog_37_method_46_code
def yJx4a65c_outOfBoundsMsg_b52d3 : MethodName := ⟨RJx4a65c, "outOfBoundsMsg", "(I)Ljava/lang/String;"⟩
def RJ7 : String := "java/util/Arrays"
def TJ7 : u_T := fun k => match k with
  | _ => ("", "", "", false)
def tyJ7 : Nat → FieldType := fun k => match k with
  | _ => .int
abbrev wsJ70 : List Cond := u_ws RJ7 TJ7 0
theorem nmJ7 : ∀ a, a < 0 → ∀ b, b < 0 → a ≠ b → (TJ7 a).2.1 ≠ (TJ7 b).2.1 := by decide +kernel
theorem tyJ7_ok : ∀ k, k < 0 → parseFieldDescriptor (TJ7 k).2.2.1 = some (tyJ7 k) := by decide +kernel
abbrev cJ7_copyOf_1904c : ByteArray := prog_38_method_119_code
def yJ7_copyOf_1904c : MethodName := ⟨RJ7, "copyOf", "([Ljava/lang/Object;I)[Ljava/lang/Object;"⟩
abbrev cJ7_copyOf_6403c : ByteArray := prog_38_method_120_code
def yJ7_copyOf_6403c : MethodName := ⟨RJ7, "copyOf", "([Ljava/lang/Object;ILjava/lang/Class;)[Ljava/lang/Object;"⟩
abbrev cJ7_copyOf_9075b : ByteArray := prog_38_method_121_code
def yJ7_copyOf_9075b : MethodName := ⟨RJ7, "copyOf", "([BI)[B"⟩
abbrev cJ7_checkLength_df160 : ByteArray := prog_38_method_131_code
def yJ7_checkLength_df160 : MethodName := ⟨RJ7, "checkLength", "(II)V"⟩
abbrev cJ7_copyOfRange_39247 : ByteArray := prog_38_method_132_code
def yJ7_copyOfRange_39247 : MethodName := ⟨RJ7, "copyOfRange", "([BII)[B"⟩
abbrev cJ7_copyOfRangeByte_39247 : ByteArray := prog_38_method_133_code
def yJ7_copyOfRangeByte_39247 : MethodName := ⟨RJ7, "copyOfRangeByte", "([BII)[B"⟩
def RJx5ef63 : String := "java/util/Collection"
def TJx5ef63 : u_T := fun k => match k with
  | _ => ("", "", "", false)
def tyJx5ef63 : Nat → FieldType := fun k => match k with
  | _ => .int
abbrev wsJx5ef630 : List Cond := u_ws RJx5ef63 TJx5ef63 0
theorem nmJx5ef63 : ∀ a, a < 0 → ∀ b, b < 0 → a ≠ b → (TJx5ef63 a).2.1 ≠ (TJx5ef63 b).2.1 := by decide +kernel
theorem tyJx5ef63_ok : ∀ k, k < 0 → parseFieldDescriptor (TJx5ef63 k).2.2.1 = some (tyJx5ef63 k) := by decide +kernel
def RJxbd725 : String := "java/util/List"
def TJxbd725 : u_T := fun k => match k with
  | _ => ("", "", "", false)
def tyJxbd725 : Nat → FieldType := fun k => match k with
  | _ => .int
abbrev wsJxbd7250 : List Cond := u_ws RJxbd725 TJxbd725 0
theorem nmJxbd725 : ∀ a, a < 0 → ∀ b, b < 0 → a ≠ b → (TJxbd725 a).2.1 ≠ (TJxbd725 b).2.1 := by decide +kernel
theorem tyJxbd725_ok : ∀ k, k < 0 → parseFieldDescriptor (TJxbd725 k).2.2.1 = some (tyJxbd725 k) := by decide +kernel
def RJ15 : String := "java/util/Objects"
def TJ15 : u_T := fun k => match k with
  | _ => ("", "", "", false)
def tyJ15 : Nat → FieldType := fun k => match k with
  | _ => .int
abbrev wsJ150 : List Cond := u_ws RJ15 TJ15 0
theorem nmJ15 : ∀ a, a < 0 → ∀ b, b < 0 → a ≠ b → (TJ15 a).2.1 ≠ (TJ15 b).2.1 := by decide +kernel
theorem tyJ15_ok : ∀ k, k < 0 → parseFieldDescriptor (TJ15 k).2.2.1 = some (tyJ15 k) := by decide +kernel
abbrev cJ15_checkIndex_7cf53 : ByteArray := prog_42_method_17_code
def yJ15_checkIndex_7cf53 : MethodName := ⟨RJ15, "checkIndex", "(II)I"⟩
def RJxf0a74 : String := "java/util/RandomAccess"
def TJxf0a74 : u_T := fun k => match k with
  | _ => ("", "", "", false)
def tyJxf0a74 : Nat → FieldType := fun k => match k with
  | _ => .int
abbrev wsJxf0a740 : List Cond := u_ws RJxf0a74 TJxf0a74 0
theorem nmJxf0a74 : ∀ a, a < 0 → ∀ b, b < 0 → a ≠ b → (TJxf0a74 a).2.1 ≠ (TJxf0a74 b).2.1 := by decide +kernel
theorem tyJxf0a74_ok : ∀ k, k < 0 → parseFieldDescriptor (TJxf0a74 k).2.2.1 = some (tyJxf0a74 k) := by decide +kernel
def RJxa66e6 : String := "java/util/SequencedCollection"
def TJxa66e6 : u_T := fun k => match k with
  | _ => ("", "", "", false)
def tyJxa66e6 : Nat → FieldType := fun k => match k with
  | _ => .int
abbrev wsJxa66e60 : List Cond := u_ws RJxa66e6 TJxa66e6 0
theorem nmJxa66e6 : ∀ a, a < 0 → ∀ b, b < 0 → a ≠ b → (TJxa66e6 a).2.1 ≠ (TJxa66e6 b).2.1 := by decide +kernel
theorem tyJxa66e6_ok : ∀ k, k < 0 → parseFieldDescriptor (TJxa66e6 k).2.2.1 = some (tyJxa66e6 k) := by decide +kernel
def RJ8 : String := "jdk/internal/util/ArraysSupport"
def TJ8 : u_T := fun k => match k with
  | _ => ("", "", "", false)
def tyJ8 : Nat → FieldType := fun k => match k with
  | _ => .int
abbrev wsJ80 : List Cond := u_ws RJ8 TJ8 0
theorem nmJ8 : ∀ a, a < 0 → ∀ b, b < 0 → a ≠ b → (TJ8 a).2.1 ≠ (TJ8 b).2.1 := by decide +kernel
theorem tyJ8_ok : ∀ k, k < 0 → parseFieldDescriptor (TJ8 k).2.2.1 = some (tyJ8 k) := by decide +kernel
abbrev cJ8_newLength_cabcc : ByteArray := prog_45_method_27_code
def yJ8_newLength_cabcc : MethodName := ⟨RJ8, "newLength", "(III)I"⟩
abbrev cJ8_hugeLength_7cf53 : ByteArray := prog_45_method_28_code
def yJ8_hugeLength_7cf53 : MethodName := ⟨RJ8, "hugeLength", "(II)I"⟩
def RJ3 : String := "jdk/internal/util/Preconditions"
def TJ3 : u_T := fun k => match k with
  | _ => ("", "", "", false)
def tyJ3 : Nat → FieldType := fun k => match k with
  | _ => .int
abbrev wsJ30 : List Cond := u_ws RJ3 TJ3 0
theorem nmJ3 : ∀ a, a < 0 → ∀ b, b < 0 → a ≠ b → (TJ3 a).2.1 ≠ (TJ3 b).2.1 := by decide +kernel
theorem tyJ3_ok : ∀ k, k < 0 → parseFieldDescriptor (TJ3 k).2.2.1 = some (tyJ3 k) := by decide +kernel
abbrev cJ3_checkIndex_8e157 : ByteArray := prog_46_method_11_code
def yJ3_checkIndex_8e157 : MethodName := ⟨RJ3, "checkIndex", "(IILjava/util/function/BiFunction;)I"⟩
abbrev cJ3_checkFromToIndex_8c36e : ByteArray := prog_46_method_12_code
def yJ3_checkFromToIndex_8c36e : MethodName := ⟨RJ3, "checkFromToIndex", "(IIILjava/util/function/BiFunction;)I"⟩
abbrev cJ3_checkFromIndexSize_8c36e : ByteArray := prog_46_method_13_code
def yJ3_checkFromIndexSize_8c36e : MethodName := ⟨RJ3, "checkFromIndexSize", "(IIILjava/util/function/BiFunction;)I"⟩
def RL : String := "CalendaryPlannerLaw"
abbrev cL_setRoom : ByteArray := method_3_code
def yL_setRoom : MethodName := ⟨RL, "setRoom", "(LCalendaryPlanner;III[J)I"⟩
abbrev cL_setGap : ByteArray := method_4_code
def yL_setGap : MethodName := ⟨RL, "setGap", "(LCalendaryPlanner;I[J)I"⟩
abbrev cL_seatsOf : ByteArray := method_5_code
def yL_seatsOf : MethodName := ⟨RL, "seatsOf", "(LCalendaryPlanner;I[J)I"⟩
abbrev cL_houseOf : ByteArray := method_6_code
def yL_houseOf : MethodName := ⟨RL, "houseOf", "(LCalendaryPlanner;I[J)I"⟩
abbrev cL_ask : ByteArray := method_7_code
def yL_ask : MethodName := ⟨RL, "ask", "(LCalendaryPlanner;IIIII[J)I"⟩
abbrev cL_extend : ByteArray := method_8_code
def yL_extend : MethodName := ⟨RL, "extend", "(LCalendaryPlanner;III[J)I"⟩
abbrev cL_remove : ByteArray := method_9_code
def yL_remove : MethodName := ⟨RL, "remove", "(LCalendaryPlanner;I[J)I"⟩
abbrev cL_answer : ByteArray := method_10_code
def yL_answer : MethodName := ⟨RL, "answer", "(LCalendaryPlanner;IIC[J)I"⟩
abbrev cL_cancel : ByteArray := method_11_code
def yL_cancel : MethodName := ⟨RL, "cancel", "(LCalendaryPlanner;II[J)I"⟩
abbrev cL_move : ByteArray := method_12_code
def yL_move : MethodName := ⟨RL, "move", "(LCalendaryPlanner;IIII[J)I"⟩
abbrev cL_meetingAt : ByteArray := method_13_code
def yL_meetingAt : MethodName := ⟨RL, "meetingAt", "(LCalendaryPlanner;I[J)I"⟩
abbrev cL_hostOf : ByteArray := method_14_code
def yL_hostOf : MethodName := ⟨RL, "hostOf", "(LCalendaryPlanner;I[J)I"⟩
abbrev cL_answerOf : ByteArray := method_15_code
def yL_answerOf : MethodName := ⟨RL, "answerOf", "(LCalendaryPlanner;II[J)I"⟩
abbrev cL_expected : ByteArray := method_16_code
def yL_expected : MethodName := ⟨RL, "expected", "(LCalendaryPlanner;I[J)I"⟩
abbrev cL_dateCount : ByteArray := method_17_code
def yL_dateCount : MethodName := ⟨RL, "dateCount", "(LCalendaryPlanner;I[J)I"⟩
abbrev cL_dayOf : ByteArray := method_18_code
def yL_dayOf : MethodName := ⟨RL, "dayOf", "(LCalendaryPlanner;II[J)I"⟩
abbrev cL_timeOf : ByteArray := method_19_code
def yL_timeOf : MethodName := ⟨RL, "timeOf", "(LCalendaryPlanner;II[J)I"⟩
abbrev cL_isCancelled : ByteArray := method_20_code
def yL_isCancelled : MethodName := ⟨RL, "isCancelled", "(LCalendaryPlanner;II[J)I"⟩
abbrev cL_roomOf : ByteArray := method_21_code
def yL_roomOf : MethodName := ⟨RL, "roomOf", "(LCalendaryPlanner;II[J)I"⟩
abbrev cL_refusalReason : ByteArray := method_22_code
def yL_refusalReason : MethodName := ⟨RL, "refusalReason", "(LCalendaryPlanner;[J)I"⟩
abbrev cL_refusalDetail : ByteArray := method_23_code
def yL_refusalDetail : MethodName := ⟨RL, "refusalDetail", "(LCalendaryPlanner;[J)I"⟩
abbrev cL_isFree : ByteArray := method_24_code
def yL_isFree : MethodName := ⟨RL, "isFree", "(LCalendaryPlanner;III[J)I"⟩
abbrev cL_meetingOf : ByteArray := method_25_code
def yL_meetingOf : MethodName := ⟨RL, "meetingOf", "(LCalendaryPlanner;III[J)I"⟩
abbrev cL_freeTimes : ByteArray := method_26_code
def yL_freeTimes : MethodName := ⟨RL, "freeTimes", "(LCalendaryPlanner;II[J)I"⟩
abbrev cL_freeByTrying : ByteArray := method_27_code
def yL_freeByTrying : MethodName := ⟨RL, "freeByTrying", "(LCalendaryPlanner;II[J)I"⟩
abbrev cL_longestFree : ByteArray := method_28_code
def yL_longestFree : MethodName := ⟨RL, "longestFree", "(LCalendaryPlanner;II[J)I"⟩
abbrev cL_firstCommon : ByteArray := method_29_code
def yL_firstCommon : MethodName := ⟨RL, "firstCommon", "(LCalendaryPlanner;III[J)I"⟩
abbrev cL_commonCount : ByteArray := method_30_code
def yL_commonCount : MethodName := ⟨RL, "commonCount", "(LCalendaryPlanner;III[J)I"⟩
abbrev cL_roomFor : ByteArray := method_31_code
def yL_roomFor : MethodName := ⟨RL, "roomFor", "(LCalendaryPlanner;IIII[J)I"⟩
abbrev cL_usedTimes : ByteArray := method_32_code
def yL_usedTimes : MethodName := ⟨RL, "usedTimes", "(LCalendaryPlanner;II[J)I"⟩
abbrev cL_walks : ByteArray := method_33_code
def yL_walks : MethodName := ⟨RL, "walks", "(LCalendaryPlanner;II[J)I"⟩
abbrev cL_meanExpected : ByteArray := method_34_code
def yL_meanExpected : MethodName := ⟨RL, "meanExpected", "(LCalendaryPlanner;[D)I"⟩
abbrev cL_yesShare : ByteArray := method_35_code
def yL_yesShare : MethodName := ⟨RL, "yesShare", "(LCalendaryPlanner;[D)I"⟩
abbrev cL_law : ByteArray := code
def yL_law : MethodName := ⟨RL, "law", "([I)Z"⟩
abbrev vwCl : List vw_C := [(RJ0, TJ0, 4), (RJ4, TJ4, 4), (RJx00060, TJx00060, 6), (RJx4a65c, TJx4a65c, 3), (RX0, TX0, 4), (RX1, TX1, 1), (RX2, TX2, 6), (RX3, TX3, 3), (RX4, TX4, 3), (RX5, TX5, 7), (RX6, TX6, 5)]
end
section
theorem dX0_init_0 : decode cX0_init 0 = .ok (.aload_n 0, 1) := by decide +kernel
theorem dX0_init_1 : decode cX0_init 1 = .ok (.invokespecial 1, 3) := by decide +kernel
theorem dX0_init_4 : decode cX0_init 4 = .ok (.aload_n 0, 1) := by decide +kernel
theorem dX0_init_5 : decode cX0_init 5 = .ok (.aload_n 1, 1) := by decide +kernel
theorem dX0_init_6 : decode cX0_init 6 = .ok (.putfield 7, 3) := by decide +kernel
theorem dX0_init_9 : decode cX0_init 9 = .ok (.aload_n 0, 1) := by decide +kernel
theorem dX0_init_10 : decode cX0_init 10 = .ok (.aload_n 2, 1) := by decide +kernel
theorem dX0_init_11 : decode cX0_init 11 = .ok (.putfield 13, 3) := by decide +kernel
theorem dX0_init_14 : decode cX0_init 14 = .ok (.aload_n 0, 1) := by decide +kernel
theorem dX0_init_15 : decode cX0_init 15 = .ok (.aload_n 3, 1) := by decide +kernel
theorem dX0_init_16 : decode cX0_init 16 = .ok (.putfield 17, 3) := by decide +kernel
theorem dX0_init_19 : decode cX0_init 19 = .ok (.return_, 1) := by decide +kernel
theorem dX1_init_0 : decode cX1_init 0 = .ok (.aload_n 0, 1) := by decide +kernel
theorem dX1_init_1 : decode cX1_init 1 = .ok (.invokespecial 1, 3) := by decide +kernel
theorem dX1_init_4 : decode cX1_init 4 = .ok (.aload_n 0, 1) := by decide +kernel
theorem dX1_init_5 : decode cX1_init 5 = .ok (.new 7, 3) := by decide +kernel
theorem dX1_init_8 : decode cX1_init 8 = .ok (.dup, 1) := by decide +kernel
theorem dX1_init_9 : decode cX1_init 9 = .ok (.invokespecial 9, 3) := by decide +kernel
theorem dX1_init_12 : decode cX1_init 12 = .ok (.putfield 10, 3) := by decide +kernel
theorem dX1_init_15 : decode cX1_init 15 = .ok (.return_, 1) := by decide +kernel
theorem dX1_take_0 : decode cX1_take 0 = .ok (.iconst 0, 1) := by decide +kernel
theorem dX1_take_1 : decode cX1_take 1 = .ok (.istore_n 2, 1) := by decide +kernel
theorem dX1_take_2 : decode cX1_take 2 = .ok (.iload_n 2, 1) := by decide +kernel
theorem dX1_take_3 : decode cX1_take 3 = .ok (.aload_n 0, 1) := by decide +kernel
theorem dX1_take_4 : decode cX1_take 4 = .ok (.getfield 10, 3) := by decide +kernel
theorem dX1_take_7 : decode cX1_take 7 = .ok (.invokevirtual 16, 3) := by decide +kernel
theorem dX1_take_10 : decode cX1_take 10 = .ok (.if_icmp .ge 36, 3) := by decide +kernel
theorem dX1_take_13 : decode cX1_take 13 = .ok (.aload_n 0, 1) := by decide +kernel
theorem dX1_take_14 : decode cX1_take 14 = .ok (.getfield 10, 3) := by decide +kernel
theorem dX1_take_17 : decode cX1_take 17 = .ok (.iload_n 2, 1) := by decide +kernel
theorem dX1_take_18 : decode cX1_take 18 = .ok (.invokevirtual 20, 3) := by decide +kernel
theorem dX1_take_21 : decode cX1_take 21 = .ok (.checkcast 24, 3) := by decide +kernel
theorem dX1_take_24 : decode cX1_take 24 = .ok (.getfield 26, 3) := by decide +kernel
theorem dX1_take_27 : decode cX1_take 27 = .ok (.getfield 30, 3) := by decide +kernel
theorem dX1_take_30 : decode cX1_take 30 = .ok (.aload_n 1, 1) := by decide +kernel
theorem dX1_take_31 : decode cX1_take 31 = .ok (.getfield 26, 3) := by decide +kernel
theorem dX1_take_34 : decode cX1_take 34 = .ok (.getfield 30, 3) := by decide +kernel
theorem dX1_take_37 : decode cX1_take 37 = .ok (.if_icmp .ge 9, 3) := by decide +kernel
theorem dX1_take_40 : decode cX1_take 40 = .ok (.iinc 2 1, 3) := by decide +kernel
theorem dX1_take_43 : decode cX1_take 43 = .ok (.goto (-41), 3) := by decide +kernel
theorem dX1_take_46 : decode cX1_take 46 = .ok (.aload_n 0, 1) := by decide +kernel
theorem dX1_take_47 : decode cX1_take 47 = .ok (.getfield 10, 3) := by decide +kernel
theorem dX1_take_50 : decode cX1_take 50 = .ok (.iload_n 2, 1) := by decide +kernel
theorem dX1_take_51 : decode cX1_take 51 = .ok (.aload_n 1, 1) := by decide +kernel
theorem dX1_take_52 : decode cX1_take 52 = .ok (.invokevirtual 36, 3) := by decide +kernel
theorem dX1_take_55 : decode cX1_take 55 = .ok (.return_, 1) := by decide +kernel
theorem dX1_drop_0 : decode cX1_drop 0 = .ok (.iconst 0, 1) := by decide +kernel
theorem dX1_drop_1 : decode cX1_drop 1 = .ok (.istore_n 2, 1) := by decide +kernel
theorem dX1_drop_2 : decode cX1_drop 2 = .ok (.iload_n 2, 1) := by decide +kernel
theorem dX1_drop_3 : decode cX1_drop 3 = .ok (.aload_n 0, 1) := by decide +kernel
theorem dX1_drop_4 : decode cX1_drop 4 = .ok (.getfield 10, 3) := by decide +kernel
theorem dX1_drop_7 : decode cX1_drop 7 = .ok (.invokevirtual 16, 3) := by decide +kernel
theorem dX1_drop_10 : decode cX1_drop 10 = .ok (.if_icmp .ge 31, 3) := by decide +kernel
theorem dX1_drop_13 : decode cX1_drop 13 = .ok (.aload_n 0, 1) := by decide +kernel
theorem dX1_drop_14 : decode cX1_drop 14 = .ok (.getfield 10, 3) := by decide +kernel
theorem dX1_drop_17 : decode cX1_drop 17 = .ok (.iload_n 2, 1) := by decide +kernel
theorem dX1_drop_18 : decode cX1_drop 18 = .ok (.invokevirtual 20, 3) := by decide +kernel
theorem dX1_drop_21 : decode cX1_drop 21 = .ok (.aload_n 1, 1) := by decide +kernel
theorem dX1_drop_22 : decode cX1_drop 22 = .ok (.if_acmp .ne 13, 3) := by decide +kernel
theorem dX1_drop_25 : decode cX1_drop 25 = .ok (.aload_n 0, 1) := by decide +kernel
theorem dX1_drop_26 : decode cX1_drop 26 = .ok (.getfield 10, 3) := by decide +kernel
theorem dX1_drop_29 : decode cX1_drop 29 = .ok (.iload_n 2, 1) := by decide +kernel
theorem dX1_drop_30 : decode cX1_drop 30 = .ok (.invokevirtual 40, 3) := by decide +kernel
theorem dX1_drop_33 : decode cX1_drop 33 = .ok (.pop, 1) := by decide +kernel
theorem dX1_drop_34 : decode cX1_drop 34 = .ok (.return_, 1) := by decide +kernel
theorem dX1_drop_35 : decode cX1_drop 35 = .ok (.iinc 2 1, 3) := by decide +kernel
theorem dX1_drop_38 : decode cX1_drop 38 = .ok (.goto (-36), 3) := by decide +kernel
theorem dX1_drop_41 : decode cX1_drop 41 = .ok (.return_, 1) := by decide +kernel
theorem dX2_init_0 : decode cX2_init 0 = .ok (.aload_n 0, 1) := by decide +kernel
theorem dX2_init_1 : decode cX2_init 1 = .ok (.invokespecial 3, 3) := by decide +kernel
theorem dX2_init_4 : decode cX2_init 4 = .ok (.aload_n 0, 1) := by decide +kernel
theorem dX2_init_5 : decode cX2_init 5 = .ok (.iload_n 1, 1) := by decide +kernel
theorem dX2_init_6 : decode cX2_init 6 = .ok (.putfield 9, 3) := by decide +kernel
theorem dX2_init_9 : decode cX2_init 9 = .ok (.aload_n 0, 1) := by decide +kernel
theorem dX2_init_10 : decode cX2_init 10 = .ok (.iload_n 2, 1) := by decide +kernel
theorem dX2_init_11 : decode cX2_init 11 = .ok (.putfield 15, 3) := by decide +kernel
theorem dX2_init_14 : decode cX2_init 14 = .ok (.aload_n 0, 1) := by decide +kernel
theorem dX2_init_15 : decode cX2_init 15 = .ok (.iload_n 3, 1) := by decide +kernel
theorem dX2_init_16 : decode cX2_init 16 = .ok (.putfield 18, 3) := by decide +kernel
theorem dX2_init_19 : decode cX2_init 19 = .ok (.aload_n 0, 1) := by decide +kernel
theorem dX2_init_20 : decode cX2_init 20 = .ok (.new 21, 3) := by decide +kernel
theorem dX2_init_23 : decode cX2_init 23 = .ok (.dup, 1) := by decide +kernel
theorem dX2_init_24 : decode cX2_init 24 = .ok (.invokespecial 23, 3) := by decide +kernel
theorem dX2_init_27 : decode cX2_init 27 = .ok (.putfield 24, 3) := by decide +kernel
theorem dX2_init_30 : decode cX2_init 30 = .ok (.return_, 1) := by decide +kernel
theorem dX2_expectedPeople_0 : decode cX2_expectedPeople 0 = .ok (.aload_n 0, 1) := by decide +kernel
theorem dX2_expectedPeople_1 : decode cX2_expectedPeople 1 = .ok (.getfield 15, 3) := by decide +kernel
theorem dX2_expectedPeople_4 : decode cX2_expectedPeople 4 = .ok (.invokestatic 28, 3) := by decide +kernel
theorem dX2_expectedPeople_7 : decode cX2_expectedPeople 7 = .ok (.aload_n 0, 1) := by decide +kernel
theorem dX2_expectedPeople_8 : decode cX2_expectedPeople 8 = .ok (.getfield 18, 3) := by decide +kernel
theorem dX2_expectedPeople_11 : decode cX2_expectedPeople 11 = .ok (.aload_n 0, 1) := by decide +kernel
theorem dX2_expectedPeople_12 : decode cX2_expectedPeople 12 = .ok (.getfield 32, 3) := by decide +kernel
theorem dX2_expectedPeople_15 : decode cX2_expectedPeople 15 = .ok (.iconst (-1), 1) := by decide +kernel
theorem dX2_expectedPeople_16 : decode cX2_expectedPeople 16 = .ok (.ixor, 1) := by decide +kernel
theorem dX2_expectedPeople_17 : decode cX2_expectedPeople 17 = .ok (.iand, 1) := by decide +kernel
theorem dX2_expectedPeople_18 : decode cX2_expectedPeople 18 = .ok (.ior, 1) := by decide +kernel
theorem dX2_expectedPeople_19 : decode cX2_expectedPeople 19 = .ok (.ireturn, 1) := by decide +kernel
theorem dX2_expectedCount_0 : decode cX2_expectedCount 0 = .ok (.aload_n 0, 1) := by decide +kernel
theorem dX2_expectedCount_1 : decode cX2_expectedCount 1 = .ok (.invokevirtual 35, 3) := by decide +kernel
theorem dX2_expectedCount_4 : decode cX2_expectedCount 4 = .ok (.invokestatic 39, 3) := by decide +kernel
theorem dX2_expectedCount_7 : decode cX2_expectedCount 7 = .ok (.ireturn, 1) := by decide +kernel
theorem dX2_expects_0 : decode cX2_expects 0 = .ok (.aload_n 0, 1) := by decide +kernel
theorem dX2_expects_1 : decode cX2_expects 1 = .ok (.invokevirtual 35, 3) := by decide +kernel
theorem dX2_expects_4 : decode cX2_expects 4 = .ok (.iload_n 1, 1) := by decide +kernel
theorem dX2_expects_5 : decode cX2_expects 5 = .ok (.invokestatic 44, 3) := by decide +kernel
theorem dX2_expects_8 : decode cX2_expects 8 = .ok (.ireturn, 1) := by decide +kernel
theorem dX2_answerFrom_0 : decode cX2_answerFrom 0 = .ok (.iload_n 1, 1) := by decide +kernel
theorem dX2_answerFrom_1 : decode cX2_answerFrom 1 = .ok (.aload_n 0, 1) := by decide +kernel
theorem dX2_answerFrom_2 : decode cX2_answerFrom 2 = .ok (.getfield 15, 3) := by decide +kernel
theorem dX2_answerFrom_5 : decode cX2_answerFrom 5 = .ok (.if_icmp .ne 6, 3) := by decide +kernel
theorem dX2_answerFrom_8 : decode cX2_answerFrom 8 = .ok (.bipush 104, 2) := by decide +kernel
theorem dX2_answerFrom_10 : decode cX2_answerFrom 10 = .ok (.ireturn, 1) := by decide +kernel
theorem dX2_answerFrom_11 : decode cX2_answerFrom 11 = .ok (.aload_n 0, 1) := by decide +kernel
theorem dX2_answerFrom_12 : decode cX2_answerFrom 12 = .ok (.getfield 18, 3) := by decide +kernel
theorem dX2_answerFrom_15 : decode cX2_answerFrom 15 = .ok (.iload_n 1, 1) := by decide +kernel
theorem dX2_answerFrom_16 : decode cX2_answerFrom 16 = .ok (.invokestatic 44, 3) := by decide +kernel
theorem dX2_answerFrom_19 : decode cX2_answerFrom 19 = .ok (.ifCond .ne 6, 3) := by decide +kernel
theorem dX2_answerFrom_22 : decode cX2_answerFrom 22 = .ok (.bipush 45, 2) := by decide +kernel
theorem dX2_answerFrom_24 : decode cX2_answerFrom 24 = .ok (.ireturn, 1) := by decide +kernel
theorem dX2_answerFrom_25 : decode cX2_answerFrom 25 = .ok (.aload_n 0, 1) := by decide +kernel
theorem dX2_answerFrom_26 : decode cX2_answerFrom 26 = .ok (.getfield 48, 3) := by decide +kernel
theorem dX2_answerFrom_29 : decode cX2_answerFrom 29 = .ok (.iload_n 1, 1) := by decide +kernel
theorem dX2_answerFrom_30 : decode cX2_answerFrom 30 = .ok (.invokestatic 44, 3) := by decide +kernel
theorem dX2_answerFrom_33 : decode cX2_answerFrom 33 = .ok (.ifCond .eq 6, 3) := by decide +kernel
theorem dX2_answerFrom_36 : decode cX2_answerFrom 36 = .ok (.bipush 121, 2) := by decide +kernel
theorem dX2_answerFrom_38 : decode cX2_answerFrom 38 = .ok (.ireturn, 1) := by decide +kernel
theorem dX2_answerFrom_39 : decode cX2_answerFrom 39 = .ok (.aload_n 0, 1) := by decide +kernel
theorem dX2_answerFrom_40 : decode cX2_answerFrom 40 = .ok (.getfield 32, 3) := by decide +kernel
theorem dX2_answerFrom_43 : decode cX2_answerFrom 43 = .ok (.iload_n 1, 1) := by decide +kernel
theorem dX2_answerFrom_44 : decode cX2_answerFrom 44 = .ok (.invokestatic 44, 3) := by decide +kernel
theorem dX2_answerFrom_47 : decode cX2_answerFrom 47 = .ok (.ifCond .eq 8, 3) := by decide +kernel
theorem dX2_answerFrom_50 : decode cX2_answerFrom 50 = .ok (.bipush 110, 2) := by decide +kernel
theorem dX2_answerFrom_52 : decode cX2_answerFrom 52 = .ok (.goto 5, 3) := by decide +kernel
theorem dX2_answerFrom_55 : decode cX2_answerFrom 55 = .ok (.bipush 111, 2) := by decide +kernel
theorem dX2_answerFrom_57 : decode cX2_answerFrom 57 = .ok (.ireturn, 1) := by decide +kernel
theorem dX2_note_0 : decode cX2_note 0 = .ok (.iload_n 1, 1) := by decide +kernel
theorem dX2_note_1 : decode cX2_note 1 = .ok (.invokestatic 28, 3) := by decide +kernel
theorem dX2_note_4 : decode cX2_note 4 = .ok (.istore_n 3, 1) := by decide +kernel
theorem dX2_note_5 : decode cX2_note 5 = .ok (.aload_n 0, 1) := by decide +kernel
theorem dX2_note_6 : decode cX2_note 6 = .ok (.iload_n 2, 1) := by decide +kernel
theorem dX2_note_7 : decode cX2_note 7 = .ok (.bipush 121, 2) := by decide +kernel
theorem dX2_note_9 : decode cX2_note 9 = .ok (.if_icmp .ne 12, 3) := by decide +kernel
theorem dX2_note_12 : decode cX2_note 12 = .ok (.aload_n 0, 1) := by decide +kernel
theorem dX2_note_13 : decode cX2_note 13 = .ok (.getfield 48, 3) := by decide +kernel
theorem dX2_note_16 : decode cX2_note 16 = .ok (.iload_n 3, 1) := by decide +kernel
theorem dX2_note_17 : decode cX2_note 17 = .ok (.ior, 1) := by decide +kernel
theorem dX2_note_18 : decode cX2_note 18 = .ok (.goto 11, 3) := by decide +kernel
theorem dX2_note_21 : decode cX2_note 21 = .ok (.aload_n 0, 1) := by decide +kernel
theorem dX2_note_22 : decode cX2_note 22 = .ok (.getfield 48, 3) := by decide +kernel
theorem dX2_note_25 : decode cX2_note 25 = .ok (.iload_n 3, 1) := by decide +kernel
theorem dX2_note_26 : decode cX2_note 26 = .ok (.iconst (-1), 1) := by decide +kernel
theorem dX2_note_27 : decode cX2_note 27 = .ok (.ixor, 1) := by decide +kernel
theorem dX2_note_28 : decode cX2_note 28 = .ok (.iand, 1) := by decide +kernel
theorem dX2_note_29 : decode cX2_note 29 = .ok (.putfield 48, 3) := by decide +kernel
theorem dX2_note_32 : decode cX2_note 32 = .ok (.aload_n 0, 1) := by decide +kernel
theorem dX2_note_33 : decode cX2_note 33 = .ok (.iload_n 2, 1) := by decide +kernel
theorem dX2_note_34 : decode cX2_note 34 = .ok (.bipush 110, 2) := by decide +kernel
theorem dX2_note_36 : decode cX2_note 36 = .ok (.if_icmp .ne 12, 3) := by decide +kernel
theorem dX2_note_39 : decode cX2_note 39 = .ok (.aload_n 0, 1) := by decide +kernel
theorem dX2_note_40 : decode cX2_note 40 = .ok (.getfield 32, 3) := by decide +kernel
theorem dX2_note_43 : decode cX2_note 43 = .ok (.iload_n 3, 1) := by decide +kernel
theorem dX2_note_44 : decode cX2_note 44 = .ok (.ior, 1) := by decide +kernel
theorem dX2_note_45 : decode cX2_note 45 = .ok (.goto 11, 3) := by decide +kernel
theorem dX2_note_48 : decode cX2_note 48 = .ok (.aload_n 0, 1) := by decide +kernel
theorem dX2_note_49 : decode cX2_note 49 = .ok (.getfield 32, 3) := by decide +kernel
theorem dX2_note_52 : decode cX2_note 52 = .ok (.iload_n 3, 1) := by decide +kernel
theorem dX2_note_53 : decode cX2_note 53 = .ok (.iconst (-1), 1) := by decide +kernel
theorem dX2_note_54 : decode cX2_note 54 = .ok (.ixor, 1) := by decide +kernel
theorem dX2_note_55 : decode cX2_note 55 = .ok (.iand, 1) := by decide +kernel
theorem dX2_note_56 : decode cX2_note 56 = .ok (.putfield 32, 3) := by decide +kernel
theorem dX2_note_59 : decode cX2_note 59 = .ok (.return_, 1) := by decide +kernel
theorem dX2_standingDates_0 : decode cX2_standingDates 0 = .ok (.iconst 0, 1) := by decide +kernel
theorem dX2_standingDates_1 : decode cX2_standingDates 1 = .ok (.istore_n 1, 1) := by decide +kernel
theorem dX2_standingDates_2 : decode cX2_standingDates 2 = .ok (.iconst 0, 1) := by decide +kernel
theorem dX2_standingDates_3 : decode cX2_standingDates 3 = .ok (.istore_n 2, 1) := by decide +kernel
theorem dX2_standingDates_4 : decode cX2_standingDates 4 = .ok (.iload_n 2, 1) := by decide +kernel
theorem dX2_standingDates_5 : decode cX2_standingDates 5 = .ok (.aload_n 0, 1) := by decide +kernel
theorem dX2_standingDates_6 : decode cX2_standingDates 6 = .ok (.getfield 24, 3) := by decide +kernel
theorem dX2_standingDates_9 : decode cX2_standingDates 9 = .ok (.invokevirtual 51, 3) := by decide +kernel
theorem dX2_standingDates_12 : decode cX2_standingDates 12 = .ok (.if_icmp .ge 29, 3) := by decide +kernel
theorem dX2_standingDates_15 : decode cX2_standingDates 15 = .ok (.aload_n 0, 1) := by decide +kernel
theorem dX2_standingDates_16 : decode cX2_standingDates 16 = .ok (.getfield 24, 3) := by decide +kernel
theorem dX2_standingDates_19 : decode cX2_standingDates 19 = .ok (.iload_n 2, 1) := by decide +kernel
theorem dX2_standingDates_20 : decode cX2_standingDates 20 = .ok (.invokevirtual 54, 3) := by decide +kernel
theorem dX2_standingDates_23 : decode cX2_standingDates 23 = .ok (.checkcast 58, 3) := by decide +kernel
theorem dX2_standingDates_26 : decode cX2_standingDates 26 = .ok (.getfield 60, 3) := by decide +kernel
theorem dX2_standingDates_29 : decode cX2_standingDates 29 = .ok (.ifCond .ne 6, 3) := by decide +kernel
theorem dX2_standingDates_32 : decode cX2_standingDates 32 = .ok (.iinc 1 1, 3) := by decide +kernel
theorem dX2_standingDates_35 : decode cX2_standingDates 35 = .ok (.iinc 2 1, 3) := by decide +kernel
theorem dX2_standingDates_38 : decode cX2_standingDates 38 = .ok (.goto (-34), 3) := by decide +kernel
theorem dX2_standingDates_41 : decode cX2_standingDates 41 = .ok (.iload_n 1, 1) := by decide +kernel
theorem dX2_standingDates_42 : decode cX2_standingDates 42 = .ok (.ireturn, 1) := by decide +kernel
theorem dX2_standingTimes_0 : decode cX2_standingTimes 0 = .ok (.iconst 0, 1) := by decide +kernel
theorem dX2_standingTimes_1 : decode cX2_standingTimes 1 = .ok (.istore_n 1, 1) := by decide +kernel
theorem dX2_standingTimes_2 : decode cX2_standingTimes 2 = .ok (.iconst 0, 1) := by decide +kernel
theorem dX2_standingTimes_3 : decode cX2_standingTimes 3 = .ok (.istore_n 2, 1) := by decide +kernel
theorem dX2_standingTimes_4 : decode cX2_standingTimes 4 = .ok (.iload_n 2, 1) := by decide +kernel
theorem dX2_standingTimes_5 : decode cX2_standingTimes 5 = .ok (.aload_n 0, 1) := by decide +kernel
theorem dX2_standingTimes_6 : decode cX2_standingTimes 6 = .ok (.getfield 24, 3) := by decide +kernel
theorem dX2_standingTimes_9 : decode cX2_standingTimes 9 = .ok (.invokevirtual 51, 3) := by decide +kernel
theorem dX2_standingTimes_12 : decode cX2_standingTimes 12 = .ok (.if_icmp .ge 38, 3) := by decide +kernel
theorem dX2_standingTimes_15 : decode cX2_standingTimes 15 = .ok (.aload_n 0, 1) := by decide +kernel
theorem dX2_standingTimes_16 : decode cX2_standingTimes 16 = .ok (.getfield 24, 3) := by decide +kernel
theorem dX2_standingTimes_19 : decode cX2_standingTimes 19 = .ok (.iload_n 2, 1) := by decide +kernel
theorem dX2_standingTimes_20 : decode cX2_standingTimes 20 = .ok (.invokevirtual 54, 3) := by decide +kernel
theorem dX2_standingTimes_23 : decode cX2_standingTimes 23 = .ok (.checkcast 58, 3) := by decide +kernel
theorem dX2_standingTimes_26 : decode cX2_standingTimes 26 = .ok (.astore_n 3, 1) := by decide +kernel
theorem dX2_standingTimes_27 : decode cX2_standingTimes 27 = .ok (.aload_n 3, 1) := by decide +kernel
theorem dX2_standingTimes_28 : decode cX2_standingTimes 28 = .ok (.getfield 60, 3) := by decide +kernel
theorem dX2_standingTimes_31 : decode cX2_standingTimes 31 = .ok (.ifCond .ne 13, 3) := by decide +kernel
theorem dX2_standingTimes_34 : decode cX2_standingTimes 34 = .ok (.iload_n 1, 1) := by decide +kernel
theorem dX2_standingTimes_35 : decode cX2_standingTimes 35 = .ok (.aload_n 3, 1) := by decide +kernel
theorem dX2_standingTimes_36 : decode cX2_standingTimes 36 = .ok (.getfield 64, 3) := by decide +kernel
theorem dX2_standingTimes_39 : decode cX2_standingTimes 39 = .ok (.getfield 68, 3) := by decide +kernel
theorem dX2_standingTimes_42 : decode cX2_standingTimes 42 = .ok (.iadd, 1) := by decide +kernel
theorem dX2_standingTimes_43 : decode cX2_standingTimes 43 = .ok (.istore_n 1, 1) := by decide +kernel
theorem dX2_standingTimes_44 : decode cX2_standingTimes 44 = .ok (.iinc 2 1, 3) := by decide +kernel
theorem dX2_standingTimes_47 : decode cX2_standingTimes 47 = .ok (.goto (-43), 3) := by decide +kernel
theorem dX2_standingTimes_50 : decode cX2_standingTimes 50 = .ok (.iload_n 1, 1) := by decide +kernel
theorem dX2_standingTimes_51 : decode cX2_standingTimes 51 = .ok (.ireturn, 1) := by decide +kernel
theorem dX3_init_0 : decode cX3_init 0 = .ok (.aload_n 0, 1) := by decide +kernel
theorem dX3_init_1 : decode cX3_init 1 = .ok (.invokespecial 1, 3) := by decide +kernel
theorem dX3_init_4 : decode cX3_init 4 = .ok (.aload_n 0, 1) := by decide +kernel
theorem dX3_init_5 : decode cX3_init 5 = .ok (.iload_n 1, 1) := by decide +kernel
theorem dX3_init_6 : decode cX3_init 6 = .ok (.putfield 7, 3) := by decide +kernel
theorem dX3_init_9 : decode cX3_init 9 = .ok (.aload_n 0, 1) := by decide +kernel
theorem dX3_init_10 : decode cX3_init 10 = .ok (.iload_n 2, 1) := by decide +kernel
theorem dX3_init_11 : decode cX3_init 11 = .ok (.putfield 13, 3) := by decide +kernel
theorem dX3_init_14 : decode cX3_init 14 = .ok (.aload_n 0, 1) := by decide +kernel
theorem dX3_init_15 : decode cX3_init 15 = .ok (.iload_n 3, 1) := by decide +kernel
theorem dX3_init_16 : decode cX3_init 16 = .ok (.putfield 16, 3) := by decide +kernel
theorem dX3_init_19 : decode cX3_init 19 = .ok (.return_, 1) := by decide +kernel
theorem dX4_init_0 : decode cX4_init 0 = .ok (.aload_n 0, 1) := by decide +kernel
theorem dX4_init_1 : decode cX4_init 1 = .ok (.invokespecial 1, 3) := by decide +kernel
theorem dX4_init_4 : decode cX4_init 4 = .ok (.aload_n 0, 1) := by decide +kernel
theorem dX4_init_5 : decode cX4_init 5 = .ok (.iload_n 1, 1) := by decide +kernel
theorem dX4_init_6 : decode cX4_init 6 = .ok (.putfield 7, 3) := by decide +kernel
theorem dX4_init_9 : decode cX4_init 9 = .ok (.aload_n 0, 1) := by decide +kernel
theorem dX4_init_10 : decode cX4_init 10 = .ok (.iload_n 2, 1) := by decide +kernel
theorem dX4_init_11 : decode cX4_init 11 = .ok (.putfield 13, 3) := by decide +kernel
theorem dX4_init_14 : decode cX4_init 14 = .ok (.aload_n 0, 1) := by decide +kernel
theorem dX4_init_15 : decode cX4_init 15 = .ok (.iload_n 3, 1) := by decide +kernel
theorem dX4_init_16 : decode cX4_init 16 = .ok (.putfield 16, 3) := by decide +kernel
theorem dX4_init_19 : decode cX4_init 19 = .ok (.return_, 1) := by decide +kernel
theorem dX4_end_0 : decode cX4_end 0 = .ok (.aload_n 0, 1) := by decide +kernel
theorem dX4_end_1 : decode cX4_end 1 = .ok (.getfield 13, 3) := by decide +kernel
theorem dX4_end_4 : decode cX4_end 4 = .ok (.aload_n 0, 1) := by decide +kernel
theorem dX4_end_5 : decode cX4_end 5 = .ok (.getfield 16, 3) := by decide +kernel
theorem dX4_end_8 : decode cX4_end 8 = .ok (.iadd, 1) := by decide +kernel
theorem dX4_end_9 : decode cX4_end 9 = .ok (.ireturn, 1) := by decide +kernel
theorem dX4_holds_0 : decode cX4_holds 0 = .ok (.aload_n 0, 1) := by decide +kernel
theorem dX4_holds_1 : decode cX4_holds 1 = .ok (.getfield 13, 3) := by decide +kernel
theorem dX4_holds_4 : decode cX4_holds 4 = .ok (.iload_n 1, 1) := by decide +kernel
theorem dX4_holds_5 : decode cX4_holds 5 = .ok (.if_icmp .gt 15, 3) := by decide +kernel
theorem dX4_holds_8 : decode cX4_holds 8 = .ok (.iload_n 1, 1) := by decide +kernel
theorem dX4_holds_9 : decode cX4_holds 9 = .ok (.aload_n 0, 1) := by decide +kernel
theorem dX4_holds_10 : decode cX4_holds 10 = .ok (.invokevirtual 19, 3) := by decide +kernel
theorem dX4_holds_13 : decode cX4_holds 13 = .ok (.if_icmp .ge 7, 3) := by decide +kernel
theorem dX4_holds_16 : decode cX4_holds 16 = .ok (.iconst 1, 1) := by decide +kernel
theorem dX4_holds_17 : decode cX4_holds 17 = .ok (.goto 4, 3) := by decide +kernel
theorem dX4_holds_20 : decode cX4_holds 20 = .ok (.iconst 0, 1) := by decide +kernel
theorem dX4_holds_21 : decode cX4_holds 21 = .ok (.ireturn, 1) := by decide +kernel
theorem dX4_timesBetween_0 : decode cX4_timesBetween 0 = .ok (.aload_n 0, 1) := by decide +kernel
theorem dX4_timesBetween_1 : decode cX4_timesBetween 1 = .ok (.getfield 13, 3) := by decide +kernel
theorem dX4_timesBetween_4 : decode cX4_timesBetween 4 = .ok (.aload_n 1, 1) := by decide +kernel
theorem dX4_timesBetween_5 : decode cX4_timesBetween 5 = .ok (.invokevirtual 19, 3) := by decide +kernel
theorem dX4_timesBetween_8 : decode cX4_timesBetween 8 = .ok (.isub, 1) := by decide +kernel
theorem dX4_timesBetween_9 : decode cX4_timesBetween 9 = .ok (.aload_n 1, 1) := by decide +kernel
theorem dX4_timesBetween_10 : decode cX4_timesBetween 10 = .ok (.getfield 13, 3) := by decide +kernel
theorem dX4_timesBetween_13 : decode cX4_timesBetween 13 = .ok (.aload_n 0, 1) := by decide +kernel
theorem dX4_timesBetween_14 : decode cX4_timesBetween 14 = .ok (.invokevirtual 19, 3) := by decide +kernel
theorem dX4_timesBetween_17 : decode cX4_timesBetween 17 = .ok (.isub, 1) := by decide +kernel
theorem dX4_timesBetween_18 : decode cX4_timesBetween 18 = .ok (.invokestatic 23, 3) := by decide +kernel
theorem dX4_timesBetween_21 : decode cX4_timesBetween 21 = .ok (.ireturn, 1) := by decide +kernel
theorem dX5_init_0 : decode cX5_init 0 = .ok (.aload_n 0, 1) := by decide +kernel
theorem dX5_init_1 : decode cX5_init 1 = .ok (.invokespecial 1, 3) := by decide +kernel
theorem dX5_init_4 : decode cX5_init 4 = .ok (.aload_n 0, 1) := by decide +kernel
theorem dX5_init_5 : decode cX5_init 5 = .ok (.iconst 4, 1) := by decide +kernel
theorem dX5_init_6 : decode cX5_init 6 = .ok (.anewarray 7, 3) := by decide +kernel
theorem dX5_init_9 : decode cX5_init 9 = .ok (.dup, 1) := by decide +kernel
theorem dX5_init_10 : decode cX5_init 10 = .ok (.iconst 0, 1) := by decide +kernel
theorem dX5_init_11 : decode cX5_init 11 = .ok (.new 7, 3) := by decide +kernel
theorem dX5_init_14 : decode cX5_init 14 = .ok (.dup, 1) := by decide +kernel
theorem dX5_init_15 : decode cX5_init 15 = .ok (.iconst 0, 1) := by decide +kernel
theorem dX5_init_16 : decode cX5_init 16 = .ok (.iconst 2, 1) := by decide +kernel
theorem dX5_init_17 : decode cX5_init 17 = .ok (.iconst 0, 1) := by decide +kernel
theorem dX5_init_18 : decode cX5_init 18 = .ok (.invokespecial 9, 3) := by decide +kernel
theorem dX5_init_21 : decode cX5_init 21 = .ok (.aastore, 1) := by decide +kernel
theorem dX5_init_22 : decode cX5_init 22 = .ok (.dup, 1) := by decide +kernel
theorem dX5_init_23 : decode cX5_init 23 = .ok (.iconst 1, 1) := by decide +kernel
theorem dX5_init_24 : decode cX5_init 24 = .ok (.new 7, 3) := by decide +kernel
theorem dX5_init_27 : decode cX5_init 27 = .ok (.dup, 1) := by decide +kernel
theorem dX5_init_28 : decode cX5_init 28 = .ok (.iconst 1, 1) := by decide +kernel
theorem dX5_init_29 : decode cX5_init 29 = .ok (.iconst 3, 1) := by decide +kernel
theorem dX5_init_30 : decode cX5_init 30 = .ok (.iconst 0, 1) := by decide +kernel
theorem dX5_init_31 : decode cX5_init 31 = .ok (.invokespecial 9, 3) := by decide +kernel
theorem dX5_init_34 : decode cX5_init 34 = .ok (.aastore, 1) := by decide +kernel
theorem dX5_init_35 : decode cX5_init 35 = .ok (.dup, 1) := by decide +kernel
theorem dX5_init_36 : decode cX5_init 36 = .ok (.iconst 2, 1) := by decide +kernel
theorem dX5_init_37 : decode cX5_init 37 = .ok (.new 7, 3) := by decide +kernel
theorem dX5_init_40 : decode cX5_init 40 = .ok (.dup, 1) := by decide +kernel
theorem dX5_init_41 : decode cX5_init 41 = .ok (.iconst 2, 1) := by decide +kernel
theorem dX5_init_42 : decode cX5_init 42 = .ok (.iconst 4, 1) := by decide +kernel
theorem dX5_init_43 : decode cX5_init 43 = .ok (.iconst 1, 1) := by decide +kernel
theorem dX5_init_44 : decode cX5_init 44 = .ok (.invokespecial 9, 3) := by decide +kernel
theorem dX5_init_47 : decode cX5_init 47 = .ok (.aastore, 1) := by decide +kernel
theorem dX5_init_48 : decode cX5_init 48 = .ok (.dup, 1) := by decide +kernel
theorem dX5_init_49 : decode cX5_init 49 = .ok (.iconst 3, 1) := by decide +kernel
theorem dX5_init_50 : decode cX5_init 50 = .ok (.new 7, 3) := by decide +kernel
theorem dX5_init_53 : decode cX5_init 53 = .ok (.dup, 1) := by decide +kernel
theorem dX5_init_54 : decode cX5_init 54 = .ok (.iconst 3, 1) := by decide +kernel
theorem dX5_init_55 : decode cX5_init 55 = .ok (.bipush 6, 2) := by decide +kernel
theorem dX5_init_57 : decode cX5_init 57 = .ok (.iconst 1, 1) := by decide +kernel
theorem dX5_init_58 : decode cX5_init 58 = .ok (.invokespecial 9, 3) := by decide +kernel
theorem dX5_init_61 : decode cX5_init 61 = .ok (.aastore, 1) := by decide +kernel
theorem dX5_init_62 : decode cX5_init 62 = .ok (.putfield 12, 3) := by decide +kernel
theorem dX5_init_65 : decode cX5_init 65 = .ok (.aload_n 0, 1) := by decide +kernel
theorem dX5_init_66 : decode cX5_init 66 = .ok (.bipush 28, 2) := by decide +kernel
theorem dX5_init_68 : decode cX5_init 68 = .ok (.anewarray 18, 3) := by decide +kernel
theorem dX5_init_71 : decode cX5_init 71 = .ok (.putfield 20, 3) := by decide +kernel
theorem dX5_init_74 : decode cX5_init 74 = .ok (.iconst 0, 1) := by decide +kernel
theorem dX5_init_75 : decode cX5_init 75 = .ok (.istore_n 1, 1) := by decide +kernel
theorem dX5_init_76 : decode cX5_init 76 = .ok (.iload_n 1, 1) := by decide +kernel
theorem dX5_init_77 : decode cX5_init 77 = .ok (.aload_n 0, 1) := by decide +kernel
theorem dX5_init_78 : decode cX5_init 78 = .ok (.getfield 20, 3) := by decide +kernel
theorem dX5_init_81 : decode cX5_init 81 = .ok (.arraylength, 1) := by decide +kernel
theorem dX5_init_82 : decode cX5_init 82 = .ok (.if_icmp .ge 22, 3) := by decide +kernel
theorem dX5_init_85 : decode cX5_init 85 = .ok (.aload_n 0, 1) := by decide +kernel
theorem dX5_init_86 : decode cX5_init 86 = .ok (.getfield 20, 3) := by decide +kernel
theorem dX5_init_89 : decode cX5_init 89 = .ok (.iload_n 1, 1) := by decide +kernel
theorem dX5_init_90 : decode cX5_init 90 = .ok (.new 18, 3) := by decide +kernel
theorem dX5_init_93 : decode cX5_init 93 = .ok (.dup, 1) := by decide +kernel
theorem dX5_init_94 : decode cX5_init 94 = .ok (.invokespecial 24, 3) := by decide +kernel
theorem dX5_init_97 : decode cX5_init 97 = .ok (.aastore, 1) := by decide +kernel
theorem dX5_init_98 : decode cX5_init 98 = .ok (.iinc 1 1, 3) := by decide +kernel
theorem dX5_init_101 : decode cX5_init 101 = .ok (.goto (-25), 3) := by decide +kernel
theorem dX5_init_104 : decode cX5_init 104 = .ok (.aload_n 0, 1) := by decide +kernel
theorem dX5_init_105 : decode cX5_init 105 = .ok (.new 25, 3) := by decide +kernel
theorem dX5_init_108 : decode cX5_init 108 = .ok (.dup, 1) := by decide +kernel
theorem dX5_init_109 : decode cX5_init 109 = .ok (.invokespecial 27, 3) := by decide +kernel
theorem dX5_init_112 : decode cX5_init 112 = .ok (.putfield 28, 3) := by decide +kernel
theorem dX5_init_115 : decode cX5_init 115 = .ok (.aload_n 0, 1) := by decide +kernel
theorem dX5_init_116 : decode cX5_init 116 = .ok (.iconst 1, 1) := by decide +kernel
theorem dX5_init_117 : decode cX5_init 117 = .ok (.putfield 32, 3) := by decide +kernel
theorem dX5_init_120 : decode cX5_init 120 = .ok (.aload_n 0, 1) := by decide +kernel
theorem dX5_init_121 : decode cX5_init 121 = .ok (.iconst 0, 1) := by decide +kernel
theorem dX5_init_122 : decode cX5_init 122 = .ok (.putfield 36, 3) := by decide +kernel
theorem dX5_init_125 : decode cX5_init 125 = .ok (.aload_n 0, 1) := by decide +kernel
theorem dX5_init_126 : decode cX5_init 126 = .ok (.iconst 0, 1) := by decide +kernel
theorem dX5_init_127 : decode cX5_init 127 = .ok (.putfield 39, 3) := by decide +kernel
theorem dX5_init_130 : decode cX5_init 130 = .ok (.aload_n 0, 1) := by decide +kernel
theorem dX5_init_131 : decode cX5_init 131 = .ok (.iconst 0, 1) := by decide +kernel
theorem dX5_init_132 : decode cX5_init 132 = .ok (.putfield 42, 3) := by decide +kernel
theorem dX5_init_135 : decode cX5_init 135 = .ok (.return_, 1) := by decide +kernel
theorem dX5_setRoom_0 : decode cX5_setRoom 0 = .ok (.aload_n 0, 1) := by decide +kernel
theorem dX5_setRoom_1 : decode cX5_setRoom 1 = .ok (.iload_n 1, 1) := by decide +kernel
theorem dX5_setRoom_2 : decode cX5_setRoom 2 = .ok (.invokevirtual 45, 3) := by decide +kernel
theorem dX5_setRoom_5 : decode cX5_setRoom 5 = .ok (.astore 4, 2) := by decide +kernel
theorem dX5_setRoom_7 : decode cX5_setRoom 7 = .ok (.iload_n 2, 1) := by decide +kernel
theorem dX5_setRoom_8 : decode cX5_setRoom 8 = .ok (.iconst 0, 1) := by decide +kernel
theorem dX5_setRoom_9 : decode cX5_setRoom 9 = .ok (.bipush 6, 2) := by decide +kernel
theorem dX5_setRoom_11 : decode cX5_setRoom 11 = .ok (.invokestatic 49, 3) := by decide +kernel
theorem dX5_setRoom_14 : decode cX5_setRoom 14 = .ok (.iload_n 3, 1) := by decide +kernel
theorem dX5_setRoom_15 : decode cX5_setRoom 15 = .ok (.iconst 0, 1) := by decide +kernel
theorem dX5_setRoom_16 : decode cX5_setRoom 16 = .ok (.iconst 1, 1) := by decide +kernel
theorem dX5_setRoom_17 : decode cX5_setRoom 17 = .ok (.invokestatic 49, 3) := by decide +kernel
theorem dX5_setRoom_20 : decode cX5_setRoom 20 = .ok (.aload 4, 2) := by decide +kernel
theorem dX5_setRoom_22 : decode cX5_setRoom 22 = .ok (.getfield 52, 3) := by decide +kernel
theorem dX5_setRoom_25 : decode cX5_setRoom 25 = .ok (.istore 5, 2) := by decide +kernel
theorem dX5_setRoom_27 : decode cX5_setRoom 27 = .ok (.aload 4, 2) := by decide +kernel
theorem dX5_setRoom_29 : decode cX5_setRoom 29 = .ok (.iload_n 2, 1) := by decide +kernel
theorem dX5_setRoom_30 : decode cX5_setRoom 30 = .ok (.putfield 52, 3) := by decide +kernel
theorem dX5_setRoom_33 : decode cX5_setRoom 33 = .ok (.aload 4, 2) := by decide +kernel
theorem dX5_setRoom_35 : decode cX5_setRoom 35 = .ok (.iload_n 3, 1) := by decide +kernel
theorem dX5_setRoom_36 : decode cX5_setRoom 36 = .ok (.putfield 55, 3) := by decide +kernel
theorem dX5_setRoom_39 : decode cX5_setRoom 39 = .ok (.iload 5, 2) := by decide +kernel
theorem dX5_setRoom_41 : decode cX5_setRoom 41 = .ok (.ireturn, 1) := by decide +kernel
theorem dX5_setGap_0 : decode cX5_setGap 0 = .ok (.iload_n 1, 1) := by decide +kernel
theorem dX5_setGap_1 : decode cX5_setGap 1 = .ok (.iconst 0, 1) := by decide +kernel
theorem dX5_setGap_2 : decode cX5_setGap 2 = .ok (.iconst 3, 1) := by decide +kernel
theorem dX5_setGap_3 : decode cX5_setGap 3 = .ok (.invokestatic 49, 3) := by decide +kernel
theorem dX5_setGap_6 : decode cX5_setGap 6 = .ok (.aload_n 0, 1) := by decide +kernel
theorem dX5_setGap_7 : decode cX5_setGap 7 = .ok (.getfield 32, 3) := by decide +kernel
theorem dX5_setGap_10 : decode cX5_setGap 10 = .ok (.istore_n 2, 1) := by decide +kernel
theorem dX5_setGap_11 : decode cX5_setGap 11 = .ok (.aload_n 0, 1) := by decide +kernel
theorem dX5_setGap_12 : decode cX5_setGap 12 = .ok (.iload_n 1, 1) := by decide +kernel
theorem dX5_setGap_13 : decode cX5_setGap 13 = .ok (.putfield 32, 3) := by decide +kernel
theorem dX5_setGap_16 : decode cX5_setGap 16 = .ok (.iload_n 2, 1) := by decide +kernel
theorem dX5_setGap_17 : decode cX5_setGap 17 = .ok (.ireturn, 1) := by decide +kernel
theorem dX5_seatsOf_0 : decode cX5_seatsOf 0 = .ok (.aload_n 0, 1) := by decide +kernel
theorem dX5_seatsOf_1 : decode cX5_seatsOf 1 = .ok (.iload_n 1, 1) := by decide +kernel
theorem dX5_seatsOf_2 : decode cX5_seatsOf 2 = .ok (.invokevirtual 45, 3) := by decide +kernel
theorem dX5_seatsOf_5 : decode cX5_seatsOf 5 = .ok (.getfield 52, 3) := by decide +kernel
theorem dX5_seatsOf_8 : decode cX5_seatsOf 8 = .ok (.ireturn, 1) := by decide +kernel
theorem dX5_houseOf_0 : decode cX5_houseOf 0 = .ok (.aload_n 0, 1) := by decide +kernel
theorem dX5_houseOf_1 : decode cX5_houseOf 1 = .ok (.iload_n 1, 1) := by decide +kernel
theorem dX5_houseOf_2 : decode cX5_houseOf 2 = .ok (.invokevirtual 45, 3) := by decide +kernel
theorem dX5_houseOf_5 : decode cX5_houseOf 5 = .ok (.getfield 55, 3) := by decide +kernel
theorem dX5_houseOf_8 : decode cX5_houseOf 8 = .ok (.ireturn, 1) := by decide +kernel
theorem dX5_ask_0 : decode cX5_ask 0 = .ok (.iload_n 1, 1) := by decide +kernel
theorem dX5_ask_1 : decode cX5_ask 1 = .ok (.invokestatic 58, 3) := by decide +kernel
theorem dX5_ask_4 : decode cX5_ask 4 = .ok (.iload_n 2, 1) := by decide +kernel
theorem dX5_ask_5 : decode cX5_ask 5 = .ok (.iconst 0, 1) := by decide +kernel
theorem dX5_ask_6 : decode cX5_ask 6 = .ok (.bipush 63, 2) := by decide +kernel
theorem dX5_ask_8 : decode cX5_ask 8 = .ok (.invokestatic 49, 3) := by decide +kernel
theorem dX5_ask_11 : decode cX5_ask 11 = .ok (.iload_n 3, 1) := by decide +kernel
theorem dX5_ask_12 : decode cX5_ask 12 = .ok (.iload 4, 2) := by decide +kernel
theorem dX5_ask_14 : decode cX5_ask 14 = .ok (.iload 5, 2) := by decide +kernel
theorem dX5_ask_16 : decode cX5_ask 16 = .ok (.invokestatic 62, 3) := by decide +kernel
theorem dX5_ask_19 : decode cX5_ask 19 = .ok (.aload_n 0, 1) := by decide +kernel
theorem dX5_ask_20 : decode cX5_ask 20 = .ok (.getfield 28, 3) := by decide +kernel
theorem dX5_ask_23 : decode cX5_ask 23 = .ok (.invokevirtual 65, 3) := by decide +kernel
theorem dX5_ask_26 : decode cX5_ask 26 = .ok (.bipush 8, 2) := by decide +kernel
theorem dX5_ask_28 : decode cX5_ask 28 = .ok (.if_icmp .lt 13, 3) := by decide +kernel
theorem dX5_ask_31 : decode cX5_ask 31 = .ok (.new 69, 3) := by decide +kernel
theorem dX5_ask_34 : decode cX5_ask 34 = .ok (.dup, 1) := by decide +kernel
theorem dX5_ask_35 : decode cX5_ask 35 = .ok (.ldc 71, 2) := by decide +kernel
theorem dX5_ask_37 : decode cX5_ask 37 = .ok (.invokespecial 73, 3) := by decide +kernel
theorem dX5_ask_40 : decode cX5_ask 40 = .ok (.athrow, 1) := by decide +kernel
theorem dX5_ask_41 : decode cX5_ask 41 = .ok (.new 76, 3) := by decide +kernel
theorem dX5_ask_44 : decode cX5_ask 44 = .ok (.dup, 1) := by decide +kernel
theorem dX5_ask_45 : decode cX5_ask 45 = .ok (.aload_n 0, 1) := by decide +kernel
theorem dX5_ask_46 : decode cX5_ask 46 = .ok (.getfield 36, 3) := by decide +kernel
theorem dX5_ask_49 : decode cX5_ask 49 = .ok (.iload_n 1, 1) := by decide +kernel
theorem dX5_ask_50 : decode cX5_ask 50 = .ok (.iload_n 2, 1) := by decide +kernel
theorem dX5_ask_51 : decode cX5_ask 51 = .ok (.iload_n 1, 1) := by decide +kernel
theorem dX5_ask_52 : decode cX5_ask 52 = .ok (.invokestatic 78, 3) := by decide +kernel
theorem dX5_ask_55 : decode cX5_ask 55 = .ok (.iconst (-1), 1) := by decide +kernel
theorem dX5_ask_56 : decode cX5_ask 56 = .ok (.ixor, 1) := by decide +kernel
theorem dX5_ask_57 : decode cX5_ask 57 = .ok (.iand, 1) := by decide +kernel
theorem dX5_ask_58 : decode cX5_ask 58 = .ok (.invokespecial 82, 3) := by decide +kernel
theorem dX5_ask_61 : decode cX5_ask 61 = .ok (.astore 6, 2) := by decide +kernel
theorem dX5_ask_63 : decode cX5_ask 63 = .ok (.new 25, 3) := by decide +kernel
theorem dX5_ask_66 : decode cX5_ask 66 = .ok (.dup, 1) := by decide +kernel
theorem dX5_ask_67 : decode cX5_ask 67 = .ok (.invokespecial 27, 3) := by decide +kernel
theorem dX5_ask_70 : decode cX5_ask 70 = .ok (.astore 7, 2) := by decide +kernel
theorem dX5_ask_72 : decode cX5_ask 72 = .ok (.aload 7, 2) := by decide +kernel
theorem dX5_ask_74 : decode cX5_ask 74 = .ok (.new 83, 3) := by decide +kernel
theorem dX5_ask_77 : decode cX5_ask 77 = .ok (.dup, 1) := by decide +kernel
theorem dX5_ask_78 : decode cX5_ask 78 = .ok (.iload_n 3, 1) := by decide +kernel
theorem dX5_ask_79 : decode cX5_ask 79 = .ok (.iload 4, 2) := by decide +kernel
theorem dX5_ask_81 : decode cX5_ask 81 = .ok (.iload 5, 2) := by decide +kernel
theorem dX5_ask_83 : decode cX5_ask 83 = .ok (.invokespecial 85, 3) := by decide +kernel
theorem dX5_ask_86 : decode cX5_ask 86 = .ok (.invokevirtual 86, 3) := by decide +kernel
theorem dX5_ask_89 : decode cX5_ask 89 = .ok (.pop, 1) := by decide +kernel
theorem dX5_ask_90 : decode cX5_ask 90 = .ok (.aload_n 0, 1) := by decide +kernel
theorem dX5_ask_91 : decode cX5_ask 91 = .ok (.aload 6, 2) := by decide +kernel
theorem dX5_ask_93 : decode cX5_ask 93 = .ok (.aload 7, 2) := by decide +kernel
theorem dX5_ask_95 : decode cX5_ask 95 = .ok (.invokevirtual 90, 3) := by decide +kernel
theorem dX5_ask_98 : decode cX5_ask 98 = .ok (.aload_n 0, 1) := by decide +kernel
theorem dX5_ask_99 : decode cX5_ask 99 = .ok (.getfield 28, 3) := by decide +kernel
theorem dX5_ask_102 : decode cX5_ask 102 = .ok (.aload 6, 2) := by decide +kernel
theorem dX5_ask_104 : decode cX5_ask 104 = .ok (.invokevirtual 86, 3) := by decide +kernel
theorem dX5_ask_107 : decode cX5_ask 107 = .ok (.pop, 1) := by decide +kernel
theorem dX5_ask_108 : decode cX5_ask 108 = .ok (.aload_n 0, 1) := by decide +kernel
theorem dX5_ask_109 : decode cX5_ask 109 = .ok (.dup, 1) := by decide +kernel
theorem dX5_ask_110 : decode cX5_ask 110 = .ok (.getfield 36, 3) := by decide +kernel
theorem dX5_ask_113 : decode cX5_ask 113 = .ok (.iconst 1, 1) := by decide +kernel
theorem dX5_ask_114 : decode cX5_ask 114 = .ok (.iadd, 1) := by decide +kernel
theorem dX5_ask_115 : decode cX5_ask 115 = .ok (.putfield 36, 3) := by decide +kernel
theorem dX5_ask_118 : decode cX5_ask 118 = .ok (.aload 6, 2) := by decide +kernel
theorem dX5_ask_120 : decode cX5_ask 120 = .ok (.getfield 94, 3) := by decide +kernel
theorem dX5_ask_123 : decode cX5_ask 123 = .ok (.ireturn, 1) := by decide +kernel
theorem dX5_extend_0 : decode cX5_extend 0 = .ok (.aload_n 0, 1) := by decide +kernel
theorem dX5_extend_1 : decode cX5_extend 1 = .ok (.iload_n 1, 1) := by decide +kernel
theorem dX5_extend_2 : decode cX5_extend 2 = .ok (.invokevirtual 97, 3) := by decide +kernel
theorem dX5_extend_5 : decode cX5_extend 5 = .ok (.astore 4, 2) := by decide +kernel
theorem dX5_extend_7 : decode cX5_extend 7 = .ok (.iload_n 2, 1) := by decide +kernel
theorem dX5_extend_8 : decode cX5_extend 8 = .ok (.iconst 1, 1) := by decide +kernel
theorem dX5_extend_9 : decode cX5_extend 9 = .ok (.bipush 14, 2) := by decide +kernel
theorem dX5_extend_11 : decode cX5_extend 11 = .ok (.invokestatic 49, 3) := by decide +kernel
theorem dX5_extend_14 : decode cX5_extend 14 = .ok (.iload_n 3, 1) := by decide +kernel
theorem dX5_extend_15 : decode cX5_extend 15 = .ok (.iconst 1, 1) := by decide +kernel
theorem dX5_extend_16 : decode cX5_extend 16 = .ok (.iconst 5, 1) := by decide +kernel
theorem dX5_extend_17 : decode cX5_extend 17 = .ok (.invokestatic 49, 3) := by decide +kernel
theorem dX5_extend_20 : decode cX5_extend 20 = .ok (.aload 4, 2) := by decide +kernel
theorem dX5_extend_22 : decode cX5_extend 22 = .ok (.aload 4, 2) := by decide +kernel
theorem dX5_extend_24 : decode cX5_extend 24 = .ok (.getfield 101, 3) := by decide +kernel
theorem dX5_extend_27 : decode cX5_extend 27 = .ok (.invokevirtual 65, 3) := by decide +kernel
theorem dX5_extend_30 : decode cX5_extend 30 = .ok (.iconst 1, 1) := by decide +kernel
theorem dX5_extend_31 : decode cX5_extend 31 = .ok (.isub, 1) := by decide +kernel
theorem dX5_extend_32 : decode cX5_extend 32 = .ok (.invokestatic 104, 3) := by decide +kernel
theorem dX5_extend_35 : decode cX5_extend 35 = .ok (.getfield 108, 3) := by decide +kernel
theorem dX5_extend_38 : decode cX5_extend 38 = .ok (.astore 5, 2) := by decide +kernel
theorem dX5_extend_40 : decode cX5_extend 40 = .ok (.aload 5, 2) := by decide +kernel
theorem dX5_extend_42 : decode cX5_extend 42 = .ok (.getfield 114, 3) := by decide +kernel
theorem dX5_extend_45 : decode cX5_extend 45 = .ok (.iload_n 2, 1) := by decide +kernel
theorem dX5_extend_46 : decode cX5_extend 46 = .ok (.iload_n 3, 1) := by decide +kernel
theorem dX5_extend_47 : decode cX5_extend 47 = .ok (.imul, 1) := by decide +kernel
theorem dX5_extend_48 : decode cX5_extend 48 = .ok (.iadd, 1) := by decide +kernel
theorem dX5_extend_49 : decode cX5_extend 49 = .ok (.invokestatic 117, 3) := by decide +kernel
theorem dX5_extend_52 : decode cX5_extend 52 = .ok (.aload 4, 2) := by decide +kernel
theorem dX5_extend_54 : decode cX5_extend 54 = .ok (.getfield 101, 3) := by decide +kernel
theorem dX5_extend_57 : decode cX5_extend 57 = .ok (.invokevirtual 65, 3) := by decide +kernel
theorem dX5_extend_60 : decode cX5_extend 60 = .ok (.iload_n 3, 1) := by decide +kernel
theorem dX5_extend_61 : decode cX5_extend 61 = .ok (.iadd, 1) := by decide +kernel
theorem dX5_extend_62 : decode cX5_extend 62 = .ok (.bipush 6, 2) := by decide +kernel
theorem dX5_extend_64 : decode cX5_extend 64 = .ok (.if_icmp .le 13, 3) := by decide +kernel
theorem dX5_extend_67 : decode cX5_extend 67 = .ok (.new 69, 3) := by decide +kernel
theorem dX5_extend_70 : decode cX5_extend 70 = .ok (.dup, 1) := by decide +kernel
theorem dX5_extend_71 : decode cX5_extend 71 = .ok (.ldc 120, 2) := by decide +kernel
theorem dX5_extend_73 : decode cX5_extend 73 = .ok (.invokespecial 73, 3) := by decide +kernel
theorem dX5_extend_76 : decode cX5_extend 76 = .ok (.athrow, 1) := by decide +kernel
theorem dX5_extend_77 : decode cX5_extend 77 = .ok (.new 25, 3) := by decide +kernel
theorem dX5_extend_80 : decode cX5_extend 80 = .ok (.dup, 1) := by decide +kernel
theorem dX5_extend_81 : decode cX5_extend 81 = .ok (.invokespecial 27, 3) := by decide +kernel
theorem dX5_extend_84 : decode cX5_extend 84 = .ok (.astore 6, 2) := by decide +kernel
theorem dX5_extend_86 : decode cX5_extend 86 = .ok (.iconst 1, 1) := by decide +kernel
theorem dX5_extend_87 : decode cX5_extend 87 = .ok (.istore 7, 2) := by decide +kernel
theorem dX5_extend_89 : decode cX5_extend 89 = .ok (.iload 7, 2) := by decide +kernel
theorem dX5_extend_91 : decode cX5_extend 91 = .ok (.iload_n 3, 1) := by decide +kernel
theorem dX5_extend_92 : decode cX5_extend 92 = .ok (.if_icmp .gt 42, 3) := by decide +kernel
theorem dX5_extend_95 : decode cX5_extend 95 = .ok (.aload 6, 2) := by decide +kernel
theorem dX5_extend_97 : decode cX5_extend 97 = .ok (.new 83, 3) := by decide +kernel
theorem dX5_extend_100 : decode cX5_extend 100 = .ok (.dup, 1) := by decide +kernel
theorem dX5_extend_101 : decode cX5_extend 101 = .ok (.aload 5, 2) := by decide +kernel
theorem dX5_extend_103 : decode cX5_extend 103 = .ok (.getfield 114, 3) := by decide +kernel
theorem dX5_extend_106 : decode cX5_extend 106 = .ok (.iload 7, 2) := by decide +kernel
theorem dX5_extend_108 : decode cX5_extend 108 = .ok (.iload_n 2, 1) := by decide +kernel
theorem dX5_extend_109 : decode cX5_extend 109 = .ok (.imul, 1) := by decide +kernel
theorem dX5_extend_110 : decode cX5_extend 110 = .ok (.iadd, 1) := by decide +kernel
theorem dX5_extend_111 : decode cX5_extend 111 = .ok (.aload 5, 2) := by decide +kernel
theorem dX5_extend_113 : decode cX5_extend 113 = .ok (.getfield 122, 3) := by decide +kernel
theorem dX5_extend_116 : decode cX5_extend 116 = .ok (.aload 5, 2) := by decide +kernel
theorem dX5_extend_118 : decode cX5_extend 118 = .ok (.getfield 125, 3) := by decide +kernel
theorem dX5_extend_121 : decode cX5_extend 121 = .ok (.invokespecial 85, 3) := by decide +kernel
theorem dX5_extend_124 : decode cX5_extend 124 = .ok (.invokevirtual 86, 3) := by decide +kernel
theorem dX5_extend_127 : decode cX5_extend 127 = .ok (.pop, 1) := by decide +kernel
theorem dX5_extend_128 : decode cX5_extend 128 = .ok (.iinc 7 1, 3) := by decide +kernel
theorem dX5_extend_131 : decode cX5_extend 131 = .ok (.goto (-42), 3) := by decide +kernel
theorem dX5_extend_134 : decode cX5_extend 134 = .ok (.aload_n 0, 1) := by decide +kernel
theorem dX5_extend_135 : decode cX5_extend 135 = .ok (.aload 4, 2) := by decide +kernel
theorem dX5_extend_137 : decode cX5_extend 137 = .ok (.aload 6, 2) := by decide +kernel
theorem dX5_extend_139 : decode cX5_extend 139 = .ok (.invokevirtual 90, 3) := by decide +kernel
theorem dX5_extend_142 : decode cX5_extend 142 = .ok (.aload 4, 2) := by decide +kernel
theorem dX5_extend_144 : decode cX5_extend 144 = .ok (.getfield 101, 3) := by decide +kernel
theorem dX5_extend_147 : decode cX5_extend 147 = .ok (.invokevirtual 65, 3) := by decide +kernel
theorem dX5_extend_150 : decode cX5_extend 150 = .ok (.ireturn, 1) := by decide +kernel
theorem dX5_remove_0 : decode cX5_remove 0 = .ok (.aload_n 0, 1) := by decide +kernel
theorem dX5_remove_1 : decode cX5_remove 1 = .ok (.iload_n 1, 1) := by decide +kernel
theorem dX5_remove_2 : decode cX5_remove 2 = .ok (.invokevirtual 128, 3) := by decide +kernel
theorem dX5_remove_5 : decode cX5_remove 5 = .ok (.istore_n 2, 1) := by decide +kernel
theorem dX5_remove_6 : decode cX5_remove 6 = .ok (.aload_n 0, 1) := by decide +kernel
theorem dX5_remove_7 : decode cX5_remove 7 = .ok (.getfield 28, 3) := by decide +kernel
theorem dX5_remove_10 : decode cX5_remove 10 = .ok (.iload_n 2, 1) := by decide +kernel
theorem dX5_remove_11 : decode cX5_remove 11 = .ok (.invokevirtual 131, 3) := by decide +kernel
theorem dX5_remove_14 : decode cX5_remove 14 = .ok (.checkcast 76, 3) := by decide +kernel
theorem dX5_remove_17 : decode cX5_remove 17 = .ok (.astore_n 3, 1) := by decide +kernel
theorem dX5_remove_18 : decode cX5_remove 18 = .ok (.iconst 0, 1) := by decide +kernel
theorem dX5_remove_19 : decode cX5_remove 19 = .ok (.istore 4, 2) := by decide +kernel
theorem dX5_remove_21 : decode cX5_remove 21 = .ok (.iload 4, 2) := by decide +kernel
theorem dX5_remove_23 : decode cX5_remove 23 = .ok (.aload_n 3, 1) := by decide +kernel
theorem dX5_remove_24 : decode cX5_remove 24 = .ok (.getfield 101, 3) := by decide +kernel
theorem dX5_remove_27 : decode cX5_remove 27 = .ok (.invokevirtual 65, 3) := by decide +kernel
theorem dX5_remove_30 : decode cX5_remove 30 = .ok (.if_icmp .ge 25, 3) := by decide +kernel
theorem dX5_remove_33 : decode cX5_remove 33 = .ok (.aload_n 0, 1) := by decide +kernel
theorem dX5_remove_34 : decode cX5_remove 34 = .ok (.aload_n 3, 1) := by decide +kernel
theorem dX5_remove_35 : decode cX5_remove 35 = .ok (.getfield 101, 3) := by decide +kernel
theorem dX5_remove_38 : decode cX5_remove 38 = .ok (.iload 4, 2) := by decide +kernel
theorem dX5_remove_40 : decode cX5_remove 40 = .ok (.invokevirtual 131, 3) := by decide +kernel
theorem dX5_remove_43 : decode cX5_remove 43 = .ok (.checkcast 109, 3) := by decide +kernel
theorem dX5_remove_46 : decode cX5_remove 46 = .ok (.invokevirtual 135, 3) := by decide +kernel
theorem dX5_remove_49 : decode cX5_remove 49 = .ok (.iinc 4 1, 3) := by decide +kernel
theorem dX5_remove_52 : decode cX5_remove 52 = .ok (.goto (-31), 3) := by decide +kernel
theorem dX5_remove_55 : decode cX5_remove 55 = .ok (.aload_n 0, 1) := by decide +kernel
theorem dX5_remove_56 : decode cX5_remove 56 = .ok (.getfield 28, 3) := by decide +kernel
theorem dX5_remove_59 : decode cX5_remove 59 = .ok (.iload_n 2, 1) := by decide +kernel
theorem dX5_remove_60 : decode cX5_remove 60 = .ok (.invokevirtual 139, 3) := by decide +kernel
theorem dX5_remove_63 : decode cX5_remove 63 = .ok (.pop, 1) := by decide +kernel
theorem dX5_remove_64 : decode cX5_remove 64 = .ok (.aload_n 0, 1) := by decide +kernel
theorem dX5_remove_65 : decode cX5_remove 65 = .ok (.getfield 28, 3) := by decide +kernel
theorem dX5_remove_68 : decode cX5_remove 68 = .ok (.invokevirtual 65, 3) := by decide +kernel
theorem dX5_remove_71 : decode cX5_remove 71 = .ok (.ireturn, 1) := by decide +kernel
theorem dX5_answer_0 : decode cX5_answer 0 = .ok (.aload_n 0, 1) := by decide +kernel
theorem dX5_answer_1 : decode cX5_answer 1 = .ok (.iload_n 1, 1) := by decide +kernel
theorem dX5_answer_2 : decode cX5_answer 2 = .ok (.invokevirtual 97, 3) := by decide +kernel
theorem dX5_answer_5 : decode cX5_answer 5 = .ok (.astore 4, 2) := by decide +kernel
theorem dX5_answer_7 : decode cX5_answer 7 = .ok (.iload_n 2, 1) := by decide +kernel
theorem dX5_answer_8 : decode cX5_answer 8 = .ok (.invokestatic 58, 3) := by decide +kernel
theorem dX5_answer_11 : decode cX5_answer 11 = .ok (.iload_n 3, 1) := by decide +kernel
theorem dX5_answer_12 : decode cX5_answer 12 = .ok (.bipush 121, 2) := by decide +kernel
theorem dX5_answer_14 : decode cX5_answer 14 = .ok (.if_icmp .eq 25, 3) := by decide +kernel
theorem dX5_answer_17 : decode cX5_answer 17 = .ok (.iload_n 3, 1) := by decide +kernel
theorem dX5_answer_18 : decode cX5_answer 18 = .ok (.bipush 110, 2) := by decide +kernel
theorem dX5_answer_20 : decode cX5_answer 20 = .ok (.if_icmp .eq 19, 3) := by decide +kernel
theorem dX5_answer_23 : decode cX5_answer 23 = .ok (.iload_n 3, 1) := by decide +kernel
theorem dX5_answer_24 : decode cX5_answer 24 = .ok (.bipush 111, 2) := by decide +kernel
theorem dX5_answer_26 : decode cX5_answer 26 = .ok (.if_icmp .eq 13, 3) := by decide +kernel
theorem dX5_answer_29 : decode cX5_answer 29 = .ok (.new 142, 3) := by decide +kernel
theorem dX5_answer_32 : decode cX5_answer 32 = .ok (.dup, 1) := by decide +kernel
theorem dX5_answer_33 : decode cX5_answer 33 = .ok (.ldc 144, 2) := by decide +kernel
theorem dX5_answer_35 : decode cX5_answer 35 = .ok (.invokespecial 146, 3) := by decide +kernel
theorem dX5_answer_38 : decode cX5_answer 38 = .ok (.athrow, 1) := by decide +kernel
theorem dX5_answer_39 : decode cX5_answer 39 = .ok (.aload 4, 2) := by decide +kernel
theorem dX5_answer_41 : decode cX5_answer 41 = .ok (.getfield 147, 3) := by decide +kernel
theorem dX5_answer_44 : decode cX5_answer 44 = .ok (.iload_n 2, 1) := by decide +kernel
theorem dX5_answer_45 : decode cX5_answer 45 = .ok (.invokestatic 150, 3) := by decide +kernel
theorem dX5_answer_48 : decode cX5_answer 48 = .ok (.ifCond .ne 13, 3) := by decide +kernel
theorem dX5_answer_51 : decode cX5_answer 51 = .ok (.new 69, 3) := by decide +kernel
theorem dX5_answer_54 : decode cX5_answer 54 = .ok (.dup, 1) := by decide +kernel
theorem dX5_answer_55 : decode cX5_answer 55 = .ok (.ldc 154, 2) := by decide +kernel
theorem dX5_answer_57 : decode cX5_answer 57 = .ok (.invokespecial 73, 3) := by decide +kernel
theorem dX5_answer_60 : decode cX5_answer 60 = .ok (.athrow, 1) := by decide +kernel
theorem dX5_answer_61 : decode cX5_answer 61 = .ok (.aload 4, 2) := by decide +kernel
theorem dX5_answer_63 : decode cX5_answer 63 = .ok (.iload_n 2, 1) := by decide +kernel
theorem dX5_answer_64 : decode cX5_answer 64 = .ok (.invokevirtual 156, 3) := by decide +kernel
theorem dX5_answer_67 : decode cX5_answer 67 = .ok (.istore 5, 2) := by decide +kernel
theorem dX5_answer_69 : decode cX5_answer 69 = .ok (.iload 5, 2) := by decide +kernel
theorem dX5_answer_71 : decode cX5_answer 71 = .ok (.bipush 110, 2) := by decide +kernel
theorem dX5_answer_73 : decode cX5_answer 73 = .ok (.if_icmp .ne 22, 3) := by decide +kernel
theorem dX5_answer_76 : decode cX5_answer 76 = .ok (.iload_n 3, 1) := by decide +kernel
theorem dX5_answer_77 : decode cX5_answer 77 = .ok (.bipush 110, 2) := by decide +kernel
theorem dX5_answer_79 : decode cX5_answer 79 = .ok (.if_icmp .eq 16, 3) := by decide +kernel
theorem dX5_answer_82 : decode cX5_answer 82 = .ok (.aload_n 0, 1) := by decide +kernel
theorem dX5_answer_83 : decode cX5_answer 83 = .ok (.aload 4, 2) := by decide +kernel
theorem dX5_answer_85 : decode cX5_answer 85 = .ok (.invokevirtual 160, 3) := by decide +kernel
theorem dX5_answer_88 : decode cX5_answer 88 = .ok (.aload_n 0, 1) := by decide +kernel
theorem dX5_answer_89 : decode cX5_answer 89 = .ok (.iload_n 2, 1) := by decide +kernel
theorem dX5_answer_90 : decode cX5_answer 90 = .ok (.aload 4, 2) := by decide +kernel
theorem dX5_answer_92 : decode cX5_answer 92 = .ok (.invokevirtual 164, 3) := by decide +kernel
theorem dX5_answer_95 : decode cX5_answer 95 = .ok (.aload 4, 2) := by decide +kernel
theorem dX5_answer_97 : decode cX5_answer 97 = .ok (.iload_n 2, 1) := by decide +kernel
theorem dX5_answer_98 : decode cX5_answer 98 = .ok (.iload_n 3, 1) := by decide +kernel
theorem dX5_answer_99 : decode cX5_answer 99 = .ok (.invokevirtual 168, 3) := by decide +kernel
theorem dX5_answer_102 : decode cX5_answer 102 = .ok (.iload 5, 2) := by decide +kernel
theorem dX5_answer_104 : decode cX5_answer 104 = .ok (.ireturn, 1) := by decide +kernel
theorem dX5_cancel_0 : decode cX5_cancel 0 = .ok (.aload_n 0, 1) := by decide +kernel
theorem dX5_cancel_1 : decode cX5_cancel 1 = .ok (.iload_n 1, 1) := by decide +kernel
theorem dX5_cancel_2 : decode cX5_cancel 2 = .ok (.invokevirtual 97, 3) := by decide +kernel
theorem dX5_cancel_5 : decode cX5_cancel 5 = .ok (.astore_n 3, 1) := by decide +kernel
theorem dX5_cancel_6 : decode cX5_cancel 6 = .ok (.aload_n 3, 1) := by decide +kernel
theorem dX5_cancel_7 : decode cX5_cancel 7 = .ok (.iload_n 2, 1) := by decide +kernel
theorem dX5_cancel_8 : decode cX5_cancel 8 = .ok (.invokestatic 172, 3) := by decide +kernel
theorem dX5_cancel_11 : decode cX5_cancel 11 = .ok (.astore 4, 2) := by decide +kernel
theorem dX5_cancel_13 : decode cX5_cancel 13 = .ok (.aload_n 0, 1) := by decide +kernel
theorem dX5_cancel_14 : decode cX5_cancel 14 = .ok (.aload 4, 2) := by decide +kernel
theorem dX5_cancel_16 : decode cX5_cancel 16 = .ok (.invokevirtual 135, 3) := by decide +kernel
theorem dX5_cancel_19 : decode cX5_cancel 19 = .ok (.aload 4, 2) := by decide +kernel
theorem dX5_cancel_21 : decode cX5_cancel 21 = .ok (.iconst 1, 1) := by decide +kernel
theorem dX5_cancel_22 : decode cX5_cancel 22 = .ok (.putfield 175, 3) := by decide +kernel
theorem dX5_cancel_25 : decode cX5_cancel 25 = .ok (.aload_n 3, 1) := by decide +kernel
theorem dX5_cancel_26 : decode cX5_cancel 26 = .ok (.invokevirtual 179, 3) := by decide +kernel
theorem dX5_cancel_29 : decode cX5_cancel 29 = .ok (.ireturn, 1) := by decide +kernel
theorem dX5_move_0 : decode cX5_move 0 = .ok (.aload_n 0, 1) := by decide +kernel
theorem dX5_move_1 : decode cX5_move 1 = .ok (.iload_n 1, 1) := by decide +kernel
theorem dX5_move_2 : decode cX5_move 2 = .ok (.invokevirtual 97, 3) := by decide +kernel
theorem dX5_move_5 : decode cX5_move 5 = .ok (.astore 5, 2) := by decide +kernel
theorem dX5_move_7 : decode cX5_move 7 = .ok (.aload 5, 2) := by decide +kernel
theorem dX5_move_9 : decode cX5_move 9 = .ok (.iload_n 2, 1) := by decide +kernel
theorem dX5_move_10 : decode cX5_move 10 = .ok (.invokestatic 104, 3) := by decide +kernel
theorem dX5_move_13 : decode cX5_move 13 = .ok (.astore 6, 2) := by decide +kernel
theorem dX5_move_15 : decode cX5_move 15 = .ok (.iload_n 3, 1) := by decide +kernel
theorem dX5_move_16 : decode cX5_move 16 = .ok (.iload 4, 2) := by decide +kernel
theorem dX5_move_18 : decode cX5_move 18 = .ok (.aload 6, 2) := by decide +kernel
theorem dX5_move_20 : decode cX5_move 20 = .ok (.getfield 108, 3) := by decide +kernel
theorem dX5_move_23 : decode cX5_move 23 = .ok (.getfield 125, 3) := by decide +kernel
theorem dX5_move_26 : decode cX5_move 26 = .ok (.invokestatic 62, 3) := by decide +kernel
theorem dX5_move_29 : decode cX5_move 29 = .ok (.new 83, 3) := by decide +kernel
theorem dX5_move_32 : decode cX5_move 32 = .ok (.dup, 1) := by decide +kernel
theorem dX5_move_33 : decode cX5_move 33 = .ok (.iload_n 3, 1) := by decide +kernel
theorem dX5_move_34 : decode cX5_move 34 = .ok (.iload 4, 2) := by decide +kernel
theorem dX5_move_36 : decode cX5_move 36 = .ok (.aload 6, 2) := by decide +kernel
theorem dX5_move_38 : decode cX5_move 38 = .ok (.getfield 108, 3) := by decide +kernel
theorem dX5_move_41 : decode cX5_move 41 = .ok (.getfield 125, 3) := by decide +kernel
theorem dX5_move_44 : decode cX5_move 44 = .ok (.invokespecial 85, 3) := by decide +kernel
theorem dX5_move_47 : decode cX5_move 47 = .ok (.astore 7, 2) := by decide +kernel
theorem dX5_move_49 : decode cX5_move 49 = .ok (.aload_n 0, 1) := by decide +kernel
theorem dX5_move_50 : decode cX5_move 50 = .ok (.aload 5, 2) := by decide +kernel
theorem dX5_move_52 : decode cX5_move 52 = .ok (.aload 7, 2) := by decide +kernel
theorem dX5_move_54 : decode cX5_move 54 = .ok (.aload 6, 2) := by decide +kernel
theorem dX5_move_56 : decode cX5_move 56 = .ok (.invokevirtual 182, 3) := by decide +kernel
theorem dX5_move_59 : decode cX5_move 59 = .ok (.aload_n 0, 1) := by decide +kernel
theorem dX5_move_60 : decode cX5_move 60 = .ok (.aload 5, 2) := by decide +kernel
theorem dX5_move_62 : decode cX5_move 62 = .ok (.iload_n 2, 1) := by decide +kernel
theorem dX5_move_63 : decode cX5_move 63 = .ok (.aload 7, 2) := by decide +kernel
theorem dX5_move_65 : decode cX5_move 65 = .ok (.aload 6, 2) := by decide +kernel
theorem dX5_move_67 : decode cX5_move 67 = .ok (.invokevirtual 186, 3) := by decide +kernel
theorem dX5_move_70 : decode cX5_move 70 = .ok (.astore 8, 2) := by decide +kernel
theorem dX5_move_72 : decode cX5_move 72 = .ok (.aload_n 0, 1) := by decide +kernel
theorem dX5_move_73 : decode cX5_move 73 = .ok (.aload 6, 2) := by decide +kernel
theorem dX5_move_75 : decode cX5_move 75 = .ok (.invokevirtual 135, 3) := by decide +kernel
theorem dX5_move_78 : decode cX5_move 78 = .ok (.aload 6, 2) := by decide +kernel
theorem dX5_move_80 : decode cX5_move 80 = .ok (.aload 7, 2) := by decide +kernel
theorem dX5_move_82 : decode cX5_move 82 = .ok (.putfield 108, 3) := by decide +kernel
theorem dX5_move_85 : decode cX5_move 85 = .ok (.aload 6, 2) := by decide +kernel
theorem dX5_move_87 : decode cX5_move 87 = .ok (.aload 8, 2) := by decide +kernel
theorem dX5_move_89 : decode cX5_move 89 = .ok (.putfield 190, 3) := by decide +kernel
theorem dX5_move_92 : decode cX5_move 92 = .ok (.aload 6, 2) := by decide +kernel
theorem dX5_move_94 : decode cX5_move 94 = .ok (.iconst 0, 1) := by decide +kernel
theorem dX5_move_95 : decode cX5_move 95 = .ok (.putfield 175, 3) := by decide +kernel
theorem dX5_move_98 : decode cX5_move 98 = .ok (.aload_n 0, 1) := by decide +kernel
theorem dX5_move_99 : decode cX5_move 99 = .ok (.aload 6, 2) := by decide +kernel
theorem dX5_move_101 : decode cX5_move 101 = .ok (.invokevirtual 194, 3) := by decide +kernel
theorem dX5_move_104 : decode cX5_move 104 = .ok (.aload 8, 2) := by decide +kernel
theorem dX5_move_106 : decode cX5_move 106 = .ok (.getfield 197, 3) := by decide +kernel
theorem dX5_move_109 : decode cX5_move 109 = .ok (.ireturn, 1) := by decide +kernel
theorem dX5_meetingCount_0 : decode cX5_meetingCount 0 = .ok (.aload_n 0, 1) := by decide +kernel
theorem dX5_meetingCount_1 : decode cX5_meetingCount 1 = .ok (.getfield 28, 3) := by decide +kernel
theorem dX5_meetingCount_4 : decode cX5_meetingCount 4 = .ok (.invokevirtual 65, 3) := by decide +kernel
theorem dX5_meetingCount_7 : decode cX5_meetingCount 7 = .ok (.ireturn, 1) := by decide +kernel
theorem dX5_meetingAt_0 : decode cX5_meetingAt 0 = .ok (.iload_n 1, 1) := by decide +kernel
theorem dX5_meetingAt_1 : decode cX5_meetingAt 1 = .ok (.ifCond .lt 14, 3) := by decide +kernel
theorem dX5_meetingAt_4 : decode cX5_meetingAt 4 = .ok (.iload_n 1, 1) := by decide +kernel
theorem dX5_meetingAt_5 : decode cX5_meetingAt 5 = .ok (.aload_n 0, 1) := by decide +kernel
theorem dX5_meetingAt_6 : decode cX5_meetingAt 6 = .ok (.getfield 28, 3) := by decide +kernel
theorem dX5_meetingAt_9 : decode cX5_meetingAt 9 = .ok (.invokevirtual 65, 3) := by decide +kernel
theorem dX5_meetingAt_12 : decode cX5_meetingAt 12 = .ok (.if_icmp .lt 13, 3) := by decide +kernel
theorem dX5_meetingAt_15 : decode cX5_meetingAt 15 = .ok (.new 198, 3) := by decide +kernel
theorem dX5_meetingAt_18 : decode cX5_meetingAt 18 = .ok (.dup, 1) := by decide +kernel
theorem dX5_meetingAt_19 : decode cX5_meetingAt 19 = .ok (.ldc 200, 2) := by decide +kernel
theorem dX5_meetingAt_21 : decode cX5_meetingAt 21 = .ok (.invokespecial 202, 3) := by decide +kernel
theorem dX5_meetingAt_24 : decode cX5_meetingAt 24 = .ok (.athrow, 1) := by decide +kernel
theorem dX5_meetingAt_25 : decode cX5_meetingAt 25 = .ok (.aload_n 0, 1) := by decide +kernel
theorem dX5_meetingAt_26 : decode cX5_meetingAt 26 = .ok (.getfield 28, 3) := by decide +kernel
theorem dX5_meetingAt_29 : decode cX5_meetingAt 29 = .ok (.iload_n 1, 1) := by decide +kernel
theorem dX5_meetingAt_30 : decode cX5_meetingAt 30 = .ok (.invokevirtual 131, 3) := by decide +kernel
theorem dX5_meetingAt_33 : decode cX5_meetingAt 33 = .ok (.checkcast 76, 3) := by decide +kernel
theorem dX5_meetingAt_36 : decode cX5_meetingAt 36 = .ok (.getfield 94, 3) := by decide +kernel
theorem dX5_meetingAt_39 : decode cX5_meetingAt 39 = .ok (.ireturn, 1) := by decide +kernel
theorem dX5_hostOf_0 : decode cX5_hostOf 0 = .ok (.aload_n 0, 1) := by decide +kernel
theorem dX5_hostOf_1 : decode cX5_hostOf 1 = .ok (.iload_n 1, 1) := by decide +kernel
theorem dX5_hostOf_2 : decode cX5_hostOf 2 = .ok (.invokevirtual 97, 3) := by decide +kernel
theorem dX5_hostOf_5 : decode cX5_hostOf 5 = .ok (.getfield 203, 3) := by decide +kernel
theorem dX5_hostOf_8 : decode cX5_hostOf 8 = .ok (.ireturn, 1) := by decide +kernel
theorem dX5_answerOf_0 : decode cX5_answerOf 0 = .ok (.aload_n 0, 1) := by decide +kernel
theorem dX5_answerOf_1 : decode cX5_answerOf 1 = .ok (.iload_n 1, 1) := by decide +kernel
theorem dX5_answerOf_2 : decode cX5_answerOf 2 = .ok (.invokevirtual 97, 3) := by decide +kernel
theorem dX5_answerOf_5 : decode cX5_answerOf 5 = .ok (.astore_n 3, 1) := by decide +kernel
theorem dX5_answerOf_6 : decode cX5_answerOf 6 = .ok (.iload_n 2, 1) := by decide +kernel
theorem dX5_answerOf_7 : decode cX5_answerOf 7 = .ok (.invokestatic 58, 3) := by decide +kernel
theorem dX5_answerOf_10 : decode cX5_answerOf 10 = .ok (.aload_n 3, 1) := by decide +kernel
theorem dX5_answerOf_11 : decode cX5_answerOf 11 = .ok (.iload_n 2, 1) := by decide +kernel
theorem dX5_answerOf_12 : decode cX5_answerOf 12 = .ok (.invokevirtual 156, 3) := by decide +kernel
theorem dX5_answerOf_15 : decode cX5_answerOf 15 = .ok (.ireturn, 1) := by decide +kernel
theorem dX5_expected_0 : decode cX5_expected 0 = .ok (.aload_n 0, 1) := by decide +kernel
theorem dX5_expected_1 : decode cX5_expected 1 = .ok (.iload_n 1, 1) := by decide +kernel
theorem dX5_expected_2 : decode cX5_expected 2 = .ok (.invokevirtual 97, 3) := by decide +kernel
theorem dX5_expected_5 : decode cX5_expected 5 = .ok (.invokevirtual 206, 3) := by decide +kernel
theorem dX5_expected_8 : decode cX5_expected 8 = .ok (.ireturn, 1) := by decide +kernel
theorem dX5_dateCount_0 : decode cX5_dateCount 0 = .ok (.aload_n 0, 1) := by decide +kernel
theorem dX5_dateCount_1 : decode cX5_dateCount 1 = .ok (.iload_n 1, 1) := by decide +kernel
theorem dX5_dateCount_2 : decode cX5_dateCount 2 = .ok (.invokevirtual 97, 3) := by decide +kernel
theorem dX5_dateCount_5 : decode cX5_dateCount 5 = .ok (.getfield 101, 3) := by decide +kernel
theorem dX5_dateCount_8 : decode cX5_dateCount 8 = .ok (.invokevirtual 65, 3) := by decide +kernel
theorem dX5_dateCount_11 : decode cX5_dateCount 11 = .ok (.ireturn, 1) := by decide +kernel
theorem dX5_dayOf_0 : decode cX5_dayOf 0 = .ok (.aload_n 0, 1) := by decide +kernel
theorem dX5_dayOf_1 : decode cX5_dayOf 1 = .ok (.iload_n 1, 1) := by decide +kernel
theorem dX5_dayOf_2 : decode cX5_dayOf 2 = .ok (.invokevirtual 97, 3) := by decide +kernel
theorem dX5_dayOf_5 : decode cX5_dayOf 5 = .ok (.iload_n 2, 1) := by decide +kernel
theorem dX5_dayOf_6 : decode cX5_dayOf 6 = .ok (.invokestatic 104, 3) := by decide +kernel
theorem dX5_dayOf_9 : decode cX5_dayOf 9 = .ok (.getfield 108, 3) := by decide +kernel
theorem dX5_dayOf_12 : decode cX5_dayOf 12 = .ok (.getfield 114, 3) := by decide +kernel
theorem dX5_dayOf_15 : decode cX5_dayOf 15 = .ok (.ireturn, 1) := by decide +kernel
theorem dX5_timeOf_0 : decode cX5_timeOf 0 = .ok (.aload_n 0, 1) := by decide +kernel
theorem dX5_timeOf_1 : decode cX5_timeOf 1 = .ok (.iload_n 1, 1) := by decide +kernel
theorem dX5_timeOf_2 : decode cX5_timeOf 2 = .ok (.invokevirtual 97, 3) := by decide +kernel
theorem dX5_timeOf_5 : decode cX5_timeOf 5 = .ok (.iload_n 2, 1) := by decide +kernel
theorem dX5_timeOf_6 : decode cX5_timeOf 6 = .ok (.invokestatic 104, 3) := by decide +kernel
theorem dX5_timeOf_9 : decode cX5_timeOf 9 = .ok (.getfield 108, 3) := by decide +kernel
theorem dX5_timeOf_12 : decode cX5_timeOf 12 = .ok (.getfield 122, 3) := by decide +kernel
theorem dX5_timeOf_15 : decode cX5_timeOf 15 = .ok (.ireturn, 1) := by decide +kernel
theorem dX5_isCancelled_0 : decode cX5_isCancelled 0 = .ok (.aload_n 0, 1) := by decide +kernel
theorem dX5_isCancelled_1 : decode cX5_isCancelled 1 = .ok (.iload_n 1, 1) := by decide +kernel
theorem dX5_isCancelled_2 : decode cX5_isCancelled 2 = .ok (.invokevirtual 97, 3) := by decide +kernel
theorem dX5_isCancelled_5 : decode cX5_isCancelled 5 = .ok (.iload_n 2, 1) := by decide +kernel
theorem dX5_isCancelled_6 : decode cX5_isCancelled 6 = .ok (.invokestatic 104, 3) := by decide +kernel
theorem dX5_isCancelled_9 : decode cX5_isCancelled 9 = .ok (.getfield 175, 3) := by decide +kernel
theorem dX5_isCancelled_12 : decode cX5_isCancelled 12 = .ok (.ireturn, 1) := by decide +kernel
theorem dX5_roomOf_0 : decode cX5_roomOf 0 = .ok (.aload_n 0, 1) := by decide +kernel
theorem dX5_roomOf_1 : decode cX5_roomOf 1 = .ok (.iload_n 1, 1) := by decide +kernel
theorem dX5_roomOf_2 : decode cX5_roomOf 2 = .ok (.invokevirtual 97, 3) := by decide +kernel
theorem dX5_roomOf_5 : decode cX5_roomOf 5 = .ok (.iload_n 2, 1) := by decide +kernel
theorem dX5_roomOf_6 : decode cX5_roomOf 6 = .ok (.invokestatic 172, 3) := by decide +kernel
theorem dX5_roomOf_9 : decode cX5_roomOf 9 = .ok (.getfield 190, 3) := by decide +kernel
theorem dX5_roomOf_12 : decode cX5_roomOf 12 = .ok (.getfield 197, 3) := by decide +kernel
theorem dX5_roomOf_15 : decode cX5_roomOf 15 = .ok (.ireturn, 1) := by decide +kernel
theorem dX5_refusalReason_0 : decode cX5_refusalReason 0 = .ok (.aload_n 0, 1) := by decide +kernel
theorem dX5_refusalReason_1 : decode cX5_refusalReason 1 = .ok (.invokevirtual 209, 3) := by decide +kernel
theorem dX5_refusalReason_4 : decode cX5_refusalReason 4 = .ok (.aload_n 0, 1) := by decide +kernel
theorem dX5_refusalReason_5 : decode cX5_refusalReason 5 = .ok (.getfield 39, 3) := by decide +kernel
theorem dX5_refusalReason_8 : decode cX5_refusalReason 8 = .ok (.ireturn, 1) := by decide +kernel
theorem dX5_refusalDetail_0 : decode cX5_refusalDetail 0 = .ok (.aload_n 0, 1) := by decide +kernel
theorem dX5_refusalDetail_1 : decode cX5_refusalDetail 1 = .ok (.invokevirtual 209, 3) := by decide +kernel
theorem dX5_refusalDetail_4 : decode cX5_refusalDetail 4 = .ok (.aload_n 0, 1) := by decide +kernel
theorem dX5_refusalDetail_5 : decode cX5_refusalDetail 5 = .ok (.getfield 42, 3) := by decide +kernel
theorem dX5_refusalDetail_8 : decode cX5_refusalDetail 8 = .ok (.ireturn, 1) := by decide +kernel
theorem dX5_isFree_0 : decode cX5_isFree 0 = .ok (.iload_n 1, 1) := by decide +kernel
theorem dX5_isFree_1 : decode cX5_isFree 1 = .ok (.invokestatic 58, 3) := by decide +kernel
theorem dX5_isFree_4 : decode cX5_isFree 4 = .ok (.iload_n 2, 1) := by decide +kernel
theorem dX5_isFree_5 : decode cX5_isFree 5 = .ok (.iload_n 3, 1) := by decide +kernel
theorem dX5_isFree_6 : decode cX5_isFree 6 = .ok (.iconst 1, 1) := by decide +kernel
theorem dX5_isFree_7 : decode cX5_isFree 7 = .ok (.invokestatic 62, 3) := by decide +kernel
theorem dX5_isFree_10 : decode cX5_isFree 10 = .ok (.aload_n 0, 1) := by decide +kernel
theorem dX5_isFree_11 : decode cX5_isFree 11 = .ok (.iload_n 1, 1) := by decide +kernel
theorem dX5_isFree_12 : decode cX5_isFree 12 = .ok (.iload_n 2, 1) := by decide +kernel
theorem dX5_isFree_13 : decode cX5_isFree 13 = .ok (.iload_n 3, 1) := by decide +kernel
theorem dX5_isFree_14 : decode cX5_isFree 14 = .ok (.invokevirtual 212, 3) := by decide +kernel
theorem dX5_isFree_17 : decode cX5_isFree 17 = .ok (.ifnonnull 7, 3) := by decide +kernel
theorem dX5_isFree_20 : decode cX5_isFree 20 = .ok (.iconst 1, 1) := by decide +kernel
theorem dX5_isFree_21 : decode cX5_isFree 21 = .ok (.goto 4, 3) := by decide +kernel
theorem dX5_isFree_24 : decode cX5_isFree 24 = .ok (.iconst 0, 1) := by decide +kernel
theorem dX5_isFree_25 : decode cX5_isFree 25 = .ok (.ireturn, 1) := by decide +kernel
theorem dX5_meetingOf_0 : decode cX5_meetingOf 0 = .ok (.iload_n 1, 1) := by decide +kernel
theorem dX5_meetingOf_1 : decode cX5_meetingOf 1 = .ok (.invokestatic 58, 3) := by decide +kernel
theorem dX5_meetingOf_4 : decode cX5_meetingOf 4 = .ok (.iload_n 2, 1) := by decide +kernel
theorem dX5_meetingOf_5 : decode cX5_meetingOf 5 = .ok (.iload_n 3, 1) := by decide +kernel
theorem dX5_meetingOf_6 : decode cX5_meetingOf 6 = .ok (.iconst 1, 1) := by decide +kernel
theorem dX5_meetingOf_7 : decode cX5_meetingOf 7 = .ok (.invokestatic 62, 3) := by decide +kernel
theorem dX5_meetingOf_10 : decode cX5_meetingOf 10 = .ok (.aload_n 0, 1) := by decide +kernel
theorem dX5_meetingOf_11 : decode cX5_meetingOf 11 = .ok (.iload_n 1, 1) := by decide +kernel
theorem dX5_meetingOf_12 : decode cX5_meetingOf 12 = .ok (.iload_n 2, 1) := by decide +kernel
theorem dX5_meetingOf_13 : decode cX5_meetingOf 13 = .ok (.iload_n 3, 1) := by decide +kernel
theorem dX5_meetingOf_14 : decode cX5_meetingOf 14 = .ok (.invokevirtual 212, 3) := by decide +kernel
theorem dX5_meetingOf_17 : decode cX5_meetingOf 17 = .ok (.astore 4, 2) := by decide +kernel
theorem dX5_meetingOf_19 : decode cX5_meetingOf 19 = .ok (.aload 4, 2) := by decide +kernel
theorem dX5_meetingOf_21 : decode cX5_meetingOf 21 = .ok (.ifnonnull 13, 3) := by decide +kernel
theorem dX5_meetingOf_24 : decode cX5_meetingOf 24 = .ok (.new 198, 3) := by decide +kernel
theorem dX5_meetingOf_27 : decode cX5_meetingOf 27 = .ok (.dup, 1) := by decide +kernel
theorem dX5_meetingOf_28 : decode cX5_meetingOf 28 = .ok (.ldc 216, 2) := by decide +kernel
theorem dX5_meetingOf_30 : decode cX5_meetingOf 30 = .ok (.invokespecial 202, 3) := by decide +kernel
theorem dX5_meetingOf_33 : decode cX5_meetingOf 33 = .ok (.athrow, 1) := by decide +kernel
theorem dX5_meetingOf_34 : decode cX5_meetingOf 34 = .ok (.aload 4, 2) := by decide +kernel
theorem dX5_meetingOf_36 : decode cX5_meetingOf 36 = .ok (.getfield 218, 3) := by decide +kernel
theorem dX5_meetingOf_39 : decode cX5_meetingOf 39 = .ok (.getfield 94, 3) := by decide +kernel
theorem dX5_meetingOf_42 : decode cX5_meetingOf 42 = .ok (.ireturn, 1) := by decide +kernel
theorem dX5_freeTimes_0 : decode cX5_freeTimes 0 = .ok (.iload_n 1, 1) := by decide +kernel
theorem dX5_freeTimes_1 : decode cX5_freeTimes 1 = .ok (.invokestatic 58, 3) := by decide +kernel
theorem dX5_freeTimes_4 : decode cX5_freeTimes 4 = .ok (.iload_n 2, 1) := by decide +kernel
theorem dX5_freeTimes_5 : decode cX5_freeTimes 5 = .ok (.invokestatic 117, 3) := by decide +kernel
theorem dX5_freeTimes_8 : decode cX5_freeTimes 8 = .ok (.aload_n 0, 1) := by decide +kernel
theorem dX5_freeTimes_9 : decode cX5_freeTimes 9 = .ok (.iload_n 1, 1) := by decide +kernel
theorem dX5_freeTimes_10 : decode cX5_freeTimes 10 = .ok (.iload_n 2, 1) := by decide +kernel
theorem dX5_freeTimes_11 : decode cX5_freeTimes 11 = .ok (.invokevirtual 222, 3) := by decide +kernel
theorem dX5_freeTimes_14 : decode cX5_freeTimes 14 = .ok (.ireturn, 1) := by decide +kernel
theorem dX5_freeByTrying_0 : decode cX5_freeByTrying 0 = .ok (.iload_n 1, 1) := by decide +kernel
theorem dX5_freeByTrying_1 : decode cX5_freeByTrying 1 = .ok (.invokestatic 58, 3) := by decide +kernel
theorem dX5_freeByTrying_4 : decode cX5_freeByTrying 4 = .ok (.iload_n 2, 1) := by decide +kernel
theorem dX5_freeByTrying_5 : decode cX5_freeByTrying 5 = .ok (.invokestatic 117, 3) := by decide +kernel
theorem dX5_freeByTrying_8 : decode cX5_freeByTrying 8 = .ok (.aload_n 0, 1) := by decide +kernel
theorem dX5_freeByTrying_9 : decode cX5_freeByTrying 9 = .ok (.iload_n 1, 1) := by decide +kernel
theorem dX5_freeByTrying_10 : decode cX5_freeByTrying 10 = .ok (.iload_n 2, 1) := by decide +kernel
theorem dX5_freeByTrying_11 : decode cX5_freeByTrying 11 = .ok (.invokevirtual 226, 3) := by decide +kernel
theorem dX5_freeByTrying_14 : decode cX5_freeByTrying 14 = .ok (.ireturn, 1) := by decide +kernel
theorem dX5_longestFree_0 : decode cX5_longestFree 0 = .ok (.iload_n 1, 1) := by decide +kernel
theorem dX5_longestFree_1 : decode cX5_longestFree 1 = .ok (.invokestatic 58, 3) := by decide +kernel
theorem dX5_longestFree_4 : decode cX5_longestFree 4 = .ok (.iload_n 2, 1) := by decide +kernel
theorem dX5_longestFree_5 : decode cX5_longestFree 5 = .ok (.invokestatic 117, 3) := by decide +kernel
theorem dX5_longestFree_8 : decode cX5_longestFree 8 = .ok (.iconst 0, 1) := by decide +kernel
theorem dX5_longestFree_9 : decode cX5_longestFree 9 = .ok (.istore_n 3, 1) := by decide +kernel
theorem dX5_longestFree_10 : decode cX5_longestFree 10 = .ok (.iconst 0, 1) := by decide +kernel
theorem dX5_longestFree_11 : decode cX5_longestFree 11 = .ok (.istore 4, 2) := by decide +kernel
theorem dX5_longestFree_13 : decode cX5_longestFree 13 = .ok (.iconst 0, 1) := by decide +kernel
theorem dX5_longestFree_14 : decode cX5_longestFree 14 = .ok (.istore 5, 2) := by decide +kernel
theorem dX5_longestFree_16 : decode cX5_longestFree 16 = .ok (.iload 5, 2) := by decide +kernel
theorem dX5_longestFree_18 : decode cX5_longestFree 18 = .ok (.bipush 16, 2) := by decide +kernel
theorem dX5_longestFree_20 : decode cX5_longestFree 20 = .ok (.if_icmp .ge 37, 3) := by decide +kernel
theorem dX5_longestFree_23 : decode cX5_longestFree 23 = .ok (.aload_n 0, 1) := by decide +kernel
theorem dX5_longestFree_24 : decode cX5_longestFree 24 = .ok (.iload_n 1, 1) := by decide +kernel
theorem dX5_longestFree_25 : decode cX5_longestFree 25 = .ok (.iload_n 2, 1) := by decide +kernel
theorem dX5_longestFree_26 : decode cX5_longestFree 26 = .ok (.iload 5, 2) := by decide +kernel
theorem dX5_longestFree_28 : decode cX5_longestFree 28 = .ok (.invokevirtual 212, 3) := by decide +kernel
theorem dX5_longestFree_31 : decode cX5_longestFree 31 = .ok (.ifnonnull 10, 3) := by decide +kernel
theorem dX5_longestFree_34 : decode cX5_longestFree 34 = .ok (.iload 4, 2) := by decide +kernel
theorem dX5_longestFree_36 : decode cX5_longestFree 36 = .ok (.iconst 1, 1) := by decide +kernel
theorem dX5_longestFree_37 : decode cX5_longestFree 37 = .ok (.iadd, 1) := by decide +kernel
theorem dX5_longestFree_38 : decode cX5_longestFree 38 = .ok (.goto 4, 3) := by decide +kernel
theorem dX5_longestFree_41 : decode cX5_longestFree 41 = .ok (.iconst 0, 1) := by decide +kernel
theorem dX5_longestFree_42 : decode cX5_longestFree 42 = .ok (.istore 4, 2) := by decide +kernel
theorem dX5_longestFree_44 : decode cX5_longestFree 44 = .ok (.iload_n 3, 1) := by decide +kernel
theorem dX5_longestFree_45 : decode cX5_longestFree 45 = .ok (.iload 4, 2) := by decide +kernel
theorem dX5_longestFree_47 : decode cX5_longestFree 47 = .ok (.invokestatic 229, 3) := by decide +kernel
theorem dX5_longestFree_50 : decode cX5_longestFree 50 = .ok (.istore_n 3, 1) := by decide +kernel
theorem dX5_longestFree_51 : decode cX5_longestFree 51 = .ok (.iinc 5 1, 3) := by decide +kernel
theorem dX5_longestFree_54 : decode cX5_longestFree 54 = .ok (.goto (-38), 3) := by decide +kernel
theorem dX5_longestFree_57 : decode cX5_longestFree 57 = .ok (.iload_n 3, 1) := by decide +kernel
theorem dX5_longestFree_58 : decode cX5_longestFree 58 = .ok (.ireturn, 1) := by decide +kernel
theorem dX5_firstCommon_0 : decode cX5_firstCommon 0 = .ok (.iload_n 1, 1) := by decide +kernel
theorem dX5_firstCommon_1 : decode cX5_firstCommon 1 = .ok (.iconst 1, 1) := by decide +kernel
theorem dX5_firstCommon_2 : decode cX5_firstCommon 2 = .ok (.bipush 63, 2) := by decide +kernel
theorem dX5_firstCommon_4 : decode cX5_firstCommon 4 = .ok (.invokestatic 49, 3) := by decide +kernel
theorem dX5_firstCommon_7 : decode cX5_firstCommon 7 = .ok (.iload_n 3, 1) := by decide +kernel
theorem dX5_firstCommon_8 : decode cX5_firstCommon 8 = .ok (.iconst 0, 1) := by decide +kernel
theorem dX5_firstCommon_9 : decode cX5_firstCommon 9 = .ok (.iload_n 2, 1) := by decide +kernel
theorem dX5_firstCommon_10 : decode cX5_firstCommon 10 = .ok (.invokestatic 62, 3) := by decide +kernel
theorem dX5_firstCommon_13 : decode cX5_firstCommon 13 = .ok (.new 83, 3) := by decide +kernel
theorem dX5_firstCommon_16 : decode cX5_firstCommon 16 = .ok (.dup, 1) := by decide +kernel
theorem dX5_firstCommon_17 : decode cX5_firstCommon 17 = .ok (.iload_n 3, 1) := by decide +kernel
theorem dX5_firstCommon_18 : decode cX5_firstCommon 18 = .ok (.iconst 0, 1) := by decide +kernel
theorem dX5_firstCommon_19 : decode cX5_firstCommon 19 = .ok (.iload_n 2, 1) := by decide +kernel
theorem dX5_firstCommon_20 : decode cX5_firstCommon 20 = .ok (.invokespecial 85, 3) := by decide +kernel
theorem dX5_firstCommon_23 : decode cX5_firstCommon 23 = .ok (.astore 4, 2) := by decide +kernel
theorem dX5_firstCommon_25 : decode cX5_firstCommon 25 = .ok (.iload_n 3, 1) := by decide +kernel
theorem dX5_firstCommon_26 : decode cX5_firstCommon 26 = .ok (.istore 5, 2) := by decide +kernel
theorem dX5_firstCommon_28 : decode cX5_firstCommon 28 = .ok (.iload 5, 2) := by decide +kernel
theorem dX5_firstCommon_30 : decode cX5_firstCommon 30 = .ok (.bipush 28, 2) := by decide +kernel
theorem dX5_firstCommon_32 : decode cX5_firstCommon 32 = .ok (.if_icmp .ge 60, 3) := by decide +kernel
theorem dX5_firstCommon_35 : decode cX5_firstCommon 35 = .ok (.aload 4, 2) := by decide +kernel
theorem dX5_firstCommon_37 : decode cX5_firstCommon 37 = .ok (.iload 5, 2) := by decide +kernel
theorem dX5_firstCommon_39 : decode cX5_firstCommon 39 = .ok (.putfield 114, 3) := by decide +kernel
theorem dX5_firstCommon_42 : decode cX5_firstCommon 42 = .ok (.iconst 0, 1) := by decide +kernel
theorem dX5_firstCommon_43 : decode cX5_firstCommon 43 = .ok (.istore 6, 2) := by decide +kernel
theorem dX5_firstCommon_45 : decode cX5_firstCommon 45 = .ok (.iload 6, 2) := by decide +kernel
theorem dX5_firstCommon_47 : decode cX5_firstCommon 47 = .ok (.bipush 16, 2) := by decide +kernel
theorem dX5_firstCommon_49 : decode cX5_firstCommon 49 = .ok (.iload_n 2, 1) := by decide +kernel
theorem dX5_firstCommon_50 : decode cX5_firstCommon 50 = .ok (.isub, 1) := by decide +kernel
theorem dX5_firstCommon_51 : decode cX5_firstCommon 51 = .ok (.if_icmp .gt 35, 3) := by decide +kernel
theorem dX5_firstCommon_54 : decode cX5_firstCommon 54 = .ok (.aload 4, 2) := by decide +kernel
theorem dX5_firstCommon_56 : decode cX5_firstCommon 56 = .ok (.iload 6, 2) := by decide +kernel
theorem dX5_firstCommon_58 : decode cX5_firstCommon 58 = .ok (.putfield 122, 3) := by decide +kernel
theorem dX5_firstCommon_61 : decode cX5_firstCommon 61 = .ok (.aload_n 0, 1) := by decide +kernel
theorem dX5_firstCommon_62 : decode cX5_firstCommon 62 = .ok (.iload_n 1, 1) := by decide +kernel
theorem dX5_firstCommon_63 : decode cX5_firstCommon 63 = .ok (.aload 4, 2) := by decide +kernel
theorem dX5_firstCommon_65 : decode cX5_firstCommon 65 = .ok (.invokevirtual 234, 3) := by decide +kernel
theorem dX5_firstCommon_68 : decode cX5_firstCommon 68 = .ok (.ifnull 12, 3) := by decide +kernel
theorem dX5_firstCommon_71 : decode cX5_firstCommon 71 = .ok (.bipush 16, 2) := by decide +kernel
theorem dX5_firstCommon_73 : decode cX5_firstCommon 73 = .ok (.iload 5, 2) := by decide +kernel
theorem dX5_firstCommon_75 : decode cX5_firstCommon 75 = .ok (.imul, 1) := by decide +kernel
theorem dX5_firstCommon_76 : decode cX5_firstCommon 76 = .ok (.iload 6, 2) := by decide +kernel
theorem dX5_firstCommon_78 : decode cX5_firstCommon 78 = .ok (.iadd, 1) := by decide +kernel
theorem dX5_firstCommon_79 : decode cX5_firstCommon 79 = .ok (.ireturn, 1) := by decide +kernel
theorem dX5_firstCommon_80 : decode cX5_firstCommon 80 = .ok (.iinc 6 1, 3) := by decide +kernel
theorem dX5_firstCommon_83 : decode cX5_firstCommon 83 = .ok (.goto (-38), 3) := by decide +kernel
theorem dX5_firstCommon_86 : decode cX5_firstCommon 86 = .ok (.iinc 5 1, 3) := by decide +kernel
theorem dX5_firstCommon_89 : decode cX5_firstCommon 89 = .ok (.goto (-61), 3) := by decide +kernel
theorem dX5_firstCommon_92 : decode cX5_firstCommon 92 = .ok (.new 198, 3) := by decide +kernel
theorem dX5_firstCommon_95 : decode cX5_firstCommon 95 = .ok (.dup, 1) := by decide +kernel
theorem dX5_firstCommon_96 : decode cX5_firstCommon 96 = .ok (.ldc 238, 2) := by decide +kernel
theorem dX5_firstCommon_98 : decode cX5_firstCommon 98 = .ok (.invokespecial 202, 3) := by decide +kernel
theorem dX5_firstCommon_101 : decode cX5_firstCommon 101 = .ok (.athrow, 1) := by decide +kernel
theorem dX5_commonCount_0 : decode cX5_commonCount 0 = .ok (.iload_n 1, 1) := by decide +kernel
theorem dX5_commonCount_1 : decode cX5_commonCount 1 = .ok (.iconst 1, 1) := by decide +kernel
theorem dX5_commonCount_2 : decode cX5_commonCount 2 = .ok (.bipush 63, 2) := by decide +kernel
theorem dX5_commonCount_4 : decode cX5_commonCount 4 = .ok (.invokestatic 49, 3) := by decide +kernel
theorem dX5_commonCount_7 : decode cX5_commonCount 7 = .ok (.iload_n 3, 1) := by decide +kernel
theorem dX5_commonCount_8 : decode cX5_commonCount 8 = .ok (.iconst 0, 1) := by decide +kernel
theorem dX5_commonCount_9 : decode cX5_commonCount 9 = .ok (.iload_n 2, 1) := by decide +kernel
theorem dX5_commonCount_10 : decode cX5_commonCount 10 = .ok (.invokestatic 62, 3) := by decide +kernel
theorem dX5_commonCount_13 : decode cX5_commonCount 13 = .ok (.new 83, 3) := by decide +kernel
theorem dX5_commonCount_16 : decode cX5_commonCount 16 = .ok (.dup, 1) := by decide +kernel
theorem dX5_commonCount_17 : decode cX5_commonCount 17 = .ok (.iload_n 3, 1) := by decide +kernel
theorem dX5_commonCount_18 : decode cX5_commonCount 18 = .ok (.iconst 0, 1) := by decide +kernel
theorem dX5_commonCount_19 : decode cX5_commonCount 19 = .ok (.iload_n 2, 1) := by decide +kernel
theorem dX5_commonCount_20 : decode cX5_commonCount 20 = .ok (.invokespecial 85, 3) := by decide +kernel
theorem dX5_commonCount_23 : decode cX5_commonCount 23 = .ok (.astore 4, 2) := by decide +kernel
theorem dX5_commonCount_25 : decode cX5_commonCount 25 = .ok (.iconst 0, 1) := by decide +kernel
theorem dX5_commonCount_26 : decode cX5_commonCount 26 = .ok (.istore 5, 2) := by decide +kernel
theorem dX5_commonCount_28 : decode cX5_commonCount 28 = .ok (.iconst 0, 1) := by decide +kernel
theorem dX5_commonCount_29 : decode cX5_commonCount 29 = .ok (.istore 6, 2) := by decide +kernel
theorem dX5_commonCount_31 : decode cX5_commonCount 31 = .ok (.iload 6, 2) := by decide +kernel
theorem dX5_commonCount_33 : decode cX5_commonCount 33 = .ok (.bipush 16, 2) := by decide +kernel
theorem dX5_commonCount_35 : decode cX5_commonCount 35 = .ok (.iload_n 2, 1) := by decide +kernel
theorem dX5_commonCount_36 : decode cX5_commonCount 36 = .ok (.isub, 1) := by decide +kernel
theorem dX5_commonCount_37 : decode cX5_commonCount 37 = .ok (.if_icmp .gt 29, 3) := by decide +kernel
theorem dX5_commonCount_40 : decode cX5_commonCount 40 = .ok (.aload 4, 2) := by decide +kernel
theorem dX5_commonCount_42 : decode cX5_commonCount 42 = .ok (.iload 6, 2) := by decide +kernel
theorem dX5_commonCount_44 : decode cX5_commonCount 44 = .ok (.putfield 122, 3) := by decide +kernel
theorem dX5_commonCount_47 : decode cX5_commonCount 47 = .ok (.aload_n 0, 1) := by decide +kernel
theorem dX5_commonCount_48 : decode cX5_commonCount 48 = .ok (.iload_n 1, 1) := by decide +kernel
theorem dX5_commonCount_49 : decode cX5_commonCount 49 = .ok (.aload 4, 2) := by decide +kernel
theorem dX5_commonCount_51 : decode cX5_commonCount 51 = .ok (.invokevirtual 234, 3) := by decide +kernel
theorem dX5_commonCount_54 : decode cX5_commonCount 54 = .ok (.ifnull 6, 3) := by decide +kernel
theorem dX5_commonCount_57 : decode cX5_commonCount 57 = .ok (.iinc 5 1, 3) := by decide +kernel
theorem dX5_commonCount_60 : decode cX5_commonCount 60 = .ok (.iinc 6 1, 3) := by decide +kernel
theorem dX5_commonCount_63 : decode cX5_commonCount 63 = .ok (.goto (-32), 3) := by decide +kernel
theorem dX5_commonCount_66 : decode cX5_commonCount 66 = .ok (.iload 5, 2) := by decide +kernel
theorem dX5_commonCount_68 : decode cX5_commonCount 68 = .ok (.ireturn, 1) := by decide +kernel
theorem dX5_roomFor_0 : decode cX5_roomFor 0 = .ok (.iload_n 1, 1) := by decide +kernel
theorem dX5_roomFor_1 : decode cX5_roomFor 1 = .ok (.iconst 1, 1) := by decide +kernel
theorem dX5_roomFor_2 : decode cX5_roomFor 2 = .ok (.bipush 63, 2) := by decide +kernel
theorem dX5_roomFor_4 : decode cX5_roomFor 4 = .ok (.invokestatic 49, 3) := by decide +kernel
theorem dX5_roomFor_7 : decode cX5_roomFor 7 = .ok (.iload_n 3, 1) := by decide +kernel
theorem dX5_roomFor_8 : decode cX5_roomFor 8 = .ok (.iload 4, 2) := by decide +kernel
theorem dX5_roomFor_10 : decode cX5_roomFor 10 = .ok (.iload_n 2, 1) := by decide +kernel
theorem dX5_roomFor_11 : decode cX5_roomFor 11 = .ok (.invokestatic 62, 3) := by decide +kernel
theorem dX5_roomFor_14 : decode cX5_roomFor 14 = .ok (.aload_n 0, 1) := by decide +kernel
theorem dX5_roomFor_15 : decode cX5_roomFor 15 = .ok (.iload_n 1, 1) := by decide +kernel
theorem dX5_roomFor_16 : decode cX5_roomFor 16 = .ok (.new 83, 3) := by decide +kernel
theorem dX5_roomFor_19 : decode cX5_roomFor 19 = .ok (.dup, 1) := by decide +kernel
theorem dX5_roomFor_20 : decode cX5_roomFor 20 = .ok (.iload_n 3, 1) := by decide +kernel
theorem dX5_roomFor_21 : decode cX5_roomFor 21 = .ok (.iload 4, 2) := by decide +kernel
theorem dX5_roomFor_23 : decode cX5_roomFor 23 = .ok (.iload_n 2, 1) := by decide +kernel
theorem dX5_roomFor_24 : decode cX5_roomFor 24 = .ok (.invokespecial 85, 3) := by decide +kernel
theorem dX5_roomFor_27 : decode cX5_roomFor 27 = .ok (.invokevirtual 234, 3) := by decide +kernel
theorem dX5_roomFor_30 : decode cX5_roomFor 30 = .ok (.astore 5, 2) := by decide +kernel
theorem dX5_roomFor_32 : decode cX5_roomFor 32 = .ok (.aload 5, 2) := by decide +kernel
theorem dX5_roomFor_34 : decode cX5_roomFor 34 = .ok (.ifnonnull 13, 3) := by decide +kernel
theorem dX5_roomFor_37 : decode cX5_roomFor 37 = .ok (.new 198, 3) := by decide +kernel
theorem dX5_roomFor_40 : decode cX5_roomFor 40 = .ok (.dup, 1) := by decide +kernel
theorem dX5_roomFor_41 : decode cX5_roomFor 41 = .ok (.ldc 240, 2) := by decide +kernel
theorem dX5_roomFor_43 : decode cX5_roomFor 43 = .ok (.invokespecial 202, 3) := by decide +kernel
theorem dX5_roomFor_46 : decode cX5_roomFor 46 = .ok (.athrow, 1) := by decide +kernel
theorem dX5_roomFor_47 : decode cX5_roomFor 47 = .ok (.aload 5, 2) := by decide +kernel
theorem dX5_roomFor_49 : decode cX5_roomFor 49 = .ok (.getfield 197, 3) := by decide +kernel
theorem dX5_roomFor_52 : decode cX5_roomFor 52 = .ok (.ireturn, 1) := by decide +kernel
theorem dX5_usedTimes_0 : decode cX5_usedTimes 0 = .ok (.aload_n 0, 1) := by decide +kernel
theorem dX5_usedTimes_1 : decode cX5_usedTimes 1 = .ok (.iload_n 1, 1) := by decide +kernel
theorem dX5_usedTimes_2 : decode cX5_usedTimes 2 = .ok (.invokevirtual 45, 3) := by decide +kernel
theorem dX5_usedTimes_5 : decode cX5_usedTimes 5 = .ok (.astore_n 3, 1) := by decide +kernel
theorem dX5_usedTimes_6 : decode cX5_usedTimes 6 = .ok (.aload_n 0, 1) := by decide +kernel
theorem dX5_usedTimes_7 : decode cX5_usedTimes 7 = .ok (.iload_n 2, 1) := by decide +kernel
theorem dX5_usedTimes_8 : decode cX5_usedTimes 8 = .ok (.invokevirtual 242, 3) := by decide +kernel
theorem dX5_usedTimes_11 : decode cX5_usedTimes 11 = .ok (.getfield 246, 3) := by decide +kernel
theorem dX5_usedTimes_14 : decode cX5_usedTimes 14 = .ok (.astore 4, 2) := by decide +kernel
theorem dX5_usedTimes_16 : decode cX5_usedTimes 16 = .ok (.iconst 0, 1) := by decide +kernel
theorem dX5_usedTimes_17 : decode cX5_usedTimes 17 = .ok (.istore 5, 2) := by decide +kernel
theorem dX5_usedTimes_19 : decode cX5_usedTimes 19 = .ok (.iconst 0, 1) := by decide +kernel
theorem dX5_usedTimes_20 : decode cX5_usedTimes 20 = .ok (.istore 6, 2) := by decide +kernel
theorem dX5_usedTimes_22 : decode cX5_usedTimes 22 = .ok (.iload 6, 2) := by decide +kernel
theorem dX5_usedTimes_24 : decode cX5_usedTimes 24 = .ok (.aload 4, 2) := by decide +kernel
theorem dX5_usedTimes_26 : decode cX5_usedTimes 26 = .ok (.invokevirtual 65, 3) := by decide +kernel
theorem dX5_usedTimes_29 : decode cX5_usedTimes 29 = .ok (.if_icmp .ge 43, 3) := by decide +kernel
theorem dX5_usedTimes_32 : decode cX5_usedTimes 32 = .ok (.aload 4, 2) := by decide +kernel
theorem dX5_usedTimes_34 : decode cX5_usedTimes 34 = .ok (.iload 6, 2) := by decide +kernel
theorem dX5_usedTimes_36 : decode cX5_usedTimes 36 = .ok (.invokevirtual 131, 3) := by decide +kernel
theorem dX5_usedTimes_39 : decode cX5_usedTimes 39 = .ok (.checkcast 109, 3) := by decide +kernel
theorem dX5_usedTimes_42 : decode cX5_usedTimes 42 = .ok (.astore 7, 2) := by decide +kernel
theorem dX5_usedTimes_44 : decode cX5_usedTimes 44 = .ok (.aload 7, 2) := by decide +kernel
theorem dX5_usedTimes_46 : decode cX5_usedTimes 46 = .ok (.getfield 190, 3) := by decide +kernel
theorem dX5_usedTimes_49 : decode cX5_usedTimes 49 = .ok (.aload_n 3, 1) := by decide +kernel
theorem dX5_usedTimes_50 : decode cX5_usedTimes 50 = .ok (.if_acmp .ne 16, 3) := by decide +kernel
theorem dX5_usedTimes_53 : decode cX5_usedTimes 53 = .ok (.iload 5, 2) := by decide +kernel
theorem dX5_usedTimes_55 : decode cX5_usedTimes 55 = .ok (.aload 7, 2) := by decide +kernel
theorem dX5_usedTimes_57 : decode cX5_usedTimes 57 = .ok (.getfield 108, 3) := by decide +kernel
theorem dX5_usedTimes_60 : decode cX5_usedTimes 60 = .ok (.getfield 125, 3) := by decide +kernel
theorem dX5_usedTimes_63 : decode cX5_usedTimes 63 = .ok (.iadd, 1) := by decide +kernel
theorem dX5_usedTimes_64 : decode cX5_usedTimes 64 = .ok (.istore 5, 2) := by decide +kernel
theorem dX5_usedTimes_66 : decode cX5_usedTimes 66 = .ok (.iinc 6 1, 3) := by decide +kernel
theorem dX5_usedTimes_69 : decode cX5_usedTimes 69 = .ok (.goto (-47), 3) := by decide +kernel
theorem dX5_usedTimes_72 : decode cX5_usedTimes 72 = .ok (.iload 5, 2) := by decide +kernel
theorem dX5_usedTimes_74 : decode cX5_usedTimes 74 = .ok (.ireturn, 1) := by decide +kernel
theorem dX5_walks_0 : decode cX5_walks 0 = .ok (.iload_n 1, 1) := by decide +kernel
theorem dX5_walks_1 : decode cX5_walks 1 = .ok (.invokestatic 58, 3) := by decide +kernel
theorem dX5_walks_4 : decode cX5_walks 4 = .ok (.aload_n 0, 1) := by decide +kernel
theorem dX5_walks_5 : decode cX5_walks 5 = .ok (.iload_n 2, 1) := by decide +kernel
theorem dX5_walks_6 : decode cX5_walks 6 = .ok (.invokevirtual 242, 3) := by decide +kernel
theorem dX5_walks_9 : decode cX5_walks 9 = .ok (.getfield 246, 3) := by decide +kernel
theorem dX5_walks_12 : decode cX5_walks 12 = .ok (.astore_n 3, 1) := by decide +kernel
theorem dX5_walks_13 : decode cX5_walks 13 = .ok (.iconst 0, 1) := by decide +kernel
theorem dX5_walks_14 : decode cX5_walks 14 = .ok (.istore 4, 2) := by decide +kernel
theorem dX5_walks_16 : decode cX5_walks 16 = .ok (.aconst_null, 1) := by decide +kernel
theorem dX5_walks_17 : decode cX5_walks 17 = .ok (.astore 5, 2) := by decide +kernel
theorem dX5_walks_19 : decode cX5_walks 19 = .ok (.iconst 0, 1) := by decide +kernel
theorem dX5_walks_20 : decode cX5_walks 20 = .ok (.istore 6, 2) := by decide +kernel
theorem dX5_walks_22 : decode cX5_walks 22 = .ok (.iload 6, 2) := by decide +kernel
theorem dX5_walks_24 : decode cX5_walks 24 = .ok (.aload_n 3, 1) := by decide +kernel
theorem dX5_walks_25 : decode cX5_walks 25 = .ok (.invokevirtual 65, 3) := by decide +kernel
theorem dX5_walks_28 : decode cX5_walks 28 = .ok (.if_icmp .ge 63, 3) := by decide +kernel
theorem dX5_walks_31 : decode cX5_walks 31 = .ok (.aload_n 3, 1) := by decide +kernel
theorem dX5_walks_32 : decode cX5_walks 32 = .ok (.iload 6, 2) := by decide +kernel
theorem dX5_walks_34 : decode cX5_walks 34 = .ok (.invokevirtual 131, 3) := by decide +kernel
theorem dX5_walks_37 : decode cX5_walks 37 = .ok (.checkcast 109, 3) := by decide +kernel
theorem dX5_walks_40 : decode cX5_walks 40 = .ok (.astore 7, 2) := by decide +kernel
theorem dX5_walks_42 : decode cX5_walks 42 = .ok (.aload 7, 2) := by decide +kernel
theorem dX5_walks_44 : decode cX5_walks 44 = .ok (.getfield 218, 3) := by decide +kernel
theorem dX5_walks_47 : decode cX5_walks 47 = .ok (.iload_n 1, 1) := by decide +kernel
theorem dX5_walks_48 : decode cX5_walks 48 = .ok (.invokevirtual 247, 3) := by decide +kernel
theorem dX5_walks_51 : decode cX5_walks 51 = .ok (.ifCond .eq 34, 3) := by decide +kernel
theorem dX5_walks_54 : decode cX5_walks 54 = .ok (.aload 5, 2) := by decide +kernel
theorem dX5_walks_56 : decode cX5_walks 56 = .ok (.ifnull 25, 3) := by decide +kernel
theorem dX5_walks_59 : decode cX5_walks 59 = .ok (.aload 5, 2) := by decide +kernel
theorem dX5_walks_61 : decode cX5_walks 61 = .ok (.getfield 190, 3) := by decide +kernel
theorem dX5_walks_64 : decode cX5_walks 64 = .ok (.getfield 55, 3) := by decide +kernel
theorem dX5_walks_67 : decode cX5_walks 67 = .ok (.aload 7, 2) := by decide +kernel
theorem dX5_walks_69 : decode cX5_walks 69 = .ok (.getfield 190, 3) := by decide +kernel
theorem dX5_walks_72 : decode cX5_walks 72 = .ok (.getfield 55, 3) := by decide +kernel
theorem dX5_walks_75 : decode cX5_walks 75 = .ok (.if_icmp .eq 6, 3) := by decide +kernel
theorem dX5_walks_78 : decode cX5_walks 78 = .ok (.iinc 4 1, 3) := by decide +kernel
theorem dX5_walks_81 : decode cX5_walks 81 = .ok (.aload 7, 2) := by decide +kernel
theorem dX5_walks_83 : decode cX5_walks 83 = .ok (.astore 5, 2) := by decide +kernel
theorem dX5_walks_85 : decode cX5_walks 85 = .ok (.iinc 6 1, 3) := by decide +kernel
theorem dX5_walks_88 : decode cX5_walks 88 = .ok (.goto (-66), 3) := by decide +kernel
theorem dX5_walks_91 : decode cX5_walks 91 = .ok (.iload 4, 2) := by decide +kernel
theorem dX5_walks_93 : decode cX5_walks 93 = .ok (.ireturn, 1) := by decide +kernel
theorem dX5_sittings_0 : decode cX5_sittings 0 = .ok (.lconst 0, 1) := by decide +kernel
theorem dX5_sittings_1 : decode cX5_sittings 1 = .ok (.lstore_n 1, 1) := by decide +kernel
theorem dX5_sittings_2 : decode cX5_sittings 2 = .ok (.iconst 0, 1) := by decide +kernel
theorem dX5_sittings_3 : decode cX5_sittings 3 = .ok (.istore_n 3, 1) := by decide +kernel
theorem dX5_sittings_4 : decode cX5_sittings 4 = .ok (.iload_n 3, 1) := by decide +kernel
theorem dX5_sittings_5 : decode cX5_sittings 5 = .ok (.aload_n 0, 1) := by decide +kernel
theorem dX5_sittings_6 : decode cX5_sittings 6 = .ok (.getfield 28, 3) := by decide +kernel
theorem dX5_sittings_9 : decode cX5_sittings 9 = .ok (.invokevirtual 65, 3) := by decide +kernel
theorem dX5_sittings_12 : decode cX5_sittings 12 = .ok (.if_icmp .ge 38, 3) := by decide +kernel
theorem dX5_sittings_15 : decode cX5_sittings 15 = .ok (.aload_n 0, 1) := by decide +kernel
theorem dX5_sittings_16 : decode cX5_sittings 16 = .ok (.getfield 28, 3) := by decide +kernel
theorem dX5_sittings_19 : decode cX5_sittings 19 = .ok (.iload_n 3, 1) := by decide +kernel
theorem dX5_sittings_20 : decode cX5_sittings 20 = .ok (.invokevirtual 131, 3) := by decide +kernel
theorem dX5_sittings_23 : decode cX5_sittings 23 = .ok (.checkcast 76, 3) := by decide +kernel
theorem dX5_sittings_26 : decode cX5_sittings 26 = .ok (.astore 4, 2) := by decide +kernel
theorem dX5_sittings_28 : decode cX5_sittings 28 = .ok (.lload_n 1, 1) := by decide +kernel
theorem dX5_sittings_29 : decode cX5_sittings 29 = .ok (.aload 4, 2) := by decide +kernel
theorem dX5_sittings_31 : decode cX5_sittings 31 = .ok (.invokevirtual 251, 3) := by decide +kernel
theorem dX5_sittings_34 : decode cX5_sittings 34 = .ok (.i2l, 1) := by decide +kernel
theorem dX5_sittings_35 : decode cX5_sittings 35 = .ok (.aload 4, 2) := by decide +kernel
theorem dX5_sittings_37 : decode cX5_sittings 37 = .ok (.invokevirtual 206, 3) := by decide +kernel
theorem dX5_sittings_40 : decode cX5_sittings 40 = .ok (.i2l, 1) := by decide +kernel
theorem dX5_sittings_41 : decode cX5_sittings 41 = .ok (.lmul, 1) := by decide +kernel
theorem dX5_sittings_42 : decode cX5_sittings 42 = .ok (.ladd, 1) := by decide +kernel
theorem dX5_sittings_43 : decode cX5_sittings 43 = .ok (.lstore_n 1, 1) := by decide +kernel
theorem dX5_sittings_44 : decode cX5_sittings 44 = .ok (.iinc 3 1, 3) := by decide +kernel
theorem dX5_sittings_47 : decode cX5_sittings 47 = .ok (.goto (-43), 3) := by decide +kernel
theorem dX5_sittings_50 : decode cX5_sittings 50 = .ok (.lload_n 1, 1) := by decide +kernel
theorem dX5_sittings_51 : decode cX5_sittings 51 = .ok (.lreturn, 1) := by decide +kernel
theorem dX5_meanExpected_0 : decode cX5_meanExpected 0 = .ok (.aload_n 0, 1) := by decide +kernel
theorem dX5_meanExpected_1 : decode cX5_meanExpected 1 = .ok (.getfield 28, 3) := by decide +kernel
theorem dX5_meanExpected_4 : decode cX5_meanExpected 4 = .ok (.invokevirtual 65, 3) := by decide +kernel
theorem dX5_meanExpected_7 : decode cX5_meanExpected 7 = .ok (.istore_n 1, 1) := by decide +kernel
theorem dX5_meanExpected_8 : decode cX5_meanExpected 8 = .ok (.iload_n 1, 1) := by decide +kernel
theorem dX5_meanExpected_9 : decode cX5_meanExpected 9 = .ok (.ifCond .ne 14, 3) := by decide +kernel
theorem dX5_meanExpected_12 : decode cX5_meanExpected 12 = .ok (.new 254, 3) := by decide +kernel
theorem dX5_meanExpected_15 : decode cX5_meanExpected 15 = .ok (.dup, 1) := by decide +kernel
theorem dX5_meanExpected_16 : decode cX5_meanExpected 16 = .ok (.ldc_w 256, 3) := by decide +kernel
theorem dX5_meanExpected_19 : decode cX5_meanExpected 19 = .ok (.invokespecial 258, 3) := by decide +kernel
theorem dX5_meanExpected_22 : decode cX5_meanExpected 22 = .ok (.athrow, 1) := by decide +kernel
theorem dX5_meanExpected_23 : decode cX5_meanExpected 23 = .ok (.iconst 0, 1) := by decide +kernel
theorem dX5_meanExpected_24 : decode cX5_meanExpected 24 = .ok (.istore_n 2, 1) := by decide +kernel
theorem dX5_meanExpected_25 : decode cX5_meanExpected 25 = .ok (.iconst 0, 1) := by decide +kernel
theorem dX5_meanExpected_26 : decode cX5_meanExpected 26 = .ok (.istore_n 3, 1) := by decide +kernel
theorem dX5_meanExpected_27 : decode cX5_meanExpected 27 = .ok (.iload_n 3, 1) := by decide +kernel
theorem dX5_meanExpected_28 : decode cX5_meanExpected 28 = .ok (.iload_n 1, 1) := by decide +kernel
theorem dX5_meanExpected_29 : decode cX5_meanExpected 29 = .ok (.if_icmp .ge 26, 3) := by decide +kernel
theorem dX5_meanExpected_32 : decode cX5_meanExpected 32 = .ok (.iload_n 2, 1) := by decide +kernel
theorem dX5_meanExpected_33 : decode cX5_meanExpected 33 = .ok (.aload_n 0, 1) := by decide +kernel
theorem dX5_meanExpected_34 : decode cX5_meanExpected 34 = .ok (.getfield 28, 3) := by decide +kernel
theorem dX5_meanExpected_37 : decode cX5_meanExpected 37 = .ok (.iload_n 3, 1) := by decide +kernel
theorem dX5_meanExpected_38 : decode cX5_meanExpected 38 = .ok (.invokevirtual 131, 3) := by decide +kernel
theorem dX5_meanExpected_41 : decode cX5_meanExpected 41 = .ok (.checkcast 76, 3) := by decide +kernel
theorem dX5_meanExpected_44 : decode cX5_meanExpected 44 = .ok (.invokevirtual 206, 3) := by decide +kernel
theorem dX5_meanExpected_47 : decode cX5_meanExpected 47 = .ok (.iadd, 1) := by decide +kernel
theorem dX5_meanExpected_48 : decode cX5_meanExpected 48 = .ok (.istore_n 2, 1) := by decide +kernel
theorem dX5_meanExpected_49 : decode cX5_meanExpected 49 = .ok (.iinc 3 1, 3) := by decide +kernel
theorem dX5_meanExpected_52 : decode cX5_meanExpected 52 = .ok (.goto (-25), 3) := by decide +kernel
theorem dX5_meanExpected_55 : decode cX5_meanExpected 55 = .ok (.iload_n 2, 1) := by decide +kernel
theorem dX5_meanExpected_56 : decode cX5_meanExpected 56 = .ok (.i2d, 1) := by decide +kernel
theorem dX5_meanExpected_57 : decode cX5_meanExpected 57 = .ok (.iload_n 1, 1) := by decide +kernel
theorem dX5_meanExpected_58 : decode cX5_meanExpected 58 = .ok (.i2d, 1) := by decide +kernel
theorem dX5_meanExpected_59 : decode cX5_meanExpected 59 = .ok (.ddiv, 1) := by decide +kernel
theorem dX5_meanExpected_60 : decode cX5_meanExpected 60 = .ok (.dreturn, 1) := by decide +kernel
theorem dX5_yesShare_0 : decode cX5_yesShare 0 = .ok (.iconst 0, 1) := by decide +kernel
theorem dX5_yesShare_1 : decode cX5_yesShare 1 = .ok (.istore_n 1, 1) := by decide +kernel
theorem dX5_yesShare_2 : decode cX5_yesShare 2 = .ok (.iconst 0, 1) := by decide +kernel
theorem dX5_yesShare_3 : decode cX5_yesShare 3 = .ok (.istore_n 2, 1) := by decide +kernel
theorem dX5_yesShare_4 : decode cX5_yesShare 4 = .ok (.iconst 0, 1) := by decide +kernel
theorem dX5_yesShare_5 : decode cX5_yesShare 5 = .ok (.istore_n 3, 1) := by decide +kernel
theorem dX5_yesShare_6 : decode cX5_yesShare 6 = .ok (.iload_n 3, 1) := by decide +kernel
theorem dX5_yesShare_7 : decode cX5_yesShare 7 = .ok (.aload_n 0, 1) := by decide +kernel
theorem dX5_yesShare_8 : decode cX5_yesShare 8 = .ok (.getfield 28, 3) := by decide +kernel
theorem dX5_yesShare_11 : decode cX5_yesShare 11 = .ok (.invokevirtual 65, 3) := by decide +kernel
theorem dX5_yesShare_14 : decode cX5_yesShare 14 = .ok (.if_icmp .ge 44, 3) := by decide +kernel
theorem dX5_yesShare_17 : decode cX5_yesShare 17 = .ok (.aload_n 0, 1) := by decide +kernel
theorem dX5_yesShare_18 : decode cX5_yesShare 18 = .ok (.getfield 28, 3) := by decide +kernel
theorem dX5_yesShare_21 : decode cX5_yesShare 21 = .ok (.iload_n 3, 1) := by decide +kernel
theorem dX5_yesShare_22 : decode cX5_yesShare 22 = .ok (.invokevirtual 131, 3) := by decide +kernel
theorem dX5_yesShare_25 : decode cX5_yesShare 25 = .ok (.checkcast 76, 3) := by decide +kernel
theorem dX5_yesShare_28 : decode cX5_yesShare 28 = .ok (.astore 4, 2) := by decide +kernel
theorem dX5_yesShare_30 : decode cX5_yesShare 30 = .ok (.iload_n 1, 1) := by decide +kernel
theorem dX5_yesShare_31 : decode cX5_yesShare 31 = .ok (.aload 4, 2) := by decide +kernel
theorem dX5_yesShare_33 : decode cX5_yesShare 33 = .ok (.getfield 259, 3) := by decide +kernel
theorem dX5_yesShare_36 : decode cX5_yesShare 36 = .ok (.invokestatic 262, 3) := by decide +kernel
theorem dX5_yesShare_39 : decode cX5_yesShare 39 = .ok (.iadd, 1) := by decide +kernel
theorem dX5_yesShare_40 : decode cX5_yesShare 40 = .ok (.istore_n 1, 1) := by decide +kernel
theorem dX5_yesShare_41 : decode cX5_yesShare 41 = .ok (.iload_n 2, 1) := by decide +kernel
theorem dX5_yesShare_42 : decode cX5_yesShare 42 = .ok (.aload 4, 2) := by decide +kernel
theorem dX5_yesShare_44 : decode cX5_yesShare 44 = .ok (.getfield 267, 3) := by decide +kernel
theorem dX5_yesShare_47 : decode cX5_yesShare 47 = .ok (.invokestatic 262, 3) := by decide +kernel
theorem dX5_yesShare_50 : decode cX5_yesShare 50 = .ok (.iadd, 1) := by decide +kernel
theorem dX5_yesShare_51 : decode cX5_yesShare 51 = .ok (.istore_n 2, 1) := by decide +kernel
theorem dX5_yesShare_52 : decode cX5_yesShare 52 = .ok (.iinc 3 1, 3) := by decide +kernel
theorem dX5_yesShare_55 : decode cX5_yesShare 55 = .ok (.goto (-49), 3) := by decide +kernel
theorem dX5_yesShare_58 : decode cX5_yesShare 58 = .ok (.iload_n 1, 1) := by decide +kernel
theorem dX5_yesShare_59 : decode cX5_yesShare 59 = .ok (.iload_n 2, 1) := by decide +kernel
theorem dX5_yesShare_60 : decode cX5_yesShare 60 = .ok (.iadd, 1) := by decide +kernel
theorem dX5_yesShare_61 : decode cX5_yesShare 61 = .ok (.ifCond .ne 14, 3) := by decide +kernel
theorem dX5_yesShare_64 : decode cX5_yesShare 64 = .ok (.new 254, 3) := by decide +kernel
theorem dX5_yesShare_67 : decode cX5_yesShare 67 = .ok (.dup, 1) := by decide +kernel
theorem dX5_yesShare_68 : decode cX5_yesShare 68 = .ok (.ldc_w 270, 3) := by decide +kernel
theorem dX5_yesShare_71 : decode cX5_yesShare 71 = .ok (.invokespecial 258, 3) := by decide +kernel
theorem dX5_yesShare_74 : decode cX5_yesShare 74 = .ok (.athrow, 1) := by decide +kernel
theorem dX5_yesShare_75 : decode cX5_yesShare 75 = .ok (.iload_n 1, 1) := by decide +kernel
theorem dX5_yesShare_76 : decode cX5_yesShare 76 = .ok (.i2f, 1) := by decide +kernel
theorem dX5_yesShare_77 : decode cX5_yesShare 77 = .ok (.iload_n 1, 1) := by decide +kernel
theorem dX5_yesShare_78 : decode cX5_yesShare 78 = .ok (.iload_n 2, 1) := by decide +kernel
theorem dX5_yesShare_79 : decode cX5_yesShare 79 = .ok (.iadd, 1) := by decide +kernel
theorem dX5_yesShare_80 : decode cX5_yesShare 80 = .ok (.i2f, 1) := by decide +kernel
theorem dX5_yesShare_81 : decode cX5_yesShare 81 = .ok (.fdiv, 1) := by decide +kernel
theorem dX5_yesShare_82 : decode cX5_yesShare 82 = .ok (.freturn, 1) := by decide +kernel
theorem dX5_isConsistent_0 : decode cX5_isConsistent 0 = .ok (.iconst 0, 1) := by decide +kernel
theorem dX5_isConsistent_1 : decode cX5_isConsistent 1 = .ok (.istore_n 1, 1) := by decide +kernel
theorem dX5_isConsistent_2 : decode cX5_isConsistent 2 = .ok (.iload_n 1, 1) := by decide +kernel
theorem dX5_isConsistent_3 : decode cX5_isConsistent 3 = .ok (.bipush 28, 2) := by decide +kernel
theorem dX5_isConsistent_5 : decode cX5_isConsistent 5 = .ok (.if_icmp .ge 27, 3) := by decide +kernel
theorem dX5_isConsistent_8 : decode cX5_isConsistent 8 = .ok (.aload_n 0, 1) := by decide +kernel
theorem dX5_isConsistent_9 : decode cX5_isConsistent 9 = .ok (.iload_n 1, 1) := by decide +kernel
theorem dX5_isConsistent_10 : decode cX5_isConsistent 10 = .ok (.invokevirtual 272, 3) := by decide +kernel
theorem dX5_isConsistent_13 : decode cX5_isConsistent 13 = .ok (.ifCond .ne 11, 3) := by decide +kernel
theorem dX5_isConsistent_16 : decode cX5_isConsistent 16 = .ok (.aload_n 0, 1) := by decide +kernel
theorem dX5_isConsistent_17 : decode cX5_isConsistent 17 = .ok (.iload_n 1, 1) := by decide +kernel
theorem dX5_isConsistent_18 : decode cX5_isConsistent 18 = .ok (.invokevirtual 275, 3) := by decide +kernel
theorem dX5_isConsistent_21 : decode cX5_isConsistent 21 = .ok (.ifCond .ne 5, 3) := by decide +kernel
theorem dX5_isConsistent_24 : decode cX5_isConsistent 24 = .ok (.iconst 0, 1) := by decide +kernel
theorem dX5_isConsistent_25 : decode cX5_isConsistent 25 = .ok (.ireturn, 1) := by decide +kernel
theorem dX5_isConsistent_26 : decode cX5_isConsistent 26 = .ok (.iinc 1 1, 3) := by decide +kernel
theorem dX5_isConsistent_29 : decode cX5_isConsistent 29 = .ok (.goto (-27), 3) := by decide +kernel
theorem dX5_isConsistent_32 : decode cX5_isConsistent 32 = .ok (.iconst 1, 1) := by decide +kernel
theorem dX5_isConsistent_33 : decode cX5_isConsistent 33 = .ok (.ireturn, 1) := by decide +kernel
theorem dX5_requireWithin_0 : decode cX5_requireWithin 0 = .ok (.iload_n 0, 1) := by decide +kernel
theorem dX5_requireWithin_1 : decode cX5_requireWithin 1 = .ok (.iload_n 1, 1) := by decide +kernel
theorem dX5_requireWithin_2 : decode cX5_requireWithin 2 = .ok (.if_icmp .lt 8, 3) := by decide +kernel
theorem dX5_requireWithin_5 : decode cX5_requireWithin 5 = .ok (.iload_n 0, 1) := by decide +kernel
theorem dX5_requireWithin_6 : decode cX5_requireWithin 6 = .ok (.iload_n 2, 1) := by decide +kernel
theorem dX5_requireWithin_7 : decode cX5_requireWithin 7 = .ok (.if_icmp .le 14, 3) := by decide +kernel
theorem dX5_requireWithin_10 : decode cX5_requireWithin 10 = .ok (.new 142, 3) := by decide +kernel
theorem dX5_requireWithin_13 : decode cX5_requireWithin 13 = .ok (.dup, 1) := by decide +kernel
theorem dX5_requireWithin_14 : decode cX5_requireWithin 14 = .ok (.ldc_w 278, 3) := by decide +kernel
theorem dX5_requireWithin_17 : decode cX5_requireWithin 17 = .ok (.invokespecial 146, 3) := by decide +kernel
theorem dX5_requireWithin_20 : decode cX5_requireWithin 20 = .ok (.athrow, 1) := by decide +kernel
theorem dX5_requireWithin_21 : decode cX5_requireWithin 21 = .ok (.return_, 1) := by decide +kernel
theorem dX5_requirePerson_0 : decode cX5_requirePerson 0 = .ok (.iload_n 0, 1) := by decide +kernel
theorem dX5_requirePerson_1 : decode cX5_requirePerson 1 = .ok (.iconst 0, 1) := by decide +kernel
theorem dX5_requirePerson_2 : decode cX5_requirePerson 2 = .ok (.iconst 5, 1) := by decide +kernel
theorem dX5_requirePerson_3 : decode cX5_requirePerson 3 = .ok (.invokestatic 49, 3) := by decide +kernel
theorem dX5_requirePerson_6 : decode cX5_requirePerson 6 = .ok (.return_, 1) := by decide +kernel
theorem dX5_requireDay_0 : decode cX5_requireDay 0 = .ok (.iload_n 0, 1) := by decide +kernel
theorem dX5_requireDay_1 : decode cX5_requireDay 1 = .ok (.iconst 0, 1) := by decide +kernel
theorem dX5_requireDay_2 : decode cX5_requireDay 2 = .ok (.bipush 27, 2) := by decide +kernel
theorem dX5_requireDay_4 : decode cX5_requireDay 4 = .ok (.invokestatic 49, 3) := by decide +kernel
theorem dX5_requireDay_7 : decode cX5_requireDay 7 = .ok (.return_, 1) := by decide +kernel
theorem dX5_requireSlot_0 : decode cX5_requireSlot 0 = .ok (.iload_n 0, 1) := by decide +kernel
theorem dX5_requireSlot_1 : decode cX5_requireSlot 1 = .ok (.invokestatic 117, 3) := by decide +kernel
theorem dX5_requireSlot_4 : decode cX5_requireSlot 4 = .ok (.iload_n 1, 1) := by decide +kernel
theorem dX5_requireSlot_5 : decode cX5_requireSlot 5 = .ok (.iconst 0, 1) := by decide +kernel
theorem dX5_requireSlot_6 : decode cX5_requireSlot 6 = .ok (.bipush 15, 2) := by decide +kernel
theorem dX5_requireSlot_8 : decode cX5_requireSlot 8 = .ok (.invokestatic 49, 3) := by decide +kernel
theorem dX5_requireSlot_11 : decode cX5_requireSlot 11 = .ok (.iload_n 2, 1) := by decide +kernel
theorem dX5_requireSlot_12 : decode cX5_requireSlot 12 = .ok (.iconst 1, 1) := by decide +kernel
theorem dX5_requireSlot_13 : decode cX5_requireSlot 13 = .ok (.bipush 6, 2) := by decide +kernel
theorem dX5_requireSlot_15 : decode cX5_requireSlot 15 = .ok (.invokestatic 49, 3) := by decide +kernel
theorem dX5_requireSlot_18 : decode cX5_requireSlot 18 = .ok (.iload_n 1, 1) := by decide +kernel
theorem dX5_requireSlot_19 : decode cX5_requireSlot 19 = .ok (.iload_n 2, 1) := by decide +kernel
theorem dX5_requireSlot_20 : decode cX5_requireSlot 20 = .ok (.iadd, 1) := by decide +kernel
theorem dX5_requireSlot_21 : decode cX5_requireSlot 21 = .ok (.iconst 1, 1) := by decide +kernel
theorem dX5_requireSlot_22 : decode cX5_requireSlot 22 = .ok (.bipush 16, 2) := by decide +kernel
theorem dX5_requireSlot_24 : decode cX5_requireSlot 24 = .ok (.invokestatic 49, 3) := by decide +kernel
theorem dX5_requireSlot_27 : decode cX5_requireSlot 27 = .ok (.return_, 1) := by decide +kernel
theorem dX5_requireRefusal_0 : decode cX5_requireRefusal 0 = .ok (.aload_n 0, 1) := by decide +kernel
theorem dX5_requireRefusal_1 : decode cX5_requireRefusal 1 = .ok (.getfield 39, 3) := by decide +kernel
theorem dX5_requireRefusal_4 : decode cX5_requireRefusal 4 = .ok (.ifCond .ne 14, 3) := by decide +kernel
theorem dX5_requireRefusal_7 : decode cX5_requireRefusal 7 = .ok (.new 198, 3) := by decide +kernel
theorem dX5_requireRefusal_10 : decode cX5_requireRefusal 10 = .ok (.dup, 1) := by decide +kernel
theorem dX5_requireRefusal_11 : decode cX5_requireRefusal 11 = .ok (.ldc_w 280, 3) := by decide +kernel
theorem dX5_requireRefusal_14 : decode cX5_requireRefusal 14 = .ok (.invokespecial 202, 3) := by decide +kernel
theorem dX5_requireRefusal_17 : decode cX5_requireRefusal 17 = .ok (.athrow, 1) := by decide +kernel
theorem dX5_requireRefusal_18 : decode cX5_requireRefusal 18 = .ok (.return_, 1) := by decide +kernel
theorem dX5_roomWith_0 : decode cX5_roomWith 0 = .ok (.iload_n 1, 1) := by decide +kernel
theorem dX5_roomWith_1 : decode cX5_roomWith 1 = .ok (.ifCond .lt 12, 3) := by decide +kernel
theorem dX5_roomWith_4 : decode cX5_roomWith 4 = .ok (.iload_n 1, 1) := by decide +kernel
theorem dX5_roomWith_5 : decode cX5_roomWith 5 = .ok (.aload_n 0, 1) := by decide +kernel
theorem dX5_roomWith_6 : decode cX5_roomWith 6 = .ok (.getfield 12, 3) := by decide +kernel
theorem dX5_roomWith_9 : decode cX5_roomWith 9 = .ok (.arraylength, 1) := by decide +kernel
theorem dX5_roomWith_10 : decode cX5_roomWith 10 = .ok (.if_icmp .lt 14, 3) := by decide +kernel
theorem dX5_roomWith_13 : decode cX5_roomWith 13 = .ok (.new 142, 3) := by decide +kernel
theorem dX5_roomWith_16 : decode cX5_roomWith 16 = .ok (.dup, 1) := by decide +kernel
theorem dX5_roomWith_17 : decode cX5_roomWith 17 = .ok (.ldc_w 282, 3) := by decide +kernel
theorem dX5_roomWith_20 : decode cX5_roomWith 20 = .ok (.invokespecial 146, 3) := by decide +kernel
theorem dX5_roomWith_23 : decode cX5_roomWith 23 = .ok (.athrow, 1) := by decide +kernel
theorem dX5_roomWith_24 : decode cX5_roomWith 24 = .ok (.aload_n 0, 1) := by decide +kernel
theorem dX5_roomWith_25 : decode cX5_roomWith 25 = .ok (.getfield 12, 3) := by decide +kernel
theorem dX5_roomWith_28 : decode cX5_roomWith 28 = .ok (.iload_n 1, 1) := by decide +kernel
theorem dX5_roomWith_29 : decode cX5_roomWith 29 = .ok (.aaload, 1) := by decide +kernel
theorem dX5_roomWith_30 : decode cX5_roomWith 30 = .ok (.areturn, 1) := by decide +kernel
theorem dX5_dayWith_0 : decode cX5_dayWith 0 = .ok (.iload_n 1, 1) := by decide +kernel
theorem dX5_dayWith_1 : decode cX5_dayWith 1 = .ok (.ifCond .lt 12, 3) := by decide +kernel
theorem dX5_dayWith_4 : decode cX5_dayWith 4 = .ok (.iload_n 1, 1) := by decide +kernel
theorem dX5_dayWith_5 : decode cX5_dayWith 5 = .ok (.aload_n 0, 1) := by decide +kernel
theorem dX5_dayWith_6 : decode cX5_dayWith 6 = .ok (.getfield 20, 3) := by decide +kernel
theorem dX5_dayWith_9 : decode cX5_dayWith 9 = .ok (.arraylength, 1) := by decide +kernel
theorem dX5_dayWith_10 : decode cX5_dayWith 10 = .ok (.if_icmp .lt 14, 3) := by decide +kernel
theorem dX5_dayWith_13 : decode cX5_dayWith 13 = .ok (.new 142, 3) := by decide +kernel
theorem dX5_dayWith_16 : decode cX5_dayWith 16 = .ok (.dup, 1) := by decide +kernel
theorem dX5_dayWith_17 : decode cX5_dayWith 17 = .ok (.ldc_w 284, 3) := by decide +kernel
theorem dX5_dayWith_20 : decode cX5_dayWith 20 = .ok (.invokespecial 146, 3) := by decide +kernel
theorem dX5_dayWith_23 : decode cX5_dayWith 23 = .ok (.athrow, 1) := by decide +kernel
theorem dX5_dayWith_24 : decode cX5_dayWith 24 = .ok (.aload_n 0, 1) := by decide +kernel
theorem dX5_dayWith_25 : decode cX5_dayWith 25 = .ok (.getfield 20, 3) := by decide +kernel
theorem dX5_dayWith_28 : decode cX5_dayWith 28 = .ok (.iload_n 1, 1) := by decide +kernel
theorem dX5_dayWith_29 : decode cX5_dayWith 29 = .ok (.aaload, 1) := by decide +kernel
theorem dX5_dayWith_30 : decode cX5_dayWith 30 = .ok (.areturn, 1) := by decide +kernel
theorem dX5_rankOf_0 : decode cX5_rankOf 0 = .ok (.iconst 0, 1) := by decide +kernel
theorem dX5_rankOf_1 : decode cX5_rankOf 1 = .ok (.istore_n 2, 1) := by decide +kernel
theorem dX5_rankOf_2 : decode cX5_rankOf 2 = .ok (.iload_n 2, 1) := by decide +kernel
theorem dX5_rankOf_3 : decode cX5_rankOf 3 = .ok (.aload_n 0, 1) := by decide +kernel
theorem dX5_rankOf_4 : decode cX5_rankOf 4 = .ok (.getfield 28, 3) := by decide +kernel
theorem dX5_rankOf_7 : decode cX5_rankOf 7 = .ok (.invokevirtual 65, 3) := by decide +kernel
theorem dX5_rankOf_10 : decode cX5_rankOf 10 = .ok (.if_icmp .ge 29, 3) := by decide +kernel
theorem dX5_rankOf_13 : decode cX5_rankOf 13 = .ok (.aload_n 0, 1) := by decide +kernel
theorem dX5_rankOf_14 : decode cX5_rankOf 14 = .ok (.getfield 28, 3) := by decide +kernel
theorem dX5_rankOf_17 : decode cX5_rankOf 17 = .ok (.iload_n 2, 1) := by decide +kernel
theorem dX5_rankOf_18 : decode cX5_rankOf 18 = .ok (.invokevirtual 131, 3) := by decide +kernel
theorem dX5_rankOf_21 : decode cX5_rankOf 21 = .ok (.checkcast 76, 3) := by decide +kernel
theorem dX5_rankOf_24 : decode cX5_rankOf 24 = .ok (.getfield 94, 3) := by decide +kernel
theorem dX5_rankOf_27 : decode cX5_rankOf 27 = .ok (.iload_n 1, 1) := by decide +kernel
theorem dX5_rankOf_28 : decode cX5_rankOf 28 = .ok (.if_icmp .ne 5, 3) := by decide +kernel
theorem dX5_rankOf_31 : decode cX5_rankOf 31 = .ok (.iload_n 2, 1) := by decide +kernel
theorem dX5_rankOf_32 : decode cX5_rankOf 32 = .ok (.ireturn, 1) := by decide +kernel
theorem dX5_rankOf_33 : decode cX5_rankOf 33 = .ok (.iinc 2 1, 3) := by decide +kernel
theorem dX5_rankOf_36 : decode cX5_rankOf 36 = .ok (.goto (-34), 3) := by decide +kernel
theorem dX5_rankOf_39 : decode cX5_rankOf 39 = .ok (.new 198, 3) := by decide +kernel
theorem dX5_rankOf_42 : decode cX5_rankOf 42 = .ok (.dup, 1) := by decide +kernel
theorem dX5_rankOf_43 : decode cX5_rankOf 43 = .ok (.ldc_w 286, 3) := by decide +kernel
theorem dX5_rankOf_46 : decode cX5_rankOf 46 = .ok (.invokespecial 202, 3) := by decide +kernel
theorem dX5_rankOf_49 : decode cX5_rankOf 49 = .ok (.athrow, 1) := by decide +kernel
theorem dX5_meetingWith_0 : decode cX5_meetingWith 0 = .ok (.aload_n 0, 1) := by decide +kernel
theorem dX5_meetingWith_1 : decode cX5_meetingWith 1 = .ok (.getfield 28, 3) := by decide +kernel
theorem dX5_meetingWith_4 : decode cX5_meetingWith 4 = .ok (.aload_n 0, 1) := by decide +kernel
theorem dX5_meetingWith_5 : decode cX5_meetingWith 5 = .ok (.iload_n 1, 1) := by decide +kernel
theorem dX5_meetingWith_6 : decode cX5_meetingWith 6 = .ok (.invokevirtual 128, 3) := by decide +kernel
theorem dX5_meetingWith_9 : decode cX5_meetingWith 9 = .ok (.invokevirtual 131, 3) := by decide +kernel
theorem dX5_meetingWith_12 : decode cX5_meetingWith 12 = .ok (.checkcast 76, 3) := by decide +kernel
theorem dX5_meetingWith_15 : decode cX5_meetingWith 15 = .ok (.areturn, 1) := by decide +kernel
theorem dX5_dateWith_0 : decode cX5_dateWith 0 = .ok (.iload_n 1, 1) := by decide +kernel
theorem dX5_dateWith_1 : decode cX5_dateWith 1 = .ok (.ifCond .lt 14, 3) := by decide +kernel
theorem dX5_dateWith_4 : decode cX5_dateWith 4 = .ok (.iload_n 1, 1) := by decide +kernel
theorem dX5_dateWith_5 : decode cX5_dateWith 5 = .ok (.aload_n 0, 1) := by decide +kernel
theorem dX5_dateWith_6 : decode cX5_dateWith 6 = .ok (.getfield 101, 3) := by decide +kernel
theorem dX5_dateWith_9 : decode cX5_dateWith 9 = .ok (.invokevirtual 65, 3) := by decide +kernel
theorem dX5_dateWith_12 : decode cX5_dateWith 12 = .ok (.if_icmp .lt 14, 3) := by decide +kernel
theorem dX5_dateWith_15 : decode cX5_dateWith 15 = .ok (.new 288, 3) := by decide +kernel
theorem dX5_dateWith_18 : decode cX5_dateWith 18 = .ok (.dup, 1) := by decide +kernel
theorem dX5_dateWith_19 : decode cX5_dateWith 19 = .ok (.ldc_w 290, 3) := by decide +kernel
theorem dX5_dateWith_22 : decode cX5_dateWith 22 = .ok (.invokespecial 292, 3) := by decide +kernel
theorem dX5_dateWith_25 : decode cX5_dateWith 25 = .ok (.athrow, 1) := by decide +kernel
theorem dX5_dateWith_26 : decode cX5_dateWith 26 = .ok (.aload_n 0, 1) := by decide +kernel
theorem dX5_dateWith_27 : decode cX5_dateWith 27 = .ok (.getfield 101, 3) := by decide +kernel
theorem dX5_dateWith_30 : decode cX5_dateWith 30 = .ok (.iload_n 1, 1) := by decide +kernel
theorem dX5_dateWith_31 : decode cX5_dateWith 31 = .ok (.invokevirtual 131, 3) := by decide +kernel
theorem dX5_dateWith_34 : decode cX5_dateWith 34 = .ok (.checkcast 109, 3) := by decide +kernel
theorem dX5_dateWith_37 : decode cX5_dateWith 37 = .ok (.areturn, 1) := by decide +kernel
theorem dX5_standingDateWith_0 : decode cX5_standingDateWith 0 = .ok (.aload_n 0, 1) := by decide +kernel
theorem dX5_standingDateWith_1 : decode cX5_standingDateWith 1 = .ok (.iload_n 1, 1) := by decide +kernel
theorem dX5_standingDateWith_2 : decode cX5_standingDateWith 2 = .ok (.invokestatic 104, 3) := by decide +kernel
theorem dX5_standingDateWith_5 : decode cX5_standingDateWith 5 = .ok (.astore_n 2, 1) := by decide +kernel
theorem dX5_standingDateWith_6 : decode cX5_standingDateWith 6 = .ok (.aload_n 2, 1) := by decide +kernel
theorem dX5_standingDateWith_7 : decode cX5_standingDateWith 7 = .ok (.getfield 175, 3) := by decide +kernel
theorem dX5_standingDateWith_10 : decode cX5_standingDateWith 10 = .ok (.ifCond .eq 14, 3) := by decide +kernel
theorem dX5_standingDateWith_13 : decode cX5_standingDateWith 13 = .ok (.new 69, 3) := by decide +kernel
theorem dX5_standingDateWith_16 : decode cX5_standingDateWith 16 = .ok (.dup, 1) := by decide +kernel
theorem dX5_standingDateWith_17 : decode cX5_standingDateWith 17 = .ok (.ldc_w 293, 3) := by decide +kernel
theorem dX5_standingDateWith_20 : decode cX5_standingDateWith 20 = .ok (.invokespecial 73, 3) := by decide +kernel
theorem dX5_standingDateWith_23 : decode cX5_standingDateWith 23 = .ok (.athrow, 1) := by decide +kernel
theorem dX5_standingDateWith_24 : decode cX5_standingDateWith 24 = .ok (.aload_n 2, 1) := by decide +kernel
theorem dX5_standingDateWith_25 : decode cX5_standingDateWith 25 = .ok (.areturn, 1) := by decide +kernel
theorem dX5_bitOf_0 : decode cX5_bitOf 0 = .ok (.iconst 1, 1) := by decide +kernel
theorem dX5_bitOf_1 : decode cX5_bitOf 1 = .ok (.iload_n 0, 1) := by decide +kernel
theorem dX5_bitOf_2 : decode cX5_bitOf 2 = .ok (.ishl, 1) := by decide +kernel
theorem dX5_bitOf_3 : decode cX5_bitOf 3 = .ok (.ireturn, 1) := by decide +kernel
theorem dX5_holdsPerson_0 : decode cX5_holdsPerson 0 = .ok (.iload_n 0, 1) := by decide +kernel
theorem dX5_holdsPerson_1 : decode cX5_holdsPerson 1 = .ok (.iload_n 1, 1) := by decide +kernel
theorem dX5_holdsPerson_2 : decode cX5_holdsPerson 2 = .ok (.invokestatic 78, 3) := by decide +kernel
theorem dX5_holdsPerson_5 : decode cX5_holdsPerson 5 = .ok (.iand, 1) := by decide +kernel
theorem dX5_holdsPerson_6 : decode cX5_holdsPerson 6 = .ok (.ifCond .eq 7, 3) := by decide +kernel
theorem dX5_holdsPerson_9 : decode cX5_holdsPerson 9 = .ok (.iconst 1, 1) := by decide +kernel
theorem dX5_holdsPerson_10 : decode cX5_holdsPerson 10 = .ok (.goto 4, 3) := by decide +kernel
theorem dX5_holdsPerson_13 : decode cX5_holdsPerson 13 = .ok (.iconst 0, 1) := by decide +kernel
theorem dX5_holdsPerson_14 : decode cX5_holdsPerson 14 = .ok (.ireturn, 1) := by decide +kernel
theorem dX5_lowestPerson_0 : decode cX5_lowestPerson 0 = .ok (.iconst 0, 1) := by decide +kernel
theorem dX5_lowestPerson_1 : decode cX5_lowestPerson 1 = .ok (.istore_n 1, 1) := by decide +kernel
theorem dX5_lowestPerson_2 : decode cX5_lowestPerson 2 = .ok (.iload_n 1, 1) := by decide +kernel
theorem dX5_lowestPerson_3 : decode cX5_lowestPerson 3 = .ok (.iconst 5, 1) := by decide +kernel
theorem dX5_lowestPerson_4 : decode cX5_lowestPerson 4 = .ok (.if_icmp .ge 17, 3) := by decide +kernel
theorem dX5_lowestPerson_7 : decode cX5_lowestPerson 7 = .ok (.iload_n 0, 1) := by decide +kernel
theorem dX5_lowestPerson_8 : decode cX5_lowestPerson 8 = .ok (.iload_n 1, 1) := by decide +kernel
theorem dX5_lowestPerson_9 : decode cX5_lowestPerson 9 = .ok (.invokestatic 150, 3) := by decide +kernel
theorem dX5_lowestPerson_12 : decode cX5_lowestPerson 12 = .ok (.ifCond .ne 9, 3) := by decide +kernel
theorem dX5_lowestPerson_15 : decode cX5_lowestPerson 15 = .ok (.iinc 1 1, 3) := by decide +kernel
theorem dX5_lowestPerson_18 : decode cX5_lowestPerson 18 = .ok (.goto (-16), 3) := by decide +kernel
theorem dX5_lowestPerson_21 : decode cX5_lowestPerson 21 = .ok (.iload_n 1, 1) := by decide +kernel
theorem dX5_lowestPerson_22 : decode cX5_lowestPerson 22 = .ok (.ireturn, 1) := by decide +kernel
theorem dX5_planDates_0 : decode cX5_planDates 0 = .ok (.iconst 0, 1) := by decide +kernel
theorem dX5_planDates_1 : decode cX5_planDates 1 = .ok (.istore_n 3, 1) := by decide +kernel
theorem dX5_planDates_2 : decode cX5_planDates 2 = .ok (.iload_n 3, 1) := by decide +kernel
theorem dX5_planDates_3 : decode cX5_planDates 3 = .ok (.aload_n 2, 1) := by decide +kernel
theorem dX5_planDates_4 : decode cX5_planDates 4 = .ok (.invokevirtual 65, 3) := by decide +kernel
theorem dX5_planDates_7 : decode cX5_planDates 7 = .ok (.if_icmp .ge 23, 3) := by decide +kernel
theorem dX5_planDates_10 : decode cX5_planDates 10 = .ok (.aload_n 0, 1) := by decide +kernel
theorem dX5_planDates_11 : decode cX5_planDates 11 = .ok (.aload_n 1, 1) := by decide +kernel
theorem dX5_planDates_12 : decode cX5_planDates 12 = .ok (.aload_n 2, 1) := by decide +kernel
theorem dX5_planDates_13 : decode cX5_planDates 13 = .ok (.iload_n 3, 1) := by decide +kernel
theorem dX5_planDates_14 : decode cX5_planDates 14 = .ok (.invokevirtual 131, 3) := by decide +kernel
theorem dX5_planDates_17 : decode cX5_planDates 17 = .ok (.checkcast 83, 3) := by decide +kernel
theorem dX5_planDates_20 : decode cX5_planDates 20 = .ok (.aconst_null, 1) := by decide +kernel
theorem dX5_planDates_21 : decode cX5_planDates 21 = .ok (.invokevirtual 182, 3) := by decide +kernel
theorem dX5_planDates_24 : decode cX5_planDates 24 = .ok (.iinc 3 1, 3) := by decide +kernel
theorem dX5_planDates_27 : decode cX5_planDates 27 = .ok (.goto (-25), 3) := by decide +kernel
theorem dX5_planDates_30 : decode cX5_planDates 30 = .ok (.new 25, 3) := by decide +kernel
theorem dX5_planDates_33 : decode cX5_planDates 33 = .ok (.dup, 1) := by decide +kernel
theorem dX5_planDates_34 : decode cX5_planDates 34 = .ok (.invokespecial 27, 3) := by decide +kernel
theorem dX5_planDates_37 : decode cX5_planDates 37 = .ok (.astore_n 3, 1) := by decide +kernel
theorem dX5_planDates_38 : decode cX5_planDates 38 = .ok (.iconst 0, 1) := by decide +kernel
theorem dX5_planDates_39 : decode cX5_planDates 39 = .ok (.istore 4, 2) := by decide +kernel
theorem dX5_planDates_41 : decode cX5_planDates 41 = .ok (.iload 4, 2) := by decide +kernel
theorem dX5_planDates_43 : decode cX5_planDates 43 = .ok (.aload_n 2, 1) := by decide +kernel
theorem dX5_planDates_44 : decode cX5_planDates 44 = .ok (.invokevirtual 65, 3) := by decide +kernel
theorem dX5_planDates_47 : decode cX5_planDates 47 = .ok (.if_icmp .ge 57, 3) := by decide +kernel
theorem dX5_planDates_50 : decode cX5_planDates 50 = .ok (.aload_n 2, 1) := by decide +kernel
theorem dX5_planDates_51 : decode cX5_planDates 51 = .ok (.iload 4, 2) := by decide +kernel
theorem dX5_planDates_53 : decode cX5_planDates 53 = .ok (.invokevirtual 131, 3) := by decide +kernel
theorem dX5_planDates_56 : decode cX5_planDates 56 = .ok (.checkcast 83, 3) := by decide +kernel
theorem dX5_planDates_59 : decode cX5_planDates 59 = .ok (.astore 5, 2) := by decide +kernel
theorem dX5_planDates_61 : decode cX5_planDates 61 = .ok (.aload_n 0, 1) := by decide +kernel
theorem dX5_planDates_62 : decode cX5_planDates 62 = .ok (.aload_n 1, 1) := by decide +kernel
theorem dX5_planDates_63 : decode cX5_planDates 63 = .ok (.aload_n 1, 1) := by decide +kernel
theorem dX5_planDates_64 : decode cX5_planDates 64 = .ok (.getfield 101, 3) := by decide +kernel
theorem dX5_planDates_67 : decode cX5_planDates 67 = .ok (.invokevirtual 65, 3) := by decide +kernel
theorem dX5_planDates_70 : decode cX5_planDates 70 = .ok (.iload 4, 2) := by decide +kernel
theorem dX5_planDates_72 : decode cX5_planDates 72 = .ok (.iadd, 1) := by decide +kernel
theorem dX5_planDates_73 : decode cX5_planDates 73 = .ok (.aload 5, 2) := by decide +kernel
theorem dX5_planDates_75 : decode cX5_planDates 75 = .ok (.aconst_null, 1) := by decide +kernel
theorem dX5_planDates_76 : decode cX5_planDates 76 = .ok (.invokevirtual 186, 3) := by decide +kernel
theorem dX5_planDates_79 : decode cX5_planDates 79 = .ok (.astore 6, 2) := by decide +kernel
theorem dX5_planDates_81 : decode cX5_planDates 81 = .ok (.aload_n 3, 1) := by decide +kernel
theorem dX5_planDates_82 : decode cX5_planDates 82 = .ok (.new 109, 3) := by decide +kernel
theorem dX5_planDates_85 : decode cX5_planDates 85 = .ok (.dup, 1) := by decide +kernel
theorem dX5_planDates_86 : decode cX5_planDates 86 = .ok (.aload_n 1, 1) := by decide +kernel
theorem dX5_planDates_87 : decode cX5_planDates 87 = .ok (.aload 5, 2) := by decide +kernel
theorem dX5_planDates_89 : decode cX5_planDates 89 = .ok (.aload 6, 2) := by decide +kernel
theorem dX5_planDates_91 : decode cX5_planDates 91 = .ok (.invokespecial 295, 3) := by decide +kernel
theorem dX5_planDates_94 : decode cX5_planDates 94 = .ok (.invokevirtual 86, 3) := by decide +kernel
theorem dX5_planDates_97 : decode cX5_planDates 97 = .ok (.pop, 1) := by decide +kernel
theorem dX5_planDates_98 : decode cX5_planDates 98 = .ok (.iinc 4 1, 3) := by decide +kernel
theorem dX5_planDates_101 : decode cX5_planDates 101 = .ok (.goto (-60), 3) := by decide +kernel
theorem dX5_planDates_104 : decode cX5_planDates 104 = .ok (.iconst 0, 1) := by decide +kernel
theorem dX5_planDates_105 : decode cX5_planDates 105 = .ok (.istore 4, 2) := by decide +kernel
theorem dX5_planDates_107 : decode cX5_planDates 107 = .ok (.iload 4, 2) := by decide +kernel
theorem dX5_planDates_109 : decode cX5_planDates 109 = .ok (.aload_n 3, 1) := by decide +kernel
theorem dX5_planDates_110 : decode cX5_planDates 110 = .ok (.invokevirtual 65, 3) := by decide +kernel
theorem dX5_planDates_113 : decode cX5_planDates 113 = .ok (.if_icmp .ge 36, 3) := by decide +kernel
theorem dX5_planDates_116 : decode cX5_planDates 116 = .ok (.aload_n 3, 1) := by decide +kernel
theorem dX5_planDates_117 : decode cX5_planDates 117 = .ok (.iload 4, 2) := by decide +kernel
theorem dX5_planDates_119 : decode cX5_planDates 119 = .ok (.invokevirtual 131, 3) := by decide +kernel
theorem dX5_planDates_122 : decode cX5_planDates 122 = .ok (.checkcast 109, 3) := by decide +kernel
theorem dX5_planDates_125 : decode cX5_planDates 125 = .ok (.astore 5, 2) := by decide +kernel
theorem dX5_planDates_127 : decode cX5_planDates 127 = .ok (.aload_n 1, 1) := by decide +kernel
theorem dX5_planDates_128 : decode cX5_planDates 128 = .ok (.getfield 101, 3) := by decide +kernel
theorem dX5_planDates_131 : decode cX5_planDates 131 = .ok (.aload 5, 2) := by decide +kernel
theorem dX5_planDates_133 : decode cX5_planDates 133 = .ok (.invokevirtual 86, 3) := by decide +kernel
theorem dX5_planDates_136 : decode cX5_planDates 136 = .ok (.pop, 1) := by decide +kernel
theorem dX5_planDates_137 : decode cX5_planDates 137 = .ok (.aload_n 0, 1) := by decide +kernel
theorem dX5_planDates_138 : decode cX5_planDates 138 = .ok (.aload 5, 2) := by decide +kernel
theorem dX5_planDates_140 : decode cX5_planDates 140 = .ok (.invokevirtual 194, 3) := by decide +kernel
theorem dX5_planDates_143 : decode cX5_planDates 143 = .ok (.iinc 4 1, 3) := by decide +kernel
theorem dX5_planDates_146 : decode cX5_planDates 146 = .ok (.goto (-39), 3) := by decide +kernel
theorem dX5_planDates_149 : decode cX5_planDates 149 = .ok (.return_, 1) := by decide +kernel
theorem dX5_putOnItsDay_0 : decode cX5_putOnItsDay 0 = .ok (.aload_n 0, 1) := by decide +kernel
theorem dX5_putOnItsDay_1 : decode cX5_putOnItsDay 1 = .ok (.aload_n 1, 1) := by decide +kernel
theorem dX5_putOnItsDay_2 : decode cX5_putOnItsDay 2 = .ok (.getfield 108, 3) := by decide +kernel
theorem dX5_putOnItsDay_5 : decode cX5_putOnItsDay 5 = .ok (.getfield 114, 3) := by decide +kernel
theorem dX5_putOnItsDay_8 : decode cX5_putOnItsDay 8 = .ok (.invokevirtual 242, 3) := by decide +kernel
theorem dX5_putOnItsDay_11 : decode cX5_putOnItsDay 11 = .ok (.aload_n 1, 1) := by decide +kernel
theorem dX5_putOnItsDay_12 : decode cX5_putOnItsDay 12 = .ok (.invokevirtual 298, 3) := by decide +kernel
theorem dX5_putOnItsDay_15 : decode cX5_putOnItsDay 15 = .ok (.return_, 1) := by decide +kernel
theorem dX5_takeOffItsDay_0 : decode cX5_takeOffItsDay 0 = .ok (.aload_n 0, 1) := by decide +kernel
theorem dX5_takeOffItsDay_1 : decode cX5_takeOffItsDay 1 = .ok (.aload_n 1, 1) := by decide +kernel
theorem dX5_takeOffItsDay_2 : decode cX5_takeOffItsDay 2 = .ok (.getfield 108, 3) := by decide +kernel
theorem dX5_takeOffItsDay_5 : decode cX5_takeOffItsDay 5 = .ok (.getfield 114, 3) := by decide +kernel
theorem dX5_takeOffItsDay_8 : decode cX5_takeOffItsDay 8 = .ok (.invokevirtual 242, 3) := by decide +kernel
theorem dX5_takeOffItsDay_11 : decode cX5_takeOffItsDay 11 = .ok (.aload_n 1, 1) := by decide +kernel
theorem dX5_takeOffItsDay_12 : decode cX5_takeOffItsDay 12 = .ok (.invokevirtual 301, 3) := by decide +kernel
theorem dX5_takeOffItsDay_15 : decode cX5_takeOffItsDay 15 = .ok (.return_, 1) := by decide +kernel
theorem dX5_noteRefusal_0 : decode cX5_noteRefusal 0 = .ok (.aload_n 0, 1) := by decide +kernel
theorem dX5_noteRefusal_1 : decode cX5_noteRefusal 1 = .ok (.iload_n 1, 1) := by decide +kernel
theorem dX5_noteRefusal_2 : decode cX5_noteRefusal 2 = .ok (.putfield 39, 3) := by decide +kernel
theorem dX5_noteRefusal_5 : decode cX5_noteRefusal 5 = .ok (.aload_n 0, 1) := by decide +kernel
theorem dX5_noteRefusal_6 : decode cX5_noteRefusal 6 = .ok (.iload_n 2, 1) := by decide +kernel
theorem dX5_noteRefusal_7 : decode cX5_noteRefusal 7 = .ok (.putfield 42, 3) := by decide +kernel
theorem dX5_noteRefusal_10 : decode cX5_noteRefusal 10 = .ok (.return_, 1) := by decide +kernel
theorem dX5_requireNobodyBusy_0 : decode cX5_requireNobodyBusy 0 = .ok (.aload_n 0, 1) := by decide +kernel
theorem dX5_requireNobodyBusy_1 : decode cX5_requireNobodyBusy 1 = .ok (.aload_n 2, 1) := by decide +kernel
theorem dX5_requireNobodyBusy_2 : decode cX5_requireNobodyBusy 2 = .ok (.aload_n 3, 1) := by decide +kernel
theorem dX5_requireNobodyBusy_3 : decode cX5_requireNobodyBusy 3 = .ok (.invokevirtual 304, 3) := by decide +kernel
theorem dX5_requireNobodyBusy_6 : decode cX5_requireNobodyBusy 6 = .ok (.aload_n 1, 1) := by decide +kernel
theorem dX5_requireNobodyBusy_7 : decode cX5_requireNobodyBusy 7 = .ok (.invokevirtual 308, 3) := by decide +kernel
theorem dX5_requireNobodyBusy_10 : decode cX5_requireNobodyBusy 10 = .ok (.iand, 1) := by decide +kernel
theorem dX5_requireNobodyBusy_11 : decode cX5_requireNobodyBusy 11 = .ok (.istore 4, 2) := by decide +kernel
theorem dX5_requireNobodyBusy_13 : decode cX5_requireNobodyBusy 13 = .ok (.iload 4, 2) := by decide +kernel
theorem dX5_requireNobodyBusy_15 : decode cX5_requireNobodyBusy 15 = .ok (.ifCond .eq 24, 3) := by decide +kernel
theorem dX5_requireNobodyBusy_18 : decode cX5_requireNobodyBusy 18 = .ok (.aload_n 0, 1) := by decide +kernel
theorem dX5_requireNobodyBusy_19 : decode cX5_requireNobodyBusy 19 = .ok (.iconst 1, 1) := by decide +kernel
theorem dX5_requireNobodyBusy_20 : decode cX5_requireNobodyBusy 20 = .ok (.iload 4, 2) := by decide +kernel
theorem dX5_requireNobodyBusy_22 : decode cX5_requireNobodyBusy 22 = .ok (.invokestatic 311, 3) := by decide +kernel
theorem dX5_requireNobodyBusy_25 : decode cX5_requireNobodyBusy 25 = .ok (.invokevirtual 314, 3) := by decide +kernel
theorem dX5_requireNobodyBusy_28 : decode cX5_requireNobodyBusy 28 = .ok (.new 318, 3) := by decide +kernel
theorem dX5_requireNobodyBusy_31 : decode cX5_requireNobodyBusy 31 = .ok (.dup, 1) := by decide +kernel
theorem dX5_requireNobodyBusy_32 : decode cX5_requireNobodyBusy 32 = .ok (.ldc_w 320, 3) := by decide +kernel
theorem dX5_requireNobodyBusy_35 : decode cX5_requireNobodyBusy 35 = .ok (.invokespecial 322, 3) := by decide +kernel
theorem dX5_requireNobodyBusy_38 : decode cX5_requireNobodyBusy 38 = .ok (.athrow, 1) := by decide +kernel
theorem dX5_requireNobodyBusy_39 : decode cX5_requireNobodyBusy 39 = .ok (.return_, 1) := by decide +kernel
theorem dX5_requireRoom_0 : decode cX5_requireRoom 0 = .ok (.aload_n 0, 1) := by decide +kernel
theorem dX5_requireRoom_1 : decode cX5_requireRoom 1 = .ok (.aload_n 1, 1) := by decide +kernel
theorem dX5_requireRoom_2 : decode cX5_requireRoom 2 = .ok (.invokevirtual 308, 3) := by decide +kernel
theorem dX5_requireRoom_5 : decode cX5_requireRoom 5 = .ok (.aload_n 3, 1) := by decide +kernel
theorem dX5_requireRoom_6 : decode cX5_requireRoom 6 = .ok (.aload 4, 2) := by decide +kernel
theorem dX5_requireRoom_8 : decode cX5_requireRoom 8 = .ok (.invokevirtual 323, 3) := by decide +kernel
theorem dX5_requireRoom_11 : decode cX5_requireRoom 11 = .ok (.astore 5, 2) := by decide +kernel
theorem dX5_requireRoom_13 : decode cX5_requireRoom 13 = .ok (.aload 5, 2) := by decide +kernel
theorem dX5_requireRoom_15 : decode cX5_requireRoom 15 = .ok (.ifnonnull 20, 3) := by decide +kernel
theorem dX5_requireRoom_18 : decode cX5_requireRoom 18 = .ok (.aload_n 0, 1) := by decide +kernel
theorem dX5_requireRoom_19 : decode cX5_requireRoom 19 = .ok (.iconst 2, 1) := by decide +kernel
theorem dX5_requireRoom_20 : decode cX5_requireRoom 20 = .ok (.iload_n 2, 1) := by decide +kernel
theorem dX5_requireRoom_21 : decode cX5_requireRoom 21 = .ok (.invokevirtual 314, 3) := by decide +kernel
theorem dX5_requireRoom_24 : decode cX5_requireRoom 24 = .ok (.new 318, 3) := by decide +kernel
theorem dX5_requireRoom_27 : decode cX5_requireRoom 27 = .ok (.dup, 1) := by decide +kernel
theorem dX5_requireRoom_28 : decode cX5_requireRoom 28 = .ok (.ldc_w 327, 3) := by decide +kernel
theorem dX5_requireRoom_31 : decode cX5_requireRoom 31 = .ok (.invokespecial 322, 3) := by decide +kernel
theorem dX5_requireRoom_34 : decode cX5_requireRoom 34 = .ok (.athrow, 1) := by decide +kernel
theorem dX5_requireRoom_35 : decode cX5_requireRoom 35 = .ok (.aload 5, 2) := by decide +kernel
theorem dX5_requireRoom_37 : decode cX5_requireRoom 37 = .ok (.areturn, 1) := by decide +kernel
theorem dX5_requireSeatsLeft_0 : decode cX5_requireSeatsLeft 0 = .ok (.aload_n 1, 1) := by decide +kernel
theorem dX5_requireSeatsLeft_1 : decode cX5_requireSeatsLeft 1 = .ok (.invokevirtual 206, 3) := by decide +kernel
theorem dX5_requireSeatsLeft_4 : decode cX5_requireSeatsLeft 4 = .ok (.istore_n 2, 1) := by decide +kernel
theorem dX5_requireSeatsLeft_5 : decode cX5_requireSeatsLeft 5 = .ok (.iconst 0, 1) := by decide +kernel
theorem dX5_requireSeatsLeft_6 : decode cX5_requireSeatsLeft 6 = .ok (.istore_n 3, 1) := by decide +kernel
theorem dX5_requireSeatsLeft_7 : decode cX5_requireSeatsLeft 7 = .ok (.iload_n 3, 1) := by decide +kernel
theorem dX5_requireSeatsLeft_8 : decode cX5_requireSeatsLeft 8 = .ok (.aload_n 1, 1) := by decide +kernel
theorem dX5_requireSeatsLeft_9 : decode cX5_requireSeatsLeft 9 = .ok (.getfield 101, 3) := by decide +kernel
theorem dX5_requireSeatsLeft_12 : decode cX5_requireSeatsLeft 12 = .ok (.invokevirtual 65, 3) := by decide +kernel
theorem dX5_requireSeatsLeft_15 : decode cX5_requireSeatsLeft 15 = .ok (.if_icmp .ge 59, 3) := by decide +kernel
theorem dX5_requireSeatsLeft_18 : decode cX5_requireSeatsLeft 18 = .ok (.aload_n 1, 1) := by decide +kernel
theorem dX5_requireSeatsLeft_19 : decode cX5_requireSeatsLeft 19 = .ok (.getfield 101, 3) := by decide +kernel
theorem dX5_requireSeatsLeft_22 : decode cX5_requireSeatsLeft 22 = .ok (.iload_n 3, 1) := by decide +kernel
theorem dX5_requireSeatsLeft_23 : decode cX5_requireSeatsLeft 23 = .ok (.invokevirtual 131, 3) := by decide +kernel
theorem dX5_requireSeatsLeft_26 : decode cX5_requireSeatsLeft 26 = .ok (.checkcast 109, 3) := by decide +kernel
theorem dX5_requireSeatsLeft_29 : decode cX5_requireSeatsLeft 29 = .ok (.astore 4, 2) := by decide +kernel
theorem dX5_requireSeatsLeft_31 : decode cX5_requireSeatsLeft 31 = .ok (.aload 4, 2) := by decide +kernel
theorem dX5_requireSeatsLeft_33 : decode cX5_requireSeatsLeft 33 = .ok (.getfield 175, 3) := by decide +kernel
theorem dX5_requireSeatsLeft_36 : decode cX5_requireSeatsLeft 36 = .ok (.ifCond .ne 32, 3) := by decide +kernel
theorem dX5_requireSeatsLeft_39 : decode cX5_requireSeatsLeft 39 = .ok (.aload 4, 2) := by decide +kernel
theorem dX5_requireSeatsLeft_41 : decode cX5_requireSeatsLeft 41 = .ok (.getfield 190, 3) := by decide +kernel
theorem dX5_requireSeatsLeft_44 : decode cX5_requireSeatsLeft 44 = .ok (.getfield 52, 3) := by decide +kernel
theorem dX5_requireSeatsLeft_47 : decode cX5_requireSeatsLeft 47 = .ok (.iload_n 2, 1) := by decide +kernel
theorem dX5_requireSeatsLeft_48 : decode cX5_requireSeatsLeft 48 = .ok (.if_icmp .gt 20, 3) := by decide +kernel
theorem dX5_requireSeatsLeft_51 : decode cX5_requireSeatsLeft 51 = .ok (.aload_n 0, 1) := by decide +kernel
theorem dX5_requireSeatsLeft_52 : decode cX5_requireSeatsLeft 52 = .ok (.iconst 3, 1) := by decide +kernel
theorem dX5_requireSeatsLeft_53 : decode cX5_requireSeatsLeft 53 = .ok (.iload_n 3, 1) := by decide +kernel
theorem dX5_requireSeatsLeft_54 : decode cX5_requireSeatsLeft 54 = .ok (.invokevirtual 314, 3) := by decide +kernel
theorem dX5_requireSeatsLeft_57 : decode cX5_requireSeatsLeft 57 = .ok (.new 318, 3) := by decide +kernel
theorem dX5_requireSeatsLeft_60 : decode cX5_requireSeatsLeft 60 = .ok (.dup, 1) := by decide +kernel
theorem dX5_requireSeatsLeft_61 : decode cX5_requireSeatsLeft 61 = .ok (.ldc_w 329, 3) := by decide +kernel
theorem dX5_requireSeatsLeft_64 : decode cX5_requireSeatsLeft 64 = .ok (.invokespecial 322, 3) := by decide +kernel
theorem dX5_requireSeatsLeft_67 : decode cX5_requireSeatsLeft 67 = .ok (.athrow, 1) := by decide +kernel
theorem dX5_requireSeatsLeft_68 : decode cX5_requireSeatsLeft 68 = .ok (.iinc 3 1, 3) := by decide +kernel
theorem dX5_requireSeatsLeft_71 : decode cX5_requireSeatsLeft 71 = .ok (.goto (-64), 3) := by decide +kernel
theorem dX5_requireSeatsLeft_74 : decode cX5_requireSeatsLeft 74 = .ok (.return_, 1) := by decide +kernel
theorem dX5_requireNoClashFor_0 : decode cX5_requireNoClashFor 0 = .ok (.iconst 0, 1) := by decide +kernel
theorem dX5_requireNoClashFor_1 : decode cX5_requireNoClashFor 1 = .ok (.istore_n 3, 1) := by decide +kernel
theorem dX5_requireNoClashFor_2 : decode cX5_requireNoClashFor 2 = .ok (.iload_n 3, 1) := by decide +kernel
theorem dX5_requireNoClashFor_3 : decode cX5_requireNoClashFor 3 = .ok (.aload_n 2, 1) := by decide +kernel
theorem dX5_requireNoClashFor_4 : decode cX5_requireNoClashFor 4 = .ok (.getfield 101, 3) := by decide +kernel
theorem dX5_requireNoClashFor_7 : decode cX5_requireNoClashFor 7 = .ok (.invokevirtual 65, 3) := by decide +kernel
theorem dX5_requireNoClashFor_10 : decode cX5_requireNoClashFor 10 = .ok (.if_icmp .ge 71, 3) := by decide +kernel
theorem dX5_requireNoClashFor_13 : decode cX5_requireNoClashFor 13 = .ok (.aload_n 2, 1) := by decide +kernel
theorem dX5_requireNoClashFor_14 : decode cX5_requireNoClashFor 14 = .ok (.getfield 101, 3) := by decide +kernel
theorem dX5_requireNoClashFor_17 : decode cX5_requireNoClashFor 17 = .ok (.iload_n 3, 1) := by decide +kernel
theorem dX5_requireNoClashFor_18 : decode cX5_requireNoClashFor 18 = .ok (.invokevirtual 131, 3) := by decide +kernel
theorem dX5_requireNoClashFor_21 : decode cX5_requireNoClashFor 21 = .ok (.checkcast 109, 3) := by decide +kernel
theorem dX5_requireNoClashFor_24 : decode cX5_requireNoClashFor 24 = .ok (.astore 4, 2) := by decide +kernel
theorem dX5_requireNoClashFor_26 : decode cX5_requireNoClashFor 26 = .ok (.aload 4, 2) := by decide +kernel
theorem dX5_requireNoClashFor_28 : decode cX5_requireNoClashFor 28 = .ok (.getfield 175, 3) := by decide +kernel
theorem dX5_requireNoClashFor_31 : decode cX5_requireNoClashFor 31 = .ok (.ifCond .ne 44, 3) := by decide +kernel
theorem dX5_requireNoClashFor_34 : decode cX5_requireNoClashFor 34 = .ok (.aload_n 0, 1) := by decide +kernel
theorem dX5_requireNoClashFor_35 : decode cX5_requireNoClashFor 35 = .ok (.iload_n 1, 1) := by decide +kernel
theorem dX5_requireNoClashFor_36 : decode cX5_requireNoClashFor 36 = .ok (.invokestatic 78, 3) := by decide +kernel
theorem dX5_requireNoClashFor_39 : decode cX5_requireNoClashFor 39 = .ok (.aload_n 2, 1) := by decide +kernel
theorem dX5_requireNoClashFor_40 : decode cX5_requireNoClashFor 40 = .ok (.aload 4, 2) := by decide +kernel
theorem dX5_requireNoClashFor_42 : decode cX5_requireNoClashFor 42 = .ok (.getfield 108, 3) := by decide +kernel
theorem dX5_requireNoClashFor_45 : decode cX5_requireNoClashFor 45 = .ok (.aload 4, 2) := by decide +kernel
theorem dX5_requireNoClashFor_47 : decode cX5_requireNoClashFor 47 = .ok (.getfield 190, 3) := by decide +kernel
theorem dX5_requireNoClashFor_50 : decode cX5_requireNoClashFor 50 = .ok (.aload 4, 2) := by decide +kernel
theorem dX5_requireNoClashFor_52 : decode cX5_requireNoClashFor 52 = .ok (.invokevirtual 331, 3) := by decide +kernel
theorem dX5_requireNoClashFor_55 : decode cX5_requireNoClashFor 55 = .ok (.ifCond .eq 20, 3) := by decide +kernel
theorem dX5_requireNoClashFor_58 : decode cX5_requireNoClashFor 58 = .ok (.aload_n 0, 1) := by decide +kernel
theorem dX5_requireNoClashFor_59 : decode cX5_requireNoClashFor 59 = .ok (.iconst 4, 1) := by decide +kernel
theorem dX5_requireNoClashFor_60 : decode cX5_requireNoClashFor 60 = .ok (.iload_n 3, 1) := by decide +kernel
theorem dX5_requireNoClashFor_61 : decode cX5_requireNoClashFor 61 = .ok (.invokevirtual 314, 3) := by decide +kernel
theorem dX5_requireNoClashFor_64 : decode cX5_requireNoClashFor 64 = .ok (.new 318, 3) := by decide +kernel
theorem dX5_requireNoClashFor_67 : decode cX5_requireNoClashFor 67 = .ok (.dup, 1) := by decide +kernel
theorem dX5_requireNoClashFor_68 : decode cX5_requireNoClashFor 68 = .ok (.ldc_w 335, 3) := by decide +kernel
theorem dX5_requireNoClashFor_71 : decode cX5_requireNoClashFor 71 = .ok (.invokespecial 322, 3) := by decide +kernel
theorem dX5_requireNoClashFor_74 : decode cX5_requireNoClashFor 74 = .ok (.athrow, 1) := by decide +kernel
theorem dX5_requireNoClashFor_75 : decode cX5_requireNoClashFor 75 = .ok (.iinc 3 1, 3) := by decide +kernel
theorem dX5_requireNoClashFor_78 : decode cX5_requireNoClashFor 78 = .ok (.goto (-76), 3) := by decide +kernel
theorem dX5_requireNoClashFor_81 : decode cX5_requireNoClashFor 81 = .ok (.return_, 1) := by decide +kernel
theorem dX5_busyPeople_0 : decode cX5_busyPeople 0 = .ok (.aload_n 0, 1) := by decide +kernel
theorem dX5_busyPeople_1 : decode cX5_busyPeople 1 = .ok (.aload_n 1, 1) := by decide +kernel
theorem dX5_busyPeople_2 : decode cX5_busyPeople 2 = .ok (.getfield 114, 3) := by decide +kernel
theorem dX5_busyPeople_5 : decode cX5_busyPeople 5 = .ok (.invokevirtual 242, 3) := by decide +kernel
theorem dX5_busyPeople_8 : decode cX5_busyPeople 8 = .ok (.getfield 246, 3) := by decide +kernel
theorem dX5_busyPeople_11 : decode cX5_busyPeople 11 = .ok (.astore_n 3, 1) := by decide +kernel
theorem dX5_busyPeople_12 : decode cX5_busyPeople 12 = .ok (.iconst 0, 1) := by decide +kernel
theorem dX5_busyPeople_13 : decode cX5_busyPeople 13 = .ok (.istore 4, 2) := by decide +kernel
theorem dX5_busyPeople_15 : decode cX5_busyPeople 15 = .ok (.iconst 0, 1) := by decide +kernel
theorem dX5_busyPeople_16 : decode cX5_busyPeople 16 = .ok (.istore 5, 2) := by decide +kernel
theorem dX5_busyPeople_18 : decode cX5_busyPeople 18 = .ok (.iload 5, 2) := by decide +kernel
theorem dX5_busyPeople_20 : decode cX5_busyPeople 20 = .ok (.aload_n 3, 1) := by decide +kernel
theorem dX5_busyPeople_21 : decode cX5_busyPeople 21 = .ok (.invokevirtual 65, 3) := by decide +kernel
theorem dX5_busyPeople_24 : decode cX5_busyPeople 24 = .ok (.if_icmp .ge 51, 3) := by decide +kernel
theorem dX5_busyPeople_27 : decode cX5_busyPeople 27 = .ok (.aload_n 3, 1) := by decide +kernel
theorem dX5_busyPeople_28 : decode cX5_busyPeople 28 = .ok (.iload 5, 2) := by decide +kernel
theorem dX5_busyPeople_30 : decode cX5_busyPeople 30 = .ok (.invokevirtual 131, 3) := by decide +kernel
theorem dX5_busyPeople_33 : decode cX5_busyPeople 33 = .ok (.checkcast 109, 3) := by decide +kernel
theorem dX5_busyPeople_36 : decode cX5_busyPeople 36 = .ok (.astore 6, 2) := by decide +kernel
theorem dX5_busyPeople_38 : decode cX5_busyPeople 38 = .ok (.aload 6, 2) := by decide +kernel
theorem dX5_busyPeople_40 : decode cX5_busyPeople 40 = .ok (.aload_n 2, 1) := by decide +kernel
theorem dX5_busyPeople_41 : decode cX5_busyPeople 41 = .ok (.if_acmp .eq 28, 3) := by decide +kernel
theorem dX5_busyPeople_44 : decode cX5_busyPeople 44 = .ok (.aload 6, 2) := by decide +kernel
theorem dX5_busyPeople_46 : decode cX5_busyPeople 46 = .ok (.getfield 108, 3) := by decide +kernel
theorem dX5_busyPeople_49 : decode cX5_busyPeople 49 = .ok (.aload_n 1, 1) := by decide +kernel
theorem dX5_busyPeople_50 : decode cX5_busyPeople 50 = .ok (.invokevirtual 337, 3) := by decide +kernel
theorem dX5_busyPeople_53 : decode cX5_busyPeople 53 = .ok (.ifCond .ge 16, 3) := by decide +kernel
theorem dX5_busyPeople_56 : decode cX5_busyPeople 56 = .ok (.iload 4, 2) := by decide +kernel
theorem dX5_busyPeople_58 : decode cX5_busyPeople 58 = .ok (.aload 6, 2) := by decide +kernel
theorem dX5_busyPeople_60 : decode cX5_busyPeople 60 = .ok (.getfield 218, 3) := by decide +kernel
theorem dX5_busyPeople_63 : decode cX5_busyPeople 63 = .ok (.invokevirtual 308, 3) := by decide +kernel
theorem dX5_busyPeople_66 : decode cX5_busyPeople 66 = .ok (.ior, 1) := by decide +kernel
theorem dX5_busyPeople_67 : decode cX5_busyPeople 67 = .ok (.istore 4, 2) := by decide +kernel
theorem dX5_busyPeople_69 : decode cX5_busyPeople 69 = .ok (.iinc 5 1, 3) := by decide +kernel
theorem dX5_busyPeople_72 : decode cX5_busyPeople 72 = .ok (.goto (-54), 3) := by decide +kernel
theorem dX5_busyPeople_75 : decode cX5_busyPeople 75 = .ok (.iload 4, 2) := by decide +kernel
theorem dX5_busyPeople_77 : decode cX5_busyPeople 77 = .ok (.ireturn, 1) := by decide +kernel
theorem dX5_bestRoom_0 : decode cX5_bestRoom 0 = .ok (.iload_n 1, 1) := by decide +kernel
theorem dX5_bestRoom_1 : decode cX5_bestRoom 1 = .ok (.invokestatic 262, 3) := by decide +kernel
theorem dX5_bestRoom_4 : decode cX5_bestRoom 4 = .ok (.istore 4, 2) := by decide +kernel
theorem dX5_bestRoom_6 : decode cX5_bestRoom 6 = .ok (.aconst_null, 1) := by decide +kernel
theorem dX5_bestRoom_7 : decode cX5_bestRoom 7 = .ok (.astore 5, 2) := by decide +kernel
theorem dX5_bestRoom_9 : decode cX5_bestRoom 9 = .ok (.iconst 0, 1) := by decide +kernel
theorem dX5_bestRoom_10 : decode cX5_bestRoom 10 = .ok (.istore 6, 2) := by decide +kernel
theorem dX5_bestRoom_12 : decode cX5_bestRoom 12 = .ok (.iload 6, 2) := by decide +kernel
theorem dX5_bestRoom_14 : decode cX5_bestRoom 14 = .ok (.aload_n 0, 1) := by decide +kernel
theorem dX5_bestRoom_15 : decode cX5_bestRoom 15 = .ok (.getfield 12, 3) := by decide +kernel
theorem dX5_bestRoom_18 : decode cX5_bestRoom 18 = .ok (.arraylength, 1) := by decide +kernel
theorem dX5_bestRoom_19 : decode cX5_bestRoom 19 = .ok (.if_icmp .ge 86, 3) := by decide +kernel
theorem dX5_bestRoom_22 : decode cX5_bestRoom 22 = .ok (.aload_n 0, 1) := by decide +kernel
theorem dX5_bestRoom_23 : decode cX5_bestRoom 23 = .ok (.getfield 12, 3) := by decide +kernel
theorem dX5_bestRoom_26 : decode cX5_bestRoom 26 = .ok (.iload 6, 2) := by decide +kernel
theorem dX5_bestRoom_28 : decode cX5_bestRoom 28 = .ok (.aaload, 1) := by decide +kernel
theorem dX5_bestRoom_29 : decode cX5_bestRoom 29 = .ok (.astore 7, 2) := by decide +kernel
theorem dX5_bestRoom_31 : decode cX5_bestRoom 31 = .ok (.aload 5, 2) := by decide +kernel
theorem dX5_bestRoom_33 : decode cX5_bestRoom 33 = .ok (.ifnull 16, 3) := by decide +kernel
theorem dX5_bestRoom_36 : decode cX5_bestRoom 36 = .ok (.aload 7, 2) := by decide +kernel
theorem dX5_bestRoom_38 : decode cX5_bestRoom 38 = .ok (.getfield 52, 3) := by decide +kernel
theorem dX5_bestRoom_41 : decode cX5_bestRoom 41 = .ok (.aload 5, 2) := by decide +kernel
theorem dX5_bestRoom_43 : decode cX5_bestRoom 43 = .ok (.getfield 52, 3) := by decide +kernel
theorem dX5_bestRoom_46 : decode cX5_bestRoom 46 = .ok (.if_icmp .ge 7, 3) := by decide +kernel
theorem dX5_bestRoom_49 : decode cX5_bestRoom 49 = .ok (.iconst 1, 1) := by decide +kernel
theorem dX5_bestRoom_50 : decode cX5_bestRoom 50 = .ok (.goto 4, 3) := by decide +kernel
theorem dX5_bestRoom_53 : decode cX5_bestRoom 53 = .ok (.iconst 0, 1) := by decide +kernel
theorem dX5_bestRoom_54 : decode cX5_bestRoom 54 = .ok (.istore 8, 2) := by decide +kernel
theorem dX5_bestRoom_56 : decode cX5_bestRoom 56 = .ok (.iload 8, 2) := by decide +kernel
theorem dX5_bestRoom_58 : decode cX5_bestRoom 58 = .ok (.ifCond .eq 41, 3) := by decide +kernel
theorem dX5_bestRoom_61 : decode cX5_bestRoom 61 = .ok (.aload 7, 2) := by decide +kernel
theorem dX5_bestRoom_63 : decode cX5_bestRoom 63 = .ok (.getfield 52, 3) := by decide +kernel
theorem dX5_bestRoom_66 : decode cX5_bestRoom 66 = .ok (.iload 4, 2) := by decide +kernel
theorem dX5_bestRoom_68 : decode cX5_bestRoom 68 = .ok (.if_icmp .lt 31, 3) := by decide +kernel
theorem dX5_bestRoom_71 : decode cX5_bestRoom 71 = .ok (.aload_n 0, 1) := by decide +kernel
theorem dX5_bestRoom_72 : decode cX5_bestRoom 72 = .ok (.aload 7, 2) := by decide +kernel
theorem dX5_bestRoom_74 : decode cX5_bestRoom 74 = .ok (.aload_n 2, 1) := by decide +kernel
theorem dX5_bestRoom_75 : decode cX5_bestRoom 75 = .ok (.aload_n 3, 1) := by decide +kernel
theorem dX5_bestRoom_76 : decode cX5_bestRoom 76 = .ok (.invokevirtual 341, 3) := by decide +kernel
theorem dX5_bestRoom_79 : decode cX5_bestRoom 79 = .ok (.ifCond .ne 20, 3) := by decide +kernel
theorem dX5_bestRoom_82 : decode cX5_bestRoom 82 = .ok (.aload_n 0, 1) := by decide +kernel
theorem dX5_bestRoom_83 : decode cX5_bestRoom 83 = .ok (.iload_n 1, 1) := by decide +kernel
theorem dX5_bestRoom_84 : decode cX5_bestRoom 84 = .ok (.aconst_null, 1) := by decide +kernel
theorem dX5_bestRoom_85 : decode cX5_bestRoom 85 = .ok (.aload_n 2, 1) := by decide +kernel
theorem dX5_bestRoom_86 : decode cX5_bestRoom 86 = .ok (.aload 7, 2) := by decide +kernel
theorem dX5_bestRoom_88 : decode cX5_bestRoom 88 = .ok (.aload_n 3, 1) := by decide +kernel
theorem dX5_bestRoom_89 : decode cX5_bestRoom 89 = .ok (.invokevirtual 331, 3) := by decide +kernel
theorem dX5_bestRoom_92 : decode cX5_bestRoom 92 = .ok (.ifCond .ne 7, 3) := by decide +kernel
theorem dX5_bestRoom_95 : decode cX5_bestRoom 95 = .ok (.aload 7, 2) := by decide +kernel
theorem dX5_bestRoom_97 : decode cX5_bestRoom 97 = .ok (.astore 5, 2) := by decide +kernel
theorem dX5_bestRoom_99 : decode cX5_bestRoom 99 = .ok (.iinc 6 1, 3) := by decide +kernel
theorem dX5_bestRoom_102 : decode cX5_bestRoom 102 = .ok (.goto (-90), 3) := by decide +kernel
theorem dX5_bestRoom_105 : decode cX5_bestRoom 105 = .ok (.aload 5, 2) := by decide +kernel
theorem dX5_bestRoom_107 : decode cX5_bestRoom 107 = .ok (.areturn, 1) := by decide +kernel
theorem dX5_isTaken_0 : decode cX5_isTaken 0 = .ok (.aload_n 0, 1) := by decide +kernel
theorem dX5_isTaken_1 : decode cX5_isTaken 1 = .ok (.aload_n 2, 1) := by decide +kernel
theorem dX5_isTaken_2 : decode cX5_isTaken 2 = .ok (.getfield 114, 3) := by decide +kernel
theorem dX5_isTaken_5 : decode cX5_isTaken 5 = .ok (.invokevirtual 242, 3) := by decide +kernel
theorem dX5_isTaken_8 : decode cX5_isTaken 8 = .ok (.getfield 246, 3) := by decide +kernel
theorem dX5_isTaken_11 : decode cX5_isTaken 11 = .ok (.astore 4, 2) := by decide +kernel
theorem dX5_isTaken_13 : decode cX5_isTaken 13 = .ok (.iconst 0, 1) := by decide +kernel
theorem dX5_isTaken_14 : decode cX5_isTaken 14 = .ok (.istore 5, 2) := by decide +kernel
theorem dX5_isTaken_16 : decode cX5_isTaken 16 = .ok (.iload 5, 2) := by decide +kernel
theorem dX5_isTaken_18 : decode cX5_isTaken 18 = .ok (.aload 4, 2) := by decide +kernel
theorem dX5_isTaken_20 : decode cX5_isTaken 20 = .ok (.invokevirtual 65, 3) := by decide +kernel
theorem dX5_isTaken_23 : decode cX5_isTaken 23 = .ok (.if_icmp .ge 50, 3) := by decide +kernel
theorem dX5_isTaken_26 : decode cX5_isTaken 26 = .ok (.aload 4, 2) := by decide +kernel
theorem dX5_isTaken_28 : decode cX5_isTaken 28 = .ok (.iload 5, 2) := by decide +kernel
theorem dX5_isTaken_30 : decode cX5_isTaken 30 = .ok (.invokevirtual 131, 3) := by decide +kernel
theorem dX5_isTaken_33 : decode cX5_isTaken 33 = .ok (.checkcast 109, 3) := by decide +kernel
theorem dX5_isTaken_36 : decode cX5_isTaken 36 = .ok (.astore 6, 2) := by decide +kernel
theorem dX5_isTaken_38 : decode cX5_isTaken 38 = .ok (.aload 6, 2) := by decide +kernel
theorem dX5_isTaken_40 : decode cX5_isTaken 40 = .ok (.aload_n 3, 1) := by decide +kernel
theorem dX5_isTaken_41 : decode cX5_isTaken 41 = .ok (.if_acmp .eq 26, 3) := by decide +kernel
theorem dX5_isTaken_44 : decode cX5_isTaken 44 = .ok (.aload 6, 2) := by decide +kernel
theorem dX5_isTaken_46 : decode cX5_isTaken 46 = .ok (.getfield 190, 3) := by decide +kernel
theorem dX5_isTaken_49 : decode cX5_isTaken 49 = .ok (.aload_n 1, 1) := by decide +kernel
theorem dX5_isTaken_50 : decode cX5_isTaken 50 = .ok (.if_acmp .ne 17, 3) := by decide +kernel
theorem dX5_isTaken_53 : decode cX5_isTaken 53 = .ok (.aload 6, 2) := by decide +kernel
theorem dX5_isTaken_55 : decode cX5_isTaken 55 = .ok (.getfield 108, 3) := by decide +kernel
theorem dX5_isTaken_58 : decode cX5_isTaken 58 = .ok (.aload_n 2, 1) := by decide +kernel
theorem dX5_isTaken_59 : decode cX5_isTaken 59 = .ok (.invokevirtual 337, 3) := by decide +kernel
theorem dX5_isTaken_62 : decode cX5_isTaken 62 = .ok (.ifCond .ge 5, 3) := by decide +kernel
theorem dX5_isTaken_65 : decode cX5_isTaken 65 = .ok (.iconst 1, 1) := by decide +kernel
theorem dX5_isTaken_66 : decode cX5_isTaken 66 = .ok (.ireturn, 1) := by decide +kernel
theorem dX5_isTaken_67 : decode cX5_isTaken 67 = .ok (.iinc 5 1, 3) := by decide +kernel
theorem dX5_isTaken_70 : decode cX5_isTaken 70 = .ok (.goto (-54), 3) := by decide +kernel
theorem dX5_isTaken_73 : decode cX5_isTaken 73 = .ok (.iconst 0, 1) := by decide +kernel
theorem dX5_isTaken_74 : decode cX5_isTaken 74 = .ok (.ireturn, 1) := by decide +kernel
theorem dX5_wouldClash_0 : decode cX5_wouldClash 0 = .ok (.aload_n 0, 1) := by decide +kernel
theorem dX5_wouldClash_1 : decode cX5_wouldClash 1 = .ok (.aload_n 3, 1) := by decide +kernel
theorem dX5_wouldClash_2 : decode cX5_wouldClash 2 = .ok (.getfield 114, 3) := by decide +kernel
theorem dX5_wouldClash_5 : decode cX5_wouldClash 5 = .ok (.invokevirtual 242, 3) := by decide +kernel
theorem dX5_wouldClash_8 : decode cX5_wouldClash 8 = .ok (.getfield 246, 3) := by decide +kernel
theorem dX5_wouldClash_11 : decode cX5_wouldClash 11 = .ok (.astore 6, 2) := by decide +kernel
theorem dX5_wouldClash_13 : decode cX5_wouldClash 13 = .ok (.iconst 0, 1) := by decide +kernel
theorem dX5_wouldClash_14 : decode cX5_wouldClash 14 = .ok (.istore 7, 2) := by decide +kernel
theorem dX5_wouldClash_16 : decode cX5_wouldClash 16 = .ok (.iload 7, 2) := by decide +kernel
theorem dX5_wouldClash_18 : decode cX5_wouldClash 18 = .ok (.aload 6, 2) := by decide +kernel
theorem dX5_wouldClash_20 : decode cX5_wouldClash 20 = .ok (.invokevirtual 65, 3) := by decide +kernel
theorem dX5_wouldClash_23 : decode cX5_wouldClash 23 = .ok (.if_icmp .ge 118, 3) := by decide +kernel
theorem dX5_wouldClash_26 : decode cX5_wouldClash 26 = .ok (.aload 6, 2) := by decide +kernel
theorem dX5_wouldClash_28 : decode cX5_wouldClash 28 = .ok (.iload 7, 2) := by decide +kernel
theorem dX5_wouldClash_30 : decode cX5_wouldClash 30 = .ok (.invokevirtual 131, 3) := by decide +kernel
theorem dX5_wouldClash_33 : decode cX5_wouldClash 33 = .ok (.checkcast 109, 3) := by decide +kernel
theorem dX5_wouldClash_36 : decode cX5_wouldClash 36 = .ok (.astore 8, 2) := by decide +kernel
theorem dX5_wouldClash_38 : decode cX5_wouldClash 38 = .ok (.aload 8, 2) := by decide +kernel
theorem dX5_wouldClash_40 : decode cX5_wouldClash 40 = .ok (.getfield 218, 3) := by decide +kernel
theorem dX5_wouldClash_43 : decode cX5_wouldClash 43 = .ok (.astore 9, 2) := by decide +kernel
theorem dX5_wouldClash_45 : decode cX5_wouldClash 45 = .ok (.aload 9, 2) := by decide +kernel
theorem dX5_wouldClash_47 : decode cX5_wouldClash 47 = .ok (.aload_n 2, 1) := by decide +kernel
theorem dX5_wouldClash_48 : decode cX5_wouldClash 48 = .ok (.if_acmp .eq 13, 3) := by decide +kernel
theorem dX5_wouldClash_51 : decode cX5_wouldClash 51 = .ok (.aload 9, 2) := by decide +kernel
theorem dX5_wouldClash_53 : decode cX5_wouldClash 53 = .ok (.invokevirtual 308, 3) := by decide +kernel
theorem dX5_wouldClash_56 : decode cX5_wouldClash 56 = .ok (.iload_n 1, 1) := by decide +kernel
theorem dX5_wouldClash_57 : decode cX5_wouldClash 57 = .ok (.iand, 1) := by decide +kernel
theorem dX5_wouldClash_58 : decode cX5_wouldClash 58 = .ok (.ifCond .eq 7, 3) := by decide +kernel
theorem dX5_wouldClash_61 : decode cX5_wouldClash 61 = .ok (.iconst 1, 1) := by decide +kernel
theorem dX5_wouldClash_62 : decode cX5_wouldClash 62 = .ok (.goto 4, 3) := by decide +kernel
theorem dX5_wouldClash_65 : decode cX5_wouldClash 65 = .ok (.iconst 0, 1) := by decide +kernel
theorem dX5_wouldClash_66 : decode cX5_wouldClash 66 = .ok (.istore 10, 2) := by decide +kernel
theorem dX5_wouldClash_68 : decode cX5_wouldClash 68 = .ok (.aload 8, 2) := by decide +kernel
theorem dX5_wouldClash_70 : decode cX5_wouldClash 70 = .ok (.getfield 108, 3) := by decide +kernel
theorem dX5_wouldClash_73 : decode cX5_wouldClash 73 = .ok (.aload_n 3, 1) := by decide +kernel
theorem dX5_wouldClash_74 : decode cX5_wouldClash 74 = .ok (.invokevirtual 337, 3) := by decide +kernel
theorem dX5_wouldClash_77 : decode cX5_wouldClash 77 = .ok (.istore 11, 2) := by decide +kernel
theorem dX5_wouldClash_79 : decode cX5_wouldClash 79 = .ok (.iload 11, 2) := by decide +kernel
theorem dX5_wouldClash_81 : decode cX5_wouldClash 81 = .ok (.ifCond .lt 28, 3) := by decide +kernel
theorem dX5_wouldClash_84 : decode cX5_wouldClash 84 = .ok (.aload 8, 2) := by decide +kernel
theorem dX5_wouldClash_86 : decode cX5_wouldClash 86 = .ok (.getfield 190, 3) := by decide +kernel
theorem dX5_wouldClash_89 : decode cX5_wouldClash 89 = .ok (.getfield 55, 3) := by decide +kernel
theorem dX5_wouldClash_92 : decode cX5_wouldClash 92 = .ok (.aload 4, 2) := by decide +kernel
theorem dX5_wouldClash_94 : decode cX5_wouldClash 94 = .ok (.getfield 55, 3) := by decide +kernel
theorem dX5_wouldClash_97 : decode cX5_wouldClash 97 = .ok (.if_icmp .eq 16, 3) := by decide +kernel
theorem dX5_wouldClash_100 : decode cX5_wouldClash 100 = .ok (.iload 11, 2) := by decide +kernel
theorem dX5_wouldClash_102 : decode cX5_wouldClash 102 = .ok (.aload_n 0, 1) := by decide +kernel
theorem dX5_wouldClash_103 : decode cX5_wouldClash 103 = .ok (.getfield 32, 3) := by decide +kernel
theorem dX5_wouldClash_106 : decode cX5_wouldClash 106 = .ok (.if_icmp .ge 7, 3) := by decide +kernel
theorem dX5_wouldClash_109 : decode cX5_wouldClash 109 = .ok (.iconst 1, 1) := by decide +kernel
theorem dX5_wouldClash_110 : decode cX5_wouldClash 110 = .ok (.goto 4, 3) := by decide +kernel
theorem dX5_wouldClash_113 : decode cX5_wouldClash 113 = .ok (.iconst 0, 1) := by decide +kernel
theorem dX5_wouldClash_114 : decode cX5_wouldClash 114 = .ok (.istore 12, 2) := by decide +kernel
theorem dX5_wouldClash_116 : decode cX5_wouldClash 116 = .ok (.aload 8, 2) := by decide +kernel
theorem dX5_wouldClash_118 : decode cX5_wouldClash 118 = .ok (.aload 5, 2) := by decide +kernel
theorem dX5_wouldClash_120 : decode cX5_wouldClash 120 = .ok (.if_acmp .eq 15, 3) := by decide +kernel
theorem dX5_wouldClash_123 : decode cX5_wouldClash 123 = .ok (.iload 10, 2) := by decide +kernel
theorem dX5_wouldClash_125 : decode cX5_wouldClash 125 = .ok (.ifCond .eq 10, 3) := by decide +kernel
theorem dX5_wouldClash_128 : decode cX5_wouldClash 128 = .ok (.iload 12, 2) := by decide +kernel
theorem dX5_wouldClash_130 : decode cX5_wouldClash 130 = .ok (.ifCond .eq 5, 3) := by decide +kernel
theorem dX5_wouldClash_133 : decode cX5_wouldClash 133 = .ok (.iconst 1, 1) := by decide +kernel
theorem dX5_wouldClash_134 : decode cX5_wouldClash 134 = .ok (.ireturn, 1) := by decide +kernel
theorem dX5_wouldClash_135 : decode cX5_wouldClash 135 = .ok (.iinc 7 1, 3) := by decide +kernel
theorem dX5_wouldClash_138 : decode cX5_wouldClash 138 = .ok (.goto (-122), 3) := by decide +kernel
theorem dX5_wouldClash_141 : decode cX5_wouldClash 141 = .ok (.iconst 0, 1) := by decide +kernel
theorem dX5_wouldClash_142 : decode cX5_wouldClash 142 = .ok (.ireturn, 1) := by decide +kernel
theorem dX5_dateOfPersonAt_0 : decode cX5_dateOfPersonAt 0 = .ok (.aload_n 0, 1) := by decide +kernel
theorem dX5_dateOfPersonAt_1 : decode cX5_dateOfPersonAt 1 = .ok (.iload_n 2, 1) := by decide +kernel
theorem dX5_dateOfPersonAt_2 : decode cX5_dateOfPersonAt 2 = .ok (.invokevirtual 242, 3) := by decide +kernel
theorem dX5_dateOfPersonAt_5 : decode cX5_dateOfPersonAt 5 = .ok (.getfield 246, 3) := by decide +kernel
theorem dX5_dateOfPersonAt_8 : decode cX5_dateOfPersonAt 8 = .ok (.astore 4, 2) := by decide +kernel
theorem dX5_dateOfPersonAt_10 : decode cX5_dateOfPersonAt 10 = .ok (.iconst 0, 1) := by decide +kernel
theorem dX5_dateOfPersonAt_11 : decode cX5_dateOfPersonAt 11 = .ok (.istore 5, 2) := by decide +kernel
theorem dX5_dateOfPersonAt_13 : decode cX5_dateOfPersonAt 13 = .ok (.iload 5, 2) := by decide +kernel
theorem dX5_dateOfPersonAt_15 : decode cX5_dateOfPersonAt 15 = .ok (.aload 4, 2) := by decide +kernel
theorem dX5_dateOfPersonAt_17 : decode cX5_dateOfPersonAt 17 = .ok (.invokevirtual 65, 3) := by decide +kernel
theorem dX5_dateOfPersonAt_20 : decode cX5_dateOfPersonAt 20 = .ok (.if_icmp .ge 48, 3) := by decide +kernel
theorem dX5_dateOfPersonAt_23 : decode cX5_dateOfPersonAt 23 = .ok (.aload 4, 2) := by decide +kernel
theorem dX5_dateOfPersonAt_25 : decode cX5_dateOfPersonAt 25 = .ok (.iload 5, 2) := by decide +kernel
theorem dX5_dateOfPersonAt_27 : decode cX5_dateOfPersonAt 27 = .ok (.invokevirtual 131, 3) := by decide +kernel
theorem dX5_dateOfPersonAt_30 : decode cX5_dateOfPersonAt 30 = .ok (.checkcast 109, 3) := by decide +kernel
theorem dX5_dateOfPersonAt_33 : decode cX5_dateOfPersonAt 33 = .ok (.astore 6, 2) := by decide +kernel
theorem dX5_dateOfPersonAt_35 : decode cX5_dateOfPersonAt 35 = .ok (.aload 6, 2) := by decide +kernel
theorem dX5_dateOfPersonAt_37 : decode cX5_dateOfPersonAt 37 = .ok (.getfield 108, 3) := by decide +kernel
theorem dX5_dateOfPersonAt_40 : decode cX5_dateOfPersonAt 40 = .ok (.iload_n 3, 1) := by decide +kernel
theorem dX5_dateOfPersonAt_41 : decode cX5_dateOfPersonAt 41 = .ok (.invokevirtual 345, 3) := by decide +kernel
theorem dX5_dateOfPersonAt_44 : decode cX5_dateOfPersonAt 44 = .ok (.ifCond .eq 18, 3) := by decide +kernel
theorem dX5_dateOfPersonAt_47 : decode cX5_dateOfPersonAt 47 = .ok (.aload 6, 2) := by decide +kernel
theorem dX5_dateOfPersonAt_49 : decode cX5_dateOfPersonAt 49 = .ok (.getfield 218, 3) := by decide +kernel
theorem dX5_dateOfPersonAt_52 : decode cX5_dateOfPersonAt 52 = .ok (.iload_n 1, 1) := by decide +kernel
theorem dX5_dateOfPersonAt_53 : decode cX5_dateOfPersonAt 53 = .ok (.invokevirtual 247, 3) := by decide +kernel
theorem dX5_dateOfPersonAt_56 : decode cX5_dateOfPersonAt 56 = .ok (.ifCond .eq 6, 3) := by decide +kernel
theorem dX5_dateOfPersonAt_59 : decode cX5_dateOfPersonAt 59 = .ok (.aload 6, 2) := by decide +kernel
theorem dX5_dateOfPersonAt_61 : decode cX5_dateOfPersonAt 61 = .ok (.areturn, 1) := by decide +kernel
theorem dX5_dateOfPersonAt_62 : decode cX5_dateOfPersonAt 62 = .ok (.iinc 5 1, 3) := by decide +kernel
theorem dX5_dateOfPersonAt_65 : decode cX5_dateOfPersonAt 65 = .ok (.goto (-52), 3) := by decide +kernel
theorem dX5_dateOfPersonAt_68 : decode cX5_dateOfPersonAt 68 = .ok (.aconst_null, 1) := by decide +kernel
theorem dX5_dateOfPersonAt_69 : decode cX5_dateOfPersonAt 69 = .ok (.areturn, 1) := by decide +kernel
theorem dX5_countFreeBySweep_0 : decode cX5_countFreeBySweep 0 = .ok (.aload_n 0, 1) := by decide +kernel
theorem dX5_countFreeBySweep_1 : decode cX5_countFreeBySweep 1 = .ok (.iload_n 2, 1) := by decide +kernel
theorem dX5_countFreeBySweep_2 : decode cX5_countFreeBySweep 2 = .ok (.invokevirtual 242, 3) := by decide +kernel
theorem dX5_countFreeBySweep_5 : decode cX5_countFreeBySweep 5 = .ok (.getfield 246, 3) := by decide +kernel
theorem dX5_countFreeBySweep_8 : decode cX5_countFreeBySweep 8 = .ok (.astore_n 3, 1) := by decide +kernel
theorem dX5_countFreeBySweep_9 : decode cX5_countFreeBySweep 9 = .ok (.iconst 0, 1) := by decide +kernel
theorem dX5_countFreeBySweep_10 : decode cX5_countFreeBySweep 10 = .ok (.istore 4, 2) := by decide +kernel
theorem dX5_countFreeBySweep_12 : decode cX5_countFreeBySweep 12 = .ok (.iconst 0, 1) := by decide +kernel
theorem dX5_countFreeBySweep_13 : decode cX5_countFreeBySweep 13 = .ok (.istore 5, 2) := by decide +kernel
theorem dX5_countFreeBySweep_15 : decode cX5_countFreeBySweep 15 = .ok (.iconst 0, 1) := by decide +kernel
theorem dX5_countFreeBySweep_16 : decode cX5_countFreeBySweep 16 = .ok (.istore 6, 2) := by decide +kernel
theorem dX5_countFreeBySweep_18 : decode cX5_countFreeBySweep 18 = .ok (.iload 6, 2) := by decide +kernel
theorem dX5_countFreeBySweep_20 : decode cX5_countFreeBySweep 20 = .ok (.aload_n 3, 1) := by decide +kernel
theorem dX5_countFreeBySweep_21 : decode cX5_countFreeBySweep 21 = .ok (.invokevirtual 65, 3) := by decide +kernel
theorem dX5_countFreeBySweep_24 : decode cX5_countFreeBySweep 24 = .ok (.if_icmp .ge 67, 3) := by decide +kernel
theorem dX5_countFreeBySweep_27 : decode cX5_countFreeBySweep 27 = .ok (.aload_n 3, 1) := by decide +kernel
theorem dX5_countFreeBySweep_28 : decode cX5_countFreeBySweep 28 = .ok (.iload 6, 2) := by decide +kernel
theorem dX5_countFreeBySweep_30 : decode cX5_countFreeBySweep 30 = .ok (.invokevirtual 131, 3) := by decide +kernel
theorem dX5_countFreeBySweep_33 : decode cX5_countFreeBySweep 33 = .ok (.checkcast 109, 3) := by decide +kernel
theorem dX5_countFreeBySweep_36 : decode cX5_countFreeBySweep 36 = .ok (.astore 7, 2) := by decide +kernel
theorem dX5_countFreeBySweep_38 : decode cX5_countFreeBySweep 38 = .ok (.aload 7, 2) := by decide +kernel
theorem dX5_countFreeBySweep_40 : decode cX5_countFreeBySweep 40 = .ok (.getfield 218, 3) := by decide +kernel
theorem dX5_countFreeBySweep_43 : decode cX5_countFreeBySweep 43 = .ok (.iload_n 1, 1) := by decide +kernel
theorem dX5_countFreeBySweep_44 : decode cX5_countFreeBySweep 44 = .ok (.invokevirtual 247, 3) := by decide +kernel
theorem dX5_countFreeBySweep_47 : decode cX5_countFreeBySweep 47 = .ok (.ifCond .eq 38, 3) := by decide +kernel
theorem dX5_countFreeBySweep_50 : decode cX5_countFreeBySweep 50 = .ok (.iload 4, 2) := by decide +kernel
theorem dX5_countFreeBySweep_52 : decode cX5_countFreeBySweep 52 = .ok (.aload 7, 2) := by decide +kernel
theorem dX5_countFreeBySweep_54 : decode cX5_countFreeBySweep 54 = .ok (.getfield 108, 3) := by decide +kernel
theorem dX5_countFreeBySweep_57 : decode cX5_countFreeBySweep 57 = .ok (.getfield 122, 3) := by decide +kernel
theorem dX5_countFreeBySweep_60 : decode cX5_countFreeBySweep 60 = .ok (.iload 5, 2) := by decide +kernel
theorem dX5_countFreeBySweep_62 : decode cX5_countFreeBySweep 62 = .ok (.isub, 1) := by decide +kernel
theorem dX5_countFreeBySweep_63 : decode cX5_countFreeBySweep 63 = .ok (.iconst 0, 1) := by decide +kernel
theorem dX5_countFreeBySweep_64 : decode cX5_countFreeBySweep 64 = .ok (.invokestatic 229, 3) := by decide +kernel
theorem dX5_countFreeBySweep_67 : decode cX5_countFreeBySweep 67 = .ok (.iadd, 1) := by decide +kernel
theorem dX5_countFreeBySweep_68 : decode cX5_countFreeBySweep 68 = .ok (.istore 4, 2) := by decide +kernel
theorem dX5_countFreeBySweep_70 : decode cX5_countFreeBySweep 70 = .ok (.aload 7, 2) := by decide +kernel
theorem dX5_countFreeBySweep_72 : decode cX5_countFreeBySweep 72 = .ok (.getfield 108, 3) := by decide +kernel
theorem dX5_countFreeBySweep_75 : decode cX5_countFreeBySweep 75 = .ok (.invokevirtual 348, 3) := by decide +kernel
theorem dX5_countFreeBySweep_78 : decode cX5_countFreeBySweep 78 = .ok (.iload 5, 2) := by decide +kernel
theorem dX5_countFreeBySweep_80 : decode cX5_countFreeBySweep 80 = .ok (.invokestatic 229, 3) := by decide +kernel
theorem dX5_countFreeBySweep_83 : decode cX5_countFreeBySweep 83 = .ok (.istore 5, 2) := by decide +kernel
theorem dX5_countFreeBySweep_85 : decode cX5_countFreeBySweep 85 = .ok (.iinc 6 1, 3) := by decide +kernel
theorem dX5_countFreeBySweep_88 : decode cX5_countFreeBySweep 88 = .ok (.goto (-70), 3) := by decide +kernel
theorem dX5_countFreeBySweep_91 : decode cX5_countFreeBySweep 91 = .ok (.iload 4, 2) := by decide +kernel
theorem dX5_countFreeBySweep_93 : decode cX5_countFreeBySweep 93 = .ok (.bipush 16, 2) := by decide +kernel
theorem dX5_countFreeBySweep_95 : decode cX5_countFreeBySweep 95 = .ok (.iadd, 1) := by decide +kernel
theorem dX5_countFreeBySweep_96 : decode cX5_countFreeBySweep 96 = .ok (.iload 5, 2) := by decide +kernel
theorem dX5_countFreeBySweep_98 : decode cX5_countFreeBySweep 98 = .ok (.isub, 1) := by decide +kernel
theorem dX5_countFreeBySweep_99 : decode cX5_countFreeBySweep 99 = .ok (.ireturn, 1) := by decide +kernel
theorem dX5_countFreeByTrying_0 : decode cX5_countFreeByTrying 0 = .ok (.iconst 0, 1) := by decide +kernel
theorem dX5_countFreeByTrying_1 : decode cX5_countFreeByTrying 1 = .ok (.istore_n 3, 1) := by decide +kernel
theorem dX5_countFreeByTrying_2 : decode cX5_countFreeByTrying 2 = .ok (.iconst 0, 1) := by decide +kernel
theorem dX5_countFreeByTrying_3 : decode cX5_countFreeByTrying 3 = .ok (.istore 4, 2) := by decide +kernel
theorem dX5_countFreeByTrying_5 : decode cX5_countFreeByTrying 5 = .ok (.iload 4, 2) := by decide +kernel
theorem dX5_countFreeByTrying_7 : decode cX5_countFreeByTrying 7 = .ok (.bipush 16, 2) := by decide +kernel
theorem dX5_countFreeByTrying_9 : decode cX5_countFreeByTrying 9 = .ok (.if_icmp .ge 23, 3) := by decide +kernel
theorem dX5_countFreeByTrying_12 : decode cX5_countFreeByTrying 12 = .ok (.aload_n 0, 1) := by decide +kernel
theorem dX5_countFreeByTrying_13 : decode cX5_countFreeByTrying 13 = .ok (.iload_n 1, 1) := by decide +kernel
theorem dX5_countFreeByTrying_14 : decode cX5_countFreeByTrying 14 = .ok (.iload_n 2, 1) := by decide +kernel
theorem dX5_countFreeByTrying_15 : decode cX5_countFreeByTrying 15 = .ok (.iload 4, 2) := by decide +kernel
theorem dX5_countFreeByTrying_17 : decode cX5_countFreeByTrying 17 = .ok (.invokevirtual 212, 3) := by decide +kernel
theorem dX5_countFreeByTrying_20 : decode cX5_countFreeByTrying 20 = .ok (.ifnonnull 6, 3) := by decide +kernel
theorem dX5_countFreeByTrying_23 : decode cX5_countFreeByTrying 23 = .ok (.iinc 3 1, 3) := by decide +kernel
theorem dX5_countFreeByTrying_26 : decode cX5_countFreeByTrying 26 = .ok (.iinc 4 1, 3) := by decide +kernel
theorem dX5_countFreeByTrying_29 : decode cX5_countFreeByTrying 29 = .ok (.goto (-24), 3) := by decide +kernel
theorem dX5_countFreeByTrying_32 : decode cX5_countFreeByTrying 32 = .ok (.iload_n 3, 1) := by decide +kernel
theorem dX5_countFreeByTrying_33 : decode cX5_countFreeByTrying 33 = .ok (.ireturn, 1) := by decide +kernel
theorem dX5_commonRoom_0 : decode cX5_commonRoom 0 = .ok (.aload_n 0, 1) := by decide +kernel
theorem dX5_commonRoom_1 : decode cX5_commonRoom 1 = .ok (.aload_n 2, 1) := by decide +kernel
theorem dX5_commonRoom_2 : decode cX5_commonRoom 2 = .ok (.aconst_null, 1) := by decide +kernel
theorem dX5_commonRoom_3 : decode cX5_commonRoom 3 = .ok (.invokevirtual 304, 3) := by decide +kernel
theorem dX5_commonRoom_6 : decode cX5_commonRoom 6 = .ok (.iload_n 1, 1) := by decide +kernel
theorem dX5_commonRoom_7 : decode cX5_commonRoom 7 = .ok (.iand, 1) := by decide +kernel
theorem dX5_commonRoom_8 : decode cX5_commonRoom 8 = .ok (.ifCond .eq 7, 3) := by decide +kernel
theorem dX5_commonRoom_11 : decode cX5_commonRoom 11 = .ok (.aconst_null, 1) := by decide +kernel
theorem dX5_commonRoom_12 : decode cX5_commonRoom 12 = .ok (.goto 10, 3) := by decide +kernel
theorem dX5_commonRoom_15 : decode cX5_commonRoom 15 = .ok (.aload_n 0, 1) := by decide +kernel
theorem dX5_commonRoom_16 : decode cX5_commonRoom 16 = .ok (.iload_n 1, 1) := by decide +kernel
theorem dX5_commonRoom_17 : decode cX5_commonRoom 17 = .ok (.aload_n 2, 1) := by decide +kernel
theorem dX5_commonRoom_18 : decode cX5_commonRoom 18 = .ok (.aconst_null, 1) := by decide +kernel
theorem dX5_commonRoom_19 : decode cX5_commonRoom 19 = .ok (.invokevirtual 323, 3) := by decide +kernel
theorem dX5_commonRoom_22 : decode cX5_commonRoom 22 = .ok (.areturn, 1) := by decide +kernel
theorem dX5_hasDoubleUse_0 : decode cX5_hasDoubleUse 0 = .ok (.aload_n 0, 1) := by decide +kernel
theorem dX5_hasDoubleUse_1 : decode cX5_hasDoubleUse 1 = .ok (.iload_n 1, 1) := by decide +kernel
theorem dX5_hasDoubleUse_2 : decode cX5_hasDoubleUse 2 = .ok (.invokevirtual 242, 3) := by decide +kernel
theorem dX5_hasDoubleUse_5 : decode cX5_hasDoubleUse 5 = .ok (.getfield 246, 3) := by decide +kernel
theorem dX5_hasDoubleUse_8 : decode cX5_hasDoubleUse 8 = .ok (.astore_n 2, 1) := by decide +kernel
theorem dX5_hasDoubleUse_9 : decode cX5_hasDoubleUse 9 = .ok (.iconst 0, 1) := by decide +kernel
theorem dX5_hasDoubleUse_10 : decode cX5_hasDoubleUse 10 = .ok (.istore_n 3, 1) := by decide +kernel
theorem dX5_hasDoubleUse_11 : decode cX5_hasDoubleUse 11 = .ok (.iload_n 3, 1) := by decide +kernel
theorem dX5_hasDoubleUse_12 : decode cX5_hasDoubleUse 12 = .ok (.aload_n 2, 1) := by decide +kernel
theorem dX5_hasDoubleUse_13 : decode cX5_hasDoubleUse 13 = .ok (.invokevirtual 65, 3) := by decide +kernel
theorem dX5_hasDoubleUse_16 : decode cX5_hasDoubleUse 16 = .ok (.if_icmp .ge 67, 3) := by decide +kernel
theorem dX5_hasDoubleUse_19 : decode cX5_hasDoubleUse 19 = .ok (.aload_n 2, 1) := by decide +kernel
theorem dX5_hasDoubleUse_20 : decode cX5_hasDoubleUse 20 = .ok (.iload_n 3, 1) := by decide +kernel
theorem dX5_hasDoubleUse_21 : decode cX5_hasDoubleUse 21 = .ok (.invokevirtual 131, 3) := by decide +kernel
theorem dX5_hasDoubleUse_24 : decode cX5_hasDoubleUse 24 = .ok (.checkcast 109, 3) := by decide +kernel
theorem dX5_hasDoubleUse_27 : decode cX5_hasDoubleUse 27 = .ok (.astore 4, 2) := by decide +kernel
theorem dX5_hasDoubleUse_29 : decode cX5_hasDoubleUse 29 = .ok (.aload_n 0, 1) := by decide +kernel
theorem dX5_hasDoubleUse_30 : decode cX5_hasDoubleUse 30 = .ok (.aload 4, 2) := by decide +kernel
theorem dX5_hasDoubleUse_32 : decode cX5_hasDoubleUse 32 = .ok (.getfield 108, 3) := by decide +kernel
theorem dX5_hasDoubleUse_35 : decode cX5_hasDoubleUse 35 = .ok (.aload 4, 2) := by decide +kernel
theorem dX5_hasDoubleUse_37 : decode cX5_hasDoubleUse 37 = .ok (.invokevirtual 304, 3) := by decide +kernel
theorem dX5_hasDoubleUse_40 : decode cX5_hasDoubleUse 40 = .ok (.aload 4, 2) := by decide +kernel
theorem dX5_hasDoubleUse_42 : decode cX5_hasDoubleUse 42 = .ok (.getfield 218, 3) := by decide +kernel
theorem dX5_hasDoubleUse_45 : decode cX5_hasDoubleUse 45 = .ok (.invokevirtual 308, 3) := by decide +kernel
theorem dX5_hasDoubleUse_48 : decode cX5_hasDoubleUse 48 = .ok (.iand, 1) := by decide +kernel
theorem dX5_hasDoubleUse_49 : decode cX5_hasDoubleUse 49 = .ok (.istore 5, 2) := by decide +kernel
theorem dX5_hasDoubleUse_51 : decode cX5_hasDoubleUse 51 = .ok (.iload 5, 2) := by decide +kernel
theorem dX5_hasDoubleUse_53 : decode cX5_hasDoubleUse 53 = .ok (.ifCond .ne 22, 3) := by decide +kernel
theorem dX5_hasDoubleUse_56 : decode cX5_hasDoubleUse 56 = .ok (.aload_n 0, 1) := by decide +kernel
theorem dX5_hasDoubleUse_57 : decode cX5_hasDoubleUse 57 = .ok (.aload 4, 2) := by decide +kernel
theorem dX5_hasDoubleUse_59 : decode cX5_hasDoubleUse 59 = .ok (.getfield 190, 3) := by decide +kernel
theorem dX5_hasDoubleUse_62 : decode cX5_hasDoubleUse 62 = .ok (.aload 4, 2) := by decide +kernel
theorem dX5_hasDoubleUse_64 : decode cX5_hasDoubleUse 64 = .ok (.getfield 108, 3) := by decide +kernel
theorem dX5_hasDoubleUse_67 : decode cX5_hasDoubleUse 67 = .ok (.aload 4, 2) := by decide +kernel
theorem dX5_hasDoubleUse_69 : decode cX5_hasDoubleUse 69 = .ok (.invokevirtual 341, 3) := by decide +kernel
theorem dX5_hasDoubleUse_72 : decode cX5_hasDoubleUse 72 = .ok (.ifCond .eq 5, 3) := by decide +kernel
theorem dX5_hasDoubleUse_75 : decode cX5_hasDoubleUse 75 = .ok (.iconst 1, 1) := by decide +kernel
theorem dX5_hasDoubleUse_76 : decode cX5_hasDoubleUse 76 = .ok (.ireturn, 1) := by decide +kernel
theorem dX5_hasDoubleUse_77 : decode cX5_hasDoubleUse 77 = .ok (.iinc 3 1, 3) := by decide +kernel
theorem dX5_hasDoubleUse_80 : decode cX5_hasDoubleUse 80 = .ok (.goto (-69), 3) := by decide +kernel
theorem dX5_hasDoubleUse_83 : decode cX5_hasDoubleUse 83 = .ok (.iconst 0, 1) := by decide +kernel
theorem dX5_hasDoubleUse_84 : decode cX5_hasDoubleUse 84 = .ok (.ireturn, 1) := by decide +kernel
theorem dX5_countsAgree_0 : decode cX5_countsAgree 0 = .ok (.iconst 0, 1) := by decide +kernel
theorem dX5_countsAgree_1 : decode cX5_countsAgree 1 = .ok (.istore_n 2, 1) := by decide +kernel
theorem dX5_countsAgree_2 : decode cX5_countsAgree 2 = .ok (.iload_n 2, 1) := by decide +kernel
theorem dX5_countsAgree_3 : decode cX5_countsAgree 3 = .ok (.bipush 6, 2) := by decide +kernel
theorem dX5_countsAgree_5 : decode cX5_countsAgree 5 = .ok (.if_icmp .ge 26, 3) := by decide +kernel
theorem dX5_countsAgree_8 : decode cX5_countsAgree 8 = .ok (.aload_n 0, 1) := by decide +kernel
theorem dX5_countsAgree_9 : decode cX5_countsAgree 9 = .ok (.iload_n 2, 1) := by decide +kernel
theorem dX5_countsAgree_10 : decode cX5_countsAgree 10 = .ok (.iload_n 1, 1) := by decide +kernel
theorem dX5_countsAgree_11 : decode cX5_countsAgree 11 = .ok (.invokevirtual 222, 3) := by decide +kernel
theorem dX5_countsAgree_14 : decode cX5_countsAgree 14 = .ok (.aload_n 0, 1) := by decide +kernel
theorem dX5_countsAgree_15 : decode cX5_countsAgree 15 = .ok (.iload_n 2, 1) := by decide +kernel
theorem dX5_countsAgree_16 : decode cX5_countsAgree 16 = .ok (.iload_n 1, 1) := by decide +kernel
theorem dX5_countsAgree_17 : decode cX5_countsAgree 17 = .ok (.invokevirtual 226, 3) := by decide +kernel
theorem dX5_countsAgree_20 : decode cX5_countsAgree 20 = .ok (.if_icmp .eq 5, 3) := by decide +kernel
theorem dX5_countsAgree_23 : decode cX5_countsAgree 23 = .ok (.iconst 0, 1) := by decide +kernel
theorem dX5_countsAgree_24 : decode cX5_countsAgree 24 = .ok (.ireturn, 1) := by decide +kernel
theorem dX5_countsAgree_25 : decode cX5_countsAgree 25 = .ok (.iinc 2 1, 3) := by decide +kernel
theorem dX5_countsAgree_28 : decode cX5_countsAgree 28 = .ok (.goto (-26), 3) := by decide +kernel
theorem dX5_countsAgree_31 : decode cX5_countsAgree 31 = .ok (.iconst 1, 1) := by decide +kernel
theorem dX5_countsAgree_32 : decode cX5_countsAgree 32 = .ok (.ireturn, 1) := by decide +kernel
theorem dX6_init_0 : decode cX6_init 0 = .ok (.aload_n 0, 1) := by decide +kernel
theorem dX6_init_1 : decode cX6_init 1 = .ok (.invokespecial 1, 3) := by decide +kernel
theorem dX6_init_4 : decode cX6_init 4 = .ok (.aload_n 0, 1) := by decide +kernel
theorem dX6_init_5 : decode cX6_init 5 = .ok (.sipush 380, 3) := by decide +kernel
theorem dX6_init_8 : decode cX6_init 8 = .ok (.newarray .int, 2) := by decide +kernel
theorem dX6_init_10 : decode cX6_init 10 = .ok (.putfield 7, 3) := by decide +kernel
theorem dX6_init_13 : decode cX6_init 13 = .ok (.aload_n 0, 1) := by decide +kernel
theorem dX6_init_14 : decode cX6_init 14 = .ok (.iconst (-1), 1) := by decide +kernel
theorem dX6_init_15 : decode cX6_init 15 = .ok (.putfield 13, 3) := by decide +kernel
theorem dX6_init_18 : decode cX6_init 18 = .ok (.aload_n 0, 1) := by decide +kernel
theorem dX6_init_19 : decode cX6_init 19 = .ok (.iconst (-1), 1) := by decide +kernel
theorem dX6_init_20 : decode cX6_init 20 = .ok (.putfield 17, 3) := by decide +kernel
theorem dX6_init_23 : decode cX6_init 23 = .ok (.aload_n 0, 1) := by decide +kernel
theorem dX6_init_24 : decode cX6_init 24 = .ok (.bipush 6, 2) := by decide +kernel
theorem dX6_init_26 : decode cX6_init 26 = .ok (.newarray .int, 2) := by decide +kernel
theorem dX6_init_28 : decode cX6_init 28 = .ok (.putfield 20, 3) := by decide +kernel
theorem dX6_init_31 : decode cX6_init 31 = .ok (.aload_n 0, 1) := by decide +kernel
theorem dX6_init_32 : decode cX6_init 32 = .ok (.getfield 7, 3) := by decide +kernel
theorem dX6_init_35 : decode cX6_init 35 = .ok (.iconst 0, 1) := by decide +kernel
theorem dX6_init_36 : decode cX6_init 36 = .ok (.iconst 1, 1) := by decide +kernel
theorem dX6_init_37 : decode cX6_init 37 = .ok (.iastore, 1) := by decide +kernel
theorem dX6_init_38 : decode cX6_init 38 = .ok (.aload_n 0, 1) := by decide +kernel
theorem dX6_init_39 : decode cX6_init 39 = .ok (.getfield 7, 3) := by decide +kernel
theorem dX6_init_42 : decode cX6_init 42 = .ok (.iconst 5, 1) := by decide +kernel
theorem dX6_init_43 : decode cX6_init 43 = .ok (.iconst 2, 1) := by decide +kernel
theorem dX6_init_44 : decode cX6_init 44 = .ok (.iastore, 1) := by decide +kernel
theorem dX6_init_45 : decode cX6_init 45 = .ok (.aload_n 0, 1) := by decide +kernel
theorem dX6_init_46 : decode cX6_init 46 = .ok (.getfield 7, 3) := by decide +kernel
theorem dX6_init_49 : decode cX6_init 49 = .ok (.bipush 6, 2) := by decide +kernel
theorem dX6_init_51 : decode cX6_init 51 = .ok (.iconst 3, 1) := by decide +kernel
theorem dX6_init_52 : decode cX6_init 52 = .ok (.iastore, 1) := by decide +kernel
theorem dX6_init_53 : decode cX6_init 53 = .ok (.aload_n 0, 1) := by decide +kernel
theorem dX6_init_54 : decode cX6_init 54 = .ok (.getfield 7, 3) := by decide +kernel
theorem dX6_init_57 : decode cX6_init 57 = .ok (.bipush 7, 2) := by decide +kernel
theorem dX6_init_59 : decode cX6_init 59 = .ok (.iconst 4, 1) := by decide +kernel
theorem dX6_init_60 : decode cX6_init 60 = .ok (.iastore, 1) := by decide +kernel
theorem dX6_init_61 : decode cX6_init 61 = .ok (.aload_n 0, 1) := by decide +kernel
theorem dX6_init_62 : decode cX6_init 62 = .ok (.getfield 7, 3) := by decide +kernel
theorem dX6_init_65 : decode cX6_init 65 = .ok (.bipush 8, 2) := by decide +kernel
theorem dX6_init_67 : decode cX6_init 67 = .ok (.bipush 6, 2) := by decide +kernel
theorem dX6_init_69 : decode cX6_init 69 = .ok (.iastore, 1) := by decide +kernel
theorem dX6_init_70 : decode cX6_init 70 = .ok (.aload_n 0, 1) := by decide +kernel
theorem dX6_init_71 : decode cX6_init 71 = .ok (.getfield 7, 3) := by decide +kernel
theorem dX6_init_74 : decode cX6_init 74 = .ok (.bipush 11, 2) := by decide +kernel
theorem dX6_init_76 : decode cX6_init 76 = .ok (.iconst 1, 1) := by decide +kernel
theorem dX6_init_77 : decode cX6_init 77 = .ok (.iastore, 1) := by decide +kernel
theorem dX6_init_78 : decode cX6_init 78 = .ok (.aload_n 0, 1) := by decide +kernel
theorem dX6_init_79 : decode cX6_init 79 = .ok (.getfield 7, 3) := by decide +kernel
theorem dX6_init_82 : decode cX6_init 82 = .ok (.bipush 12, 2) := by decide +kernel
theorem dX6_init_84 : decode cX6_init 84 = .ok (.iconst 1, 1) := by decide +kernel
theorem dX6_init_85 : decode cX6_init 85 = .ok (.iastore, 1) := by decide +kernel
theorem dX6_init_86 : decode cX6_init 86 = .ok (.return_, 1) := by decide +kernel
theorem dX6_thrown_0 : decode cX6_thrown 0 = .ok (.aload_n 0, 1) := by decide +kernel
theorem dX6_thrown_1 : decode cX6_thrown 1 = .ok (.getfield 23, 3) := by decide +kernel
theorem dX6_thrown_4 : decode cX6_thrown 4 = .ok (.ireturn, 1) := by decide +kernel
theorem dX6_fails_0 : decode cX6_fails 0 = .ok (.aload_n 0, 1) := by decide +kernel
theorem dX6_fails_1 : decode cX6_fails 1 = .ok (.iload_n 1, 1) := by decide +kernel
theorem dX6_fails_2 : decode cX6_fails 2 = .ok (.putfield 23, 3) := by decide +kernel
theorem dX6_fails_5 : decode cX6_fails 5 = .ok (.iload_n 1, 1) := by decide +kernel
theorem dX6_fails_6 : decode cX6_fails 6 = .ok (.ifCond .le 7, 3) := by decide +kernel
theorem dX6_fails_9 : decode cX6_fails 9 = .ok (.iconst 1, 1) := by decide +kernel
theorem dX6_fails_10 : decode cX6_fails 10 = .ok (.goto 4, 3) := by decide +kernel
theorem dX6_fails_13 : decode cX6_fails 13 = .ok (.iconst 0, 1) := by decide +kernel
theorem dX6_fails_14 : decode cX6_fails 14 = .ok (.ireturn, 1) := by decide +kernel
theorem dX6_in_0 : decode cX6_in 0 = .ok (.iload_n 0, 1) := by decide +kernel
theorem dX6_in_1 : decode cX6_in 1 = .ok (.iload_n 1, 1) := by decide +kernel
theorem dX6_in_2 : decode cX6_in 2 = .ok (.if_icmp .lt 12, 3) := by decide +kernel
theorem dX6_in_5 : decode cX6_in 5 = .ok (.iload_n 0, 1) := by decide +kernel
theorem dX6_in_6 : decode cX6_in 6 = .ok (.iload_n 2, 1) := by decide +kernel
theorem dX6_in_7 : decode cX6_in 7 = .ok (.if_icmp .gt 7, 3) := by decide +kernel
theorem dX6_in_10 : decode cX6_in 10 = .ok (.iconst 1, 1) := by decide +kernel
theorem dX6_in_11 : decode cX6_in 11 = .ok (.goto 4, 3) := by decide +kernel
theorem dX6_in_14 : decode cX6_in 14 = .ok (.iconst 0, 1) := by decide +kernel
theorem dX6_in_15 : decode cX6_in 15 = .ok (.ireturn, 1) := by decide +kernel
theorem dX6_isRoom_0 : decode cX6_isRoom 0 = .ok (.iload_n 0, 1) := by decide +kernel
theorem dX6_isRoom_1 : decode cX6_isRoom 1 = .ok (.iconst 0, 1) := by decide +kernel
theorem dX6_isRoom_2 : decode cX6_isRoom 2 = .ok (.iconst 3, 1) := by decide +kernel
theorem dX6_isRoom_3 : decode cX6_isRoom 3 = .ok (.invokestatic 26, 3) := by decide +kernel
theorem dX6_isRoom_6 : decode cX6_isRoom 6 = .ok (.ireturn, 1) := by decide +kernel
theorem dX6_isPerson_0 : decode cX6_isPerson 0 = .ok (.iload_n 0, 1) := by decide +kernel
theorem dX6_isPerson_1 : decode cX6_isPerson 1 = .ok (.iconst 0, 1) := by decide +kernel
theorem dX6_isPerson_2 : decode cX6_isPerson 2 = .ok (.iconst 5, 1) := by decide +kernel
theorem dX6_isPerson_3 : decode cX6_isPerson 3 = .ok (.invokestatic 26, 3) := by decide +kernel
theorem dX6_isPerson_6 : decode cX6_isPerson 6 = .ok (.ireturn, 1) := by decide +kernel
theorem dX6_isDay_0 : decode cX6_isDay 0 = .ok (.iload_n 0, 1) := by decide +kernel
theorem dX6_isDay_1 : decode cX6_isDay 1 = .ok (.iconst 0, 1) := by decide +kernel
theorem dX6_isDay_2 : decode cX6_isDay 2 = .ok (.bipush 27, 2) := by decide +kernel
theorem dX6_isDay_4 : decode cX6_isDay 4 = .ok (.invokestatic 26, 3) := by decide +kernel
theorem dX6_isDay_7 : decode cX6_isDay 7 = .ok (.ireturn, 1) := by decide +kernel
theorem dX6_isTime_0 : decode cX6_isTime 0 = .ok (.iload_n 0, 1) := by decide +kernel
theorem dX6_isTime_1 : decode cX6_isTime 1 = .ok (.iconst 0, 1) := by decide +kernel
theorem dX6_isTime_2 : decode cX6_isTime 2 = .ok (.bipush 15, 2) := by decide +kernel
theorem dX6_isTime_4 : decode cX6_isTime 4 = .ok (.invokestatic 26, 3) := by decide +kernel
theorem dX6_isTime_7 : decode cX6_isTime 7 = .ok (.ireturn, 1) := by decide +kernel
theorem dX6_setRoom_0 : decode cX6_setRoom 0 = .ok (.aload_n 0, 1) := by decide +kernel
theorem dX6_setRoom_1 : decode cX6_setRoom 1 = .ok (.iload_n 1, 1) := by decide +kernel
theorem dX6_setRoom_2 : decode cX6_setRoom 2 = .ok (.invokestatic 30, 3) := by decide +kernel
theorem dX6_setRoom_5 : decode cX6_setRoom 5 = .ok (.ifCond .eq 26, 3) := by decide +kernel
theorem dX6_setRoom_8 : decode cX6_setRoom 8 = .ok (.iload_n 2, 1) := by decide +kernel
theorem dX6_setRoom_9 : decode cX6_setRoom 9 = .ok (.iconst 0, 1) := by decide +kernel
theorem dX6_setRoom_10 : decode cX6_setRoom 10 = .ok (.bipush 6, 2) := by decide +kernel
theorem dX6_setRoom_12 : decode cX6_setRoom 12 = .ok (.invokestatic 26, 3) := by decide +kernel
theorem dX6_setRoom_15 : decode cX6_setRoom 15 = .ok (.ifCond .eq 16, 3) := by decide +kernel
theorem dX6_setRoom_18 : decode cX6_setRoom 18 = .ok (.iload_n 3, 1) := by decide +kernel
theorem dX6_setRoom_19 : decode cX6_setRoom 19 = .ok (.iconst 0, 1) := by decide +kernel
theorem dX6_setRoom_20 : decode cX6_setRoom 20 = .ok (.iconst 1, 1) := by decide +kernel
theorem dX6_setRoom_21 : decode cX6_setRoom 21 = .ok (.invokestatic 26, 3) := by decide +kernel
theorem dX6_setRoom_24 : decode cX6_setRoom 24 = .ok (.ifCond .eq 7, 3) := by decide +kernel
theorem dX6_setRoom_27 : decode cX6_setRoom 27 = .ok (.iconst 0, 1) := by decide +kernel
theorem dX6_setRoom_28 : decode cX6_setRoom 28 = .ok (.goto 4, 3) := by decide +kernel
theorem dX6_setRoom_31 : decode cX6_setRoom 31 = .ok (.iconst 1, 1) := by decide +kernel
theorem dX6_setRoom_32 : decode cX6_setRoom 32 = .ok (.invokevirtual 34, 3) := by decide +kernel
theorem dX6_setRoom_35 : decode cX6_setRoom 35 = .ok (.ifCond .eq 5, 3) := by decide +kernel
theorem dX6_setRoom_38 : decode cX6_setRoom 38 = .ok (.iconst 0, 1) := by decide +kernel
theorem dX6_setRoom_39 : decode cX6_setRoom 39 = .ok (.ireturn, 1) := by decide +kernel
theorem dX6_setRoom_40 : decode cX6_setRoom 40 = .ok (.aload_n 0, 1) := by decide +kernel
theorem dX6_setRoom_41 : decode cX6_setRoom 41 = .ok (.getfield 7, 3) := by decide +kernel
theorem dX6_setRoom_44 : decode cX6_setRoom 44 = .ok (.iconst 5, 1) := by decide +kernel
theorem dX6_setRoom_45 : decode cX6_setRoom 45 = .ok (.iload_n 1, 1) := by decide +kernel
theorem dX6_setRoom_46 : decode cX6_setRoom 46 = .ok (.iadd, 1) := by decide +kernel
theorem dX6_setRoom_47 : decode cX6_setRoom 47 = .ok (.iaload, 1) := by decide +kernel
theorem dX6_setRoom_48 : decode cX6_setRoom 48 = .ok (.istore 4, 2) := by decide +kernel
theorem dX6_setRoom_50 : decode cX6_setRoom 50 = .ok (.aload_n 0, 1) := by decide +kernel
theorem dX6_setRoom_51 : decode cX6_setRoom 51 = .ok (.getfield 7, 3) := by decide +kernel
theorem dX6_setRoom_54 : decode cX6_setRoom 54 = .ok (.iconst 5, 1) := by decide +kernel
theorem dX6_setRoom_55 : decode cX6_setRoom 55 = .ok (.iload_n 1, 1) := by decide +kernel
theorem dX6_setRoom_56 : decode cX6_setRoom 56 = .ok (.iadd, 1) := by decide +kernel
theorem dX6_setRoom_57 : decode cX6_setRoom 57 = .ok (.iload_n 2, 1) := by decide +kernel
theorem dX6_setRoom_58 : decode cX6_setRoom 58 = .ok (.iastore, 1) := by decide +kernel
theorem dX6_setRoom_59 : decode cX6_setRoom 59 = .ok (.aload_n 0, 1) := by decide +kernel
theorem dX6_setRoom_60 : decode cX6_setRoom 60 = .ok (.getfield 7, 3) := by decide +kernel
theorem dX6_setRoom_63 : decode cX6_setRoom 63 = .ok (.bipush 9, 2) := by decide +kernel
theorem dX6_setRoom_65 : decode cX6_setRoom 65 = .ok (.iload_n 1, 1) := by decide +kernel
theorem dX6_setRoom_66 : decode cX6_setRoom 66 = .ok (.iadd, 1) := by decide +kernel
theorem dX6_setRoom_67 : decode cX6_setRoom 67 = .ok (.iload_n 3, 1) := by decide +kernel
theorem dX6_setRoom_68 : decode cX6_setRoom 68 = .ok (.iastore, 1) := by decide +kernel
theorem dX6_setRoom_69 : decode cX6_setRoom 69 = .ok (.iload 4, 2) := by decide +kernel
theorem dX6_setRoom_71 : decode cX6_setRoom 71 = .ok (.ireturn, 1) := by decide +kernel
theorem dX6_setGap_0 : decode cX6_setGap 0 = .ok (.aload_n 0, 1) := by decide +kernel
theorem dX6_setGap_1 : decode cX6_setGap 1 = .ok (.iload_n 1, 1) := by decide +kernel
theorem dX6_setGap_2 : decode cX6_setGap 2 = .ok (.iconst 0, 1) := by decide +kernel
theorem dX6_setGap_3 : decode cX6_setGap 3 = .ok (.iconst 3, 1) := by decide +kernel
theorem dX6_setGap_4 : decode cX6_setGap 4 = .ok (.invokestatic 26, 3) := by decide +kernel
theorem dX6_setGap_7 : decode cX6_setGap 7 = .ok (.ifCond .eq 7, 3) := by decide +kernel
theorem dX6_setGap_10 : decode cX6_setGap 10 = .ok (.iconst 0, 1) := by decide +kernel
theorem dX6_setGap_11 : decode cX6_setGap 11 = .ok (.goto 4, 3) := by decide +kernel
theorem dX6_setGap_14 : decode cX6_setGap 14 = .ok (.iconst 1, 1) := by decide +kernel
theorem dX6_setGap_15 : decode cX6_setGap 15 = .ok (.invokevirtual 34, 3) := by decide +kernel
theorem dX6_setGap_18 : decode cX6_setGap 18 = .ok (.ifCond .eq 5, 3) := by decide +kernel
theorem dX6_setGap_21 : decode cX6_setGap 21 = .ok (.iconst 0, 1) := by decide +kernel
theorem dX6_setGap_22 : decode cX6_setGap 22 = .ok (.ireturn, 1) := by decide +kernel
theorem dX6_setGap_23 : decode cX6_setGap 23 = .ok (.aload_n 0, 1) := by decide +kernel
theorem dX6_setGap_24 : decode cX6_setGap 24 = .ok (.getfield 7, 3) := by decide +kernel
theorem dX6_setGap_27 : decode cX6_setGap 27 = .ok (.iconst 0, 1) := by decide +kernel
theorem dX6_setGap_28 : decode cX6_setGap 28 = .ok (.iaload, 1) := by decide +kernel
theorem dX6_setGap_29 : decode cX6_setGap 29 = .ok (.istore_n 2, 1) := by decide +kernel
theorem dX6_setGap_30 : decode cX6_setGap 30 = .ok (.aload_n 0, 1) := by decide +kernel
theorem dX6_setGap_31 : decode cX6_setGap 31 = .ok (.getfield 7, 3) := by decide +kernel
theorem dX6_setGap_34 : decode cX6_setGap 34 = .ok (.iconst 0, 1) := by decide +kernel
theorem dX6_setGap_35 : decode cX6_setGap 35 = .ok (.iload_n 1, 1) := by decide +kernel
theorem dX6_setGap_36 : decode cX6_setGap 36 = .ok (.iastore, 1) := by decide +kernel
theorem dX6_setGap_37 : decode cX6_setGap 37 = .ok (.iload_n 2, 1) := by decide +kernel
theorem dX6_setGap_38 : decode cX6_setGap 38 = .ok (.ireturn, 1) := by decide +kernel
theorem dX6_seatsOf_0 : decode cX6_seatsOf 0 = .ok (.aload_n 0, 1) := by decide +kernel
theorem dX6_seatsOf_1 : decode cX6_seatsOf 1 = .ok (.iload_n 1, 1) := by decide +kernel
theorem dX6_seatsOf_2 : decode cX6_seatsOf 2 = .ok (.invokestatic 30, 3) := by decide +kernel
theorem dX6_seatsOf_5 : decode cX6_seatsOf 5 = .ok (.ifCond .eq 7, 3) := by decide +kernel
theorem dX6_seatsOf_8 : decode cX6_seatsOf 8 = .ok (.iconst 0, 1) := by decide +kernel
theorem dX6_seatsOf_9 : decode cX6_seatsOf 9 = .ok (.goto 4, 3) := by decide +kernel
theorem dX6_seatsOf_12 : decode cX6_seatsOf 12 = .ok (.iconst 1, 1) := by decide +kernel
theorem dX6_seatsOf_13 : decode cX6_seatsOf 13 = .ok (.invokevirtual 34, 3) := by decide +kernel
theorem dX6_seatsOf_16 : decode cX6_seatsOf 16 = .ok (.ifCond .eq 7, 3) := by decide +kernel
theorem dX6_seatsOf_19 : decode cX6_seatsOf 19 = .ok (.iconst 0, 1) := by decide +kernel
theorem dX6_seatsOf_20 : decode cX6_seatsOf 20 = .ok (.goto 11, 3) := by decide +kernel
theorem dX6_seatsOf_23 : decode cX6_seatsOf 23 = .ok (.aload_n 0, 1) := by decide +kernel
theorem dX6_seatsOf_24 : decode cX6_seatsOf 24 = .ok (.getfield 7, 3) := by decide +kernel
theorem dX6_seatsOf_27 : decode cX6_seatsOf 27 = .ok (.iconst 5, 1) := by decide +kernel
theorem dX6_seatsOf_28 : decode cX6_seatsOf 28 = .ok (.iload_n 1, 1) := by decide +kernel
theorem dX6_seatsOf_29 : decode cX6_seatsOf 29 = .ok (.iadd, 1) := by decide +kernel
theorem dX6_seatsOf_30 : decode cX6_seatsOf 30 = .ok (.iaload, 1) := by decide +kernel
theorem dX6_seatsOf_31 : decode cX6_seatsOf 31 = .ok (.ireturn, 1) := by decide +kernel
theorem dX6_houseOf_0 : decode cX6_houseOf 0 = .ok (.aload_n 0, 1) := by decide +kernel
theorem dX6_houseOf_1 : decode cX6_houseOf 1 = .ok (.iload_n 1, 1) := by decide +kernel
theorem dX6_houseOf_2 : decode cX6_houseOf 2 = .ok (.invokestatic 30, 3) := by decide +kernel
theorem dX6_houseOf_5 : decode cX6_houseOf 5 = .ok (.ifCond .eq 7, 3) := by decide +kernel
theorem dX6_houseOf_8 : decode cX6_houseOf 8 = .ok (.iconst 0, 1) := by decide +kernel
theorem dX6_houseOf_9 : decode cX6_houseOf 9 = .ok (.goto 4, 3) := by decide +kernel
theorem dX6_houseOf_12 : decode cX6_houseOf 12 = .ok (.iconst 1, 1) := by decide +kernel
theorem dX6_houseOf_13 : decode cX6_houseOf 13 = .ok (.invokevirtual 34, 3) := by decide +kernel
theorem dX6_houseOf_16 : decode cX6_houseOf 16 = .ok (.ifCond .eq 7, 3) := by decide +kernel
theorem dX6_houseOf_19 : decode cX6_houseOf 19 = .ok (.iconst 0, 1) := by decide +kernel
theorem dX6_houseOf_20 : decode cX6_houseOf 20 = .ok (.goto 12, 3) := by decide +kernel
theorem dX6_houseOf_23 : decode cX6_houseOf 23 = .ok (.aload_n 0, 1) := by decide +kernel
theorem dX6_houseOf_24 : decode cX6_houseOf 24 = .ok (.getfield 7, 3) := by decide +kernel
theorem dX6_houseOf_27 : decode cX6_houseOf 27 = .ok (.bipush 9, 2) := by decide +kernel
theorem dX6_houseOf_29 : decode cX6_houseOf 29 = .ok (.iload_n 1, 1) := by decide +kernel
theorem dX6_houseOf_30 : decode cX6_houseOf 30 = .ok (.iadd, 1) := by decide +kernel
theorem dX6_houseOf_31 : decode cX6_houseOf 31 = .ok (.iaload, 1) := by decide +kernel
theorem dX6_houseOf_32 : decode cX6_houseOf 32 = .ok (.ireturn, 1) := by decide +kernel
theorem dX6_of_0 : decode cX6_of 0 = .ok (.aload_n 0, 1) := by decide +kernel
theorem dX6_of_1 : decode cX6_of 1 = .ok (.getfield 7, 3) := by decide +kernel
theorem dX6_of_4 : decode cX6_of 4 = .ok (.bipush 20, 2) := by decide +kernel
theorem dX6_of_6 : decode cX6_of 6 = .ok (.bipush 40, 2) := by decide +kernel
theorem dX6_of_8 : decode cX6_of 8 = .ok (.iload_n 1, 1) := by decide +kernel
theorem dX6_of_9 : decode cX6_of 9 = .ok (.imul, 1) := by decide +kernel
theorem dX6_of_10 : decode cX6_of 10 = .ok (.iadd, 1) := by decide +kernel
theorem dX6_of_11 : decode cX6_of 11 = .ok (.iload_n 2, 1) := by decide +kernel
theorem dX6_of_12 : decode cX6_of 12 = .ok (.iadd, 1) := by decide +kernel
theorem dX6_of_13 : decode cX6_of 13 = .ok (.iaload, 1) := by decide +kernel
theorem dX6_of_14 : decode cX6_of 14 = .ok (.ireturn, 1) := by decide +kernel
theorem dX6_lays_0 : decode cX6_lays 0 = .ok (.aload_n 0, 1) := by decide +kernel
theorem dX6_lays_1 : decode cX6_lays 1 = .ok (.getfield 7, 3) := by decide +kernel
theorem dX6_lays_4 : decode cX6_lays 4 = .ok (.bipush 20, 2) := by decide +kernel
theorem dX6_lays_6 : decode cX6_lays 6 = .ok (.bipush 40, 2) := by decide +kernel
theorem dX6_lays_8 : decode cX6_lays 8 = .ok (.iload_n 1, 1) := by decide +kernel
theorem dX6_lays_9 : decode cX6_lays 9 = .ok (.imul, 1) := by decide +kernel
theorem dX6_lays_10 : decode cX6_lays 10 = .ok (.iadd, 1) := by decide +kernel
theorem dX6_lays_11 : decode cX6_lays 11 = .ok (.iload_n 2, 1) := by decide +kernel
theorem dX6_lays_12 : decode cX6_lays 12 = .ok (.iadd, 1) := by decide +kernel
theorem dX6_lays_13 : decode cX6_lays 13 = .ok (.iload_n 3, 1) := by decide +kernel
theorem dX6_lays_14 : decode cX6_lays 14 = .ok (.iastore, 1) := by decide +kernel
theorem dX6_lays_15 : decode cX6_lays 15 = .ok (.return_, 1) := by decide +kernel
theorem dX6_date_0 : decode cX6_date 0 = .ok (.aload_n 0, 1) := by decide +kernel
theorem dX6_date_1 : decode cX6_date 1 = .ok (.iload_n 1, 1) := by decide +kernel
theorem dX6_date_2 : decode cX6_date 2 = .ok (.bipush 10, 2) := by decide +kernel
theorem dX6_date_4 : decode cX6_date 4 = .ok (.iconst 4, 1) := by decide +kernel
theorem dX6_date_5 : decode cX6_date 5 = .ok (.iload_n 2, 1) := by decide +kernel
theorem dX6_date_6 : decode cX6_date 6 = .ok (.imul, 1) := by decide +kernel
theorem dX6_date_7 : decode cX6_date 7 = .ok (.iadd, 1) := by decide +kernel
theorem dX6_date_8 : decode cX6_date 8 = .ok (.iload_n 3, 1) := by decide +kernel
theorem dX6_date_9 : decode cX6_date 9 = .ok (.iadd, 1) := by decide +kernel
theorem dX6_date_10 : decode cX6_date 10 = .ok (.invokevirtual 37, 3) := by decide +kernel
theorem dX6_date_13 : decode cX6_date 13 = .ok (.ireturn, 1) := by decide +kernel
theorem dX6_at_0 : decode cX6_at 0 = .ok (.iconst 0, 1) := by decide +kernel
theorem dX6_at_1 : decode cX6_at 1 = .ok (.istore_n 2, 1) := by decide +kernel
theorem dX6_at_2 : decode cX6_at 2 = .ok (.iload_n 2, 1) := by decide +kernel
theorem dX6_at_3 : decode cX6_at 3 = .ok (.aload_n 0, 1) := by decide +kernel
theorem dX6_at_4 : decode cX6_at 4 = .ok (.getfield 7, 3) := by decide +kernel
theorem dX6_at_7 : decode cX6_at 7 = .ok (.iconst 1, 1) := by decide +kernel
theorem dX6_at_8 : decode cX6_at 8 = .ok (.iaload, 1) := by decide +kernel
theorem dX6_at_9 : decode cX6_at 9 = .ok (.if_icmp .ge 21, 3) := by decide +kernel
theorem dX6_at_12 : decode cX6_at 12 = .ok (.aload_n 0, 1) := by decide +kernel
theorem dX6_at_13 : decode cX6_at 13 = .ok (.iload_n 2, 1) := by decide +kernel
theorem dX6_at_14 : decode cX6_at 14 = .ok (.iconst 0, 1) := by decide +kernel
theorem dX6_at_15 : decode cX6_at 15 = .ok (.invokevirtual 37, 3) := by decide +kernel
theorem dX6_at_18 : decode cX6_at 18 = .ok (.iload_n 1, 1) := by decide +kernel
theorem dX6_at_19 : decode cX6_at 19 = .ok (.if_icmp .ne 5, 3) := by decide +kernel
theorem dX6_at_22 : decode cX6_at 22 = .ok (.iload_n 2, 1) := by decide +kernel
theorem dX6_at_23 : decode cX6_at 23 = .ok (.ireturn, 1) := by decide +kernel
theorem dX6_at_24 : decode cX6_at 24 = .ok (.iinc 2 1, 3) := by decide +kernel
theorem dX6_at_27 : decode cX6_at 27 = .ok (.goto (-25), 3) := by decide +kernel
theorem dX6_at_30 : decode cX6_at 30 = .ok (.iconst (-1), 1) := by decide +kernel
theorem dX6_at_31 : decode cX6_at 31 = .ok (.ireturn, 1) := by decide +kernel
theorem dX6_isExpected_0 : decode cX6_isExpected 0 = .ok (.iload_n 2, 1) := by decide +kernel
theorem dX6_isExpected_1 : decode cX6_isExpected 1 = .ok (.aload_n 0, 1) := by decide +kernel
theorem dX6_isExpected_2 : decode cX6_isExpected 2 = .ok (.iload_n 1, 1) := by decide +kernel
theorem dX6_isExpected_3 : decode cX6_isExpected 3 = .ok (.iconst 1, 1) := by decide +kernel
theorem dX6_isExpected_4 : decode cX6_isExpected 4 = .ok (.invokevirtual 37, 3) := by decide +kernel
theorem dX6_isExpected_7 : decode cX6_isExpected 7 = .ok (.if_icmp .eq 29, 3) := by decide +kernel
theorem dX6_isExpected_10 : decode cX6_isExpected 10 = .ok (.aload_n 0, 1) := by decide +kernel
theorem dX6_isExpected_11 : decode cX6_isExpected 11 = .ok (.iload_n 1, 1) := by decide +kernel
theorem dX6_isExpected_12 : decode cX6_isExpected 12 = .ok (.iconst 4, 1) := by decide +kernel
theorem dX6_isExpected_13 : decode cX6_isExpected 13 = .ok (.iload_n 2, 1) := by decide +kernel
theorem dX6_isExpected_14 : decode cX6_isExpected 14 = .ok (.iadd, 1) := by decide +kernel
theorem dX6_isExpected_15 : decode cX6_isExpected 15 = .ok (.invokevirtual 37, 3) := by decide +kernel
theorem dX6_isExpected_18 : decode cX6_isExpected 18 = .ok (.bipush 111, 2) := by decide +kernel
theorem dX6_isExpected_20 : decode cX6_isExpected 20 = .ok (.if_icmp .eq 16, 3) := by decide +kernel
theorem dX6_isExpected_23 : decode cX6_isExpected 23 = .ok (.aload_n 0, 1) := by decide +kernel
theorem dX6_isExpected_24 : decode cX6_isExpected 24 = .ok (.iload_n 1, 1) := by decide +kernel
theorem dX6_isExpected_25 : decode cX6_isExpected 25 = .ok (.iconst 4, 1) := by decide +kernel
theorem dX6_isExpected_26 : decode cX6_isExpected 26 = .ok (.iload_n 2, 1) := by decide +kernel
theorem dX6_isExpected_27 : decode cX6_isExpected 27 = .ok (.iadd, 1) := by decide +kernel
theorem dX6_isExpected_28 : decode cX6_isExpected 28 = .ok (.invokevirtual 37, 3) := by decide +kernel
theorem dX6_isExpected_31 : decode cX6_isExpected 31 = .ok (.bipush 121, 2) := by decide +kernel
theorem dX6_isExpected_33 : decode cX6_isExpected 33 = .ok (.if_icmp .ne 7, 3) := by decide +kernel
theorem dX6_isExpected_36 : decode cX6_isExpected 36 = .ok (.iconst 1, 1) := by decide +kernel
theorem dX6_isExpected_37 : decode cX6_isExpected 37 = .ok (.goto 4, 3) := by decide +kernel
theorem dX6_isExpected_40 : decode cX6_isExpected 40 = .ok (.iconst 0, 1) := by decide +kernel
theorem dX6_isExpected_41 : decode cX6_isExpected 41 = .ok (.ireturn, 1) := by decide +kernel
theorem dX6_people_0 : decode cX6_people 0 = .ok (.iconst 0, 1) := by decide +kernel
theorem dX6_people_1 : decode cX6_people 1 = .ok (.istore_n 2, 1) := by decide +kernel
theorem dX6_people_2 : decode cX6_people 2 = .ok (.iconst 0, 1) := by decide +kernel
theorem dX6_people_3 : decode cX6_people 3 = .ok (.istore_n 3, 1) := by decide +kernel
theorem dX6_people_4 : decode cX6_people 4 = .ok (.iload_n 3, 1) := by decide +kernel
theorem dX6_people_5 : decode cX6_people 5 = .ok (.bipush 6, 2) := by decide +kernel
theorem dX6_people_7 : decode cX6_people 7 = .ok (.if_icmp .ge 28, 3) := by decide +kernel
theorem dX6_people_10 : decode cX6_people 10 = .ok (.iload_n 2, 1) := by decide +kernel
theorem dX6_people_11 : decode cX6_people 11 = .ok (.aload_n 0, 1) := by decide +kernel
theorem dX6_people_12 : decode cX6_people 12 = .ok (.iload_n 1, 1) := by decide +kernel
theorem dX6_people_13 : decode cX6_people 13 = .ok (.iload_n 3, 1) := by decide +kernel
theorem dX6_people_14 : decode cX6_people 14 = .ok (.invokevirtual 41, 3) := by decide +kernel
theorem dX6_people_17 : decode cX6_people 17 = .ok (.ifCond .eq 9, 3) := by decide +kernel
theorem dX6_people_20 : decode cX6_people 20 = .ok (.iconst 1, 1) := by decide +kernel
theorem dX6_people_21 : decode cX6_people 21 = .ok (.iload_n 3, 1) := by decide +kernel
theorem dX6_people_22 : decode cX6_people 22 = .ok (.ishl, 1) := by decide +kernel
theorem dX6_people_23 : decode cX6_people 23 = .ok (.goto 4, 3) := by decide +kernel
theorem dX6_people_26 : decode cX6_people 26 = .ok (.iconst 0, 1) := by decide +kernel
theorem dX6_people_27 : decode cX6_people 27 = .ok (.ior, 1) := by decide +kernel
theorem dX6_people_28 : decode cX6_people 28 = .ok (.istore_n 2, 1) := by decide +kernel
theorem dX6_people_29 : decode cX6_people 29 = .ok (.iinc 3 1, 3) := by decide +kernel
theorem dX6_people_32 : decode cX6_people 32 = .ok (.goto (-28), 3) := by decide +kernel
theorem dX6_people_35 : decode cX6_people 35 = .ok (.iload_n 2, 1) := by decide +kernel
theorem dX6_people_36 : decode cX6_people 36 = .ok (.ireturn, 1) := by decide +kernel
theorem dX6_many_0 : decode cX6_many 0 = .ok (.iconst 0, 1) := by decide +kernel
theorem dX6_many_1 : decode cX6_many 1 = .ok (.istore_n 1, 1) := by decide +kernel
theorem dX6_many_2 : decode cX6_many 2 = .ok (.iconst 0, 1) := by decide +kernel
theorem dX6_many_3 : decode cX6_many 3 = .ok (.istore_n 2, 1) := by decide +kernel
theorem dX6_many_4 : decode cX6_many 4 = .ok (.iload_n 2, 1) := by decide +kernel
theorem dX6_many_5 : decode cX6_many 5 = .ok (.bipush 6, 2) := by decide +kernel
theorem dX6_many_7 : decode cX6_many 7 = .ok (.if_icmp .ge 17, 3) := by decide +kernel
theorem dX6_many_10 : decode cX6_many 10 = .ok (.iload_n 1, 1) := by decide +kernel
theorem dX6_many_11 : decode cX6_many 11 = .ok (.iload_n 0, 1) := by decide +kernel
theorem dX6_many_12 : decode cX6_many 12 = .ok (.iload_n 2, 1) := by decide +kernel
theorem dX6_many_13 : decode cX6_many 13 = .ok (.ishr, 1) := by decide +kernel
theorem dX6_many_14 : decode cX6_many 14 = .ok (.iconst 1, 1) := by decide +kernel
theorem dX6_many_15 : decode cX6_many 15 = .ok (.iand, 1) := by decide +kernel
theorem dX6_many_16 : decode cX6_many 16 = .ok (.iadd, 1) := by decide +kernel
theorem dX6_many_17 : decode cX6_many 17 = .ok (.istore_n 1, 1) := by decide +kernel
theorem dX6_many_18 : decode cX6_many 18 = .ok (.iinc 2 1, 3) := by decide +kernel
theorem dX6_many_21 : decode cX6_many 21 = .ok (.goto (-17), 3) := by decide +kernel
theorem dX6_many_24 : decode cX6_many 24 = .ok (.iload_n 1, 1) := by decide +kernel
theorem dX6_many_25 : decode cX6_many 25 = .ok (.ireturn, 1) := by decide +kernel
theorem dX6_isOn_0 : decode cX6_isOn 0 = .ok (.aload_n 0, 1) := by decide +kernel
theorem dX6_isOn_1 : decode cX6_isOn 1 = .ok (.iload_n 1, 1) := by decide +kernel
theorem dX6_isOn_2 : decode cX6_isOn 2 = .ok (.iload_n 2, 1) := by decide +kernel
theorem dX6_isOn_3 : decode cX6_isOn 3 = .ok (.iconst 2, 1) := by decide +kernel
theorem dX6_isOn_4 : decode cX6_isOn 4 = .ok (.invokevirtual 45, 3) := by decide +kernel
theorem dX6_isOn_7 : decode cX6_isOn 7 = .ok (.ifCond .ne 7, 3) := by decide +kernel
theorem dX6_isOn_10 : decode cX6_isOn 10 = .ok (.iconst 1, 1) := by decide +kernel
theorem dX6_isOn_11 : decode cX6_isOn 11 = .ok (.goto 4, 3) := by decide +kernel
theorem dX6_isOn_14 : decode cX6_isOn 14 = .ok (.iconst 0, 1) := by decide +kernel
theorem dX6_isOn_15 : decode cX6_isOn 15 = .ok (.ireturn, 1) := by decide +kernel
theorem dX6_between_0 : decode cX6_between 0 = .ok (.aload_n 0, 1) := by decide +kernel
theorem dX6_between_1 : decode cX6_between 1 = .ok (.iload_n 1, 1) := by decide +kernel
theorem dX6_between_2 : decode cX6_between 2 = .ok (.iload_n 2, 1) := by decide +kernel
theorem dX6_between_3 : decode cX6_between 3 = .ok (.iconst 1, 1) := by decide +kernel
theorem dX6_between_4 : decode cX6_between 4 = .ok (.invokevirtual 45, 3) := by decide +kernel
theorem dX6_between_7 : decode cX6_between 7 = .ok (.istore 5, 2) := by decide +kernel
theorem dX6_between_9 : decode cX6_between 9 = .ok (.iload 5, 2) := by decide +kernel
theorem dX6_between_11 : decode cX6_between 11 = .ok (.iload_n 3, 1) := by decide +kernel
theorem dX6_between_12 : decode cX6_between 12 = .ok (.if_icmp .lt 13, 3) := by decide +kernel
theorem dX6_between_15 : decode cX6_between 15 = .ok (.iload 5, 2) := by decide +kernel
theorem dX6_between_17 : decode cX6_between 17 = .ok (.iload_n 3, 1) := by decide +kernel
theorem dX6_between_18 : decode cX6_between 18 = .ok (.isub, 1) := by decide +kernel
theorem dX6_between_19 : decode cX6_between 19 = .ok (.iload 4, 2) := by decide +kernel
theorem dX6_between_21 : decode cX6_between 21 = .ok (.isub, 1) := by decide +kernel
theorem dX6_between_22 : decode cX6_between 22 = .ok (.goto 14, 3) := by decide +kernel
theorem dX6_between_25 : decode cX6_between 25 = .ok (.iload_n 3, 1) := by decide +kernel
theorem dX6_between_26 : decode cX6_between 26 = .ok (.iload 5, 2) := by decide +kernel
theorem dX6_between_28 : decode cX6_between 28 = .ok (.isub, 1) := by decide +kernel
theorem dX6_between_29 : decode cX6_between 29 = .ok (.aload_n 0, 1) := by decide +kernel
theorem dX6_between_30 : decode cX6_between 30 = .ok (.iload_n 1, 1) := by decide +kernel
theorem dX6_between_31 : decode cX6_between 31 = .ok (.iconst 2, 1) := by decide +kernel
theorem dX6_between_32 : decode cX6_between 32 = .ok (.invokevirtual 37, 3) := by decide +kernel
theorem dX6_between_35 : decode cX6_between 35 = .ok (.isub, 1) := by decide +kernel
theorem dX6_between_36 : decode cX6_between 36 = .ok (.ireturn, 1) := by decide +kernel
theorem dX6_counts_0 : decode cX6_counts 0 = .ok (.aload_n 0, 1) := by decide +kernel
theorem dX6_counts_1 : decode cX6_counts 1 = .ok (.iload_n 1, 1) := by decide +kernel
theorem dX6_counts_2 : decode cX6_counts 2 = .ok (.iload_n 2, 1) := by decide +kernel
theorem dX6_counts_3 : decode cX6_counts 3 = .ok (.invokevirtual 49, 3) := by decide +kernel
theorem dX6_counts_6 : decode cX6_counts 6 = .ok (.ifCond .eq 34, 3) := by decide +kernel
theorem dX6_counts_9 : decode cX6_counts 9 = .ok (.aload_n 0, 1) := by decide +kernel
theorem dX6_counts_10 : decode cX6_counts 10 = .ok (.iload_n 1, 1) := by decide +kernel
theorem dX6_counts_11 : decode cX6_counts 11 = .ok (.iload_n 2, 1) := by decide +kernel
theorem dX6_counts_12 : decode cX6_counts 12 = .ok (.iconst 0, 1) := by decide +kernel
theorem dX6_counts_13 : decode cX6_counts 13 = .ok (.invokevirtual 45, 3) := by decide +kernel
theorem dX6_counts_16 : decode cX6_counts 16 = .ok (.iload_n 3, 1) := by decide +kernel
theorem dX6_counts_17 : decode cX6_counts 17 = .ok (.if_icmp .ne 23, 3) := by decide +kernel
theorem dX6_counts_20 : decode cX6_counts 20 = .ok (.iload_n 1, 1) := by decide +kernel
theorem dX6_counts_21 : decode cX6_counts 21 = .ok (.aload_n 0, 1) := by decide +kernel
theorem dX6_counts_22 : decode cX6_counts 22 = .ok (.getfield 13, 3) := by decide +kernel
theorem dX6_counts_25 : decode cX6_counts 25 = .ok (.if_icmp .ne 11, 3) := by decide +kernel
theorem dX6_counts_28 : decode cX6_counts 28 = .ok (.iload_n 2, 1) := by decide +kernel
theorem dX6_counts_29 : decode cX6_counts 29 = .ok (.aload_n 0, 1) := by decide +kernel
theorem dX6_counts_30 : decode cX6_counts 30 = .ok (.getfield 17, 3) := by decide +kernel
theorem dX6_counts_33 : decode cX6_counts 33 = .ok (.if_icmp .eq 7, 3) := by decide +kernel
theorem dX6_counts_36 : decode cX6_counts 36 = .ok (.iconst 1, 1) := by decide +kernel
theorem dX6_counts_37 : decode cX6_counts 37 = .ok (.goto 4, 3) := by decide +kernel
theorem dX6_counts_40 : decode cX6_counts 40 = .ok (.iconst 0, 1) := by decide +kernel
theorem dX6_counts_41 : decode cX6_counts 41 = .ok (.ireturn, 1) := by decide +kernel
theorem dX6_busy_0 : decode cX6_busy 0 = .ok (.iconst 0, 1) := by decide +kernel
theorem dX6_busy_1 : decode cX6_busy 1 = .ok (.istore 5, 2) := by decide +kernel
theorem dX6_busy_3 : decode cX6_busy 3 = .ok (.iconst 0, 1) := by decide +kernel
theorem dX6_busy_4 : decode cX6_busy 4 = .ok (.istore 6, 2) := by decide +kernel
theorem dX6_busy_6 : decode cX6_busy 6 = .ok (.iload 6, 2) := by decide +kernel
theorem dX6_busy_8 : decode cX6_busy 8 = .ok (.aload_n 0, 1) := by decide +kernel
theorem dX6_busy_9 : decode cX6_busy 9 = .ok (.getfield 7, 3) := by decide +kernel
theorem dX6_busy_12 : decode cX6_busy 12 = .ok (.iconst 1, 1) := by decide +kernel
theorem dX6_busy_13 : decode cX6_busy 13 = .ok (.iaload, 1) := by decide +kernel
theorem dX6_busy_14 : decode cX6_busy 14 = .ok (.if_icmp .ge 69, 3) := by decide +kernel
theorem dX6_busy_17 : decode cX6_busy 17 = .ok (.iconst 0, 1) := by decide +kernel
theorem dX6_busy_18 : decode cX6_busy 18 = .ok (.istore 7, 2) := by decide +kernel
theorem dX6_busy_20 : decode cX6_busy 20 = .ok (.iload 7, 2) := by decide +kernel
theorem dX6_busy_22 : decode cX6_busy 22 = .ok (.aload_n 0, 1) := by decide +kernel
theorem dX6_busy_23 : decode cX6_busy 23 = .ok (.iload 6, 2) := by decide +kernel
theorem dX6_busy_25 : decode cX6_busy 25 = .ok (.iconst 3, 1) := by decide +kernel
theorem dX6_busy_26 : decode cX6_busy 26 = .ok (.invokevirtual 37, 3) := by decide +kernel
theorem dX6_busy_29 : decode cX6_busy 29 = .ok (.if_icmp .ge 48, 3) := by decide +kernel
theorem dX6_busy_32 : decode cX6_busy 32 = .ok (.aload_n 0, 1) := by decide +kernel
theorem dX6_busy_33 : decode cX6_busy 33 = .ok (.iload 6, 2) := by decide +kernel
theorem dX6_busy_35 : decode cX6_busy 35 = .ok (.iload 7, 2) := by decide +kernel
theorem dX6_busy_37 : decode cX6_busy 37 = .ok (.iload_n 2, 1) := by decide +kernel
theorem dX6_busy_38 : decode cX6_busy 38 = .ok (.invokevirtual 52, 3) := by decide +kernel
theorem dX6_busy_41 : decode cX6_busy 41 = .ok (.ifCond .eq 30, 3) := by decide +kernel
theorem dX6_busy_44 : decode cX6_busy 44 = .ok (.aload_n 0, 1) := by decide +kernel
theorem dX6_busy_45 : decode cX6_busy 45 = .ok (.iload 6, 2) := by decide +kernel
theorem dX6_busy_47 : decode cX6_busy 47 = .ok (.iload 7, 2) := by decide +kernel
theorem dX6_busy_49 : decode cX6_busy 49 = .ok (.iload_n 3, 1) := by decide +kernel
theorem dX6_busy_50 : decode cX6_busy 50 = .ok (.iload 4, 2) := by decide +kernel
theorem dX6_busy_52 : decode cX6_busy 52 = .ok (.invokevirtual 55, 3) := by decide +kernel
theorem dX6_busy_55 : decode cX6_busy 55 = .ok (.ifCond .ge 16, 3) := by decide +kernel
theorem dX6_busy_58 : decode cX6_busy 58 = .ok (.iload 5, 2) := by decide +kernel
theorem dX6_busy_60 : decode cX6_busy 60 = .ok (.aload_n 0, 1) := by decide +kernel
theorem dX6_busy_61 : decode cX6_busy 61 = .ok (.iload 6, 2) := by decide +kernel
theorem dX6_busy_63 : decode cX6_busy 63 = .ok (.invokevirtual 59, 3) := by decide +kernel
theorem dX6_busy_66 : decode cX6_busy 66 = .ok (.iload_n 1, 1) := by decide +kernel
theorem dX6_busy_67 : decode cX6_busy 67 = .ok (.iand, 1) := by decide +kernel
theorem dX6_busy_68 : decode cX6_busy 68 = .ok (.ior, 1) := by decide +kernel
theorem dX6_busy_69 : decode cX6_busy 69 = .ok (.istore 5, 2) := by decide +kernel
theorem dX6_busy_71 : decode cX6_busy 71 = .ok (.iinc 7 1, 3) := by decide +kernel
theorem dX6_busy_74 : decode cX6_busy 74 = .ok (.goto (-54), 3) := by decide +kernel
theorem dX6_busy_77 : decode cX6_busy 77 = .ok (.iinc 6 1, 3) := by decide +kernel
theorem dX6_busy_80 : decode cX6_busy 80 = .ok (.goto (-74), 3) := by decide +kernel
theorem dX6_busy_83 : decode cX6_busy 83 = .ok (.iconst 0, 1) := by decide +kernel
theorem dX6_busy_84 : decode cX6_busy 84 = .ok (.istore 6, 2) := by decide +kernel
theorem dX6_busy_86 : decode cX6_busy 86 = .ok (.iload 6, 2) := by decide +kernel
theorem dX6_busy_88 : decode cX6_busy 88 = .ok (.bipush 6, 2) := by decide +kernel
theorem dX6_busy_90 : decode cX6_busy 90 = .ok (.if_icmp .ge 23, 3) := by decide +kernel
theorem dX6_busy_93 : decode cX6_busy 93 = .ok (.iload 5, 2) := by decide +kernel
theorem dX6_busy_95 : decode cX6_busy 95 = .ok (.iload 6, 2) := by decide +kernel
theorem dX6_busy_97 : decode cX6_busy 97 = .ok (.ishr, 1) := by decide +kernel
theorem dX6_busy_98 : decode cX6_busy 98 = .ok (.iconst 1, 1) := by decide +kernel
theorem dX6_busy_99 : decode cX6_busy 99 = .ok (.iand, 1) := by decide +kernel
theorem dX6_busy_100 : decode cX6_busy 100 = .ok (.iconst 1, 1) := by decide +kernel
theorem dX6_busy_101 : decode cX6_busy 101 = .ok (.if_icmp .ne 6, 3) := by decide +kernel
theorem dX6_busy_104 : decode cX6_busy 104 = .ok (.iload 6, 2) := by decide +kernel
theorem dX6_busy_106 : decode cX6_busy 106 = .ok (.ireturn, 1) := by decide +kernel
theorem dX6_busy_107 : decode cX6_busy 107 = .ok (.iinc 6 1, 3) := by decide +kernel
theorem dX6_busy_110 : decode cX6_busy 110 = .ok (.goto (-24), 3) := by decide +kernel
theorem dX6_busy_113 : decode cX6_busy 113 = .ok (.iconst (-1), 1) := by decide +kernel
theorem dX6_busy_114 : decode cX6_busy 114 = .ok (.ireturn, 1) := by decide +kernel
theorem dX6_fits_0 : decode cX6_fits 0 = .ok (.aload_n 0, 1) := by decide +kernel
theorem dX6_fits_1 : decode cX6_fits 1 = .ok (.getfield 7, 3) := by decide +kernel
theorem dX6_fits_4 : decode cX6_fits 4 = .ok (.iconst 5, 1) := by decide +kernel
theorem dX6_fits_5 : decode cX6_fits 5 = .ok (.iload_n 1, 1) := by decide +kernel
theorem dX6_fits_6 : decode cX6_fits 6 = .ok (.iadd, 1) := by decide +kernel
theorem dX6_fits_7 : decode cX6_fits 7 = .ok (.iaload, 1) := by decide +kernel
theorem dX6_fits_8 : decode cX6_fits 8 = .ok (.iload_n 2, 1) := by decide +kernel
theorem dX6_fits_9 : decode cX6_fits 9 = .ok (.invokestatic 63, 3) := by decide +kernel
theorem dX6_fits_12 : decode cX6_fits 12 = .ok (.if_icmp .ge 5, 3) := by decide +kernel
theorem dX6_fits_15 : decode cX6_fits 15 = .ok (.iconst 0, 1) := by decide +kernel
theorem dX6_fits_16 : decode cX6_fits 16 = .ok (.ireturn, 1) := by decide +kernel
theorem dX6_fits_17 : decode cX6_fits 17 = .ok (.iconst 0, 1) := by decide +kernel
theorem dX6_fits_18 : decode cX6_fits 18 = .ok (.istore 6, 2) := by decide +kernel
theorem dX6_fits_20 : decode cX6_fits 20 = .ok (.iload 6, 2) := by decide +kernel
theorem dX6_fits_22 : decode cX6_fits 22 = .ok (.aload_n 0, 1) := by decide +kernel
theorem dX6_fits_23 : decode cX6_fits 23 = .ok (.getfield 7, 3) := by decide +kernel
theorem dX6_fits_26 : decode cX6_fits 26 = .ok (.iconst 1, 1) := by decide +kernel
theorem dX6_fits_27 : decode cX6_fits 27 = .ok (.iaload, 1) := by decide +kernel
theorem dX6_fits_28 : decode cX6_fits 28 = .ok (.if_icmp .ge 134, 3) := by decide +kernel
theorem dX6_fits_31 : decode cX6_fits 31 = .ok (.iconst 0, 1) := by decide +kernel
theorem dX6_fits_32 : decode cX6_fits 32 = .ok (.istore 7, 2) := by decide +kernel
theorem dX6_fits_34 : decode cX6_fits 34 = .ok (.iload 7, 2) := by decide +kernel
theorem dX6_fits_36 : decode cX6_fits 36 = .ok (.aload_n 0, 1) := by decide +kernel
theorem dX6_fits_37 : decode cX6_fits 37 = .ok (.iload 6, 2) := by decide +kernel
theorem dX6_fits_39 : decode cX6_fits 39 = .ok (.iconst 3, 1) := by decide +kernel
theorem dX6_fits_40 : decode cX6_fits 40 = .ok (.invokevirtual 37, 3) := by decide +kernel
theorem dX6_fits_43 : decode cX6_fits 43 = .ok (.if_icmp .ge 113, 3) := by decide +kernel
theorem dX6_fits_46 : decode cX6_fits 46 = .ok (.aload_n 0, 1) := by decide +kernel
theorem dX6_fits_47 : decode cX6_fits 47 = .ok (.iload 6, 2) := by decide +kernel
theorem dX6_fits_49 : decode cX6_fits 49 = .ok (.iload 7, 2) := by decide +kernel
theorem dX6_fits_51 : decode cX6_fits 51 = .ok (.iload_n 3, 1) := by decide +kernel
theorem dX6_fits_52 : decode cX6_fits 52 = .ok (.invokevirtual 52, 3) := by decide +kernel
theorem dX6_fits_55 : decode cX6_fits 55 = .ok (.ifCond .ne 6, 3) := by decide +kernel
theorem dX6_fits_58 : decode cX6_fits 58 = .ok (.goto 92, 3) := by decide +kernel
theorem dX6_fits_61 : decode cX6_fits 61 = .ok (.aload_n 0, 1) := by decide +kernel
theorem dX6_fits_62 : decode cX6_fits 62 = .ok (.iload 6, 2) := by decide +kernel
theorem dX6_fits_64 : decode cX6_fits 64 = .ok (.iload 7, 2) := by decide +kernel
theorem dX6_fits_66 : decode cX6_fits 66 = .ok (.iconst 3, 1) := by decide +kernel
theorem dX6_fits_67 : decode cX6_fits 67 = .ok (.invokevirtual 45, 3) := by decide +kernel
theorem dX6_fits_70 : decode cX6_fits 70 = .ok (.istore 8, 2) := by decide +kernel
theorem dX6_fits_72 : decode cX6_fits 72 = .ok (.aload_n 0, 1) := by decide +kernel
theorem dX6_fits_73 : decode cX6_fits 73 = .ok (.iload 6, 2) := by decide +kernel
theorem dX6_fits_75 : decode cX6_fits 75 = .ok (.iload 7, 2) := by decide +kernel
theorem dX6_fits_77 : decode cX6_fits 77 = .ok (.iload 4, 2) := by decide +kernel
theorem dX6_fits_79 : decode cX6_fits 79 = .ok (.iload 5, 2) := by decide +kernel
theorem dX6_fits_81 : decode cX6_fits 81 = .ok (.invokevirtual 55, 3) := by decide +kernel
theorem dX6_fits_84 : decode cX6_fits 84 = .ok (.istore 9, 2) := by decide +kernel
theorem dX6_fits_86 : decode cX6_fits 86 = .ok (.iload 8, 2) := by decide +kernel
theorem dX6_fits_88 : decode cX6_fits 88 = .ok (.iload_n 1, 1) := by decide +kernel
theorem dX6_fits_89 : decode cX6_fits 89 = .ok (.if_icmp .ne 10, 3) := by decide +kernel
theorem dX6_fits_92 : decode cX6_fits 92 = .ok (.iload 9, 2) := by decide +kernel
theorem dX6_fits_94 : decode cX6_fits 94 = .ok (.ifCond .ge 5, 3) := by decide +kernel
theorem dX6_fits_97 : decode cX6_fits 97 = .ok (.iconst 0, 1) := by decide +kernel
theorem dX6_fits_98 : decode cX6_fits 98 = .ok (.ireturn, 1) := by decide +kernel
theorem dX6_fits_99 : decode cX6_fits 99 = .ok (.aload_n 0, 1) := by decide +kernel
theorem dX6_fits_100 : decode cX6_fits 100 = .ok (.iload 6, 2) := by decide +kernel
theorem dX6_fits_102 : decode cX6_fits 102 = .ok (.invokevirtual 59, 3) := by decide +kernel
theorem dX6_fits_105 : decode cX6_fits 105 = .ok (.iload_n 2, 1) := by decide +kernel
theorem dX6_fits_106 : decode cX6_fits 106 = .ok (.iand, 1) := by decide +kernel
theorem dX6_fits_107 : decode cX6_fits 107 = .ok (.ifCond .eq 43, 3) := by decide +kernel
theorem dX6_fits_110 : decode cX6_fits 110 = .ok (.iload 9, 2) := by decide +kernel
theorem dX6_fits_112 : decode cX6_fits 112 = .ok (.ifCond .lt 36, 3) := by decide +kernel
theorem dX6_fits_115 : decode cX6_fits 115 = .ok (.aload_n 0, 1) := by decide +kernel
theorem dX6_fits_116 : decode cX6_fits 116 = .ok (.getfield 7, 3) := by decide +kernel
theorem dX6_fits_119 : decode cX6_fits 119 = .ok (.bipush 9, 2) := by decide +kernel
theorem dX6_fits_121 : decode cX6_fits 121 = .ok (.iload 8, 2) := by decide +kernel
theorem dX6_fits_123 : decode cX6_fits 123 = .ok (.iadd, 1) := by decide +kernel
theorem dX6_fits_124 : decode cX6_fits 124 = .ok (.iaload, 1) := by decide +kernel
theorem dX6_fits_125 : decode cX6_fits 125 = .ok (.aload_n 0, 1) := by decide +kernel
theorem dX6_fits_126 : decode cX6_fits 126 = .ok (.getfield 7, 3) := by decide +kernel
theorem dX6_fits_129 : decode cX6_fits 129 = .ok (.bipush 9, 2) := by decide +kernel
theorem dX6_fits_131 : decode cX6_fits 131 = .ok (.iload_n 1, 1) := by decide +kernel
theorem dX6_fits_132 : decode cX6_fits 132 = .ok (.iadd, 1) := by decide +kernel
theorem dX6_fits_133 : decode cX6_fits 133 = .ok (.iaload, 1) := by decide +kernel
theorem dX6_fits_134 : decode cX6_fits 134 = .ok (.if_icmp .eq 16, 3) := by decide +kernel
theorem dX6_fits_137 : decode cX6_fits 137 = .ok (.iload 9, 2) := by decide +kernel
theorem dX6_fits_139 : decode cX6_fits 139 = .ok (.aload_n 0, 1) := by decide +kernel
theorem dX6_fits_140 : decode cX6_fits 140 = .ok (.getfield 7, 3) := by decide +kernel
theorem dX6_fits_143 : decode cX6_fits 143 = .ok (.iconst 0, 1) := by decide +kernel
theorem dX6_fits_144 : decode cX6_fits 144 = .ok (.iaload, 1) := by decide +kernel
theorem dX6_fits_145 : decode cX6_fits 145 = .ok (.if_icmp .ge 5, 3) := by decide +kernel
theorem dX6_fits_148 : decode cX6_fits 148 = .ok (.iconst 0, 1) := by decide +kernel
theorem dX6_fits_149 : decode cX6_fits 149 = .ok (.ireturn, 1) := by decide +kernel
theorem dX6_fits_150 : decode cX6_fits 150 = .ok (.iinc 7 1, 3) := by decide +kernel
theorem dX6_fits_153 : decode cX6_fits 153 = .ok (.goto (-119), 3) := by decide +kernel
theorem dX6_fits_156 : decode cX6_fits 156 = .ok (.iinc 6 1, 3) := by decide +kernel
theorem dX6_fits_159 : decode cX6_fits 159 = .ok (.goto (-139), 3) := by decide +kernel
theorem dX6_fits_162 : decode cX6_fits 162 = .ok (.iconst 1, 1) := by decide +kernel
theorem dX6_fits_163 : decode cX6_fits 163 = .ok (.ireturn, 1) := by decide +kernel
theorem dX6_smallest_0 : decode cX6_smallest 0 = .ok (.iconst (-1), 1) := by decide +kernel
theorem dX6_smallest_1 : decode cX6_smallest 1 = .ok (.istore 5, 2) := by decide +kernel
theorem dX6_smallest_3 : decode cX6_smallest 3 = .ok (.iconst 0, 1) := by decide +kernel
theorem dX6_smallest_4 : decode cX6_smallest 4 = .ok (.istore 6, 2) := by decide +kernel
theorem dX6_smallest_6 : decode cX6_smallest 6 = .ok (.iload 6, 2) := by decide +kernel
theorem dX6_smallest_8 : decode cX6_smallest 8 = .ok (.iconst 4, 1) := by decide +kernel
theorem dX6_smallest_9 : decode cX6_smallest 9 = .ok (.if_icmp .ge 53, 3) := by decide +kernel
theorem dX6_smallest_12 : decode cX6_smallest 12 = .ok (.aload_n 0, 1) := by decide +kernel
theorem dX6_smallest_13 : decode cX6_smallest 13 = .ok (.iload 6, 2) := by decide +kernel
theorem dX6_smallest_15 : decode cX6_smallest 15 = .ok (.iload_n 1, 1) := by decide +kernel
theorem dX6_smallest_16 : decode cX6_smallest 16 = .ok (.iload_n 2, 1) := by decide +kernel
theorem dX6_smallest_17 : decode cX6_smallest 17 = .ok (.iload_n 3, 1) := by decide +kernel
theorem dX6_smallest_18 : decode cX6_smallest 18 = .ok (.iload 4, 2) := by decide +kernel
theorem dX6_smallest_20 : decode cX6_smallest 20 = .ok (.invokevirtual 66, 3) := by decide +kernel
theorem dX6_smallest_23 : decode cX6_smallest 23 = .ok (.ifCond .eq 33, 3) := by decide +kernel
theorem dX6_smallest_26 : decode cX6_smallest 26 = .ok (.iload 5, 2) := by decide +kernel
theorem dX6_smallest_28 : decode cX6_smallest 28 = .ok (.ifCond .lt 24, 3) := by decide +kernel
theorem dX6_smallest_31 : decode cX6_smallest 31 = .ok (.aload_n 0, 1) := by decide +kernel
theorem dX6_smallest_32 : decode cX6_smallest 32 = .ok (.getfield 7, 3) := by decide +kernel
theorem dX6_smallest_35 : decode cX6_smallest 35 = .ok (.iconst 5, 1) := by decide +kernel
theorem dX6_smallest_36 : decode cX6_smallest 36 = .ok (.iload 6, 2) := by decide +kernel
theorem dX6_smallest_38 : decode cX6_smallest 38 = .ok (.iadd, 1) := by decide +kernel
theorem dX6_smallest_39 : decode cX6_smallest 39 = .ok (.iaload, 1) := by decide +kernel
theorem dX6_smallest_40 : decode cX6_smallest 40 = .ok (.aload_n 0, 1) := by decide +kernel
theorem dX6_smallest_41 : decode cX6_smallest 41 = .ok (.getfield 7, 3) := by decide +kernel
theorem dX6_smallest_44 : decode cX6_smallest 44 = .ok (.iconst 5, 1) := by decide +kernel
theorem dX6_smallest_45 : decode cX6_smallest 45 = .ok (.iload 5, 2) := by decide +kernel
theorem dX6_smallest_47 : decode cX6_smallest 47 = .ok (.iadd, 1) := by decide +kernel
theorem dX6_smallest_48 : decode cX6_smallest 48 = .ok (.iaload, 1) := by decide +kernel
theorem dX6_smallest_49 : decode cX6_smallest 49 = .ok (.if_icmp .ge 7, 3) := by decide +kernel
theorem dX6_smallest_52 : decode cX6_smallest 52 = .ok (.iload 6, 2) := by decide +kernel
theorem dX6_smallest_54 : decode cX6_smallest 54 = .ok (.istore 5, 2) := by decide +kernel
theorem dX6_smallest_56 : decode cX6_smallest 56 = .ok (.iinc 6 1, 3) := by decide +kernel
theorem dX6_smallest_59 : decode cX6_smallest 59 = .ok (.goto (-53), 3) := by decide +kernel
theorem dX6_smallest_62 : decode cX6_smallest 62 = .ok (.iload 5, 2) := by decide +kernel
theorem dX6_smallest_64 : decode cX6_smallest 64 = .ok (.ireturn, 1) := by decide +kernel
theorem dX6_refuses_0 : decode cX6_refuses 0 = .ok (.aload_n 0, 1) := by decide +kernel
theorem dX6_refuses_1 : decode cX6_refuses 1 = .ok (.getfield 7, 3) := by decide +kernel
theorem dX6_refuses_4 : decode cX6_refuses 4 = .ok (.iconst 3, 1) := by decide +kernel
theorem dX6_refuses_5 : decode cX6_refuses 5 = .ok (.iload_n 1, 1) := by decide +kernel
theorem dX6_refuses_6 : decode cX6_refuses 6 = .ok (.iastore, 1) := by decide +kernel
theorem dX6_refuses_7 : decode cX6_refuses 7 = .ok (.aload_n 0, 1) := by decide +kernel
theorem dX6_refuses_8 : decode cX6_refuses 8 = .ok (.getfield 7, 3) := by decide +kernel
theorem dX6_refuses_11 : decode cX6_refuses 11 = .ok (.iconst 4, 1) := by decide +kernel
theorem dX6_refuses_12 : decode cX6_refuses 12 = .ok (.iload_n 2, 1) := by decide +kernel
theorem dX6_refuses_13 : decode cX6_refuses 13 = .ok (.iastore, 1) := by decide +kernel
theorem dX6_refuses_14 : decode cX6_refuses 14 = .ok (.aload_n 0, 1) := by decide +kernel
theorem dX6_refuses_15 : decode cX6_refuses 15 = .ok (.iload_n 3, 1) := by decide +kernel
theorem dX6_refuses_16 : decode cX6_refuses 16 = .ok (.invokevirtual 34, 3) := by decide +kernel
theorem dX6_refuses_19 : decode cX6_refuses 19 = .ok (.ireturn, 1) := by decide +kernel
theorem dX6_dates_0 : decode cX6_dates 0 = .ok (.bipush 10, 2) := by decide +kernel
theorem dX6_dates_2 : decode cX6_dates 2 = .ok (.iconst 4, 1) := by decide +kernel
theorem dX6_dates_3 : decode cX6_dates 3 = .ok (.iload_n 2, 1) := by decide +kernel
theorem dX6_dates_4 : decode cX6_dates 4 = .ok (.imul, 1) := by decide +kernel
theorem dX6_dates_5 : decode cX6_dates 5 = .ok (.iadd, 1) := by decide +kernel
theorem dX6_dates_6 : decode cX6_dates 6 = .ok (.istore 6, 2) := by decide +kernel
theorem dX6_dates_8 : decode cX6_dates 8 = .ok (.aload_n 0, 1) := by decide +kernel
theorem dX6_dates_9 : decode cX6_dates 9 = .ok (.iload_n 1, 1) := by decide +kernel
theorem dX6_dates_10 : decode cX6_dates 10 = .ok (.iload 6, 2) := by decide +kernel
theorem dX6_dates_12 : decode cX6_dates 12 = .ok (.iconst 0, 1) := by decide +kernel
theorem dX6_dates_13 : decode cX6_dates 13 = .ok (.iadd, 1) := by decide +kernel
theorem dX6_dates_14 : decode cX6_dates 14 = .ok (.iload_n 3, 1) := by decide +kernel
theorem dX6_dates_15 : decode cX6_dates 15 = .ok (.invokevirtual 70, 3) := by decide +kernel
theorem dX6_dates_18 : decode cX6_dates 18 = .ok (.aload_n 0, 1) := by decide +kernel
theorem dX6_dates_19 : decode cX6_dates 19 = .ok (.iload_n 1, 1) := by decide +kernel
theorem dX6_dates_20 : decode cX6_dates 20 = .ok (.iload 6, 2) := by decide +kernel
theorem dX6_dates_22 : decode cX6_dates 22 = .ok (.iconst 1, 1) := by decide +kernel
theorem dX6_dates_23 : decode cX6_dates 23 = .ok (.iadd, 1) := by decide +kernel
theorem dX6_dates_24 : decode cX6_dates 24 = .ok (.iload 4, 2) := by decide +kernel
theorem dX6_dates_26 : decode cX6_dates 26 = .ok (.invokevirtual 70, 3) := by decide +kernel
theorem dX6_dates_29 : decode cX6_dates 29 = .ok (.aload_n 0, 1) := by decide +kernel
theorem dX6_dates_30 : decode cX6_dates 30 = .ok (.iload_n 1, 1) := by decide +kernel
theorem dX6_dates_31 : decode cX6_dates 31 = .ok (.iload 6, 2) := by decide +kernel
theorem dX6_dates_33 : decode cX6_dates 33 = .ok (.iconst 2, 1) := by decide +kernel
theorem dX6_dates_34 : decode cX6_dates 34 = .ok (.iadd, 1) := by decide +kernel
theorem dX6_dates_35 : decode cX6_dates 35 = .ok (.iconst 0, 1) := by decide +kernel
theorem dX6_dates_36 : decode cX6_dates 36 = .ok (.invokevirtual 70, 3) := by decide +kernel
theorem dX6_dates_39 : decode cX6_dates 39 = .ok (.aload_n 0, 1) := by decide +kernel
theorem dX6_dates_40 : decode cX6_dates 40 = .ok (.iload_n 1, 1) := by decide +kernel
theorem dX6_dates_41 : decode cX6_dates 41 = .ok (.iload 6, 2) := by decide +kernel
theorem dX6_dates_43 : decode cX6_dates 43 = .ok (.iconst 3, 1) := by decide +kernel
theorem dX6_dates_44 : decode cX6_dates 44 = .ok (.iadd, 1) := by decide +kernel
theorem dX6_dates_45 : decode cX6_dates 45 = .ok (.iload 5, 2) := by decide +kernel
theorem dX6_dates_47 : decode cX6_dates 47 = .ok (.invokevirtual 70, 3) := by decide +kernel
theorem dX6_dates_50 : decode cX6_dates 50 = .ok (.return_, 1) := by decide +kernel
theorem dX6_ask_0 : decode cX6_ask 0 = .ok (.iload_n 1, 1) := by decide +kernel
theorem dX6_ask_1 : decode cX6_ask 1 = .ok (.invokestatic 74, 3) := by decide +kernel
theorem dX6_ask_4 : decode cX6_ask 4 = .ok (.ifCond .eq 53, 3) := by decide +kernel
theorem dX6_ask_7 : decode cX6_ask 7 = .ok (.iload_n 2, 1) := by decide +kernel
theorem dX6_ask_8 : decode cX6_ask 8 = .ok (.iconst 0, 1) := by decide +kernel
theorem dX6_ask_9 : decode cX6_ask 9 = .ok (.bipush 63, 2) := by decide +kernel
theorem dX6_ask_11 : decode cX6_ask 11 = .ok (.invokestatic 26, 3) := by decide +kernel
theorem dX6_ask_14 : decode cX6_ask 14 = .ok (.ifCond .eq 43, 3) := by decide +kernel
theorem dX6_ask_17 : decode cX6_ask 17 = .ok (.iload_n 3, 1) := by decide +kernel
theorem dX6_ask_18 : decode cX6_ask 18 = .ok (.invokestatic 77, 3) := by decide +kernel
theorem dX6_ask_21 : decode cX6_ask 21 = .ok (.ifCond .eq 36, 3) := by decide +kernel
theorem dX6_ask_24 : decode cX6_ask 24 = .ok (.iload 4, 2) := by decide +kernel
theorem dX6_ask_26 : decode cX6_ask 26 = .ok (.invokestatic 80, 3) := by decide +kernel
theorem dX6_ask_29 : decode cX6_ask 29 = .ok (.ifCond .eq 28, 3) := by decide +kernel
theorem dX6_ask_32 : decode cX6_ask 32 = .ok (.iload 5, 2) := by decide +kernel
theorem dX6_ask_34 : decode cX6_ask 34 = .ok (.iconst 1, 1) := by decide +kernel
theorem dX6_ask_35 : decode cX6_ask 35 = .ok (.bipush 6, 2) := by decide +kernel
theorem dX6_ask_37 : decode cX6_ask 37 = .ok (.invokestatic 26, 3) := by decide +kernel
theorem dX6_ask_40 : decode cX6_ask 40 = .ok (.ifCond .eq 17, 3) := by decide +kernel
theorem dX6_ask_43 : decode cX6_ask 43 = .ok (.iload 4, 2) := by decide +kernel
theorem dX6_ask_45 : decode cX6_ask 45 = .ok (.iload 5, 2) := by decide +kernel
theorem dX6_ask_47 : decode cX6_ask 47 = .ok (.iadd, 1) := by decide +kernel
theorem dX6_ask_48 : decode cX6_ask 48 = .ok (.bipush 16, 2) := by decide +kernel
theorem dX6_ask_50 : decode cX6_ask 50 = .ok (.if_icmp .gt 7, 3) := by decide +kernel
theorem dX6_ask_53 : decode cX6_ask 53 = .ok (.iconst 1, 1) := by decide +kernel
theorem dX6_ask_54 : decode cX6_ask 54 = .ok (.goto 4, 3) := by decide +kernel
theorem dX6_ask_57 : decode cX6_ask 57 = .ok (.iconst 0, 1) := by decide +kernel
theorem dX6_ask_58 : decode cX6_ask 58 = .ok (.istore 6, 2) := by decide +kernel
theorem dX6_ask_60 : decode cX6_ask 60 = .ok (.aload_n 0, 1) := by decide +kernel
theorem dX6_ask_61 : decode cX6_ask 61 = .ok (.iload 6, 2) := by decide +kernel
theorem dX6_ask_63 : decode cX6_ask 63 = .ok (.ifCond .ne 7, 3) := by decide +kernel
theorem dX6_ask_66 : decode cX6_ask 66 = .ok (.iconst 1, 1) := by decide +kernel
theorem dX6_ask_67 : decode cX6_ask 67 = .ok (.goto 19, 3) := by decide +kernel
theorem dX6_ask_70 : decode cX6_ask 70 = .ok (.aload_n 0, 1) := by decide +kernel
theorem dX6_ask_71 : decode cX6_ask 71 = .ok (.getfield 7, 3) := by decide +kernel
theorem dX6_ask_74 : decode cX6_ask 74 = .ok (.iconst 1, 1) := by decide +kernel
theorem dX6_ask_75 : decode cX6_ask 75 = .ok (.iaload, 1) := by decide +kernel
theorem dX6_ask_76 : decode cX6_ask 76 = .ok (.bipush 8, 2) := by decide +kernel
theorem dX6_ask_78 : decode cX6_ask 78 = .ok (.if_icmp .ne 7, 3) := by decide +kernel
theorem dX6_ask_81 : decode cX6_ask 81 = .ok (.iconst 2, 1) := by decide +kernel
theorem dX6_ask_82 : decode cX6_ask 82 = .ok (.goto 4, 3) := by decide +kernel
theorem dX6_ask_85 : decode cX6_ask 85 = .ok (.iconst 0, 1) := by decide +kernel
theorem dX6_ask_86 : decode cX6_ask 86 = .ok (.invokevirtual 34, 3) := by decide +kernel
theorem dX6_ask_89 : decode cX6_ask 89 = .ok (.ifCond .eq 5, 3) := by decide +kernel
theorem dX6_ask_92 : decode cX6_ask 92 = .ok (.iconst 0, 1) := by decide +kernel
theorem dX6_ask_93 : decode cX6_ask 93 = .ok (.ireturn, 1) := by decide +kernel
theorem dX6_ask_94 : decode cX6_ask 94 = .ok (.iload_n 2, 1) := by decide +kernel
theorem dX6_ask_95 : decode cX6_ask 95 = .ok (.iconst 1, 1) := by decide +kernel
theorem dX6_ask_96 : decode cX6_ask 96 = .ok (.iload_n 1, 1) := by decide +kernel
theorem dX6_ask_97 : decode cX6_ask 97 = .ok (.ishl, 1) := by decide +kernel
theorem dX6_ask_98 : decode cX6_ask 98 = .ok (.ior, 1) := by decide +kernel
theorem dX6_ask_99 : decode cX6_ask 99 = .ok (.istore 7, 2) := by decide +kernel
theorem dX6_ask_101 : decode cX6_ask 101 = .ok (.aload_n 0, 1) := by decide +kernel
theorem dX6_ask_102 : decode cX6_ask 102 = .ok (.iload 7, 2) := by decide +kernel
theorem dX6_ask_104 : decode cX6_ask 104 = .ok (.iload_n 3, 1) := by decide +kernel
theorem dX6_ask_105 : decode cX6_ask 105 = .ok (.iload 4, 2) := by decide +kernel
theorem dX6_ask_107 : decode cX6_ask 107 = .ok (.iload 5, 2) := by decide +kernel
theorem dX6_ask_109 : decode cX6_ask 109 = .ok (.invokevirtual 83, 3) := by decide +kernel
theorem dX6_ask_112 : decode cX6_ask 112 = .ok (.istore 8, 2) := by decide +kernel
theorem dX6_ask_114 : decode cX6_ask 114 = .ok (.iload 8, 2) := by decide +kernel
theorem dX6_ask_116 : decode cX6_ask 116 = .ok (.ifCond .lt 16, 3) := by decide +kernel
theorem dX6_ask_119 : decode cX6_ask 119 = .ok (.aload_n 0, 1) := by decide +kernel
theorem dX6_ask_120 : decode cX6_ask 120 = .ok (.iconst 1, 1) := by decide +kernel
theorem dX6_ask_121 : decode cX6_ask 121 = .ok (.iload 8, 2) := by decide +kernel
theorem dX6_ask_123 : decode cX6_ask 123 = .ok (.iconst 3, 1) := by decide +kernel
theorem dX6_ask_124 : decode cX6_ask 124 = .ok (.invokevirtual 86, 3) := by decide +kernel
theorem dX6_ask_127 : decode cX6_ask 127 = .ok (.ifCond .eq 5, 3) := by decide +kernel
theorem dX6_ask_130 : decode cX6_ask 130 = .ok (.iconst 0, 1) := by decide +kernel
theorem dX6_ask_131 : decode cX6_ask 131 = .ok (.ireturn, 1) := by decide +kernel
theorem dX6_ask_132 : decode cX6_ask 132 = .ok (.aload_n 0, 1) := by decide +kernel
theorem dX6_ask_133 : decode cX6_ask 133 = .ok (.iload 7, 2) := by decide +kernel
theorem dX6_ask_135 : decode cX6_ask 135 = .ok (.iload_n 3, 1) := by decide +kernel
theorem dX6_ask_136 : decode cX6_ask 136 = .ok (.iload 4, 2) := by decide +kernel
theorem dX6_ask_138 : decode cX6_ask 138 = .ok (.iload 5, 2) := by decide +kernel
theorem dX6_ask_140 : decode cX6_ask 140 = .ok (.invokevirtual 89, 3) := by decide +kernel
theorem dX6_ask_143 : decode cX6_ask 143 = .ok (.istore 9, 2) := by decide +kernel
theorem dX6_ask_145 : decode cX6_ask 145 = .ok (.iload 9, 2) := by decide +kernel
theorem dX6_ask_147 : decode cX6_ask 147 = .ok (.ifCond .ge 15, 3) := by decide +kernel
theorem dX6_ask_150 : decode cX6_ask 150 = .ok (.aload_n 0, 1) := by decide +kernel
theorem dX6_ask_151 : decode cX6_ask 151 = .ok (.iconst 2, 1) := by decide +kernel
theorem dX6_ask_152 : decode cX6_ask 152 = .ok (.iconst 0, 1) := by decide +kernel
theorem dX6_ask_153 : decode cX6_ask 153 = .ok (.iconst 3, 1) := by decide +kernel
theorem dX6_ask_154 : decode cX6_ask 154 = .ok (.invokevirtual 86, 3) := by decide +kernel
theorem dX6_ask_157 : decode cX6_ask 157 = .ok (.ifCond .eq 5, 3) := by decide +kernel
theorem dX6_ask_160 : decode cX6_ask 160 = .ok (.iconst 0, 1) := by decide +kernel
theorem dX6_ask_161 : decode cX6_ask 161 = .ok (.ireturn, 1) := by decide +kernel
theorem dX6_ask_162 : decode cX6_ask 162 = .ok (.aload_n 0, 1) := by decide +kernel
theorem dX6_ask_163 : decode cX6_ask 163 = .ok (.getfield 7, 3) := by decide +kernel
theorem dX6_ask_166 : decode cX6_ask 166 = .ok (.iconst 1, 1) := by decide +kernel
theorem dX6_ask_167 : decode cX6_ask 167 = .ok (.iaload, 1) := by decide +kernel
theorem dX6_ask_168 : decode cX6_ask 168 = .ok (.istore 10, 2) := by decide +kernel
theorem dX6_ask_170 : decode cX6_ask 170 = .ok (.aload_n 0, 1) := by decide +kernel
theorem dX6_ask_171 : decode cX6_ask 171 = .ok (.iload 10, 2) := by decide +kernel
theorem dX6_ask_173 : decode cX6_ask 173 = .ok (.iconst 0, 1) := by decide +kernel
theorem dX6_ask_174 : decode cX6_ask 174 = .ok (.aload_n 0, 1) := by decide +kernel
theorem dX6_ask_175 : decode cX6_ask 175 = .ok (.getfield 7, 3) := by decide +kernel
theorem dX6_ask_178 : decode cX6_ask 178 = .ok (.iconst 2, 1) := by decide +kernel
theorem dX6_ask_179 : decode cX6_ask 179 = .ok (.iaload, 1) := by decide +kernel
theorem dX6_ask_180 : decode cX6_ask 180 = .ok (.invokevirtual 70, 3) := by decide +kernel
theorem dX6_ask_183 : decode cX6_ask 183 = .ok (.aload_n 0, 1) := by decide +kernel
theorem dX6_ask_184 : decode cX6_ask 184 = .ok (.iload 10, 2) := by decide +kernel
theorem dX6_ask_186 : decode cX6_ask 186 = .ok (.iconst 1, 1) := by decide +kernel
theorem dX6_ask_187 : decode cX6_ask 187 = .ok (.iload_n 1, 1) := by decide +kernel
theorem dX6_ask_188 : decode cX6_ask 188 = .ok (.invokevirtual 70, 3) := by decide +kernel
theorem dX6_ask_191 : decode cX6_ask 191 = .ok (.aload_n 0, 1) := by decide +kernel
theorem dX6_ask_192 : decode cX6_ask 192 = .ok (.iload 10, 2) := by decide +kernel
theorem dX6_ask_194 : decode cX6_ask 194 = .ok (.iconst 2, 1) := by decide +kernel
theorem dX6_ask_195 : decode cX6_ask 195 = .ok (.iload 5, 2) := by decide +kernel
theorem dX6_ask_197 : decode cX6_ask 197 = .ok (.invokevirtual 70, 3) := by decide +kernel
theorem dX6_ask_200 : decode cX6_ask 200 = .ok (.aload_n 0, 1) := by decide +kernel
theorem dX6_ask_201 : decode cX6_ask 201 = .ok (.iload 10, 2) := by decide +kernel
theorem dX6_ask_203 : decode cX6_ask 203 = .ok (.iconst 3, 1) := by decide +kernel
theorem dX6_ask_204 : decode cX6_ask 204 = .ok (.iconst 1, 1) := by decide +kernel
theorem dX6_ask_205 : decode cX6_ask 205 = .ok (.invokevirtual 70, 3) := by decide +kernel
theorem dX6_ask_208 : decode cX6_ask 208 = .ok (.iconst 0, 1) := by decide +kernel
theorem dX6_ask_209 : decode cX6_ask 209 = .ok (.istore 11, 2) := by decide +kernel
theorem dX6_ask_211 : decode cX6_ask 211 = .ok (.iload 11, 2) := by decide +kernel
theorem dX6_ask_213 : decode cX6_ask 213 = .ok (.bipush 6, 2) := by decide +kernel
theorem dX6_ask_215 : decode cX6_ask 215 = .ok (.if_icmp .ge 42, 3) := by decide +kernel
theorem dX6_ask_218 : decode cX6_ask 218 = .ok (.aload_n 0, 1) := by decide +kernel
theorem dX6_ask_219 : decode cX6_ask 219 = .ok (.iload 10, 2) := by decide +kernel
theorem dX6_ask_221 : decode cX6_ask 221 = .ok (.iconst 4, 1) := by decide +kernel
theorem dX6_ask_222 : decode cX6_ask 222 = .ok (.iload 11, 2) := by decide +kernel
theorem dX6_ask_224 : decode cX6_ask 224 = .ok (.iadd, 1) := by decide +kernel
theorem dX6_ask_225 : decode cX6_ask 225 = .ok (.iload 11, 2) := by decide +kernel
theorem dX6_ask_227 : decode cX6_ask 227 = .ok (.iload_n 1, 1) := by decide +kernel
theorem dX6_ask_228 : decode cX6_ask 228 = .ok (.if_icmp .eq 18, 3) := by decide +kernel
theorem dX6_ask_231 : decode cX6_ask 231 = .ok (.iload_n 2, 1) := by decide +kernel
theorem dX6_ask_232 : decode cX6_ask 232 = .ok (.iload 11, 2) := by decide +kernel
theorem dX6_ask_234 : decode cX6_ask 234 = .ok (.ishr, 1) := by decide +kernel
theorem dX6_ask_235 : decode cX6_ask 235 = .ok (.iconst 1, 1) := by decide +kernel
theorem dX6_ask_236 : decode cX6_ask 236 = .ok (.iand, 1) := by decide +kernel
theorem dX6_ask_237 : decode cX6_ask 237 = .ok (.iconst 1, 1) := by decide +kernel
theorem dX6_ask_238 : decode cX6_ask 238 = .ok (.if_icmp .ne 8, 3) := by decide +kernel
theorem dX6_ask_241 : decode cX6_ask 241 = .ok (.bipush 111, 2) := by decide +kernel
theorem dX6_ask_243 : decode cX6_ask 243 = .ok (.goto 5, 3) := by decide +kernel
theorem dX6_ask_246 : decode cX6_ask 246 = .ok (.bipush 45, 2) := by decide +kernel
theorem dX6_ask_248 : decode cX6_ask 248 = .ok (.invokevirtual 70, 3) := by decide +kernel
theorem dX6_ask_251 : decode cX6_ask 251 = .ok (.iinc 11 1, 3) := by decide +kernel
theorem dX6_ask_254 : decode cX6_ask 254 = .ok (.goto (-43), 3) := by decide +kernel
theorem dX6_ask_257 : decode cX6_ask 257 = .ok (.aload_n 0, 1) := by decide +kernel
theorem dX6_ask_258 : decode cX6_ask 258 = .ok (.iload 10, 2) := by decide +kernel
theorem dX6_ask_260 : decode cX6_ask 260 = .ok (.iconst 0, 1) := by decide +kernel
theorem dX6_ask_261 : decode cX6_ask 261 = .ok (.iload_n 3, 1) := by decide +kernel
theorem dX6_ask_262 : decode cX6_ask 262 = .ok (.iload 4, 2) := by decide +kernel
theorem dX6_ask_264 : decode cX6_ask 264 = .ok (.iload 9, 2) := by decide +kernel
theorem dX6_ask_266 : decode cX6_ask 266 = .ok (.invokevirtual 92, 3) := by decide +kernel
theorem dX6_ask_269 : decode cX6_ask 269 = .ok (.aload_n 0, 1) := by decide +kernel
theorem dX6_ask_270 : decode cX6_ask 270 = .ok (.getfield 7, 3) := by decide +kernel
theorem dX6_ask_273 : decode cX6_ask 273 = .ok (.iconst 1, 1) := by decide +kernel
theorem dX6_ask_274 : decode cX6_ask 274 = .ok (.dup2, 1) := by decide +kernel
theorem dX6_ask_275 : decode cX6_ask 275 = .ok (.iaload, 1) := by decide +kernel
theorem dX6_ask_276 : decode cX6_ask 276 = .ok (.iconst 1, 1) := by decide +kernel
theorem dX6_ask_277 : decode cX6_ask 277 = .ok (.iadd, 1) := by decide +kernel
theorem dX6_ask_278 : decode cX6_ask 278 = .ok (.iastore, 1) := by decide +kernel
theorem dX6_ask_279 : decode cX6_ask 279 = .ok (.aload_n 0, 1) := by decide +kernel
theorem dX6_ask_280 : decode cX6_ask 280 = .ok (.getfield 7, 3) := by decide +kernel
theorem dX6_ask_283 : decode cX6_ask 283 = .ok (.iconst 2, 1) := by decide +kernel
theorem dX6_ask_284 : decode cX6_ask 284 = .ok (.dup2, 1) := by decide +kernel
theorem dX6_ask_285 : decode cX6_ask 285 = .ok (.iaload, 1) := by decide +kernel
theorem dX6_ask_286 : decode cX6_ask 286 = .ok (.iconst 1, 1) := by decide +kernel
theorem dX6_ask_287 : decode cX6_ask 287 = .ok (.iadd, 1) := by decide +kernel
theorem dX6_ask_288 : decode cX6_ask 288 = .ok (.iastore, 1) := by decide +kernel
theorem dX6_ask_289 : decode cX6_ask 289 = .ok (.aload_n 0, 1) := by decide +kernel
theorem dX6_ask_290 : decode cX6_ask 290 = .ok (.iload 10, 2) := by decide +kernel
theorem dX6_ask_292 : decode cX6_ask 292 = .ok (.iconst 0, 1) := by decide +kernel
theorem dX6_ask_293 : decode cX6_ask 293 = .ok (.invokevirtual 37, 3) := by decide +kernel
theorem dX6_ask_296 : decode cX6_ask 296 = .ok (.ireturn, 1) := by decide +kernel
theorem dX6_extend_0 : decode cX6_extend 0 = .ok (.aload_n 0, 1) := by decide +kernel
theorem dX6_extend_1 : decode cX6_extend 1 = .ok (.iload_n 1, 1) := by decide +kernel
theorem dX6_extend_2 : decode cX6_extend 2 = .ok (.invokevirtual 96, 3) := by decide +kernel
theorem dX6_extend_5 : decode cX6_extend 5 = .ok (.istore 4, 2) := by decide +kernel
theorem dX6_extend_7 : decode cX6_extend 7 = .ok (.aload_n 0, 1) := by decide +kernel
theorem dX6_extend_8 : decode cX6_extend 8 = .ok (.iload 4, 2) := by decide +kernel
theorem dX6_extend_10 : decode cX6_extend 10 = .ok (.ifCond .ge 7, 3) := by decide +kernel
theorem dX6_extend_13 : decode cX6_extend 13 = .ok (.iconst 1, 1) := by decide +kernel
theorem dX6_extend_14 : decode cX6_extend 14 = .ok (.goto 27, 3) := by decide +kernel
theorem dX6_extend_17 : decode cX6_extend 17 = .ok (.iload_n 2, 1) := by decide +kernel
theorem dX6_extend_18 : decode cX6_extend 18 = .ok (.iconst 1, 1) := by decide +kernel
theorem dX6_extend_19 : decode cX6_extend 19 = .ok (.bipush 14, 2) := by decide +kernel
theorem dX6_extend_21 : decode cX6_extend 21 = .ok (.invokestatic 26, 3) := by decide +kernel
theorem dX6_extend_24 : decode cX6_extend 24 = .ok (.ifCond .eq 16, 3) := by decide +kernel
theorem dX6_extend_27 : decode cX6_extend 27 = .ok (.iload_n 3, 1) := by decide +kernel
theorem dX6_extend_28 : decode cX6_extend 28 = .ok (.iconst 1, 1) := by decide +kernel
theorem dX6_extend_29 : decode cX6_extend 29 = .ok (.iconst 5, 1) := by decide +kernel
theorem dX6_extend_30 : decode cX6_extend 30 = .ok (.invokestatic 26, 3) := by decide +kernel
theorem dX6_extend_33 : decode cX6_extend 33 = .ok (.ifCond .eq 7, 3) := by decide +kernel
theorem dX6_extend_36 : decode cX6_extend 36 = .ok (.iconst 0, 1) := by decide +kernel
theorem dX6_extend_37 : decode cX6_extend 37 = .ok (.goto 4, 3) := by decide +kernel
theorem dX6_extend_40 : decode cX6_extend 40 = .ok (.iconst 2, 1) := by decide +kernel
theorem dX6_extend_41 : decode cX6_extend 41 = .ok (.invokevirtual 34, 3) := by decide +kernel
theorem dX6_extend_44 : decode cX6_extend 44 = .ok (.ifCond .eq 5, 3) := by decide +kernel
theorem dX6_extend_47 : decode cX6_extend 47 = .ok (.iconst 0, 1) := by decide +kernel
theorem dX6_extend_48 : decode cX6_extend 48 = .ok (.ireturn, 1) := by decide +kernel
theorem dX6_extend_49 : decode cX6_extend 49 = .ok (.aload_n 0, 1) := by decide +kernel
theorem dX6_extend_50 : decode cX6_extend 50 = .ok (.iload 4, 2) := by decide +kernel
theorem dX6_extend_52 : decode cX6_extend 52 = .ok (.iconst 3, 1) := by decide +kernel
theorem dX6_extend_53 : decode cX6_extend 53 = .ok (.invokevirtual 37, 3) := by decide +kernel
theorem dX6_extend_56 : decode cX6_extend 56 = .ok (.iconst 1, 1) := by decide +kernel
theorem dX6_extend_57 : decode cX6_extend 57 = .ok (.isub, 1) := by decide +kernel
theorem dX6_extend_58 : decode cX6_extend 58 = .ok (.istore 5, 2) := by decide +kernel
theorem dX6_extend_60 : decode cX6_extend 60 = .ok (.aload_n 0, 1) := by decide +kernel
theorem dX6_extend_61 : decode cX6_extend 61 = .ok (.iload 4, 2) := by decide +kernel
theorem dX6_extend_63 : decode cX6_extend 63 = .ok (.iload 5, 2) := by decide +kernel
theorem dX6_extend_65 : decode cX6_extend 65 = .ok (.iconst 0, 1) := by decide +kernel
theorem dX6_extend_66 : decode cX6_extend 66 = .ok (.invokevirtual 45, 3) := by decide +kernel
theorem dX6_extend_69 : decode cX6_extend 69 = .ok (.istore 6, 2) := by decide +kernel
theorem dX6_extend_71 : decode cX6_extend 71 = .ok (.aload_n 0, 1) := by decide +kernel
theorem dX6_extend_72 : decode cX6_extend 72 = .ok (.iload 4, 2) := by decide +kernel
theorem dX6_extend_74 : decode cX6_extend 74 = .ok (.iload 5, 2) := by decide +kernel
theorem dX6_extend_76 : decode cX6_extend 76 = .ok (.iconst 1, 1) := by decide +kernel
theorem dX6_extend_77 : decode cX6_extend 77 = .ok (.invokevirtual 45, 3) := by decide +kernel
theorem dX6_extend_80 : decode cX6_extend 80 = .ok (.istore 7, 2) := by decide +kernel
theorem dX6_extend_82 : decode cX6_extend 82 = .ok (.aload_n 0, 1) := by decide +kernel
theorem dX6_extend_83 : decode cX6_extend 83 = .ok (.iload 6, 2) := by decide +kernel
theorem dX6_extend_85 : decode cX6_extend 85 = .ok (.iload_n 2, 1) := by decide +kernel
theorem dX6_extend_86 : decode cX6_extend 86 = .ok (.iload_n 3, 1) := by decide +kernel
theorem dX6_extend_87 : decode cX6_extend 87 = .ok (.imul, 1) := by decide +kernel
theorem dX6_extend_88 : decode cX6_extend 88 = .ok (.iadd, 1) := by decide +kernel
theorem dX6_extend_89 : decode cX6_extend 89 = .ok (.bipush 28, 2) := by decide +kernel
theorem dX6_extend_91 : decode cX6_extend 91 = .ok (.if_icmp .lt 7, 3) := by decide +kernel
theorem dX6_extend_94 : decode cX6_extend 94 = .ok (.iconst 2, 1) := by decide +kernel
theorem dX6_extend_95 : decode cX6_extend 95 = .ok (.goto 22, 3) := by decide +kernel
theorem dX6_extend_98 : decode cX6_extend 98 = .ok (.aload_n 0, 1) := by decide +kernel
theorem dX6_extend_99 : decode cX6_extend 99 = .ok (.iload 4, 2) := by decide +kernel
theorem dX6_extend_101 : decode cX6_extend 101 = .ok (.iconst 3, 1) := by decide +kernel
theorem dX6_extend_102 : decode cX6_extend 102 = .ok (.invokevirtual 37, 3) := by decide +kernel
theorem dX6_extend_105 : decode cX6_extend 105 = .ok (.iload_n 3, 1) := by decide +kernel
theorem dX6_extend_106 : decode cX6_extend 106 = .ok (.iadd, 1) := by decide +kernel
theorem dX6_extend_107 : decode cX6_extend 107 = .ok (.bipush 6, 2) := by decide +kernel
theorem dX6_extend_109 : decode cX6_extend 109 = .ok (.if_icmp .le 7, 3) := by decide +kernel
theorem dX6_extend_112 : decode cX6_extend 112 = .ok (.iconst 3, 1) := by decide +kernel
theorem dX6_extend_113 : decode cX6_extend 113 = .ok (.goto 4, 3) := by decide +kernel
theorem dX6_extend_116 : decode cX6_extend 116 = .ok (.iconst 0, 1) := by decide +kernel
theorem dX6_extend_117 : decode cX6_extend 117 = .ok (.invokevirtual 34, 3) := by decide +kernel
theorem dX6_extend_120 : decode cX6_extend 120 = .ok (.ifCond .eq 5, 3) := by decide +kernel
theorem dX6_extend_123 : decode cX6_extend 123 = .ok (.iconst 0, 1) := by decide +kernel
theorem dX6_extend_124 : decode cX6_extend 124 = .ok (.ireturn, 1) := by decide +kernel
theorem dX6_extend_125 : decode cX6_extend 125 = .ok (.iconst 1, 1) := by decide +kernel
theorem dX6_extend_126 : decode cX6_extend 126 = .ok (.istore 8, 2) := by decide +kernel
theorem dX6_extend_128 : decode cX6_extend 128 = .ok (.iload 8, 2) := by decide +kernel
theorem dX6_extend_130 : decode cX6_extend 130 = .ok (.iload_n 3, 1) := by decide +kernel
theorem dX6_extend_131 : decode cX6_extend 131 = .ok (.if_icmp .gt 55, 3) := by decide +kernel
theorem dX6_extend_134 : decode cX6_extend 134 = .ok (.aload_n 0, 1) := by decide +kernel
theorem dX6_extend_135 : decode cX6_extend 135 = .ok (.aload_n 0, 1) := by decide +kernel
theorem dX6_extend_136 : decode cX6_extend 136 = .ok (.iload 4, 2) := by decide +kernel
theorem dX6_extend_138 : decode cX6_extend 138 = .ok (.invokevirtual 59, 3) := by decide +kernel
theorem dX6_extend_141 : decode cX6_extend 141 = .ok (.iload 6, 2) := by decide +kernel
theorem dX6_extend_143 : decode cX6_extend 143 = .ok (.iload_n 2, 1) := by decide +kernel
theorem dX6_extend_144 : decode cX6_extend 144 = .ok (.iload 8, 2) := by decide +kernel
theorem dX6_extend_146 : decode cX6_extend 146 = .ok (.imul, 1) := by decide +kernel
theorem dX6_extend_147 : decode cX6_extend 147 = .ok (.iadd, 1) := by decide +kernel
theorem dX6_extend_148 : decode cX6_extend 148 = .ok (.iload 7, 2) := by decide +kernel
theorem dX6_extend_150 : decode cX6_extend 150 = .ok (.aload_n 0, 1) := by decide +kernel
theorem dX6_extend_151 : decode cX6_extend 151 = .ok (.iload 4, 2) := by decide +kernel
theorem dX6_extend_153 : decode cX6_extend 153 = .ok (.iconst 2, 1) := by decide +kernel
theorem dX6_extend_154 : decode cX6_extend 154 = .ok (.invokevirtual 37, 3) := by decide +kernel
theorem dX6_extend_157 : decode cX6_extend 157 = .ok (.invokevirtual 83, 3) := by decide +kernel
theorem dX6_extend_160 : decode cX6_extend 160 = .ok (.istore 9, 2) := by decide +kernel
theorem dX6_extend_162 : decode cX6_extend 162 = .ok (.iload 9, 2) := by decide +kernel
theorem dX6_extend_164 : decode cX6_extend 164 = .ok (.ifCond .lt 16, 3) := by decide +kernel
theorem dX6_extend_167 : decode cX6_extend 167 = .ok (.aload_n 0, 1) := by decide +kernel
theorem dX6_extend_168 : decode cX6_extend 168 = .ok (.iconst 1, 1) := by decide +kernel
theorem dX6_extend_169 : decode cX6_extend 169 = .ok (.iload 9, 2) := by decide +kernel
theorem dX6_extend_171 : decode cX6_extend 171 = .ok (.iconst 4, 1) := by decide +kernel
theorem dX6_extend_172 : decode cX6_extend 172 = .ok (.invokevirtual 86, 3) := by decide +kernel
theorem dX6_extend_175 : decode cX6_extend 175 = .ok (.ifCond .eq 5, 3) := by decide +kernel
theorem dX6_extend_178 : decode cX6_extend 178 = .ok (.iconst 0, 1) := by decide +kernel
theorem dX6_extend_179 : decode cX6_extend 179 = .ok (.ireturn, 1) := by decide +kernel
theorem dX6_extend_180 : decode cX6_extend 180 = .ok (.iinc 8 1, 3) := by decide +kernel
theorem dX6_extend_183 : decode cX6_extend 183 = .ok (.goto (-55), 3) := by decide +kernel
theorem dX6_extend_186 : decode cX6_extend 186 = .ok (.iconst 1, 1) := by decide +kernel
theorem dX6_extend_187 : decode cX6_extend 187 = .ok (.istore 8, 2) := by decide +kernel
theorem dX6_extend_189 : decode cX6_extend 189 = .ok (.iload 8, 2) := by decide +kernel
theorem dX6_extend_191 : decode cX6_extend 191 = .ok (.iload_n 3, 1) := by decide +kernel
theorem dX6_extend_192 : decode cX6_extend 192 = .ok (.if_icmp .gt 68, 3) := by decide +kernel
theorem dX6_extend_195 : decode cX6_extend 195 = .ok (.aload_n 0, 1) := by decide +kernel
theorem dX6_extend_196 : decode cX6_extend 196 = .ok (.getfield 20, 3) := by decide +kernel
theorem dX6_extend_199 : decode cX6_extend 199 = .ok (.iload 8, 2) := by decide +kernel
theorem dX6_extend_201 : decode cX6_extend 201 = .ok (.aload_n 0, 1) := by decide +kernel
theorem dX6_extend_202 : decode cX6_extend 202 = .ok (.aload_n 0, 1) := by decide +kernel
theorem dX6_extend_203 : decode cX6_extend 203 = .ok (.iload 4, 2) := by decide +kernel
theorem dX6_extend_205 : decode cX6_extend 205 = .ok (.invokevirtual 59, 3) := by decide +kernel
theorem dX6_extend_208 : decode cX6_extend 208 = .ok (.iload 6, 2) := by decide +kernel
theorem dX6_extend_210 : decode cX6_extend 210 = .ok (.iload_n 2, 1) := by decide +kernel
theorem dX6_extend_211 : decode cX6_extend 211 = .ok (.iload 8, 2) := by decide +kernel
theorem dX6_extend_213 : decode cX6_extend 213 = .ok (.imul, 1) := by decide +kernel
theorem dX6_extend_214 : decode cX6_extend 214 = .ok (.iadd, 1) := by decide +kernel
theorem dX6_extend_215 : decode cX6_extend 215 = .ok (.iload 7, 2) := by decide +kernel
theorem dX6_extend_217 : decode cX6_extend 217 = .ok (.aload_n 0, 1) := by decide +kernel
theorem dX6_extend_218 : decode cX6_extend 218 = .ok (.iload 4, 2) := by decide +kernel
theorem dX6_extend_220 : decode cX6_extend 220 = .ok (.iconst 2, 1) := by decide +kernel
theorem dX6_extend_221 : decode cX6_extend 221 = .ok (.invokevirtual 37, 3) := by decide +kernel
theorem dX6_extend_224 : decode cX6_extend 224 = .ok (.invokevirtual 89, 3) := by decide +kernel
theorem dX6_extend_227 : decode cX6_extend 227 = .ok (.iastore, 1) := by decide +kernel
theorem dX6_extend_228 : decode cX6_extend 228 = .ok (.aload_n 0, 1) := by decide +kernel
theorem dX6_extend_229 : decode cX6_extend 229 = .ok (.getfield 20, 3) := by decide +kernel
theorem dX6_extend_232 : decode cX6_extend 232 = .ok (.iload 8, 2) := by decide +kernel
theorem dX6_extend_234 : decode cX6_extend 234 = .ok (.iaload, 1) := by decide +kernel
theorem dX6_extend_235 : decode cX6_extend 235 = .ok (.ifCond .ge 19, 3) := by decide +kernel
theorem dX6_extend_238 : decode cX6_extend 238 = .ok (.aload_n 0, 1) := by decide +kernel
theorem dX6_extend_239 : decode cX6_extend 239 = .ok (.iconst 2, 1) := by decide +kernel
theorem dX6_extend_240 : decode cX6_extend 240 = .ok (.iload 5, 2) := by decide +kernel
theorem dX6_extend_242 : decode cX6_extend 242 = .ok (.iload 8, 2) := by decide +kernel
theorem dX6_extend_244 : decode cX6_extend 244 = .ok (.iadd, 1) := by decide +kernel
theorem dX6_extend_245 : decode cX6_extend 245 = .ok (.iconst 4, 1) := by decide +kernel
theorem dX6_extend_246 : decode cX6_extend 246 = .ok (.invokevirtual 86, 3) := by decide +kernel
theorem dX6_extend_249 : decode cX6_extend 249 = .ok (.ifCond .eq 5, 3) := by decide +kernel
theorem dX6_extend_252 : decode cX6_extend 252 = .ok (.iconst 0, 1) := by decide +kernel
theorem dX6_extend_253 : decode cX6_extend 253 = .ok (.ireturn, 1) := by decide +kernel
theorem dX6_extend_254 : decode cX6_extend 254 = .ok (.iinc 8 1, 3) := by decide +kernel
theorem dX6_extend_257 : decode cX6_extend 257 = .ok (.goto (-68), 3) := by decide +kernel
theorem dX6_extend_260 : decode cX6_extend 260 = .ok (.iconst 1, 1) := by decide +kernel
theorem dX6_extend_261 : decode cX6_extend 261 = .ok (.istore 8, 2) := by decide +kernel
theorem dX6_extend_263 : decode cX6_extend 263 = .ok (.iload 8, 2) := by decide +kernel
theorem dX6_extend_265 : decode cX6_extend 265 = .ok (.iload_n 3, 1) := by decide +kernel
theorem dX6_extend_266 : decode cX6_extend 266 = .ok (.if_icmp .gt 36, 3) := by decide +kernel
theorem dX6_extend_269 : decode cX6_extend 269 = .ok (.aload_n 0, 1) := by decide +kernel
theorem dX6_extend_270 : decode cX6_extend 270 = .ok (.iload 4, 2) := by decide +kernel
theorem dX6_extend_272 : decode cX6_extend 272 = .ok (.iload 5, 2) := by decide +kernel
theorem dX6_extend_274 : decode cX6_extend 274 = .ok (.iload 8, 2) := by decide +kernel
theorem dX6_extend_276 : decode cX6_extend 276 = .ok (.iadd, 1) := by decide +kernel
theorem dX6_extend_277 : decode cX6_extend 277 = .ok (.iload 6, 2) := by decide +kernel
theorem dX6_extend_279 : decode cX6_extend 279 = .ok (.iload_n 2, 1) := by decide +kernel
theorem dX6_extend_280 : decode cX6_extend 280 = .ok (.iload 8, 2) := by decide +kernel
theorem dX6_extend_282 : decode cX6_extend 282 = .ok (.imul, 1) := by decide +kernel
theorem dX6_extend_283 : decode cX6_extend 283 = .ok (.iadd, 1) := by decide +kernel
theorem dX6_extend_284 : decode cX6_extend 284 = .ok (.iload 7, 2) := by decide +kernel
theorem dX6_extend_286 : decode cX6_extend 286 = .ok (.aload_n 0, 1) := by decide +kernel
theorem dX6_extend_287 : decode cX6_extend 287 = .ok (.getfield 20, 3) := by decide +kernel
theorem dX6_extend_290 : decode cX6_extend 290 = .ok (.iload 8, 2) := by decide +kernel
theorem dX6_extend_292 : decode cX6_extend 292 = .ok (.iaload, 1) := by decide +kernel
theorem dX6_extend_293 : decode cX6_extend 293 = .ok (.invokevirtual 92, 3) := by decide +kernel
theorem dX6_extend_296 : decode cX6_extend 296 = .ok (.iinc 8 1, 3) := by decide +kernel
theorem dX6_extend_299 : decode cX6_extend 299 = .ok (.goto (-36), 3) := by decide +kernel
theorem dX6_extend_302 : decode cX6_extend 302 = .ok (.aload_n 0, 1) := by decide +kernel
theorem dX6_extend_303 : decode cX6_extend 303 = .ok (.iload 4, 2) := by decide +kernel
theorem dX6_extend_305 : decode cX6_extend 305 = .ok (.iconst 3, 1) := by decide +kernel
theorem dX6_extend_306 : decode cX6_extend 306 = .ok (.iload 5, 2) := by decide +kernel
theorem dX6_extend_308 : decode cX6_extend 308 = .ok (.iconst 1, 1) := by decide +kernel
theorem dX6_extend_309 : decode cX6_extend 309 = .ok (.iadd, 1) := by decide +kernel
theorem dX6_extend_310 : decode cX6_extend 310 = .ok (.iload_n 3, 1) := by decide +kernel
theorem dX6_extend_311 : decode cX6_extend 311 = .ok (.iadd, 1) := by decide +kernel
theorem dX6_extend_312 : decode cX6_extend 312 = .ok (.invokevirtual 70, 3) := by decide +kernel
theorem dX6_extend_315 : decode cX6_extend 315 = .ok (.aload_n 0, 1) := by decide +kernel
theorem dX6_extend_316 : decode cX6_extend 316 = .ok (.iload 4, 2) := by decide +kernel
theorem dX6_extend_318 : decode cX6_extend 318 = .ok (.iconst 3, 1) := by decide +kernel
theorem dX6_extend_319 : decode cX6_extend 319 = .ok (.invokevirtual 37, 3) := by decide +kernel
theorem dX6_extend_322 : decode cX6_extend 322 = .ok (.ireturn, 1) := by decide +kernel
theorem dX6_isNone_0 : decode cX6_isNone 0 = .ok (.aload_n 0, 1) := by decide +kernel
theorem dX6_isNone_1 : decode cX6_isNone 1 = .ok (.aload_n 0, 1) := by decide +kernel
theorem dX6_isNone_2 : decode cX6_isNone 2 = .ok (.iload_n 1, 1) := by decide +kernel
theorem dX6_isNone_3 : decode cX6_isNone 3 = .ok (.invokevirtual 96, 3) := by decide +kernel
theorem dX6_isNone_6 : decode cX6_isNone 6 = .ok (.ifCond .ge 7, 3) := by decide +kernel
theorem dX6_isNone_9 : decode cX6_isNone 9 = .ok (.iconst 1, 1) := by decide +kernel
theorem dX6_isNone_10 : decode cX6_isNone 10 = .ok (.goto 4, 3) := by decide +kernel
theorem dX6_isNone_13 : decode cX6_isNone 13 = .ok (.iconst 0, 1) := by decide +kernel
theorem dX6_isNone_14 : decode cX6_isNone 14 = .ok (.invokevirtual 34, 3) := by decide +kernel
theorem dX6_isNone_17 : decode cX6_isNone 17 = .ok (.ireturn, 1) := by decide +kernel
theorem dX6_isNoDate_0 : decode cX6_isNoDate 0 = .ok (.aload_n 0, 1) := by decide +kernel
theorem dX6_isNoDate_1 : decode cX6_isNoDate 1 = .ok (.iload_n 1, 1) := by decide +kernel
theorem dX6_isNoDate_2 : decode cX6_isNoDate 2 = .ok (.invokevirtual 99, 3) := by decide +kernel
theorem dX6_isNoDate_5 : decode cX6_isNoDate 5 = .ok (.ifCond .ne 35, 3) := by decide +kernel
theorem dX6_isNoDate_8 : decode cX6_isNoDate 8 = .ok (.aload_n 0, 1) := by decide +kernel
theorem dX6_isNoDate_9 : decode cX6_isNoDate 9 = .ok (.iload_n 2, 1) := by decide +kernel
theorem dX6_isNoDate_10 : decode cX6_isNoDate 10 = .ok (.iconst 0, 1) := by decide +kernel
theorem dX6_isNoDate_11 : decode cX6_isNoDate 11 = .ok (.aload_n 0, 1) := by decide +kernel
theorem dX6_isNoDate_12 : decode cX6_isNoDate 12 = .ok (.aload_n 0, 1) := by decide +kernel
theorem dX6_isNoDate_13 : decode cX6_isNoDate 13 = .ok (.iload_n 1, 1) := by decide +kernel
theorem dX6_isNoDate_14 : decode cX6_isNoDate 14 = .ok (.invokevirtual 96, 3) := by decide +kernel
theorem dX6_isNoDate_17 : decode cX6_isNoDate 17 = .ok (.iconst 3, 1) := by decide +kernel
theorem dX6_isNoDate_18 : decode cX6_isNoDate 18 = .ok (.invokevirtual 37, 3) := by decide +kernel
theorem dX6_isNoDate_21 : decode cX6_isNoDate 21 = .ok (.iconst 1, 1) := by decide +kernel
theorem dX6_isNoDate_22 : decode cX6_isNoDate 22 = .ok (.isub, 1) := by decide +kernel
theorem dX6_isNoDate_23 : decode cX6_isNoDate 23 = .ok (.invokestatic 26, 3) := by decide +kernel
theorem dX6_isNoDate_26 : decode cX6_isNoDate 26 = .ok (.ifCond .eq 7, 3) := by decide +kernel
theorem dX6_isNoDate_29 : decode cX6_isNoDate 29 = .ok (.iconst 0, 1) := by decide +kernel
theorem dX6_isNoDate_30 : decode cX6_isNoDate 30 = .ok (.goto 4, 3) := by decide +kernel
theorem dX6_isNoDate_33 : decode cX6_isNoDate 33 = .ok (.iconst 2, 1) := by decide +kernel
theorem dX6_isNoDate_34 : decode cX6_isNoDate 34 = .ok (.invokevirtual 34, 3) := by decide +kernel
theorem dX6_isNoDate_37 : decode cX6_isNoDate 37 = .ok (.ifCond .eq 7, 3) := by decide +kernel
theorem dX6_isNoDate_40 : decode cX6_isNoDate 40 = .ok (.iconst 1, 1) := by decide +kernel
theorem dX6_isNoDate_41 : decode cX6_isNoDate 41 = .ok (.goto 4, 3) := by decide +kernel
theorem dX6_isNoDate_44 : decode cX6_isNoDate 44 = .ok (.iconst 0, 1) := by decide +kernel
theorem dX6_isNoDate_45 : decode cX6_isNoDate 45 = .ok (.ireturn, 1) := by decide +kernel
theorem dX6_remove_0 : decode cX6_remove 0 = .ok (.aload_n 0, 1) := by decide +kernel
theorem dX6_remove_1 : decode cX6_remove 1 = .ok (.iload_n 1, 1) := by decide +kernel
theorem dX6_remove_2 : decode cX6_remove 2 = .ok (.invokevirtual 99, 3) := by decide +kernel
theorem dX6_remove_5 : decode cX6_remove 5 = .ok (.ifCond .eq 5, 3) := by decide +kernel
theorem dX6_remove_8 : decode cX6_remove 8 = .ok (.iconst 0, 1) := by decide +kernel
theorem dX6_remove_9 : decode cX6_remove 9 = .ok (.ireturn, 1) := by decide +kernel
theorem dX6_remove_10 : decode cX6_remove 10 = .ok (.bipush 20, 2) := by decide +kernel
theorem dX6_remove_12 : decode cX6_remove 12 = .ok (.bipush 40, 2) := by decide +kernel
theorem dX6_remove_14 : decode cX6_remove 14 = .ok (.aload_n 0, 1) := by decide +kernel
theorem dX6_remove_15 : decode cX6_remove 15 = .ok (.iload_n 1, 1) := by decide +kernel
theorem dX6_remove_16 : decode cX6_remove 16 = .ok (.invokevirtual 96, 3) := by decide +kernel
theorem dX6_remove_19 : decode cX6_remove 19 = .ok (.imul, 1) := by decide +kernel
theorem dX6_remove_20 : decode cX6_remove 20 = .ok (.iadd, 1) := by decide +kernel
theorem dX6_remove_21 : decode cX6_remove 21 = .ok (.istore_n 2, 1) := by decide +kernel
theorem dX6_remove_22 : decode cX6_remove 22 = .ok (.aload_n 0, 1) := by decide +kernel
theorem dX6_remove_23 : decode cX6_remove 23 = .ok (.getfield 7, 3) := by decide +kernel
theorem dX6_remove_26 : decode cX6_remove 26 = .ok (.iconst 1, 1) := by decide +kernel
theorem dX6_remove_27 : decode cX6_remove 27 = .ok (.dup2, 1) := by decide +kernel
theorem dX6_remove_28 : decode cX6_remove 28 = .ok (.iaload, 1) := by decide +kernel
theorem dX6_remove_29 : decode cX6_remove 29 = .ok (.iconst 1, 1) := by decide +kernel
theorem dX6_remove_30 : decode cX6_remove 30 = .ok (.isub, 1) := by decide +kernel
theorem dX6_remove_31 : decode cX6_remove 31 = .ok (.iastore, 1) := by decide +kernel
theorem dX6_remove_32 : decode cX6_remove 32 = .ok (.iload_n 2, 1) := by decide +kernel
theorem dX6_remove_33 : decode cX6_remove 33 = .ok (.istore_n 3, 1) := by decide +kernel
theorem dX6_remove_34 : decode cX6_remove 34 = .ok (.iload_n 3, 1) := by decide +kernel
theorem dX6_remove_35 : decode cX6_remove 35 = .ok (.bipush 20, 2) := by decide +kernel
theorem dX6_remove_37 : decode cX6_remove 37 = .ok (.bipush 40, 2) := by decide +kernel
theorem dX6_remove_39 : decode cX6_remove 39 = .ok (.aload_n 0, 1) := by decide +kernel
theorem dX6_remove_40 : decode cX6_remove 40 = .ok (.getfield 7, 3) := by decide +kernel
theorem dX6_remove_43 : decode cX6_remove 43 = .ok (.iconst 1, 1) := by decide +kernel
theorem dX6_remove_44 : decode cX6_remove 44 = .ok (.iaload, 1) := by decide +kernel
theorem dX6_remove_45 : decode cX6_remove 45 = .ok (.imul, 1) := by decide +kernel
theorem dX6_remove_46 : decode cX6_remove 46 = .ok (.iadd, 1) := by decide +kernel
theorem dX6_remove_47 : decode cX6_remove 47 = .ok (.if_icmp .ge 24, 3) := by decide +kernel
theorem dX6_remove_50 : decode cX6_remove 50 = .ok (.aload_n 0, 1) := by decide +kernel
theorem dX6_remove_51 : decode cX6_remove 51 = .ok (.getfield 7, 3) := by decide +kernel
theorem dX6_remove_54 : decode cX6_remove 54 = .ok (.iload_n 3, 1) := by decide +kernel
theorem dX6_remove_55 : decode cX6_remove 55 = .ok (.aload_n 0, 1) := by decide +kernel
theorem dX6_remove_56 : decode cX6_remove 56 = .ok (.getfield 7, 3) := by decide +kernel
theorem dX6_remove_59 : decode cX6_remove 59 = .ok (.iload_n 3, 1) := by decide +kernel
theorem dX6_remove_60 : decode cX6_remove 60 = .ok (.bipush 40, 2) := by decide +kernel
theorem dX6_remove_62 : decode cX6_remove 62 = .ok (.iadd, 1) := by decide +kernel
theorem dX6_remove_63 : decode cX6_remove 63 = .ok (.iaload, 1) := by decide +kernel
theorem dX6_remove_64 : decode cX6_remove 64 = .ok (.iastore, 1) := by decide +kernel
theorem dX6_remove_65 : decode cX6_remove 65 = .ok (.iinc 3 1, 3) := by decide +kernel
theorem dX6_remove_68 : decode cX6_remove 68 = .ok (.goto (-34), 3) := by decide +kernel
theorem dX6_remove_71 : decode cX6_remove 71 = .ok (.aload_n 0, 1) := by decide +kernel
theorem dX6_remove_72 : decode cX6_remove 72 = .ok (.getfield 7, 3) := by decide +kernel
theorem dX6_remove_75 : decode cX6_remove 75 = .ok (.iconst 1, 1) := by decide +kernel
theorem dX6_remove_76 : decode cX6_remove 76 = .ok (.iaload, 1) := by decide +kernel
theorem dX6_remove_77 : decode cX6_remove 77 = .ok (.ireturn, 1) := by decide +kernel
theorem dX6_isKeptOut_0 : decode cX6_isKeptOut 0 = .ok (.iconst 0, 1) := by decide +kernel
theorem dX6_isKeptOut_1 : decode cX6_isKeptOut 1 = .ok (.istore_n 3, 1) := by decide +kernel
theorem dX6_isKeptOut_2 : decode cX6_isKeptOut 2 = .ok (.iload_n 3, 1) := by decide +kernel
theorem dX6_isKeptOut_3 : decode cX6_isKeptOut 3 = .ok (.aload_n 0, 1) := by decide +kernel
theorem dX6_isKeptOut_4 : decode cX6_isKeptOut 4 = .ok (.iload_n 1, 1) := by decide +kernel
theorem dX6_isKeptOut_5 : decode cX6_isKeptOut 5 = .ok (.iconst 3, 1) := by decide +kernel
theorem dX6_isKeptOut_6 : decode cX6_isKeptOut 6 = .ok (.invokevirtual 37, 3) := by decide +kernel
theorem dX6_isKeptOut_9 : decode cX6_isKeptOut 9 = .ok (.if_icmp .ge 51, 3) := by decide +kernel
theorem dX6_isKeptOut_12 : decode cX6_isKeptOut 12 = .ok (.aload_n 0, 1) := by decide +kernel
theorem dX6_isKeptOut_13 : decode cX6_isKeptOut 13 = .ok (.iload_n 1, 1) := by decide +kernel
theorem dX6_isKeptOut_14 : decode cX6_isKeptOut 14 = .ok (.iload_n 3, 1) := by decide +kernel
theorem dX6_isKeptOut_15 : decode cX6_isKeptOut 15 = .ok (.invokevirtual 49, 3) := by decide +kernel
theorem dX6_isKeptOut_18 : decode cX6_isKeptOut 18 = .ok (.ifCond .eq 36, 3) := by decide +kernel
theorem dX6_isKeptOut_21 : decode cX6_isKeptOut 21 = .ok (.aload_n 0, 1) := by decide +kernel
theorem dX6_isKeptOut_22 : decode cX6_isKeptOut 22 = .ok (.getfield 7, 3) := by decide +kernel
theorem dX6_isKeptOut_25 : decode cX6_isKeptOut 25 = .ok (.iconst 5, 1) := by decide +kernel
theorem dX6_isKeptOut_26 : decode cX6_isKeptOut 26 = .ok (.aload_n 0, 1) := by decide +kernel
theorem dX6_isKeptOut_27 : decode cX6_isKeptOut 27 = .ok (.iload_n 1, 1) := by decide +kernel
theorem dX6_isKeptOut_28 : decode cX6_isKeptOut 28 = .ok (.iload_n 3, 1) := by decide +kernel
theorem dX6_isKeptOut_29 : decode cX6_isKeptOut 29 = .ok (.iconst 3, 1) := by decide +kernel
theorem dX6_isKeptOut_30 : decode cX6_isKeptOut 30 = .ok (.invokevirtual 45, 3) := by decide +kernel
theorem dX6_isKeptOut_33 : decode cX6_isKeptOut 33 = .ok (.iadd, 1) := by decide +kernel
theorem dX6_isKeptOut_34 : decode cX6_isKeptOut 34 = .ok (.iaload, 1) := by decide +kernel
theorem dX6_isKeptOut_35 : decode cX6_isKeptOut 35 = .ok (.aload_n 0, 1) := by decide +kernel
theorem dX6_isKeptOut_36 : decode cX6_isKeptOut 36 = .ok (.iload_n 1, 1) := by decide +kernel
theorem dX6_isKeptOut_37 : decode cX6_isKeptOut 37 = .ok (.invokevirtual 59, 3) := by decide +kernel
theorem dX6_isKeptOut_40 : decode cX6_isKeptOut 40 = .ok (.invokestatic 63, 3) := by decide +kernel
theorem dX6_isKeptOut_43 : decode cX6_isKeptOut 43 = .ok (.if_icmp .gt 11, 3) := by decide +kernel
theorem dX6_isKeptOut_46 : decode cX6_isKeptOut 46 = .ok (.aload_n 0, 1) := by decide +kernel
theorem dX6_isKeptOut_47 : decode cX6_isKeptOut 47 = .ok (.iconst 3, 1) := by decide +kernel
theorem dX6_isKeptOut_48 : decode cX6_isKeptOut 48 = .ok (.iload_n 3, 1) := by decide +kernel
theorem dX6_isKeptOut_49 : decode cX6_isKeptOut 49 = .ok (.iconst 4, 1) := by decide +kernel
theorem dX6_isKeptOut_50 : decode cX6_isKeptOut 50 = .ok (.invokevirtual 86, 3) := by decide +kernel
theorem dX6_isKeptOut_53 : decode cX6_isKeptOut 53 = .ok (.ireturn, 1) := by decide +kernel
theorem dX6_isKeptOut_54 : decode cX6_isKeptOut 54 = .ok (.iinc 3 1, 3) := by decide +kernel
theorem dX6_isKeptOut_57 : decode cX6_isKeptOut 57 = .ok (.goto (-55), 3) := by decide +kernel
theorem dX6_isKeptOut_60 : decode cX6_isKeptOut 60 = .ok (.iconst 0, 1) := by decide +kernel
theorem dX6_isKeptOut_61 : decode cX6_isKeptOut 61 = .ok (.istore_n 3, 1) := by decide +kernel
theorem dX6_isKeptOut_62 : decode cX6_isKeptOut 62 = .ok (.iload_n 3, 1) := by decide +kernel
theorem dX6_isKeptOut_63 : decode cX6_isKeptOut 63 = .ok (.aload_n 0, 1) := by decide +kernel
theorem dX6_isKeptOut_64 : decode cX6_isKeptOut 64 = .ok (.iload_n 1, 1) := by decide +kernel
theorem dX6_isKeptOut_65 : decode cX6_isKeptOut 65 = .ok (.iconst 3, 1) := by decide +kernel
theorem dX6_isKeptOut_66 : decode cX6_isKeptOut 66 = .ok (.invokevirtual 37, 3) := by decide +kernel
theorem dX6_isKeptOut_69 : decode cX6_isKeptOut 69 = .ok (.if_icmp .ge 36, 3) := by decide +kernel
theorem dX6_isKeptOut_72 : decode cX6_isKeptOut 72 = .ok (.aload_n 0, 1) := by decide +kernel
theorem dX6_isKeptOut_73 : decode cX6_isKeptOut 73 = .ok (.iload_n 1, 1) := by decide +kernel
theorem dX6_isKeptOut_74 : decode cX6_isKeptOut 74 = .ok (.iload_n 3, 1) := by decide +kernel
theorem dX6_isKeptOut_75 : decode cX6_isKeptOut 75 = .ok (.invokevirtual 49, 3) := by decide +kernel
theorem dX6_isKeptOut_78 : decode cX6_isKeptOut 78 = .ok (.ifCond .eq 21, 3) := by decide +kernel
theorem dX6_isKeptOut_81 : decode cX6_isKeptOut 81 = .ok (.aload_n 0, 1) := by decide +kernel
theorem dX6_isKeptOut_82 : decode cX6_isKeptOut 82 = .ok (.iload_n 1, 1) := by decide +kernel
theorem dX6_isKeptOut_83 : decode cX6_isKeptOut 83 = .ok (.iload_n 3, 1) := by decide +kernel
theorem dX6_isKeptOut_84 : decode cX6_isKeptOut 84 = .ok (.iload_n 2, 1) := by decide +kernel
theorem dX6_isKeptOut_85 : decode cX6_isKeptOut 85 = .ok (.invokevirtual 102, 3) := by decide +kernel
theorem dX6_isKeptOut_88 : decode cX6_isKeptOut 88 = .ok (.ifCond .eq 11, 3) := by decide +kernel
theorem dX6_isKeptOut_91 : decode cX6_isKeptOut 91 = .ok (.aload_n 0, 1) := by decide +kernel
theorem dX6_isKeptOut_92 : decode cX6_isKeptOut 92 = .ok (.iconst 4, 1) := by decide +kernel
theorem dX6_isKeptOut_93 : decode cX6_isKeptOut 93 = .ok (.iload_n 3, 1) := by decide +kernel
theorem dX6_isKeptOut_94 : decode cX6_isKeptOut 94 = .ok (.iconst 4, 1) := by decide +kernel
theorem dX6_isKeptOut_95 : decode cX6_isKeptOut 95 = .ok (.invokevirtual 86, 3) := by decide +kernel
theorem dX6_isKeptOut_98 : decode cX6_isKeptOut 98 = .ok (.ireturn, 1) := by decide +kernel
theorem dX6_isKeptOut_99 : decode cX6_isKeptOut 99 = .ok (.iinc 3 1, 3) := by decide +kernel
theorem dX6_isKeptOut_102 : decode cX6_isKeptOut 102 = .ok (.goto (-40), 3) := by decide +kernel
theorem dX6_isKeptOut_105 : decode cX6_isKeptOut 105 = .ok (.iconst 0, 1) := by decide +kernel
theorem dX6_isKeptOut_106 : decode cX6_isKeptOut 106 = .ok (.ireturn, 1) := by decide +kernel
theorem dX6_clashes_0 : decode cX6_clashes 0 = .ok (.aload_n 0, 1) := by decide +kernel
theorem dX6_clashes_1 : decode cX6_clashes 1 = .ok (.getfield 7, 3) := by decide +kernel
theorem dX6_clashes_4 : decode cX6_clashes 4 = .ok (.bipush 9, 2) := by decide +kernel
theorem dX6_clashes_6 : decode cX6_clashes 6 = .ok (.aload_n 0, 1) := by decide +kernel
theorem dX6_clashes_7 : decode cX6_clashes 7 = .ok (.iload_n 1, 1) := by decide +kernel
theorem dX6_clashes_8 : decode cX6_clashes 8 = .ok (.iload_n 2, 1) := by decide +kernel
theorem dX6_clashes_9 : decode cX6_clashes 9 = .ok (.iconst 3, 1) := by decide +kernel
theorem dX6_clashes_10 : decode cX6_clashes 10 = .ok (.invokevirtual 45, 3) := by decide +kernel
theorem dX6_clashes_13 : decode cX6_clashes 13 = .ok (.iadd, 1) := by decide +kernel
theorem dX6_clashes_14 : decode cX6_clashes 14 = .ok (.iaload, 1) := by decide +kernel
theorem dX6_clashes_15 : decode cX6_clashes 15 = .ok (.istore 4, 2) := by decide +kernel
theorem dX6_clashes_17 : decode cX6_clashes 17 = .ok (.iconst 0, 1) := by decide +kernel
theorem dX6_clashes_18 : decode cX6_clashes 18 = .ok (.istore 5, 2) := by decide +kernel
theorem dX6_clashes_20 : decode cX6_clashes 20 = .ok (.iload 5, 2) := by decide +kernel
theorem dX6_clashes_22 : decode cX6_clashes 22 = .ok (.aload_n 0, 1) := by decide +kernel
theorem dX6_clashes_23 : decode cX6_clashes 23 = .ok (.getfield 7, 3) := by decide +kernel
theorem dX6_clashes_26 : decode cX6_clashes 26 = .ok (.iconst 1, 1) := by decide +kernel
theorem dX6_clashes_27 : decode cX6_clashes 27 = .ok (.iaload, 1) := by decide +kernel
theorem dX6_clashes_28 : decode cX6_clashes 28 = .ok (.if_icmp .ge 154, 3) := by decide +kernel
theorem dX6_clashes_31 : decode cX6_clashes 31 = .ok (.iconst 0, 1) := by decide +kernel
theorem dX6_clashes_32 : decode cX6_clashes 32 = .ok (.istore 6, 2) := by decide +kernel
theorem dX6_clashes_34 : decode cX6_clashes 34 = .ok (.iload 6, 2) := by decide +kernel
theorem dX6_clashes_36 : decode cX6_clashes 36 = .ok (.aload_n 0, 1) := by decide +kernel
theorem dX6_clashes_37 : decode cX6_clashes 37 = .ok (.iload 5, 2) := by decide +kernel
theorem dX6_clashes_39 : decode cX6_clashes 39 = .ok (.iconst 3, 1) := by decide +kernel
theorem dX6_clashes_40 : decode cX6_clashes 40 = .ok (.invokevirtual 37, 3) := by decide +kernel
theorem dX6_clashes_43 : decode cX6_clashes 43 = .ok (.if_icmp .ge 133, 3) := by decide +kernel
theorem dX6_clashes_46 : decode cX6_clashes 46 = .ok (.iload 5, 2) := by decide +kernel
theorem dX6_clashes_48 : decode cX6_clashes 48 = .ok (.iload_n 1, 1) := by decide +kernel
theorem dX6_clashes_49 : decode cX6_clashes 49 = .ok (.if_icmp .ne 9, 3) := by decide +kernel
theorem dX6_clashes_52 : decode cX6_clashes 52 = .ok (.iload 6, 2) := by decide +kernel
theorem dX6_clashes_54 : decode cX6_clashes 54 = .ok (.iload_n 2, 1) := by decide +kernel
theorem dX6_clashes_55 : decode cX6_clashes 55 = .ok (.if_icmp .eq 115, 3) := by decide +kernel
theorem dX6_clashes_58 : decode cX6_clashes 58 = .ok (.aload_n 0, 1) := by decide +kernel
theorem dX6_clashes_59 : decode cX6_clashes 59 = .ok (.iload 5, 2) := by decide +kernel
theorem dX6_clashes_61 : decode cX6_clashes 61 = .ok (.iload 6, 2) := by decide +kernel
theorem dX6_clashes_63 : decode cX6_clashes 63 = .ok (.invokevirtual 49, 3) := by decide +kernel
theorem dX6_clashes_66 : decode cX6_clashes 66 = .ok (.ifCond .eq 104, 3) := by decide +kernel
theorem dX6_clashes_69 : decode cX6_clashes 69 = .ok (.iload 5, 2) := by decide +kernel
theorem dX6_clashes_71 : decode cX6_clashes 71 = .ok (.iload_n 1, 1) := by decide +kernel
theorem dX6_clashes_72 : decode cX6_clashes 72 = .ok (.if_icmp .eq 13, 3) := by decide +kernel
theorem dX6_clashes_75 : decode cX6_clashes 75 = .ok (.aload_n 0, 1) := by decide +kernel
theorem dX6_clashes_76 : decode cX6_clashes 76 = .ok (.iload 5, 2) := by decide +kernel
theorem dX6_clashes_78 : decode cX6_clashes 78 = .ok (.iload_n 3, 1) := by decide +kernel
theorem dX6_clashes_79 : decode cX6_clashes 79 = .ok (.invokevirtual 41, 3) := by decide +kernel
theorem dX6_clashes_82 : decode cX6_clashes 82 = .ok (.ifCond .eq 88, 3) := by decide +kernel
theorem dX6_clashes_85 : decode cX6_clashes 85 = .ok (.aload_n 0, 1) := by decide +kernel
theorem dX6_clashes_86 : decode cX6_clashes 86 = .ok (.iload 5, 2) := by decide +kernel
theorem dX6_clashes_88 : decode cX6_clashes 88 = .ok (.iload 6, 2) := by decide +kernel
theorem dX6_clashes_90 : decode cX6_clashes 90 = .ok (.iconst 0, 1) := by decide +kernel
theorem dX6_clashes_91 : decode cX6_clashes 91 = .ok (.invokevirtual 45, 3) := by decide +kernel
theorem dX6_clashes_94 : decode cX6_clashes 94 = .ok (.aload_n 0, 1) := by decide +kernel
theorem dX6_clashes_95 : decode cX6_clashes 95 = .ok (.iload_n 1, 1) := by decide +kernel
theorem dX6_clashes_96 : decode cX6_clashes 96 = .ok (.iload_n 2, 1) := by decide +kernel
theorem dX6_clashes_97 : decode cX6_clashes 97 = .ok (.iconst 0, 1) := by decide +kernel
theorem dX6_clashes_98 : decode cX6_clashes 98 = .ok (.invokevirtual 45, 3) := by decide +kernel
theorem dX6_clashes_101 : decode cX6_clashes 101 = .ok (.if_icmp .eq 6, 3) := by decide +kernel
theorem dX6_clashes_104 : decode cX6_clashes 104 = .ok (.goto 66, 3) := by decide +kernel
theorem dX6_clashes_107 : decode cX6_clashes 107 = .ok (.aload_n 0, 1) := by decide +kernel
theorem dX6_clashes_108 : decode cX6_clashes 108 = .ok (.iload 5, 2) := by decide +kernel
theorem dX6_clashes_110 : decode cX6_clashes 110 = .ok (.iload 6, 2) := by decide +kernel
theorem dX6_clashes_112 : decode cX6_clashes 112 = .ok (.aload_n 0, 1) := by decide +kernel
theorem dX6_clashes_113 : decode cX6_clashes 113 = .ok (.iload_n 1, 1) := by decide +kernel
theorem dX6_clashes_114 : decode cX6_clashes 114 = .ok (.iload_n 2, 1) := by decide +kernel
theorem dX6_clashes_115 : decode cX6_clashes 115 = .ok (.iconst 1, 1) := by decide +kernel
theorem dX6_clashes_116 : decode cX6_clashes 116 = .ok (.invokevirtual 45, 3) := by decide +kernel
theorem dX6_clashes_119 : decode cX6_clashes 119 = .ok (.aload_n 0, 1) := by decide +kernel
theorem dX6_clashes_120 : decode cX6_clashes 120 = .ok (.iload_n 1, 1) := by decide +kernel
theorem dX6_clashes_121 : decode cX6_clashes 121 = .ok (.iconst 2, 1) := by decide +kernel
theorem dX6_clashes_122 : decode cX6_clashes 122 = .ok (.invokevirtual 37, 3) := by decide +kernel
theorem dX6_clashes_125 : decode cX6_clashes 125 = .ok (.invokevirtual 55, 3) := by decide +kernel
theorem dX6_clashes_128 : decode cX6_clashes 128 = .ok (.istore 7, 2) := by decide +kernel
theorem dX6_clashes_130 : decode cX6_clashes 130 = .ok (.iload 7, 2) := by decide +kernel
theorem dX6_clashes_132 : decode cX6_clashes 132 = .ok (.ifCond .lt 36, 3) := by decide +kernel
theorem dX6_clashes_135 : decode cX6_clashes 135 = .ok (.aload_n 0, 1) := by decide +kernel
theorem dX6_clashes_136 : decode cX6_clashes 136 = .ok (.getfield 7, 3) := by decide +kernel
theorem dX6_clashes_139 : decode cX6_clashes 139 = .ok (.bipush 9, 2) := by decide +kernel
theorem dX6_clashes_141 : decode cX6_clashes 141 = .ok (.aload_n 0, 1) := by decide +kernel
theorem dX6_clashes_142 : decode cX6_clashes 142 = .ok (.iload 5, 2) := by decide +kernel
theorem dX6_clashes_144 : decode cX6_clashes 144 = .ok (.iload 6, 2) := by decide +kernel
theorem dX6_clashes_146 : decode cX6_clashes 146 = .ok (.iconst 3, 1) := by decide +kernel
theorem dX6_clashes_147 : decode cX6_clashes 147 = .ok (.invokevirtual 45, 3) := by decide +kernel
theorem dX6_clashes_150 : decode cX6_clashes 150 = .ok (.iadd, 1) := by decide +kernel
theorem dX6_clashes_151 : decode cX6_clashes 151 = .ok (.iaload, 1) := by decide +kernel
theorem dX6_clashes_152 : decode cX6_clashes 152 = .ok (.iload 4, 2) := by decide +kernel
theorem dX6_clashes_154 : decode cX6_clashes 154 = .ok (.if_icmp .eq 16, 3) := by decide +kernel
theorem dX6_clashes_157 : decode cX6_clashes 157 = .ok (.iload 7, 2) := by decide +kernel
theorem dX6_clashes_159 : decode cX6_clashes 159 = .ok (.aload_n 0, 1) := by decide +kernel
theorem dX6_clashes_160 : decode cX6_clashes 160 = .ok (.getfield 7, 3) := by decide +kernel
theorem dX6_clashes_163 : decode cX6_clashes 163 = .ok (.iconst 0, 1) := by decide +kernel
theorem dX6_clashes_164 : decode cX6_clashes 164 = .ok (.iaload, 1) := by decide +kernel
theorem dX6_clashes_165 : decode cX6_clashes 165 = .ok (.if_icmp .ge 5, 3) := by decide +kernel
theorem dX6_clashes_168 : decode cX6_clashes 168 = .ok (.iconst 1, 1) := by decide +kernel
theorem dX6_clashes_169 : decode cX6_clashes 169 = .ok (.ireturn, 1) := by decide +kernel
theorem dX6_clashes_170 : decode cX6_clashes 170 = .ok (.iinc 6 1, 3) := by decide +kernel
theorem dX6_clashes_173 : decode cX6_clashes 173 = .ok (.goto (-139), 3) := by decide +kernel
theorem dX6_clashes_176 : decode cX6_clashes 176 = .ok (.iinc 5 1, 3) := by decide +kernel
theorem dX6_clashes_179 : decode cX6_clashes 179 = .ok (.goto (-159), 3) := by decide +kernel
theorem dX6_clashes_182 : decode cX6_clashes 182 = .ok (.iconst 0, 1) := by decide +kernel
theorem dX6_clashes_183 : decode cX6_clashes 183 = .ok (.ireturn, 1) := by decide +kernel
theorem dX6_answer_0 : decode cX6_answer 0 = .ok (.aload_n 0, 1) := by decide +kernel
theorem dX6_answer_1 : decode cX6_answer 1 = .ok (.iload_n 1, 1) := by decide +kernel
theorem dX6_answer_2 : decode cX6_answer 2 = .ok (.invokevirtual 96, 3) := by decide +kernel
theorem dX6_answer_5 : decode cX6_answer 5 = .ok (.istore 4, 2) := by decide +kernel
theorem dX6_answer_7 : decode cX6_answer 7 = .ok (.aload_n 0, 1) := by decide +kernel
theorem dX6_answer_8 : decode cX6_answer 8 = .ok (.iload 4, 2) := by decide +kernel
theorem dX6_answer_10 : decode cX6_answer 10 = .ok (.ifCond .ge 7, 3) := by decide +kernel
theorem dX6_answer_13 : decode cX6_answer 13 = .ok (.iconst 1, 1) := by decide +kernel
theorem dX6_answer_14 : decode cX6_answer 14 = .ok (.goto 51, 3) := by decide +kernel
theorem dX6_answer_17 : decode cX6_answer 17 = .ok (.iload_n 2, 1) := by decide +kernel
theorem dX6_answer_18 : decode cX6_answer 18 = .ok (.invokestatic 74, 3) := by decide +kernel
theorem dX6_answer_21 : decode cX6_answer 21 = .ok (.ifCond .eq 21, 3) := by decide +kernel
theorem dX6_answer_24 : decode cX6_answer 24 = .ok (.iload_n 3, 1) := by decide +kernel
theorem dX6_answer_25 : decode cX6_answer 25 = .ok (.bipush 121, 2) := by decide +kernel
theorem dX6_answer_27 : decode cX6_answer 27 = .ok (.if_icmp .eq 19, 3) := by decide +kernel
theorem dX6_answer_30 : decode cX6_answer 30 = .ok (.iload_n 3, 1) := by decide +kernel
theorem dX6_answer_31 : decode cX6_answer 31 = .ok (.bipush 110, 2) := by decide +kernel
theorem dX6_answer_33 : decode cX6_answer 33 = .ok (.if_icmp .eq 13, 3) := by decide +kernel
theorem dX6_answer_36 : decode cX6_answer 36 = .ok (.iload_n 3, 1) := by decide +kernel
theorem dX6_answer_37 : decode cX6_answer 37 = .ok (.bipush 111, 2) := by decide +kernel
theorem dX6_answer_39 : decode cX6_answer 39 = .ok (.if_icmp .eq 7, 3) := by decide +kernel
theorem dX6_answer_42 : decode cX6_answer 42 = .ok (.iconst 2, 1) := by decide +kernel
theorem dX6_answer_43 : decode cX6_answer 43 = .ok (.goto 22, 3) := by decide +kernel
theorem dX6_answer_46 : decode cX6_answer 46 = .ok (.aload_n 0, 1) := by decide +kernel
theorem dX6_answer_47 : decode cX6_answer 47 = .ok (.iload 4, 2) := by decide +kernel
theorem dX6_answer_49 : decode cX6_answer 49 = .ok (.iconst 4, 1) := by decide +kernel
theorem dX6_answer_50 : decode cX6_answer 50 = .ok (.iload_n 2, 1) := by decide +kernel
theorem dX6_answer_51 : decode cX6_answer 51 = .ok (.iadd, 1) := by decide +kernel
theorem dX6_answer_52 : decode cX6_answer 52 = .ok (.invokevirtual 37, 3) := by decide +kernel
theorem dX6_answer_55 : decode cX6_answer 55 = .ok (.bipush 45, 2) := by decide +kernel
theorem dX6_answer_57 : decode cX6_answer 57 = .ok (.if_icmp .ne 7, 3) := by decide +kernel
theorem dX6_answer_60 : decode cX6_answer 60 = .ok (.iconst 3, 1) := by decide +kernel
theorem dX6_answer_61 : decode cX6_answer 61 = .ok (.goto 4, 3) := by decide +kernel
theorem dX6_answer_64 : decode cX6_answer 64 = .ok (.iconst 0, 1) := by decide +kernel
theorem dX6_answer_65 : decode cX6_answer 65 = .ok (.invokevirtual 34, 3) := by decide +kernel
theorem dX6_answer_68 : decode cX6_answer 68 = .ok (.ifCond .eq 6, 3) := by decide +kernel
theorem dX6_answer_71 : decode cX6_answer 71 = .ok (.bipush 32, 2) := by decide +kernel
theorem dX6_answer_73 : decode cX6_answer 73 = .ok (.ireturn, 1) := by decide +kernel
theorem dX6_answer_74 : decode cX6_answer 74 = .ok (.aload_n 0, 1) := by decide +kernel
theorem dX6_answer_75 : decode cX6_answer 75 = .ok (.iload 4, 2) := by decide +kernel
theorem dX6_answer_77 : decode cX6_answer 77 = .ok (.iconst 4, 1) := by decide +kernel
theorem dX6_answer_78 : decode cX6_answer 78 = .ok (.iload_n 2, 1) := by decide +kernel
theorem dX6_answer_79 : decode cX6_answer 79 = .ok (.iadd, 1) := by decide +kernel
theorem dX6_answer_80 : decode cX6_answer 80 = .ok (.invokevirtual 37, 3) := by decide +kernel
theorem dX6_answer_83 : decode cX6_answer 83 = .ok (.istore 5, 2) := by decide +kernel
theorem dX6_answer_85 : decode cX6_answer 85 = .ok (.iload 5, 2) := by decide +kernel
theorem dX6_answer_87 : decode cX6_answer 87 = .ok (.bipush 110, 2) := by decide +kernel
theorem dX6_answer_89 : decode cX6_answer 89 = .ok (.if_icmp .ne 22, 3) := by decide +kernel
theorem dX6_answer_92 : decode cX6_answer 92 = .ok (.iload_n 3, 1) := by decide +kernel
theorem dX6_answer_93 : decode cX6_answer 93 = .ok (.bipush 110, 2) := by decide +kernel
theorem dX6_answer_95 : decode cX6_answer 95 = .ok (.if_icmp .eq 16, 3) := by decide +kernel
theorem dX6_answer_98 : decode cX6_answer 98 = .ok (.aload_n 0, 1) := by decide +kernel
theorem dX6_answer_99 : decode cX6_answer 99 = .ok (.iload 4, 2) := by decide +kernel
theorem dX6_answer_101 : decode cX6_answer 101 = .ok (.iload_n 2, 1) := by decide +kernel
theorem dX6_answer_102 : decode cX6_answer 102 = .ok (.invokevirtual 105, 3) := by decide +kernel
theorem dX6_answer_105 : decode cX6_answer 105 = .ok (.ifCond .eq 6, 3) := by decide +kernel
theorem dX6_answer_108 : decode cX6_answer 108 = .ok (.bipush 32, 2) := by decide +kernel
theorem dX6_answer_110 : decode cX6_answer 110 = .ok (.ireturn, 1) := by decide +kernel
theorem dX6_answer_111 : decode cX6_answer 111 = .ok (.aload_n 0, 1) := by decide +kernel
theorem dX6_answer_112 : decode cX6_answer 112 = .ok (.iload 4, 2) := by decide +kernel
theorem dX6_answer_114 : decode cX6_answer 114 = .ok (.iconst 4, 1) := by decide +kernel
theorem dX6_answer_115 : decode cX6_answer 115 = .ok (.iload_n 2, 1) := by decide +kernel
theorem dX6_answer_116 : decode cX6_answer 116 = .ok (.iadd, 1) := by decide +kernel
theorem dX6_answer_117 : decode cX6_answer 117 = .ok (.iload_n 3, 1) := by decide +kernel
theorem dX6_answer_118 : decode cX6_answer 118 = .ok (.invokevirtual 70, 3) := by decide +kernel
theorem dX6_answer_121 : decode cX6_answer 121 = .ok (.iload 5, 2) := by decide +kernel
theorem dX6_answer_123 : decode cX6_answer 123 = .ok (.i2c, 1) := by decide +kernel
theorem dX6_answer_124 : decode cX6_answer 124 = .ok (.ireturn, 1) := by decide +kernel
theorem dX6_cancel_0 : decode cX6_cancel 0 = .ok (.aload_n 0, 1) := by decide +kernel
theorem dX6_cancel_1 : decode cX6_cancel 1 = .ok (.iload_n 1, 1) := by decide +kernel
theorem dX6_cancel_2 : decode cX6_cancel 2 = .ok (.iload_n 2, 1) := by decide +kernel
theorem dX6_cancel_3 : decode cX6_cancel 3 = .ok (.invokevirtual 108, 3) := by decide +kernel
theorem dX6_cancel_6 : decode cX6_cancel 6 = .ok (.ifCond .ne 28, 3) := by decide +kernel
theorem dX6_cancel_9 : decode cX6_cancel 9 = .ok (.aload_n 0, 1) := by decide +kernel
theorem dX6_cancel_10 : decode cX6_cancel 10 = .ok (.aload_n 0, 1) := by decide +kernel
theorem dX6_cancel_11 : decode cX6_cancel 11 = .ok (.aload_n 0, 1) := by decide +kernel
theorem dX6_cancel_12 : decode cX6_cancel 12 = .ok (.iload_n 1, 1) := by decide +kernel
theorem dX6_cancel_13 : decode cX6_cancel 13 = .ok (.invokevirtual 96, 3) := by decide +kernel
theorem dX6_cancel_16 : decode cX6_cancel 16 = .ok (.iload_n 2, 1) := by decide +kernel
theorem dX6_cancel_17 : decode cX6_cancel 17 = .ok (.invokevirtual 49, 3) := by decide +kernel
theorem dX6_cancel_20 : decode cX6_cancel 20 = .ok (.ifCond .eq 7, 3) := by decide +kernel
theorem dX6_cancel_23 : decode cX6_cancel 23 = .ok (.iconst 0, 1) := by decide +kernel
theorem dX6_cancel_24 : decode cX6_cancel 24 = .ok (.goto 4, 3) := by decide +kernel
theorem dX6_cancel_27 : decode cX6_cancel 27 = .ok (.iconst 3, 1) := by decide +kernel
theorem dX6_cancel_28 : decode cX6_cancel 28 = .ok (.invokevirtual 34, 3) := by decide +kernel
theorem dX6_cancel_31 : decode cX6_cancel 31 = .ok (.ifCond .eq 5, 3) := by decide +kernel
theorem dX6_cancel_34 : decode cX6_cancel 34 = .ok (.iconst 0, 1) := by decide +kernel
theorem dX6_cancel_35 : decode cX6_cancel 35 = .ok (.ireturn, 1) := by decide +kernel
theorem dX6_cancel_36 : decode cX6_cancel 36 = .ok (.aload_n 0, 1) := by decide +kernel
theorem dX6_cancel_37 : decode cX6_cancel 37 = .ok (.iload_n 1, 1) := by decide +kernel
theorem dX6_cancel_38 : decode cX6_cancel 38 = .ok (.invokevirtual 96, 3) := by decide +kernel
theorem dX6_cancel_41 : decode cX6_cancel 41 = .ok (.istore_n 3, 1) := by decide +kernel
theorem dX6_cancel_42 : decode cX6_cancel 42 = .ok (.aload_n 0, 1) := by decide +kernel
theorem dX6_cancel_43 : decode cX6_cancel 43 = .ok (.iload_n 3, 1) := by decide +kernel
theorem dX6_cancel_44 : decode cX6_cancel 44 = .ok (.bipush 10, 2) := by decide +kernel
theorem dX6_cancel_46 : decode cX6_cancel 46 = .ok (.iconst 4, 1) := by decide +kernel
theorem dX6_cancel_47 : decode cX6_cancel 47 = .ok (.iload_n 2, 1) := by decide +kernel
theorem dX6_cancel_48 : decode cX6_cancel 48 = .ok (.imul, 1) := by decide +kernel
theorem dX6_cancel_49 : decode cX6_cancel 49 = .ok (.iadd, 1) := by decide +kernel
theorem dX6_cancel_50 : decode cX6_cancel 50 = .ok (.iconst 2, 1) := by decide +kernel
theorem dX6_cancel_51 : decode cX6_cancel 51 = .ok (.iadd, 1) := by decide +kernel
theorem dX6_cancel_52 : decode cX6_cancel 52 = .ok (.iconst 1, 1) := by decide +kernel
theorem dX6_cancel_53 : decode cX6_cancel 53 = .ok (.invokevirtual 70, 3) := by decide +kernel
theorem dX6_cancel_56 : decode cX6_cancel 56 = .ok (.iconst 0, 1) := by decide +kernel
theorem dX6_cancel_57 : decode cX6_cancel 57 = .ok (.istore 4, 2) := by decide +kernel
theorem dX6_cancel_59 : decode cX6_cancel 59 = .ok (.iconst 0, 1) := by decide +kernel
theorem dX6_cancel_60 : decode cX6_cancel 60 = .ok (.istore 5, 2) := by decide +kernel
theorem dX6_cancel_62 : decode cX6_cancel 62 = .ok (.iload 5, 2) := by decide +kernel
theorem dX6_cancel_64 : decode cX6_cancel 64 = .ok (.aload_n 0, 1) := by decide +kernel
theorem dX6_cancel_65 : decode cX6_cancel 65 = .ok (.iload_n 3, 1) := by decide +kernel
theorem dX6_cancel_66 : decode cX6_cancel 66 = .ok (.iconst 3, 1) := by decide +kernel
theorem dX6_cancel_67 : decode cX6_cancel 67 = .ok (.invokevirtual 37, 3) := by decide +kernel
theorem dX6_cancel_70 : decode cX6_cancel 70 = .ok (.if_icmp .ge 29, 3) := by decide +kernel
theorem dX6_cancel_73 : decode cX6_cancel 73 = .ok (.iload 4, 2) := by decide +kernel
theorem dX6_cancel_75 : decode cX6_cancel 75 = .ok (.aload_n 0, 1) := by decide +kernel
theorem dX6_cancel_76 : decode cX6_cancel 76 = .ok (.iload_n 3, 1) := by decide +kernel
theorem dX6_cancel_77 : decode cX6_cancel 77 = .ok (.iload 5, 2) := by decide +kernel
theorem dX6_cancel_79 : decode cX6_cancel 79 = .ok (.invokevirtual 49, 3) := by decide +kernel
theorem dX6_cancel_82 : decode cX6_cancel 82 = .ok (.ifCond .eq 7, 3) := by decide +kernel
theorem dX6_cancel_85 : decode cX6_cancel 85 = .ok (.iconst 1, 1) := by decide +kernel
theorem dX6_cancel_86 : decode cX6_cancel 86 = .ok (.goto 4, 3) := by decide +kernel
theorem dX6_cancel_89 : decode cX6_cancel 89 = .ok (.iconst 0, 1) := by decide +kernel
theorem dX6_cancel_90 : decode cX6_cancel 90 = .ok (.iadd, 1) := by decide +kernel
theorem dX6_cancel_91 : decode cX6_cancel 91 = .ok (.istore 4, 2) := by decide +kernel
theorem dX6_cancel_93 : decode cX6_cancel 93 = .ok (.iinc 5 1, 3) := by decide +kernel
theorem dX6_cancel_96 : decode cX6_cancel 96 = .ok (.goto (-34), 3) := by decide +kernel
theorem dX6_cancel_99 : decode cX6_cancel 99 = .ok (.iload 4, 2) := by decide +kernel
theorem dX6_cancel_101 : decode cX6_cancel 101 = .ok (.ireturn, 1) := by decide +kernel
theorem dX6_move_0 : decode cX6_move 0 = .ok (.aload_n 0, 1) := by decide +kernel
theorem dX6_move_1 : decode cX6_move 1 = .ok (.iload_n 1, 1) := by decide +kernel
theorem dX6_move_2 : decode cX6_move 2 = .ok (.iload_n 2, 1) := by decide +kernel
theorem dX6_move_3 : decode cX6_move 3 = .ok (.invokevirtual 108, 3) := by decide +kernel
theorem dX6_move_6 : decode cX6_move 6 = .ok (.ifCond .eq 5, 3) := by decide +kernel
theorem dX6_move_9 : decode cX6_move 9 = .ok (.iconst 0, 1) := by decide +kernel
theorem dX6_move_10 : decode cX6_move 10 = .ok (.ireturn, 1) := by decide +kernel
theorem dX6_move_11 : decode cX6_move 11 = .ok (.aload_n 0, 1) := by decide +kernel
theorem dX6_move_12 : decode cX6_move 12 = .ok (.iload_n 1, 1) := by decide +kernel
theorem dX6_move_13 : decode cX6_move 13 = .ok (.invokevirtual 96, 3) := by decide +kernel
theorem dX6_move_16 : decode cX6_move 16 = .ok (.istore 5, 2) := by decide +kernel
theorem dX6_move_18 : decode cX6_move 18 = .ok (.aload_n 0, 1) := by decide +kernel
theorem dX6_move_19 : decode cX6_move 19 = .ok (.iload_n 3, 1) := by decide +kernel
theorem dX6_move_20 : decode cX6_move 20 = .ok (.invokestatic 77, 3) := by decide +kernel
theorem dX6_move_23 : decode cX6_move 23 = .ok (.ifCond .eq 30, 3) := by decide +kernel
theorem dX6_move_26 : decode cX6_move 26 = .ok (.iload 4, 2) := by decide +kernel
theorem dX6_move_28 : decode cX6_move 28 = .ok (.invokestatic 80, 3) := by decide +kernel
theorem dX6_move_31 : decode cX6_move 31 = .ok (.ifCond .eq 22, 3) := by decide +kernel
theorem dX6_move_34 : decode cX6_move 34 = .ok (.iload 4, 2) := by decide +kernel
theorem dX6_move_36 : decode cX6_move 36 = .ok (.aload_n 0, 1) := by decide +kernel
theorem dX6_move_37 : decode cX6_move 37 = .ok (.iload 5, 2) := by decide +kernel
theorem dX6_move_39 : decode cX6_move 39 = .ok (.iconst 2, 1) := by decide +kernel
theorem dX6_move_40 : decode cX6_move 40 = .ok (.invokevirtual 37, 3) := by decide +kernel
theorem dX6_move_43 : decode cX6_move 43 = .ok (.iadd, 1) := by decide +kernel
theorem dX6_move_44 : decode cX6_move 44 = .ok (.bipush 16, 2) := by decide +kernel
theorem dX6_move_46 : decode cX6_move 46 = .ok (.if_icmp .gt 7, 3) := by decide +kernel
theorem dX6_move_49 : decode cX6_move 49 = .ok (.iconst 0, 1) := by decide +kernel
theorem dX6_move_50 : decode cX6_move 50 = .ok (.goto 4, 3) := by decide +kernel
theorem dX6_move_53 : decode cX6_move 53 = .ok (.iconst 3, 1) := by decide +kernel
theorem dX6_move_54 : decode cX6_move 54 = .ok (.invokevirtual 34, 3) := by decide +kernel
theorem dX6_move_57 : decode cX6_move 57 = .ok (.ifCond .eq 5, 3) := by decide +kernel
theorem dX6_move_60 : decode cX6_move 60 = .ok (.iconst 0, 1) := by decide +kernel
theorem dX6_move_61 : decode cX6_move 61 = .ok (.ireturn, 1) := by decide +kernel
theorem dX6_move_62 : decode cX6_move 62 = .ok (.aload_n 0, 1) := by decide +kernel
theorem dX6_move_63 : decode cX6_move 63 = .ok (.iload 5, 2) := by decide +kernel
theorem dX6_move_65 : decode cX6_move 65 = .ok (.putfield 13, 3) := by decide +kernel
theorem dX6_move_68 : decode cX6_move 68 = .ok (.aload_n 0, 1) := by decide +kernel
theorem dX6_move_69 : decode cX6_move 69 = .ok (.iload_n 2, 1) := by decide +kernel
theorem dX6_move_70 : decode cX6_move 70 = .ok (.putfield 17, 3) := by decide +kernel
theorem dX6_move_73 : decode cX6_move 73 = .ok (.aload_n 0, 1) := by decide +kernel
theorem dX6_move_74 : decode cX6_move 74 = .ok (.aload_n 0, 1) := by decide +kernel
theorem dX6_move_75 : decode cX6_move 75 = .ok (.iload 5, 2) := by decide +kernel
theorem dX6_move_77 : decode cX6_move 77 = .ok (.invokevirtual 59, 3) := by decide +kernel
theorem dX6_move_80 : decode cX6_move 80 = .ok (.iload_n 3, 1) := by decide +kernel
theorem dX6_move_81 : decode cX6_move 81 = .ok (.iload 4, 2) := by decide +kernel
theorem dX6_move_83 : decode cX6_move 83 = .ok (.aload_n 0, 1) := by decide +kernel
theorem dX6_move_84 : decode cX6_move 84 = .ok (.iload 5, 2) := by decide +kernel
theorem dX6_move_86 : decode cX6_move 86 = .ok (.iconst 2, 1) := by decide +kernel
theorem dX6_move_87 : decode cX6_move 87 = .ok (.invokevirtual 37, 3) := by decide +kernel
theorem dX6_move_90 : decode cX6_move 90 = .ok (.invokevirtual 83, 3) := by decide +kernel
theorem dX6_move_93 : decode cX6_move 93 = .ok (.istore 6, 2) := by decide +kernel
theorem dX6_move_95 : decode cX6_move 95 = .ok (.aload_n 0, 1) := by decide +kernel
theorem dX6_move_96 : decode cX6_move 96 = .ok (.aload_n 0, 1) := by decide +kernel
theorem dX6_move_97 : decode cX6_move 97 = .ok (.iload 5, 2) := by decide +kernel
theorem dX6_move_99 : decode cX6_move 99 = .ok (.invokevirtual 59, 3) := by decide +kernel
theorem dX6_move_102 : decode cX6_move 102 = .ok (.iload_n 3, 1) := by decide +kernel
theorem dX6_move_103 : decode cX6_move 103 = .ok (.iload 4, 2) := by decide +kernel
theorem dX6_move_105 : decode cX6_move 105 = .ok (.aload_n 0, 1) := by decide +kernel
theorem dX6_move_106 : decode cX6_move 106 = .ok (.iload 5, 2) := by decide +kernel
theorem dX6_move_108 : decode cX6_move 108 = .ok (.iconst 2, 1) := by decide +kernel
theorem dX6_move_109 : decode cX6_move 109 = .ok (.invokevirtual 37, 3) := by decide +kernel
theorem dX6_move_112 : decode cX6_move 112 = .ok (.invokevirtual 89, 3) := by decide +kernel
theorem dX6_move_115 : decode cX6_move 115 = .ok (.istore 7, 2) := by decide +kernel
theorem dX6_move_117 : decode cX6_move 117 = .ok (.aload_n 0, 1) := by decide +kernel
theorem dX6_move_118 : decode cX6_move 118 = .ok (.iconst (-1), 1) := by decide +kernel
theorem dX6_move_119 : decode cX6_move 119 = .ok (.putfield 13, 3) := by decide +kernel
theorem dX6_move_122 : decode cX6_move 122 = .ok (.aload_n 0, 1) := by decide +kernel
theorem dX6_move_123 : decode cX6_move 123 = .ok (.iconst (-1), 1) := by decide +kernel
theorem dX6_move_124 : decode cX6_move 124 = .ok (.putfield 17, 3) := by decide +kernel
theorem dX6_move_127 : decode cX6_move 127 = .ok (.iload 6, 2) := by decide +kernel
theorem dX6_move_129 : decode cX6_move 129 = .ok (.ifCond .lt 14, 3) := by decide +kernel
theorem dX6_move_132 : decode cX6_move 132 = .ok (.aload_n 0, 1) := by decide +kernel
theorem dX6_move_133 : decode cX6_move 133 = .ok (.iconst 1, 1) := by decide +kernel
theorem dX6_move_134 : decode cX6_move 134 = .ok (.iload 6, 2) := by decide +kernel
theorem dX6_move_136 : decode cX6_move 136 = .ok (.iconst 4, 1) := by decide +kernel
theorem dX6_move_137 : decode cX6_move 137 = .ok (.invokevirtual 86, 3) := by decide +kernel
theorem dX6_move_140 : decode cX6_move 140 = .ok (.ifCond .ne 18, 3) := by decide +kernel
theorem dX6_move_143 : decode cX6_move 143 = .ok (.iload 7, 2) := by decide +kernel
theorem dX6_move_145 : decode cX6_move 145 = .ok (.ifCond .ge 15, 3) := by decide +kernel
theorem dX6_move_148 : decode cX6_move 148 = .ok (.aload_n 0, 1) := by decide +kernel
theorem dX6_move_149 : decode cX6_move 149 = .ok (.iconst 2, 1) := by decide +kernel
theorem dX6_move_150 : decode cX6_move 150 = .ok (.iload_n 2, 1) := by decide +kernel
theorem dX6_move_151 : decode cX6_move 151 = .ok (.iconst 4, 1) := by decide +kernel
theorem dX6_move_152 : decode cX6_move 152 = .ok (.invokevirtual 86, 3) := by decide +kernel
theorem dX6_move_155 : decode cX6_move 155 = .ok (.ifCond .eq 5, 3) := by decide +kernel
theorem dX6_move_158 : decode cX6_move 158 = .ok (.iconst 0, 1) := by decide +kernel
theorem dX6_move_159 : decode cX6_move 159 = .ok (.ireturn, 1) := by decide +kernel
theorem dX6_move_160 : decode cX6_move 160 = .ok (.aload_n 0, 1) := by decide +kernel
theorem dX6_move_161 : decode cX6_move 161 = .ok (.iload 5, 2) := by decide +kernel
theorem dX6_move_163 : decode cX6_move 163 = .ok (.iload_n 2, 1) := by decide +kernel
theorem dX6_move_164 : decode cX6_move 164 = .ok (.iload_n 3, 1) := by decide +kernel
theorem dX6_move_165 : decode cX6_move 165 = .ok (.iload 4, 2) := by decide +kernel
theorem dX6_move_167 : decode cX6_move 167 = .ok (.iload 7, 2) := by decide +kernel
theorem dX6_move_169 : decode cX6_move 169 = .ok (.invokevirtual 92, 3) := by decide +kernel
theorem dX6_move_172 : decode cX6_move 172 = .ok (.iload 7, 2) := by decide +kernel
theorem dX6_move_174 : decode cX6_move 174 = .ok (.ireturn, 1) := by decide +kernel
theorem dX6_meetingCount_0 : decode cX6_meetingCount 0 = .ok (.aload_n 0, 1) := by decide +kernel
theorem dX6_meetingCount_1 : decode cX6_meetingCount 1 = .ok (.iconst 0, 1) := by decide +kernel
theorem dX6_meetingCount_2 : decode cX6_meetingCount 2 = .ok (.putfield 23, 3) := by decide +kernel
theorem dX6_meetingCount_5 : decode cX6_meetingCount 5 = .ok (.aload_n 0, 1) := by decide +kernel
theorem dX6_meetingCount_6 : decode cX6_meetingCount 6 = .ok (.getfield 7, 3) := by decide +kernel
theorem dX6_meetingCount_9 : decode cX6_meetingCount 9 = .ok (.iconst 1, 1) := by decide +kernel
theorem dX6_meetingCount_10 : decode cX6_meetingCount 10 = .ok (.iaload, 1) := by decide +kernel
theorem dX6_meetingCount_11 : decode cX6_meetingCount 11 = .ok (.ireturn, 1) := by decide +kernel
theorem dX6_meetingAt_0 : decode cX6_meetingAt 0 = .ok (.aload_n 0, 1) := by decide +kernel
theorem dX6_meetingAt_1 : decode cX6_meetingAt 1 = .ok (.iload_n 1, 1) := by decide +kernel
theorem dX6_meetingAt_2 : decode cX6_meetingAt 2 = .ok (.iconst 0, 1) := by decide +kernel
theorem dX6_meetingAt_3 : decode cX6_meetingAt 3 = .ok (.aload_n 0, 1) := by decide +kernel
theorem dX6_meetingAt_4 : decode cX6_meetingAt 4 = .ok (.getfield 7, 3) := by decide +kernel
theorem dX6_meetingAt_7 : decode cX6_meetingAt 7 = .ok (.iconst 1, 1) := by decide +kernel
theorem dX6_meetingAt_8 : decode cX6_meetingAt 8 = .ok (.iaload, 1) := by decide +kernel
theorem dX6_meetingAt_9 : decode cX6_meetingAt 9 = .ok (.iconst 1, 1) := by decide +kernel
theorem dX6_meetingAt_10 : decode cX6_meetingAt 10 = .ok (.isub, 1) := by decide +kernel
theorem dX6_meetingAt_11 : decode cX6_meetingAt 11 = .ok (.invokestatic 26, 3) := by decide +kernel
theorem dX6_meetingAt_14 : decode cX6_meetingAt 14 = .ok (.ifCond .eq 7, 3) := by decide +kernel
theorem dX6_meetingAt_17 : decode cX6_meetingAt 17 = .ok (.iconst 0, 1) := by decide +kernel
theorem dX6_meetingAt_18 : decode cX6_meetingAt 18 = .ok (.goto 4, 3) := by decide +kernel
theorem dX6_meetingAt_21 : decode cX6_meetingAt 21 = .ok (.iconst 1, 1) := by decide +kernel
theorem dX6_meetingAt_22 : decode cX6_meetingAt 22 = .ok (.invokevirtual 34, 3) := by decide +kernel
theorem dX6_meetingAt_25 : decode cX6_meetingAt 25 = .ok (.ifCond .eq 7, 3) := by decide +kernel
theorem dX6_meetingAt_28 : decode cX6_meetingAt 28 = .ok (.iconst 0, 1) := by decide +kernel
theorem dX6_meetingAt_29 : decode cX6_meetingAt 29 = .ok (.goto 9, 3) := by decide +kernel
theorem dX6_meetingAt_32 : decode cX6_meetingAt 32 = .ok (.aload_n 0, 1) := by decide +kernel
theorem dX6_meetingAt_33 : decode cX6_meetingAt 33 = .ok (.iload_n 1, 1) := by decide +kernel
theorem dX6_meetingAt_34 : decode cX6_meetingAt 34 = .ok (.iconst 0, 1) := by decide +kernel
theorem dX6_meetingAt_35 : decode cX6_meetingAt 35 = .ok (.invokevirtual 37, 3) := by decide +kernel
theorem dX6_meetingAt_38 : decode cX6_meetingAt 38 = .ok (.ireturn, 1) := by decide +kernel
theorem dX6_hostOf_0 : decode cX6_hostOf 0 = .ok (.aload_n 0, 1) := by decide +kernel
theorem dX6_hostOf_1 : decode cX6_hostOf 1 = .ok (.iload_n 1, 1) := by decide +kernel
theorem dX6_hostOf_2 : decode cX6_hostOf 2 = .ok (.invokevirtual 99, 3) := by decide +kernel
theorem dX6_hostOf_5 : decode cX6_hostOf 5 = .ok (.ifCond .eq 7, 3) := by decide +kernel
theorem dX6_hostOf_8 : decode cX6_hostOf 8 = .ok (.iconst 0, 1) := by decide +kernel
theorem dX6_hostOf_9 : decode cX6_hostOf 9 = .ok (.goto 13, 3) := by decide +kernel
theorem dX6_hostOf_12 : decode cX6_hostOf 12 = .ok (.aload_n 0, 1) := by decide +kernel
theorem dX6_hostOf_13 : decode cX6_hostOf 13 = .ok (.aload_n 0, 1) := by decide +kernel
theorem dX6_hostOf_14 : decode cX6_hostOf 14 = .ok (.iload_n 1, 1) := by decide +kernel
theorem dX6_hostOf_15 : decode cX6_hostOf 15 = .ok (.invokevirtual 96, 3) := by decide +kernel
theorem dX6_hostOf_18 : decode cX6_hostOf 18 = .ok (.iconst 1, 1) := by decide +kernel
theorem dX6_hostOf_19 : decode cX6_hostOf 19 = .ok (.invokevirtual 37, 3) := by decide +kernel
theorem dX6_hostOf_22 : decode cX6_hostOf 22 = .ok (.ireturn, 1) := by decide +kernel
theorem dX6_answerOf_0 : decode cX6_answerOf 0 = .ok (.aload_n 0, 1) := by decide +kernel
theorem dX6_answerOf_1 : decode cX6_answerOf 1 = .ok (.iload_n 1, 1) := by decide +kernel
theorem dX6_answerOf_2 : decode cX6_answerOf 2 = .ok (.invokevirtual 99, 3) := by decide +kernel
theorem dX6_answerOf_5 : decode cX6_answerOf 5 = .ok (.ifCond .ne 22, 3) := by decide +kernel
theorem dX6_answerOf_8 : decode cX6_answerOf 8 = .ok (.aload_n 0, 1) := by decide +kernel
theorem dX6_answerOf_9 : decode cX6_answerOf 9 = .ok (.iload_n 2, 1) := by decide +kernel
theorem dX6_answerOf_10 : decode cX6_answerOf 10 = .ok (.invokestatic 74, 3) := by decide +kernel
theorem dX6_answerOf_13 : decode cX6_answerOf 13 = .ok (.ifCond .eq 7, 3) := by decide +kernel
theorem dX6_answerOf_16 : decode cX6_answerOf 16 = .ok (.iconst 0, 1) := by decide +kernel
theorem dX6_answerOf_17 : decode cX6_answerOf 17 = .ok (.goto 4, 3) := by decide +kernel
theorem dX6_answerOf_20 : decode cX6_answerOf 20 = .ok (.iconst 2, 1) := by decide +kernel
theorem dX6_answerOf_21 : decode cX6_answerOf 21 = .ok (.invokevirtual 34, 3) := by decide +kernel
theorem dX6_answerOf_24 : decode cX6_answerOf 24 = .ok (.ifCond .eq 6, 3) := by decide +kernel
theorem dX6_answerOf_27 : decode cX6_answerOf 27 = .ok (.bipush 32, 2) := by decide +kernel
theorem dX6_answerOf_29 : decode cX6_answerOf 29 = .ok (.ireturn, 1) := by decide +kernel
theorem dX6_answerOf_30 : decode cX6_answerOf 30 = .ok (.iload_n 2, 1) := by decide +kernel
theorem dX6_answerOf_31 : decode cX6_answerOf 31 = .ok (.aload_n 0, 1) := by decide +kernel
theorem dX6_answerOf_32 : decode cX6_answerOf 32 = .ok (.iload_n 1, 1) := by decide +kernel
theorem dX6_answerOf_33 : decode cX6_answerOf 33 = .ok (.invokevirtual 111, 3) := by decide +kernel
theorem dX6_answerOf_36 : decode cX6_answerOf 36 = .ok (.if_icmp .ne 8, 3) := by decide +kernel
theorem dX6_answerOf_39 : decode cX6_answerOf 39 = .ok (.bipush 104, 2) := by decide +kernel
theorem dX6_answerOf_41 : decode cX6_answerOf 41 = .ok (.goto 16, 3) := by decide +kernel
theorem dX6_answerOf_44 : decode cX6_answerOf 44 = .ok (.aload_n 0, 1) := by decide +kernel
theorem dX6_answerOf_45 : decode cX6_answerOf 45 = .ok (.aload_n 0, 1) := by decide +kernel
theorem dX6_answerOf_46 : decode cX6_answerOf 46 = .ok (.iload_n 1, 1) := by decide +kernel
theorem dX6_answerOf_47 : decode cX6_answerOf 47 = .ok (.invokevirtual 96, 3) := by decide +kernel
theorem dX6_answerOf_50 : decode cX6_answerOf 50 = .ok (.iconst 4, 1) := by decide +kernel
theorem dX6_answerOf_51 : decode cX6_answerOf 51 = .ok (.iload_n 2, 1) := by decide +kernel
theorem dX6_answerOf_52 : decode cX6_answerOf 52 = .ok (.iadd, 1) := by decide +kernel
theorem dX6_answerOf_53 : decode cX6_answerOf 53 = .ok (.invokevirtual 37, 3) := by decide +kernel
theorem dX6_answerOf_56 : decode cX6_answerOf 56 = .ok (.i2c, 1) := by decide +kernel
theorem dX6_answerOf_57 : decode cX6_answerOf 57 = .ok (.ireturn, 1) := by decide +kernel
theorem dX6_expected_0 : decode cX6_expected 0 = .ok (.aload_n 0, 1) := by decide +kernel
theorem dX6_expected_1 : decode cX6_expected 1 = .ok (.iload_n 1, 1) := by decide +kernel
theorem dX6_expected_2 : decode cX6_expected 2 = .ok (.invokevirtual 99, 3) := by decide +kernel
theorem dX6_expected_5 : decode cX6_expected 5 = .ok (.ifCond .eq 7, 3) := by decide +kernel
theorem dX6_expected_8 : decode cX6_expected 8 = .ok (.iconst 0, 1) := by decide +kernel
theorem dX6_expected_9 : decode cX6_expected 9 = .ok (.goto 15, 3) := by decide +kernel
theorem dX6_expected_12 : decode cX6_expected 12 = .ok (.aload_n 0, 1) := by decide +kernel
theorem dX6_expected_13 : decode cX6_expected 13 = .ok (.aload_n 0, 1) := by decide +kernel
theorem dX6_expected_14 : decode cX6_expected 14 = .ok (.iload_n 1, 1) := by decide +kernel
theorem dX6_expected_15 : decode cX6_expected 15 = .ok (.invokevirtual 96, 3) := by decide +kernel
theorem dX6_expected_18 : decode cX6_expected 18 = .ok (.invokevirtual 59, 3) := by decide +kernel
theorem dX6_expected_21 : decode cX6_expected 21 = .ok (.invokestatic 63, 3) := by decide +kernel
theorem dX6_expected_24 : decode cX6_expected 24 = .ok (.ireturn, 1) := by decide +kernel
theorem dX6_dateCount_0 : decode cX6_dateCount 0 = .ok (.aload_n 0, 1) := by decide +kernel
theorem dX6_dateCount_1 : decode cX6_dateCount 1 = .ok (.iload_n 1, 1) := by decide +kernel
theorem dX6_dateCount_2 : decode cX6_dateCount 2 = .ok (.invokevirtual 99, 3) := by decide +kernel
theorem dX6_dateCount_5 : decode cX6_dateCount 5 = .ok (.ifCond .eq 7, 3) := by decide +kernel
theorem dX6_dateCount_8 : decode cX6_dateCount 8 = .ok (.iconst 0, 1) := by decide +kernel
theorem dX6_dateCount_9 : decode cX6_dateCount 9 = .ok (.goto 13, 3) := by decide +kernel
theorem dX6_dateCount_12 : decode cX6_dateCount 12 = .ok (.aload_n 0, 1) := by decide +kernel
theorem dX6_dateCount_13 : decode cX6_dateCount 13 = .ok (.aload_n 0, 1) := by decide +kernel
theorem dX6_dateCount_14 : decode cX6_dateCount 14 = .ok (.iload_n 1, 1) := by decide +kernel
theorem dX6_dateCount_15 : decode cX6_dateCount 15 = .ok (.invokevirtual 96, 3) := by decide +kernel
theorem dX6_dateCount_18 : decode cX6_dateCount 18 = .ok (.iconst 3, 1) := by decide +kernel
theorem dX6_dateCount_19 : decode cX6_dateCount 19 = .ok (.invokevirtual 37, 3) := by decide +kernel
theorem dX6_dateCount_22 : decode cX6_dateCount 22 = .ok (.ireturn, 1) := by decide +kernel
theorem dX6_dayOf_0 : decode cX6_dayOf 0 = .ok (.aload_n 0, 1) := by decide +kernel
theorem dX6_dayOf_1 : decode cX6_dayOf 1 = .ok (.iload_n 1, 1) := by decide +kernel
theorem dX6_dayOf_2 : decode cX6_dayOf 2 = .ok (.iload_n 2, 1) := by decide +kernel
theorem dX6_dayOf_3 : decode cX6_dayOf 3 = .ok (.invokevirtual 108, 3) := by decide +kernel
theorem dX6_dayOf_6 : decode cX6_dayOf 6 = .ok (.ifCond .eq 7, 3) := by decide +kernel
theorem dX6_dayOf_9 : decode cX6_dayOf 9 = .ok (.iconst 0, 1) := by decide +kernel
theorem dX6_dayOf_10 : decode cX6_dayOf 10 = .ok (.goto 14, 3) := by decide +kernel
theorem dX6_dayOf_13 : decode cX6_dayOf 13 = .ok (.aload_n 0, 1) := by decide +kernel
theorem dX6_dayOf_14 : decode cX6_dayOf 14 = .ok (.aload_n 0, 1) := by decide +kernel
theorem dX6_dayOf_15 : decode cX6_dayOf 15 = .ok (.iload_n 1, 1) := by decide +kernel
theorem dX6_dayOf_16 : decode cX6_dayOf 16 = .ok (.invokevirtual 96, 3) := by decide +kernel
theorem dX6_dayOf_19 : decode cX6_dayOf 19 = .ok (.iload_n 2, 1) := by decide +kernel
theorem dX6_dayOf_20 : decode cX6_dayOf 20 = .ok (.iconst 0, 1) := by decide +kernel
theorem dX6_dayOf_21 : decode cX6_dayOf 21 = .ok (.invokevirtual 45, 3) := by decide +kernel
theorem dX6_dayOf_24 : decode cX6_dayOf 24 = .ok (.ireturn, 1) := by decide +kernel
theorem dX6_timeOf_0 : decode cX6_timeOf 0 = .ok (.aload_n 0, 1) := by decide +kernel
theorem dX6_timeOf_1 : decode cX6_timeOf 1 = .ok (.iload_n 1, 1) := by decide +kernel
theorem dX6_timeOf_2 : decode cX6_timeOf 2 = .ok (.iload_n 2, 1) := by decide +kernel
theorem dX6_timeOf_3 : decode cX6_timeOf 3 = .ok (.invokevirtual 108, 3) := by decide +kernel
theorem dX6_timeOf_6 : decode cX6_timeOf 6 = .ok (.ifCond .eq 7, 3) := by decide +kernel
theorem dX6_timeOf_9 : decode cX6_timeOf 9 = .ok (.iconst 0, 1) := by decide +kernel
theorem dX6_timeOf_10 : decode cX6_timeOf 10 = .ok (.goto 14, 3) := by decide +kernel
theorem dX6_timeOf_13 : decode cX6_timeOf 13 = .ok (.aload_n 0, 1) := by decide +kernel
theorem dX6_timeOf_14 : decode cX6_timeOf 14 = .ok (.aload_n 0, 1) := by decide +kernel
theorem dX6_timeOf_15 : decode cX6_timeOf 15 = .ok (.iload_n 1, 1) := by decide +kernel
theorem dX6_timeOf_16 : decode cX6_timeOf 16 = .ok (.invokevirtual 96, 3) := by decide +kernel
theorem dX6_timeOf_19 : decode cX6_timeOf 19 = .ok (.iload_n 2, 1) := by decide +kernel
theorem dX6_timeOf_20 : decode cX6_timeOf 20 = .ok (.iconst 1, 1) := by decide +kernel
theorem dX6_timeOf_21 : decode cX6_timeOf 21 = .ok (.invokevirtual 45, 3) := by decide +kernel
theorem dX6_timeOf_24 : decode cX6_timeOf 24 = .ok (.ireturn, 1) := by decide +kernel
theorem dX6_isCancelled_0 : decode cX6_isCancelled 0 = .ok (.aload_n 0, 1) := by decide +kernel
theorem dX6_isCancelled_1 : decode cX6_isCancelled 1 = .ok (.iload_n 1, 1) := by decide +kernel
theorem dX6_isCancelled_2 : decode cX6_isCancelled 2 = .ok (.iload_n 2, 1) := by decide +kernel
theorem dX6_isCancelled_3 : decode cX6_isCancelled 3 = .ok (.invokevirtual 108, 3) := by decide +kernel
theorem dX6_isCancelled_6 : decode cX6_isCancelled 6 = .ok (.ifCond .ne 20, 3) := by decide +kernel
theorem dX6_isCancelled_9 : decode cX6_isCancelled 9 = .ok (.aload_n 0, 1) := by decide +kernel
theorem dX6_isCancelled_10 : decode cX6_isCancelled 10 = .ok (.aload_n 0, 1) := by decide +kernel
theorem dX6_isCancelled_11 : decode cX6_isCancelled 11 = .ok (.iload_n 1, 1) := by decide +kernel
theorem dX6_isCancelled_12 : decode cX6_isCancelled 12 = .ok (.invokevirtual 96, 3) := by decide +kernel
theorem dX6_isCancelled_15 : decode cX6_isCancelled 15 = .ok (.iload_n 2, 1) := by decide +kernel
theorem dX6_isCancelled_16 : decode cX6_isCancelled 16 = .ok (.invokevirtual 49, 3) := by decide +kernel
theorem dX6_isCancelled_19 : decode cX6_isCancelled 19 = .ok (.ifCond .ne 7, 3) := by decide +kernel
theorem dX6_isCancelled_22 : decode cX6_isCancelled 22 = .ok (.iconst 1, 1) := by decide +kernel
theorem dX6_isCancelled_23 : decode cX6_isCancelled 23 = .ok (.goto 4, 3) := by decide +kernel
theorem dX6_isCancelled_26 : decode cX6_isCancelled 26 = .ok (.iconst 0, 1) := by decide +kernel
theorem dX6_isCancelled_27 : decode cX6_isCancelled 27 = .ok (.ireturn, 1) := by decide +kernel
theorem dX6_roomOf_0 : decode cX6_roomOf 0 = .ok (.aload_n 0, 1) := by decide +kernel
theorem dX6_roomOf_1 : decode cX6_roomOf 1 = .ok (.iload_n 1, 1) := by decide +kernel
theorem dX6_roomOf_2 : decode cX6_roomOf 2 = .ok (.iload_n 2, 1) := by decide +kernel
theorem dX6_roomOf_3 : decode cX6_roomOf 3 = .ok (.invokevirtual 108, 3) := by decide +kernel
theorem dX6_roomOf_6 : decode cX6_roomOf 6 = .ok (.ifCond .ne 28, 3) := by decide +kernel
theorem dX6_roomOf_9 : decode cX6_roomOf 9 = .ok (.aload_n 0, 1) := by decide +kernel
theorem dX6_roomOf_10 : decode cX6_roomOf 10 = .ok (.aload_n 0, 1) := by decide +kernel
theorem dX6_roomOf_11 : decode cX6_roomOf 11 = .ok (.aload_n 0, 1) := by decide +kernel
theorem dX6_roomOf_12 : decode cX6_roomOf 12 = .ok (.iload_n 1, 1) := by decide +kernel
theorem dX6_roomOf_13 : decode cX6_roomOf 13 = .ok (.invokevirtual 96, 3) := by decide +kernel
theorem dX6_roomOf_16 : decode cX6_roomOf 16 = .ok (.iload_n 2, 1) := by decide +kernel
theorem dX6_roomOf_17 : decode cX6_roomOf 17 = .ok (.invokevirtual 49, 3) := by decide +kernel
theorem dX6_roomOf_20 : decode cX6_roomOf 20 = .ok (.ifCond .eq 7, 3) := by decide +kernel
theorem dX6_roomOf_23 : decode cX6_roomOf 23 = .ok (.iconst 0, 1) := by decide +kernel
theorem dX6_roomOf_24 : decode cX6_roomOf 24 = .ok (.goto 4, 3) := by decide +kernel
theorem dX6_roomOf_27 : decode cX6_roomOf 27 = .ok (.iconst 3, 1) := by decide +kernel
theorem dX6_roomOf_28 : decode cX6_roomOf 28 = .ok (.invokevirtual 34, 3) := by decide +kernel
theorem dX6_roomOf_31 : decode cX6_roomOf 31 = .ok (.ifCond .eq 7, 3) := by decide +kernel
theorem dX6_roomOf_34 : decode cX6_roomOf 34 = .ok (.iconst 0, 1) := by decide +kernel
theorem dX6_roomOf_35 : decode cX6_roomOf 35 = .ok (.goto 14, 3) := by decide +kernel
theorem dX6_roomOf_38 : decode cX6_roomOf 38 = .ok (.aload_n 0, 1) := by decide +kernel
theorem dX6_roomOf_39 : decode cX6_roomOf 39 = .ok (.aload_n 0, 1) := by decide +kernel
theorem dX6_roomOf_40 : decode cX6_roomOf 40 = .ok (.iload_n 1, 1) := by decide +kernel
theorem dX6_roomOf_41 : decode cX6_roomOf 41 = .ok (.invokevirtual 96, 3) := by decide +kernel
theorem dX6_roomOf_44 : decode cX6_roomOf 44 = .ok (.iload_n 2, 1) := by decide +kernel
theorem dX6_roomOf_45 : decode cX6_roomOf 45 = .ok (.iconst 3, 1) := by decide +kernel
theorem dX6_roomOf_46 : decode cX6_roomOf 46 = .ok (.invokevirtual 45, 3) := by decide +kernel
theorem dX6_roomOf_49 : decode cX6_roomOf 49 = .ok (.ireturn, 1) := by decide +kernel
theorem dX6_refusalReason_0 : decode cX6_refusalReason 0 = .ok (.aload_n 0, 1) := by decide +kernel
theorem dX6_refusalReason_1 : decode cX6_refusalReason 1 = .ok (.aload_n 0, 1) := by decide +kernel
theorem dX6_refusalReason_2 : decode cX6_refusalReason 2 = .ok (.getfield 7, 3) := by decide +kernel
theorem dX6_refusalReason_5 : decode cX6_refusalReason 5 = .ok (.iconst 3, 1) := by decide +kernel
theorem dX6_refusalReason_6 : decode cX6_refusalReason 6 = .ok (.iaload, 1) := by decide +kernel
theorem dX6_refusalReason_7 : decode cX6_refusalReason 7 = .ok (.ifCond .ne 7, 3) := by decide +kernel
theorem dX6_refusalReason_10 : decode cX6_refusalReason 10 = .ok (.iconst 1, 1) := by decide +kernel
theorem dX6_refusalReason_11 : decode cX6_refusalReason 11 = .ok (.goto 4, 3) := by decide +kernel
theorem dX6_refusalReason_14 : decode cX6_refusalReason 14 = .ok (.iconst 0, 1) := by decide +kernel
theorem dX6_refusalReason_15 : decode cX6_refusalReason 15 = .ok (.invokevirtual 34, 3) := by decide +kernel
theorem dX6_refusalReason_18 : decode cX6_refusalReason 18 = .ok (.ifCond .eq 7, 3) := by decide +kernel
theorem dX6_refusalReason_21 : decode cX6_refusalReason 21 = .ok (.iconst 0, 1) := by decide +kernel
theorem dX6_refusalReason_22 : decode cX6_refusalReason 22 = .ok (.goto 9, 3) := by decide +kernel
theorem dX6_refusalReason_25 : decode cX6_refusalReason 25 = .ok (.aload_n 0, 1) := by decide +kernel
theorem dX6_refusalReason_26 : decode cX6_refusalReason 26 = .ok (.getfield 7, 3) := by decide +kernel
theorem dX6_refusalReason_29 : decode cX6_refusalReason 29 = .ok (.iconst 3, 1) := by decide +kernel
theorem dX6_refusalReason_30 : decode cX6_refusalReason 30 = .ok (.iaload, 1) := by decide +kernel
theorem dX6_refusalReason_31 : decode cX6_refusalReason 31 = .ok (.ireturn, 1) := by decide +kernel
theorem dX6_refusalDetail_0 : decode cX6_refusalDetail 0 = .ok (.aload_n 0, 1) := by decide +kernel
theorem dX6_refusalDetail_1 : decode cX6_refusalDetail 1 = .ok (.aload_n 0, 1) := by decide +kernel
theorem dX6_refusalDetail_2 : decode cX6_refusalDetail 2 = .ok (.getfield 7, 3) := by decide +kernel
theorem dX6_refusalDetail_5 : decode cX6_refusalDetail 5 = .ok (.iconst 3, 1) := by decide +kernel
theorem dX6_refusalDetail_6 : decode cX6_refusalDetail 6 = .ok (.iaload, 1) := by decide +kernel
theorem dX6_refusalDetail_7 : decode cX6_refusalDetail 7 = .ok (.ifCond .ne 7, 3) := by decide +kernel
theorem dX6_refusalDetail_10 : decode cX6_refusalDetail 10 = .ok (.iconst 1, 1) := by decide +kernel
theorem dX6_refusalDetail_11 : decode cX6_refusalDetail 11 = .ok (.goto 4, 3) := by decide +kernel
theorem dX6_refusalDetail_14 : decode cX6_refusalDetail 14 = .ok (.iconst 0, 1) := by decide +kernel
theorem dX6_refusalDetail_15 : decode cX6_refusalDetail 15 = .ok (.invokevirtual 34, 3) := by decide +kernel
theorem dX6_refusalDetail_18 : decode cX6_refusalDetail 18 = .ok (.ifCond .eq 7, 3) := by decide +kernel
theorem dX6_refusalDetail_21 : decode cX6_refusalDetail 21 = .ok (.iconst 0, 1) := by decide +kernel
theorem dX6_refusalDetail_22 : decode cX6_refusalDetail 22 = .ok (.goto 9, 3) := by decide +kernel
theorem dX6_refusalDetail_25 : decode cX6_refusalDetail 25 = .ok (.aload_n 0, 1) := by decide +kernel
theorem dX6_refusalDetail_26 : decode cX6_refusalDetail 26 = .ok (.getfield 7, 3) := by decide +kernel
theorem dX6_refusalDetail_29 : decode cX6_refusalDetail 29 = .ok (.iconst 4, 1) := by decide +kernel
theorem dX6_refusalDetail_30 : decode cX6_refusalDetail 30 = .ok (.iaload, 1) := by decide +kernel
theorem dX6_refusalDetail_31 : decode cX6_refusalDetail 31 = .ok (.ireturn, 1) := by decide +kernel
theorem dX6_isFreeAt_0 : decode cX6_isFreeAt 0 = .ok (.aload_n 0, 1) := by decide +kernel
theorem dX6_isFreeAt_1 : decode cX6_isFreeAt 1 = .ok (.iconst 1, 1) := by decide +kernel
theorem dX6_isFreeAt_2 : decode cX6_isFreeAt 2 = .ok (.iload_n 1, 1) := by decide +kernel
theorem dX6_isFreeAt_3 : decode cX6_isFreeAt 3 = .ok (.ishl, 1) := by decide +kernel
theorem dX6_isFreeAt_4 : decode cX6_isFreeAt 4 = .ok (.iload_n 2, 1) := by decide +kernel
theorem dX6_isFreeAt_5 : decode cX6_isFreeAt 5 = .ok (.iload_n 3, 1) := by decide +kernel
theorem dX6_isFreeAt_6 : decode cX6_isFreeAt 6 = .ok (.iconst 1, 1) := by decide +kernel
theorem dX6_isFreeAt_7 : decode cX6_isFreeAt 7 = .ok (.invokevirtual 83, 3) := by decide +kernel
theorem dX6_isFreeAt_10 : decode cX6_isFreeAt 10 = .ok (.ifCond .ge 7, 3) := by decide +kernel
theorem dX6_isFreeAt_13 : decode cX6_isFreeAt 13 = .ok (.iconst 1, 1) := by decide +kernel
theorem dX6_isFreeAt_14 : decode cX6_isFreeAt 14 = .ok (.goto 4, 3) := by decide +kernel
theorem dX6_isFreeAt_17 : decode cX6_isFreeAt 17 = .ok (.iconst 0, 1) := by decide +kernel
theorem dX6_isFreeAt_18 : decode cX6_isFreeAt 18 = .ok (.ireturn, 1) := by decide +kernel
theorem dX6_isNoTime_0 : decode cX6_isNoTime 0 = .ok (.iload_n 0, 1) := by decide +kernel
theorem dX6_isNoTime_1 : decode cX6_isNoTime 1 = .ok (.invokestatic 74, 3) := by decide +kernel
theorem dX6_isNoTime_4 : decode cX6_isNoTime 4 = .ok (.ifCond .eq 17, 3) := by decide +kernel
theorem dX6_isNoTime_7 : decode cX6_isNoTime 7 = .ok (.iload_n 1, 1) := by decide +kernel
theorem dX6_isNoTime_8 : decode cX6_isNoTime 8 = .ok (.invokestatic 77, 3) := by decide +kernel
theorem dX6_isNoTime_11 : decode cX6_isNoTime 11 = .ok (.ifCond .eq 10, 3) := by decide +kernel
theorem dX6_isNoTime_14 : decode cX6_isNoTime 14 = .ok (.iload_n 2, 1) := by decide +kernel
theorem dX6_isNoTime_15 : decode cX6_isNoTime 15 = .ok (.invokestatic 80, 3) := by decide +kernel
theorem dX6_isNoTime_18 : decode cX6_isNoTime 18 = .ok (.ifCond .ne 7, 3) := by decide +kernel
theorem dX6_isNoTime_21 : decode cX6_isNoTime 21 = .ok (.iconst 1, 1) := by decide +kernel
theorem dX6_isNoTime_22 : decode cX6_isNoTime 22 = .ok (.goto 4, 3) := by decide +kernel
theorem dX6_isNoTime_25 : decode cX6_isNoTime 25 = .ok (.iconst 0, 1) := by decide +kernel
theorem dX6_isNoTime_26 : decode cX6_isNoTime 26 = .ok (.ireturn, 1) := by decide +kernel
theorem dX6_isFree_0 : decode cX6_isFree 0 = .ok (.aload_n 0, 1) := by decide +kernel
theorem dX6_isFree_1 : decode cX6_isFree 1 = .ok (.iload_n 1, 1) := by decide +kernel
theorem dX6_isFree_2 : decode cX6_isFree 2 = .ok (.iload_n 2, 1) := by decide +kernel
theorem dX6_isFree_3 : decode cX6_isFree 3 = .ok (.iload_n 3, 1) := by decide +kernel
theorem dX6_isFree_4 : decode cX6_isFree 4 = .ok (.invokestatic 114, 3) := by decide +kernel
theorem dX6_isFree_7 : decode cX6_isFree 7 = .ok (.ifCond .eq 7, 3) := by decide +kernel
theorem dX6_isFree_10 : decode cX6_isFree 10 = .ok (.iconst 1, 1) := by decide +kernel
theorem dX6_isFree_11 : decode cX6_isFree 11 = .ok (.goto 4, 3) := by decide +kernel
theorem dX6_isFree_14 : decode cX6_isFree 14 = .ok (.iconst 0, 1) := by decide +kernel
theorem dX6_isFree_15 : decode cX6_isFree 15 = .ok (.invokevirtual 34, 3) := by decide +kernel
theorem dX6_isFree_18 : decode cX6_isFree 18 = .ok (.ifCond .ne 17, 3) := by decide +kernel
theorem dX6_isFree_21 : decode cX6_isFree 21 = .ok (.aload_n 0, 1) := by decide +kernel
theorem dX6_isFree_22 : decode cX6_isFree 22 = .ok (.iload_n 1, 1) := by decide +kernel
theorem dX6_isFree_23 : decode cX6_isFree 23 = .ok (.iload_n 2, 1) := by decide +kernel
theorem dX6_isFree_24 : decode cX6_isFree 24 = .ok (.iload_n 3, 1) := by decide +kernel
theorem dX6_isFree_25 : decode cX6_isFree 25 = .ok (.invokevirtual 117, 3) := by decide +kernel
theorem dX6_isFree_28 : decode cX6_isFree 28 = .ok (.ifCond .eq 7, 3) := by decide +kernel
theorem dX6_isFree_31 : decode cX6_isFree 31 = .ok (.iconst 1, 1) := by decide +kernel
theorem dX6_isFree_32 : decode cX6_isFree 32 = .ok (.goto 4, 3) := by decide +kernel
theorem dX6_isFree_35 : decode cX6_isFree 35 = .ok (.iconst 0, 1) := by decide +kernel
theorem dX6_isFree_36 : decode cX6_isFree 36 = .ok (.ireturn, 1) := by decide +kernel
theorem dX6_meetingOf_0 : decode cX6_meetingOf 0 = .ok (.aload_n 0, 1) := by decide +kernel
theorem dX6_meetingOf_1 : decode cX6_meetingOf 1 = .ok (.iload_n 1, 1) := by decide +kernel
theorem dX6_meetingOf_2 : decode cX6_meetingOf 2 = .ok (.iload_n 2, 1) := by decide +kernel
theorem dX6_meetingOf_3 : decode cX6_meetingOf 3 = .ok (.iload_n 3, 1) := by decide +kernel
theorem dX6_meetingOf_4 : decode cX6_meetingOf 4 = .ok (.invokestatic 114, 3) := by decide +kernel
theorem dX6_meetingOf_7 : decode cX6_meetingOf 7 = .ok (.ifCond .eq 7, 3) := by decide +kernel
theorem dX6_meetingOf_10 : decode cX6_meetingOf 10 = .ok (.iconst 1, 1) := by decide +kernel
theorem dX6_meetingOf_11 : decode cX6_meetingOf 11 = .ok (.goto 18, 3) := by decide +kernel
theorem dX6_meetingOf_14 : decode cX6_meetingOf 14 = .ok (.aload_n 0, 1) := by decide +kernel
theorem dX6_meetingOf_15 : decode cX6_meetingOf 15 = .ok (.iload_n 1, 1) := by decide +kernel
theorem dX6_meetingOf_16 : decode cX6_meetingOf 16 = .ok (.iload_n 2, 1) := by decide +kernel
theorem dX6_meetingOf_17 : decode cX6_meetingOf 17 = .ok (.iload_n 3, 1) := by decide +kernel
theorem dX6_meetingOf_18 : decode cX6_meetingOf 18 = .ok (.invokevirtual 117, 3) := by decide +kernel
theorem dX6_meetingOf_21 : decode cX6_meetingOf 21 = .ok (.ifCond .eq 7, 3) := by decide +kernel
theorem dX6_meetingOf_24 : decode cX6_meetingOf 24 = .ok (.iconst 2, 1) := by decide +kernel
theorem dX6_meetingOf_25 : decode cX6_meetingOf 25 = .ok (.goto 4, 3) := by decide +kernel
theorem dX6_meetingOf_28 : decode cX6_meetingOf 28 = .ok (.iconst 0, 1) := by decide +kernel
theorem dX6_meetingOf_29 : decode cX6_meetingOf 29 = .ok (.invokevirtual 34, 3) := by decide +kernel
theorem dX6_meetingOf_32 : decode cX6_meetingOf 32 = .ok (.ifCond .eq 5, 3) := by decide +kernel
theorem dX6_meetingOf_35 : decode cX6_meetingOf 35 = .ok (.iconst 0, 1) := by decide +kernel
theorem dX6_meetingOf_36 : decode cX6_meetingOf 36 = .ok (.ireturn, 1) := by decide +kernel
theorem dX6_meetingOf_37 : decode cX6_meetingOf 37 = .ok (.iconst (-1), 1) := by decide +kernel
theorem dX6_meetingOf_38 : decode cX6_meetingOf 38 = .ok (.istore 4, 2) := by decide +kernel
theorem dX6_meetingOf_40 : decode cX6_meetingOf 40 = .ok (.iconst 0, 1) := by decide +kernel
theorem dX6_meetingOf_41 : decode cX6_meetingOf 41 = .ok (.istore 5, 2) := by decide +kernel
theorem dX6_meetingOf_43 : decode cX6_meetingOf 43 = .ok (.iload 5, 2) := by decide +kernel
theorem dX6_meetingOf_45 : decode cX6_meetingOf 45 = .ok (.aload_n 0, 1) := by decide +kernel
theorem dX6_meetingOf_46 : decode cX6_meetingOf 46 = .ok (.getfield 7, 3) := by decide +kernel
theorem dX6_meetingOf_49 : decode cX6_meetingOf 49 = .ok (.iconst 1, 1) := by decide +kernel
theorem dX6_meetingOf_50 : decode cX6_meetingOf 50 = .ok (.iaload, 1) := by decide +kernel
theorem dX6_meetingOf_51 : decode cX6_meetingOf 51 = .ok (.if_icmp .ge 74, 3) := by decide +kernel
theorem dX6_meetingOf_54 : decode cX6_meetingOf 54 = .ok (.iconst 0, 1) := by decide +kernel
theorem dX6_meetingOf_55 : decode cX6_meetingOf 55 = .ok (.istore 6, 2) := by decide +kernel
theorem dX6_meetingOf_57 : decode cX6_meetingOf 57 = .ok (.iload 6, 2) := by decide +kernel
theorem dX6_meetingOf_59 : decode cX6_meetingOf 59 = .ok (.aload_n 0, 1) := by decide +kernel
theorem dX6_meetingOf_60 : decode cX6_meetingOf 60 = .ok (.iload 5, 2) := by decide +kernel
theorem dX6_meetingOf_62 : decode cX6_meetingOf 62 = .ok (.iconst 3, 1) := by decide +kernel
theorem dX6_meetingOf_63 : decode cX6_meetingOf 63 = .ok (.invokevirtual 37, 3) := by decide +kernel
theorem dX6_meetingOf_66 : decode cX6_meetingOf 66 = .ok (.if_icmp .ge 53, 3) := by decide +kernel
theorem dX6_meetingOf_69 : decode cX6_meetingOf 69 = .ok (.aload_n 0, 1) := by decide +kernel
theorem dX6_meetingOf_70 : decode cX6_meetingOf 70 = .ok (.iload 5, 2) := by decide +kernel
theorem dX6_meetingOf_72 : decode cX6_meetingOf 72 = .ok (.iload_n 1, 1) := by decide +kernel
theorem dX6_meetingOf_73 : decode cX6_meetingOf 73 = .ok (.invokevirtual 41, 3) := by decide +kernel
theorem dX6_meetingOf_76 : decode cX6_meetingOf 76 = .ok (.ifCond .eq 37, 3) := by decide +kernel
theorem dX6_meetingOf_79 : decode cX6_meetingOf 79 = .ok (.aload_n 0, 1) := by decide +kernel
theorem dX6_meetingOf_80 : decode cX6_meetingOf 80 = .ok (.iload 5, 2) := by decide +kernel
theorem dX6_meetingOf_82 : decode cX6_meetingOf 82 = .ok (.iload 6, 2) := by decide +kernel
theorem dX6_meetingOf_84 : decode cX6_meetingOf 84 = .ok (.iload_n 2, 1) := by decide +kernel
theorem dX6_meetingOf_85 : decode cX6_meetingOf 85 = .ok (.invokevirtual 52, 3) := by decide +kernel
theorem dX6_meetingOf_88 : decode cX6_meetingOf 88 = .ok (.ifCond .eq 25, 3) := by decide +kernel
theorem dX6_meetingOf_91 : decode cX6_meetingOf 91 = .ok (.aload_n 0, 1) := by decide +kernel
theorem dX6_meetingOf_92 : decode cX6_meetingOf 92 = .ok (.iload 5, 2) := by decide +kernel
theorem dX6_meetingOf_94 : decode cX6_meetingOf 94 = .ok (.iload 6, 2) := by decide +kernel
theorem dX6_meetingOf_96 : decode cX6_meetingOf 96 = .ok (.iload_n 3, 1) := by decide +kernel
theorem dX6_meetingOf_97 : decode cX6_meetingOf 97 = .ok (.iconst 1, 1) := by decide +kernel
theorem dX6_meetingOf_98 : decode cX6_meetingOf 98 = .ok (.invokevirtual 55, 3) := by decide +kernel
theorem dX6_meetingOf_101 : decode cX6_meetingOf 101 = .ok (.ifCond .ge 12, 3) := by decide +kernel
theorem dX6_meetingOf_104 : decode cX6_meetingOf 104 = .ok (.aload_n 0, 1) := by decide +kernel
theorem dX6_meetingOf_105 : decode cX6_meetingOf 105 = .ok (.iload 5, 2) := by decide +kernel
theorem dX6_meetingOf_107 : decode cX6_meetingOf 107 = .ok (.iconst 0, 1) := by decide +kernel
theorem dX6_meetingOf_108 : decode cX6_meetingOf 108 = .ok (.invokevirtual 37, 3) := by decide +kernel
theorem dX6_meetingOf_111 : decode cX6_meetingOf 111 = .ok (.istore 4, 2) := by decide +kernel
theorem dX6_meetingOf_113 : decode cX6_meetingOf 113 = .ok (.iinc 6 1, 3) := by decide +kernel
theorem dX6_meetingOf_116 : decode cX6_meetingOf 116 = .ok (.goto (-59), 3) := by decide +kernel
theorem dX6_meetingOf_119 : decode cX6_meetingOf 119 = .ok (.iinc 5 1, 3) := by decide +kernel
theorem dX6_meetingOf_122 : decode cX6_meetingOf 122 = .ok (.goto (-79), 3) := by decide +kernel
theorem dX6_meetingOf_125 : decode cX6_meetingOf 125 = .ok (.iload 4, 2) := by decide +kernel
theorem dX6_meetingOf_127 : decode cX6_meetingOf 127 = .ok (.ireturn, 1) := by decide +kernel
theorem dX6_frees_0 : decode cX6_frees 0 = .ok (.aload_n 0, 1) := by decide +kernel
theorem dX6_frees_1 : decode cX6_frees 1 = .ok (.iload_n 1, 1) := by decide +kernel
theorem dX6_frees_2 : decode cX6_frees 2 = .ok (.invokestatic 74, 3) := by decide +kernel
theorem dX6_frees_5 : decode cX6_frees 5 = .ok (.ifCond .eq 14, 3) := by decide +kernel
theorem dX6_frees_8 : decode cX6_frees 8 = .ok (.iload_n 2, 1) := by decide +kernel
theorem dX6_frees_9 : decode cX6_frees 9 = .ok (.invokestatic 77, 3) := by decide +kernel
theorem dX6_frees_12 : decode cX6_frees 12 = .ok (.ifCond .eq 7, 3) := by decide +kernel
theorem dX6_frees_15 : decode cX6_frees 15 = .ok (.iconst 0, 1) := by decide +kernel
theorem dX6_frees_16 : decode cX6_frees 16 = .ok (.goto 4, 3) := by decide +kernel
theorem dX6_frees_19 : decode cX6_frees 19 = .ok (.iconst 1, 1) := by decide +kernel
theorem dX6_frees_20 : decode cX6_frees 20 = .ok (.invokevirtual 34, 3) := by decide +kernel
theorem dX6_frees_23 : decode cX6_frees 23 = .ok (.ifCond .eq 5, 3) := by decide +kernel
theorem dX6_frees_26 : decode cX6_frees 26 = .ok (.iconst 0, 1) := by decide +kernel
theorem dX6_frees_27 : decode cX6_frees 27 = .ok (.ireturn, 1) := by decide +kernel
theorem dX6_frees_28 : decode cX6_frees 28 = .ok (.iconst 0, 1) := by decide +kernel
theorem dX6_frees_29 : decode cX6_frees 29 = .ok (.istore_n 3, 1) := by decide +kernel
theorem dX6_frees_30 : decode cX6_frees 30 = .ok (.iconst 0, 1) := by decide +kernel
theorem dX6_frees_31 : decode cX6_frees 31 = .ok (.istore 4, 2) := by decide +kernel
theorem dX6_frees_33 : decode cX6_frees 33 = .ok (.iload 4, 2) := by decide +kernel
theorem dX6_frees_35 : decode cX6_frees 35 = .ok (.bipush 16, 2) := by decide +kernel
theorem dX6_frees_37 : decode cX6_frees 37 = .ok (.if_icmp .ge 28, 3) := by decide +kernel
theorem dX6_frees_40 : decode cX6_frees 40 = .ok (.iload_n 3, 1) := by decide +kernel
theorem dX6_frees_41 : decode cX6_frees 41 = .ok (.aload_n 0, 1) := by decide +kernel
theorem dX6_frees_42 : decode cX6_frees 42 = .ok (.iload_n 1, 1) := by decide +kernel
theorem dX6_frees_43 : decode cX6_frees 43 = .ok (.iload_n 2, 1) := by decide +kernel
theorem dX6_frees_44 : decode cX6_frees 44 = .ok (.iload 4, 2) := by decide +kernel
theorem dX6_frees_46 : decode cX6_frees 46 = .ok (.invokevirtual 117, 3) := by decide +kernel
theorem dX6_frees_49 : decode cX6_frees 49 = .ok (.ifCond .eq 7, 3) := by decide +kernel
theorem dX6_frees_52 : decode cX6_frees 52 = .ok (.iconst 1, 1) := by decide +kernel
theorem dX6_frees_53 : decode cX6_frees 53 = .ok (.goto 4, 3) := by decide +kernel
theorem dX6_frees_56 : decode cX6_frees 56 = .ok (.iconst 0, 1) := by decide +kernel
theorem dX6_frees_57 : decode cX6_frees 57 = .ok (.iadd, 1) := by decide +kernel
theorem dX6_frees_58 : decode cX6_frees 58 = .ok (.istore_n 3, 1) := by decide +kernel
theorem dX6_frees_59 : decode cX6_frees 59 = .ok (.iinc 4 1, 3) := by decide +kernel
theorem dX6_frees_62 : decode cX6_frees 62 = .ok (.goto (-29), 3) := by decide +kernel
theorem dX6_frees_65 : decode cX6_frees 65 = .ok (.iload_n 3, 1) := by decide +kernel
theorem dX6_frees_66 : decode cX6_frees 66 = .ok (.ireturn, 1) := by decide +kernel
theorem dX6_freeTimes_0 : decode cX6_freeTimes 0 = .ok (.aload_n 0, 1) := by decide +kernel
theorem dX6_freeTimes_1 : decode cX6_freeTimes 1 = .ok (.iload_n 1, 1) := by decide +kernel
theorem dX6_freeTimes_2 : decode cX6_freeTimes 2 = .ok (.iload_n 2, 1) := by decide +kernel
theorem dX6_freeTimes_3 : decode cX6_freeTimes 3 = .ok (.invokevirtual 120, 3) := by decide +kernel
theorem dX6_freeTimes_6 : decode cX6_freeTimes 6 = .ok (.ireturn, 1) := by decide +kernel
theorem dX6_freeByTrying_0 : decode cX6_freeByTrying 0 = .ok (.aload_n 0, 1) := by decide +kernel
theorem dX6_freeByTrying_1 : decode cX6_freeByTrying 1 = .ok (.iload_n 1, 1) := by decide +kernel
theorem dX6_freeByTrying_2 : decode cX6_freeByTrying 2 = .ok (.iload_n 2, 1) := by decide +kernel
theorem dX6_freeByTrying_3 : decode cX6_freeByTrying 3 = .ok (.invokevirtual 120, 3) := by decide +kernel
theorem dX6_freeByTrying_6 : decode cX6_freeByTrying 6 = .ok (.ireturn, 1) := by decide +kernel
theorem dX6_longestFree_0 : decode cX6_longestFree 0 = .ok (.aload_n 0, 1) := by decide +kernel
theorem dX6_longestFree_1 : decode cX6_longestFree 1 = .ok (.iload_n 1, 1) := by decide +kernel
theorem dX6_longestFree_2 : decode cX6_longestFree 2 = .ok (.invokestatic 74, 3) := by decide +kernel
theorem dX6_longestFree_5 : decode cX6_longestFree 5 = .ok (.ifCond .eq 14, 3) := by decide +kernel
theorem dX6_longestFree_8 : decode cX6_longestFree 8 = .ok (.iload_n 2, 1) := by decide +kernel
theorem dX6_longestFree_9 : decode cX6_longestFree 9 = .ok (.invokestatic 77, 3) := by decide +kernel
theorem dX6_longestFree_12 : decode cX6_longestFree 12 = .ok (.ifCond .eq 7, 3) := by decide +kernel
theorem dX6_longestFree_15 : decode cX6_longestFree 15 = .ok (.iconst 0, 1) := by decide +kernel
theorem dX6_longestFree_16 : decode cX6_longestFree 16 = .ok (.goto 4, 3) := by decide +kernel
theorem dX6_longestFree_19 : decode cX6_longestFree 19 = .ok (.iconst 1, 1) := by decide +kernel
theorem dX6_longestFree_20 : decode cX6_longestFree 20 = .ok (.invokevirtual 34, 3) := by decide +kernel
theorem dX6_longestFree_23 : decode cX6_longestFree 23 = .ok (.ifCond .eq 5, 3) := by decide +kernel
theorem dX6_longestFree_26 : decode cX6_longestFree 26 = .ok (.iconst 0, 1) := by decide +kernel
theorem dX6_longestFree_27 : decode cX6_longestFree 27 = .ok (.ireturn, 1) := by decide +kernel
theorem dX6_longestFree_28 : decode cX6_longestFree 28 = .ok (.iconst 0, 1) := by decide +kernel
theorem dX6_longestFree_29 : decode cX6_longestFree 29 = .ok (.istore_n 3, 1) := by decide +kernel
theorem dX6_longestFree_30 : decode cX6_longestFree 30 = .ok (.iconst 0, 1) := by decide +kernel
theorem dX6_longestFree_31 : decode cX6_longestFree 31 = .ok (.istore 4, 2) := by decide +kernel
theorem dX6_longestFree_33 : decode cX6_longestFree 33 = .ok (.iconst 0, 1) := by decide +kernel
theorem dX6_longestFree_34 : decode cX6_longestFree 34 = .ok (.istore 5, 2) := by decide +kernel
theorem dX6_longestFree_36 : decode cX6_longestFree 36 = .ok (.iload 5, 2) := by decide +kernel
theorem dX6_longestFree_38 : decode cX6_longestFree 38 = .ok (.bipush 16, 2) := by decide +kernel
theorem dX6_longestFree_40 : decode cX6_longestFree 40 = .ok (.if_icmp .ge 43, 3) := by decide +kernel
theorem dX6_longestFree_43 : decode cX6_longestFree 43 = .ok (.aload_n 0, 1) := by decide +kernel
theorem dX6_longestFree_44 : decode cX6_longestFree 44 = .ok (.iload_n 1, 1) := by decide +kernel
theorem dX6_longestFree_45 : decode cX6_longestFree 45 = .ok (.iload_n 2, 1) := by decide +kernel
theorem dX6_longestFree_46 : decode cX6_longestFree 46 = .ok (.iload 5, 2) := by decide +kernel
theorem dX6_longestFree_48 : decode cX6_longestFree 48 = .ok (.invokevirtual 117, 3) := by decide +kernel
theorem dX6_longestFree_51 : decode cX6_longestFree 51 = .ok (.ifCond .eq 10, 3) := by decide +kernel
theorem dX6_longestFree_54 : decode cX6_longestFree 54 = .ok (.iload 4, 2) := by decide +kernel
theorem dX6_longestFree_56 : decode cX6_longestFree 56 = .ok (.iconst 1, 1) := by decide +kernel
theorem dX6_longestFree_57 : decode cX6_longestFree 57 = .ok (.iadd, 1) := by decide +kernel
theorem dX6_longestFree_58 : decode cX6_longestFree 58 = .ok (.goto 4, 3) := by decide +kernel
theorem dX6_longestFree_61 : decode cX6_longestFree 61 = .ok (.iconst 0, 1) := by decide +kernel
theorem dX6_longestFree_62 : decode cX6_longestFree 62 = .ok (.istore 4, 2) := by decide +kernel
theorem dX6_longestFree_64 : decode cX6_longestFree 64 = .ok (.iload 4, 2) := by decide +kernel
theorem dX6_longestFree_66 : decode cX6_longestFree 66 = .ok (.iload_n 3, 1) := by decide +kernel
theorem dX6_longestFree_67 : decode cX6_longestFree 67 = .ok (.if_icmp .le 8, 3) := by decide +kernel
theorem dX6_longestFree_70 : decode cX6_longestFree 70 = .ok (.iload 4, 2) := by decide +kernel
theorem dX6_longestFree_72 : decode cX6_longestFree 72 = .ok (.goto 4, 3) := by decide +kernel
theorem dX6_longestFree_75 : decode cX6_longestFree 75 = .ok (.iload_n 3, 1) := by decide +kernel
theorem dX6_longestFree_76 : decode cX6_longestFree 76 = .ok (.istore_n 3, 1) := by decide +kernel
theorem dX6_longestFree_77 : decode cX6_longestFree 77 = .ok (.iinc 5 1, 3) := by decide +kernel
theorem dX6_longestFree_80 : decode cX6_longestFree 80 = .ok (.goto (-44), 3) := by decide +kernel
theorem dX6_longestFree_83 : decode cX6_longestFree 83 = .ok (.iload_n 3, 1) := by decide +kernel
theorem dX6_longestFree_84 : decode cX6_longestFree 84 = .ok (.ireturn, 1) := by decide +kernel
theorem dX6_isNoPlan_0 : decode cX6_isNoPlan 0 = .ok (.aload_n 0, 1) := by decide +kernel
theorem dX6_isNoPlan_1 : decode cX6_isNoPlan 1 = .ok (.iload_n 1, 1) := by decide +kernel
theorem dX6_isNoPlan_2 : decode cX6_isNoPlan 2 = .ok (.iconst 1, 1) := by decide +kernel
theorem dX6_isNoPlan_3 : decode cX6_isNoPlan 3 = .ok (.bipush 63, 2) := by decide +kernel
theorem dX6_isNoPlan_5 : decode cX6_isNoPlan 5 = .ok (.invokestatic 26, 3) := by decide +kernel
theorem dX6_isNoPlan_8 : decode cX6_isNoPlan 8 = .ok (.ifCond .eq 24, 3) := by decide +kernel
theorem dX6_isNoPlan_11 : decode cX6_isNoPlan 11 = .ok (.iload_n 2, 1) := by decide +kernel
theorem dX6_isNoPlan_12 : decode cX6_isNoPlan 12 = .ok (.iconst 1, 1) := by decide +kernel
theorem dX6_isNoPlan_13 : decode cX6_isNoPlan 13 = .ok (.bipush 6, 2) := by decide +kernel
theorem dX6_isNoPlan_15 : decode cX6_isNoPlan 15 = .ok (.invokestatic 26, 3) := by decide +kernel
theorem dX6_isNoPlan_18 : decode cX6_isNoPlan 18 = .ok (.ifCond .eq 14, 3) := by decide +kernel
theorem dX6_isNoPlan_21 : decode cX6_isNoPlan 21 = .ok (.iload_n 3, 1) := by decide +kernel
theorem dX6_isNoPlan_22 : decode cX6_isNoPlan 22 = .ok (.invokestatic 77, 3) := by decide +kernel
theorem dX6_isNoPlan_25 : decode cX6_isNoPlan 25 = .ok (.ifCond .eq 7, 3) := by decide +kernel
theorem dX6_isNoPlan_28 : decode cX6_isNoPlan 28 = .ok (.iconst 0, 1) := by decide +kernel
theorem dX6_isNoPlan_29 : decode cX6_isNoPlan 29 = .ok (.goto 4, 3) := by decide +kernel
theorem dX6_isNoPlan_32 : decode cX6_isNoPlan 32 = .ok (.iconst 1, 1) := by decide +kernel
theorem dX6_isNoPlan_33 : decode cX6_isNoPlan 33 = .ok (.invokevirtual 34, 3) := by decide +kernel
theorem dX6_isNoPlan_36 : decode cX6_isNoPlan 36 = .ok (.ireturn, 1) := by decide +kernel
theorem dX6_roomFound_0 : decode cX6_roomFound 0 = .ok (.aload_n 0, 1) := by decide +kernel
theorem dX6_roomFound_1 : decode cX6_roomFound 1 = .ok (.iload_n 1, 1) := by decide +kernel
theorem dX6_roomFound_2 : decode cX6_roomFound 2 = .ok (.iload_n 3, 1) := by decide +kernel
theorem dX6_roomFound_3 : decode cX6_roomFound 3 = .ok (.iload 4, 2) := by decide +kernel
theorem dX6_roomFound_5 : decode cX6_roomFound 5 = .ok (.iload_n 2, 1) := by decide +kernel
theorem dX6_roomFound_6 : decode cX6_roomFound 6 = .ok (.invokevirtual 83, 3) := by decide +kernel
theorem dX6_roomFound_9 : decode cX6_roomFound 9 = .ok (.ifCond .lt 7, 3) := by decide +kernel
theorem dX6_roomFound_12 : decode cX6_roomFound 12 = .ok (.iconst (-1), 1) := by decide +kernel
theorem dX6_roomFound_13 : decode cX6_roomFound 13 = .ok (.goto 12, 3) := by decide +kernel
theorem dX6_roomFound_16 : decode cX6_roomFound 16 = .ok (.aload_n 0, 1) := by decide +kernel
theorem dX6_roomFound_17 : decode cX6_roomFound 17 = .ok (.iload_n 1, 1) := by decide +kernel
theorem dX6_roomFound_18 : decode cX6_roomFound 18 = .ok (.iload_n 3, 1) := by decide +kernel
theorem dX6_roomFound_19 : decode cX6_roomFound 19 = .ok (.iload 4, 2) := by decide +kernel
theorem dX6_roomFound_21 : decode cX6_roomFound 21 = .ok (.iload_n 2, 1) := by decide +kernel
theorem dX6_roomFound_22 : decode cX6_roomFound 22 = .ok (.invokevirtual 89, 3) := by decide +kernel
theorem dX6_roomFound_25 : decode cX6_roomFound 25 = .ok (.ireturn, 1) := by decide +kernel
theorem dX6_firstCommon_0 : decode cX6_firstCommon 0 = .ok (.aload_n 0, 1) := by decide +kernel
theorem dX6_firstCommon_1 : decode cX6_firstCommon 1 = .ok (.iload_n 1, 1) := by decide +kernel
theorem dX6_firstCommon_2 : decode cX6_firstCommon 2 = .ok (.iload_n 2, 1) := by decide +kernel
theorem dX6_firstCommon_3 : decode cX6_firstCommon 3 = .ok (.iload_n 3, 1) := by decide +kernel
theorem dX6_firstCommon_4 : decode cX6_firstCommon 4 = .ok (.invokevirtual 123, 3) := by decide +kernel
theorem dX6_firstCommon_7 : decode cX6_firstCommon 7 = .ok (.ifCond .eq 5, 3) := by decide +kernel
theorem dX6_firstCommon_10 : decode cX6_firstCommon 10 = .ok (.iconst 0, 1) := by decide +kernel
theorem dX6_firstCommon_11 : decode cX6_firstCommon 11 = .ok (.ireturn, 1) := by decide +kernel
theorem dX6_firstCommon_12 : decode cX6_firstCommon 12 = .ok (.iload_n 3, 1) := by decide +kernel
theorem dX6_firstCommon_13 : decode cX6_firstCommon 13 = .ok (.istore 4, 2) := by decide +kernel
theorem dX6_firstCommon_15 : decode cX6_firstCommon 15 = .ok (.iload 4, 2) := by decide +kernel
theorem dX6_firstCommon_17 : decode cX6_firstCommon 17 = .ok (.bipush 28, 2) := by decide +kernel
theorem dX6_firstCommon_19 : decode cX6_firstCommon 19 = .ok (.if_icmp .ge 49, 3) := by decide +kernel
theorem dX6_firstCommon_22 : decode cX6_firstCommon 22 = .ok (.iconst 0, 1) := by decide +kernel
theorem dX6_firstCommon_23 : decode cX6_firstCommon 23 = .ok (.istore 5, 2) := by decide +kernel
theorem dX6_firstCommon_25 : decode cX6_firstCommon 25 = .ok (.iload 5, 2) := by decide +kernel
theorem dX6_firstCommon_27 : decode cX6_firstCommon 27 = .ok (.iload_n 2, 1) := by decide +kernel
theorem dX6_firstCommon_28 : decode cX6_firstCommon 28 = .ok (.iadd, 1) := by decide +kernel
theorem dX6_firstCommon_29 : decode cX6_firstCommon 29 = .ok (.bipush 16, 2) := by decide +kernel
theorem dX6_firstCommon_31 : decode cX6_firstCommon 31 = .ok (.if_icmp .gt 31, 3) := by decide +kernel
theorem dX6_firstCommon_34 : decode cX6_firstCommon 34 = .ok (.aload_n 0, 1) := by decide +kernel
theorem dX6_firstCommon_35 : decode cX6_firstCommon 35 = .ok (.iload_n 1, 1) := by decide +kernel
theorem dX6_firstCommon_36 : decode cX6_firstCommon 36 = .ok (.iload_n 2, 1) := by decide +kernel
theorem dX6_firstCommon_37 : decode cX6_firstCommon 37 = .ok (.iload 4, 2) := by decide +kernel
theorem dX6_firstCommon_39 : decode cX6_firstCommon 39 = .ok (.iload 5, 2) := by decide +kernel
theorem dX6_firstCommon_41 : decode cX6_firstCommon 41 = .ok (.invokevirtual 126, 3) := by decide +kernel
theorem dX6_firstCommon_44 : decode cX6_firstCommon 44 = .ok (.ifCond .lt 12, 3) := by decide +kernel
theorem dX6_firstCommon_47 : decode cX6_firstCommon 47 = .ok (.bipush 16, 2) := by decide +kernel
theorem dX6_firstCommon_49 : decode cX6_firstCommon 49 = .ok (.iload 4, 2) := by decide +kernel
theorem dX6_firstCommon_51 : decode cX6_firstCommon 51 = .ok (.imul, 1) := by decide +kernel
theorem dX6_firstCommon_52 : decode cX6_firstCommon 52 = .ok (.iload 5, 2) := by decide +kernel
theorem dX6_firstCommon_54 : decode cX6_firstCommon 54 = .ok (.iadd, 1) := by decide +kernel
theorem dX6_firstCommon_55 : decode cX6_firstCommon 55 = .ok (.ireturn, 1) := by decide +kernel
theorem dX6_firstCommon_56 : decode cX6_firstCommon 56 = .ok (.iinc 5 1, 3) := by decide +kernel
theorem dX6_firstCommon_59 : decode cX6_firstCommon 59 = .ok (.goto (-34), 3) := by decide +kernel
theorem dX6_firstCommon_62 : decode cX6_firstCommon 62 = .ok (.iinc 4 1, 3) := by decide +kernel
theorem dX6_firstCommon_65 : decode cX6_firstCommon 65 = .ok (.goto (-50), 3) := by decide +kernel
theorem dX6_firstCommon_68 : decode cX6_firstCommon 68 = .ok (.aload_n 0, 1) := by decide +kernel
theorem dX6_firstCommon_69 : decode cX6_firstCommon 69 = .ok (.iconst 2, 1) := by decide +kernel
theorem dX6_firstCommon_70 : decode cX6_firstCommon 70 = .ok (.putfield 23, 3) := by decide +kernel
theorem dX6_firstCommon_73 : decode cX6_firstCommon 73 = .ok (.iconst 0, 1) := by decide +kernel
theorem dX6_firstCommon_74 : decode cX6_firstCommon 74 = .ok (.ireturn, 1) := by decide +kernel
theorem dX6_commonCount_0 : decode cX6_commonCount 0 = .ok (.aload_n 0, 1) := by decide +kernel
theorem dX6_commonCount_1 : decode cX6_commonCount 1 = .ok (.iload_n 1, 1) := by decide +kernel
theorem dX6_commonCount_2 : decode cX6_commonCount 2 = .ok (.iload_n 2, 1) := by decide +kernel
theorem dX6_commonCount_3 : decode cX6_commonCount 3 = .ok (.iload_n 3, 1) := by decide +kernel
theorem dX6_commonCount_4 : decode cX6_commonCount 4 = .ok (.invokevirtual 123, 3) := by decide +kernel
theorem dX6_commonCount_7 : decode cX6_commonCount 7 = .ok (.ifCond .eq 5, 3) := by decide +kernel
theorem dX6_commonCount_10 : decode cX6_commonCount 10 = .ok (.iconst 0, 1) := by decide +kernel
theorem dX6_commonCount_11 : decode cX6_commonCount 11 = .ok (.ireturn, 1) := by decide +kernel
theorem dX6_commonCount_12 : decode cX6_commonCount 12 = .ok (.iconst 0, 1) := by decide +kernel
theorem dX6_commonCount_13 : decode cX6_commonCount 13 = .ok (.istore 4, 2) := by decide +kernel
theorem dX6_commonCount_15 : decode cX6_commonCount 15 = .ok (.iconst 0, 1) := by decide +kernel
theorem dX6_commonCount_16 : decode cX6_commonCount 16 = .ok (.istore 5, 2) := by decide +kernel
theorem dX6_commonCount_18 : decode cX6_commonCount 18 = .ok (.iload 5, 2) := by decide +kernel
theorem dX6_commonCount_20 : decode cX6_commonCount 20 = .ok (.iload_n 2, 1) := by decide +kernel
theorem dX6_commonCount_21 : decode cX6_commonCount 21 = .ok (.iadd, 1) := by decide +kernel
theorem dX6_commonCount_22 : decode cX6_commonCount 22 = .ok (.bipush 16, 2) := by decide +kernel
theorem dX6_commonCount_24 : decode cX6_commonCount 24 = .ok (.if_icmp .gt 31, 3) := by decide +kernel
theorem dX6_commonCount_27 : decode cX6_commonCount 27 = .ok (.iload 4, 2) := by decide +kernel
theorem dX6_commonCount_29 : decode cX6_commonCount 29 = .ok (.aload_n 0, 1) := by decide +kernel
theorem dX6_commonCount_30 : decode cX6_commonCount 30 = .ok (.iload_n 1, 1) := by decide +kernel
theorem dX6_commonCount_31 : decode cX6_commonCount 31 = .ok (.iload_n 2, 1) := by decide +kernel
theorem dX6_commonCount_32 : decode cX6_commonCount 32 = .ok (.iload_n 3, 1) := by decide +kernel
theorem dX6_commonCount_33 : decode cX6_commonCount 33 = .ok (.iload 5, 2) := by decide +kernel
theorem dX6_commonCount_35 : decode cX6_commonCount 35 = .ok (.invokevirtual 126, 3) := by decide +kernel
theorem dX6_commonCount_38 : decode cX6_commonCount 38 = .ok (.ifCond .lt 7, 3) := by decide +kernel
theorem dX6_commonCount_41 : decode cX6_commonCount 41 = .ok (.iconst 1, 1) := by decide +kernel
theorem dX6_commonCount_42 : decode cX6_commonCount 42 = .ok (.goto 4, 3) := by decide +kernel
theorem dX6_commonCount_45 : decode cX6_commonCount 45 = .ok (.iconst 0, 1) := by decide +kernel
theorem dX6_commonCount_46 : decode cX6_commonCount 46 = .ok (.iadd, 1) := by decide +kernel
theorem dX6_commonCount_47 : decode cX6_commonCount 47 = .ok (.istore 4, 2) := by decide +kernel
theorem dX6_commonCount_49 : decode cX6_commonCount 49 = .ok (.iinc 5 1, 3) := by decide +kernel
theorem dX6_commonCount_52 : decode cX6_commonCount 52 = .ok (.goto (-34), 3) := by decide +kernel
theorem dX6_commonCount_55 : decode cX6_commonCount 55 = .ok (.iload 4, 2) := by decide +kernel
theorem dX6_commonCount_57 : decode cX6_commonCount 57 = .ok (.ireturn, 1) := by decide +kernel
theorem dX6_roomFor_0 : decode cX6_roomFor 0 = .ok (.aload_n 0, 1) := by decide +kernel
theorem dX6_roomFor_1 : decode cX6_roomFor 1 = .ok (.iload_n 1, 1) := by decide +kernel
theorem dX6_roomFor_2 : decode cX6_roomFor 2 = .ok (.iload_n 2, 1) := by decide +kernel
theorem dX6_roomFor_3 : decode cX6_roomFor 3 = .ok (.iload_n 3, 1) := by decide +kernel
theorem dX6_roomFor_4 : decode cX6_roomFor 4 = .ok (.invokevirtual 123, 3) := by decide +kernel
theorem dX6_roomFor_7 : decode cX6_roomFor 7 = .ok (.ifCond .ne 32, 3) := by decide +kernel
theorem dX6_roomFor_10 : decode cX6_roomFor 10 = .ok (.aload_n 0, 1) := by decide +kernel
theorem dX6_roomFor_11 : decode cX6_roomFor 11 = .ok (.iload 4, 2) := by decide +kernel
theorem dX6_roomFor_13 : decode cX6_roomFor 13 = .ok (.invokestatic 80, 3) := by decide +kernel
theorem dX6_roomFor_16 : decode cX6_roomFor 16 = .ok (.ifCond .eq 16, 3) := by decide +kernel
theorem dX6_roomFor_19 : decode cX6_roomFor 19 = .ok (.iload 4, 2) := by decide +kernel
theorem dX6_roomFor_21 : decode cX6_roomFor 21 = .ok (.iload_n 2, 1) := by decide +kernel
theorem dX6_roomFor_22 : decode cX6_roomFor 22 = .ok (.iadd, 1) := by decide +kernel
theorem dX6_roomFor_23 : decode cX6_roomFor 23 = .ok (.bipush 16, 2) := by decide +kernel
theorem dX6_roomFor_25 : decode cX6_roomFor 25 = .ok (.if_icmp .gt 7, 3) := by decide +kernel
theorem dX6_roomFor_28 : decode cX6_roomFor 28 = .ok (.iconst 0, 1) := by decide +kernel
theorem dX6_roomFor_29 : decode cX6_roomFor 29 = .ok (.goto 4, 3) := by decide +kernel
theorem dX6_roomFor_32 : decode cX6_roomFor 32 = .ok (.iconst 1, 1) := by decide +kernel
theorem dX6_roomFor_33 : decode cX6_roomFor 33 = .ok (.invokevirtual 34, 3) := by decide +kernel
theorem dX6_roomFor_36 : decode cX6_roomFor 36 = .ok (.ifCond .eq 5, 3) := by decide +kernel
theorem dX6_roomFor_39 : decode cX6_roomFor 39 = .ok (.iconst 0, 1) := by decide +kernel
theorem dX6_roomFor_40 : decode cX6_roomFor 40 = .ok (.ireturn, 1) := by decide +kernel
theorem dX6_roomFor_41 : decode cX6_roomFor 41 = .ok (.aload_n 0, 1) := by decide +kernel
theorem dX6_roomFor_42 : decode cX6_roomFor 42 = .ok (.iload_n 1, 1) := by decide +kernel
theorem dX6_roomFor_43 : decode cX6_roomFor 43 = .ok (.iload_n 2, 1) := by decide +kernel
theorem dX6_roomFor_44 : decode cX6_roomFor 44 = .ok (.iload_n 3, 1) := by decide +kernel
theorem dX6_roomFor_45 : decode cX6_roomFor 45 = .ok (.iload 4, 2) := by decide +kernel
theorem dX6_roomFor_47 : decode cX6_roomFor 47 = .ok (.invokevirtual 126, 3) := by decide +kernel
theorem dX6_roomFor_50 : decode cX6_roomFor 50 = .ok (.istore 5, 2) := by decide +kernel
theorem dX6_roomFor_52 : decode cX6_roomFor 52 = .ok (.aload_n 0, 1) := by decide +kernel
theorem dX6_roomFor_53 : decode cX6_roomFor 53 = .ok (.iload 5, 2) := by decide +kernel
theorem dX6_roomFor_55 : decode cX6_roomFor 55 = .ok (.ifCond .ge 7, 3) := by decide +kernel
theorem dX6_roomFor_58 : decode cX6_roomFor 58 = .ok (.iconst 2, 1) := by decide +kernel
theorem dX6_roomFor_59 : decode cX6_roomFor 59 = .ok (.goto 4, 3) := by decide +kernel
theorem dX6_roomFor_62 : decode cX6_roomFor 62 = .ok (.iconst 0, 1) := by decide +kernel
theorem dX6_roomFor_63 : decode cX6_roomFor 63 = .ok (.invokevirtual 34, 3) := by decide +kernel
theorem dX6_roomFor_66 : decode cX6_roomFor 66 = .ok (.ifCond .eq 7, 3) := by decide +kernel
theorem dX6_roomFor_69 : decode cX6_roomFor 69 = .ok (.iconst 0, 1) := by decide +kernel
theorem dX6_roomFor_70 : decode cX6_roomFor 70 = .ok (.goto 5, 3) := by decide +kernel
theorem dX6_roomFor_73 : decode cX6_roomFor 73 = .ok (.iload 5, 2) := by decide +kernel
theorem dX6_roomFor_75 : decode cX6_roomFor 75 = .ok (.ireturn, 1) := by decide +kernel
theorem dX6_usedTimes_0 : decode cX6_usedTimes 0 = .ok (.aload_n 0, 1) := by decide +kernel
theorem dX6_usedTimes_1 : decode cX6_usedTimes 1 = .ok (.iload_n 1, 1) := by decide +kernel
theorem dX6_usedTimes_2 : decode cX6_usedTimes 2 = .ok (.invokestatic 30, 3) := by decide +kernel
theorem dX6_usedTimes_5 : decode cX6_usedTimes 5 = .ok (.ifCond .eq 14, 3) := by decide +kernel
theorem dX6_usedTimes_8 : decode cX6_usedTimes 8 = .ok (.iload_n 2, 1) := by decide +kernel
theorem dX6_usedTimes_9 : decode cX6_usedTimes 9 = .ok (.invokestatic 77, 3) := by decide +kernel
theorem dX6_usedTimes_12 : decode cX6_usedTimes 12 = .ok (.ifCond .eq 7, 3) := by decide +kernel
theorem dX6_usedTimes_15 : decode cX6_usedTimes 15 = .ok (.iconst 0, 1) := by decide +kernel
theorem dX6_usedTimes_16 : decode cX6_usedTimes 16 = .ok (.goto 4, 3) := by decide +kernel
theorem dX6_usedTimes_19 : decode cX6_usedTimes 19 = .ok (.iconst 1, 1) := by decide +kernel
theorem dX6_usedTimes_20 : decode cX6_usedTimes 20 = .ok (.invokevirtual 34, 3) := by decide +kernel
theorem dX6_usedTimes_23 : decode cX6_usedTimes 23 = .ok (.ifCond .eq 5, 3) := by decide +kernel
theorem dX6_usedTimes_26 : decode cX6_usedTimes 26 = .ok (.iconst 0, 1) := by decide +kernel
theorem dX6_usedTimes_27 : decode cX6_usedTimes 27 = .ok (.ireturn, 1) := by decide +kernel
theorem dX6_usedTimes_28 : decode cX6_usedTimes 28 = .ok (.iconst 0, 1) := by decide +kernel
theorem dX6_usedTimes_29 : decode cX6_usedTimes 29 = .ok (.istore_n 3, 1) := by decide +kernel
theorem dX6_usedTimes_30 : decode cX6_usedTimes 30 = .ok (.iconst 0, 1) := by decide +kernel
theorem dX6_usedTimes_31 : decode cX6_usedTimes 31 = .ok (.istore 4, 2) := by decide +kernel
theorem dX6_usedTimes_33 : decode cX6_usedTimes 33 = .ok (.iload 4, 2) := by decide +kernel
theorem dX6_usedTimes_35 : decode cX6_usedTimes 35 = .ok (.bipush 16, 2) := by decide +kernel
theorem dX6_usedTimes_37 : decode cX6_usedTimes 37 = .ok (.if_icmp .ge 115, 3) := by decide +kernel
theorem dX6_usedTimes_40 : decode cX6_usedTimes 40 = .ok (.iconst 0, 1) := by decide +kernel
theorem dX6_usedTimes_41 : decode cX6_usedTimes 41 = .ok (.istore 5, 2) := by decide +kernel
theorem dX6_usedTimes_43 : decode cX6_usedTimes 43 = .ok (.iconst 0, 1) := by decide +kernel
theorem dX6_usedTimes_44 : decode cX6_usedTimes 44 = .ok (.istore 6, 2) := by decide +kernel
theorem dX6_usedTimes_46 : decode cX6_usedTimes 46 = .ok (.iload 6, 2) := by decide +kernel
theorem dX6_usedTimes_48 : decode cX6_usedTimes 48 = .ok (.aload_n 0, 1) := by decide +kernel
theorem dX6_usedTimes_49 : decode cX6_usedTimes 49 = .ok (.getfield 7, 3) := by decide +kernel
theorem dX6_usedTimes_52 : decode cX6_usedTimes 52 = .ok (.iconst 1, 1) := by decide +kernel
theorem dX6_usedTimes_53 : decode cX6_usedTimes 53 = .ok (.iaload, 1) := by decide +kernel
theorem dX6_usedTimes_54 : decode cX6_usedTimes 54 = .ok (.if_icmp .ge 79, 3) := by decide +kernel
theorem dX6_usedTimes_57 : decode cX6_usedTimes 57 = .ok (.iconst 0, 1) := by decide +kernel
theorem dX6_usedTimes_58 : decode cX6_usedTimes 58 = .ok (.istore 7, 2) := by decide +kernel
theorem dX6_usedTimes_60 : decode cX6_usedTimes 60 = .ok (.iload 7, 2) := by decide +kernel
theorem dX6_usedTimes_62 : decode cX6_usedTimes 62 = .ok (.aload_n 0, 1) := by decide +kernel
theorem dX6_usedTimes_63 : decode cX6_usedTimes 63 = .ok (.iload 6, 2) := by decide +kernel
theorem dX6_usedTimes_65 : decode cX6_usedTimes 65 = .ok (.iconst 3, 1) := by decide +kernel
theorem dX6_usedTimes_66 : decode cX6_usedTimes 66 = .ok (.invokevirtual 37, 3) := by decide +kernel
theorem dX6_usedTimes_69 : decode cX6_usedTimes 69 = .ok (.if_icmp .ge 58, 3) := by decide +kernel
theorem dX6_usedTimes_72 : decode cX6_usedTimes 72 = .ok (.iload 5, 2) := by decide +kernel
theorem dX6_usedTimes_74 : decode cX6_usedTimes 74 = .ok (.aload_n 0, 1) := by decide +kernel
theorem dX6_usedTimes_75 : decode cX6_usedTimes 75 = .ok (.iload 6, 2) := by decide +kernel
theorem dX6_usedTimes_77 : decode cX6_usedTimes 77 = .ok (.iload 7, 2) := by decide +kernel
theorem dX6_usedTimes_79 : decode cX6_usedTimes 79 = .ok (.iload_n 2, 1) := by decide +kernel
theorem dX6_usedTimes_80 : decode cX6_usedTimes 80 = .ok (.invokevirtual 52, 3) := by decide +kernel
theorem dX6_usedTimes_83 : decode cX6_usedTimes 83 = .ok (.ifCond .eq 34, 3) := by decide +kernel
theorem dX6_usedTimes_86 : decode cX6_usedTimes 86 = .ok (.aload_n 0, 1) := by decide +kernel
theorem dX6_usedTimes_87 : decode cX6_usedTimes 87 = .ok (.iload 6, 2) := by decide +kernel
theorem dX6_usedTimes_89 : decode cX6_usedTimes 89 = .ok (.iload 7, 2) := by decide +kernel
theorem dX6_usedTimes_91 : decode cX6_usedTimes 91 = .ok (.iconst 3, 1) := by decide +kernel
theorem dX6_usedTimes_92 : decode cX6_usedTimes 92 = .ok (.invokevirtual 45, 3) := by decide +kernel
theorem dX6_usedTimes_95 : decode cX6_usedTimes 95 = .ok (.iload_n 1, 1) := by decide +kernel
theorem dX6_usedTimes_96 : decode cX6_usedTimes 96 = .ok (.if_icmp .ne 21, 3) := by decide +kernel
theorem dX6_usedTimes_99 : decode cX6_usedTimes 99 = .ok (.aload_n 0, 1) := by decide +kernel
theorem dX6_usedTimes_100 : decode cX6_usedTimes 100 = .ok (.iload 6, 2) := by decide +kernel
theorem dX6_usedTimes_102 : decode cX6_usedTimes 102 = .ok (.iload 7, 2) := by decide +kernel
theorem dX6_usedTimes_104 : decode cX6_usedTimes 104 = .ok (.iload 4, 2) := by decide +kernel
theorem dX6_usedTimes_106 : decode cX6_usedTimes 106 = .ok (.iconst 1, 1) := by decide +kernel
theorem dX6_usedTimes_107 : decode cX6_usedTimes 107 = .ok (.invokevirtual 55, 3) := by decide +kernel
theorem dX6_usedTimes_110 : decode cX6_usedTimes 110 = .ok (.ifCond .ge 7, 3) := by decide +kernel
theorem dX6_usedTimes_113 : decode cX6_usedTimes 113 = .ok (.iconst 1, 1) := by decide +kernel
theorem dX6_usedTimes_114 : decode cX6_usedTimes 114 = .ok (.goto 4, 3) := by decide +kernel
theorem dX6_usedTimes_117 : decode cX6_usedTimes 117 = .ok (.iconst 0, 1) := by decide +kernel
theorem dX6_usedTimes_118 : decode cX6_usedTimes 118 = .ok (.ior, 1) := by decide +kernel
theorem dX6_usedTimes_119 : decode cX6_usedTimes 119 = .ok (.istore 5, 2) := by decide +kernel
theorem dX6_usedTimes_121 : decode cX6_usedTimes 121 = .ok (.iinc 7 1, 3) := by decide +kernel
theorem dX6_usedTimes_124 : decode cX6_usedTimes 124 = .ok (.goto (-64), 3) := by decide +kernel
theorem dX6_usedTimes_127 : decode cX6_usedTimes 127 = .ok (.iinc 6 1, 3) := by decide +kernel
theorem dX6_usedTimes_130 : decode cX6_usedTimes 130 = .ok (.goto (-84), 3) := by decide +kernel
theorem dX6_usedTimes_133 : decode cX6_usedTimes 133 = .ok (.iload_n 3, 1) := by decide +kernel
theorem dX6_usedTimes_134 : decode cX6_usedTimes 134 = .ok (.iload 5, 2) := by decide +kernel
theorem dX6_usedTimes_136 : decode cX6_usedTimes 136 = .ok (.ifCond .eq 7, 3) := by decide +kernel
theorem dX6_usedTimes_139 : decode cX6_usedTimes 139 = .ok (.iconst 1, 1) := by decide +kernel
theorem dX6_usedTimes_140 : decode cX6_usedTimes 140 = .ok (.goto 4, 3) := by decide +kernel
theorem dX6_usedTimes_143 : decode cX6_usedTimes 143 = .ok (.iconst 0, 1) := by decide +kernel
theorem dX6_usedTimes_144 : decode cX6_usedTimes 144 = .ok (.iadd, 1) := by decide +kernel
theorem dX6_usedTimes_145 : decode cX6_usedTimes 145 = .ok (.istore_n 3, 1) := by decide +kernel
theorem dX6_usedTimes_146 : decode cX6_usedTimes 146 = .ok (.iinc 4 1, 3) := by decide +kernel
theorem dX6_usedTimes_149 : decode cX6_usedTimes 149 = .ok (.goto (-116), 3) := by decide +kernel
theorem dX6_usedTimes_152 : decode cX6_usedTimes 152 = .ok (.iload_n 3, 1) := by decide +kernel
theorem dX6_usedTimes_153 : decode cX6_usedTimes 153 = .ok (.ireturn, 1) := by decide +kernel
theorem dX6_walks_0 : decode cX6_walks 0 = .ok (.aload_n 0, 1) := by decide +kernel
theorem dX6_walks_1 : decode cX6_walks 1 = .ok (.iload_n 1, 1) := by decide +kernel
theorem dX6_walks_2 : decode cX6_walks 2 = .ok (.invokestatic 74, 3) := by decide +kernel
theorem dX6_walks_5 : decode cX6_walks 5 = .ok (.ifCond .eq 14, 3) := by decide +kernel
theorem dX6_walks_8 : decode cX6_walks 8 = .ok (.iload_n 2, 1) := by decide +kernel
theorem dX6_walks_9 : decode cX6_walks 9 = .ok (.invokestatic 77, 3) := by decide +kernel
theorem dX6_walks_12 : decode cX6_walks 12 = .ok (.ifCond .eq 7, 3) := by decide +kernel
theorem dX6_walks_15 : decode cX6_walks 15 = .ok (.iconst 0, 1) := by decide +kernel
theorem dX6_walks_16 : decode cX6_walks 16 = .ok (.goto 4, 3) := by decide +kernel
theorem dX6_walks_19 : decode cX6_walks 19 = .ok (.iconst 1, 1) := by decide +kernel
theorem dX6_walks_20 : decode cX6_walks 20 = .ok (.invokevirtual 34, 3) := by decide +kernel
theorem dX6_walks_23 : decode cX6_walks 23 = .ok (.ifCond .eq 5, 3) := by decide +kernel
theorem dX6_walks_26 : decode cX6_walks 26 = .ok (.iconst 0, 1) := by decide +kernel
theorem dX6_walks_27 : decode cX6_walks 27 = .ok (.ireturn, 1) := by decide +kernel
theorem dX6_walks_28 : decode cX6_walks 28 = .ok (.iconst 0, 1) := by decide +kernel
theorem dX6_walks_29 : decode cX6_walks 29 = .ok (.istore_n 3, 1) := by decide +kernel
theorem dX6_walks_30 : decode cX6_walks 30 = .ok (.iconst (-1), 1) := by decide +kernel
theorem dX6_walks_31 : decode cX6_walks 31 = .ok (.istore 4, 2) := by decide +kernel
theorem dX6_walks_33 : decode cX6_walks 33 = .ok (.iconst 0, 1) := by decide +kernel
theorem dX6_walks_34 : decode cX6_walks 34 = .ok (.istore 5, 2) := by decide +kernel
theorem dX6_walks_36 : decode cX6_walks 36 = .ok (.iload 5, 2) := by decide +kernel
theorem dX6_walks_38 : decode cX6_walks 38 = .ok (.bipush 16, 2) := by decide +kernel
theorem dX6_walks_40 : decode cX6_walks 40 = .ok (.if_icmp .ge 132, 3) := by decide +kernel
theorem dX6_walks_43 : decode cX6_walks 43 = .ok (.iconst 0, 1) := by decide +kernel
theorem dX6_walks_44 : decode cX6_walks 44 = .ok (.istore 6, 2) := by decide +kernel
theorem dX6_walks_46 : decode cX6_walks 46 = .ok (.iload 6, 2) := by decide +kernel
theorem dX6_walks_48 : decode cX6_walks 48 = .ok (.aload_n 0, 1) := by decide +kernel
theorem dX6_walks_49 : decode cX6_walks 49 = .ok (.getfield 7, 3) := by decide +kernel
theorem dX6_walks_52 : decode cX6_walks 52 = .ok (.iconst 1, 1) := by decide +kernel
theorem dX6_walks_53 : decode cX6_walks 53 = .ok (.iaload, 1) := by decide +kernel
theorem dX6_walks_54 : decode cX6_walks 54 = .ok (.if_icmp .ge 112, 3) := by decide +kernel
theorem dX6_walks_57 : decode cX6_walks 57 = .ok (.iconst 0, 1) := by decide +kernel
theorem dX6_walks_58 : decode cX6_walks 58 = .ok (.istore 7, 2) := by decide +kernel
theorem dX6_walks_60 : decode cX6_walks 60 = .ok (.iload 7, 2) := by decide +kernel
theorem dX6_walks_62 : decode cX6_walks 62 = .ok (.aload_n 0, 1) := by decide +kernel
theorem dX6_walks_63 : decode cX6_walks 63 = .ok (.iload 6, 2) := by decide +kernel
theorem dX6_walks_65 : decode cX6_walks 65 = .ok (.iconst 3, 1) := by decide +kernel
theorem dX6_walks_66 : decode cX6_walks 66 = .ok (.invokevirtual 37, 3) := by decide +kernel
theorem dX6_walks_69 : decode cX6_walks 69 = .ok (.if_icmp .ge 91, 3) := by decide +kernel
theorem dX6_walks_72 : decode cX6_walks 72 = .ok (.aload_n 0, 1) := by decide +kernel
theorem dX6_walks_73 : decode cX6_walks 73 = .ok (.iload 6, 2) := by decide +kernel
theorem dX6_walks_75 : decode cX6_walks 75 = .ok (.iload_n 1, 1) := by decide +kernel
theorem dX6_walks_76 : decode cX6_walks 76 = .ok (.invokevirtual 41, 3) := by decide +kernel
theorem dX6_walks_79 : decode cX6_walks 79 = .ok (.ifCond .eq 75, 3) := by decide +kernel
theorem dX6_walks_82 : decode cX6_walks 82 = .ok (.aload_n 0, 1) := by decide +kernel
theorem dX6_walks_83 : decode cX6_walks 83 = .ok (.iload 6, 2) := by decide +kernel
theorem dX6_walks_85 : decode cX6_walks 85 = .ok (.iload 7, 2) := by decide +kernel
theorem dX6_walks_87 : decode cX6_walks 87 = .ok (.iload_n 2, 1) := by decide +kernel
theorem dX6_walks_88 : decode cX6_walks 88 = .ok (.invokevirtual 52, 3) := by decide +kernel
theorem dX6_walks_91 : decode cX6_walks 91 = .ok (.ifCond .eq 63, 3) := by decide +kernel
theorem dX6_walks_94 : decode cX6_walks 94 = .ok (.aload_n 0, 1) := by decide +kernel
theorem dX6_walks_95 : decode cX6_walks 95 = .ok (.iload 6, 2) := by decide +kernel
theorem dX6_walks_97 : decode cX6_walks 97 = .ok (.iload 7, 2) := by decide +kernel
theorem dX6_walks_99 : decode cX6_walks 99 = .ok (.iconst 1, 1) := by decide +kernel
theorem dX6_walks_100 : decode cX6_walks 100 = .ok (.invokevirtual 45, 3) := by decide +kernel
theorem dX6_walks_103 : decode cX6_walks 103 = .ok (.iload 5, 2) := by decide +kernel
theorem dX6_walks_105 : decode cX6_walks 105 = .ok (.if_icmp .eq 6, 3) := by decide +kernel
theorem dX6_walks_108 : decode cX6_walks 108 = .ok (.goto 46, 3) := by decide +kernel
theorem dX6_walks_111 : decode cX6_walks 111 = .ok (.aload_n 0, 1) := by decide +kernel
theorem dX6_walks_112 : decode cX6_walks 112 = .ok (.getfield 7, 3) := by decide +kernel
theorem dX6_walks_115 : decode cX6_walks 115 = .ok (.bipush 9, 2) := by decide +kernel
theorem dX6_walks_117 : decode cX6_walks 117 = .ok (.aload_n 0, 1) := by decide +kernel
theorem dX6_walks_118 : decode cX6_walks 118 = .ok (.iload 6, 2) := by decide +kernel
theorem dX6_walks_120 : decode cX6_walks 120 = .ok (.iload 7, 2) := by decide +kernel
theorem dX6_walks_122 : decode cX6_walks 122 = .ok (.iconst 3, 1) := by decide +kernel
theorem dX6_walks_123 : decode cX6_walks 123 = .ok (.invokevirtual 45, 3) := by decide +kernel
theorem dX6_walks_126 : decode cX6_walks 126 = .ok (.iadd, 1) := by decide +kernel
theorem dX6_walks_127 : decode cX6_walks 127 = .ok (.iaload, 1) := by decide +kernel
theorem dX6_walks_128 : decode cX6_walks 128 = .ok (.istore 8, 2) := by decide +kernel
theorem dX6_walks_130 : decode cX6_walks 130 = .ok (.iload_n 3, 1) := by decide +kernel
theorem dX6_walks_131 : decode cX6_walks 131 = .ok (.iload 4, 2) := by decide +kernel
theorem dX6_walks_133 : decode cX6_walks 133 = .ok (.ifCond .lt 14, 3) := by decide +kernel
theorem dX6_walks_136 : decode cX6_walks 136 = .ok (.iload 4, 2) := by decide +kernel
theorem dX6_walks_138 : decode cX6_walks 138 = .ok (.iload 8, 2) := by decide +kernel
theorem dX6_walks_140 : decode cX6_walks 140 = .ok (.if_icmp .eq 7, 3) := by decide +kernel
theorem dX6_walks_143 : decode cX6_walks 143 = .ok (.iconst 1, 1) := by decide +kernel
theorem dX6_walks_144 : decode cX6_walks 144 = .ok (.goto 4, 3) := by decide +kernel
theorem dX6_walks_147 : decode cX6_walks 147 = .ok (.iconst 0, 1) := by decide +kernel
theorem dX6_walks_148 : decode cX6_walks 148 = .ok (.iadd, 1) := by decide +kernel
theorem dX6_walks_149 : decode cX6_walks 149 = .ok (.istore_n 3, 1) := by decide +kernel
theorem dX6_walks_150 : decode cX6_walks 150 = .ok (.iload 8, 2) := by decide +kernel
theorem dX6_walks_152 : decode cX6_walks 152 = .ok (.istore 4, 2) := by decide +kernel
theorem dX6_walks_154 : decode cX6_walks 154 = .ok (.iinc 7 1, 3) := by decide +kernel
theorem dX6_walks_157 : decode cX6_walks 157 = .ok (.goto (-97), 3) := by decide +kernel
theorem dX6_walks_160 : decode cX6_walks 160 = .ok (.iinc 6 1, 3) := by decide +kernel
theorem dX6_walks_163 : decode cX6_walks 163 = .ok (.goto (-117), 3) := by decide +kernel
theorem dX6_walks_166 : decode cX6_walks 166 = .ok (.iinc 5 1, 3) := by decide +kernel
theorem dX6_walks_169 : decode cX6_walks 169 = .ok (.goto (-133), 3) := by decide +kernel
theorem dX6_walks_172 : decode cX6_walks 172 = .ok (.iload_n 3, 1) := by decide +kernel
theorem dX6_walks_173 : decode cX6_walks 173 = .ok (.ireturn, 1) := by decide +kernel
theorem dX6_sittings_0 : decode cX6_sittings 0 = .ok (.aload_n 0, 1) := by decide +kernel
theorem dX6_sittings_1 : decode cX6_sittings 1 = .ok (.iconst 0, 1) := by decide +kernel
theorem dX6_sittings_2 : decode cX6_sittings 2 = .ok (.putfield 23, 3) := by decide +kernel
theorem dX6_sittings_5 : decode cX6_sittings 5 = .ok (.iconst 0, 1) := by decide +kernel
theorem dX6_sittings_6 : decode cX6_sittings 6 = .ok (.istore_n 1, 1) := by decide +kernel
theorem dX6_sittings_7 : decode cX6_sittings 7 = .ok (.iconst 0, 1) := by decide +kernel
theorem dX6_sittings_8 : decode cX6_sittings 8 = .ok (.istore_n 2, 1) := by decide +kernel
theorem dX6_sittings_9 : decode cX6_sittings 9 = .ok (.iload_n 2, 1) := by decide +kernel
theorem dX6_sittings_10 : decode cX6_sittings 10 = .ok (.aload_n 0, 1) := by decide +kernel
theorem dX6_sittings_11 : decode cX6_sittings 11 = .ok (.getfield 7, 3) := by decide +kernel
theorem dX6_sittings_14 : decode cX6_sittings 14 = .ok (.iconst 1, 1) := by decide +kernel
theorem dX6_sittings_15 : decode cX6_sittings 15 = .ok (.iaload, 1) := by decide +kernel
theorem dX6_sittings_16 : decode cX6_sittings 16 = .ok (.if_icmp .ge 58, 3) := by decide +kernel
theorem dX6_sittings_19 : decode cX6_sittings 19 = .ok (.iconst 0, 1) := by decide +kernel
theorem dX6_sittings_20 : decode cX6_sittings 20 = .ok (.istore_n 3, 1) := by decide +kernel
theorem dX6_sittings_21 : decode cX6_sittings 21 = .ok (.iload_n 3, 1) := by decide +kernel
theorem dX6_sittings_22 : decode cX6_sittings 22 = .ok (.aload_n 0, 1) := by decide +kernel
theorem dX6_sittings_23 : decode cX6_sittings 23 = .ok (.iload_n 2, 1) := by decide +kernel
theorem dX6_sittings_24 : decode cX6_sittings 24 = .ok (.iconst 3, 1) := by decide +kernel
theorem dX6_sittings_25 : decode cX6_sittings 25 = .ok (.invokevirtual 37, 3) := by decide +kernel
theorem dX6_sittings_28 : decode cX6_sittings 28 = .ok (.if_icmp .ge 40, 3) := by decide +kernel
theorem dX6_sittings_31 : decode cX6_sittings 31 = .ok (.iload_n 1, 1) := by decide +kernel
theorem dX6_sittings_32 : decode cX6_sittings 32 = .ok (.aload_n 0, 1) := by decide +kernel
theorem dX6_sittings_33 : decode cX6_sittings 33 = .ok (.iload_n 2, 1) := by decide +kernel
theorem dX6_sittings_34 : decode cX6_sittings 34 = .ok (.iload_n 3, 1) := by decide +kernel
theorem dX6_sittings_35 : decode cX6_sittings 35 = .ok (.invokevirtual 49, 3) := by decide +kernel
theorem dX6_sittings_38 : decode cX6_sittings 38 = .ok (.ifCond .eq 21, 3) := by decide +kernel
theorem dX6_sittings_41 : decode cX6_sittings 41 = .ok (.aload_n 0, 1) := by decide +kernel
theorem dX6_sittings_42 : decode cX6_sittings 42 = .ok (.iload_n 2, 1) := by decide +kernel
theorem dX6_sittings_43 : decode cX6_sittings 43 = .ok (.iconst 2, 1) := by decide +kernel
theorem dX6_sittings_44 : decode cX6_sittings 44 = .ok (.invokevirtual 37, 3) := by decide +kernel
theorem dX6_sittings_47 : decode cX6_sittings 47 = .ok (.aload_n 0, 1) := by decide +kernel
theorem dX6_sittings_48 : decode cX6_sittings 48 = .ok (.iload_n 2, 1) := by decide +kernel
theorem dX6_sittings_49 : decode cX6_sittings 49 = .ok (.invokevirtual 59, 3) := by decide +kernel
theorem dX6_sittings_52 : decode cX6_sittings 52 = .ok (.invokestatic 63, 3) := by decide +kernel
theorem dX6_sittings_55 : decode cX6_sittings 55 = .ok (.imul, 1) := by decide +kernel
theorem dX6_sittings_56 : decode cX6_sittings 56 = .ok (.goto 4, 3) := by decide +kernel
theorem dX6_sittings_59 : decode cX6_sittings 59 = .ok (.iconst 0, 1) := by decide +kernel
theorem dX6_sittings_60 : decode cX6_sittings 60 = .ok (.iadd, 1) := by decide +kernel
theorem dX6_sittings_61 : decode cX6_sittings 61 = .ok (.istore_n 1, 1) := by decide +kernel
theorem dX6_sittings_62 : decode cX6_sittings 62 = .ok (.iinc 3 1, 3) := by decide +kernel
theorem dX6_sittings_65 : decode cX6_sittings 65 = .ok (.goto (-44), 3) := by decide +kernel
theorem dX6_sittings_68 : decode cX6_sittings 68 = .ok (.iinc 2 1, 3) := by decide +kernel
theorem dX6_sittings_71 : decode cX6_sittings 71 = .ok (.goto (-62), 3) := by decide +kernel
theorem dX6_sittings_74 : decode cX6_sittings 74 = .ok (.iload_n 1, 1) := by decide +kernel
theorem dX6_sittings_75 : decode cX6_sittings 75 = .ok (.i2l, 1) := by decide +kernel
theorem dX6_sittings_76 : decode cX6_sittings 76 = .ok (.lreturn, 1) := by decide +kernel
theorem dX6_meanExpected_0 : decode cX6_meanExpected 0 = .ok (.aload_n 0, 1) := by decide +kernel
theorem dX6_meanExpected_1 : decode cX6_meanExpected 1 = .ok (.aload_n 0, 1) := by decide +kernel
theorem dX6_meanExpected_2 : decode cX6_meanExpected 2 = .ok (.getfield 7, 3) := by decide +kernel
theorem dX6_meanExpected_5 : decode cX6_meanExpected 5 = .ok (.iconst 1, 1) := by decide +kernel
theorem dX6_meanExpected_6 : decode cX6_meanExpected 6 = .ok (.iaload, 1) := by decide +kernel
theorem dX6_meanExpected_7 : decode cX6_meanExpected 7 = .ok (.ifCond .ne 7, 3) := by decide +kernel
theorem dX6_meanExpected_10 : decode cX6_meanExpected 10 = .ok (.iconst 1, 1) := by decide +kernel
theorem dX6_meanExpected_11 : decode cX6_meanExpected 11 = .ok (.goto 4, 3) := by decide +kernel
theorem dX6_meanExpected_14 : decode cX6_meanExpected 14 = .ok (.iconst 0, 1) := by decide +kernel
theorem dX6_meanExpected_15 : decode cX6_meanExpected 15 = .ok (.invokevirtual 34, 3) := by decide +kernel
theorem dX6_meanExpected_18 : decode cX6_meanExpected 18 = .ok (.ifCond .eq 5, 3) := by decide +kernel
theorem dX6_meanExpected_21 : decode cX6_meanExpected 21 = .ok (.dconst 0, 1) := by decide +kernel
theorem dX6_meanExpected_22 : decode cX6_meanExpected 22 = .ok (.dreturn, 1) := by decide +kernel
theorem dX6_meanExpected_23 : decode cX6_meanExpected 23 = .ok (.iconst 0, 1) := by decide +kernel
theorem dX6_meanExpected_24 : decode cX6_meanExpected 24 = .ok (.istore_n 1, 1) := by decide +kernel
theorem dX6_meanExpected_25 : decode cX6_meanExpected 25 = .ok (.iconst 0, 1) := by decide +kernel
theorem dX6_meanExpected_26 : decode cX6_meanExpected 26 = .ok (.istore_n 2, 1) := by decide +kernel
theorem dX6_meanExpected_27 : decode cX6_meanExpected 27 = .ok (.iload_n 2, 1) := by decide +kernel
theorem dX6_meanExpected_28 : decode cX6_meanExpected 28 = .ok (.aload_n 0, 1) := by decide +kernel
theorem dX6_meanExpected_29 : decode cX6_meanExpected 29 = .ok (.getfield 7, 3) := by decide +kernel
theorem dX6_meanExpected_32 : decode cX6_meanExpected 32 = .ok (.iconst 1, 1) := by decide +kernel
theorem dX6_meanExpected_33 : decode cX6_meanExpected 33 = .ok (.iaload, 1) := by decide +kernel
theorem dX6_meanExpected_34 : decode cX6_meanExpected 34 = .ok (.if_icmp .ge 20, 3) := by decide +kernel
theorem dX6_meanExpected_37 : decode cX6_meanExpected 37 = .ok (.iload_n 1, 1) := by decide +kernel
theorem dX6_meanExpected_38 : decode cX6_meanExpected 38 = .ok (.aload_n 0, 1) := by decide +kernel
theorem dX6_meanExpected_39 : decode cX6_meanExpected 39 = .ok (.iload_n 2, 1) := by decide +kernel
theorem dX6_meanExpected_40 : decode cX6_meanExpected 40 = .ok (.invokevirtual 59, 3) := by decide +kernel
theorem dX6_meanExpected_43 : decode cX6_meanExpected 43 = .ok (.invokestatic 63, 3) := by decide +kernel
theorem dX6_meanExpected_46 : decode cX6_meanExpected 46 = .ok (.iadd, 1) := by decide +kernel
theorem dX6_meanExpected_47 : decode cX6_meanExpected 47 = .ok (.istore_n 1, 1) := by decide +kernel
theorem dX6_meanExpected_48 : decode cX6_meanExpected 48 = .ok (.iinc 2 1, 3) := by decide +kernel
theorem dX6_meanExpected_51 : decode cX6_meanExpected 51 = .ok (.goto (-24), 3) := by decide +kernel
theorem dX6_meanExpected_54 : decode cX6_meanExpected 54 = .ok (.iload_n 1, 1) := by decide +kernel
theorem dX6_meanExpected_55 : decode cX6_meanExpected 55 = .ok (.i2d, 1) := by decide +kernel
theorem dX6_meanExpected_56 : decode cX6_meanExpected 56 = .ok (.aload_n 0, 1) := by decide +kernel
theorem dX6_meanExpected_57 : decode cX6_meanExpected 57 = .ok (.getfield 7, 3) := by decide +kernel
theorem dX6_meanExpected_60 : decode cX6_meanExpected 60 = .ok (.iconst 1, 1) := by decide +kernel
theorem dX6_meanExpected_61 : decode cX6_meanExpected 61 = .ok (.iaload, 1) := by decide +kernel
theorem dX6_meanExpected_62 : decode cX6_meanExpected 62 = .ok (.i2d, 1) := by decide +kernel
theorem dX6_meanExpected_63 : decode cX6_meanExpected 63 = .ok (.ddiv, 1) := by decide +kernel
theorem dX6_meanExpected_64 : decode cX6_meanExpected 64 = .ok (.dreturn, 1) := by decide +kernel
theorem dX6_yesShare_0 : decode cX6_yesShare 0 = .ok (.iconst 0, 1) := by decide +kernel
theorem dX6_yesShare_1 : decode cX6_yesShare 1 = .ok (.istore_n 1, 1) := by decide +kernel
theorem dX6_yesShare_2 : decode cX6_yesShare 2 = .ok (.iconst 0, 1) := by decide +kernel
theorem dX6_yesShare_3 : decode cX6_yesShare 3 = .ok (.istore_n 2, 1) := by decide +kernel
theorem dX6_yesShare_4 : decode cX6_yesShare 4 = .ok (.iconst 0, 1) := by decide +kernel
theorem dX6_yesShare_5 : decode cX6_yesShare 5 = .ok (.istore_n 3, 1) := by decide +kernel
theorem dX6_yesShare_6 : decode cX6_yesShare 6 = .ok (.iload_n 3, 1) := by decide +kernel
theorem dX6_yesShare_7 : decode cX6_yesShare 7 = .ok (.aload_n 0, 1) := by decide +kernel
theorem dX6_yesShare_8 : decode cX6_yesShare 8 = .ok (.getfield 7, 3) := by decide +kernel
theorem dX6_yesShare_11 : decode cX6_yesShare 11 = .ok (.iconst 1, 1) := by decide +kernel
theorem dX6_yesShare_12 : decode cX6_yesShare 12 = .ok (.iaload, 1) := by decide +kernel
theorem dX6_yesShare_13 : decode cX6_yesShare 13 = .ok (.if_icmp .ge 83, 3) := by decide +kernel
theorem dX6_yesShare_16 : decode cX6_yesShare 16 = .ok (.iconst 0, 1) := by decide +kernel
theorem dX6_yesShare_17 : decode cX6_yesShare 17 = .ok (.istore 4, 2) := by decide +kernel
theorem dX6_yesShare_19 : decode cX6_yesShare 19 = .ok (.iload 4, 2) := by decide +kernel
theorem dX6_yesShare_21 : decode cX6_yesShare 21 = .ok (.bipush 6, 2) := by decide +kernel
theorem dX6_yesShare_23 : decode cX6_yesShare 23 = .ok (.if_icmp .ge 67, 3) := by decide +kernel
theorem dX6_yesShare_26 : decode cX6_yesShare 26 = .ok (.iload_n 1, 1) := by decide +kernel
theorem dX6_yesShare_27 : decode cX6_yesShare 27 = .ok (.aload_n 0, 1) := by decide +kernel
theorem dX6_yesShare_28 : decode cX6_yesShare 28 = .ok (.iload_n 3, 1) := by decide +kernel
theorem dX6_yesShare_29 : decode cX6_yesShare 29 = .ok (.iconst 4, 1) := by decide +kernel
theorem dX6_yesShare_30 : decode cX6_yesShare 30 = .ok (.iload 4, 2) := by decide +kernel
theorem dX6_yesShare_32 : decode cX6_yesShare 32 = .ok (.iadd, 1) := by decide +kernel
theorem dX6_yesShare_33 : decode cX6_yesShare 33 = .ok (.invokevirtual 37, 3) := by decide +kernel
theorem dX6_yesShare_36 : decode cX6_yesShare 36 = .ok (.bipush 121, 2) := by decide +kernel
theorem dX6_yesShare_38 : decode cX6_yesShare 38 = .ok (.if_icmp .ne 7, 3) := by decide +kernel
theorem dX6_yesShare_41 : decode cX6_yesShare 41 = .ok (.iconst 1, 1) := by decide +kernel
theorem dX6_yesShare_42 : decode cX6_yesShare 42 = .ok (.goto 4, 3) := by decide +kernel
theorem dX6_yesShare_45 : decode cX6_yesShare 45 = .ok (.iconst 0, 1) := by decide +kernel
theorem dX6_yesShare_46 : decode cX6_yesShare 46 = .ok (.iadd, 1) := by decide +kernel
theorem dX6_yesShare_47 : decode cX6_yesShare 47 = .ok (.istore_n 1, 1) := by decide +kernel
theorem dX6_yesShare_48 : decode cX6_yesShare 48 = .ok (.iload_n 2, 1) := by decide +kernel
theorem dX6_yesShare_49 : decode cX6_yesShare 49 = .ok (.aload_n 0, 1) := by decide +kernel
theorem dX6_yesShare_50 : decode cX6_yesShare 50 = .ok (.iload_n 3, 1) := by decide +kernel
theorem dX6_yesShare_51 : decode cX6_yesShare 51 = .ok (.iconst 4, 1) := by decide +kernel
theorem dX6_yesShare_52 : decode cX6_yesShare 52 = .ok (.iload 4, 2) := by decide +kernel
theorem dX6_yesShare_54 : decode cX6_yesShare 54 = .ok (.iadd, 1) := by decide +kernel
theorem dX6_yesShare_55 : decode cX6_yesShare 55 = .ok (.invokevirtual 37, 3) := by decide +kernel
theorem dX6_yesShare_58 : decode cX6_yesShare 58 = .ok (.bipush 121, 2) := by decide +kernel
theorem dX6_yesShare_60 : decode cX6_yesShare 60 = .ok (.if_icmp .eq 17, 3) := by decide +kernel
theorem dX6_yesShare_63 : decode cX6_yesShare 63 = .ok (.aload_n 0, 1) := by decide +kernel
theorem dX6_yesShare_64 : decode cX6_yesShare 64 = .ok (.iload_n 3, 1) := by decide +kernel
theorem dX6_yesShare_65 : decode cX6_yesShare 65 = .ok (.iconst 4, 1) := by decide +kernel
theorem dX6_yesShare_66 : decode cX6_yesShare 66 = .ok (.iload 4, 2) := by decide +kernel
theorem dX6_yesShare_68 : decode cX6_yesShare 68 = .ok (.iadd, 1) := by decide +kernel
theorem dX6_yesShare_69 : decode cX6_yesShare 69 = .ok (.invokevirtual 37, 3) := by decide +kernel
theorem dX6_yesShare_72 : decode cX6_yesShare 72 = .ok (.bipush 110, 2) := by decide +kernel
theorem dX6_yesShare_74 : decode cX6_yesShare 74 = .ok (.if_icmp .ne 7, 3) := by decide +kernel
theorem dX6_yesShare_77 : decode cX6_yesShare 77 = .ok (.iconst 1, 1) := by decide +kernel
theorem dX6_yesShare_78 : decode cX6_yesShare 78 = .ok (.goto 4, 3) := by decide +kernel
theorem dX6_yesShare_81 : decode cX6_yesShare 81 = .ok (.iconst 0, 1) := by decide +kernel
theorem dX6_yesShare_82 : decode cX6_yesShare 82 = .ok (.iadd, 1) := by decide +kernel
theorem dX6_yesShare_83 : decode cX6_yesShare 83 = .ok (.istore_n 2, 1) := by decide +kernel
theorem dX6_yesShare_84 : decode cX6_yesShare 84 = .ok (.iinc 4 1, 3) := by decide +kernel
theorem dX6_yesShare_87 : decode cX6_yesShare 87 = .ok (.goto (-68), 3) := by decide +kernel
theorem dX6_yesShare_90 : decode cX6_yesShare 90 = .ok (.iinc 3 1, 3) := by decide +kernel
theorem dX6_yesShare_93 : decode cX6_yesShare 93 = .ok (.goto (-87), 3) := by decide +kernel
theorem dX6_yesShare_96 : decode cX6_yesShare 96 = .ok (.aload_n 0, 1) := by decide +kernel
theorem dX6_yesShare_97 : decode cX6_yesShare 97 = .ok (.iload_n 2, 1) := by decide +kernel
theorem dX6_yesShare_98 : decode cX6_yesShare 98 = .ok (.ifCond .ne 7, 3) := by decide +kernel
theorem dX6_yesShare_101 : decode cX6_yesShare 101 = .ok (.iconst 1, 1) := by decide +kernel
theorem dX6_yesShare_102 : decode cX6_yesShare 102 = .ok (.goto 4, 3) := by decide +kernel
theorem dX6_yesShare_105 : decode cX6_yesShare 105 = .ok (.iconst 0, 1) := by decide +kernel
theorem dX6_yesShare_106 : decode cX6_yesShare 106 = .ok (.invokevirtual 34, 3) := by decide +kernel
theorem dX6_yesShare_109 : decode cX6_yesShare 109 = .ok (.ifCond .eq 7, 3) := by decide +kernel
theorem dX6_yesShare_112 : decode cX6_yesShare 112 = .ok (.fconst 0, 1) := by decide +kernel
theorem dX6_yesShare_113 : decode cX6_yesShare 113 = .ok (.goto 8, 3) := by decide +kernel
theorem dX6_yesShare_116 : decode cX6_yesShare 116 = .ok (.iload_n 1, 1) := by decide +kernel
theorem dX6_yesShare_117 : decode cX6_yesShare 117 = .ok (.i2f, 1) := by decide +kernel
theorem dX6_yesShare_118 : decode cX6_yesShare 118 = .ok (.iload_n 2, 1) := by decide +kernel
theorem dX6_yesShare_119 : decode cX6_yesShare 119 = .ok (.i2f, 1) := by decide +kernel
theorem dX6_yesShare_120 : decode cX6_yesShare 120 = .ok (.fdiv, 1) := by decide +kernel
theorem dX6_yesShare_121 : decode cX6_yesShare 121 = .ok (.freturn, 1) := by decide +kernel
theorem dX6_isConsistent_0 : decode cX6_isConsistent 0 = .ok (.aload_n 0, 1) := by decide +kernel
theorem dX6_isConsistent_1 : decode cX6_isConsistent 1 = .ok (.iconst 0, 1) := by decide +kernel
theorem dX6_isConsistent_2 : decode cX6_isConsistent 2 = .ok (.putfield 23, 3) := by decide +kernel
theorem dX6_isConsistent_5 : decode cX6_isConsistent 5 = .ok (.iconst 0, 1) := by decide +kernel
theorem dX6_isConsistent_6 : decode cX6_isConsistent 6 = .ok (.istore_n 1, 1) := by decide +kernel
theorem dX6_isConsistent_7 : decode cX6_isConsistent 7 = .ok (.iload_n 1, 1) := by decide +kernel
theorem dX6_isConsistent_8 : decode cX6_isConsistent 8 = .ok (.bipush 6, 2) := by decide +kernel
theorem dX6_isConsistent_10 : decode cX6_isConsistent 10 = .ok (.if_icmp .ge 75, 3) := by decide +kernel
theorem dX6_isConsistent_13 : decode cX6_isConsistent 13 = .ok (.iconst 0, 1) := by decide +kernel
theorem dX6_isConsistent_14 : decode cX6_isConsistent 14 = .ok (.istore_n 2, 1) := by decide +kernel
theorem dX6_isConsistent_15 : decode cX6_isConsistent 15 = .ok (.iload_n 2, 1) := by decide +kernel
theorem dX6_isConsistent_16 : decode cX6_isConsistent 16 = .ok (.aload_n 0, 1) := by decide +kernel
theorem dX6_isConsistent_17 : decode cX6_isConsistent 17 = .ok (.getfield 7, 3) := by decide +kernel
theorem dX6_isConsistent_20 : decode cX6_isConsistent 20 = .ok (.iconst 1, 1) := by decide +kernel
theorem dX6_isConsistent_21 : decode cX6_isConsistent 21 = .ok (.iaload, 1) := by decide +kernel
theorem dX6_isConsistent_22 : decode cX6_isConsistent 22 = .ok (.if_icmp .ge 57, 3) := by decide +kernel
theorem dX6_isConsistent_25 : decode cX6_isConsistent 25 = .ok (.iconst 0, 1) := by decide +kernel
theorem dX6_isConsistent_26 : decode cX6_isConsistent 26 = .ok (.istore_n 3, 1) := by decide +kernel
theorem dX6_isConsistent_27 : decode cX6_isConsistent 27 = .ok (.iload_n 3, 1) := by decide +kernel
theorem dX6_isConsistent_28 : decode cX6_isConsistent 28 = .ok (.aload_n 0, 1) := by decide +kernel
theorem dX6_isConsistent_29 : decode cX6_isConsistent 29 = .ok (.iload_n 2, 1) := by decide +kernel
theorem dX6_isConsistent_30 : decode cX6_isConsistent 30 = .ok (.iconst 3, 1) := by decide +kernel
theorem dX6_isConsistent_31 : decode cX6_isConsistent 31 = .ok (.invokevirtual 37, 3) := by decide +kernel
theorem dX6_isConsistent_34 : decode cX6_isConsistent 34 = .ok (.if_icmp .ge 39, 3) := by decide +kernel
theorem dX6_isConsistent_37 : decode cX6_isConsistent 37 = .ok (.aload_n 0, 1) := by decide +kernel
theorem dX6_isConsistent_38 : decode cX6_isConsistent 38 = .ok (.iload_n 2, 1) := by decide +kernel
theorem dX6_isConsistent_39 : decode cX6_isConsistent 39 = .ok (.iload_n 3, 1) := by decide +kernel
theorem dX6_isConsistent_40 : decode cX6_isConsistent 40 = .ok (.invokevirtual 49, 3) := by decide +kernel
theorem dX6_isConsistent_43 : decode cX6_isConsistent 43 = .ok (.ifCond .eq 24, 3) := by decide +kernel
theorem dX6_isConsistent_46 : decode cX6_isConsistent 46 = .ok (.aload_n 0, 1) := by decide +kernel
theorem dX6_isConsistent_47 : decode cX6_isConsistent 47 = .ok (.iload_n 2, 1) := by decide +kernel
theorem dX6_isConsistent_48 : decode cX6_isConsistent 48 = .ok (.iload_n 1, 1) := by decide +kernel
theorem dX6_isConsistent_49 : decode cX6_isConsistent 49 = .ok (.invokevirtual 41, 3) := by decide +kernel
theorem dX6_isConsistent_52 : decode cX6_isConsistent 52 = .ok (.ifCond .eq 15, 3) := by decide +kernel
theorem dX6_isConsistent_55 : decode cX6_isConsistent 55 = .ok (.aload_n 0, 1) := by decide +kernel
theorem dX6_isConsistent_56 : decode cX6_isConsistent 56 = .ok (.iload_n 2, 1) := by decide +kernel
theorem dX6_isConsistent_57 : decode cX6_isConsistent 57 = .ok (.iload_n 3, 1) := by decide +kernel
theorem dX6_isConsistent_58 : decode cX6_isConsistent 58 = .ok (.iload_n 1, 1) := by decide +kernel
theorem dX6_isConsistent_59 : decode cX6_isConsistent 59 = .ok (.invokevirtual 129, 3) := by decide +kernel
theorem dX6_isConsistent_62 : decode cX6_isConsistent 62 = .ok (.ifCond .eq 5, 3) := by decide +kernel
theorem dX6_isConsistent_65 : decode cX6_isConsistent 65 = .ok (.iconst 0, 1) := by decide +kernel
theorem dX6_isConsistent_66 : decode cX6_isConsistent 66 = .ok (.ireturn, 1) := by decide +kernel
theorem dX6_isConsistent_67 : decode cX6_isConsistent 67 = .ok (.iinc 3 1, 3) := by decide +kernel
theorem dX6_isConsistent_70 : decode cX6_isConsistent 70 = .ok (.goto (-43), 3) := by decide +kernel
theorem dX6_isConsistent_73 : decode cX6_isConsistent 73 = .ok (.iinc 2 1, 3) := by decide +kernel
theorem dX6_isConsistent_76 : decode cX6_isConsistent 76 = .ok (.goto (-61), 3) := by decide +kernel
theorem dX6_isConsistent_79 : decode cX6_isConsistent 79 = .ok (.iinc 1 1, 3) := by decide +kernel
theorem dX6_isConsistent_82 : decode cX6_isConsistent 82 = .ok (.goto (-75), 3) := by decide +kernel
theorem dX6_isConsistent_85 : decode cX6_isConsistent 85 = .ok (.iconst 1, 1) := by decide +kernel
theorem dX6_isConsistent_86 : decode cX6_isConsistent 86 = .ok (.ireturn, 1) := by decide +kernel
theorem dX6_meetsItself_0 : decode cX6_meetsItself 0 = .ok (.iconst 0, 1) := by decide +kernel
theorem dX6_meetsItself_1 : decode cX6_meetsItself 1 = .ok (.istore 4, 2) := by decide +kernel
theorem dX6_meetsItself_3 : decode cX6_meetsItself 3 = .ok (.iload 4, 2) := by decide +kernel
theorem dX6_meetsItself_5 : decode cX6_meetsItself 5 = .ok (.aload_n 0, 1) := by decide +kernel
theorem dX6_meetsItself_6 : decode cX6_meetsItself 6 = .ok (.getfield 7, 3) := by decide +kernel
theorem dX6_meetsItself_9 : decode cX6_meetsItself 9 = .ok (.iconst 1, 1) := by decide +kernel
theorem dX6_meetsItself_10 : decode cX6_meetsItself 10 = .ok (.iaload, 1) := by decide +kernel
theorem dX6_meetsItself_11 : decode cX6_meetsItself 11 = .ok (.if_icmp .ge 111, 3) := by decide +kernel
theorem dX6_meetsItself_14 : decode cX6_meetsItself 14 = .ok (.iconst 0, 1) := by decide +kernel
theorem dX6_meetsItself_15 : decode cX6_meetsItself 15 = .ok (.istore 5, 2) := by decide +kernel
theorem dX6_meetsItself_17 : decode cX6_meetsItself 17 = .ok (.iload 5, 2) := by decide +kernel
theorem dX6_meetsItself_19 : decode cX6_meetsItself 19 = .ok (.aload_n 0, 1) := by decide +kernel
theorem dX6_meetsItself_20 : decode cX6_meetsItself 20 = .ok (.iload 4, 2) := by decide +kernel
theorem dX6_meetsItself_22 : decode cX6_meetsItself 22 = .ok (.iconst 3, 1) := by decide +kernel
theorem dX6_meetsItself_23 : decode cX6_meetsItself 23 = .ok (.invokevirtual 37, 3) := by decide +kernel
theorem dX6_meetsItself_26 : decode cX6_meetsItself 26 = .ok (.if_icmp .ge 90, 3) := by decide +kernel
theorem dX6_meetsItself_29 : decode cX6_meetsItself 29 = .ok (.iload 4, 2) := by decide +kernel
theorem dX6_meetsItself_31 : decode cX6_meetsItself 31 = .ok (.iload_n 1, 1) := by decide +kernel
theorem dX6_meetsItself_32 : decode cX6_meetsItself 32 = .ok (.if_icmp .ne 9, 3) := by decide +kernel
theorem dX6_meetsItself_35 : decode cX6_meetsItself 35 = .ok (.iload 5, 2) := by decide +kernel
theorem dX6_meetsItself_37 : decode cX6_meetsItself 37 = .ok (.iload_n 2, 1) := by decide +kernel
theorem dX6_meetsItself_38 : decode cX6_meetsItself 38 = .ok (.if_icmp .eq 72, 3) := by decide +kernel
theorem dX6_meetsItself_41 : decode cX6_meetsItself 41 = .ok (.aload_n 0, 1) := by decide +kernel
theorem dX6_meetsItself_42 : decode cX6_meetsItself 42 = .ok (.iload 4, 2) := by decide +kernel
theorem dX6_meetsItself_44 : decode cX6_meetsItself 44 = .ok (.iload 5, 2) := by decide +kernel
theorem dX6_meetsItself_46 : decode cX6_meetsItself 46 = .ok (.invokevirtual 49, 3) := by decide +kernel
theorem dX6_meetsItself_49 : decode cX6_meetsItself 49 = .ok (.ifCond .eq 61, 3) := by decide +kernel
theorem dX6_meetsItself_52 : decode cX6_meetsItself 52 = .ok (.aload_n 0, 1) := by decide +kernel
theorem dX6_meetsItself_53 : decode cX6_meetsItself 53 = .ok (.iload 4, 2) := by decide +kernel
theorem dX6_meetsItself_55 : decode cX6_meetsItself 55 = .ok (.iload_n 3, 1) := by decide +kernel
theorem dX6_meetsItself_56 : decode cX6_meetsItself 56 = .ok (.invokevirtual 41, 3) := by decide +kernel
theorem dX6_meetsItself_59 : decode cX6_meetsItself 59 = .ok (.ifCond .eq 51, 3) := by decide +kernel
theorem dX6_meetsItself_62 : decode cX6_meetsItself 62 = .ok (.aload_n 0, 1) := by decide +kernel
theorem dX6_meetsItself_63 : decode cX6_meetsItself 63 = .ok (.iload 4, 2) := by decide +kernel
theorem dX6_meetsItself_65 : decode cX6_meetsItself 65 = .ok (.iload 5, 2) := by decide +kernel
theorem dX6_meetsItself_67 : decode cX6_meetsItself 67 = .ok (.iconst 0, 1) := by decide +kernel
theorem dX6_meetsItself_68 : decode cX6_meetsItself 68 = .ok (.invokevirtual 45, 3) := by decide +kernel
theorem dX6_meetsItself_71 : decode cX6_meetsItself 71 = .ok (.aload_n 0, 1) := by decide +kernel
theorem dX6_meetsItself_72 : decode cX6_meetsItself 72 = .ok (.iload_n 1, 1) := by decide +kernel
theorem dX6_meetsItself_73 : decode cX6_meetsItself 73 = .ok (.iload_n 2, 1) := by decide +kernel
theorem dX6_meetsItself_74 : decode cX6_meetsItself 74 = .ok (.iconst 0, 1) := by decide +kernel
theorem dX6_meetsItself_75 : decode cX6_meetsItself 75 = .ok (.invokevirtual 45, 3) := by decide +kernel
theorem dX6_meetsItself_78 : decode cX6_meetsItself 78 = .ok (.if_icmp .eq 6, 3) := by decide +kernel
theorem dX6_meetsItself_81 : decode cX6_meetsItself 81 = .ok (.goto 29, 3) := by decide +kernel
theorem dX6_meetsItself_84 : decode cX6_meetsItself 84 = .ok (.aload_n 0, 1) := by decide +kernel
theorem dX6_meetsItself_85 : decode cX6_meetsItself 85 = .ok (.iload 4, 2) := by decide +kernel
theorem dX6_meetsItself_87 : decode cX6_meetsItself 87 = .ok (.iload 5, 2) := by decide +kernel
theorem dX6_meetsItself_89 : decode cX6_meetsItself 89 = .ok (.aload_n 0, 1) := by decide +kernel
theorem dX6_meetsItself_90 : decode cX6_meetsItself 90 = .ok (.iload_n 1, 1) := by decide +kernel
theorem dX6_meetsItself_91 : decode cX6_meetsItself 91 = .ok (.iload_n 2, 1) := by decide +kernel
theorem dX6_meetsItself_92 : decode cX6_meetsItself 92 = .ok (.iconst 1, 1) := by decide +kernel
theorem dX6_meetsItself_93 : decode cX6_meetsItself 93 = .ok (.invokevirtual 45, 3) := by decide +kernel
theorem dX6_meetsItself_96 : decode cX6_meetsItself 96 = .ok (.aload_n 0, 1) := by decide +kernel
theorem dX6_meetsItself_97 : decode cX6_meetsItself 97 = .ok (.iload_n 1, 1) := by decide +kernel
theorem dX6_meetsItself_98 : decode cX6_meetsItself 98 = .ok (.iconst 2, 1) := by decide +kernel
theorem dX6_meetsItself_99 : decode cX6_meetsItself 99 = .ok (.invokevirtual 37, 3) := by decide +kernel
theorem dX6_meetsItself_102 : decode cX6_meetsItself 102 = .ok (.invokevirtual 55, 3) := by decide +kernel
theorem dX6_meetsItself_105 : decode cX6_meetsItself 105 = .ok (.ifCond .ge 5, 3) := by decide +kernel
theorem dX6_meetsItself_108 : decode cX6_meetsItself 108 = .ok (.iconst 1, 1) := by decide +kernel
theorem dX6_meetsItself_109 : decode cX6_meetsItself 109 = .ok (.ireturn, 1) := by decide +kernel
theorem dX6_meetsItself_110 : decode cX6_meetsItself 110 = .ok (.iinc 5 1, 3) := by decide +kernel
theorem dX6_meetsItself_113 : decode cX6_meetsItself 113 = .ok (.goto (-96), 3) := by decide +kernel
theorem dX6_meetsItself_116 : decode cX6_meetsItself 116 = .ok (.iinc 4 1, 3) := by decide +kernel
theorem dX6_meetsItself_119 : decode cX6_meetsItself 119 = .ok (.goto (-116), 3) := by decide +kernel
theorem dX6_meetsItself_122 : decode cX6_meetsItself 122 = .ok (.iconst 0, 1) := by decide +kernel
theorem dX6_meetsItself_123 : decode cX6_meetsItself 123 = .ok (.ireturn, 1) := by decide +kernel
theorem dJ6_bitCount_0f7a4_0 : decode cJ6_bitCount_0f7a4 0 = .ok (.iload_n 0, 1) := by decide +kernel
theorem dJ6_bitCount_0f7a4_1 : decode cJ6_bitCount_0f7a4 1 = .ok (.iload_n 0, 1) := by decide +kernel
theorem dJ6_bitCount_0f7a4_2 : decode cJ6_bitCount_0f7a4 2 = .ok (.iconst 1, 1) := by decide +kernel
theorem dJ6_bitCount_0f7a4_3 : decode cJ6_bitCount_0f7a4 3 = .ok (.iushr, 1) := by decide +kernel
theorem dJ6_bitCount_0f7a4_4 : decode cJ6_bitCount_0f7a4 4 = .ok (.ldc_w 265, 3) := by decide +kernel
theorem dJ6_bitCount_0f7a4_7 : decode cJ6_bitCount_0f7a4 7 = .ok (.iand, 1) := by decide +kernel
theorem dJ6_bitCount_0f7a4_8 : decode cJ6_bitCount_0f7a4 8 = .ok (.isub, 1) := by decide +kernel
theorem dJ6_bitCount_0f7a4_9 : decode cJ6_bitCount_0f7a4 9 = .ok (.istore_n 0, 1) := by decide +kernel
theorem dJ6_bitCount_0f7a4_10 : decode cJ6_bitCount_0f7a4 10 = .ok (.iload_n 0, 1) := by decide +kernel
theorem dJ6_bitCount_0f7a4_11 : decode cJ6_bitCount_0f7a4 11 = .ok (.ldc_w 266, 3) := by decide +kernel
theorem dJ6_bitCount_0f7a4_14 : decode cJ6_bitCount_0f7a4 14 = .ok (.iand, 1) := by decide +kernel
theorem dJ6_bitCount_0f7a4_15 : decode cJ6_bitCount_0f7a4 15 = .ok (.iload_n 0, 1) := by decide +kernel
theorem dJ6_bitCount_0f7a4_16 : decode cJ6_bitCount_0f7a4 16 = .ok (.iconst 2, 1) := by decide +kernel
theorem dJ6_bitCount_0f7a4_17 : decode cJ6_bitCount_0f7a4 17 = .ok (.iushr, 1) := by decide +kernel
theorem dJ6_bitCount_0f7a4_18 : decode cJ6_bitCount_0f7a4 18 = .ok (.ldc_w 266, 3) := by decide +kernel
theorem dJ6_bitCount_0f7a4_21 : decode cJ6_bitCount_0f7a4 21 = .ok (.iand, 1) := by decide +kernel
theorem dJ6_bitCount_0f7a4_22 : decode cJ6_bitCount_0f7a4 22 = .ok (.iadd, 1) := by decide +kernel
theorem dJ6_bitCount_0f7a4_23 : decode cJ6_bitCount_0f7a4 23 = .ok (.istore_n 0, 1) := by decide +kernel
theorem dJ6_bitCount_0f7a4_24 : decode cJ6_bitCount_0f7a4 24 = .ok (.iload_n 0, 1) := by decide +kernel
theorem dJ6_bitCount_0f7a4_25 : decode cJ6_bitCount_0f7a4 25 = .ok (.iload_n 0, 1) := by decide +kernel
theorem dJ6_bitCount_0f7a4_26 : decode cJ6_bitCount_0f7a4 26 = .ok (.iconst 4, 1) := by decide +kernel
theorem dJ6_bitCount_0f7a4_27 : decode cJ6_bitCount_0f7a4 27 = .ok (.iushr, 1) := by decide +kernel
theorem dJ6_bitCount_0f7a4_28 : decode cJ6_bitCount_0f7a4 28 = .ok (.iadd, 1) := by decide +kernel
theorem dJ6_bitCount_0f7a4_29 : decode cJ6_bitCount_0f7a4 29 = .ok (.ldc_w 267, 3) := by decide +kernel
theorem dJ6_bitCount_0f7a4_32 : decode cJ6_bitCount_0f7a4 32 = .ok (.iand, 1) := by decide +kernel
theorem dJ6_bitCount_0f7a4_33 : decode cJ6_bitCount_0f7a4 33 = .ok (.istore_n 0, 1) := by decide +kernel
theorem dJ6_bitCount_0f7a4_34 : decode cJ6_bitCount_0f7a4 34 = .ok (.iload_n 0, 1) := by decide +kernel
theorem dJ6_bitCount_0f7a4_35 : decode cJ6_bitCount_0f7a4 35 = .ok (.iload_n 0, 1) := by decide +kernel
theorem dJ6_bitCount_0f7a4_36 : decode cJ6_bitCount_0f7a4 36 = .ok (.bipush 8, 2) := by decide +kernel
theorem dJ6_bitCount_0f7a4_38 : decode cJ6_bitCount_0f7a4 38 = .ok (.iushr, 1) := by decide +kernel
theorem dJ6_bitCount_0f7a4_39 : decode cJ6_bitCount_0f7a4 39 = .ok (.iadd, 1) := by decide +kernel
theorem dJ6_bitCount_0f7a4_40 : decode cJ6_bitCount_0f7a4 40 = .ok (.istore_n 0, 1) := by decide +kernel
theorem dJ6_bitCount_0f7a4_41 : decode cJ6_bitCount_0f7a4 41 = .ok (.iload_n 0, 1) := by decide +kernel
theorem dJ6_bitCount_0f7a4_42 : decode cJ6_bitCount_0f7a4 42 = .ok (.iload_n 0, 1) := by decide +kernel
theorem dJ6_bitCount_0f7a4_43 : decode cJ6_bitCount_0f7a4 43 = .ok (.bipush 16, 2) := by decide +kernel
theorem dJ6_bitCount_0f7a4_45 : decode cJ6_bitCount_0f7a4 45 = .ok (.iushr, 1) := by decide +kernel
theorem dJ6_bitCount_0f7a4_46 : decode cJ6_bitCount_0f7a4 46 = .ok (.iadd, 1) := by decide +kernel
theorem dJ6_bitCount_0f7a4_47 : decode cJ6_bitCount_0f7a4 47 = .ok (.istore_n 0, 1) := by decide +kernel
theorem dJ6_bitCount_0f7a4_48 : decode cJ6_bitCount_0f7a4 48 = .ok (.iload_n 0, 1) := by decide +kernel
theorem dJ6_bitCount_0f7a4_49 : decode cJ6_bitCount_0f7a4 49 = .ok (.bipush 63, 2) := by decide +kernel
theorem dJ6_bitCount_0f7a4_51 : decode cJ6_bitCount_0f7a4 51 = .ok (.iand, 1) := by decide +kernel
theorem dJ6_bitCount_0f7a4_52 : decode cJ6_bitCount_0f7a4 52 = .ok (.ireturn, 1) := by decide +kernel
theorem dJ9_max_7cf53_0 : decode cJ9_max_7cf53 0 = .ok (.iload_n 0, 1) := by decide +kernel
theorem dJ9_max_7cf53_1 : decode cJ9_max_7cf53 1 = .ok (.iload_n 1, 1) := by decide +kernel
theorem dJ9_max_7cf53_2 : decode cJ9_max_7cf53 2 = .ok (.if_icmp .lt 7, 3) := by decide +kernel
theorem dJ9_max_7cf53_5 : decode cJ9_max_7cf53 5 = .ok (.iload_n 0, 1) := by decide +kernel
theorem dJ9_max_7cf53_6 : decode cJ9_max_7cf53 6 = .ok (.goto 4, 3) := by decide +kernel
theorem dJ9_max_7cf53_9 : decode cJ9_max_7cf53 9 = .ok (.iload_n 1, 1) := by decide +kernel
theorem dJ9_max_7cf53_10 : decode cJ9_max_7cf53 10 = .ok (.ireturn, 1) := by decide +kernel
theorem dJ9_min_7cf53_0 : decode cJ9_min_7cf53 0 = .ok (.iload_n 0, 1) := by decide +kernel
theorem dJ9_min_7cf53_1 : decode cJ9_min_7cf53 1 = .ok (.iload_n 1, 1) := by decide +kernel
theorem dJ9_min_7cf53_2 : decode cJ9_min_7cf53 2 = .ok (.if_icmp .gt 7, 3) := by decide +kernel
theorem dJ9_min_7cf53_5 : decode cJ9_min_7cf53 5 = .ok (.iload_n 0, 1) := by decide +kernel
theorem dJ9_min_7cf53_6 : decode cJ9_min_7cf53 6 = .ok (.goto 4, 3) := by decide +kernel
theorem dJ9_min_7cf53_9 : decode cJ9_min_7cf53 9 = .ok (.iload_n 1, 1) := by decide +kernel
theorem dJ9_min_7cf53_10 : decode cJ9_min_7cf53 10 = .ok (.ireturn, 1) := by decide +kernel
theorem dJxa1e45_init_da8c8_0 : decode cJxa1e45_init_da8c8 0 = .ok (.aload_n 0, 1) := by decide +kernel
theorem dJxa1e45_init_da8c8_1 : decode cJxa1e45_init_da8c8 1 = .ok (.invokespecial 1, 3) := by decide +kernel
theorem dJxa1e45_init_da8c8_4 : decode cJxa1e45_init_da8c8 4 = .ok (.return_, 1) := by decide +kernel
theorem dJxc12de_init_da8c8_0 : decode cJxc12de_init_da8c8 0 = .ok (.aload_n 0, 1) := by decide +kernel
theorem dJxc12de_init_da8c8_1 : decode cJxc12de_init_da8c8 1 = .ok (.invokespecial 1, 3) := by decide +kernel
theorem dJxc12de_init_da8c8_4 : decode cJxc12de_init_da8c8 4 = .ok (.aload_n 0, 1) := by decide +kernel
theorem dJxc12de_init_da8c8_5 : decode cJxc12de_init_da8c8 5 = .ok (.iconst 0, 1) := by decide +kernel
theorem dJxc12de_init_da8c8_6 : decode cJxc12de_init_da8c8 6 = .ok (.putfield 7, 3) := by decide +kernel
theorem dJxc12de_init_da8c8_9 : decode cJxc12de_init_da8c8 9 = .ok (.return_, 1) := by decide +kernel
theorem dJx4a65c_init_da8c8_0 : decode cJx4a65c_init_da8c8 0 = .ok (.aload_n 0, 1) := by decide +kernel
theorem dJx4a65c_init_da8c8_1 : decode cJx4a65c_init_da8c8 1 = .ok (.invokespecial 1, 3) := by decide +kernel
theorem dJx4a65c_init_da8c8_4 : decode cJx4a65c_init_da8c8 4 = .ok (.aload_n 0, 1) := by decide +kernel
theorem dJx4a65c_init_da8c8_5 : decode cJx4a65c_init_da8c8 5 = .ok (.getstatic 39, 3) := by decide +kernel
theorem dJx4a65c_init_da8c8_8 : decode cJx4a65c_init_da8c8 8 = .ok (.putfield 9, 3) := by decide +kernel
theorem dJx4a65c_init_da8c8_11 : decode cJx4a65c_init_da8c8 11 = .ok (.return_, 1) := by decide +kernel
theorem dJx4a65c_grow_92f84_0 : decode cJx4a65c_grow_92f84 0 = .ok (.aload_n 0, 1) := by decide +kernel
theorem dJx4a65c_grow_92f84_1 : decode cJx4a65c_grow_92f84 1 = .ok (.getfield 9, 3) := by decide +kernel
theorem dJx4a65c_grow_92f84_4 : decode cJx4a65c_grow_92f84 4 = .ok (.arraylength, 1) := by decide +kernel
theorem dJx4a65c_grow_92f84_5 : decode cJx4a65c_grow_92f84 5 = .ok (.istore_n 2, 1) := by decide +kernel
theorem dJx4a65c_grow_92f84_6 : decode cJx4a65c_grow_92f84 6 = .ok (.iload_n 2, 1) := by decide +kernel
theorem dJx4a65c_grow_92f84_7 : decode cJx4a65c_grow_92f84 7 = .ok (.ifCond .gt 13, 3) := by decide +kernel
theorem dJx4a65c_grow_92f84_10 : decode cJx4a65c_grow_92f84 10 = .ok (.aload_n 0, 1) := by decide +kernel
theorem dJx4a65c_grow_92f84_11 : decode cJx4a65c_grow_92f84 11 = .ok (.getfield 9, 3) := by decide +kernel
theorem dJx4a65c_grow_92f84_14 : decode cJx4a65c_grow_92f84 14 = .ok (.getstatic 39, 3) := by decide +kernel
theorem dJx4a65c_grow_92f84_17 : decode cJx4a65c_grow_92f84 17 = .ok (.if_acmp .eq 28, 3) := by decide +kernel
theorem dJx4a65c_grow_92f84_20 : decode cJx4a65c_grow_92f84 20 = .ok (.iload_n 2, 1) := by decide +kernel
theorem dJx4a65c_grow_92f84_21 : decode cJx4a65c_grow_92f84 21 = .ok (.iload_n 1, 1) := by decide +kernel
theorem dJx4a65c_grow_92f84_22 : decode cJx4a65c_grow_92f84 22 = .ok (.iload_n 2, 1) := by decide +kernel
theorem dJx4a65c_grow_92f84_23 : decode cJx4a65c_grow_92f84 23 = .ok (.isub, 1) := by decide +kernel
theorem dJx4a65c_grow_92f84_24 : decode cJx4a65c_grow_92f84 24 = .ok (.iload_n 2, 1) := by decide +kernel
theorem dJx4a65c_grow_92f84_25 : decode cJx4a65c_grow_92f84 25 = .ok (.iconst 1, 1) := by decide +kernel
theorem dJx4a65c_grow_92f84_26 : decode cJx4a65c_grow_92f84 26 = .ok (.ishr, 1) := by decide +kernel
theorem dJx4a65c_grow_92f84_27 : decode cJx4a65c_grow_92f84 27 = .ok (.invokestatic 73, 3) := by decide +kernel
theorem dJx4a65c_grow_92f84_30 : decode cJx4a65c_grow_92f84 30 = .ok (.istore_n 3, 1) := by decide +kernel
theorem dJx4a65c_grow_92f84_31 : decode cJx4a65c_grow_92f84 31 = .ok (.aload_n 0, 1) := by decide +kernel
theorem dJx4a65c_grow_92f84_32 : decode cJx4a65c_grow_92f84 32 = .ok (.aload_n 0, 1) := by decide +kernel
theorem dJx4a65c_grow_92f84_33 : decode cJx4a65c_grow_92f84 33 = .ok (.getfield 9, 3) := by decide +kernel
theorem dJx4a65c_grow_92f84_36 : decode cJx4a65c_grow_92f84 36 = .ok (.iload_n 3, 1) := by decide +kernel
theorem dJx4a65c_grow_92f84_37 : decode cJx4a65c_grow_92f84 37 = .ok (.invokestatic 66, 3) := by decide +kernel
theorem dJx4a65c_grow_92f84_40 : decode cJx4a65c_grow_92f84 40 = .ok (.dup_x1, 1) := by decide +kernel
theorem dJx4a65c_grow_92f84_41 : decode cJx4a65c_grow_92f84 41 = .ok (.putfield 9, 3) := by decide +kernel
theorem dJx4a65c_grow_92f84_44 : decode cJx4a65c_grow_92f84 44 = .ok (.areturn, 1) := by decide +kernel
theorem dJx4a65c_grow_92f84_45 : decode cJx4a65c_grow_92f84 45 = .ok (.aload_n 0, 1) := by decide +kernel
theorem dJx4a65c_grow_92f84_46 : decode cJx4a65c_grow_92f84 46 = .ok (.bipush 10, 2) := by decide +kernel
theorem dJx4a65c_grow_92f84_48 : decode cJx4a65c_grow_92f84 48 = .ok (.iload_n 1, 1) := by decide +kernel
theorem dJx4a65c_grow_92f84_49 : decode cJx4a65c_grow_92f84 49 = .ok (.invokestatic 79, 3) := by decide +kernel
theorem dJx4a65c_grow_92f84_52 : decode cJx4a65c_grow_92f84 52 = .ok (.anewarray 7, 3) := by decide +kernel
theorem dJx4a65c_grow_92f84_55 : decode cJx4a65c_grow_92f84 55 = .ok (.dup_x1, 1) := by decide +kernel
theorem dJx4a65c_grow_92f84_56 : decode cJx4a65c_grow_92f84 56 = .ok (.putfield 9, 3) := by decide +kernel
theorem dJx4a65c_grow_92f84_59 : decode cJx4a65c_grow_92f84 59 = .ok (.areturn, 1) := by decide +kernel
theorem dJx4a65c_grow_d5877_0 : decode cJx4a65c_grow_d5877 0 = .ok (.aload_n 0, 1) := by decide +kernel
theorem dJx4a65c_grow_d5877_1 : decode cJx4a65c_grow_d5877 1 = .ok (.aload_n 0, 1) := by decide +kernel
theorem dJx4a65c_grow_d5877_2 : decode cJx4a65c_grow_d5877 2 = .ok (.getfield 48, 3) := by decide +kernel
theorem dJx4a65c_grow_d5877_5 : decode cJx4a65c_grow_d5877 5 = .ok (.iconst 1, 1) := by decide +kernel
theorem dJx4a65c_grow_d5877_6 : decode cJx4a65c_grow_d5877 6 = .ok (.iadd, 1) := by decide +kernel
theorem dJx4a65c_grow_d5877_7 : decode cJx4a65c_grow_d5877 7 = .ok (.invokevirtual 69, 3) := by decide +kernel
theorem dJx4a65c_grow_d5877_10 : decode cJx4a65c_grow_d5877 10 = .ok (.areturn, 1) := by decide +kernel
theorem dJx4a65c_size_8abf5_0 : decode cJx4a65c_size_8abf5 0 = .ok (.aload_n 0, 1) := by decide +kernel
theorem dJx4a65c_size_8abf5_1 : decode cJx4a65c_size_8abf5 1 = .ok (.getfield 48, 3) := by decide +kernel
theorem dJx4a65c_size_8abf5_4 : decode cJx4a65c_size_8abf5 4 = .ok (.ireturn, 1) := by decide +kernel
theorem dJx4a65c_elementData_915e3_0 : decode cJx4a65c_elementData_915e3 0 = .ok (.aload_n 0, 1) := by decide +kernel
theorem dJx4a65c_elementData_915e3_1 : decode cJx4a65c_elementData_915e3 1 = .ok (.getfield 9, 3) := by decide +kernel
theorem dJx4a65c_elementData_915e3_4 : decode cJx4a65c_elementData_915e3 4 = .ok (.iload_n 1, 1) := by decide +kernel
theorem dJx4a65c_elementData_915e3_5 : decode cJx4a65c_elementData_915e3 5 = .ok (.aaload, 1) := by decide +kernel
theorem dJx4a65c_elementData_915e3_6 : decode cJx4a65c_elementData_915e3 6 = .ok (.areturn, 1) := by decide +kernel
theorem dJx4a65c_get_915e3_0 : decode cJx4a65c_get_915e3 0 = .ok (.iload_n 1, 1) := by decide +kernel
theorem dJx4a65c_get_915e3_1 : decode cJx4a65c_get_915e3 1 = .ok (.aload_n 0, 1) := by decide +kernel
theorem dJx4a65c_get_915e3_2 : decode cJx4a65c_get_915e3 2 = .ok (.getfield 48, 3) := by decide +kernel
theorem dJx4a65c_get_915e3_5 : decode cJx4a65c_get_915e3 5 = .ok (.invokestatic 118, 3) := by decide +kernel
theorem dJx4a65c_get_915e3_8 : decode cJx4a65c_get_915e3 8 = .ok (.pop, 1) := by decide +kernel
theorem dJx4a65c_get_915e3_9 : decode cJx4a65c_get_915e3 9 = .ok (.aload_n 0, 1) := by decide +kernel
theorem dJx4a65c_get_915e3_10 : decode cJx4a65c_get_915e3 10 = .ok (.iload_n 1, 1) := by decide +kernel
theorem dJx4a65c_get_915e3_11 : decode cJx4a65c_get_915e3 11 = .ok (.invokevirtual 123, 3) := by decide +kernel
theorem dJx4a65c_get_915e3_14 : decode cJx4a65c_get_915e3 14 = .ok (.areturn, 1) := by decide +kernel
theorem dJx4a65c_add_72be8_0 : decode cJx4a65c_add_72be8 0 = .ok (.iload_n 3, 1) := by decide +kernel
theorem dJx4a65c_add_72be8_1 : decode cJx4a65c_add_72be8 1 = .ok (.aload_n 2, 1) := by decide +kernel
theorem dJx4a65c_add_72be8_2 : decode cJx4a65c_add_72be8 2 = .ok (.arraylength, 1) := by decide +kernel
theorem dJx4a65c_add_72be8_3 : decode cJx4a65c_add_72be8 3 = .ok (.if_icmp .ne 8, 3) := by decide +kernel
theorem dJx4a65c_add_72be8_6 : decode cJx4a65c_add_72be8 6 = .ok (.aload_n 0, 1) := by decide +kernel
theorem dJx4a65c_add_72be8_7 : decode cJx4a65c_add_72be8 7 = .ok (.invokevirtual 129, 3) := by decide +kernel
theorem dJx4a65c_add_72be8_10 : decode cJx4a65c_add_72be8 10 = .ok (.astore_n 2, 1) := by decide +kernel
theorem dJx4a65c_add_72be8_11 : decode cJx4a65c_add_72be8 11 = .ok (.aload_n 2, 1) := by decide +kernel
theorem dJx4a65c_add_72be8_12 : decode cJx4a65c_add_72be8 12 = .ok (.iload_n 3, 1) := by decide +kernel
theorem dJx4a65c_add_72be8_13 : decode cJx4a65c_add_72be8 13 = .ok (.aload_n 1, 1) := by decide +kernel
theorem dJx4a65c_add_72be8_14 : decode cJx4a65c_add_72be8 14 = .ok (.aastore, 1) := by decide +kernel
theorem dJx4a65c_add_72be8_15 : decode cJx4a65c_add_72be8 15 = .ok (.aload_n 0, 1) := by decide +kernel
theorem dJx4a65c_add_72be8_16 : decode cJx4a65c_add_72be8 16 = .ok (.iload_n 3, 1) := by decide +kernel
theorem dJx4a65c_add_72be8_17 : decode cJx4a65c_add_72be8 17 = .ok (.iconst 1, 1) := by decide +kernel
theorem dJx4a65c_add_72be8_18 : decode cJx4a65c_add_72be8 18 = .ok (.iadd, 1) := by decide +kernel
theorem dJx4a65c_add_72be8_19 : decode cJx4a65c_add_72be8 19 = .ok (.putfield 48, 3) := by decide +kernel
theorem dJx4a65c_add_72be8_22 : decode cJx4a65c_add_72be8 22 = .ok (.return_, 1) := by decide +kernel
theorem dJx4a65c_add_9ea2d_0 : decode cJx4a65c_add_9ea2d 0 = .ok (.aload_n 0, 1) := by decide +kernel
theorem dJx4a65c_add_9ea2d_1 : decode cJx4a65c_add_9ea2d 1 = .ok (.dup, 1) := by decide +kernel
theorem dJx4a65c_add_9ea2d_2 : decode cJx4a65c_add_9ea2d 2 = .ok (.getfield 63, 3) := by decide +kernel
theorem dJx4a65c_add_9ea2d_5 : decode cJx4a65c_add_9ea2d 5 = .ok (.iconst 1, 1) := by decide +kernel
theorem dJx4a65c_add_9ea2d_6 : decode cJx4a65c_add_9ea2d 6 = .ok (.iadd, 1) := by decide +kernel
theorem dJx4a65c_add_9ea2d_7 : decode cJx4a65c_add_9ea2d 7 = .ok (.putfield 63, 3) := by decide +kernel
theorem dJx4a65c_add_9ea2d_10 : decode cJx4a65c_add_9ea2d 10 = .ok (.aload_n 0, 1) := by decide +kernel
theorem dJx4a65c_add_9ea2d_11 : decode cJx4a65c_add_9ea2d 11 = .ok (.aload_n 1, 1) := by decide +kernel
theorem dJx4a65c_add_9ea2d_12 : decode cJx4a65c_add_9ea2d 12 = .ok (.aload_n 0, 1) := by decide +kernel
theorem dJx4a65c_add_9ea2d_13 : decode cJx4a65c_add_9ea2d 13 = .ok (.getfield 9, 3) := by decide +kernel
theorem dJx4a65c_add_9ea2d_16 : decode cJx4a65c_add_9ea2d 16 = .ok (.aload_n 0, 1) := by decide +kernel
theorem dJx4a65c_add_9ea2d_17 : decode cJx4a65c_add_9ea2d 17 = .ok (.getfield 48, 3) := by decide +kernel
theorem dJx4a65c_add_9ea2d_20 : decode cJx4a65c_add_9ea2d 20 = .ok (.invokevirtual 131, 3) := by decide +kernel
theorem dJx4a65c_add_9ea2d_23 : decode cJx4a65c_add_9ea2d 23 = .ok (.iconst 1, 1) := by decide +kernel
theorem dJx4a65c_add_9ea2d_24 : decode cJx4a65c_add_9ea2d 24 = .ok (.ireturn, 1) := by decide +kernel
theorem dJx4a65c_add_7a177_0 : decode cJx4a65c_add_7a177 0 = .ok (.aload_n 0, 1) := by decide +kernel
theorem dJx4a65c_add_7a177_1 : decode cJx4a65c_add_7a177 1 = .ok (.iload_n 1, 1) := by decide +kernel
theorem dJx4a65c_add_7a177_2 : decode cJx4a65c_add_7a177 2 = .ok (.invokevirtual 135, 3) := by decide +kernel
theorem dJx4a65c_add_7a177_5 : decode cJx4a65c_add_7a177 5 = .ok (.aload_n 0, 1) := by decide +kernel
theorem dJx4a65c_add_7a177_6 : decode cJx4a65c_add_7a177 6 = .ok (.dup, 1) := by decide +kernel
theorem dJx4a65c_add_7a177_7 : decode cJx4a65c_add_7a177 7 = .ok (.getfield 63, 3) := by decide +kernel
theorem dJx4a65c_add_7a177_10 : decode cJx4a65c_add_7a177 10 = .ok (.iconst 1, 1) := by decide +kernel
theorem dJx4a65c_add_7a177_11 : decode cJx4a65c_add_7a177 11 = .ok (.iadd, 1) := by decide +kernel
theorem dJx4a65c_add_7a177_12 : decode cJx4a65c_add_7a177 12 = .ok (.putfield 63, 3) := by decide +kernel
theorem dJx4a65c_add_7a177_15 : decode cJx4a65c_add_7a177 15 = .ok (.aload_n 0, 1) := by decide +kernel
theorem dJx4a65c_add_7a177_16 : decode cJx4a65c_add_7a177 16 = .ok (.getfield 48, 3) := by decide +kernel
theorem dJx4a65c_add_7a177_19 : decode cJx4a65c_add_7a177 19 = .ok (.dup, 1) := by decide +kernel
theorem dJx4a65c_add_7a177_20 : decode cJx4a65c_add_7a177 20 = .ok (.istore_n 3, 1) := by decide +kernel
theorem dJx4a65c_add_7a177_21 : decode cJx4a65c_add_7a177 21 = .ok (.aload_n 0, 1) := by decide +kernel
theorem dJx4a65c_add_7a177_22 : decode cJx4a65c_add_7a177 22 = .ok (.getfield 9, 3) := by decide +kernel
theorem dJx4a65c_add_7a177_25 : decode cJx4a65c_add_7a177 25 = .ok (.dup, 1) := by decide +kernel
theorem dJx4a65c_add_7a177_26 : decode cJx4a65c_add_7a177 26 = .ok (.astore 4, 2) := by decide +kernel
theorem dJx4a65c_add_7a177_28 : decode cJx4a65c_add_7a177 28 = .ok (.arraylength, 1) := by decide +kernel
theorem dJx4a65c_add_7a177_29 : decode cJx4a65c_add_7a177 29 = .ok (.if_icmp .ne 9, 3) := by decide +kernel
theorem dJx4a65c_add_7a177_32 : decode cJx4a65c_add_7a177 32 = .ok (.aload_n 0, 1) := by decide +kernel
theorem dJx4a65c_add_7a177_33 : decode cJx4a65c_add_7a177 33 = .ok (.invokevirtual 129, 3) := by decide +kernel
theorem dJx4a65c_add_7a177_36 : decode cJx4a65c_add_7a177 36 = .ok (.astore 4, 2) := by decide +kernel
theorem dJx4a65c_add_7a177_38 : decode cJx4a65c_add_7a177 38 = .ok (.aload 4, 2) := by decide +kernel
theorem dJx4a65c_add_7a177_40 : decode cJx4a65c_add_7a177 40 = .ok (.iload_n 1, 1) := by decide +kernel
theorem dJx4a65c_add_7a177_41 : decode cJx4a65c_add_7a177 41 = .ok (.aload 4, 2) := by decide +kernel
theorem dJx4a65c_add_7a177_43 : decode cJx4a65c_add_7a177 43 = .ok (.iload_n 1, 1) := by decide +kernel
theorem dJx4a65c_add_7a177_44 : decode cJx4a65c_add_7a177 44 = .ok (.iconst 1, 1) := by decide +kernel
theorem dJx4a65c_add_7a177_45 : decode cJx4a65c_add_7a177 45 = .ok (.iadd, 1) := by decide +kernel
theorem dJx4a65c_add_7a177_46 : decode cJx4a65c_add_7a177 46 = .ok (.iload_n 3, 1) := by decide +kernel
theorem dJx4a65c_add_7a177_47 : decode cJx4a65c_add_7a177 47 = .ok (.iload_n 1, 1) := by decide +kernel
theorem dJx4a65c_add_7a177_48 : decode cJx4a65c_add_7a177 48 = .ok (.isub, 1) := by decide +kernel
theorem dJx4a65c_add_7a177_49 : decode cJx4a65c_add_7a177 49 = .ok (.invokestatic 112, 3) := by decide +kernel
theorem dJx4a65c_add_7a177_52 : decode cJx4a65c_add_7a177 52 = .ok (.aload 4, 2) := by decide +kernel
theorem dJx4a65c_add_7a177_54 : decode cJx4a65c_add_7a177 54 = .ok (.iload_n 1, 1) := by decide +kernel
theorem dJx4a65c_add_7a177_55 : decode cJx4a65c_add_7a177 55 = .ok (.aload_n 2, 1) := by decide +kernel
theorem dJx4a65c_add_7a177_56 : decode cJx4a65c_add_7a177 56 = .ok (.aastore, 1) := by decide +kernel
theorem dJx4a65c_add_7a177_57 : decode cJx4a65c_add_7a177 57 = .ok (.aload_n 0, 1) := by decide +kernel
theorem dJx4a65c_add_7a177_58 : decode cJx4a65c_add_7a177 58 = .ok (.iload_n 3, 1) := by decide +kernel
theorem dJx4a65c_add_7a177_59 : decode cJx4a65c_add_7a177 59 = .ok (.iconst 1, 1) := by decide +kernel
theorem dJx4a65c_add_7a177_60 : decode cJx4a65c_add_7a177 60 = .ok (.iadd, 1) := by decide +kernel
theorem dJx4a65c_add_7a177_61 : decode cJx4a65c_add_7a177 61 = .ok (.putfield 48, 3) := by decide +kernel
theorem dJx4a65c_add_7a177_64 : decode cJx4a65c_add_7a177 64 = .ok (.return_, 1) := by decide +kernel
theorem dJx4a65c_remove_915e3_0 : decode cJx4a65c_remove_915e3 0 = .ok (.iload_n 1, 1) := by decide +kernel
theorem dJx4a65c_remove_915e3_1 : decode cJx4a65c_remove_915e3 1 = .ok (.aload_n 0, 1) := by decide +kernel
theorem dJx4a65c_remove_915e3_2 : decode cJx4a65c_remove_915e3 2 = .ok (.getfield 48, 3) := by decide +kernel
theorem dJx4a65c_remove_915e3_5 : decode cJx4a65c_remove_915e3 5 = .ok (.invokestatic 118, 3) := by decide +kernel
theorem dJx4a65c_remove_915e3_8 : decode cJx4a65c_remove_915e3 8 = .ok (.pop, 1) := by decide +kernel
theorem dJx4a65c_remove_915e3_9 : decode cJx4a65c_remove_915e3 9 = .ok (.aload_n 0, 1) := by decide +kernel
theorem dJx4a65c_remove_915e3_10 : decode cJx4a65c_remove_915e3 10 = .ok (.getfield 9, 3) := by decide +kernel
theorem dJx4a65c_remove_915e3_13 : decode cJx4a65c_remove_915e3 13 = .ok (.astore_n 2, 1) := by decide +kernel
theorem dJx4a65c_remove_915e3_14 : decode cJx4a65c_remove_915e3 14 = .ok (.aload_n 2, 1) := by decide +kernel
theorem dJx4a65c_remove_915e3_15 : decode cJx4a65c_remove_915e3 15 = .ok (.iload_n 1, 1) := by decide +kernel
theorem dJx4a65c_remove_915e3_16 : decode cJx4a65c_remove_915e3 16 = .ok (.aaload, 1) := by decide +kernel
theorem dJx4a65c_remove_915e3_17 : decode cJx4a65c_remove_915e3 17 = .ok (.astore_n 3, 1) := by decide +kernel
theorem dJx4a65c_remove_915e3_18 : decode cJx4a65c_remove_915e3 18 = .ok (.aload_n 0, 1) := by decide +kernel
theorem dJx4a65c_remove_915e3_19 : decode cJx4a65c_remove_915e3 19 = .ok (.aload_n 2, 1) := by decide +kernel
theorem dJx4a65c_remove_915e3_20 : decode cJx4a65c_remove_915e3 20 = .ok (.iload_n 1, 1) := by decide +kernel
theorem dJx4a65c_remove_915e3_21 : decode cJx4a65c_remove_915e3 21 = .ok (.invokevirtual 144, 3) := by decide +kernel
theorem dJx4a65c_remove_915e3_24 : decode cJx4a65c_remove_915e3 24 = .ok (.aload_n 3, 1) := by decide +kernel
theorem dJx4a65c_remove_915e3_25 : decode cJx4a65c_remove_915e3 25 = .ok (.areturn, 1) := by decide +kernel
theorem dJx4a65c_fastRemove_b59b0_0 : decode cJx4a65c_fastRemove_b59b0 0 = .ok (.aload_n 0, 1) := by decide +kernel
theorem dJx4a65c_fastRemove_b59b0_1 : decode cJx4a65c_fastRemove_b59b0 1 = .ok (.dup, 1) := by decide +kernel
theorem dJx4a65c_fastRemove_b59b0_2 : decode cJx4a65c_fastRemove_b59b0 2 = .ok (.getfield 63, 3) := by decide +kernel
theorem dJx4a65c_fastRemove_b59b0_5 : decode cJx4a65c_fastRemove_b59b0 5 = .ok (.iconst 1, 1) := by decide +kernel
theorem dJx4a65c_fastRemove_b59b0_6 : decode cJx4a65c_fastRemove_b59b0 6 = .ok (.iadd, 1) := by decide +kernel
theorem dJx4a65c_fastRemove_b59b0_7 : decode cJx4a65c_fastRemove_b59b0 7 = .ok (.putfield 63, 3) := by decide +kernel
theorem dJx4a65c_fastRemove_b59b0_10 : decode cJx4a65c_fastRemove_b59b0 10 = .ok (.aload_n 0, 1) := by decide +kernel
theorem dJx4a65c_fastRemove_b59b0_11 : decode cJx4a65c_fastRemove_b59b0 11 = .ok (.getfield 48, 3) := by decide +kernel
theorem dJx4a65c_fastRemove_b59b0_14 : decode cJx4a65c_fastRemove_b59b0 14 = .ok (.iconst 1, 1) := by decide +kernel
theorem dJx4a65c_fastRemove_b59b0_15 : decode cJx4a65c_fastRemove_b59b0 15 = .ok (.isub, 1) := by decide +kernel
theorem dJx4a65c_fastRemove_b59b0_16 : decode cJx4a65c_fastRemove_b59b0 16 = .ok (.dup, 1) := by decide +kernel
theorem dJx4a65c_fastRemove_b59b0_17 : decode cJx4a65c_fastRemove_b59b0 17 = .ok (.istore_n 3, 1) := by decide +kernel
theorem dJx4a65c_fastRemove_b59b0_18 : decode cJx4a65c_fastRemove_b59b0 18 = .ok (.iload_n 2, 1) := by decide +kernel
theorem dJx4a65c_fastRemove_b59b0_19 : decode cJx4a65c_fastRemove_b59b0 19 = .ok (.if_icmp .le 15, 3) := by decide +kernel
theorem dJx4a65c_fastRemove_b59b0_22 : decode cJx4a65c_fastRemove_b59b0 22 = .ok (.aload_n 1, 1) := by decide +kernel
theorem dJx4a65c_fastRemove_b59b0_23 : decode cJx4a65c_fastRemove_b59b0 23 = .ok (.iload_n 2, 1) := by decide +kernel
theorem dJx4a65c_fastRemove_b59b0_24 : decode cJx4a65c_fastRemove_b59b0 24 = .ok (.iconst 1, 1) := by decide +kernel
theorem dJx4a65c_fastRemove_b59b0_25 : decode cJx4a65c_fastRemove_b59b0 25 = .ok (.iadd, 1) := by decide +kernel
theorem dJx4a65c_fastRemove_b59b0_26 : decode cJx4a65c_fastRemove_b59b0 26 = .ok (.aload_n 1, 1) := by decide +kernel
theorem dJx4a65c_fastRemove_b59b0_27 : decode cJx4a65c_fastRemove_b59b0 27 = .ok (.iload_n 2, 1) := by decide +kernel
theorem dJx4a65c_fastRemove_b59b0_28 : decode cJx4a65c_fastRemove_b59b0 28 = .ok (.iload_n 3, 1) := by decide +kernel
theorem dJx4a65c_fastRemove_b59b0_29 : decode cJx4a65c_fastRemove_b59b0 29 = .ok (.iload_n 2, 1) := by decide +kernel
theorem dJx4a65c_fastRemove_b59b0_30 : decode cJx4a65c_fastRemove_b59b0 30 = .ok (.isub, 1) := by decide +kernel
theorem dJx4a65c_fastRemove_b59b0_31 : decode cJx4a65c_fastRemove_b59b0 31 = .ok (.invokestatic 112, 3) := by decide +kernel
theorem dJx4a65c_fastRemove_b59b0_34 : decode cJx4a65c_fastRemove_b59b0 34 = .ok (.aload_n 1, 1) := by decide +kernel
theorem dJx4a65c_fastRemove_b59b0_35 : decode cJx4a65c_fastRemove_b59b0 35 = .ok (.aload_n 0, 1) := by decide +kernel
theorem dJx4a65c_fastRemove_b59b0_36 : decode cJx4a65c_fastRemove_b59b0 36 = .ok (.iload_n 3, 1) := by decide +kernel
theorem dJx4a65c_fastRemove_b59b0_37 : decode cJx4a65c_fastRemove_b59b0 37 = .ok (.dup_x1, 1) := by decide +kernel
theorem dJx4a65c_fastRemove_b59b0_38 : decode cJx4a65c_fastRemove_b59b0 38 = .ok (.putfield 48, 3) := by decide +kernel
theorem dJx4a65c_fastRemove_b59b0_41 : decode cJx4a65c_fastRemove_b59b0 41 = .ok (.aconst_null, 1) := by decide +kernel
theorem dJx4a65c_fastRemove_b59b0_42 : decode cJx4a65c_fastRemove_b59b0 42 = .ok (.aastore, 1) := by decide +kernel
theorem dJx4a65c_fastRemove_b59b0_43 : decode cJx4a65c_fastRemove_b59b0 43 = .ok (.return_, 1) := by decide +kernel
theorem dJx4a65c_rangeCheckForAdd_d00df_0 : decode cJx4a65c_rangeCheckForAdd_d00df 0 = .ok (.iload_n 1, 1) := by decide +kernel
theorem dJx4a65c_rangeCheckForAdd_d00df_1 : decode cJx4a65c_rangeCheckForAdd_d00df 1 = .ok (.aload_n 0, 1) := by decide +kernel
theorem dJx4a65c_rangeCheckForAdd_d00df_2 : decode cJx4a65c_rangeCheckForAdd_d00df 2 = .ok (.getfield 48, 3) := by decide +kernel
theorem dJx4a65c_rangeCheckForAdd_d00df_5 : decode cJx4a65c_rangeCheckForAdd_d00df 5 = .ok (.if_icmp .gt 7, 3) := by decide +kernel
theorem dJx4a65c_rangeCheckForAdd_d00df_8 : decode cJx4a65c_rangeCheckForAdd_d00df 8 = .ok (.iload_n 1, 1) := by decide +kernel
theorem dJx4a65c_rangeCheckForAdd_d00df_9 : decode cJx4a65c_rangeCheckForAdd_d00df 9 = .ok (.ifCond .ge 16, 3) := by decide +kernel
theorem dJx4a65c_rangeCheckForAdd_d00df_12 : decode cJx4a65c_rangeCheckForAdd_d00df 12 = .ok (.new 187, 3) := by decide +kernel
theorem dJx4a65c_rangeCheckForAdd_d00df_15 : decode cJx4a65c_rangeCheckForAdd_d00df 15 = .ok (.dup, 1) := by decide +kernel
theorem dJx4a65c_rangeCheckForAdd_d00df_16 : decode cJx4a65c_rangeCheckForAdd_d00df 16 = .ok (.aload_n 0, 1) := by decide +kernel
theorem dJx4a65c_rangeCheckForAdd_d00df_17 : decode cJx4a65c_rangeCheckForAdd_d00df 17 = .ok (.iload_n 1, 1) := by decide +kernel
theorem dJx4a65c_rangeCheckForAdd_d00df_18 : decode cJx4a65c_rangeCheckForAdd_d00df 18 = .ok (.invokevirtual 198, 3) := by decide +kernel
theorem dJx4a65c_rangeCheckForAdd_d00df_21 : decode cJx4a65c_rangeCheckForAdd_d00df 21 = .ok (.invokespecial 193, 3) := by decide +kernel
theorem dJx4a65c_rangeCheckForAdd_d00df_24 : decode cJx4a65c_rangeCheckForAdd_d00df 24 = .ok (.athrow, 1) := by decide +kernel
theorem dJx4a65c_rangeCheckForAdd_d00df_25 : decode cJx4a65c_rangeCheckForAdd_d00df 25 = .ok (.return_, 1) := by decide +kernel
theorem dJx4a65c_outOfBoundsMsg_b52d3_0 : decode cJx4a65c_outOfBoundsMsg_b52d3 0 = .ok (.new 20, 3) := by decide +kernel
theorem dJx4a65c_outOfBoundsMsg_b52d3_3 : decode cJx4a65c_outOfBoundsMsg_b52d3 3 = .ok (.dup, 1) := by decide +kernel
theorem dJx4a65c_outOfBoundsMsg_b52d3_4 : decode cJx4a65c_outOfBoundsMsg_b52d3 4 = .ok (.invokespecial 22, 3) := by decide +kernel
theorem dJx4a65c_outOfBoundsMsg_b52d3_7 : decode cJx4a65c_outOfBoundsMsg_b52d3 7 = .ok (.ldc 201, 2) := by decide +kernel
theorem dJx4a65c_outOfBoundsMsg_b52d3_9 : decode cJx4a65c_outOfBoundsMsg_b52d3 9 = .ok (.invokevirtual 25, 3) := by decide +kernel
theorem dJx4a65c_outOfBoundsMsg_b52d3_12 : decode cJx4a65c_outOfBoundsMsg_b52d3 12 = .ok (.iload_n 1, 1) := by decide +kernel
theorem dJx4a65c_outOfBoundsMsg_b52d3_13 : decode cJx4a65c_outOfBoundsMsg_b52d3 13 = .ok (.invokevirtual 29, 3) := by decide +kernel
theorem dJx4a65c_outOfBoundsMsg_b52d3_16 : decode cJx4a65c_outOfBoundsMsg_b52d3 16 = .ok (.ldc 203, 2) := by decide +kernel
theorem dJx4a65c_outOfBoundsMsg_b52d3_18 : decode cJx4a65c_outOfBoundsMsg_b52d3 18 = .ok (.invokevirtual 25, 3) := by decide +kernel
theorem dJx4a65c_outOfBoundsMsg_b52d3_21 : decode cJx4a65c_outOfBoundsMsg_b52d3 21 = .ok (.aload_n 0, 1) := by decide +kernel
theorem dJx4a65c_outOfBoundsMsg_b52d3_22 : decode cJx4a65c_outOfBoundsMsg_b52d3 22 = .ok (.getfield 48, 3) := by decide +kernel
theorem dJx4a65c_outOfBoundsMsg_b52d3_25 : decode cJx4a65c_outOfBoundsMsg_b52d3 25 = .ok (.invokevirtual 29, 3) := by decide +kernel
theorem dJx4a65c_outOfBoundsMsg_b52d3_28 : decode cJx4a65c_outOfBoundsMsg_b52d3 28 = .ok (.invokevirtual 32, 3) := by decide +kernel
theorem dJx4a65c_outOfBoundsMsg_b52d3_31 : decode cJx4a65c_outOfBoundsMsg_b52d3 31 = .ok (.areturn, 1) := by decide +kernel
theorem dJ7_copyOf_1904c_0 : decode cJ7_copyOf_1904c 0 = .ok (.aload_n 0, 1) := by decide +kernel
theorem dJ7_copyOf_1904c_1 : decode cJ7_copyOf_1904c 1 = .ok (.iload_n 1, 1) := by decide +kernel
theorem dJ7_copyOf_1904c_2 : decode cJ7_copyOf_1904c 2 = .ok (.aload_n 0, 1) := by decide +kernel
theorem dJ7_copyOf_1904c_3 : decode cJ7_copyOf_1904c 3 = .ok (.invokevirtual 86, 3) := by decide +kernel
theorem dJ7_copyOf_1904c_6 : decode cJ7_copyOf_1904c 6 = .ok (.invokestatic 300, 3) := by decide +kernel
theorem dJ7_copyOf_1904c_9 : decode cJ7_copyOf_1904c 9 = .ok (.areturn, 1) := by decide +kernel
theorem dJ7_copyOf_6403c_0 : decode cJ7_copyOf_6403c 0 = .ok (.aload_n 2, 1) := by decide +kernel
theorem dJ7_copyOf_6403c_1 : decode cJ7_copyOf_6403c 1 = .ok (.ldc 110, 2) := by decide +kernel
theorem dJ7_copyOf_6403c_3 : decode cJ7_copyOf_6403c 3 = .ok (.if_acmp .ne 10, 3) := by decide +kernel
theorem dJ7_copyOf_6403c_6 : decode cJ7_copyOf_6403c 6 = .ok (.iload_n 1, 1) := by decide +kernel
theorem dJ7_copyOf_6403c_7 : decode cJ7_copyOf_6403c 7 = .ok (.anewarray 2, 3) := by decide +kernel
theorem dJ7_copyOf_6403c_10 : decode cJ7_copyOf_6403c 10 = .ok (.goto 14, 3) := by decide +kernel
theorem dJ7_copyOf_6403c_13 : decode cJ7_copyOf_6403c 13 = .ok (.aload_n 2, 1) := by decide +kernel
theorem dJ7_copyOf_6403c_14 : decode cJ7_copyOf_6403c 14 = .ok (.invokevirtual 90, 3) := by decide +kernel
theorem dJ7_copyOf_6403c_17 : decode cJ7_copyOf_6403c 17 = .ok (.iload_n 1, 1) := by decide +kernel
theorem dJ7_copyOf_6403c_18 : decode cJ7_copyOf_6403c 18 = .ok (.invokestatic 95, 3) := by decide +kernel
theorem dJ7_copyOf_6403c_21 : decode cJ7_copyOf_6403c 21 = .ok (.checkcast 110, 3) := by decide +kernel
theorem dJ7_copyOf_6403c_24 : decode cJ7_copyOf_6403c 24 = .ok (.astore_n 3, 1) := by decide +kernel
theorem dJ7_copyOf_6403c_25 : decode cJ7_copyOf_6403c 25 = .ok (.aload_n 0, 1) := by decide +kernel
theorem dJ7_copyOf_6403c_26 : decode cJ7_copyOf_6403c 26 = .ok (.iconst 0, 1) := by decide +kernel
theorem dJ7_copyOf_6403c_27 : decode cJ7_copyOf_6403c 27 = .ok (.aload_n 3, 1) := by decide +kernel
theorem dJ7_copyOf_6403c_28 : decode cJ7_copyOf_6403c 28 = .ok (.iconst 0, 1) := by decide +kernel
theorem dJ7_copyOf_6403c_29 : decode cJ7_copyOf_6403c 29 = .ok (.aload_n 0, 1) := by decide +kernel
theorem dJ7_copyOf_6403c_30 : decode cJ7_copyOf_6403c 30 = .ok (.arraylength, 1) := by decide +kernel
theorem dJ7_copyOf_6403c_31 : decode cJ7_copyOf_6403c 31 = .ok (.iload_n 1, 1) := by decide +kernel
theorem dJ7_copyOf_6403c_32 : decode cJ7_copyOf_6403c 32 = .ok (.invokestatic 304, 3) := by decide +kernel
theorem dJ7_copyOf_6403c_35 : decode cJ7_copyOf_6403c 35 = .ok (.invokestatic 150, 3) := by decide +kernel
theorem dJ7_copyOf_6403c_38 : decode cJ7_copyOf_6403c 38 = .ok (.aload_n 3, 1) := by decide +kernel
theorem dJ7_copyOf_6403c_39 : decode cJ7_copyOf_6403c 39 = .ok (.areturn, 1) := by decide +kernel
theorem dJ15_checkIndex_7cf53_0 : decode cJ15_checkIndex_7cf53 0 = .ok (.iload_n 0, 1) := by decide +kernel
theorem dJ15_checkIndex_7cf53_1 : decode cJ15_checkIndex_7cf53 1 = .ok (.iload_n 1, 1) := by decide +kernel
theorem dJ15_checkIndex_7cf53_2 : decode cJ15_checkIndex_7cf53 2 = .ok (.aconst_null, 1) := by decide +kernel
theorem dJ15_checkIndex_7cf53_3 : decode cJ15_checkIndex_7cf53 3 = .ok (.invokestatic 105, 3) := by decide +kernel
theorem dJ15_checkIndex_7cf53_6 : decode cJ15_checkIndex_7cf53 6 = .ok (.ireturn, 1) := by decide +kernel
theorem dJ8_newLength_cabcc_0 : decode cJ8_newLength_cabcc 0 = .ok (.iload_n 0, 1) := by decide +kernel
theorem dJ8_newLength_cabcc_1 : decode cJ8_newLength_cabcc 1 = .ok (.iload_n 1, 1) := by decide +kernel
theorem dJ8_newLength_cabcc_2 : decode cJ8_newLength_cabcc 2 = .ok (.iload_n 2, 1) := by decide +kernel
theorem dJ8_newLength_cabcc_3 : decode cJ8_newLength_cabcc 3 = .ok (.invokestatic 194, 3) := by decide +kernel
theorem dJ8_newLength_cabcc_6 : decode cJ8_newLength_cabcc 6 = .ok (.iadd, 1) := by decide +kernel
theorem dJ8_newLength_cabcc_7 : decode cJ8_newLength_cabcc 7 = .ok (.istore_n 3, 1) := by decide +kernel
theorem dJ8_newLength_cabcc_8 : decode cJ8_newLength_cabcc 8 = .ok (.iconst 0, 1) := by decide +kernel
theorem dJ8_newLength_cabcc_9 : decode cJ8_newLength_cabcc 9 = .ok (.iload_n 3, 1) := by decide +kernel
theorem dJ8_newLength_cabcc_10 : decode cJ8_newLength_cabcc 10 = .ok (.if_icmp .ge 11, 3) := by decide +kernel
theorem dJ8_newLength_cabcc_13 : decode cJ8_newLength_cabcc 13 = .ok (.iload_n 3, 1) := by decide +kernel
theorem dJ8_newLength_cabcc_14 : decode cJ8_newLength_cabcc 14 = .ok (.ldc 200, 2) := by decide +kernel
theorem dJ8_newLength_cabcc_16 : decode cJ8_newLength_cabcc 16 = .ok (.if_icmp .gt 5, 3) := by decide +kernel
theorem dJ8_newLength_cabcc_19 : decode cJ8_newLength_cabcc 19 = .ok (.iload_n 3, 1) := by decide +kernel
theorem dJ8_newLength_cabcc_20 : decode cJ8_newLength_cabcc 20 = .ok (.ireturn, 1) := by decide +kernel
theorem dJ8_newLength_cabcc_21 : decode cJ8_newLength_cabcc 21 = .ok (.iload_n 0, 1) := by decide +kernel
theorem dJ8_newLength_cabcc_22 : decode cJ8_newLength_cabcc 22 = .ok (.iload_n 1, 1) := by decide +kernel
theorem dJ8_newLength_cabcc_23 : decode cJ8_newLength_cabcc 23 = .ok (.invokestatic 201, 3) := by decide +kernel
theorem dJ8_newLength_cabcc_26 : decode cJ8_newLength_cabcc 26 = .ok (.ireturn, 1) := by decide +kernel
theorem dJ3_checkIndex_8e157_0 : decode cJ3_checkIndex_8e157 0 = .ok (.iload_n 0, 1) := by decide +kernel
theorem dJ3_checkIndex_8e157_1 : decode cJ3_checkIndex_8e157 1 = .ok (.ifCond .lt 8, 3) := by decide +kernel
theorem dJ3_checkIndex_8e157_4 : decode cJ3_checkIndex_8e157 4 = .ok (.iload_n 0, 1) := by decide +kernel
theorem dJ3_checkIndex_8e157_5 : decode cJ3_checkIndex_8e157 5 = .ok (.iload_n 1, 1) := by decide +kernel
theorem dJ3_checkIndex_8e157_6 : decode cJ3_checkIndex_8e157 6 = .ok (.if_icmp .lt 10, 3) := by decide +kernel
theorem dJ3_checkIndex_8e157_9 : decode cJ3_checkIndex_8e157 9 = .ok (.aload_n 2, 1) := by decide +kernel
theorem dJ3_checkIndex_8e157_10 : decode cJ3_checkIndex_8e157 10 = .ok (.iload_n 0, 1) := by decide +kernel
theorem dJ3_checkIndex_8e157_11 : decode cJ3_checkIndex_8e157 11 = .ok (.iload_n 1, 1) := by decide +kernel
theorem dJ3_checkIndex_8e157_12 : decode cJ3_checkIndex_8e157 12 = .ok (.invokestatic 95, 3) := by decide +kernel
theorem dJ3_checkIndex_8e157_15 : decode cJ3_checkIndex_8e157 15 = .ok (.athrow, 1) := by decide +kernel
theorem dJ3_checkIndex_8e157_16 : decode cJ3_checkIndex_8e157 16 = .ok (.iload_n 0, 1) := by decide +kernel
theorem dJ3_checkIndex_8e157_17 : decode cJ3_checkIndex_8e157 17 = .ok (.ireturn, 1) := by decide +kernel
end
section
-- the texts that exceptions carry (class, place, text); casts that hold; casts that do not; links to private members of the nest host
def kStrs : List (String × Nat × String) := [("CalendaryPlanner", 284, "no such day"), ("CalendaryPlanner", 282, "no such room"), ("CalendaryPlanner", 278, "a number is out of range"), ("CalendaryPlanner", 71, "there are 8 meetings"), ("CalendaryPlanner", 320, "a person has another date"), ("CalendaryPlanner", 327, "no room fits"), ("CalendaryPlanner", 286, "no such meeting"), ("CalendaryPlanner", 290, "no such date"), ("CalendaryPlanner", 120, "a meeting has at most 6 dates"), ("CalendaryPlanner", 144, "no such answer"), ("CalendaryPlanner", 154, "the person is the host, or was not asked"), ("CalendaryPlanner", 329, "no seat is left"), ("CalendaryPlanner", 335, "the person would have a clash"), ("CalendaryPlanner", 293, "the date is cancelled"), ("CalendaryPlanner", 200, "no such rank"), ("CalendaryPlanner", 280, "nothing was refused"), ("CalendaryPlanner", 216, "the person is free"), ("CalendaryPlanner", 238, "no common time up to day 27"), ("CalendaryPlanner", 240, "they cannot meet then"), ("CalendaryPlanner", 256, "no meetings"), ("CalendaryPlanner", 270, "neither yes nor no")]
def kCas : List (String × String) := [("java/lang/IllegalArgumentException", "java/lang/IllegalArgumentException"), ("java/lang/IllegalStateException", "java/lang/IllegalStateException"), ("java/lang/UnsupportedOperationException", "java/lang/UnsupportedOperationException"), ("java/lang/IndexOutOfBoundsException", "java/lang/IndexOutOfBoundsException"), ("java/util/NoSuchElementException", "java/util/NoSuchElementException"), ("java/lang/ArrayIndexOutOfBoundsException", "java/lang/ArrayIndexOutOfBoundsException"), ("java/lang/ArithmeticException", "java/lang/ArithmeticException"), ("CalendaryPlanner$Room", "java/lang/Object"), ("CalendaryPlanner$Day", "java/lang/Object"), ("CalendaryPlanner", "java/lang/Object"), ("java/util/ArrayList", "java/lang/Object"), ("CalendaryPlannerModel", "java/lang/Object"), ("CalendaryPlanner$Meeting", "java/lang/Object"), ("CalendaryPlanner$Slot", "java/lang/Object"), ("CalendaryPlanner$Date", "java/lang/Object"), ("[LCalendaryPlanner$Room;", "java/lang/Object"), ("[LCalendaryPlanner$Day;", "java/lang/Object"), ("[Ljava/lang/Object;", "java/lang/Object")]
def kNcs : List (String × String) := [("java/lang/IllegalArgumentException", "java/lang/IllegalStateException"), ("java/lang/IllegalArgumentException", "java/lang/UnsupportedOperationException"), ("java/lang/IllegalArgumentException", "java/util/NoSuchElementException"), ("java/lang/IllegalArgumentException", "java/lang/IndexOutOfBoundsException"), ("java/lang/IllegalArgumentException", "java/lang/ArithmeticException"), ("java/lang/IllegalStateException", "java/lang/IllegalArgumentException"), ("java/lang/IllegalStateException", "java/lang/UnsupportedOperationException"), ("java/lang/IllegalStateException", "java/util/NoSuchElementException"), ("java/lang/IllegalStateException", "java/lang/IndexOutOfBoundsException"), ("java/lang/IllegalStateException", "java/lang/ArithmeticException"), ("java/lang/UnsupportedOperationException", "java/lang/IllegalArgumentException"), ("java/lang/UnsupportedOperationException", "java/lang/IllegalStateException"), ("java/lang/UnsupportedOperationException", "java/util/NoSuchElementException"), ("java/lang/UnsupportedOperationException", "java/lang/IndexOutOfBoundsException"), ("java/lang/UnsupportedOperationException", "java/lang/ArithmeticException"), ("java/util/NoSuchElementException", "java/lang/IllegalArgumentException"), ("java/util/NoSuchElementException", "java/lang/IllegalStateException"), ("java/util/NoSuchElementException", "java/lang/UnsupportedOperationException"), ("java/util/NoSuchElementException", "java/lang/IndexOutOfBoundsException"), ("java/util/NoSuchElementException", "java/lang/ArithmeticException"), ("java/lang/IndexOutOfBoundsException", "java/lang/IllegalArgumentException"), ("java/lang/IndexOutOfBoundsException", "java/lang/IllegalStateException"), ("java/lang/IndexOutOfBoundsException", "java/lang/UnsupportedOperationException"), ("java/lang/IndexOutOfBoundsException", "java/util/NoSuchElementException"), ("java/lang/IndexOutOfBoundsException", "java/lang/ArithmeticException"), ("java/lang/ArithmeticException", "java/lang/IllegalArgumentException"), ("java/lang/ArithmeticException", "java/lang/IllegalStateException"), ("java/lang/ArithmeticException", "java/lang/UnsupportedOperationException"), ("java/lang/ArithmeticException", "java/util/NoSuchElementException"), ("java/lang/ArithmeticException", "java/lang/IndexOutOfBoundsException")]
def kNst : List (String × Nat × MethodName × String) := [("CalendaryPlanner$Meeting", 28, ⟨"CalendaryPlanner", "bitOf", "(I)I"⟩, "CalendaryPlanner"), ("CalendaryPlanner$Meeting", 44, ⟨"CalendaryPlanner", "holdsPerson", "(II)Z"⟩, "CalendaryPlanner")]
end
section
/-! ===== THE LAYER: the heap as a map from addresses to what lies there; one judgement over it; contracts ===== -/
-- G: what the tables say (class numbers and slots; numbers of array classes), the first address that is ours, the empty row of ArrayList
abbrev kG : Type := va_G × (Nat → ClassId) × Nat × Nat
abbrev kAH : Type := Nat → Option va_E
-- a method: name, bytes, locals, what it answers, its handlers
abbrev kMR : Type := MethodName × ByteArray × Nat × Option FieldType × List (Nat × Nat × Nat × Nat)
def iI (z : Int) : Int32 := Int32.ofInt z
theorem iI_add (a b : Int) : iI a + iI b = iI (a + b) := (Int32.ofInt_add a b).symm
theorem iI_mul (a b : Int) : iI a * iI b = iI (a * b) := (Int32.ofInt_mul a b).symm
theorem iI_sub (a b : Int) : iI a - iI b = iI (a - b) := by
  rw [Int32.sub_eq_add_neg]
  have h : -iI b = iI (-b) := (Int32.ofInt_neg b).symm
  rw [h, iI_add]; rfl
theorem iI_neg (b : Int) : -iI b = iI (-b) := (Int32.ofInt_neg b).symm
theorem iI_toInt {z : Int} (h1 : -2147483648 ≤ z) (h2 : z < 2147483648) : (iI z).toInt = z := Int32.toInt_ofInt_of_le (by omega) (by omega)
theorem iI_of (x : Int32) : iI x.toInt = x := Int32.ofInt_toInt x
theorem iI_rng (x : Int32) : ∃ z : Int, x = iI z ∧ -2147483648 ≤ z ∧ z < 2147483648 :=
  ⟨x.toInt, (iI_of x).symm, by have := x.le_toInt; omega, by have := x.toInt_lt; omega⟩
theorem iI_lt {a b : Int} (h1 : -2147483648 ≤ a ∧ a < 2147483648) (h2 : -2147483648 ≤ b ∧ b < 2147483648) : iI a < iI b ↔ a < b := by
  rw [Int32.lt_iff_toInt_lt, iI_toInt h1.1 h1.2, iI_toInt h2.1 h2.2]
theorem iI_le {a b : Int} (h1 : -2147483648 ≤ a ∧ a < 2147483648) (h2 : -2147483648 ≤ b ∧ b < 2147483648) : iI a ≤ iI b ↔ a ≤ b := by
  rw [Int32.le_iff_toInt_le, iI_toInt h1.1 h1.2, iI_toInt h2.1 h2.2]
theorem iI_eq {a b : Int} (h1 : -2147483648 ≤ a ∧ a < 2147483648) (h2 : -2147483648 ≤ b ∧ b < 2147483648) : iI a = iI b ↔ a = b := by
  rw [← Int32.toInt_inj, iI_toInt h1.1 h1.2, iI_toInt h2.1 h2.2]
theorem iI_cl {a : Int} (h1 : 0 ≤ a) (h2 : a < 2147483648) : (iI a).toNatClampNeg = a.toNat := by
  show (iI a).toInt.toNat = _
  rw [iI_toInt (by omega) h2]
theorem iI_in {a : Int} {n : Nat} (h1 : 0 ≤ a) (h2 : a < n) (h3 : a < 2147483648) : vp_in (iI a) n := by
  rw [vp_in_iff, iI_toInt (by omega) h3]; omega
def kup (h : kAH) (a : Nat) (e : va_E) : kAH := fun b => if b = a then some e else h b
theorem kup_same (h : kAH) (a : Nat) (e : va_E) : kup h a e a = some e := if_pos rfl
theorem kup_ne {h : kAH} {a b : Nat} {e : va_E} (hb : b ≠ a) : kup h a e b = h b := if_neg hb
def kA (G : kG) : Nat → Prop := fun q => G.2.2.1 ≤ q
abbrev kTys (G : kG) : List (ClassId × FieldType) := [(G.2.1 0, .int), (G.2.1 1, .long), (G.2.1 2, .double), (G.2.1 3, .object "java/lang/Object"), (G.2.1 4, .object "CalendaryPlanner$Day"), (G.2.1 5, .object "CalendaryPlanner$Room")]
def kHp (G : kG) (h : kAH) (H : Heap) : Prop := ∀ (a : Nat) (e : va_E), h a = some e → kA G a ∧ va_at G.1 vwCl (a, e) H
def kEn (h : kAH) (n : Nat) : va_W := (List.range n).filterMap (fun b => (h b).map (fun e => (b, e)))
theorem kEn_mem {h : kAH} {n b : Nat} {e : va_E} : (b, e) ∈ kEn h n ↔ b < n ∧ h b = some e := by
  unfold kEn
  rw [List.mem_filterMap]
  constructor
  · rintro ⟨a, ha, h1⟩
    rw [Option.map_eq_some_iff] at h1
    obtain ⟨e', h2, h3⟩ := h1
    cases h3
    exact ⟨List.mem_range.mp ha, h2⟩
  · rintro ⟨h1, h2⟩
    exact ⟨b, List.mem_range.mpr h1, by rw [h2]; rfl⟩
theorem kEn_inj {h : kAH} {n : Nat} {i j : Nat} {p q : Nat × va_E} (hi : (kEn h n)[i]? = some p) (hj : (kEn h n)[j]? = some q) (e : p.1 = q.1) : i = j := by
  have hp : List.Pairwise (fun (p q : Nat × va_E) => p.1 < q.1) (kEn h n) := by
    unfold kEn
    rw [List.pairwise_filterMap]
    refine List.Pairwise.imp ?_ (List.pairwise_lt_range (n := n))
    intro a b hab x hx y hy
    rw [Option.map_eq_some_iff] at hx hy
    obtain ⟨_, -, rfl⟩ := hx
    obtain ⟨_, -, rfl⟩ := hy
    exact hab
  obtain ⟨hi1, hi2⟩ := List.getElem?_eq_some_iff.mp hi
  obtain ⟨hj1, hj2⟩ := List.getElem?_eq_some_iff.mp hj
  have hg := List.pairwise_iff_getElem.mp hp
  rcases Nat.lt_trichotomy i j with c | c | c
  · have := hg i j hi1 hj1 c
    rw [hi2, hj2] at this; omega
  · exact c
  · have := hg j i hj1 hi1 c
    rw [hi2, hj2] at this; omega
theorem kHp_lt {G : kG} {h : kAH} {H : Heap} (hp : kHp G h H) {a : Nat} {e : va_E} (ha : h a = some e) : a < H.size := (hp a e ha).2.lt
theorem kHp_P {G : kG} {h : kAH} {H : Heap} (hp : kHp G h H) : va_P G.1 vwCl (kEn h H.size) H := fun k q hk => (hp q.1 q.2 (kEn_mem.mp (List.mem_of_getElem? hk)).2).2
theorem kHp_D {G : kG} {h : kAH} {H : Heap} (hp : kHp G h H) : va_D (kA G) (kEn h H.size) := ⟨fun i j p q hi hj e => kEn_inj hi hj e, fun k q hk => (hp q.1 q.2 (kEn_mem.mp (List.mem_of_getElem? hk)).2).1⟩
theorem kHp_pl {G : kG} {h : kAH} {H : Heap} (hp : kHp G h H) {a : Nat} {e : va_E} (ha : h a = some e) : ∃ k : Nat, (kEn h H.size)[k]? = some (a, e) := List.getElem?_of_mem (kEn_mem.mpr ⟨kHp_lt hp ha, ha⟩)
theorem kHp_one {G : kG} {h : kAH} {H : Heap} (hp : kHp G h H) {a : Nat} {e : va_E} (ha : h a = some e) : va_P G.1 vwCl [(a, e)] H := by
  intro k q hk
  have hz : k < 1 := (List.getElem?_eq_some_iff.mp hk).1
  rw [show k = 0 by omega] at hk
  cases hk
  exact (hp a e ha).2
theorem kHp_set {G : kG} {h : kAH} {H H1 : Heap} {a k : Nat} {e0 e' : va_E} (hp : kHp G h H) (hk : (kEn h H.size)[k]? = some (a, e0)) (hP : va_P G.1 vwCl ((kEn h H.size).set k (a, e')) H1) : kHp G (kup h a e') H1 := by
  intro b e hb
  have hl := (List.getElem?_eq_some_iff.mp hk).1
  by_cases c : b = a
  · subst c
    rw [kup_same] at hb
    cases hb
    exact ⟨(hp b e0 (kEn_mem.mp (List.mem_of_getElem? hk)).2).1, hP k (b, e') (List.getElem?_set_self hl)⟩
  · rw [kup_ne c] at hb
    obtain ⟨j, hj⟩ := kHp_pl hp hb
    have hjk : k ≠ j := by
      intro e9
      subst e9
      rw [hk] at hj
      cases hj
      exact c rfl
    exact ⟨(hp b e hb).1, hP j (b, e) (by rw [List.getElem?_set_ne hjk]; exact hj)⟩
theorem kHp_push {G : kG} {h : kAH} {H H1 : Heap} {q : Nat} {e' : va_E} (hp : kHp G h H) (hP : va_P G.1 vwCl (kEn h H.size ++ [(q, e')]) H1) (hD : va_D (kA G) (kEn h H.size ++ [(q, e')])) : kHp G (kup h q e') H1 ∧ h q = none := by
  have hq : (kEn h H.size ++ [(q, e')])[(kEn h H.size).length]? = some (q, e') := by
    rw [List.getElem?_append_right (Nat.le_refl _), Nat.sub_self]; rfl
  have hn : h q = none := by
    cases c : h q with
    | none => rfl
    | some e =>
      obtain ⟨j, hj⟩ := kHp_pl hp c
      have hl := (List.getElem?_eq_some_iff.mp hj).1
      have := hD.1 j _ (q, e) (q, e') (by rw [List.getElem?_append_left hl]; exact hj) hq rfl
      omega
  refine ⟨fun b e hb => ?_, hn⟩
  by_cases c : b = q
  · subst c
    rw [kup_same] at hb
    cases hb
    exact ⟨hD.2 _ _ hq, hP _ _ hq⟩
  · rw [kup_ne c] at hb
    obtain ⟨j, hj⟩ := kHp_pl hp hb
    have hl := (List.getElem?_eq_some_iff.mp hj).1
    exact ⟨(hp b e hb).1, hP j (b, e) (by rw [List.getElem?_append_left hl]; exact hj)⟩
theorem kHp_kept {G : kG} {h : kAH} {H H1 : Heap} (hp : kHp G h H) (hk : ∀ q : Nat, q < H.size → H1[q]? = H[q]?) : kHp G h H1 := fun a e ha => ⟨(hp a e ha).1, (hp a e ha).2.kept (hk a (kHp_lt hp ha))⟩
-- the words that may be handed to callees
def kW0 : List Cond := lw_tbl.filter goodWord
theorem kW0_in {w : Cond} (h : w ∈ lw_tbl) (g : goodWord w = true) : w ∈ kW0 := List.mem_filter.mpr ⟨h, g⟩
theorem kW0_good : GoodIn kW0 kW0 := fun w h => ⟨h, good_of_word (List.mem_filter.mp h).2⟩
def kHd (y : kMR) : Cond := if y.2.2.2.2.isEmpty then Cond.code y.1 y.2.1 y.2.2.1 y.2.2.2.1 else Cond.codeWith y.1 y.2.1 y.2.2.1 y.2.2.2.1 y.2.2.2.2
def kws (y : kMR) : List Cond := kHd y :: kW0
def kLo (d : Nat) : Nat := 60 * d + 300
def kFr (d : Nat) : Nat := d + 8
theorem kLo_step {d d' m : Nat} (h : d' < d) (hm : m ≤ 20) : 8 + (m + 11) + kLo d' ≤ kLo d := by
  unfold kLo; omega
theorem kFr_step {d d' : Nat} (h : d' < d) : kFr d' + 1 ≤ kFr d := by
  unfold kFr; omega
theorem kLo_ge (d : Nat) : 300 ≤ kLo d := by
  unfold kLo; omega
theorem kFr_ge (d : Nat) : 8 ≤ kFr d := by
  unfold kFr; omega
abbrev krm (d mc ms : Nat) : Room := { frames := kFr d, cells := mc, slots := ms, locals := kLo d }
-- words of members and casts: they are carried by themselves
def kFace : List Cond := lw_tbl.filter (fun w => w.faceAtom && w.onTables)
theorem kFace_in {w : Cond} (h : w ∈ lw_tbl) (g : (w.faceAtom && w.onTables) = true) : w ∈ kFace := List.mem_filter.mpr ⟨h, g⟩
theorem kFace_on {w : Cond} (h : w ∈ kFace) : w.faceAtom = true ∧ w.onTables = true := Bool.and_eq_true_iff.mp (List.mem_filter.mp h).2
theorem kFace_moved {w : Cond} (h : w ∈ kFace) {s U : State} (hW : s.WarmedH U.vm) (hb : va_Nw w s) : va_Nw w U := by
  obtain ⟨h1, h2⟩ := kFace_on h
  exact va_tabs h2 (rfl : (s.setVm U.vm).vm = U.vm) (Cond.faceAtom_setVm hW.alike w h1 hb)
-- texts of exceptions (class, place, text); pairs of classes that can't be cast, that can
def kEnv (G : kG) (s : State) (H : Heap) : Prop :=
  va_K G.1 vwCl (kTys G) s ∧ vx_Zq Bundle.tN "UNASSIGNED_STACK" Bundle.steD (kA G) s H ∧ vx_Zq Bundle.tN "SUPPRESSED_SENTINEL" Bundle.listD (kA G) s H ∧
  va_Z "java/util/ArrayList" "DEFAULTCAPACITY_EMPTY_ELEMENTDATA" "[Ljava/lang/Object;" (.ref G.2.2.2) (kA G) s H ∧ va_T (.object "java/lang/Object") G.2.2.2 0 (fun _ => .null) (kA G) s H ∧
  (∀ q ∈ kStrs, ∃ a : Nat, vk_R q.1 q.2.1 q.2.2 a s) ∧ (∀ q ∈ kNcs, va_Nc q.1 q.2 s) ∧ (∀ q ∈ kCas, va_Nw (.castable q.1 q.2) s) ∧ (∀ q ∈ kNst, va_Nw (.methodLinkNest q.1 q.2.1 q.2.2.1 q.2.2.2) s) ∧
  va_AO "java/lang/Object" s ∧ va_AO "CalendaryPlanner$Day" s ∧ va_AO "CalendaryPlanner$Room" s ∧ va_Dc s ∧ (∃ mi : Nat, va_Mi "[Ljava/lang/Object;" mi s) ∧ ∀ w ∈ kFace, va_Nw w s
theorem kEnv_moved {G : kG} {s U : State} {H H1 : Heap} (h : kEnv G s H) (hW : s.WarmedH U.vm) (hk : ∀ q : Nat, q < H.size → ¬ kA G q → H1[q]? = H[q]?) : kEnv G U H1 := by
  obtain ⟨h1, h2, h3, h4, h5, h6, h7, h8, h9, h10, h11, h12, h13, ⟨mi, h14⟩, h15⟩ := h
  exact ⟨va_K.moved hW.alike h1, (vx_Zq.moved hW.alike h2).kept hk, (vx_Zq.moved hW.alike h3).kept hk, (va_Z.moved hW.alike h4).kept hk, (va_T.moved hW.alike h5).kept hk,
    fun q hq => (h6 q hq).imp fun a h => vk_R.warm hW h, fun q hq => va_Nc.moved hW.alike (h7 q hq), fun q hq => va_Nw.warmC hW (h8 q hq), fun q hq => va_Nw.warmM hW (h9 q hq),
    va_AO.moved hW.alike h10, va_AO.moved hW.alike h11, va_AO.moved hW.alike h12, va_Dc.moved hW.alike h13, ⟨mi, va_Mi.moved hW.alike h14⟩, fun w hw => kFace_moved hw hW (h15 w hw)⟩
-- the judgement: from pc, with the locals L, the stack st, the heap h, k cells and n slots to spend: the method comes to an end that Φ (its answer, the heap) or Ψ (what it throws, the heap) allows
def kpr : Nat → List (Option Value) → List (Nat × Value)
  | _, [] => []
  | i, none :: r => kpr (i + 1) r
  | i, some v :: r => (i, v) :: kpr (i + 1) r
theorem kpr_mem : ∀ (L : List (Option Value)) (i j : Nat) (v : Value), (j, v) ∈ kpr i L ↔ i ≤ j ∧ L[j - i]? = some (some v)
  | [], i, j, v => by simp [kpr]
  | none :: r, i, j, v => by
    have ih := kpr_mem r (i + 1) j v
    show (j, v) ∈ kpr (i + 1) r ↔ _
    rw [ih]
    constructor
    · rintro ⟨h1, h2⟩
      refine ⟨by omega, ?_⟩
      rw [show j - i = (j - (i + 1)) + 1 by omega, List.getElem?_cons_succ]
      exact h2
    · rintro ⟨h1, h2⟩
      by_cases c : j = i
      · subst c
        rw [Nat.sub_self, List.getElem?_cons_zero] at h2
        cases h2
      · rw [show j - i = (j - (i + 1)) + 1 by omega, List.getElem?_cons_succ] at h2
        exact ⟨by omega, h2⟩
  | some w :: r, i, j, v => by
    have ih := kpr_mem r (i + 1) j v
    show (j, v) ∈ (i, w) :: kpr (i + 1) r ↔ _
    rw [List.mem_cons, ih]
    constructor
    · rintro (h | ⟨h1, h2⟩)
      · cases h
        exact ⟨Nat.le_refl _, by rw [Nat.sub_self]; rfl⟩
      · refine ⟨by omega, ?_⟩
        rw [show j - i = (j - (i + 1)) + 1 by omega, List.getElem?_cons_succ]
        exact h2
    · rintro ⟨h1, h2⟩
      by_cases c : j = i
      · subst c
        rw [Nat.sub_self, List.getElem?_cons_zero] at h2
        cases h2
        exact Or.inl rfl
      · rw [show j - i = (j - (i + 1)) + 1 by omega, List.getElem?_cons_succ] at h2
        exact Or.inr ⟨by omega, h2⟩
theorem klo {ls : Array Slot} {nL : Nat} {L : List (Option Value)} (hl : lv_has ls nL (kpr 0 L)) {i : Nat} {v : Value} (h : L[i]? = some (some v)) : ls[i]? = some (.val v) := hl.2.2 (i, v) ((kpr_mem L 0 i v).mpr ⟨Nat.zero_le _, h⟩)
def kclr (L : List (Option Value)) : Nat → List (Option Value)
  | 0 => L
  | i + 1 => match L[i]? with
    | some (some v) => if v.category = 2 then L.set i none else L
    | _ => L
abbrev kset1 (L : List (Option Value)) (i : Nat) (v : Value) : List (Option Value) := (kclr L i).set i (some v)
abbrev kset2 (L : List (Option Value)) (i : Nat) (v : Value) : List (Option Value) := ((kclr L i).set i (some v)).set (i + 1) none
theorem kclr_get {L : List (Option Value)} {i j : Nat} {w : Value} (h : (kclr L i)[j]? = some (some w)) : L[j]? = some (some w) ∧ ¬ (j + 1 = i ∧ w.category = 2) := by
  cases i with
  | zero => exact ⟨h, fun q => absurd q.1 (by omega)⟩
  | succ i =>
    rw [kclr] at h
    split at h
    · rename_i v hv
      split at h
      · rename_i hc
        by_cases e : j = i
        · subst e
          rw [List.getElem?_set_self (List.getElem?_eq_some_iff.mp hv).1] at h
          cases h
        · rw [List.getElem?_set_ne (Ne.symm e)] at h
          exact ⟨h, fun q => e (by omega)⟩
      · rename_i hc
        refine ⟨h, fun q => ?_⟩
        have e : j = i := by omega
        subst e
        rw [hv] at h
        cases h
        exact hc q.2
    · rename_i hv
      refine ⟨h, fun q => ?_⟩
      have e : j = i := by omega
      subst e
      exact hv w h
theorem kset1_has {ls : Array Slot} {nL : Nat} {L : List (Option Value)} {i : Nat} {v : Value} (h : lv_has ls nL ((i, v) :: (kpr 0 L).filter (fun q => !(q.1 == i) && !(q.1 + 1 == i && q.2.category == 2)))) : lv_has ls nL (kpr 0 (kset1 L i v)) := by
  refine ⟨h.1, h.2.1, fun q hq => ?_⟩
  obtain ⟨j, w⟩ := q
  obtain ⟨-, h1⟩ := (kpr_mem _ _ _ _).mp hq
  rw [Nat.sub_zero] at h1
  refine h.2.2 (j, w) ?_
  by_cases e : j = i
  · subst e
    have hl : j < (kclr L j).length := by
      have := (List.getElem?_eq_some_iff.mp h1).1
      rw [List.length_set] at this
      exact this
    rw [List.getElem?_set_self hl] at h1
    cases h1
    exact List.mem_cons_self
  · rw [List.getElem?_set_ne (Ne.symm e)] at h1
    obtain ⟨g1, g2⟩ := kclr_get h1
    refine List.mem_cons_of_mem _ (List.mem_filter.mpr ⟨(kpr_mem L 0 j w).mpr ⟨Nat.zero_le _, g1⟩, ?_⟩)
    simp only [Bool.and_eq_true, Bool.not_eq_true', beq_eq_false_iff_ne, ne_eq, Bool.and_eq_false_iff]
    refine ⟨e, ?_⟩
    by_cases c : j + 1 = i
    · exact Or.inr fun z => g2 ⟨c, z⟩
    · exact Or.inl c
theorem kset2_has {ls : Array Slot} {nL : Nat} {L : List (Option Value)} {i : Nat} {v : Value} (h : lv_has ls nL ((i, v) :: (kpr 0 L).filter (fun q => !(q.1 == i) && (!(q.1 == i + 1) && !(q.1 + 1 == i && q.2.category == 2))))) : lv_has ls nL (kpr 0 (kset2 L i v)) := by
  refine ⟨h.1, h.2.1, fun q hq => ?_⟩
  obtain ⟨j, w⟩ := q
  obtain ⟨-, h1⟩ := (kpr_mem _ _ _ _).mp hq
  rw [Nat.sub_zero] at h1
  refine h.2.2 (j, w) ?_
  by_cases e2 : j = i + 1
  · subst e2
    have hl : i + 1 < ((kclr L i).set i (some v)).length := by
      have := (List.getElem?_eq_some_iff.mp h1).1
      rw [List.length_set] at this
      exact this
    rw [List.getElem?_set_self hl] at h1
    cases h1
  · rw [List.getElem?_set_ne (Ne.symm e2)] at h1
    by_cases e : j = i
    · subst e
      have hl : j < (kclr L j).length := by
        have := (List.getElem?_eq_some_iff.mp h1).1
        rw [List.length_set] at this
        exact this
      rw [List.getElem?_set_self hl] at h1
      cases h1
      exact List.mem_cons_self
    · rw [List.getElem?_set_ne (Ne.symm e)] at h1
      obtain ⟨g1, g2⟩ := kclr_get h1
      refine List.mem_cons_of_mem _ (List.mem_filter.mpr ⟨(kpr_mem L 0 j w).mpr ⟨Nat.zero_le _, g1⟩, ?_⟩)
      simp only [Bool.and_eq_true, Bool.not_eq_true', beq_eq_false_iff_ne, ne_eq, Bool.and_eq_false_iff]
      refine ⟨e, e2, ?_⟩
      by_cases c : j + 1 = i
      · exact Or.inr fun z => g2 ⟨c, z⟩
      · exact Or.inl c
def kFX (l : Launch) (G : kG) (y : kMR) (d : Nat) (p : Program) (R : Room) (s : State) (m : MethodId) (args : Array Value) (meth : Method) (c : Code) : Prop :=
  p.tables.exec = Jvm.exec ∧ c.code = y.2.1 ∧ c.maxLocals = y.2.2.1 ∧ meth.sig.returnType = y.2.2.2.1 ∧ meth.locks = false ∧ meth.name = y.1.name ∧ s.vm.findClass y.1.cls = some m.cls ∧ c.exceptionTable.toList = tableOf y.2.2.2.2 ∧
  (∀ w ∈ kW0, w.before args s = true) ∧ kEnv G s s.heap ∧ kFr d ≤ R.frames ∧ kLo d ≤ R.locals ∧ G.2.2.1 ≤ s.heap.size ∧ l.stackTraces = false
def kQ (G : kG) (Φ : Option Value → kAH → Prop) : Array Value → State → Outcome → State → Prop := fun _ st o t => (∃ (v : Option Value) (h' : kAH), o = .returned v ∧ Φ v h' ∧ kHp G h' t.heap) ∧ va_F (kA G) st t
def kQX (G : kG) (Ψ : String → kAH → Prop) : String → State → State → Prop := fun E st t => (∃ h' : kAH, Ψ E h' ∧ kHp G h' t.heap) ∧ va_F (kA G) st t
def kW (l : Launch) (G : kG) (y : kMR) (d : Nat) (Φ : Option Value → kAH → Prop) (Ψ : String → kAH → Prop) (k n pc : Nat) (L : List (Option Value)) (st : List Value) (h : kAH) : Prop :=
  ∀ (p : Program) (e : Env) (R : Room) (s : State) (m : MethodId) (args : Array Value) (below : List Frame) (meth : Method) (c : Code) (H : Heap) (locs : List Loc) (cells slots : Nat) (ls : Array Slot),
  kFX l G y d p R s m args meth c → cells + k ≤ R.cells → slots + n ≤ R.slots → kHp G h H → va_S (kA G) s.heap H locs → lv_has ls y.2.2.1 (kpr 0 L) →
  W p l e R s m args below meth c H locs cells slots (vx_MQ below (kQ G Φ) (kQX G Ψ) args s R.cells R.slots (kA G)) (F0 m pc ls st)
-- what y, called with the values as in the heap h, with mc cells and ms slots to spend, comes to
def kC (l : Launch) (G : kG) (y : kMR) (d mc ms : Nat) (as : List Value) (h : kAH) (Φ : Option Value → kAH → Prop) (Ψ : String → kAH → Prop) : Prop :=
  vx_Met l y.1 (kws y) (krm d mc ms) (va_Pc as (fun U => kEnv G U U.heap ∧ kHp G h U.heap ∧ G.2.2.1 ≤ U.heap.size)) (kQ G Φ) (kQX G Ψ) mc ms (kA G)
theorem kblind {G : kG} {as : List Value} {h : kAH} : FrameBlind (va_Pc as (fun U => kEnv G U U.heap ∧ kHp G h U.heap ∧ G.2.2.1 ≤ U.heap.size)) := by
  intro a U g mk q
  obtain ⟨q0, q1, q2, q3⟩ := q
  exact ⟨q0, kEnv_moved (U := U.calling g mk a) q1 (State.WarmedH.refl U) (fun _ _ _ => rfl), q2, q3⟩
end
section
/-! ===== rules: an instruction of the judgement kW out of the kit's row for it ===== -/
section KR
variable {l : Launch} {G : kG} {y : kMR} {d : Nat} {Φ : Option Value → kAH → Prop} {Ψ : String → kAH → Prop} {k n pc pc1 : Nat} {L : List (Option Value)} {st : List Value} {h : kAH}
theorem kC_of {mc ms : Nat} {as : List Value} (hl : l.stackTraces = false) (hy : plainName y.1.cls = true) (hh : y.2.2.2.2 = []) (hlen : (lg_sl as).length ≤ y.2.2.1) (hL : kpr 0 L = lv_args 0 as) (kk : kW l G y d Φ Ψ mc ms 0 L [] h) : kC l G y d mc ms as h Φ Ψ := by
  refine vx_ofW (cc := y.2.1) (maxL := y.2.2.1) (ret := y.2.2.2.1) (ws' := kW0) hy ?_ ?_
  · show kHd y :: kW0 = _
    unfold kHd
    rw [hh]
    rfl
  · intro p e s m args below meth c s₁ B hml ht hv
    obtain ⟨rfl, hE, hp, hN⟩ := hv
    have hts := atoms_spec (ws := kws y) B.pre
    have hl9 := lv_entry as (n := y.2.2.1) hlen
    rw [lg_entry_eq]
    rw [← hL] at hl9
    have hnil : c.exceptionTable.toList = [] := List.eq_nil_iff_forall_not_mem.mpr fun x hx => ht x hx
    exact kk p e _ s m _ below meth c s.heap [] 0 0 _ ⟨B.exec, B.bytes, hml, B.returns, B.notSynchronized, (name_of_methodNamed B.named B.method).1, findClass_of_methodNamed B.named, by rw [hh, hnil]; rfl, fun w hw => hts w (List.mem_cons_of_mem _ hw), hE, Nat.le_refl _, Nat.le_refl _, hN, hl⟩ (by rw [Nat.zero_add]; exact Nat.le_refl _) (by rw [Nat.zero_add]; exact Nat.le_refl _) hp va_S.rf hl9
theorem kC_ofH {mc ms : Nat} {as : List Value} (hl : l.stackTraces = false) (hy : plainName y.1.cls = true) (hh : y.2.2.2.2.isEmpty = false) (hlen : (lg_sl as).length ≤ y.2.2.1) (hL : kpr 0 L = lv_args 0 as) (kk : kW l G y d Φ Ψ mc ms 0 L [] h) : kC l G y d mc ms as h Φ Ψ := by
  have hHd : kHd y = Cond.codeWith y.1 y.2.1 y.2.2.1 y.2.2.2.1 y.2.2.2.2 := by
    unfold kHd
    rw [hh]
    rfl
  refine vx_ofWH (cc := y.2.1) (maxL := y.2.2.1) (ret := y.2.2.2.1) (hh := y.2.2.2.2) (ws' := kW0) hy ?_ ?_
  · show kHd y :: kW0 = _
    rw [hHd]
  · intro p e s m args below meth c s₁ B hml hv
    obtain ⟨rfl, hE, hp, hN⟩ := hv
    have hts := atoms_spec (ws := kws y) B.pre
    have hl9 := lv_entry as (n := y.2.2.1) hlen
    rw [lg_entry_eq]
    rw [← hL] at hl9
    have ht : c.exceptionTable.toList = tableOf y.2.2.2.2 := vx_table (x := y.1) B (by have h9 := hts (kHd y) List.mem_cons_self; rw [hHd] at h9; exact h9)
    exact kk p e _ s m _ below meth c s.heap [] 0 0 _ ⟨B.exec, B.bytes, hml, B.returns, B.notSynchronized, (name_of_methodNamed B.named B.method).1, findClass_of_methodNamed B.named, ht, fun w hw => hts w (List.mem_cons_of_mem _ hw), hE, Nat.le_refl _, Nat.le_refl _, hN, hl⟩ (by rw [Nat.zero_add]; exact Nat.le_refl _) (by rw [Nat.zero_add]; exact Nat.le_refl _) hp va_S.rf hl9
theorem k_pure {pc' : Nat} {L' : List (Option Value)} {st' : List Value}
    (row : ∀ (p : Program) (e : Env) (R : Room) (s : State) (m : MethodId) (args : Array Value) (below : List Frame) (meth : Method) (c : Code) (H : Heap) (locs : List Loc) (cells slots : Nat) (Q : State → Prop) (ls : Array Slot), p.tables.exec = Jvm.exec → c.code = y.2.1 → lv_has ls y.2.2.1 (kpr 0 L) →
      (∀ ls' : Array Slot, lv_has ls' y.2.2.1 (kpr 0 L') → W p l e R s m args below meth c H locs cells slots Q (F0 m pc' ls' st')) → W p l e R s m args below meth c H locs cells slots Q (F0 m pc ls st))
    (kk : kW l G y d Φ Ψ k n pc' L' st' h) : kW l G y d Φ Ψ k n pc L st h := by
  intro p e R s m args below meth c H locs cells slots ls F h1 h2 h3 h4 h5
  exact row p e R s m args below meth c H locs cells slots _ ls F.1 F.2.1 h5 (fun ls' h6 => kk p e R s m args below meth c H locs cells slots ls' F h1 h2 h3 h4 h6)
theorem k_iconst {z : Int} (hd : decode y.2.1 pc = .ok (.iconst z, 1)) (hp : pc + 1 = pc1)  (kk : kW l G y d Φ Ψ k n pc1 L (.int (iI z) :: st) h) : kW l G y d Φ Ψ k n pc L (st) h := by
  subst hp
  refine k_pure ?_ kk
  intro p e R s m args below meth c H locs cells slots Q ls hx hb hl kk
  exact lv_iconst hx hb hd rfl (kk ls hl)
theorem k_bipush {z : Int} (v : Int) (hd : decode y.2.1 pc = .ok (.bipush z, 2)) (hp : pc + 2 = pc1) (hv : (Int8.ofInt z).toInt32 = iI v) (kk : kW l G y d Φ Ψ k n pc1 L (.int (iI v) :: st) h) : kW l G y d Φ Ψ k n pc L (st) h := by
  subst hp
  refine k_pure ?_ kk
  intro p e R s m args below meth c H locs cells slots Q ls hx hb hl kk
  exact lv_bipush hx hb hd hv (kk ls hl)
theorem k_sipush {z : Int} (v : Int) (hd : decode y.2.1 pc = .ok (.sipush z, 3)) (hp : pc + 3 = pc1) (hv : (Int16.ofInt z).toInt32 = iI v) (kk : kW l G y d Φ Ψ k n pc1 L (.int (iI v) :: st) h) : kW l G y d Φ Ψ k n pc L (st) h := by
  subst hp
  refine k_pure ?_ kk
  intro p e R s m args below meth c H locs cells slots Q ls hx hb hl kk
  exact lv_sipush hx hb hd hv (kk ls hl)
theorem k_lconst {z : Fin 2} (hd : decode y.2.1 pc = .ok (.lconst z, 1)) (hp : pc + 1 = pc1)  (kk : kW l G y d Φ Ψ k n pc1 L (.long (Int64.ofNat (z : Nat)) :: st) h) : kW l G y d Φ Ψ k n pc L (st) h := by
  subst hp
  refine k_pure ?_ kk
  intro p e R s m args below meth c H locs cells slots Q ls hx hb hl kk
  exact lv_lconst hx hb hd rfl (kk ls hl)
theorem k_fconst0  (hd : decode y.2.1 pc = .ok (.fconst 0, 1)) (hp : pc + 1 = pc1)  (kk : kW l G y d Φ Ψ k n pc1 L (.float 0 :: st) h) : kW l G y d Φ Ψ k n pc L (st) h := by
  subst hp
  refine k_pure ?_ kk
  intro p e R s m args below meth c H locs cells slots Q ls hx hb hl kk
  exact lv_fconst0 hx hb hd (kk ls hl)
theorem k_dconst0  (hd : decode y.2.1 pc = .ok (.dconst 0, 1)) (hp : pc + 1 = pc1)  (kk : kW l G y d Φ Ψ k n pc1 L (.double 0 :: st) h) : kW l G y d Φ Ψ k n pc L (st) h := by
  subst hp
  refine k_pure ?_ kk
  intro p e R s m args below meth c H locs cells slots Q ls hx hb hl kk
  exact lv_dconst0 hx hb hd (kk ls hl)
theorem k_null  (hd : decode y.2.1 pc = .ok (.aconst_null, 1)) (hp : pc + 1 = pc1)  (kk : kW l G y d Φ Ψ k n pc1 L (.null :: st) h) : kW l G y d Φ Ψ k n pc L (st) h := by
  subst hp
  refine k_pure ?_ kk
  intro p e R s m args below meth c H locs cells slots Q ls hx hb hl kk
  exact lv_null hx hb hd (kk ls hl)
theorem k_iload_n {i : Fin 4} {x : Int32} (hd : decode y.2.1 pc = .ok (.iload_n i, 1)) (hp : pc + 1 = pc1) (hL : L[(i : Nat)]? = some (some (.int x))) (kk : kW l G y d Φ Ψ k n pc1 L (.int x :: st) h) : kW l G y d Φ Ψ k n pc L (st) h := by
  subst hp
  refine k_pure ?_ kk
  intro p e R s m args below meth c H locs cells slots Q ls hx hb hl kk
  exact lv_iload_n hx hb hd rfl (klo hl hL) (kk ls hl)
theorem k_iload {i : Nat} {x : Int32} (hd : decode y.2.1 pc = .ok (.iload i, 2)) (hp : pc + 2 = pc1) (hL : L[i]? = some (some (.int x))) (kk : kW l G y d Φ Ψ k n pc1 L (.int x :: st) h) : kW l G y d Φ Ψ k n pc L (st) h := by
  subst hp
  refine k_pure ?_ kk
  intro p e R s m args below meth c H locs cells slots Q ls hx hb hl kk
  exact lv_iload hx hb hd (klo hl hL) (kk ls hl)
theorem k_lload_n {i : Fin 4} {x : Int64} (hd : decode y.2.1 pc = .ok (.lload_n i, 1)) (hp : pc + 1 = pc1) (hL : L[(i : Nat)]? = some (some (.long x))) (kk : kW l G y d Φ Ψ k n pc1 L (.long x :: st) h) : kW l G y d Φ Ψ k n pc L (st) h := by
  subst hp
  refine k_pure ?_ kk
  intro p e R s m args below meth c H locs cells slots Q ls hx hb hl kk
  exact lv_lload_n hx hb hd rfl (klo hl hL) (kk ls hl)
theorem k_lload {i : Nat} {x : Int64} (hd : decode y.2.1 pc = .ok (.lload i, 2)) (hp : pc + 2 = pc1) (hL : L[i]? = some (some (.long x))) (kk : kW l G y d Φ Ψ k n pc1 L (.long x :: st) h) : kW l G y d Φ Ψ k n pc L (st) h := by
  subst hp
  refine k_pure ?_ kk
  intro p e R s m args below meth c H locs cells slots Q ls hx hb hl kk
  exact lv_lload hx hb hd (klo hl hL) (kk ls hl)
theorem k_fload_n {i : Fin 4} {x : UInt32} (hd : decode y.2.1 pc = .ok (.fload_n i, 1)) (hp : pc + 1 = pc1) (hL : L[(i : Nat)]? = some (some (.float x))) (kk : kW l G y d Φ Ψ k n pc1 L (.float x :: st) h) : kW l G y d Φ Ψ k n pc L (st) h := by
  subst hp
  refine k_pure ?_ kk
  intro p e R s m args below meth c H locs cells slots Q ls hx hb hl kk
  exact lv_fload_n hx hb hd rfl (klo hl hL) (kk ls hl)
theorem k_fload {i : Nat} {x : UInt32} (hd : decode y.2.1 pc = .ok (.fload i, 2)) (hp : pc + 2 = pc1) (hL : L[i]? = some (some (.float x))) (kk : kW l G y d Φ Ψ k n pc1 L (.float x :: st) h) : kW l G y d Φ Ψ k n pc L (st) h := by
  subst hp
  refine k_pure ?_ kk
  intro p e R s m args below meth c H locs cells slots Q ls hx hb hl kk
  exact lv_fload hx hb hd (klo hl hL) (kk ls hl)
theorem k_dload_n {i : Fin 4} {x : UInt64} (hd : decode y.2.1 pc = .ok (.dload_n i, 1)) (hp : pc + 1 = pc1) (hL : L[(i : Nat)]? = some (some (.double x))) (kk : kW l G y d Φ Ψ k n pc1 L (.double x :: st) h) : kW l G y d Φ Ψ k n pc L (st) h := by
  subst hp
  refine k_pure ?_ kk
  intro p e R s m args below meth c H locs cells slots Q ls hx hb hl kk
  exact lv_dload_n hx hb hd rfl (klo hl hL) (kk ls hl)
theorem k_dload {i : Nat} {x : UInt64} (hd : decode y.2.1 pc = .ok (.dload i, 2)) (hp : pc + 2 = pc1) (hL : L[i]? = some (some (.double x))) (kk : kW l G y d Φ Ψ k n pc1 L (.double x :: st) h) : kW l G y d Φ Ψ k n pc L (st) h := by
  subst hp
  refine k_pure ?_ kk
  intro p e R s m args below meth c H locs cells slots Q ls hx hb hl kk
  exact lv_dload hx hb hd (klo hl hL) (kk ls hl)
theorem k_aload_n {i : Fin 4} {x : Nat} (hd : decode y.2.1 pc = .ok (.aload_n i, 1)) (hp : pc + 1 = pc1) (hL : L[(i : Nat)]? = some (some (.ref x))) (kk : kW l G y d Φ Ψ k n pc1 L (.ref x :: st) h) : kW l G y d Φ Ψ k n pc L (st) h := by
  subst hp
  refine k_pure ?_ kk
  intro p e R s m args below meth c H locs cells slots Q ls hx hb hl kk
  exact lv_aload_n hx hb hd rfl (klo hl hL) (kk ls hl)
theorem k_aload {i : Nat} {x : Nat} (hd : decode y.2.1 pc = .ok (.aload i, 2)) (hp : pc + 2 = pc1) (hL : L[i]? = some (some (.ref x))) (kk : kW l G y d Φ Ψ k n pc1 L (.ref x :: st) h) : kW l G y d Φ Ψ k n pc L (st) h := by
  subst hp
  refine k_pure ?_ kk
  intro p e R s m args below meth c H locs cells slots Q ls hx hb hl kk
  exact lv_aload hx hb hd (klo hl hL) (kk ls hl)
theorem k_aload_nN {i : Fin 4} (hd : decode y.2.1 pc = .ok (.aload_n i, 1)) (hp : pc + 1 = pc1) (hL : L[(i : Nat)]? = some (some .null)) (kk : kW l G y d Φ Ψ k n pc1 L (.null :: st) h) : kW l G y d Φ Ψ k n pc L (st) h := by
  subst hp
  refine k_pure ?_ kk
  intro p e R s m args below meth c H locs cells slots Q ls hx hb hl kk
  exact lv_aload_nN hx hb hd rfl (klo hl hL) (kk ls hl)
theorem k_aloadN {i : Nat} (hd : decode y.2.1 pc = .ok (.aload i, 2)) (hp : pc + 2 = pc1) (hL : L[i]? = some (some .null)) (kk : kW l G y d Φ Ψ k n pc1 L (.null :: st) h) : kW l G y d Φ Ψ k n pc L (st) h := by
  subst hp
  refine k_pure ?_ kk
  intro p e R s m args below meth c H locs cells slots Q ls hx hb hl kk
  exact lv_aloadN hx hb hd (klo hl hL) (kk ls hl)
theorem k_aload_nq {i : Fin 4} {r : Option Nat} (hd : decode y.2.1 pc = .ok (.aload_n i, 1)) (hp : pc + 1 = pc1) (hL : L[(i : Nat)]? = some (some (va_rf r))) (kk : kW l G y d Φ Ψ k n pc1 L (va_rf r :: st) h) : kW l G y d Φ Ψ k n pc L (st) h := by
  subst hp
  refine k_pure ?_ kk
  intro p e R s m args below meth c H locs cells slots Q ls hx hb hl kk
  cases r with
  | none => exact lv_aload_nN hx hb hd rfl (klo hl hL) (kk ls hl)
  | some x => exact lv_aload_n hx hb hd rfl (klo hl hL) (kk ls hl)
theorem k_aloadq {i : Nat} {r : Option Nat} (hd : decode y.2.1 pc = .ok (.aload i, 2)) (hp : pc + 2 = pc1) (hL : L[i]? = some (some (va_rf r))) (kk : kW l G y d Φ Ψ k n pc1 L (va_rf r :: st) h) : kW l G y d Φ Ψ k n pc L (st) h := by
  subst hp
  refine k_pure ?_ kk
  intro p e R s m args below meth c H locs cells slots Q ls hx hb hl kk
  cases r with
  | none => exact lv_aloadN hx hb hd (klo hl hL) (kk ls hl)
  | some x => exact lv_aload hx hb hd (klo hl hL) (kk ls hl)
theorem k_istore_n {i : Fin 4} {x : Int32} (hd : decode y.2.1 pc = .ok (.istore_n i, 1)) (hp : pc + 1 = pc1) (hn : (i : Nat) < y.2.2.1) (kk : kW l G y d Φ Ψ k n pc1 (kset1 L i (.int x)) st h) : kW l G y d Φ Ψ k n pc L (.int x :: st) h := by
  subst hp
  refine k_pure ?_ kk
  intro p e R s m args below meth c H locs cells slots Q ls hx hb hl kk
  exact lv_istore_n hx hb hd rfl hl hn rfl (fun ls' h6 => kk ls' (kset1_has h6))
theorem k_istore {i : Nat} {x : Int32} (hd : decode y.2.1 pc = .ok (.istore i, 2)) (hp : pc + 2 = pc1) (hn : i < y.2.2.1) (kk : kW l G y d Φ Ψ k n pc1 (kset1 L i (.int x)) st h) : kW l G y d Φ Ψ k n pc L (.int x :: st) h := by
  subst hp
  refine k_pure ?_ kk
  intro p e R s m args below meth c H locs cells slots Q ls hx hb hl kk
  exact lv_istore hx hb hd hl hn rfl (fun ls' h6 => kk ls' (kset1_has h6))
theorem k_lstore_n {i : Fin 4} {x : Int64} (hd : decode y.2.1 pc = .ok (.lstore_n i, 1)) (hp : pc + 1 = pc1) (hn : (i : Nat) + 1 < y.2.2.1) (kk : kW l G y d Φ Ψ k n pc1 (kset2 L i (.long x)) st h) : kW l G y d Φ Ψ k n pc L (.long x :: st) h := by
  subst hp
  refine k_pure ?_ kk
  intro p e R s m args below meth c H locs cells slots Q ls hx hb hl kk
  exact lv_lstore_n hx hb hd rfl hl hn rfl (fun ls' h6 => kk ls' (kset2_has h6))
theorem k_lstore {i : Nat} {x : Int64} (hd : decode y.2.1 pc = .ok (.lstore i, 2)) (hp : pc + 2 = pc1) (hn : i + 1 < y.2.2.1) (kk : kW l G y d Φ Ψ k n pc1 (kset2 L i (.long x)) st h) : kW l G y d Φ Ψ k n pc L (.long x :: st) h := by
  subst hp
  refine k_pure ?_ kk
  intro p e R s m args below meth c H locs cells slots Q ls hx hb hl kk
  exact lv_lstore hx hb hd hl hn rfl (fun ls' h6 => kk ls' (kset2_has h6))
theorem k_fstore_n {i : Fin 4} {x : UInt32} (hd : decode y.2.1 pc = .ok (.fstore_n i, 1)) (hp : pc + 1 = pc1) (hn : (i : Nat) < y.2.2.1) (kk : kW l G y d Φ Ψ k n pc1 (kset1 L i (.float x)) st h) : kW l G y d Φ Ψ k n pc L (.float x :: st) h := by
  subst hp
  refine k_pure ?_ kk
  intro p e R s m args below meth c H locs cells slots Q ls hx hb hl kk
  exact lv_fstore_n hx hb hd rfl hl hn rfl (fun ls' h6 => kk ls' (kset1_has h6))
theorem k_fstore {i : Nat} {x : UInt32} (hd : decode y.2.1 pc = .ok (.fstore i, 2)) (hp : pc + 2 = pc1) (hn : i < y.2.2.1) (kk : kW l G y d Φ Ψ k n pc1 (kset1 L i (.float x)) st h) : kW l G y d Φ Ψ k n pc L (.float x :: st) h := by
  subst hp
  refine k_pure ?_ kk
  intro p e R s m args below meth c H locs cells slots Q ls hx hb hl kk
  exact lv_fstore hx hb hd hl hn rfl (fun ls' h6 => kk ls' (kset1_has h6))
theorem k_dstore_n {i : Fin 4} {x : UInt64} (hd : decode y.2.1 pc = .ok (.dstore_n i, 1)) (hp : pc + 1 = pc1) (hn : (i : Nat) + 1 < y.2.2.1) (kk : kW l G y d Φ Ψ k n pc1 (kset2 L i (.double x)) st h) : kW l G y d Φ Ψ k n pc L (.double x :: st) h := by
  subst hp
  refine k_pure ?_ kk
  intro p e R s m args below meth c H locs cells slots Q ls hx hb hl kk
  exact lv_dstore_n hx hb hd rfl hl hn rfl (fun ls' h6 => kk ls' (kset2_has h6))
theorem k_dstore {i : Nat} {x : UInt64} (hd : decode y.2.1 pc = .ok (.dstore i, 2)) (hp : pc + 2 = pc1) (hn : i + 1 < y.2.2.1) (kk : kW l G y d Φ Ψ k n pc1 (kset2 L i (.double x)) st h) : kW l G y d Φ Ψ k n pc L (.double x :: st) h := by
  subst hp
  refine k_pure ?_ kk
  intro p e R s m args below meth c H locs cells slots Q ls hx hb hl kk
  exact lv_dstore hx hb hd hl hn rfl (fun ls' h6 => kk ls' (kset2_has h6))
theorem k_astore_n {i : Fin 4} {x : Nat} (hd : decode y.2.1 pc = .ok (.astore_n i, 1)) (hp : pc + 1 = pc1) (hn : (i : Nat) < y.2.2.1) (kk : kW l G y d Φ Ψ k n pc1 (kset1 L i (.ref x)) st h) : kW l G y d Φ Ψ k n pc L (.ref x :: st) h := by
  subst hp
  refine k_pure ?_ kk
  intro p e R s m args below meth c H locs cells slots Q ls hx hb hl kk
  exact lv_astore_n hx hb hd rfl hl hn rfl (fun ls' h6 => kk ls' (kset1_has h6))
theorem k_astore {i : Nat} {x : Nat} (hd : decode y.2.1 pc = .ok (.astore i, 2)) (hp : pc + 2 = pc1) (hn : i < y.2.2.1) (kk : kW l G y d Φ Ψ k n pc1 (kset1 L i (.ref x)) st h) : kW l G y d Φ Ψ k n pc L (.ref x :: st) h := by
  subst hp
  refine k_pure ?_ kk
  intro p e R s m args below meth c H locs cells slots Q ls hx hb hl kk
  exact lv_astore hx hb hd hl hn rfl (fun ls' h6 => kk ls' (kset1_has h6))
theorem k_astore_nN {i : Fin 4} (hd : decode y.2.1 pc = .ok (.astore_n i, 1)) (hp : pc + 1 = pc1) (hn : (i : Nat) < y.2.2.1) (kk : kW l G y d Φ Ψ k n pc1 (kset1 L i (.null)) st h) : kW l G y d Φ Ψ k n pc L (.null :: st) h := by
  subst hp
  refine k_pure ?_ kk
  intro p e R s m args below meth c H locs cells slots Q ls hx hb hl kk
  exact lv_astore_nN hx hb hd rfl hl hn rfl (fun ls' h6 => kk ls' (kset1_has h6))
theorem k_astoreN {i : Nat} (hd : decode y.2.1 pc = .ok (.astore i, 2)) (hp : pc + 2 = pc1) (hn : i < y.2.2.1) (kk : kW l G y d Φ Ψ k n pc1 (kset1 L i (.null)) st h) : kW l G y d Φ Ψ k n pc L (.null :: st) h := by
  subst hp
  refine k_pure ?_ kk
  intro p e R s m args below meth c H locs cells slots Q ls hx hb hl kk
  exact lv_astoreN hx hb hd hl hn rfl (fun ls' h6 => kk ls' (kset1_has h6))
theorem k_iinc {i : Nat} {z a : Int} (hd : decode y.2.1 pc = .ok (.iinc i z, 3)) (hp : pc + 3 = pc1) (hL : L[i]? = some (some (.int (iI a)))) (hn : i < y.2.2.1) (kk : kW l G y d Φ Ψ k n pc1 (kset1 L i (.int (iI (a + z)))) st h) : kW l G y d Φ Ψ k n pc L st h := by
  subst hp
  refine k_pure ?_ kk
  intro p e R s m args below meth c H locs cells slots Q ls hx hb hl kk
  obtain ⟨j, hj⟩ := List.getElem?_of_mem ((kpr_mem L 0 i (.int (iI a))).mpr ⟨Nat.zero_le _, hL⟩)
  exact lv_iinc hx hb hd hl hj (iI_add a z) hn rfl (fun ls' h6 => kk ls' (kset1_has h6))
theorem k_iadd {a b : Int} (hd : decode y.2.1 pc = .ok (.iadd, 1)) (hp : pc + 1 = pc1)  (kk : kW l G y d Φ Ψ k n pc1 L (.int (iI (a + b)) :: st) h) : kW l G y d Φ Ψ k n pc L (.int (iI b) :: .int (iI a) :: st) h := by
  subst hp
  refine k_pure ?_ kk
  intro p e R s m args below meth c H locs cells slots Q ls hx hb hl kk
  exact lv_iadd hx hb hd (by rw [iI_add]; exact kk ls hl)
theorem k_isub {a b : Int} (hd : decode y.2.1 pc = .ok (.isub, 1)) (hp : pc + 1 = pc1)  (kk : kW l G y d Φ Ψ k n pc1 L (.int (iI (a - b)) :: st) h) : kW l G y d Φ Ψ k n pc L (.int (iI b) :: .int (iI a) :: st) h := by
  subst hp
  refine k_pure ?_ kk
  intro p e R s m args below meth c H locs cells slots Q ls hx hb hl kk
  exact lv_isub hx hb hd (by rw [iI_sub]; exact kk ls hl)
theorem k_imul {a b : Int} (hd : decode y.2.1 pc = .ok (.imul, 1)) (hp : pc + 1 = pc1)  (kk : kW l G y d Φ Ψ k n pc1 L (.int (iI (a * b)) :: st) h) : kW l G y d Φ Ψ k n pc L (.int (iI b) :: .int (iI a) :: st) h := by
  subst hp
  refine k_pure ?_ kk
  intro p e R s m args below meth c H locs cells slots Q ls hx hb hl kk
  exact lv_imul hx hb hd (by rw [iI_mul]; exact kk ls hl)
theorem k_ineg {a : Int} (hd : decode y.2.1 pc = .ok (.ineg, 1)) (hp : pc + 1 = pc1)  (kk : kW l G y d Φ Ψ k n pc1 L (.int (iI (-a)) :: st) h) : kW l G y d Φ Ψ k n pc L (.int (iI a) :: st) h := by
  subst hp
  refine k_pure ?_ kk
  intro p e R s m args below meth c H locs cells slots Q ls hx hb hl kk
  exact lv_ineg hx hb hd (by rw [iI_neg]; exact kk ls hl)
theorem k_iand {a b : Int32} (hd : decode y.2.1 pc = .ok (.iand, 1)) (hp : pc + 1 = pc1)  (kk : kW l G y d Φ Ψ k n pc1 L (.int (a &&& b) :: st) h) : kW l G y d Φ Ψ k n pc L (.int b :: .int a :: st) h := by
  subst hp
  refine k_pure ?_ kk
  intro p e R s m args below meth c H locs cells slots Q ls hx hb hl kk
  exact lv_iand hx hb hd (kk ls hl)
theorem k_ior {a b : Int32} (hd : decode y.2.1 pc = .ok (.ior, 1)) (hp : pc + 1 = pc1)  (kk : kW l G y d Φ Ψ k n pc1 L (.int (a ||| b) :: st) h) : kW l G y d Φ Ψ k n pc L (.int b :: .int a :: st) h := by
  subst hp
  refine k_pure ?_ kk
  intro p e R s m args below meth c H locs cells slots Q ls hx hb hl kk
  exact lv_ior hx hb hd (kk ls hl)
theorem k_ixor {a b : Int32} (hd : decode y.2.1 pc = .ok (.ixor, 1)) (hp : pc + 1 = pc1)  (kk : kW l G y d Φ Ψ k n pc1 L (.int (a ^^^ b) :: st) h) : kW l G y d Φ Ψ k n pc L (.int b :: .int a :: st) h := by
  subst hp
  refine k_pure ?_ kk
  intro p e R s m args below meth c H locs cells slots Q ls hx hb hl kk
  exact lv_ixor hx hb hd (kk ls hl)
theorem k_ishl {a b : Int32} (hd : decode y.2.1 pc = .ok (.ishl, 1)) (hp : pc + 1 = pc1)  (kk : kW l G y d Φ Ψ k n pc1 L (.int (a <<< (b &&& 31)) :: st) h) : kW l G y d Φ Ψ k n pc L (.int b :: .int a :: st) h := by
  subst hp
  refine k_pure ?_ kk
  intro p e R s m args below meth c H locs cells slots Q ls hx hb hl kk
  exact lv_ishl hx hb hd (kk ls hl)
theorem k_ishr {a b : Int32} (hd : decode y.2.1 pc = .ok (.ishr, 1)) (hp : pc + 1 = pc1)  (kk : kW l G y d Φ Ψ k n pc1 L (.int (a >>> (b &&& 31)) :: st) h) : kW l G y d Φ Ψ k n pc L (.int b :: .int a :: st) h := by
  subst hp
  refine k_pure ?_ kk
  intro p e R s m args below meth c H locs cells slots Q ls hx hb hl kk
  exact lv_ishr hx hb hd (kk ls hl)
theorem k_iaddR {a b : Int32} (hd : decode y.2.1 pc = .ok (.iadd, 1)) (hp : pc + 1 = pc1)  (kk : kW l G y d Φ Ψ k n pc1 L (.int (a + b) :: st) h) : kW l G y d Φ Ψ k n pc L (.int b :: .int a :: st) h := by
  subst hp
  refine k_pure ?_ kk
  intro p e R s m args below meth c H locs cells slots Q ls hx hb hl kk
  exact lv_iadd hx hb hd (kk ls hl)
theorem k_isubR {a b : Int32} (hd : decode y.2.1 pc = .ok (.isub, 1)) (hp : pc + 1 = pc1)  (kk : kW l G y d Φ Ψ k n pc1 L (.int (a - b) :: st) h) : kW l G y d Φ Ψ k n pc L (.int b :: .int a :: st) h := by
  subst hp
  refine k_pure ?_ kk
  intro p e R s m args below meth c H locs cells slots Q ls hx hb hl kk
  exact lv_isub hx hb hd (kk ls hl)
theorem k_iushr {a b : Int32} (hd : decode y.2.1 pc = .ok (.iushr, 1)) (hp : pc + 1 = pc1)  (kk : kW l G y d Φ Ψ k n pc1 L (.int (a.toUInt32 >>> (b.toUInt32 &&& Int32.toUInt32 31)).toInt32 :: st) h) : kW l G y d Φ Ψ k n pc L (.int b :: .int a :: st) h := by
  subst hp
  refine k_pure ?_ kk
  intro p e R s m args below meth c H locs cells slots Q ls hx hb hl kk
  exact lv_iushr hx hb hd rfl (kk ls hl)
theorem k_i2l {a : Int32} (hd : decode y.2.1 pc = .ok (.i2l, 1)) (hp : pc + 1 = pc1)  (kk : kW l G y d Φ Ψ k n pc1 L (.long a.toInt64 :: st) h) : kW l G y d Φ Ψ k n pc L (.int a :: st) h := by
  subst hp
  refine k_pure ?_ kk
  intro p e R s m args below meth c H locs cells slots Q ls hx hb hl kk
  exact lv_i2l hx hb hd rfl (kk ls hl)
theorem k_i2c {a : Int32} (hd : decode y.2.1 pc = .ok (.i2c, 1)) (hp : pc + 1 = pc1)  (kk : kW l G y d Φ Ψ k n pc1 L (.int (a.toUInt32 % 65536).toInt32 :: st) h) : kW l G y d Φ Ψ k n pc L (.int a :: st) h := by
  subst hp
  refine k_pure ?_ kk
  intro p e R s m args below meth c H locs cells slots Q ls hx hb hl kk
  exact lv_i2c hx hb hd rfl (kk ls hl)
theorem k_i2d {a : Int32} (hd : decode y.2.1 pc = .ok (.i2d, 1)) (hp : pc + 1 = pc1)  (kk : kW l G y d Φ Ψ k n pc1 L (.double (FP.i2d a) :: st) h) : kW l G y d Φ Ψ k n pc L (.int a :: st) h := by
  subst hp
  refine k_pure ?_ kk
  intro p e R s m args below meth c H locs cells slots Q ls hx hb hl kk
  exact lv_i2d hx hb hd (kk ls hl)
theorem k_i2f {a : Int32} (hd : decode y.2.1 pc = .ok (.i2f, 1)) (hp : pc + 1 = pc1)  (kk : kW l G y d Φ Ψ k n pc1 L (.float (FP.i2f a) :: st) h) : kW l G y d Φ Ψ k n pc L (.int a :: st) h := by
  subst hp
  refine k_pure ?_ kk
  intro p e R s m args below meth c H locs cells slots Q ls hx hb hl kk
  exact lv_i2f hx hb hd (kk ls hl)
theorem k_ladd {a b : Int64} (hd : decode y.2.1 pc = .ok (.ladd, 1)) (hp : pc + 1 = pc1)  (kk : kW l G y d Φ Ψ k n pc1 L (.long (a + b) :: st) h) : kW l G y d Φ Ψ k n pc L (.long b :: .long a :: st) h := by
  subst hp
  refine k_pure ?_ kk
  intro p e R s m args below meth c H locs cells slots Q ls hx hb hl kk
  exact lv_ladd hx hb hd (kk ls hl)
theorem k_lmul {a b : Int64} (hd : decode y.2.1 pc = .ok (.lmul, 1)) (hp : pc + 1 = pc1)  (kk : kW l G y d Φ Ψ k n pc1 L (.long (a * b) :: st) h) : kW l G y d Φ Ψ k n pc L (.long b :: .long a :: st) h := by
  subst hp
  refine k_pure ?_ kk
  intro p e R s m args below meth c H locs cells slots Q ls hx hb hl kk
  exact lv_lmul hx hb hd (kk ls hl)
theorem k_ddiv {a b : UInt64} (hd : decode y.2.1 pc = .ok (.ddiv, 1)) (hp : pc + 1 = pc1) (hne : vf_n64 (FP.ddiv a b)) (kk : kW l G y d Φ Ψ k n pc1 L (.double (FP.ddiv a b) :: st) h) : kW l G y d Φ Ψ k n pc L (.double b :: .double a :: st) h := by
  subst hp
  refine k_pure ?_ kk
  intro p e R s m args below meth c H locs cells slots Q ls hx hb hl kk
  exact lv_ddiv hx hb hd hne (kk ls hl)
theorem k_fdiv {a b : UInt32} (hd : decode y.2.1 pc = .ok (.fdiv, 1)) (hp : pc + 1 = pc1) (hne : vf_n32 (FP.fdiv a b)) (kk : kW l G y d Φ Ψ k n pc1 L (.float (FP.fdiv a b) :: st) h) : kW l G y d Φ Ψ k n pc L (.float b :: .float a :: st) h := by
  subst hp
  refine k_pure ?_ kk
  intro p e R s m args below meth c H locs cells slots Q ls hx hb hl kk
  exact lv_fdiv hx hb hd hne (kk ls hl)
theorem k_f2d {a : UInt32} (hd : decode y.2.1 pc = .ok (.f2d, 1)) (hp : pc + 1 = pc1) (hne : vf_n64 (FP.f2d a)) (kk : kW l G y d Φ Ψ k n pc1 L (.double (FP.f2d a) :: st) h) : kW l G y d Φ Ψ k n pc L (.float a :: st) h := by
  subst hp
  refine k_pure ?_ kk
  intro p e R s m args below meth c H locs cells slots Q ls hx hb hl kk
  exact lv_f2d hx hb hd hne (kk ls hl)
theorem k_dcmp {a b : UInt64} {op : CmpOp} (hd : decode y.2.1 pc = .ok (.dcmp op, 1)) (hp : pc + 1 = pc1)  (kk : kW l G y d Φ Ψ k n pc1 L (.int (Op.cmpValue (FP.dcmp a b) op) :: st) h) : kW l G y d Φ Ψ k n pc L (.double b :: .double a :: st) h := by
  subst hp
  refine k_pure ?_ kk
  intro p e R s m args below meth c H locs cells slots Q ls hx hb hl kk
  exact lv_dcmp hx hb hd (kk ls hl)
theorem k_fcmp {a b : UInt32} {op : CmpOp} (hd : decode y.2.1 pc = .ok (.fcmp op, 1)) (hp : pc + 1 = pc1)  (kk : kW l G y d Φ Ψ k n pc1 L (.int (Op.cmpValue (FP.fcmp a b) op) :: st) h) : kW l G y d Φ Ψ k n pc L (.float b :: .float a :: st) h := by
  subst hp
  refine k_pure ?_ kk
  intro p e R s m args below meth c H locs cells slots Q ls hx hb hl kk
  exact lv_fcmp hx hb hd (kk ls hl)
theorem k_dup {v : Value} (hd : decode y.2.1 pc = .ok (.dup, 1)) (hp : pc + 1 = pc1) (hv : v.category = 1) (kk : kW l G y d Φ Ψ k n pc1 L (v :: v :: st) h) : kW l G y d Φ Ψ k n pc L (v :: st) h := by
  subst hp
  refine k_pure ?_ kk
  intro p e R s m args below meth c H locs cells slots Q ls hx hb hl kk
  exact lv_dup hx hb hd hv (kk ls hl)
theorem k_pop {v : Value} (hd : decode y.2.1 pc = .ok (.pop, 1)) (hp : pc + 1 = pc1) (hv : v.category = 1) (kk : kW l G y d Φ Ψ k n pc1 L (st) h) : kW l G y d Φ Ψ k n pc L (v :: st) h := by
  subst hp
  refine k_pure ?_ kk
  intro p e R s m args below meth c H locs cells slots Q ls hx hb hl kk
  exact lv_pop hx hb hd hv (kk ls hl)
theorem k_dup_x1 {v u : Value} (hd : decode y.2.1 pc = .ok (.dup_x1, 1)) (hp : pc + 1 = pc1) (hv : v.category = 1) (hu : u.category = 1) (kk : kW l G y d Φ Ψ k n pc1 L (v :: u :: v :: st) h) : kW l G y d Φ Ψ k n pc L (v :: u :: st) h := by
  subst hp
  refine k_pure ?_ kk
  intro p e R s m args below meth c H locs cells slots Q ls hx hb hl kk
  exact lv_dup_x1 hx hb hd hv hu (kk ls hl)
theorem k_dup2 {v u : Value} (hd : decode y.2.1 pc = .ok (.dup2, 1)) (hp : pc + 1 = pc1) (hv : v.category = 1) (hu : u.category = 1) (kk : kW l G y d Φ Ψ k n pc1 L (v :: u :: v :: u :: st) h) : kW l G y d Φ Ψ k n pc L (v :: u :: st) h := by
  subst hp
  refine k_pure ?_ kk
  intro p e R s m args below meth c H locs cells slots Q ls hx hb hl kk
  exact lv_dup2_11 hx hb hd hv hu (kk ls hl)
theorem k_val {v v' : Value} (e : v = v') (kk : kW l G y d Φ Ψ k n pc L (v' :: st) h) : kW l G y d Φ Ψ k n pc L (v :: st) h := by
  subst e; exact kk
theorem k_st {st' : List Value} (e : st = st') (kk : kW l G y d Φ Ψ k n pc L st' h) : kW l G y d Φ Ψ k n pc L st h := by
  subst e; exact kk
theorem k_loc {L' : List (Option Value)} (e : L = L') (kk : kW l G y d Φ Ψ k n pc L' st h) : kW l G y d Φ Ψ k n pc L st h := by
  subst e; exact kk
theorem k_hp {h' : kAH} (e : h = h') (kk : kW l G y d Φ Ψ k n pc L st h') : kW l G y d Φ Ψ k n pc L st h := by
  subst e; exact kk
theorem k_post {Φ' : Option Value → kAH → Prop} {Ψ' : String → kAH → Prop} (h1 : ∀ v h', Φ' v h' → Φ v h') (h2 : ∀ E h', Ψ' E h' → Ψ E h') {mc ms : Nat} {as : List Value} (kk : kC l G y d mc ms as h Φ' Ψ') : kC l G y d mc ms as h Φ Ψ := by
  intro p e ha hc hk s m args below hf happ hP hT
  obtain ⟨n9, o, g1, g2, g3, g4⟩ := kk p e ha hc hk s m args below hf happ hP hT
  refine ⟨n9, o, g1, g2, g3, ?_⟩
  rcases g4 with ⟨⟨⟨v, h', e1, e2, e3⟩, e4⟩, g5⟩ | ⟨q, e0, E, ce, LL, ⟨⟨h', e1, e2⟩, e3⟩, g5⟩
  · exact Or.inl ⟨⟨⟨v, h', e1, h1 v h' e2, e3⟩, e4⟩, g5⟩
  · exact Or.inr ⟨q, e0, E, ce, LL, ⟨⟨h', h2 E h' e1, e2⟩, e3⟩, g5⟩
theorem k_if_eq {a off : Int} {tgt : Nat} (hd : decode y.2.1 pc = .ok (.ifCond .eq off, 3)) (hp : pc + 3 = pc1) (ht : (pc : Int) + off = (tgt : Int)) (ha : -2147483648 ≤ a ∧ a < 2147483648)
    (kt : a = 0 → kW l G y d Φ Ψ k n tgt L st h) (kf : ¬ a = 0 → kW l G y d Φ Ψ k n pc1 L st h) : kW l G y d Φ Ψ k n pc L (.int (iI a) :: st) h := by
  subst hp
  intro p e R s m args below meth c H locs cells slots ls F h1 h2 h3 h4 h5
  refine lv_if_eq F.1 F.2.1 hd ht (fun q => kt ((iI_eq ha (⟨by omega, by omega⟩ : (-2147483648 : Int) ≤ 0 ∧ (0 : Int) < 2147483648)).mp q) p e R s m args below meth c H locs cells slots ls F h1 h2 h3 h4 h5) (fun q => kf (fun z => q ((iI_eq ha (⟨by omega, by omega⟩ : (-2147483648 : Int) ≤ 0 ∧ (0 : Int) < 2147483648)).mpr z)) p e R s m args below meth c H locs cells slots ls F h1 h2 h3 h4 h5)
theorem k_if_lt {a off : Int} {tgt : Nat} (hd : decode y.2.1 pc = .ok (.ifCond .lt off, 3)) (hp : pc + 3 = pc1) (ht : (pc : Int) + off = (tgt : Int)) (ha : -2147483648 ≤ a ∧ a < 2147483648)
    (kt : a < 0 → kW l G y d Φ Ψ k n tgt L st h) (kf : ¬ a < 0 → kW l G y d Φ Ψ k n pc1 L st h) : kW l G y d Φ Ψ k n pc L (.int (iI a) :: st) h := by
  subst hp
  intro p e R s m args below meth c H locs cells slots ls F h1 h2 h3 h4 h5
  refine lv_if_lt F.1 F.2.1 hd ht (fun q => kt ((iI_lt ha (⟨by omega, by omega⟩ : (-2147483648 : Int) ≤ 0 ∧ (0 : Int) < 2147483648)).mp q) p e R s m args below meth c H locs cells slots ls F h1 h2 h3 h4 h5) (fun q => kf (fun z => q ((iI_lt ha (⟨by omega, by omega⟩ : (-2147483648 : Int) ≤ 0 ∧ (0 : Int) < 2147483648)).mpr z)) p e R s m args below meth c H locs cells slots ls F h1 h2 h3 h4 h5)
theorem k_if_le {a off : Int} {tgt : Nat} (hd : decode y.2.1 pc = .ok (.ifCond .le off, 3)) (hp : pc + 3 = pc1) (ht : (pc : Int) + off = (tgt : Int)) (ha : -2147483648 ≤ a ∧ a < 2147483648)
    (kt : a ≤ 0 → kW l G y d Φ Ψ k n tgt L st h) (kf : ¬ a ≤ 0 → kW l G y d Φ Ψ k n pc1 L st h) : kW l G y d Φ Ψ k n pc L (.int (iI a) :: st) h := by
  subst hp
  intro p e R s m args below meth c H locs cells slots ls F h1 h2 h3 h4 h5
  refine lv_if_le F.1 F.2.1 hd ht (fun q => kt ((iI_le ha (⟨by omega, by omega⟩ : (-2147483648 : Int) ≤ 0 ∧ (0 : Int) < 2147483648)).mp q) p e R s m args below meth c H locs cells slots ls F h1 h2 h3 h4 h5) (fun q => kf (fun z => q ((iI_le ha (⟨by omega, by omega⟩ : (-2147483648 : Int) ≤ 0 ∧ (0 : Int) < 2147483648)).mpr z)) p e R s m args below meth c H locs cells slots ls F h1 h2 h3 h4 h5)
theorem k_if_ne {a off : Int} {tgt : Nat} (hd : decode y.2.1 pc = .ok (.ifCond .ne off, 3)) (hp : pc + 3 = pc1) (ht : (pc : Int) + off = (tgt : Int)) (ha : -2147483648 ≤ a ∧ a < 2147483648)
    (kt : ¬ a = 0 → kW l G y d Φ Ψ k n tgt L st h) (kf : a = 0 → kW l G y d Φ Ψ k n pc1 L st h) : kW l G y d Φ Ψ k n pc L (.int (iI a) :: st) h := by
  subst hp
  intro p e R s m args below meth c H locs cells slots ls F h1 h2 h3 h4 h5
  exact lv_if_ne F.1 F.2.1 hd ht (fun q => kt (fun z => q ((iI_eq ha (⟨by omega, by omega⟩ : (-2147483648 : Int) ≤ 0 ∧ (0 : Int) < 2147483648)).mpr z)) p e R s m args below meth c H locs cells slots ls F h1 h2 h3 h4 h5) (fun q => kf ((iI_eq ha (⟨by omega, by omega⟩ : (-2147483648 : Int) ≤ 0 ∧ (0 : Int) < 2147483648)).mp (by first | exact q | exact Classical.not_not.mp q)) p e R s m args below meth c H locs cells slots ls F h1 h2 h3 h4 h5)
theorem k_if_ge {a off : Int} {tgt : Nat} (hd : decode y.2.1 pc = .ok (.ifCond .ge off, 3)) (hp : pc + 3 = pc1) (ht : (pc : Int) + off = (tgt : Int)) (ha : -2147483648 ≤ a ∧ a < 2147483648)
    (kt : 0 ≤ a → kW l G y d Φ Ψ k n tgt L st h) (kf : a < 0 → kW l G y d Φ Ψ k n pc1 L st h) : kW l G y d Φ Ψ k n pc L (.int (iI a) :: st) h := by
  subst hp
  intro p e R s m args below meth c H locs cells slots ls F h1 h2 h3 h4 h5
  have q1 := iI_le (⟨by omega, by omega⟩ : (-2147483648 : Int) ≤ 0 ∧ (0 : Int) < 2147483648) ha
  have q2 := iI_lt ha (⟨by omega, by omega⟩ : (-2147483648 : Int) ≤ 0 ∧ (0 : Int) < 2147483648)
  refine lv_if_ge F.1 F.2.1 hd ht (fun q => kt (by first | exact q1.mp q | exact Int.not_lt.mp (fun z => q (q2.mpr z)) | exact Int.not_le.mp (fun z => q (q2.mpr z))) p e R s m args below meth c H locs cells slots ls F h1 h2 h3 h4 h5) (fun q => kf (by first | exact q2.mp q | exact Int.not_le.mp (fun z => q (q1.mpr z)) | exact Int.not_lt.mp (fun z => q (q1.mpr z)) | exact q2.mp (by first | exact Int32.not_le.mp q | exact Int32.not_lt.mp q)) p e R s m args below meth c H locs cells slots ls F h1 h2 h3 h4 h5)
theorem k_if_gt {a off : Int} {tgt : Nat} (hd : decode y.2.1 pc = .ok (.ifCond .gt off, 3)) (hp : pc + 3 = pc1) (ht : (pc : Int) + off = (tgt : Int)) (ha : -2147483648 ≤ a ∧ a < 2147483648)
    (kt : 0 < a → kW l G y d Φ Ψ k n tgt L st h) (kf : a ≤ 0 → kW l G y d Φ Ψ k n pc1 L st h) : kW l G y d Φ Ψ k n pc L (.int (iI a) :: st) h := by
  subst hp
  intro p e R s m args below meth c H locs cells slots ls F h1 h2 h3 h4 h5
  have q1 := iI_lt (⟨by omega, by omega⟩ : (-2147483648 : Int) ≤ 0 ∧ (0 : Int) < 2147483648) ha
  have q2 := iI_le ha (⟨by omega, by omega⟩ : (-2147483648 : Int) ≤ 0 ∧ (0 : Int) < 2147483648)
  refine lv_if_gt F.1 F.2.1 hd ht (fun q => kt (by first | exact q1.mp q | exact Int.not_lt.mp (fun z => q (q2.mpr z)) | exact Int.not_le.mp (fun z => q (q2.mpr z))) p e R s m args below meth c H locs cells slots ls F h1 h2 h3 h4 h5) (fun q => kf (by first | exact q2.mp q | exact Int.not_le.mp (fun z => q (q1.mpr z)) | exact Int.not_lt.mp (fun z => q (q1.mpr z)) | exact q2.mp (by first | exact Int32.not_le.mp q | exact Int32.not_lt.mp q)) p e R s m args below meth c H locs cells slots ls F h1 h2 h3 h4 h5)
theorem k_icmp_eq {a b off : Int} {tgt : Nat} (hd : decode y.2.1 pc = .ok (.if_icmp .eq off, 3)) (hp : pc + 3 = pc1) (ht : (pc : Int) + off = (tgt : Int)) (ha : -2147483648 ≤ a ∧ a < 2147483648) (hb : -2147483648 ≤ b ∧ b < 2147483648)
    (kt : a = b → kW l G y d Φ Ψ k n tgt L st h) (kf : ¬ a = b → kW l G y d Φ Ψ k n pc1 L st h) : kW l G y d Φ Ψ k n pc L (.int (iI b) :: .int (iI a) :: st) h := by
  subst hp
  intro p e R s m args below meth c H locs cells slots ls F h1 h2 h3 h4 h5
  have e1 := iI_eq ha hb
  have e2 := iI_lt ha hb
  have e3 := iI_le ha hb
  have e4 := iI_lt hb ha
  have e5 := iI_le hb ha
  refine lv_icmp_eq F.1 F.2.1 hd ht (fun q => kt ?_ p e R s m args below meth c H locs cells slots ls F h1 h2 h3 h4 h5) (fun q => kf ?_ p e R s m args below meth c H locs cells slots ls F h1 h2 h3 h4 h5)
  · first | exact e1.mp q | exact e2.mp q | exact e3.mp q | exact e4.mp q | exact e5.mp q | exact fun z => q (e1.mpr z)
  · first | exact fun z => q (e1.mpr z) | exact e1.mp q | exact e1.mp (Classical.not_not.mp q) | exact e2.mp q | exact e3.mp q | exact e4.mp q | exact e5.mp q | exact Int.not_lt.mp (fun z => q (e2.mpr z)) | exact Int.not_le.mp (fun z => q (e3.mpr z)) | exact Int.not_lt.mp (fun z => q (e4.mpr z)) | exact Int.not_le.mp (fun z => q (e5.mpr z))
theorem k_icmp_ne {a b off : Int} {tgt : Nat} (hd : decode y.2.1 pc = .ok (.if_icmp .ne off, 3)) (hp : pc + 3 = pc1) (ht : (pc : Int) + off = (tgt : Int)) (ha : -2147483648 ≤ a ∧ a < 2147483648) (hb : -2147483648 ≤ b ∧ b < 2147483648)
    (kt : ¬ a = b → kW l G y d Φ Ψ k n tgt L st h) (kf : a = b → kW l G y d Φ Ψ k n pc1 L st h) : kW l G y d Φ Ψ k n pc L (.int (iI b) :: .int (iI a) :: st) h := by
  subst hp
  intro p e R s m args below meth c H locs cells slots ls F h1 h2 h3 h4 h5
  have e1 := iI_eq ha hb
  have e2 := iI_lt ha hb
  have e3 := iI_le ha hb
  have e4 := iI_lt hb ha
  have e5 := iI_le hb ha
  refine lv_icmp_ne F.1 F.2.1 hd ht (fun q => kt ?_ p e R s m args below meth c H locs cells slots ls F h1 h2 h3 h4 h5) (fun q => kf ?_ p e R s m args below meth c H locs cells slots ls F h1 h2 h3 h4 h5)
  · first | exact e1.mp q | exact e2.mp q | exact e3.mp q | exact e4.mp q | exact e5.mp q | exact fun z => q (e1.mpr z)
  · first | exact fun z => q (e1.mpr z) | exact e1.mp q | exact e1.mp (Classical.not_not.mp q) | exact e2.mp q | exact e3.mp q | exact e4.mp q | exact e5.mp q | exact Int.not_lt.mp (fun z => q (e2.mpr z)) | exact Int.not_le.mp (fun z => q (e3.mpr z)) | exact Int.not_lt.mp (fun z => q (e4.mpr z)) | exact Int.not_le.mp (fun z => q (e5.mpr z))
theorem k_icmp_lt {a b off : Int} {tgt : Nat} (hd : decode y.2.1 pc = .ok (.if_icmp .lt off, 3)) (hp : pc + 3 = pc1) (ht : (pc : Int) + off = (tgt : Int)) (ha : -2147483648 ≤ a ∧ a < 2147483648) (hb : -2147483648 ≤ b ∧ b < 2147483648)
    (kt : a < b → kW l G y d Φ Ψ k n tgt L st h) (kf : b ≤ a → kW l G y d Φ Ψ k n pc1 L st h) : kW l G y d Φ Ψ k n pc L (.int (iI b) :: .int (iI a) :: st) h := by
  subst hp
  intro p e R s m args below meth c H locs cells slots ls F h1 h2 h3 h4 h5
  have e1 := iI_eq ha hb
  have e2 := iI_lt ha hb
  have e3 := iI_le ha hb
  have e4 := iI_lt hb ha
  have e5 := iI_le hb ha
  refine lv_icmp_lt F.1 F.2.1 hd ht (fun q => kt ?_ p e R s m args below meth c H locs cells slots ls F h1 h2 h3 h4 h5) (fun q => kf ?_ p e R s m args below meth c H locs cells slots ls F h1 h2 h3 h4 h5)
  · first | exact e1.mp q | exact e2.mp q | exact e3.mp q | exact e4.mp q | exact e5.mp q | exact fun z => q (e1.mpr z)
  · first | exact fun z => q (e1.mpr z) | exact e1.mp q | exact e1.mp (Classical.not_not.mp q) | exact e2.mp q | exact e3.mp q | exact e4.mp q | exact e5.mp q | exact Int.not_lt.mp (fun z => q (e2.mpr z)) | exact Int.not_le.mp (fun z => q (e3.mpr z)) | exact Int.not_lt.mp (fun z => q (e4.mpr z)) | exact Int.not_le.mp (fun z => q (e5.mpr z))
theorem k_icmp_ge {a b off : Int} {tgt : Nat} (hd : decode y.2.1 pc = .ok (.if_icmp .ge off, 3)) (hp : pc + 3 = pc1) (ht : (pc : Int) + off = (tgt : Int)) (ha : -2147483648 ≤ a ∧ a < 2147483648) (hb : -2147483648 ≤ b ∧ b < 2147483648)
    (kt : b ≤ a → kW l G y d Φ Ψ k n tgt L st h) (kf : a < b → kW l G y d Φ Ψ k n pc1 L st h) : kW l G y d Φ Ψ k n pc L (.int (iI b) :: .int (iI a) :: st) h := by
  subst hp
  intro p e R s m args below meth c H locs cells slots ls F h1 h2 h3 h4 h5
  have e1 := iI_eq ha hb
  have e2 := iI_lt ha hb
  have e3 := iI_le ha hb
  have e4 := iI_lt hb ha
  have e5 := iI_le hb ha
  refine lv_icmp_ge F.1 F.2.1 hd ht (fun q => kt ?_ p e R s m args below meth c H locs cells slots ls F h1 h2 h3 h4 h5) (fun q => kf ?_ p e R s m args below meth c H locs cells slots ls F h1 h2 h3 h4 h5)
  · first | exact e1.mp q | exact e2.mp q | exact e3.mp q | exact e4.mp q | exact e5.mp q | exact fun z => q (e1.mpr z)
  · first | exact fun z => q (e1.mpr z) | exact e1.mp q | exact e1.mp (Classical.not_not.mp q) | exact e2.mp q | exact e3.mp q | exact e4.mp q | exact e5.mp q | exact Int.not_lt.mp (fun z => q (e2.mpr z)) | exact Int.not_le.mp (fun z => q (e3.mpr z)) | exact Int.not_lt.mp (fun z => q (e4.mpr z)) | exact Int.not_le.mp (fun z => q (e5.mpr z))
theorem k_icmp_gt {a b off : Int} {tgt : Nat} (hd : decode y.2.1 pc = .ok (.if_icmp .gt off, 3)) (hp : pc + 3 = pc1) (ht : (pc : Int) + off = (tgt : Int)) (ha : -2147483648 ≤ a ∧ a < 2147483648) (hb : -2147483648 ≤ b ∧ b < 2147483648)
    (kt : b < a → kW l G y d Φ Ψ k n tgt L st h) (kf : a ≤ b → kW l G y d Φ Ψ k n pc1 L st h) : kW l G y d Φ Ψ k n pc L (.int (iI b) :: .int (iI a) :: st) h := by
  subst hp
  intro p e R s m args below meth c H locs cells slots ls F h1 h2 h3 h4 h5
  have e1 := iI_eq ha hb
  have e2 := iI_lt ha hb
  have e3 := iI_le ha hb
  have e4 := iI_lt hb ha
  have e5 := iI_le hb ha
  refine lv_icmp_gt F.1 F.2.1 hd ht (fun q => kt ?_ p e R s m args below meth c H locs cells slots ls F h1 h2 h3 h4 h5) (fun q => kf ?_ p e R s m args below meth c H locs cells slots ls F h1 h2 h3 h4 h5)
  · first | exact e1.mp q | exact e2.mp q | exact e3.mp q | exact e4.mp q | exact e5.mp q | exact fun z => q (e1.mpr z)
  · first | exact fun z => q (e1.mpr z) | exact e1.mp q | exact e1.mp (Classical.not_not.mp q) | exact e2.mp q | exact e3.mp q | exact e4.mp q | exact e5.mp q | exact Int.not_lt.mp (fun z => q (e2.mpr z)) | exact Int.not_le.mp (fun z => q (e3.mpr z)) | exact Int.not_lt.mp (fun z => q (e4.mpr z)) | exact Int.not_le.mp (fun z => q (e5.mpr z))
theorem k_icmp_le {a b off : Int} {tgt : Nat} (hd : decode y.2.1 pc = .ok (.if_icmp .le off, 3)) (hp : pc + 3 = pc1) (ht : (pc : Int) + off = (tgt : Int)) (ha : -2147483648 ≤ a ∧ a < 2147483648) (hb : -2147483648 ≤ b ∧ b < 2147483648)
    (kt : a ≤ b → kW l G y d Φ Ψ k n tgt L st h) (kf : b < a → kW l G y d Φ Ψ k n pc1 L st h) : kW l G y d Φ Ψ k n pc L (.int (iI b) :: .int (iI a) :: st) h := by
  subst hp
  intro p e R s m args below meth c H locs cells slots ls F h1 h2 h3 h4 h5
  have e1 := iI_eq ha hb
  have e2 := iI_lt ha hb
  have e3 := iI_le ha hb
  have e4 := iI_lt hb ha
  have e5 := iI_le hb ha
  refine lv_icmp_le F.1 F.2.1 hd ht (fun q => kt ?_ p e R s m args below meth c H locs cells slots ls F h1 h2 h3 h4 h5) (fun q => kf ?_ p e R s m args below meth c H locs cells slots ls F h1 h2 h3 h4 h5)
  · first | exact e1.mp q | exact e2.mp q | exact e3.mp q | exact e4.mp q | exact e5.mp q | exact fun z => q (e1.mpr z)
  · first | exact fun z => q (e1.mpr z) | exact e1.mp q | exact e1.mp (Classical.not_not.mp q) | exact e2.mp q | exact e3.mp q | exact e4.mp q | exact e5.mp q | exact Int.not_lt.mp (fun z => q (e2.mpr z)) | exact Int.not_le.mp (fun z => q (e3.mpr z)) | exact Int.not_lt.mp (fun z => q (e4.mpr z)) | exact Int.not_le.mp (fun z => q (e5.mpr z))
theorem k_if_eqR {a : Int32} {off : Int} {tgt : Nat} (hd : decode y.2.1 pc = .ok (.ifCond .eq off, 3)) (hp : pc + 3 = pc1) (ht : (pc : Int) + off = (tgt : Int))
    (kt : a = 0 → kW l G y d Φ Ψ k n tgt L st h) (kf : ¬ a = 0 → kW l G y d Φ Ψ k n pc1 L st h) : kW l G y d Φ Ψ k n pc L (.int a :: st) h := by
  subst hp
  intro p e R s m args below meth c H locs cells slots ls F h1 h2 h3 h4 h5
  exact lv_if_eq F.1 F.2.1 hd ht (fun q => kt q p e R s m args below meth c H locs cells slots ls F h1 h2 h3 h4 h5) (fun q => kf (by first | exact q | exact Classical.not_not.mp q) p e R s m args below meth c H locs cells slots ls F h1 h2 h3 h4 h5)
theorem k_if_neR {a : Int32} {off : Int} {tgt : Nat} (hd : decode y.2.1 pc = .ok (.ifCond .ne off, 3)) (hp : pc + 3 = pc1) (ht : (pc : Int) + off = (tgt : Int))
    (kt : ¬ a = 0 → kW l G y d Φ Ψ k n tgt L st h) (kf : a = 0 → kW l G y d Φ Ψ k n pc1 L st h) : kW l G y d Φ Ψ k n pc L (.int a :: st) h := by
  subst hp
  intro p e R s m args below meth c H locs cells slots ls F h1 h2 h3 h4 h5
  exact lv_if_ne F.1 F.2.1 hd ht (fun q => kt q p e R s m args below meth c H locs cells slots ls F h1 h2 h3 h4 h5) (fun q => kf (by first | exact q | exact Classical.not_not.mp q) p e R s m args below meth c H locs cells slots ls F h1 h2 h3 h4 h5)
theorem k_goto {off : Int} {tgt : Nat} (hd : decode y.2.1 pc = .ok (.goto off, 3)) (ht : (pc : Int) + off = (tgt : Int)) (kk : kW l G y d Φ Ψ k n tgt L st h) : kW l G y d Φ Ψ k n pc L st h := by
  refine k_pure ?_ kk
  intro p e R s m args below meth c H locs cells slots Q ls hx hb hl kk
  exact lv_goto hx hb hd ht (kk ls hl)
theorem k_acmp_eq {rx ry : Option Nat} {off : Int} {tgt : Nat} (hd : decode y.2.1 pc = .ok (.if_acmp .eq off, 3)) (hp : pc + 3 = pc1) (ht : (pc : Int) + off = (tgt : Int))
    (kt : rx = ry → kW l G y d Φ Ψ k n tgt L st h) (kf : ¬ rx = ry → kW l G y d Φ Ψ k n pc1 L st h) : kW l G y d Φ Ψ k n pc L (va_rf ry :: va_rf rx :: st) h := by
  subst hp
  intro p e R s m args below meth c H locs cells slots ls F h1 h2 h3 h4 h5
  exact lv_acmp_eq F.1 F.2.1 hd ht (fun q => kt q p e R s m args below meth c H locs cells slots ls F h1 h2 h3 h4 h5) (fun q => kf q p e R s m args below meth c H locs cells slots ls F h1 h2 h3 h4 h5)
theorem k_acmp_ne {rx ry : Option Nat} {off : Int} {tgt : Nat} (hd : decode y.2.1 pc = .ok (.if_acmp .ne off, 3)) (hp : pc + 3 = pc1) (ht : (pc : Int) + off = (tgt : Int))
    (kt : ¬ rx = ry → kW l G y d Φ Ψ k n tgt L st h) (kf : rx = ry → kW l G y d Φ Ψ k n pc1 L st h) : kW l G y d Φ Ψ k n pc L (va_rf ry :: va_rf rx :: st) h := by
  subst hp
  intro p e R s m args below meth c H locs cells slots ls F h1 h2 h3 h4 h5
  exact lv_acmp_ne F.1 F.2.1 hd ht (fun q => kt q p e R s m args below meth c H locs cells slots ls F h1 h2 h3 h4 h5) (fun q => kf q p e R s m args below meth c H locs cells slots ls F h1 h2 h3 h4 h5)
theorem k_ifnonnull {x : Nat} {off : Int} {tgt : Nat} (hd : decode y.2.1 pc = .ok (.ifnonnull off, 3)) (ht : (pc : Int) + off = (tgt : Int)) (kk : kW l G y d Φ Ψ k n tgt L st h) : kW l G y d Φ Ψ k n pc L (.ref x :: st) h := by
  refine k_pure ?_ kk
  intro p e R s m args below meth c H locs cells slots Q ls hx hb hl kk
  exact lv_ifnonnull hx hb hd ht (kk ls hl)
theorem k_ifnonnullN {off : Int} (hd : decode y.2.1 pc = .ok (.ifnonnull off, 3)) (hp : pc + 3 = pc1) (kk : kW l G y d Φ Ψ k n pc1 L st h) : kW l G y d Φ Ψ k n pc L (.null :: st) h := by
  subst hp
  refine k_pure ?_ kk
  intro p e R s m args below meth c H locs cells slots Q ls hx hb hl kk
  exact lv_ifnonnullN hx hb hd (kk ls hl)
theorem k_ifnull {x : Nat} {off : Int} (hd : decode y.2.1 pc = .ok (.ifnull off, 3)) (hp : pc + 3 = pc1) (kk : kW l G y d Φ Ψ k n pc1 L st h) : kW l G y d Φ Ψ k n pc L (.ref x :: st) h := by
  subst hp
  refine k_pure ?_ kk
  intro p e R s m args below meth c H locs cells slots Q ls hx hb hl kk
  exact lv_ifnull hx hb hd (kk ls hl)
theorem k_ifnullN {off : Int} {tgt : Nat} (hd : decode y.2.1 pc = .ok (.ifnull off, 3)) (ht : (pc : Int) + off = (tgt : Int)) (kk : kW l G y d Φ Ψ k n tgt L st h) : kW l G y d Φ Ψ k n pc L (.null :: st) h := by
  refine k_pure ?_ kk
  intro p e R s m args below meth c H locs cells slots Q ls hx hb hl kk
  exact lv_ifnullN hx hb hd ht (kk ls hl)
theorem k_widen {k' n' : Nat} (h1 : k' ≤ k) (h2 : n' ≤ n) (kk : kW l G y d Φ Ψ k' n' pc L st h) : kW l G y d Φ Ψ k n pc L st h := by
  intro p e R s m args below meth c H locs cells slots ls F g1 g2 h3 h4 h5
  exact kk p e R s m args below meth c H locs cells slots ls F (by omega) (by omega) h3 h4 h5
theorem k_weak {L' : List (Option Value)} (hL : ∀ (i : Nat) (v : Value), L'[i]? = some (some v) → L[i]? = some (some v)) (kk : kW l G y d Φ Ψ k n pc L' st h) : kW l G y d Φ Ψ k n pc L st h := by
  intro p e R s m args below meth c H locs cells slots ls F g1 g2 h3 h4 h5
  refine kk p e R s m args below meth c H locs cells slots ls F g1 g2 h3 h4 ⟨h5.1, h5.2.1, fun q hq => ?_⟩
  obtain ⟨j, v⟩ := q
  have h6 := ((kpr_mem L' 0 j v).mp hq).2
  exact h5.2.2 (j, v) ((kpr_mem L 0 j v).mpr ⟨Nat.zero_le _, hL _ _ h6⟩)
theorem k_tableOut {dflt lo hi : Int} {offs : Array Int} {len : Nat} {x : Int} {tgt : Nat} (hd : decode y.2.1 pc = .ok (.tableswitch dflt lo hi offs, len)) (hr : -2147483648 ≤ x ∧ x < 2147483648) (hx : x < lo ∨ hi < x) (ht : (pc : Int) + dflt = (tgt : Int)) (kk : kW l G y d Φ Ψ k n tgt L st h) : kW l G y d Φ Ψ k n pc L (.int (iI x) :: st) h := by
  refine k_pure ?_ kk
  intro p e R s m args below meth c H locs cells slots Q ls hx9 hb hl kk
  exact lv_tableOut hx9 hb hd (by rw [iI_toInt hr.1 hr.2]; exact hx) ht (kk ls hl)
theorem k_tableIn {dflt lo hi : Int} {offs : Array Int} {len : Nat} {x off : Int} {tgt : Nat} (hd : decode y.2.1 pc = .ok (.tableswitch dflt lo hi offs, len)) (hr : -2147483648 ≤ x ∧ x < 2147483648) (h1 : lo ≤ x) (h2 : x ≤ hi) (ho : offs[(x - lo).toNat]? = some off) (ht : (pc : Int) + off = (tgt : Int)) (kk : kW l G y d Φ Ψ k n tgt L st h) : kW l G y d Φ Ψ k n pc L (.int (iI x) :: st) h := by
  refine k_pure ?_ kk
  intro p e R s m args below meth c H locs cells slots Q ls hx9 hb hl kk
  exact lv_tableIn hx9 hb hd (by rw [iI_toInt hr.1 hr.2]; omega) (by rw [iI_toInt hr.1 hr.2]; omega) (by rw [iI_toInt hr.1 hr.2]; exact ho) ht (kk ls hl)
theorem k_iret {x : Int32} {ty : FieldType} (hd : decode y.2.1 pc = .ok (.ireturn, 1)) (hr : y.2.2.2.1 = some ty) (hn : narrow ty (.int x) = .int x) (hq : Φ (some (.int x)) h) : kW l G y d Φ Ψ k n pc L [.int x] h := by
  intro p e R s m args below meth c H locs cells slots ls F h1 h2 h3 h4 h5
  refine vx_ret (W.widen (k := R.cells) (n := R.slots) (by omega) (by omega) ?_)
  obtain ⟨hx, hb, hml, hr9, hlocks, hnm, hown, htab, hts, hE, hfr, hlo, hN, hl9⟩ := F
  exact W.zret hx hb (hr9.trans hr) hn (fun t ht hW => ⟨⟨_, h, rfl, hq, by rw [ht]; exact h3⟩, by rw [ht]; exact h4.1, fun q q1 q2 => by rw [ht]; exact h4.2.1 q q1 q2⟩) h4.2.2 hd hlocks
theorem k_vret  (hd : decode y.2.1 pc = .ok (.return_, 1)) (hr : y.2.2.2.1 = none) (hq : Φ none h) : kW l G y d Φ Ψ k n pc L [] h := by
  intro p e R s m args below meth c H locs cells slots ls F h1 h2 h3 h4 h5
  refine vx_ret (W.widen (k := R.cells) (n := R.slots) (by omega) (by omega) ?_)
  obtain ⟨hx, hb, hml, hr9, hlocks, hnm, hown, htab, hts, hE, hfr, hlo, hN, hl9⟩ := F
  exact W.vret hx hb (hr9.trans hr) (fun t ht hW => ⟨⟨_, h, rfl, hq, by rw [ht]; exact h3⟩, by rw [ht]; exact h4.1, fun q q1 q2 => by rw [ht]; exact h4.2.1 q q1 q2⟩) h4.2.2 hd hlocks
theorem k_aret {v : Value} {ty : FieldType} (hd : decode y.2.1 pc = .ok (.areturn, 1)) (hr : y.2.2.2.1 = some ty) (hrt : (∃ n, ty = .object n) ∨ ∃ t, ty = .array t) (hv : v = .null ∨ ∃ a, v = .ref a) (hq : Φ (some v) h) : kW l G y d Φ Ψ k n pc L [v] h := by
  intro p e R s m args below meth c H locs cells slots ls F h1 h2 h3 h4 h5
  refine vx_ret (W.widen (k := R.cells) (n := R.slots) (by omega) (by omega) ?_)
  obtain ⟨hx, hb, hml, hr9, hlocks, hnm, hown, htab, hts, hE, hfr, hlo, hN, hl9⟩ := F
  exact W.aret hx hb (hr9.trans hr) hrt hv (fun t ht hW => ⟨⟨_, h, rfl, hq, by rw [ht]; exact h3⟩, by rw [ht]; exact h4.1, fun q q1 q2 => by rw [ht]; exact h4.2.1 q q1 q2⟩) h4.2.2 hd hlocks
theorem k_lret {x : Int64} (hd : decode y.2.1 pc = .ok (.lreturn, 1)) (hr : y.2.2.2.1 = some .long) (hq : Φ (some (.long x)) h) : kW l G y d Φ Ψ k n pc L [.long x] h := by
  intro p e R s m args below meth c H locs cells slots ls F h1 h2 h3 h4 h5
  refine vx_ret (W.widen (k := R.cells) (n := R.slots) (by omega) (by omega) ?_)
  obtain ⟨hx, hb, hml, hr9, hlocks, hnm, hown, htab, hts, hE, hfr, hlo, hN, hl9⟩ := F
  exact W.lret hx hb (hr9.trans hr) (fun t ht hW => ⟨⟨_, h, rfl, hq, by rw [ht]; exact h3⟩, by rw [ht]; exact h4.1, fun q q1 q2 => by rw [ht]; exact h4.2.1 q q1 q2⟩) h4.2.2 hd hlocks
theorem k_fret {x : UInt32} (hd : decode y.2.1 pc = .ok (.freturn, 1)) (hr : y.2.2.2.1 = some .float) (hq : Φ (some (.float x)) h) : kW l G y d Φ Ψ k n pc L [.float x] h := by
  intro p e R s m args below meth c H locs cells slots ls F h1 h2 h3 h4 h5
  refine vx_ret (W.widen (k := R.cells) (n := R.slots) (by omega) (by omega) ?_)
  obtain ⟨hx, hb, hml, hr9, hlocks, hnm, hown, htab, hts, hE, hfr, hlo, hN, hl9⟩ := F
  exact W.fret hx hb (hr9.trans hr) (fun t ht hW => ⟨⟨_, h, rfl, hq, by rw [ht]; exact h3⟩, by rw [ht]; exact h4.1, fun q q1 q2 => by rw [ht]; exact h4.2.1 q q1 q2⟩) h4.2.2 hd hlocks
theorem k_dret {x : UInt64} (hd : decode y.2.1 pc = .ok (.dreturn, 1)) (hr : y.2.2.2.1 = some .double) (hq : Φ (some (.double x)) h) : kW l G y d Φ Ψ k n pc L [.double x] h := by
  intro p e R s m args below meth c H locs cells slots ls F h1 h2 h3 h4 h5
  refine vx_ret (W.widen (k := R.cells) (n := R.slots) (by omega) (by omega) ?_)
  obtain ⟨hx, hb, hml, hr9, hlocks, hnm, hown, htab, hts, hE, hfr, hlo, hN, hl9⟩ := F
  exact W.dret hx hb (hr9.trans hr) (fun t ht hW => ⟨⟨_, h, rfl, hq, by rw [ht]; exact h3⟩, by rw [ht]; exact h4.1, fun q q1 q2 => by rw [ht]; exact h4.2.1 q q1 q2⟩) h4.2.2 hd hlocks
end KR
end
section
/-! ===== rules: fields, arrays, new, statics, casts ===== -/
-- a field's link: from the class own, place idx: the field kf of the class ci of vwCl
def kFd (own : String) (idx ci kf : Nat) : Prop := ∃ (C : String) (T : u_T) (N : Nat) (ref : String), vwCl[ci]? = some (C, T, N) ∧ (∀ w ∈ u_ws C T N, w ∈ kW0) ∧ kf < N ∧ Cond.fieldLink own idx ref (T kf).2.1 (T kf).2.2.1 ∈ kW0 ∧ (ref = (T kf).1 ∨ Cond.sameField ref (T kf).1 (T kf).2.1 (T kf).2.2.1 ∈ kW0)
-- .. that may be written: type ty; fin: final (then only in the class's own <init>)
def kFp (own : String) (idx ci kf : Nat) (ty : FieldType) (fin : Bool) : Prop := ∃ (C : String) (T : u_T) (N : Nat) (ref : String) (ty0 : Nat → FieldType), vwCl[ci]? = some (C, T, N) ∧ (∀ w ∈ u_ws C T N, w ∈ kW0) ∧ kf < N ∧ Cond.fieldLink own idx ref (T kf).2.1 (T kf).2.2.1 ∈ kW0 ∧ (ref = (T kf).1 ∨ Cond.sameField ref (T kf).1 (T kf).2.1 (T kf).2.2.1 ∈ kW0) ∧
  (∀ k, k < N → parseFieldDescriptor (T k).2.2.1 = some (ty0 k)) ∧ (∀ a, a < N → ∀ b, b < N → a ≠ b → (T a).2.1 ≠ (T b).2.1) ∧ parseFieldDescriptor (T kf).2.2.1 = some ty ∧ (T kf).2.2.2 = fin ∧ (fin = true → (T kf).1 = own)
-- a new object of the class ci of N slots, fs at first
def kNw (own : String) (idx ci N : Nat) (fs : List Value) : Prop := ∃ (C : String) (T : u_T) (ty : Nat → FieldType), vwCl[ci]? = some (C, T, N) ∧ (∀ w ∈ u_ws C T N, w ∈ kW0) ∧ (∀ k, k < N → parseFieldDescriptor (T k).2.2.1 = some (ty k)) ∧ Cond.classLink own idx C ∈ kW0 ∧ Cond.instantiable C N ∈ kW0 ∧ Cond.initialized C ∈ kW0 ∧ (∀ j, j < N → defaultValue (ty j) = vp_V fs j)
abbrev kio (G : kG) (n : Nat) (f : Nat → Int) : va_E := .inl (G.2.1 0, n, .inl (fun j => iI (f j)))
abbrev klo1 (G : kG) (n : Nat) (f : Nat → Int64) : va_E := .inl (G.2.1 1, n, .inr (.inl f))
abbrev kdo (G : kG) (n : Nat) (f : Nat → UInt64) : va_E := .inl (G.2.1 2, n, .inr (.inr (.inr (.inl f))))
abbrev kro (G : kG) (j n : Nat) (f : Nat → Option Nat) : va_E := .inl (G.2.1 j, n, .inr (.inr (.inr (.inr f))))
def kiu (f : Nat → Int) (k : Nat) (x : Int) : Nat → Int := fun j => if j = k then x else f j
theorem kiu_eq (f : Nat → Int) (k : Nat) (x : Int) : upd (fun j => iI (f j)) k (iI x) = fun j => iI (kiu f k x j) := by
  funext j
  unfold upd kiu
  split <;> rfl
theorem k_tys {G : kG} {s : State} (hK : va_K G.1 vwCl (kTys G) s) {cA : ClassId} {ty : FieldType} {j : Nat} {cj : ClassId} (hj : (kTys G)[j]? = some (cj, ty)) (h2 : va_K G.1 vwCl (kTys G ++ [(cA, ty)]) s) : cA = cj := by
  have a := (hK.2 j _ hj).2
  have b := (h2.2 6 (cA, ty) rfl).2
  unfold va_RA at a b
  cases ty with
  | object C =>
    obtain ⟨-, -, -, -, -, a4⟩ := a
    obtain ⟨-, -, -, -, -, b4⟩ := b
    exact Option.some.inj (b4.symm.trans a4)
  | _ => exact Option.some.inj (b.symm.trans a)
section KH
variable {l : Launch} {G : kG} {y : kMR} {d : Nat} {Φ : Option Value → kAH → Prop} {Ψ : String → kAH → Prop} {k n pc pc1 : Nat} {L : List (Option Value)} {st : List Value} {h : kAH}
theorem k_get {idx ci kf a : Nat} {fs : List Value} {v : Value} (hd : decode y.2.1 pc = .ok (.getfield idx, 3)) (hp : pc + 3 = pc1) (hf : kFd y.1.cls idx ci kf) (ha : h a = some (.inr (ci, fs))) (hv : fs[kf]? = some v)
    (kk : kW l G y d Φ Ψ k n pc1 L (v :: st) h) : kW l G y d Φ Ψ k n pc L (.ref a :: st) h := by
  subst hp
  obtain ⟨C, T, N, ref, hc, hin, hk, hlk, hsm⟩ := hf
  intro p e R s m args below meth c H locs cells slots ls F h1 h2 h3 h4 h5
  have F2 := F
  obtain ⟨hx, hb, hml, hr9, hlocks, hnm, hown, htab, hts, hE, -⟩ := F2
  refine va_get hx hb hts hin hown hE.1 (kHp_one h3 ha) 0 rfl hc kf hk (hts _ hlk) ?_ hv hd (kk p e R s m args below meth c H locs cells slots ls F h1 h2 h3 h4 h5)
  intro x hx9
  rcases hsm with e9 | e9
  · rw [e9]; exact hx9
  · exact u_same (hts _ e9) x hx9
theorem k_put {idx ci kf a : Nat} {fs : List Value} {v : Value} {ty : FieldType} {fin : Bool} (hd : decode y.2.1 pc = .ok (.putfield idx, 3)) (hp : pc + 3 = pc1) (hf : kFp y.1.cls idx ci kf ty fin) (hfin : fin = false ∨ y.1.name = "<init>") (ha : h a = some (.inr (ci, fs))) (hl : kf < fs.length) (hn : narrow ty v = v) (hfit : fits ty v = true)
    (kk : kW l G y d Φ Ψ k n pc1 L st (kup h a (.inr (ci, fs.set kf v)))) : kW l G y d Φ Ψ k n pc L (v :: .ref a :: st) h := by
  subst hp
  obtain ⟨C, T, N, ref, ty0, hc, hin, hk, hlk, hsm, hty, hnmz, hpd, hfi, hdecl⟩ := hf
  intro p e R s m args below meth c H locs cells slots ls F h1 h2 h3 h4 h5
  have F2 := F
  obtain ⟨hx, hb, hml, hr9, hlocks, hnm, hown, htab, hts, hE, -⟩ := F2
  obtain ⟨q0, hq0⟩ := kHp_pl h3 ha
  have hsame : ∀ x, s.fieldFound? (T kf).1 (T kf).2.1 (T kf).2.2.1 = some x → s.fieldFound? ref (T kf).2.1 (T kf).2.2.1 = some x := by
    intro x hx9
    rcases hsm with e9 | e9
    · rw [e9]; exact hx9
    · exact u_same (hts _ e9) x hx9
  cases fin with
  | false =>
    exact va_put hx hb hts hin ty0 hty hnmz hown hE.1 (kHp_P h3) (kHp_D h3) h4 q0 hq0 hc kf hk (hts _ hlk) hsame hfi hpd hn hfit hl hd (fun H1 locs1 hP hD hS => kk p e R s m args below meth c H1 locs1 cells slots ls F h1 h2 (kHp_set h3 hq0 hP) hS h5)
  | true =>
    have hi : meth.name = "<init>" := by
      rcases hfin with z | z
      · cases z
      · rw [hnm]; exact z
    exact va_putF hx hb hts hin ty0 hty hnmz hown hE.1 (kHp_P h3) (kHp_D h3) h4 q0 hq0 hc kf hk (hts _ hlk) hsame hfi hi (hdecl rfl) hpd hn hfit hl hd (fun H1 locs1 hP hD hS => kk p e R s m args below meth c H1 locs1 cells slots ls F h1 h2 (kHp_set h3 hq0 hP) hS h5)
theorem k_new {idx ci N : Nat} {fs : List Value} (hd : decode y.2.1 pc = .ok (.new idx, 3)) (hp : pc + 3 = pc1) (hf : kNw y.1.cls idx ci N fs) (hk : 1 ≤ k) (hn : N ≤ n)
    (kk : ∀ q : Nat, h q = none → kW l G y d Φ Ψ (k - 1) (n - N) pc1 L (.ref q :: st) (kup h q (.inr (ci, fs)))) : kW l G y d Φ Ψ k n pc L st h := by
  subst hp
  obtain ⟨C, T, ty, hc, hin, hty, hlk, hins, hini, hfs⟩ := hf
  intro p e R s m args below meth c H locs cells slots ls F h1 h2 h3 h4 h5
  have F2 := F
  obtain ⟨hx, hb, hml, hr9, hlocks, hnm, hown, htab, hts, hE, hfr, hlo, hN, -⟩ := F2
  refine va_new hx hb hts hin ty hty hown (hts _ hlk) (hts _ hins) (hts _ hini) hE.1 (kHp_P h3) (kHp_D h3) h4 (fun q hq => Nat.le_trans hN hq) hc hfs (by omega) (by omega) hd (fun q H1 hP hD hS => ?_)
  obtain ⟨g1, g2⟩ := kHp_push h3 hP hD
  exact kk q g2 p e R s m args below meth c H1 locs (cells + 1) (slots + N) ls F (by omega) (by omega) g1 hS h5
theorem k_newI {z : Int} {N : Nat} (hd : decode y.2.1 pc = .ok (.newarray .int, 2)) (hp : pc + 2 = pc1) (hw : Cond.arrayClass .int ∈ kW0) (hz : z = N) (hN : N ≤ 1000000) (hk : 1 ≤ k) (hn : N ≤ n)
    (kk : ∀ q : Nat, h q = none → kW l G y d Φ Ψ (k - 1) (n - N) pc1 L (.ref q :: st) (kup h q (kio G N (fun _ => 0)))) : kW l G y d Φ Ψ k n pc L (.int (iI z) :: st) h := by
  subst hp
  subst hz
  intro p e R s m args below meth c H locs cells slots ls F h1 h2 h3 h4 h5
  have F2 := F
  obtain ⟨hx, hb, hml, hr9, hlocks, hnm, hown, htab, hts, hE, hfr, hlo, hN9, -⟩ := F2
  refine va_newa (atype := .int) (a0 := (N, .inl (fun _ => iI 0))) (N' := N) hx hb (hts _ hw) rfl hE.1 (kHp_P h3) (kHp_D h3) h4 (fun q hq => Nat.le_trans hN9 hq) (fun cA => by rw [vp_cell_i]; rfl) (by rw [Int32.lt_iff_toInt_lt, iI_toInt (by omega) (by omega), Int32.toInt_zero]; omega) (by rw [iI_cl (by omega) (by omega)]; rfl) (by show N * 4 ≤ _; omega) (by omega) (by omega) hd (fun q cA H1 hK1 hP hD hS => ?_)
  have hcA : cA = G.2.1 0 := k_tys hE.1 (j := 0) rfl hK1
  subst hcA
  obtain ⟨g1, g2⟩ := kHp_push h3 hP hD
  exact kk q g2 p e R s m args below meth c H1 locs (cells + 1) (slots + N) ls F (by omega) (by omega) g1 hS h5
theorem k_newL {z : Int} {N : Nat} (hd : decode y.2.1 pc = .ok (.newarray .long, 2)) (hp : pc + 2 = pc1) (hw : Cond.arrayClass .long ∈ kW0) (hz : z = N) (hN : N ≤ 1000000) (hk : 1 ≤ k) (hn : N ≤ n)
    (kk : ∀ q : Nat, h q = none → kW l G y d Φ Ψ (k - 1) (n - N) pc1 L (.ref q :: st) (kup h q (klo1 G N (fun _ => 0)))) : kW l G y d Φ Ψ k n pc L (.int (iI z) :: st) h := by
  subst hp
  subst hz
  intro p e R s m args below meth c H locs cells slots ls F h1 h2 h3 h4 h5
  have F2 := F
  obtain ⟨hx, hb, hml, hr9, hlocks, hnm, hown, htab, hts, hE, hfr, hlo, hN9, -⟩ := F2
  refine va_newa (atype := .long) (a0 := (N, .inr (.inl (fun _ => 0)))) (N' := N) hx hb (hts _ hw) rfl hE.1 (kHp_P h3) (kHp_D h3) h4 (fun q hq => Nat.le_trans hN9 hq) (fun cA => rfl) (by rw [Int32.lt_iff_toInt_lt, iI_toInt (by omega) (by omega), Int32.toInt_zero]; omega) (by rw [iI_cl (by omega) (by omega)]; rfl) (by show N * 8 ≤ _; omega) (by omega) (by omega) hd (fun q cA H1 hK1 hP hD hS => ?_)
  have hcA : cA = G.2.1 1 := k_tys hE.1 (j := 1) rfl hK1
  subst hcA
  obtain ⟨g1, g2⟩ := kHp_push h3 hP hD
  exact kk q g2 p e R s m args below meth c H1 locs (cells + 1) (slots + N) ls F (by omega) (by omega) g1 hS h5
theorem k_newD {z : Int} {N : Nat} (hd : decode y.2.1 pc = .ok (.newarray .double, 2)) (hp : pc + 2 = pc1) (hw : Cond.arrayClass .double ∈ kW0) (hz : z = N) (hN : N ≤ 1000000) (hk : 1 ≤ k) (hn : N ≤ n)
    (kk : ∀ q : Nat, h q = none → kW l G y d Φ Ψ (k - 1) (n - N) pc1 L (.ref q :: st) (kup h q (kdo G N (fun _ => 0)))) : kW l G y d Φ Ψ k n pc L (.int (iI z) :: st) h := by
  subst hp
  subst hz
  intro p e R s m args below meth c H locs cells slots ls F h1 h2 h3 h4 h5
  have F2 := F
  obtain ⟨hx, hb, hml, hr9, hlocks, hnm, hown, htab, hts, hE, hfr, hlo, hN9, -⟩ := F2
  refine va_newa (atype := .double) (a0 := (N, .inr (.inr (.inr (.inl (fun _ => 0)))))) (N' := N) hx hb (hts _ hw) rfl hE.1 (kHp_P h3) (kHp_D h3) h4 (fun q hq => Nat.le_trans hN9 hq) (fun cA => rfl) (by rw [Int32.lt_iff_toInt_lt, iI_toInt (by omega) (by omega), Int32.toInt_zero]; omega) (by rw [iI_cl (by omega) (by omega)]; rfl) (by show N * 8 ≤ _; omega) (by omega) (by omega) hd (fun q cA H1 hK1 hP hD hS => ?_)
  have hcA : cA = G.2.1 2 := k_tys hE.1 (j := 2) rfl hK1
  subst hcA
  obtain ⟨g1, g2⟩ := kHp_push h3 hP hD
  exact kk q g2 p e R s m args below meth c H1 locs (cells + 1) (slots + N) ls F (by omega) (by omega) g1 hS h5
theorem k_newR (j : Nat) {C : String} {z : Int} {N idx : Nat} (hd : decode y.2.1 pc = .ok (.anewarray idx, 3)) (hp : pc + 3 = pc1) (hw : Cond.classLink y.1.cls idx C ∈ kW0) (hj : (kTys G)[j]? = some (G.2.1 j, .object C)) (hC : C = "java/lang/Object" ∨ C = "CalendaryPlanner$Day" ∨ C = "CalendaryPlanner$Room") (hz : z = N) (hN : N ≤ 1000000) (hk : 1 ≤ k) (hn : N ≤ n)
    (kk : ∀ q : Nat, h q = none → kW l G y d Φ Ψ (k - 1) (n - N) pc1 L (.ref q :: st) (kup h q (kro G j N (fun _ => none)))) : kW l G y d Φ Ψ k n pc L (.int (iI z) :: st) h := by
  subst hp
  subst hz
  intro p e R s m args below meth c H locs cells slots ls F h1 h2 h3 h4 h5
  have F2 := F
  obtain ⟨hx, hb, hml, hr9, hlocks, hnm, hown, htab, hts, hE, hfr, hlo, hN9, -⟩ := F2
  have hao : va_AO C s := by
    obtain ⟨-, -, -, -, -, -, -, -, -, a1, a2, a3, -⟩ := hE
    rcases hC with rfl | rfl | rfl
    · exact a1
    · exact a2
    · exact a3
  refine va_newq (N' := N) hx hb hown (hts _ hw) hao hE.1 (kHp_P h3) (kHp_D h3) h4 (fun q hq => Nat.le_trans hN9 hq) (by rw [Int32.lt_iff_toInt_lt, iI_toInt (by omega) (by omega), Int32.toInt_zero]; omega) (by rw [iI_cl (by omega) (by omega)]; rfl) (by omega) (by omega) (by omega) hd (fun q cA H1 hK1 hP hD hS => ?_)
  have hcA : cA = G.2.1 j := k_tys hE.1 hj hK1
  subst hcA
  obtain ⟨g1, g2⟩ := kHp_push h3 hP hD
  exact kk q g2 p e R s m args below meth c H1 locs (cells + 1) (slots + N) ls F (by omega) (by omega) g1 hS h5
theorem k_iald {a N : Nat} {f : Nat → Int} {i : Int} (hd : decode y.2.1 pc = .ok (.iaload, 1)) (hp : pc + 1 = pc1) (ha : h a = some (kio G N f)) (hi : 0 ≤ i) (hi2 : i < N) (hN : N ≤ 1000000)
    (kk : kW l G y d Φ Ψ k n pc1 L (.int (iI (f i.toNat)) :: st) h) : kW l G y d Φ Ψ k n pc L (.int (iI i) :: .ref a :: st) h := by
  subst hp
  intro p e R s m args below meth c H locs cells slots ls F h1 h2 h3 h4 h5
  obtain ⟨hx, hb, hml, hr9, hlocks, hnm, hown, htab, hts, hE, -⟩ := id F
  refine va_iald hx hb hE.1 (kHp_one h3 ha) 0 0 rfl rfl (iI_in hi hi2 (by omega)) hd ?_
  rw [iI_cl hi (by omega)]
  exact kk p e R s m args below meth c H locs cells slots ls F h1 h2 h3 h4 h5
theorem k_lald {a N : Nat} {f : Nat → Int64} {i : Int} (hd : decode y.2.1 pc = .ok (.laload, 1)) (hp : pc + 1 = pc1) (ha : h a = some (klo1 G N f)) (hi : 0 ≤ i) (hi2 : i < N) (hN : N ≤ 1000000)
    (kk : kW l G y d Φ Ψ k n pc1 L (.long (f i.toNat) :: st) h) : kW l G y d Φ Ψ k n pc L (.int (iI i) :: .ref a :: st) h := by
  subst hp
  intro p e R s m args below meth c H locs cells slots ls F h1 h2 h3 h4 h5
  obtain ⟨hx, hb, hml, hr9, hlocks, hnm, hown, htab, hts, hE, -⟩ := id F
  refine va_lald hx hb hE.1 (kHp_one h3 ha) 0 1 rfl rfl (iI_in hi hi2 (by omega)) hd ?_
  rw [iI_cl hi (by omega)]
  exact kk p e R s m args below meth c H locs cells slots ls F h1 h2 h3 h4 h5
theorem k_dald {a N : Nat} {f : Nat → UInt64} {i : Int} (hd : decode y.2.1 pc = .ok (.daload, 1)) (hp : pc + 1 = pc1) (ha : h a = some (kdo G N f)) (hi : 0 ≤ i) (hi2 : i < N) (hN : N ≤ 1000000)
    (kk : kW l G y d Φ Ψ k n pc1 L (.double (f i.toNat) :: st) h) : kW l G y d Φ Ψ k n pc L (.int (iI i) :: .ref a :: st) h := by
  subst hp
  intro p e R s m args below meth c H locs cells slots ls F h1 h2 h3 h4 h5
  obtain ⟨hx, hb, hml, hr9, hlocks, hnm, hown, htab, hts, hE, -⟩ := id F
  refine va_dald hx hb hE.1 (kHp_one h3 ha) 0 2 rfl rfl (iI_in hi hi2 (by omega)) hd ?_
  rw [iI_cl hi (by omega)]
  exact kk p e R s m args below meth c H locs cells slots ls F h1 h2 h3 h4 h5
theorem k_aald {a N j : Nat} {C : String} {f : Nat → Option Nat} {i : Int} (hd : decode y.2.1 pc = .ok (.aaload, 1)) (hp : pc + 1 = pc1) (ha : h a = some (kro G j N f)) (hj : (kTys G)[j]? = some (G.2.1 j, .object C)) (hi : 0 ≤ i) (hi2 : i < N) (hN : N ≤ 1000000)
    (kk : kW l G y d Φ Ψ k n pc1 L (va_rf (f i.toNat) :: st) h) : kW l G y d Φ Ψ k n pc L (.int (iI i) :: .ref a :: st) h := by
  subst hp
  intro p e R s m args below meth c H locs cells slots ls F h1 h2 h3 h4 h5
  obtain ⟨hx, hb, hml, hr9, hlocks, hnm, hown, htab, hts, hE, -⟩ := id F
  refine va_aldq hx hb hE.1 (kHp_one h3 ha) 0 j rfl hj (iI_in hi hi2 (by omega)) hd ?_
  rw [iI_cl hi (by omega)]
  exact kk p e R s m args below meth c H locs cells slots ls F h1 h2 h3 h4 h5
theorem k_alenI {a N : Nat} {f : Nat → Int} (hd : decode y.2.1 pc = .ok (.arraylength, 1)) (hp : pc + 1 = pc1) (ha : h a = some (kio G N f))
    (kk : kW l G y d Φ Ψ k n pc1 L (.int (iI (N : Int)) :: st) h) : kW l G y d Φ Ψ k n pc L (.ref a :: st) h := by
  subst hp
  intro p e R s m args below meth c H locs cells slots ls F h1 h2 h3 h4 h5
  obtain ⟨hx, hb, hml, hr9, hlocks, hnm, hown, htab, hts, hE, -⟩ := id F
  exact va_alen hx hb hE.1 (kHp_one h3 ha) 0 0 rfl rfl rfl hd (kk p e R s m args below meth c H locs cells slots ls F h1 h2 h3 h4 h5)
theorem k_alenR {a N j : Nat} {C : String} {f : Nat → Option Nat} (hd : decode y.2.1 pc = .ok (.arraylength, 1)) (hp : pc + 1 = pc1) (ha : h a = some (kro G j N f)) (hj : (kTys G)[j]? = some (G.2.1 j, .object C))
    (kk : kW l G y d Φ Ψ k n pc1 L (.int (iI (N : Int)) :: st) h) : kW l G y d Φ Ψ k n pc L (.ref a :: st) h := by
  subst hp
  intro p e R s m args below meth c H locs cells slots ls F h1 h2 h3 h4 h5
  obtain ⟨hx, hb, hml, hr9, hlocks, hnm, hown, htab, hts, hE, -⟩ := id F
  exact va_alen hx hb hE.1 (kHp_one h3 ha) 0 j rfl hj rfl hd (kk p e R s m args below meth c H locs cells slots ls F h1 h2 h3 h4 h5)
-- the empty row of ArrayList
theorem k_alenE (hd : decode y.2.1 pc = .ok (.arraylength, 1)) (hp : pc + 1 = pc1)
    (kk : kW l G y d Φ Ψ k n pc1 L (.int (iI 0) :: st) h) : kW l G y d Φ Ψ k n pc L (.ref G.2.2.2 :: st) h := by
  subst hp
  intro p e R s m args below meth c H locs cells slots ls F h1 h2 h3 h4 h5
  obtain ⟨hx, hb, hml, hr9, hlocks, hnm, hown, htab, hts, hE, -⟩ := id F
  obtain ⟨cell, g1, g2, g3, g4, g5, g6, g7⟩ := hE.2.2.2.2.1
  exact W.alen hx hb (by rw [h4.2.1 _ (Array.getElem?_eq_some_iff.mp g1).1 g7]; exact g1) g2 g5 rfl rfl hd (kk p e R s m args below meth c H locs cells slots ls F h1 h2 h3 h4 h5)
theorem k_gets {idx : Nat} (hd : decode y.2.1 pc = .ok (.getstatic idx, 3)) (hp : pc + 3 = pc1) (hlk : Cond.fieldLink y.1.cls idx "java/util/ArrayList" "DEFAULTCAPACITY_EMPTY_ELEMENTDATA" "[Ljava/lang/Object;" ∈ kW0)
    (kk : kW l G y d Φ Ψ k n pc1 L (.ref G.2.2.2 :: st) h) : kW l G y d Φ Ψ k n pc L st h := by
  subst hp
  intro p e R s m args below meth c H locs cells slots ls F h1 h2 h3 h4 h5
  obtain ⟨hx, hb, hml, hr9, hlocks, hnm, hown, htab, hts, hE, -⟩ := id F
  exact va_gets hx hb hE.2.2.2.1 h4 hown (hts _ hlk) (fun x hx => hx) hd (kk p e R s m args below meth c H locs cells slots ls F h1 h2 h3 h4 h5)
theorem k_iast {a N : Nat} {f : Nat → Int} {i x : Int} (hd : decode y.2.1 pc = .ok (.iastore, 1)) (hp : pc + 1 = pc1) (ha : h a = some (kio G N f)) (hi : 0 ≤ i) (hi2 : i < N) (hN : N ≤ 1000000)
    (kk : kW l G y d Φ Ψ k n pc1 L st (kup h a (kio G N (kiu f i.toNat x)))) : kW l G y d Φ Ψ k n pc L (.int (iI x) :: .int (iI i) :: .ref a :: st) h := by
  subst hp
  intro p e R s m args below meth c H locs cells slots ls F h1 h2 h3 h4 h5
  obtain ⟨hx, hb, hml, hr9, hlocks, hnm, hown, htab, hts, hE, -⟩ := id F
  obtain ⟨q0, hq0⟩ := kHp_pl h3 ha
  refine va_iast hx hb hE.1 (kHp_P h3) (kHp_D h3) h4 q0 0 hq0 rfl (iI_in hi hi2 (by omega)) hd (fun H1 locs1 hP hD hS => ?_)
  rw [iI_cl hi (by omega), kiu_eq] at hP
  exact kk p e R s m args below meth c H1 locs1 cells slots ls F h1 h2 (kHp_set h3 hq0 hP) hS h5
theorem k_last {a N : Nat} {f : Nat → Int64} {i : Int} {x : Int64} (hd : decode y.2.1 pc = .ok (.lastore, 1)) (hp : pc + 1 = pc1) (ha : h a = some (klo1 G N f)) (hi : 0 ≤ i) (hi2 : i < N) (hN : N ≤ 1000000)
    (kk : kW l G y d Φ Ψ k n pc1 L st (kup h a (klo1 G N (vp_updL f i.toNat x)))) : kW l G y d Φ Ψ k n pc L (.long x :: .int (iI i) :: .ref a :: st) h := by
  subst hp
  intro p e R s m args below meth c H locs cells slots ls F h1 h2 h3 h4 h5
  obtain ⟨hx, hb, hml, hr9, hlocks, hnm, hown, htab, hts, hE, -⟩ := id F
  obtain ⟨q0, hq0⟩ := kHp_pl h3 ha
  refine va_last hx hb hE.1 (kHp_P h3) (kHp_D h3) h4 q0 1 hq0 rfl (iI_in hi hi2 (by omega)) hd (fun H1 locs1 hP hD hS => ?_)
  rw [iI_cl hi (by omega)] at hP
  exact kk p e R s m args below meth c H1 locs1 cells slots ls F h1 h2 (kHp_set h3 hq0 hP) hS h5
theorem k_dast {a N : Nat} {f : Nat → UInt64} {i : Int} {x : UInt64} (hd : decode y.2.1 pc = .ok (.dastore, 1)) (hp : pc + 1 = pc1) (ha : h a = some (kdo G N f)) (hi : 0 ≤ i) (hi2 : i < N) (hN : N ≤ 1000000)
    (kk : ∀ f' : Nat → UInt64, f' i.toNat = x → kW l G y d Φ Ψ k n pc1 L st (kup h a (kdo G N f'))) : kW l G y d Φ Ψ k n pc L (.double x :: .int (iI i) :: .ref a :: st) h := by
  subst hp
  intro p e R s m args below meth c H locs cells slots ls F h1 h2 h3 h4 h5
  obtain ⟨hx, hb, hml, hr9, hlocks, hnm, hown, htab, hts, hE, -⟩ := id F
  obtain ⟨q0, hq0⟩ := kHp_pl h3 ha
  refine va_dast hx hb hE.1 (kHp_P h3) (kHp_D h3) h4 q0 2 hq0 rfl (iI_in hi hi2 (by omega)) hd (fun H1 locs1 hP hD hS => ?_)
  rw [iI_cl hi (by omega)] at hP
  exact kk _ (by simp [vf_upd]) p e R s m args below meth c H1 locs1 cells slots ls F h1 h2 (kHp_set h3 hq0 hP) hS h5
-- storing a reference: into Object[] (castable), or into the row of its own class
theorem k_aast {a N v j ci : Nat} {C : String} {r : vw_C} {vs : List Value} {f : Nat → Option Nat} {i : Int} (hd : decode y.2.1 pc = .ok (.aastore, 1)) (hp : pc + 1 = pc1) (ha : h a = some (kro G j N f)) (hj : (kTys G)[j]? = some (G.2.1 j, .object C)) (hv : h v = some (.inr (ci, vs))) (hc : vwCl[ci]? = some r) (hC : C = r.1 ∨ (r.1, C) ∈ kCas) (hi : 0 ≤ i) (hi2 : i < N) (hN : N ≤ 1000000)
    (kk : kW l G y d Φ Ψ k n pc1 L st (kup h a (kro G j N (va_up f i.toNat (some v))))) : kW l G y d Φ Ψ k n pc L (.ref v :: .int (iI i) :: .ref a :: st) h := by
  subst hp
  intro p e R s m args below meth c H locs cells slots ls F h1 h2 h3 h4 h5
  obtain ⟨hx, hb, hml, hr9, hlocks, hnm, hown, htab, hts, hE, -⟩ := id F
  obtain ⟨q0, hq0⟩ := kHp_pl h3 ha
  obtain ⟨q1, hq1⟩ := kHp_pl h3 hv
  rcases hC with e9 | e9
  · subst e9
    refine va_astq hx hb hE.1 (kHp_P h3) (kHp_D h3) h4 q0 j q1 ci hq0 hj hq1 hc (iI_in hi hi2 (by omega)) hd (fun H1 locs1 hP hD hS => ?_)
    rw [iI_cl hi (by omega)] at hP
    exact kk p e R s m args below meth c H1 locs1 cells slots ls F h1 h2 (kHp_set h3 hq0 hP) hS h5
  · refine va_astqO hx hb hE.1 (kHp_P h3) (kHp_D h3) h4 q0 j q1 ci hq0 hj (hE.2.2.2.2.2.2.2.1 _ e9) hq1 hc (iI_in hi hi2 (by omega)) hd (fun H1 locs1 hP hD hS => ?_)
    rw [iI_cl hi (by omega)] at hP
    exact kk p e R s m args below meth c H1 locs1 cells slots ls F h1 h2 (kHp_set h3 hq0 hP) hS h5
theorem k_aastN {a N j : Nat} {C : String} {f : Nat → Option Nat} {i : Int} (hd : decode y.2.1 pc = .ok (.aastore, 1)) (hp : pc + 1 = pc1) (ha : h a = some (kro G j N f)) (hj : (kTys G)[j]? = some (G.2.1 j, .object C)) (hi : 0 ≤ i) (hi2 : i < N) (hN : N ≤ 1000000)
    (kk : kW l G y d Φ Ψ k n pc1 L st (kup h a (kro G j N (va_up f i.toNat none)))) : kW l G y d Φ Ψ k n pc L (.null :: .int (iI i) :: .ref a :: st) h := by
  subst hp
  intro p e R s m args below meth c H locs cells slots ls F h1 h2 h3 h4 h5
  obtain ⟨hx, hb, hml, hr9, hlocks, hnm, hown, htab, hts, hE, -⟩ := id F
  obtain ⟨q0, hq0⟩ := kHp_pl h3 ha
  refine va_astqN hx hb hE.1 (kHp_P h3) (kHp_D h3) h4 q0 j hq0 hj (iI_in hi hi2 (by omega)) hd (fun H1 locs1 hP hD hS => ?_)
  rw [iI_cl hi (by omega)] at hP
  exact kk p e R s m args below meth c H1 locs1 cells slots ls F h1 h2 (kHp_set h3 hq0 hP) hS h5
theorem k_cast {a ci idx : Nat} {r : vw_C} {vs : List Value} (hd : decode y.2.1 pc = .ok (.checkcast idx, 3)) (hp : pc + 3 = pc1) (hlk : Cond.classLink y.1.cls idx r.1 ∈ kW0) (ha : h a = some (.inr (ci, vs))) (hc : vwCl[ci]? = some r)
    (kk : kW l G y d Φ Ψ k n pc1 L (.ref a :: st) h) : kW l G y d Φ Ψ k n pc L (.ref a :: st) h := by
  subst hp
  intro p e R s m args below meth c H locs cells slots ls F h1 h2 h3 h4 h5
  obtain ⟨hx, hb, hml, hr9, hlocks, hnm, hown, htab, hts, hE, -⟩ := id F
  exact va_castS hx hb hown (hts _ hlk) (hE.1.1 ci r hc).2 (va_recv hE.1 (kHp_one h3 ha) (ci := ci) (q0 := 0) hc rfl) hd (kk p e R s m args below meth c H locs cells slots ls F h1 h2 h3 h4 h5)
theorem k_castN {idx : Nat} (hd : decode y.2.1 pc = .ok (.checkcast idx, 3)) (hp : pc + 3 = pc1)
    (kk : kW l G y d Φ Ψ k n pc1 L (.null :: st) h) : kW l G y d Φ Ψ k n pc L (.null :: st) h := by
  subst hp
  intro p e R s m args below meth c H locs cells slots ls F h1 h2 h3 h4 h5
  exact lv_castN F.1 F.2.1 hd (kk p e R s m args below meth c H locs cells slots ls F h1 h2 h3 h4 h5)
theorem k_objInit {a idx : Nat} (hd : decode y.2.1 pc = .ok (.invokespecial idx, 3)) (hp : pc + 3 = pc1) (h7 : Cond.methodLink y.1.cls idx Lib.objectInit ∈ kW0) (h8 : Cond.instanceMethod Lib.objectInit ∈ kW0) (h9 : Cond.code Lib.objectInit ⟨#[0xb1]⟩ 1 none ∈ kW0) (hw : (st.map fun v => v.category).sum ≤ 8)
    (kk : kW l G y d Φ Ψ k n pc1 L st h) : kW l G y d Φ Ψ k n pc L (.ref a :: st) h := by
  subst hp
  intro p e R s m args below meth c H locs cells slots ls F h1 h2 h3 h4 h5
  obtain ⟨hx, hb, hml, hr9, hlocks, hnm, hown, htab, hts, hE, hfr, hlo, -⟩ := id F
  exact W.objInit hx hb hown (hts _ h7) (hts _ h8) (hts _ h9) rfl (by rw [hml]; exact h5.1) rfl hd (Nat.le_trans (by have := kFr_ge d; omega) hfr) (by show 2 * 0 + _ + 12 ≤ _; have := kLo_ge d; omega) (W.eq rfl (kk p e R s m args below meth c H locs cells slots ls F h1 h2 h3 h4 h5))
end KH
end
section
/-! ===== rules: calls, exceptions ===== -/
-- what is known of a method that is called: its head among the words, its class
def kOk (y : kMR) (nA : Nat) : Prop := kHd y ∈ kW0 ∧ Cond.initialized y.1.cls ∈ kW0 ∧ (y.1.cls ≠ "java/lang/invoke/MethodHandle" ∧ y.1.cls ≠ "java/lang/invoke/VarHandle") ∧ (parseMethodDescriptor y.1.desc).map (fun d => d.parameters.length) = some nA
def kOkV (y : kMR) (nA : Nat) : Prop := y.2.2.2.2 = [] ∧ kOk y nA ∧ Cond.instanceMethod y.1 ∈ kW0 ∧ Cond.selects y.1.cls y.1 y.1 ∈ kW0
def kOkS (y : kMR) (nA : Nat) : Prop := kOk y nA ∧ Cond.static y.1 ∈ kW0
def kOkI (y : kMR) (nA : Nat) : Prop := y.2.2.2.2 = [] ∧ y.2.2.2.1 = none ∧ kOk y nA ∧ y.1.name = "<init>" ∧ Cond.instanceMethod y.1 ∈ kW0
section KC
variable {l : Launch} {G : kG} {y : kMR} {d : Nat} {Φ : Option Value → kAH → Prop} {Ψ : String → kAH → Prop} {k n pc pc1 : Nat} {L : List (Option Value)} {st rest : List Value} {h : kAH}
-- E is thrown, from pc, over the stack rest: of an exception that has a cell of its own
def kX (l : Launch) (G : kG) (y : kMR) (d : Nat) (Φ : Option Value → kAH → Prop) (Ψ : String → kAH → Prop) (k n pc : Nat) (L : List (Option Value)) (E : String) (h : kAH) : Prop :=
  ∀ (p : Program) (e : Env) (R : Room) (s : State) (m : MethodId) (args : Array Value) (below : List Frame) (meth : Method) (c : Code) (H : Heap) (locs : List Loc) (cells slots : Nat) (ls : Array Slot) (rest : List Value) (ce : Cell) (q : Addr),
  kFX l G y d p R s m args meth c → cells + k ≤ R.cells → slots + n ≤ R.slots → kHp G h H → va_S (kA G) s.heap H locs → lv_has ls y.2.2.1 (kpr 0 L) → H[q]? = some ce → ce.vm = .none → s.vm.findClass E = some ce.cls →
  vx_W p l e R s m args below meth c H locs cells slots (vx_MQ below (kQ G Φ) (kQX G Ψ) args s R.cells R.slots (kA G)) (F0 m pc ls rest) q
theorem kx_out {E : String} (hh : y.2.2.2.2 = []) (hq : Ψ E h) : kX l G y d Φ Ψ k n pc L E h := by
  intro p e R s m args below meth c H locs cells slots ls rest ce q F h1 h2 h3 h4 h5 g1 g2 g3
  obtain ⟨hx, hb, hml, hr9, hlocks, hnm, hown, htab, hts, hE, hfr, hlo, -⟩ := id F
  refine vx_out (fun x hx9 => ?_) hlocks g1 g2 g3 (fun t ht hW => ⟨⟨h, hq, by rw [ht]; exact h3⟩, by rw [ht]; exact h4.1, fun q q1 q2 => by rw [ht]; exact h4.2.1 q q1 q2⟩) h4.2.2 (by omega) (by omega)
  rw [htab, hh] at hx9
  cases hx9
-- the rows ahead of x don't take it, x does
theorem kx_catch {E name : String} (pre : List (Nat × Nat × Nat × Nat)) (x : Nat × Nat × Nat × Nat) (suf : List (Nat × Nat × Nat × Nat)) (hh : y.2.2.2.2 = pre ++ x :: suf)
    (hpass : ∀ z ∈ pre, (z.2.2.2 ≠ 0 ∧ ∃ nm : String, Cond.classLink y.1.cls z.2.2.2 nm ∈ kW0 ∧ (E, nm) ∈ kNcs)) (hx0 : x.1 ≤ pc) (hx1 : pc < x.2.1) (h0 : x.2.2.2 ≠ 0) (hlk : Cond.classLink y.1.cls x.2.2.2 name ∈ kW0) (hcast : (E, name) ∈ kCas)
    (kk : ∀ q : Nat, kW l G y d Φ Ψ k n x.2.2.1 L [.ref q] h) : kX l G y d Φ Ψ k n pc L E h := by
  intro p e R s m args below meth c H locs cells slots ls rest ce q F h1 h2 h3 h4 h5 g1 g2 g3
  obtain ⟨hx, hb, hml, hr9, hlocks, hnm, hown, htab, hts, hE, hfr, hlo, -⟩ := id F
  refine vx_catch (name := name) hown (tableOf pre) ⟨x.1, x.2.1, x.2.2.1, x.2.2.2⟩ (tableOf suf) ?_ ?_ ?_ h0 (hts _ hlk) (va_Nw.use rfl (hE.2.2.2.2.2.2.2.1 _ hcast)) g1 g2 g3 (kk q p e R s m args below meth c H locs cells slots ls F h1 h2 h3 h4 h5)
  · rw [htab, hh]
    simp [tableOf]
  · intro z hz
    obtain ⟨w, hw, e9⟩ := List.mem_map.mp hz
    subst e9
    obtain ⟨a1, nm, a2, a3⟩ := hpass w hw
    exact Or.inr ⟨a1, nm, hts _ a2, hE.2.2.2.2.2.2.1 _ a3⟩
  · simp [covers, hx0, hx1]
def kAt (own : String) (ic : Nat) (cls : String) (names : List String) : Prop := ∀ w ∈ vx_atS own ic cls names, w ∈ kW0 ∨ w ∈ kFace
-- throw new E("text")
theorem k_throw {cls text : String} {names : List String} {ik is ic : Nat} (pc3 pc4 pc6 pc9 : Nat) (hh : y.2.2.2.2 = [])
    (d0 : decode y.2.1 pc = .ok (.new ik, 3)) (d3 : decode y.2.1 pc3 = .ok (.dup, 1)) (d4 : decode y.2.1 pc4 = .ok (.ldc is, 2)) (d6 : decode y.2.1 pc6 = .ok (.invokespecial ic, 3)) (d9 : decode y.2.1 pc9 = .ok (.athrow, 1))
    (e3 : pc + 3 = pc3) (e4 : pc + 4 = pc4) (e6 : pc + 6 = pc6) (e9 : pc + 9 = pc9)
    (hcls : Bundle.fit cls = true) (hnames : ∀ n ∈ names, Bundle.fit n = true) (hnl : names.length ≤ 3)
    (hlk : Cond.classLink y.1.cls ik cls ∈ kW0) (hini : Cond.initialized cls ∈ kW0) (hstr : (y.1.cls, is, text) ∈ kStrs) (hat : kAt y.1.cls ic cls names)
    (hw : (st.map fun v => v.category).sum ≤ 8) (hk : 1 ≤ k) (hn : 6 ≤ n) (hq : Ψ cls h) : kW l G y d Φ Ψ k n pc L st h := by
  subst e3 e4 e6 e9
  intro p e R s m args below meth c H locs cells slots ls F h1 h2 h3 h4 h5
  obtain ⟨hx, hb, hml, hr9, hlocks, hnm, hown, htab, hts, hE, hfr, hlo, hN, hl9⟩ := id F
  obtain ⟨sa, hsa⟩ := hE.2.2.2.2.2.1 _ hstr
  have hg : ∀ w ∈ kW0, vx_ot w = true := fun w hw => by
    unfold vx_ot
    rw [(List.mem_filter.mp hw).2, Bool.or_true]
  refine vx_throwS (A := kA G) (sa := sa) (text := text) hx hb hl9 hown hcls hnames (hts _ hlk) (hts _ hini) hsa (fun w hw => (hat w hw).elim (fun z => hts _ z) (fun z => va_tabs (kFace_on z).2 rfl (hE.2.2.2.2.2.2.2.2.2.2.2.2.2.2 w z))) ?_ hE.2.1 hE.2.2.1 h4 (by rw [hml]; exact h5.1) d0 d3 d4 d6 d9 ?_ (by have := kFr_ge d; omega) (by have := kLo_ge d; omega) (by omega) (by omega) hlocks ?_ h4.2.2 (by omega) (by omega)
  · intro w hw
    rcases List.mem_cons.mp hw with z | hw
    · rw [z]; exact hg _ hlk
    · rcases List.mem_cons.mp hw with z | hw
      · rw [z]; exact hg _ hini
      · rcases hat w hw with z | z
        · exact hg _ z
        · unfold vx_ot
          rw [(kFace_on z).2]
          rfl
  · intro x hx9
    rw [htab, hh] at hx9
    cases hx9
  · intro t hW hz hk9
    exact ⟨⟨h, hq, kHp_kept h3 hk9⟩, Nat.le_trans h4.1 hz, fun q q1 q2 => by rw [hk9 q (Nat.lt_of_lt_of_le q1 h4.1)]; exact h4.2.1 q q1 q2⟩
theorem k_throwW {cls text : String} {names : List String} {ik is ic : Nat} (pc3 pc4 pc7 pc10 : Nat) (hh : y.2.2.2.2 = [])
    (d0 : decode y.2.1 pc = .ok (.new ik, 3)) (d3 : decode y.2.1 pc3 = .ok (.dup, 1)) (d4 : decode y.2.1 pc4 = .ok (.ldc_w is, 3)) (d7 : decode y.2.1 pc7 = .ok (.invokespecial ic, 3)) (d10 : decode y.2.1 pc10 = .ok (.athrow, 1))
    (e3 : pc + 3 = pc3) (e4 : pc + 4 = pc4) (e7 : pc + 7 = pc7) (e10 : pc + 10 = pc10)
    (hcls : Bundle.fit cls = true) (hnames : ∀ n ∈ names, Bundle.fit n = true) (hnl : names.length ≤ 3)
    (hlk : Cond.classLink y.1.cls ik cls ∈ kW0) (hini : Cond.initialized cls ∈ kW0) (hstr : (y.1.cls, is, text) ∈ kStrs) (hat : kAt y.1.cls ic cls names)
    (hw : (st.map fun v => v.category).sum ≤ 8) (hk : 1 ≤ k) (hn : 6 ≤ n) (hq : Ψ cls h) : kW l G y d Φ Ψ k n pc L st h := by
  subst e3 e4 e7 e10
  intro p e R s m args below meth c H locs cells slots ls F h1 h2 h3 h4 h5
  obtain ⟨hx, hb, hml, hr9, hlocks, hnm, hown, htab, hts, hE, hfr, hlo, hN, hl9⟩ := id F
  obtain ⟨sa, hsa⟩ := hE.2.2.2.2.2.1 _ hstr
  have hg : ∀ w ∈ kW0, vx_ot w = true := fun w hw => by
    unfold vx_ot
    rw [(List.mem_filter.mp hw).2, Bool.or_true]
  refine vx_throwSW (A := kA G) (sa := sa) (text := text) hx hb hl9 hown hcls hnames (hts _ hlk) (hts _ hini) hsa (fun w hw => (hat w hw).elim (fun z => hts _ z) (fun z => va_tabs (kFace_on z).2 rfl (hE.2.2.2.2.2.2.2.2.2.2.2.2.2.2 w z))) ?_ hE.2.1 hE.2.2.1 h4 (by rw [hml]; exact h5.1) d0 d3 d4 d7 d10 ?_ (by have := kFr_ge d; omega) (by have := kLo_ge d; omega) (by omega) (by omega) hlocks ?_ h4.2.2 (by omega) (by omega)
  · intro w hw
    rcases List.mem_cons.mp hw with z | hw
    · rw [z]; exact hg _ hlk
    · rcases List.mem_cons.mp hw with z | hw
      · rw [z]; exact hg _ hini
      · rcases hat w hw with z | z
        · exact hg _ z
        · unfold vx_ot
          rw [(kFace_on z).2]
          rfl
  · intro x hx9
    rw [htab, hh] at hx9
    cases hx9
  · intro t hW hz hk9
    exact ⟨⟨h, hq, kHp_kept h3 hk9⟩, Nat.le_trans h4.1 hz, fun q q1 q2 => by rw [hk9 q (Nat.lt_of_lt_of_le q1 h4.1)]; exact h4.2.1 q q1 q2⟩
def kAtX (own : String) (ic : Nat) (cls Y9 : String) (ix : Nat) (rx : ByteArray) (names : List String) : Prop := ∀ w ∈ kv_atS9 own ic cls Y9 ix rx names, w ∈ kW0 ∨ w ∈ kFace
theorem k_throwX {cls Y9 text : String} {names : List String} {ik is ic ix : Nat} {rx : ByteArray} (pc3 pc4 pc6 pc9 : Nat) (hh : y.2.2.2.2 = []) (x0 : decode rx 0 = .ok (.aload_n 0, 1)) (x1 : decode rx 1 = .ok (.aload_n 1, 1)) (x2 : decode rx 2 = .ok (.invokespecial ix, 3)) (x5 : decode rx 5 = .ok (.return_, 1)) (hY9 : Bundle.fit Y9 = true)
    (d0 : decode y.2.1 pc = .ok (.new ik, 3)) (d3 : decode y.2.1 pc3 = .ok (.dup, 1)) (d4 : decode y.2.1 pc4 = .ok (.ldc is, 2)) (d6 : decode y.2.1 pc6 = .ok (.invokespecial ic, 3)) (d9 : decode y.2.1 pc9 = .ok (.athrow, 1))
    (e3 : pc + 3 = pc3) (e4 : pc + 4 = pc4) (e6 : pc + 6 = pc6) (e9 : pc + 9 = pc9)
    (hcls : Bundle.fit cls = true) (hnames : ∀ n ∈ names, Bundle.fit n = true) (hnl : names.length ≤ 2)
    (hlk : Cond.classLink y.1.cls ik cls ∈ kW0) (hini : Cond.initialized cls ∈ kW0) (hstr : (y.1.cls, is, text) ∈ kStrs) (hat : kAtX y.1.cls ic cls Y9 ix rx names)
    (hw : (st.map fun v => v.category).sum ≤ 8) (hk : 1 ≤ k) (hn : 6 ≤ n) (hq : Ψ cls h) : kW l G y d Φ Ψ k n pc L st h := by
  subst e3 e4 e6 e9
  intro p e R s m args below meth c H locs cells slots ls F h1 h2 h3 h4 h5
  obtain ⟨hx, hb, hml, hr9, hlocks, hnm, hown, htab, hts, hE, hfr, hlo, hN, hl9⟩ := id F
  obtain ⟨sa, hsa⟩ := hE.2.2.2.2.2.1 _ hstr
  have hg : ∀ w ∈ kW0, vx_ot w = true := fun w hw => by
    unfold vx_ot
    rw [(List.mem_filter.mp hw).2, Bool.or_true]
  refine kv_makeX (A := kA G) (sa := sa) (text := text) hx hb hl9 x0 x1 x2 x5 hY9 hown hcls hnames (hts _ hlk) (hts _ hini) hsa (fun w hw => (hat w hw).elim (fun z => hts _ z) (fun z => va_tabs (kFace_on z).2 rfl (hE.2.2.2.2.2.2.2.2.2.2.2.2.2.2 w z))) ?_ hE.2.1 hE.2.2.1 h4 (by rw [hml]; exact h5.1) d0 d3 d4 d6 (by have := kFr_ge d; omega) (by have := kLo_ge d; omega) (by omega) (by omega) (fun q H1 ce g1 g2 g3 g4 g5 g6 => ?_)
  · intro w hw
    rcases List.mem_cons.mp hw with z | hw
    · rw [z]; exact hg _ hlk
    · rcases List.mem_cons.mp hw with z | hw
      · rw [z]; exact hg _ hini
      · rcases hat w hw with z | z
        · exact hg _ z
        · unfold vx_ot
          rw [(kFace_on z).2]
          rfl
  · exact kv_athrow hx hb d9 (kx_out (k := k - 1) (n := n - 6) hh hq p e R s m args below meth c H1 locs (cells + 1) (slots + 6) ls st ce q F (by omega) (by omega) (kHp_kept h3 g5) g6 h5 g1 g2 g3)
theorem k_throwXW {cls Y9 text : String} {names : List String} {ik is ic ix : Nat} {rx : ByteArray} (pc3 pc4 pc6 pc9 : Nat) (hh : y.2.2.2.2 = []) (x0 : decode rx 0 = .ok (.aload_n 0, 1)) (x1 : decode rx 1 = .ok (.aload_n 1, 1)) (x2 : decode rx 2 = .ok (.invokespecial ix, 3)) (x5 : decode rx 5 = .ok (.return_, 1)) (hY9 : Bundle.fit Y9 = true)
    (d0 : decode y.2.1 pc = .ok (.new ik, 3)) (d3 : decode y.2.1 pc3 = .ok (.dup, 1)) (d4 : decode y.2.1 pc4 = .ok (.ldc_w is, 3)) (d6 : decode y.2.1 pc6 = .ok (.invokespecial ic, 3)) (d9 : decode y.2.1 pc9 = .ok (.athrow, 1))
    (e3 : pc + 3 = pc3) (e4 : pc + 4 = pc4) (e6 : pc + 7 = pc6) (e9 : pc + 10 = pc9)
    (hcls : Bundle.fit cls = true) (hnames : ∀ n ∈ names, Bundle.fit n = true) (hnl : names.length ≤ 2)
    (hlk : Cond.classLink y.1.cls ik cls ∈ kW0) (hini : Cond.initialized cls ∈ kW0) (hstr : (y.1.cls, is, text) ∈ kStrs) (hat : kAtX y.1.cls ic cls Y9 ix rx names)
    (hw : (st.map fun v => v.category).sum ≤ 8) (hk : 1 ≤ k) (hn : 6 ≤ n) (hq : Ψ cls h) : kW l G y d Φ Ψ k n pc L st h := by
  subst e3 e4 e6 e9
  intro p e R s m args below meth c H locs cells slots ls F h1 h2 h3 h4 h5
  obtain ⟨hx, hb, hml, hr9, hlocks, hnm, hown, htab, hts, hE, hfr, hlo, hN, hl9⟩ := id F
  obtain ⟨sa, hsa⟩ := hE.2.2.2.2.2.1 _ hstr
  have hg : ∀ w ∈ kW0, vx_ot w = true := fun w hw => by
    unfold vx_ot
    rw [(List.mem_filter.mp hw).2, Bool.or_true]
  refine kv_makeXW (A := kA G) (sa := sa) (text := text) hx hb hl9 x0 x1 x2 x5 hY9 hown hcls hnames (hts _ hlk) (hts _ hini) hsa (fun w hw => (hat w hw).elim (fun z => hts _ z) (fun z => va_tabs (kFace_on z).2 rfl (hE.2.2.2.2.2.2.2.2.2.2.2.2.2.2 w z))) ?_ hE.2.1 hE.2.2.1 h4 (by rw [hml]; exact h5.1) d0 d3 d4 d6 (by have := kFr_ge d; omega) (by have := kLo_ge d; omega) (by omega) (by omega) (fun q H1 ce g1 g2 g3 g4 g5 g6 => ?_)
  · intro w hw
    rcases List.mem_cons.mp hw with z | hw
    · rw [z]; exact hg _ hlk
    · rcases List.mem_cons.mp hw with z | hw
      · rw [z]; exact hg _ hini
      · rcases hat w hw with z | z
        · exact hg _ z
        · unfold vx_ot
          rw [(kFace_on z).2]
          rfl
  · exact kv_athrow hx hb d9 (kx_out (k := k - 1) (n := n - 6) hh hq p e R s m args below meth c H1 locs (cells + 1) (slots + 6) ls st ce q F (by omega) (by omega) (kHp_kept h3 g5) g6 h5 g1 g2 g3)
-- behind a call
theorem kws_hd (y' : kMR) : kHd y' ∈ kws y' := by
  unfold kws
  exact List.mem_cons_self
theorem k_back {mc ms : Nat} {Φ' : Option Value → kAH → Prop} {Ψ' : String → kAH → Prop} {p : Program} {e : Env} {R : Room} {s : State} {m : MethodId} {args : Array Value} {below : List Frame} {meth : Method} {c : Code} {H : Heap} {locs : List Loc} {cells slots : Nat} {ls : Array Slot} {a : Array Value} {pc3 : Nat}
    (e3 : pc + 3 = pc3) (hr : vx_Run p l e R s m args below meth c H locs cells slots mc ms (F0 m pc ls st) rest (kQ G Φ' a) (kQX G Ψ') (kA G))
    (F : kFX l G y d p R s m args meth c) (h1 : cells + k ≤ R.cells) (h2 : slots + n ≤ R.slots) (h4 : va_S (kA G) s.heap H locs) (h5 : lv_has ls y.2.2.1 (kpr 0 L)) (hmc : mc ≤ k) (hms : ms ≤ n)
    (kn : ∀ v h', Φ' v h' → kW l G y d Φ Ψ (k - mc) (n - ms) pc3 L (v.toList ++ rest) h') (kx : ∀ E h', Ψ' E h' → kX l G y d Φ Ψ (k - mc) (n - ms) pc L E h') :
    W p l e R s m args below meth c H locs cells slots (vx_MQ below (kQ G Φ) (kQX G Ψ) args s R.cells R.slots (kA G)) (F0 m pc ls st) := by
  subst e3
  intro T hT X
  rcases hr T hT X with ⟨v, st₀, t, T', LL, h0, X', hL, e1, e2, ⟨⟨v', h', hv, hp, hb⟩, hF⟩, stp⟩ | ⟨q, st₀, t, T', LL, E, ce, h0, X', hL, e1, e2, ⟨⟨h', hp, hb⟩, hF⟩, hce, hcv, hcl, stp⟩
  · cases hv
    obtain ⟨k1, k2, k3⟩ := vx_keep h0 e1 h4 (fun q _ z => z) (fun q z => z) hL hF
    obtain ⟨t2, a1, b1⟩ := kn v h' hp p e R s m args below meth c T'.heap (locs ++ LL) (cells + mc) (slots + ms) ls F (by omega) (by omega) (by rw [e1]; exact hb) k3 h5 T' rfl X'
    exact ⟨t2, stp t2 a1, b1⟩
  · obtain ⟨k1, k2, k3⟩ := vx_keep h0 e1 h4 (fun q _ z => z) (fun q z => z) hL hF
    obtain ⟨t2, a1, b1⟩ := kx E h' hp p e R s m args below meth c T'.heap (locs ++ LL) (cells + mc) (slots + ms) ls rest ce q F (by omega) (by omega) (by rw [e1]; exact hb) k3 h5 (by rw [e1]; exact hce) hcv hcl T' rfl X'
    exact ⟨t2, stp.trans a1, b1⟩
theorem k_pre {as : List Value} {s : State} {H : Heap} {locs : List Loc} (hE : kEnv G s s.heap) (h3 : kHp G h H) (h4 : va_S (kA G) s.heap H locs) (hN : G.2.2.1 ≤ s.heap.size) : ∀ U : State, U.heap = H → s.WarmedH U.vm → va_Pc as (fun U => kEnv G U U.heap ∧ kHp G h U.heap ∧ G.2.2.1 ≤ U.heap.size) as.toArray U :=
  fun U hU hW => ⟨rfl, kEnv_moved hE hW (fun q q1 q2 => by rw [hU]; exact h4.2.1 q q1 q2), by rw [hU]; exact h3, by rw [hU]; exact Nat.le_trans hN h4.1⟩
theorem k_ws {y' : kMR} {s : State} {args : Array Value} (hts : ∀ w ∈ kW0, w.before args s = true) (hd : kHd y' ∈ kW0) : ∀ w ∈ kws y', ∀ (a' : Array Value) (U : State), s.WarmedH U.vm → w.before a' U = true :=
  pay_in hts (fun w hw => (List.mem_cons.mp hw).elim (fun e => by rw [e]; exact kW0_good _ hd) (fun hw => kW0_good w hw))
theorem k_cb {y' : kMR} {R : Room} {s : State} {args : Array Value} {idx nA d' mc ms : Nat} (hts : ∀ w ∈ kW0, w.before args s = true) (hh : y'.2.2.2.2 = []) (hok : kOk y' nA) (hlk : Cond.methodLink y.1.cls idx y'.1 ∈ kW0) (hfr : kFr d ≤ R.frames) (hlo : kLo d ≤ R.locals) (hdd : d' < d) (hml9 : y'.2.2.1 ≤ 20) :
    CallB R s args y.1.cls idx y'.1 y'.2.1 y'.2.2.1 y'.2.2.2.1 (kws y') (krm d' mc ms) mc ms nA := by
  obtain ⟨o1, o2, o3, o4⟩ := hok
  have hd : kHd y' = Cond.code y'.1 y'.2.1 y'.2.2.1 y'.2.2.2.1 := by unfold kHd; rw [hh]; rfl
  refine ⟨rfl, rfl, Nat.le_trans (kFr_step hdd) hfr, Nat.le_trans (kLo_step hdd hml9) hlo, k_ws hts o1, (by have z := kws_hd y'; rw [hd] at z; exact z), (by have z := hts _ o1; rw [hd] at z; exact z), hts _ o2, o3, fun sig h => ?_, hts _ hlk⟩
  rw [h] at o4
  exact (Option.some.inj o4).symm
theorem k_met {y' : kMR} {d' mc ms : Nat} {as : List Value} {Φ' : Option Value → kAH → Prop} {Ψ' : String → kAH → Prop} (hM : kC l G y' d' mc ms as h Φ' Ψ') (hX : ∀ E h', ¬ Ψ' E h') : Met l y'.1 (kws y') (krm d' mc ms) (va_Pc as (fun U => kEnv G U U.heap ∧ kHp G h U.heap ∧ G.2.2.1 ≤ U.heap.size)) (kQ G Φ') mc ms (kA G) := by
  intro p e ha hc hk s m args below hf happ hP hT
  obtain ⟨n9, o, g1, g2, g3, g4⟩ := hM p e ha hc hk s m args below hf happ hP hT
  refine ⟨n9, o, g1, g2, g3, ?_⟩
  rcases g4 with g5 | ⟨q, e0, E, ce, LL, ⟨⟨h', e1, e2⟩, e3⟩, g5⟩
  · exact g5
  · exact absurd e1 (hX E h')
theorem k_callV {y' : kMR} {d' mc ms idx nA ci b pc3 : Nat} {as fs : List Value} {r : vw_C} {Φ' : Option Value → kAH → Prop} {Ψ' : String → kAH → Prop} (hd : decode y.2.1 pc = .ok (.invokevirtual idx, 3)) (e3 : pc + 3 = pc3) (hlk : Cond.methodLink y.1.cls idx y'.1 ∈ kW0) (hok : kOkV y' nA) (hnA : as.length = nA) (hst : st = as.reverse ++ .ref b :: rest)
    (hb9 : h b = some (.inr (ci, fs))) (hci : vwCl[ci]? = some r) (hr9 : r.1 = y'.1.cls) (hM : kC l G y' d' mc ms (.ref b :: as) h Φ' Ψ') (hdd : d' < d) (hml9 : y'.2.2.1 ≤ 20) (hmc : mc ≤ k) (hms : ms ≤ n) (hw : (rest.map fun v => v.category).sum ≤ 8)
    (kn : ∀ v h', Φ' v h' → kW l G y d Φ Ψ (k - mc) (n - ms) pc3 L (v.toList ++ rest) h') (kx : ∀ E h', Ψ' E h' → kX l G y d Φ Ψ (k - mc) (n - ms) pc L E h') : kW l G y d Φ Ψ k n pc L st h := by
  intro p e R s m args below meth c H locs cells slots ls F h1 h2 h3 h4 h5
  obtain ⟨hx, hb, hml, hrt, hlocks, hnm, hown, htab, hts, hE, hfr, hlo, hN, hl9⟩ := id F
  obtain ⟨o0, o1, o2, o3⟩ := hok
  refine k_back e3 (vx_runV (C := y'.1.cls) (As := as) (rest := rest) ⟨hx, hb, hml, hown, hts⟩ hM ⟨k_cb hts o0 o1 hlk hfr hlo hdd hml9, hts _ o2, hts _ o3⟩ ⟨kblind, ?_, k_pre hE h3 h4 hN⟩ rfl hnA h5.1 hst (lv_room hw) hd ⟨by omega, by omega⟩) F h1 h2 h4 h5 hmc hms kn kx
  rw [← hr9]
  exact va_recv hE.1 (kHp_one h3 hb9) (ci := ci) (q0 := 0) hci rfl
theorem k_callS {y' : kMR} {d' mc ms idx nA pc3 : Nat} {as : List Value} {Φ' : Option Value → kAH → Prop} {Ψ' : String → kAH → Prop} (hd : decode y.2.1 pc = .ok (.invokestatic idx, 3)) (e3 : pc + 3 = pc3) (hh9 : y'.2.2.2.2 = []) (hlk : Cond.methodLink y.1.cls idx y'.1 ∈ kW0) (hok : kOkS y' nA) (hnA : as.length = nA) (hst : st = as.reverse ++ rest)
    (hM : kC l G y' d' mc ms as h Φ' Ψ') (hdd : d' < d) (hml9 : y'.2.2.1 ≤ 20) (hmc : mc ≤ k) (hms : ms ≤ n) (hw : (rest.map fun v => v.category).sum ≤ 8)
    (kn : ∀ v h', Φ' v h' → kW l G y d Φ Ψ (k - mc) (n - ms) pc3 L (v.toList ++ rest) h') (kx : ∀ E h', Ψ' E h' → kX l G y d Φ Ψ (k - mc) (n - ms) pc L E h') : kW l G y d Φ Ψ k n pc L st h := by
  intro p e R s m args below meth c H locs cells slots ls F h1 h2 h3 h4 h5
  obtain ⟨hx, hb, hml, hrt, hlocks, hnm, hown, htab, hts, hE, hfr, hlo, hN, hl9⟩ := id F
  exact k_back e3 (vx_runS (As := as) (rest := rest) ⟨hx, hb, hml, hown, hts⟩ hM ⟨k_cb hts hh9 hok.1 hlk hfr hlo hdd hml9, hts _ hok.2⟩ ⟨kblind, k_pre hE h3 h4 hN⟩ rfl hnA h5.1 hst (lv_room hw) hd ⟨by omega, by omega⟩) F h1 h2 h4 h5 hmc hms kn kx
-- a static method with handlers of its own
theorem k_callSX {y' : kMR} {d' mc ms idx nA pc3 : Nat} {as : List Value} {Φ' : Option Value → kAH → Prop} {Ψ' : String → kAH → Prop} (hd : decode y.2.1 pc = .ok (.invokestatic idx, 3)) (e3 : pc + 3 = pc3) (hh9 : y'.2.2.2.2.isEmpty = false) (hlk : Cond.methodLink y.1.cls idx y'.1 ∈ kW0) (hok : kOkS y' nA) (hnA : as.length = nA) (hst : st = as.reverse ++ rest)
    (hM : kC l G y' d' mc ms as h Φ' Ψ') (hdd : d' < d) (hml9 : y'.2.2.1 ≤ 20) (hmc : mc ≤ k) (hms : ms ≤ n) (hw : (rest.map fun v => v.category).sum ≤ 8)
    (kn : ∀ v h', Φ' v h' → kW l G y d Φ Ψ (k - mc) (n - ms) pc3 L (v.toList ++ rest) h') (kx : ∀ E h', Ψ' E h' → kX l G y d Φ Ψ (k - mc) (n - ms) pc L E h') : kW l G y d Φ Ψ k n pc L st h := by
  intro p e R s m args below meth c H locs cells slots ls F h1 h2 h3 h4 h5
  obtain ⟨hx, hb, hml, hrt, hlocks, hnm, hown, htab, hts, hE, hfr, hlo, hN, hl9⟩ := id F
  have hHd : kHd y' = Cond.codeWith y'.1 y'.2.1 y'.2.2.1 y'.2.2.2.1 y'.2.2.2.2 := by unfold kHd; rw [hh9]; rfl
  obtain ⟨⟨o1, o2, o3, o4⟩, o5⟩ := hok
  refine k_back e3 (vx_runSX (hh := y'.2.2.2.2) (bytes := y'.2.1) (maxL := y'.2.2.1) (ret := y'.2.2.2.1) (n := nA) (As := as) (rest := rest) ⟨hx, hb, hml, hown, hts⟩ hM ⟨⟨rfl, rfl, Nat.le_trans (kFr_step hdd) hfr, Nat.le_trans (kLo_step hdd hml9) hlo, k_ws hts o1, (by have z := kws_hd y'; rw [hHd] at z; exact z)⟩, (by have z := hts _ o1; rw [hHd] at z; exact z), hts _ o2, o3, fun sig h => ?_, hts _ hlk, hts _ o5⟩ ⟨kblind, k_pre hE h3 h4 hN⟩ rfl hnA h5.1 hst (lv_room hw) hd ⟨by omega, by omega⟩) F h1 h2 h4 h5 hmc hms kn kx
  rw [h] at o4
  exact (Option.some.inj o4).symm
-- a private static method of the nest host
theorem k_callSN {y' : kMR} {d' mc ms idx nA pc3 : Nat} {host : String} {as : List Value} {Φ' : Option Value → kAH → Prop} {Ψ' : String → kAH → Prop} (hd : decode y.2.1 pc = .ok (.invokestatic idx, 3)) (e3 : pc + 3 = pc3) (hh9 : y'.2.2.2.2 = []) (hlk : (y.1.cls, idx, y'.1, host) ∈ kNst) (hok : kOkS y' nA) (hnA : as.length = nA) (hst : st = as.reverse ++ rest)
    (hM : kC l G y' d' mc ms as h Φ' Ψ') (hX : ∀ E h', ¬ Ψ' E h') (hdd : d' < d) (hml9 : y'.2.2.1 ≤ 20) (hmc : mc ≤ k) (hms : ms ≤ n) (hw : (rest.map fun v => v.category).sum ≤ 8)
    (kn : ∀ v h', Φ' v h' → kW l G y d Φ Ψ (k - mc) (n - ms) pc3 L (v.toList ++ rest) h') : kW l G y d Φ Ψ k n pc L st h := by
  intro p e R s m args below meth c H locs cells slots ls F h1 h2 h3 h4 h5
  obtain ⟨hx, hb, hml, hrt, hlocks, hnm, hown, htab, hts, hE, hfr, hlo, hN, hl9⟩ := id F
  have hHd : kHd y' = Cond.code y'.1 y'.2.1 y'.2.2.1 y'.2.2.2.1 := by unfold kHd; rw [hh9]; rfl
  obtain ⟨⟨o1, o2, o3, o4⟩, o5⟩ := hok
  refine k_back e3 (Ψ' := Ψ') (fun T hT X => Or.inl (va_runSN (host := host) (bytes := y'.2.1) (maxL := y'.2.2.1) (ret := y'.2.2.2.1) (n := nA) (As := as) (rest := rest) ⟨hx, hb, hml, hown, hts⟩ (k_met hM hX) ⟨⟨⟨rfl, rfl, Nat.le_trans (kFr_step hdd) hfr, Nat.le_trans (kLo_step hdd hml9) hlo, k_ws hts o1, (by have z := kws_hd y'; rw [hHd] at z; exact z)⟩, (by have z := hts _ o1; rw [hHd] at z; exact z), hts _ o2, o3, fun sig h => ?_, va_Nw.use rfl (hE.2.2.2.2.2.2.2.2.1 _ hlk)⟩, hts _ o5, trivial⟩ ⟨kblind, k_pre hE h3 h4 hN⟩ rfl hnA h5.1 hst (lv_room hw) hd ⟨by omega, by omega⟩ T hT X)) F h1 h2 h4 h5 hmc hms kn (fun E h' z => absurd z (hX E h'))
  rw [h] at o4
  exact (Option.some.inj o4).symm
theorem k_callI {y' : kMR} {d' mc ms idx nA b pc3 : Nat} {as : List Value} {Φ' : Option Value → kAH → Prop} {Ψ' : String → kAH → Prop} (hd : decode y.2.1 pc = .ok (.invokespecial idx, 3)) (e3 : pc + 3 = pc3) (hlk : Cond.methodLink y.1.cls idx y'.1 ∈ kW0) (hok : kOkI y' nA) (hnA : as.length = nA) (hst : st = as.reverse ++ .ref b :: rest)
    (hM : kC l G y' d' mc ms (.ref b :: as) h Φ' Ψ') (hX : ∀ E h', ¬ Ψ' E h') (hdd : d' < d) (hml9 : y'.2.2.1 ≤ 20) (hmc : mc ≤ k) (hms : ms ≤ n) (hw : (rest.map fun v => v.category).sum ≤ 8)
    (kn : ∀ v h', Φ' v h' → kW l G y d Φ Ψ (k - mc) (n - ms) pc3 L (v.toList ++ rest) h') : kW l G y d Φ Ψ k n pc L st h := by
  intro p e R s m args below meth c H locs cells slots ls F h1 h2 h3 h4 h5
  obtain ⟨hx, hb, hml, hrt, hlocks, hnm, hown, htab, hts, hE, hfr, hlo, hN, hl9⟩ := id F
  obtain ⟨o0, o9, o1, o2, o3⟩ := hok
  have cb := k_cb (R := R) (mc := mc) (ms := ms) (d' := d') hts o0 o1 hlk hfr hlo hdd hml9
  rw [o9] at cb
  exact k_back e3 (Ψ' := Ψ') (fun T hT X => Or.inl (va_runI (As := as) (rest := rest) ⟨hx, hb, hml, hown, hts⟩ (k_met hM hX) ⟨cb, o2, hts _ o3⟩ ⟨kblind, k_pre hE h3 h4 hN⟩ rfl hnA h5.1 hst (lv_room hw) hd ⟨by omega, by omega⟩ T hT X)) F h1 h2 h4 h5 hmc hms kn (fun E h' z => absurd z (hX E h'))
end KC
end
section
/-! ===== facts by the tables: methods, links, fields, classes, texts ===== -/
theorem inT1 {w : Cond} (h : w ∈ tables_1_1) : w ∈ lw_tbl := by
  unfold lw_tbl tables_1
  exact List.mem_append_right _ (List.mem_append_left _ h)
theorem inT2 {w : Cond} (h : w ∈ tables_1_2) : w ∈ lw_tbl := by
  unfold lw_tbl tables_1
  exact List.mem_append_right _ (List.mem_append_right _ (List.mem_append_left _ h))
theorem inT3 {w : Cond} (h : w ∈ tables_1_3) : w ∈ lw_tbl := by
  unfold lw_tbl tables_1
  exact List.mem_append_right _ (List.mem_append_right _ (List.mem_append_right _ (List.mem_append_left _ h)))
theorem inT4 {w : Cond} (h : w ∈ tables_1_4) : w ∈ lw_tbl := by
  unfold lw_tbl tables_1
  exact List.mem_append_right _ (List.mem_append_right _ (List.mem_append_right _ (List.mem_append_right _ (List.mem_append_left _ h))))
theorem inT5 {w : Cond} (h : w ∈ tables_1_5) : w ∈ lw_tbl := by
  unfold lw_tbl tables_1
  exact List.mem_append_right _ (List.mem_append_right _ (List.mem_append_right _ (List.mem_append_right _ (List.mem_append_right _ (List.mem_append_left _ h)))))
theorem inT6 {w : Cond} (h : w ∈ tables_1_6) : w ∈ lw_tbl := by
  unfold lw_tbl tables_1
  exact List.mem_append_right _ (List.mem_append_right _ (List.mem_append_right _ (List.mem_append_right _ (List.mem_append_right _ (List.mem_append_right _ (List.mem_append_left _ h))))))
theorem inT7 {w : Cond} (h : w ∈ tables_1_7) : w ∈ lw_tbl := by
  unfold lw_tbl tables_1
  exact List.mem_append_right _ (List.mem_append_right _ (List.mem_append_right _ (List.mem_append_right _ (List.mem_append_right _ (List.mem_append_right _ (List.mem_append_right _ (h)))))))
theorem inW_RJx4a65c : ∀ w ∈ u_ws RJx4a65c TJx4a65c 3, w ∈ kW0 := by
  have h : (u_ws RJx4a65c TJx4a65c 3).all (fun w => decide (w ∈ lw_tbl) && goodWord w) = true := by decide +kernel
  intro w hw
  have h1 := List.all_eq_true.mp h w hw
  simp only [Bool.and_eq_true, decide_eq_true_eq] at h1
  exact kW0_in h1.1 h1.2
theorem inW_RX0 : ∀ w ∈ u_ws RX0 TX0 4, w ∈ kW0 := by
  have h : (u_ws RX0 TX0 4).all (fun w => decide (w ∈ lw_tbl) && goodWord w) = true := by decide +kernel
  intro w hw
  have h1 := List.all_eq_true.mp h w hw
  simp only [Bool.and_eq_true, decide_eq_true_eq] at h1
  exact kW0_in h1.1 h1.2
theorem inW_RX1 : ∀ w ∈ u_ws RX1 TX1 1, w ∈ kW0 := by
  have h : (u_ws RX1 TX1 1).all (fun w => decide (w ∈ lw_tbl) && goodWord w) = true := by decide +kernel
  intro w hw
  have h1 := List.all_eq_true.mp h w hw
  simp only [Bool.and_eq_true, decide_eq_true_eq] at h1
  exact kW0_in h1.1 h1.2
theorem inW_RX2 : ∀ w ∈ u_ws RX2 TX2 6, w ∈ kW0 := by
  have h : (u_ws RX2 TX2 6).all (fun w => decide (w ∈ lw_tbl) && goodWord w) = true := by decide +kernel
  intro w hw
  have h1 := List.all_eq_true.mp h w hw
  simp only [Bool.and_eq_true, decide_eq_true_eq] at h1
  exact kW0_in h1.1 h1.2
theorem inW_RX3 : ∀ w ∈ u_ws RX3 TX3 3, w ∈ kW0 := by
  have h : (u_ws RX3 TX3 3).all (fun w => decide (w ∈ lw_tbl) && goodWord w) = true := by decide +kernel
  intro w hw
  have h1 := List.all_eq_true.mp h w hw
  simp only [Bool.and_eq_true, decide_eq_true_eq] at h1
  exact kW0_in h1.1 h1.2
theorem inW_RX4 : ∀ w ∈ u_ws RX4 TX4 3, w ∈ kW0 := by
  have h : (u_ws RX4 TX4 3).all (fun w => decide (w ∈ lw_tbl) && goodWord w) = true := by decide +kernel
  intro w hw
  have h1 := List.all_eq_true.mp h w hw
  simp only [Bool.and_eq_true, decide_eq_true_eq] at h1
  exact kW0_in h1.1 h1.2
theorem inW_RX5 : ∀ w ∈ u_ws RX5 TX5 7, w ∈ kW0 := by
  have h : (u_ws RX5 TX5 7).all (fun w => decide (w ∈ lw_tbl) && goodWord w) = true := by decide +kernel
  intro w hw
  have h1 := List.all_eq_true.mp h w hw
  simp only [Bool.and_eq_true, decide_eq_true_eq] at h1
  exact kW0_in h1.1 h1.2
theorem inW_RX6 : ∀ w ∈ u_ws RX6 TX6 5, w ∈ kW0 := by
  have h : (u_ws RX6 TX6 5).all (fun w => decide (w ∈ lw_tbl) && goodWord w) = true := by decide +kernel
  intro w hw
  have h1 := List.all_eq_true.mp h w hw
  simp only [Bool.and_eq_true, decide_eq_true_eq] at h1
  exact kW0_in h1.1 h1.2
abbrev m_X0_init : kMR := (yX0_init, cX0_init, 4, (none), [])
theorem o_X0_init : kOkI m_X0_init 3 := ⟨rfl, rfl, ⟨kW0_in (inT3 (List.mem_of_getElem? (i := 66) rfl)) rfl, kW0_in (inT1 (List.mem_of_getElem? (i := 24) rfl)) rfl, ⟨by decide, by decide⟩, by decide +kernel⟩, rfl, kW0_in (inT3 (List.mem_of_getElem? (i := 65) rfl)) rfl⟩
abbrev m_X1_init : kMR := (yX1_init, cX1_init, 1, (none), [])
theorem o_X1_init : kOkI m_X1_init 0 := ⟨rfl, rfl, ⟨kW0_in (inT1 (List.mem_of_getElem? (i := 67) rfl)) rfl, kW0_in (inT1 (List.mem_of_getElem? (i := 3) rfl)) rfl, ⟨by decide, by decide⟩, by decide +kernel⟩, rfl, kW0_in (inT1 (List.mem_of_getElem? (i := 66) rfl)) rfl⟩
abbrev m_X1_take : kMR := (yX1_take, cX1_take, 3, (none), [])
theorem o_X1_take : kOkV m_X1_take 1 := ⟨rfl, ⟨kW0_in (inT3 (List.mem_of_getElem? (i := 94) rfl)) rfl, kW0_in (inT1 (List.mem_of_getElem? (i := 3) rfl)) rfl, ⟨by decide, by decide⟩, by decide +kernel⟩, kW0_in (inT3 (List.mem_of_getElem? (i := 92) rfl)) rfl, kW0_in (inT3 (List.mem_of_getElem? (i := 93) rfl)) rfl⟩
abbrev m_X1_drop : kMR := (yX1_drop, cX1_drop, 3, (none), [])
theorem o_X1_drop : kOkV m_X1_drop 1 := ⟨rfl, ⟨kW0_in (inT4 (List.mem_of_getElem? (i := 170) rfl)) rfl, kW0_in (inT1 (List.mem_of_getElem? (i := 3) rfl)) rfl, ⟨by decide, by decide⟩, by decide +kernel⟩, kW0_in (inT4 (List.mem_of_getElem? (i := 168) rfl)) rfl, kW0_in (inT4 (List.mem_of_getElem? (i := 169) rfl)) rfl⟩
abbrev m_X2_init : kMR := (yX2_init, cX2_init, 4, (none), [])
theorem o_X2_init : kOkI m_X2_init 3 := ⟨rfl, rfl, ⟨kW0_in (inT2 (List.mem_of_getElem? (i := 145) rfl)) rfl, kW0_in (inT1 (List.mem_of_getElem? (i := 13) rfl)) rfl, ⟨by decide, by decide⟩, by decide +kernel⟩, rfl, kW0_in (inT2 (List.mem_of_getElem? (i := 144) rfl)) rfl⟩
abbrev m_X2_expectedPeople : kMR := (yX2_expectedPeople, cX2_expectedPeople, 1, (some .int), [])
theorem o_X2_expectedPeople : kOkV m_X2_expectedPeople 0 := ⟨rfl, ⟨kW0_in (inT1 (List.mem_of_getElem? (i := 165) rfl)) rfl, kW0_in (inT1 (List.mem_of_getElem? (i := 13) rfl)) rfl, ⟨by decide, by decide⟩, by decide +kernel⟩, kW0_in (inT1 (List.mem_of_getElem? (i := 163) rfl)) rfl, kW0_in (inT1 (List.mem_of_getElem? (i := 164) rfl)) rfl⟩
abbrev m_X2_expectedCount : kMR := (yX2_expectedCount, cX2_expectedCount, 1, (some .int), [])
theorem o_X2_expectedCount : kOkV m_X2_expectedCount 0 := ⟨rfl, ⟨kW0_in (inT1 (List.mem_of_getElem? (i := 161) rfl)) rfl, kW0_in (inT1 (List.mem_of_getElem? (i := 13) rfl)) rfl, ⟨by decide, by decide⟩, by decide +kernel⟩, kW0_in (inT1 (List.mem_of_getElem? (i := 159) rfl)) rfl, kW0_in (inT1 (List.mem_of_getElem? (i := 160) rfl)) rfl⟩
abbrev m_X2_expects : kMR := (yX2_expects, cX2_expects, 2, (some .boolean), [])
theorem o_X2_expects : kOkV m_X2_expects 1 := ⟨rfl, ⟨kW0_in (inT2 (List.mem_of_getElem? (i := 51) rfl)) rfl, kW0_in (inT1 (List.mem_of_getElem? (i := 13) rfl)) rfl, ⟨by decide, by decide⟩, by decide +kernel⟩, kW0_in (inT2 (List.mem_of_getElem? (i := 49) rfl)) rfl, kW0_in (inT2 (List.mem_of_getElem? (i := 50) rfl)) rfl⟩
abbrev m_X2_answerFrom : kMR := (yX2_answerFrom, cX2_answerFrom, 2, (some .char), [])
theorem o_X2_answerFrom : kOkV m_X2_answerFrom 1 := ⟨rfl, ⟨kW0_in (inT4 (List.mem_of_getElem? (i := 192) rfl)) rfl, kW0_in (inT1 (List.mem_of_getElem? (i := 13) rfl)) rfl, ⟨by decide, by decide⟩, by decide +kernel⟩, kW0_in (inT4 (List.mem_of_getElem? (i := 190) rfl)) rfl, kW0_in (inT4 (List.mem_of_getElem? (i := 191) rfl)) rfl⟩
abbrev m_X2_note : kMR := (yX2_note, cX2_note, 4, (none), [])
theorem o_X2_note : kOkV m_X2_note 2 := ⟨rfl, ⟨kW0_in (inT4 (List.mem_of_getElem? (i := 206) rfl)) rfl, kW0_in (inT1 (List.mem_of_getElem? (i := 13) rfl)) rfl, ⟨by decide, by decide⟩, by decide +kernel⟩, kW0_in (inT4 (List.mem_of_getElem? (i := 204) rfl)) rfl, kW0_in (inT4 (List.mem_of_getElem? (i := 205) rfl)) rfl⟩
abbrev m_X2_standingDates : kMR := (yX2_standingDates, cX2_standingDates, 3, (some .int), [])
theorem o_X2_standingDates : kOkV m_X2_standingDates 0 := ⟨rfl, ⟨kW0_in (inT4 (List.mem_of_getElem? (i := 237) rfl)) rfl, kW0_in (inT1 (List.mem_of_getElem? (i := 13) rfl)) rfl, ⟨by decide, by decide⟩, by decide +kernel⟩, kW0_in (inT4 (List.mem_of_getElem? (i := 235) rfl)) rfl, kW0_in (inT4 (List.mem_of_getElem? (i := 236) rfl)) rfl⟩
abbrev m_X2_standingTimes : kMR := (yX2_standingTimes, cX2_standingTimes, 4, (some .int), [])
theorem o_X2_standingTimes : kOkV m_X2_standingTimes 0 := ⟨rfl, ⟨kW0_in (inT1 (List.mem_of_getElem? (i := 154) rfl)) rfl, kW0_in (inT1 (List.mem_of_getElem? (i := 13) rfl)) rfl, ⟨by decide, by decide⟩, by decide +kernel⟩, kW0_in (inT1 (List.mem_of_getElem? (i := 152) rfl)) rfl, kW0_in (inT1 (List.mem_of_getElem? (i := 153) rfl)) rfl⟩
abbrev m_X3_init : kMR := (yX3_init, cX3_init, 4, (none), [])
theorem o_X3_init : kOkI m_X3_init 3 := ⟨rfl, rfl, ⟨kW0_in (inT1 (List.mem_of_getElem? (i := 47) rfl)) rfl, kW0_in (inT1 (List.mem_of_getElem? (i := 2) rfl)) rfl, ⟨by decide, by decide⟩, by decide +kernel⟩, rfl, kW0_in (inT1 (List.mem_of_getElem? (i := 46) rfl)) rfl⟩
abbrev m_X4_init : kMR := (yX4_init, cX4_init, 4, (none), [])
theorem o_X4_init : kOkI m_X4_init 3 := ⟨rfl, rfl, ⟨kW0_in (inT2 (List.mem_of_getElem? (i := 178) rfl)) rfl, kW0_in (inT1 (List.mem_of_getElem? (i := 14) rfl)) rfl, ⟨by decide, by decide⟩, by decide +kernel⟩, rfl, kW0_in (inT2 (List.mem_of_getElem? (i := 177) rfl)) rfl⟩
abbrev m_X4_end : kMR := (yX4_end, cX4_end, 1, (some .int), [])
theorem o_X4_end : kOkV m_X4_end 0 := ⟨rfl, ⟨kW0_in (inT2 (List.mem_of_getElem? (i := 31) rfl)) rfl, kW0_in (inT1 (List.mem_of_getElem? (i := 14) rfl)) rfl, ⟨by decide, by decide⟩, by decide +kernel⟩, kW0_in (inT2 (List.mem_of_getElem? (i := 29) rfl)) rfl, kW0_in (inT2 (List.mem_of_getElem? (i := 30) rfl)) rfl⟩
abbrev m_X4_holds : kMR := (yX4_holds, cX4_holds, 2, (some .boolean), [])
theorem o_X4_holds : kOkV m_X4_holds 1 := ⟨rfl, ⟨kW0_in (inT2 (List.mem_of_getElem? (i := 69) rfl)) rfl, kW0_in (inT1 (List.mem_of_getElem? (i := 14) rfl)) rfl, ⟨by decide, by decide⟩, by decide +kernel⟩, kW0_in (inT2 (List.mem_of_getElem? (i := 67) rfl)) rfl, kW0_in (inT2 (List.mem_of_getElem? (i := 68) rfl)) rfl⟩
abbrev m_X4_timesBetween : kMR := (yX4_timesBetween, cX4_timesBetween, 2, (some .int), [])
theorem o_X4_timesBetween : kOkV m_X4_timesBetween 1 := ⟨rfl, ⟨kW0_in (inT2 (List.mem_of_getElem? (i := 27) rfl)) rfl, kW0_in (inT1 (List.mem_of_getElem? (i := 14) rfl)) rfl, ⟨by decide, by decide⟩, by decide +kernel⟩, kW0_in (inT2 (List.mem_of_getElem? (i := 25) rfl)) rfl, kW0_in (inT2 (List.mem_of_getElem? (i := 26) rfl)) rfl⟩
abbrev m_X5_init : kMR := (yX5_init, cX5_init, 2, (none), [])
theorem o_X5_init : kOkI m_X5_init 0 := ⟨rfl, rfl, ⟨kW0_in (inT1 (List.mem_of_getElem? (i := 38) rfl)) rfl, kW0_in (inT1 (List.mem_of_getElem? (i := 1) rfl)) rfl, ⟨by decide, by decide⟩, by decide +kernel⟩, rfl, kW0_in (inT1 (List.mem_of_getElem? (i := 37) rfl)) rfl⟩
abbrev m_X5_setRoom : kMR := (yX5_setRoom, cX5_setRoom, 6, (some .int), [])
theorem o_X5_setRoom : kOkV m_X5_setRoom 3 := ⟨rfl, ⟨kW0_in (inT2 (List.mem_of_getElem? (i := 77) rfl)) rfl, kW0_in (inT1 (List.mem_of_getElem? (i := 1) rfl)) rfl, ⟨by decide, by decide⟩, by decide +kernel⟩, kW0_in (inT2 (List.mem_of_getElem? (i := 75) rfl)) rfl, kW0_in (inT2 (List.mem_of_getElem? (i := 76) rfl)) rfl⟩
abbrev m_X5_setGap : kMR := (yX5_setGap, cX5_setGap, 3, (some .int), [])
theorem o_X5_setGap : kOkV m_X5_setGap 1 := ⟨rfl, ⟨kW0_in (inT2 (List.mem_of_getElem? (i := 93) rfl)) rfl, kW0_in (inT1 (List.mem_of_getElem? (i := 1) rfl)) rfl, ⟨by decide, by decide⟩, by decide +kernel⟩, kW0_in (inT2 (List.mem_of_getElem? (i := 91) rfl)) rfl, kW0_in (inT2 (List.mem_of_getElem? (i := 92) rfl)) rfl⟩
abbrev m_X5_seatsOf : kMR := (yX5_seatsOf, cX5_seatsOf, 2, (some .int), [])
theorem o_X5_seatsOf : kOkV m_X5_seatsOf 1 := ⟨rfl, ⟨kW0_in (inT2 (List.mem_of_getElem? (i := 100) rfl)) rfl, kW0_in (inT1 (List.mem_of_getElem? (i := 1) rfl)) rfl, ⟨by decide, by decide⟩, by decide +kernel⟩, kW0_in (inT2 (List.mem_of_getElem? (i := 98) rfl)) rfl, kW0_in (inT2 (List.mem_of_getElem? (i := 99) rfl)) rfl⟩
abbrev m_X5_houseOf : kMR := (yX5_houseOf, cX5_houseOf, 2, (some .int), [])
theorem o_X5_houseOf : kOkV m_X5_houseOf 1 := ⟨rfl, ⟨kW0_in (inT2 (List.mem_of_getElem? (i := 107) rfl)) rfl, kW0_in (inT1 (List.mem_of_getElem? (i := 1) rfl)) rfl, ⟨by decide, by decide⟩, by decide +kernel⟩, kW0_in (inT2 (List.mem_of_getElem? (i := 105) rfl)) rfl, kW0_in (inT2 (List.mem_of_getElem? (i := 106) rfl)) rfl⟩
abbrev m_X5_ask : kMR := (yX5_ask, cX5_ask, 8, (some .int), [])
theorem o_X5_ask : kOkV m_X5_ask 5 := ⟨rfl, ⟨kW0_in (inT2 (List.mem_of_getElem? (i := 116) rfl)) rfl, kW0_in (inT1 (List.mem_of_getElem? (i := 1) rfl)) rfl, ⟨by decide, by decide⟩, by decide +kernel⟩, kW0_in (inT2 (List.mem_of_getElem? (i := 114) rfl)) rfl, kW0_in (inT2 (List.mem_of_getElem? (i := 115) rfl)) rfl⟩
abbrev m_X5_extend : kMR := (yX5_extend, cX5_extend, 8, (some .int), [])
theorem o_X5_extend : kOkV m_X5_extend 3 := ⟨rfl, ⟨kW0_in (inT4 (List.mem_of_getElem? (i := 124) rfl)) rfl, kW0_in (inT1 (List.mem_of_getElem? (i := 1) rfl)) rfl, ⟨by decide, by decide⟩, by decide +kernel⟩, kW0_in (inT4 (List.mem_of_getElem? (i := 122) rfl)) rfl, kW0_in (inT4 (List.mem_of_getElem? (i := 123) rfl)) rfl⟩
abbrev m_X5_remove : kMR := (yX5_remove, cX5_remove, 5, (some .int), [])
theorem o_X5_remove : kOkV m_X5_remove 1 := ⟨rfl, ⟨kW0_in (inT4 (List.mem_of_getElem? (i := 162) rfl)) rfl, kW0_in (inT1 (List.mem_of_getElem? (i := 1) rfl)) rfl, ⟨by decide, by decide⟩, by decide +kernel⟩, kW0_in (inT4 (List.mem_of_getElem? (i := 160) rfl)) rfl, kW0_in (inT4 (List.mem_of_getElem? (i := 161) rfl)) rfl⟩
abbrev m_X5_answer : kMR := (yX5_answer, cX5_answer, 6, (some .char), [])
theorem o_X5_answer : kOkV m_X5_answer 3 := ⟨rfl, ⟨kW0_in (inT4 (List.mem_of_getElem? (i := 186) rfl)) rfl, kW0_in (inT1 (List.mem_of_getElem? (i := 1) rfl)) rfl, ⟨by decide, by decide⟩, by decide +kernel⟩, kW0_in (inT4 (List.mem_of_getElem? (i := 184) rfl)) rfl, kW0_in (inT4 (List.mem_of_getElem? (i := 185) rfl)) rfl⟩
abbrev m_X5_cancel : kMR := (yX5_cancel, cX5_cancel, 5, (some .int), [])
theorem o_X5_cancel : kOkV m_X5_cancel 2 := ⟨rfl, ⟨kW0_in (inT4 (List.mem_of_getElem? (i := 229) rfl)) rfl, kW0_in (inT1 (List.mem_of_getElem? (i := 1) rfl)) rfl, ⟨by decide, by decide⟩, by decide +kernel⟩, kW0_in (inT4 (List.mem_of_getElem? (i := 227) rfl)) rfl, kW0_in (inT4 (List.mem_of_getElem? (i := 228) rfl)) rfl⟩
abbrev m_X5_move : kMR := (yX5_move, cX5_move, 9, (some .int), [])
theorem o_X5_move : kOkV m_X5_move 4 := ⟨rfl, ⟨kW0_in (inT5 (List.mem_of_getElem? (i := 4) rfl)) rfl, kW0_in (inT1 (List.mem_of_getElem? (i := 1) rfl)) rfl, ⟨by decide, by decide⟩, by decide +kernel⟩, kW0_in (inT5 (List.mem_of_getElem? (i := 2) rfl)) rfl, kW0_in (inT5 (List.mem_of_getElem? (i := 3) rfl)) rfl⟩
abbrev m_X5_meetingCount : kMR := (yX5_meetingCount, cX5_meetingCount, 1, (some .int), [])
theorem o_X5_meetingCount : kOkV m_X5_meetingCount 0 := ⟨rfl, ⟨kW0_in (inT1 (List.mem_of_getElem? (i := 127) rfl)) rfl, kW0_in (inT1 (List.mem_of_getElem? (i := 1) rfl)) rfl, ⟨by decide, by decide⟩, by decide +kernel⟩, kW0_in (inT1 (List.mem_of_getElem? (i := 125) rfl)) rfl, kW0_in (inT1 (List.mem_of_getElem? (i := 126) rfl)) rfl⟩
abbrev m_X5_meetingAt : kMR := (yX5_meetingAt, cX5_meetingAt, 2, (some .int), [])
theorem o_X5_meetingAt : kOkV m_X5_meetingAt 1 := ⟨rfl, ⟨kW0_in (inT5 (List.mem_of_getElem? (i := 11) rfl)) rfl, kW0_in (inT1 (List.mem_of_getElem? (i := 1) rfl)) rfl, ⟨by decide, by decide⟩, by decide +kernel⟩, kW0_in (inT5 (List.mem_of_getElem? (i := 9) rfl)) rfl, kW0_in (inT5 (List.mem_of_getElem? (i := 10) rfl)) rfl⟩
abbrev m_X5_hostOf : kMR := (yX5_hostOf, cX5_hostOf, 2, (some .int), [])
theorem o_X5_hostOf : kOkV m_X5_hostOf 1 := ⟨rfl, ⟨kW0_in (inT5 (List.mem_of_getElem? (i := 19) rfl)) rfl, kW0_in (inT1 (List.mem_of_getElem? (i := 1) rfl)) rfl, ⟨by decide, by decide⟩, by decide +kernel⟩, kW0_in (inT5 (List.mem_of_getElem? (i := 17) rfl)) rfl, kW0_in (inT5 (List.mem_of_getElem? (i := 18) rfl)) rfl⟩
abbrev m_X5_answerOf : kMR := (yX5_answerOf, cX5_answerOf, 4, (some .char), [])
theorem o_X5_answerOf : kOkV m_X5_answerOf 2 := ⟨rfl, ⟨kW0_in (inT5 (List.mem_of_getElem? (i := 26) rfl)) rfl, kW0_in (inT1 (List.mem_of_getElem? (i := 1) rfl)) rfl, ⟨by decide, by decide⟩, by decide +kernel⟩, kW0_in (inT5 (List.mem_of_getElem? (i := 24) rfl)) rfl, kW0_in (inT5 (List.mem_of_getElem? (i := 25) rfl)) rfl⟩
abbrev m_X5_expected : kMR := (yX5_expected, cX5_expected, 2, (some .int), [])
theorem o_X5_expected : kOkV m_X5_expected 1 := ⟨rfl, ⟨kW0_in (inT5 (List.mem_of_getElem? (i := 33) rfl)) rfl, kW0_in (inT1 (List.mem_of_getElem? (i := 1) rfl)) rfl, ⟨by decide, by decide⟩, by decide +kernel⟩, kW0_in (inT5 (List.mem_of_getElem? (i := 31) rfl)) rfl, kW0_in (inT5 (List.mem_of_getElem? (i := 32) rfl)) rfl⟩
abbrev m_X5_dateCount : kMR := (yX5_dateCount, cX5_dateCount, 2, (some .int), [])
theorem o_X5_dateCount : kOkV m_X5_dateCount 1 := ⟨rfl, ⟨kW0_in (inT5 (List.mem_of_getElem? (i := 40) rfl)) rfl, kW0_in (inT1 (List.mem_of_getElem? (i := 1) rfl)) rfl, ⟨by decide, by decide⟩, by decide +kernel⟩, kW0_in (inT5 (List.mem_of_getElem? (i := 38) rfl)) rfl, kW0_in (inT5 (List.mem_of_getElem? (i := 39) rfl)) rfl⟩
abbrev m_X5_dayOf : kMR := (yX5_dayOf, cX5_dayOf, 3, (some .int), [])
theorem o_X5_dayOf : kOkV m_X5_dayOf 2 := ⟨rfl, ⟨kW0_in (inT5 (List.mem_of_getElem? (i := 47) rfl)) rfl, kW0_in (inT1 (List.mem_of_getElem? (i := 1) rfl)) rfl, ⟨by decide, by decide⟩, by decide +kernel⟩, kW0_in (inT5 (List.mem_of_getElem? (i := 45) rfl)) rfl, kW0_in (inT5 (List.mem_of_getElem? (i := 46) rfl)) rfl⟩
abbrev m_X5_timeOf : kMR := (yX5_timeOf, cX5_timeOf, 3, (some .int), [])
theorem o_X5_timeOf : kOkV m_X5_timeOf 2 := ⟨rfl, ⟨kW0_in (inT5 (List.mem_of_getElem? (i := 54) rfl)) rfl, kW0_in (inT1 (List.mem_of_getElem? (i := 1) rfl)) rfl, ⟨by decide, by decide⟩, by decide +kernel⟩, kW0_in (inT5 (List.mem_of_getElem? (i := 52) rfl)) rfl, kW0_in (inT5 (List.mem_of_getElem? (i := 53) rfl)) rfl⟩
abbrev m_X5_isCancelled : kMR := (yX5_isCancelled, cX5_isCancelled, 3, (some .boolean), [])
theorem o_X5_isCancelled : kOkV m_X5_isCancelled 2 := ⟨rfl, ⟨kW0_in (inT5 (List.mem_of_getElem? (i := 61) rfl)) rfl, kW0_in (inT1 (List.mem_of_getElem? (i := 1) rfl)) rfl, ⟨by decide, by decide⟩, by decide +kernel⟩, kW0_in (inT5 (List.mem_of_getElem? (i := 59) rfl)) rfl, kW0_in (inT5 (List.mem_of_getElem? (i := 60) rfl)) rfl⟩
abbrev m_X5_roomOf : kMR := (yX5_roomOf, cX5_roomOf, 3, (some .int), [])
theorem o_X5_roomOf : kOkV m_X5_roomOf 2 := ⟨rfl, ⟨kW0_in (inT5 (List.mem_of_getElem? (i := 68) rfl)) rfl, kW0_in (inT1 (List.mem_of_getElem? (i := 1) rfl)) rfl, ⟨by decide, by decide⟩, by decide +kernel⟩, kW0_in (inT5 (List.mem_of_getElem? (i := 66) rfl)) rfl, kW0_in (inT5 (List.mem_of_getElem? (i := 67) rfl)) rfl⟩
abbrev m_X5_refusalReason : kMR := (yX5_refusalReason, cX5_refusalReason, 1, (some .int), [])
theorem o_X5_refusalReason : kOkV m_X5_refusalReason 0 := ⟨rfl, ⟨kW0_in (inT5 (List.mem_of_getElem? (i := 75) rfl)) rfl, kW0_in (inT1 (List.mem_of_getElem? (i := 1) rfl)) rfl, ⟨by decide, by decide⟩, by decide +kernel⟩, kW0_in (inT5 (List.mem_of_getElem? (i := 73) rfl)) rfl, kW0_in (inT5 (List.mem_of_getElem? (i := 74) rfl)) rfl⟩
abbrev m_X5_refusalDetail : kMR := (yX5_refusalDetail, cX5_refusalDetail, 1, (some .int), [])
theorem o_X5_refusalDetail : kOkV m_X5_refusalDetail 0 := ⟨rfl, ⟨kW0_in (inT5 (List.mem_of_getElem? (i := 87) rfl)) rfl, kW0_in (inT1 (List.mem_of_getElem? (i := 1) rfl)) rfl, ⟨by decide, by decide⟩, by decide +kernel⟩, kW0_in (inT5 (List.mem_of_getElem? (i := 85) rfl)) rfl, kW0_in (inT5 (List.mem_of_getElem? (i := 86) rfl)) rfl⟩
abbrev m_X5_isFree : kMR := (yX5_isFree, cX5_isFree, 4, (some .boolean), [])
theorem o_X5_isFree : kOkV m_X5_isFree 3 := ⟨rfl, ⟨kW0_in (inT5 (List.mem_of_getElem? (i := 94) rfl)) rfl, kW0_in (inT1 (List.mem_of_getElem? (i := 1) rfl)) rfl, ⟨by decide, by decide⟩, by decide +kernel⟩, kW0_in (inT5 (List.mem_of_getElem? (i := 92) rfl)) rfl, kW0_in (inT5 (List.mem_of_getElem? (i := 93) rfl)) rfl⟩
abbrev m_X5_meetingOf : kMR := (yX5_meetingOf, cX5_meetingOf, 5, (some .int), [])
theorem o_X5_meetingOf : kOkV m_X5_meetingOf 3 := ⟨rfl, ⟨kW0_in (inT5 (List.mem_of_getElem? (i := 101) rfl)) rfl, kW0_in (inT1 (List.mem_of_getElem? (i := 1) rfl)) rfl, ⟨by decide, by decide⟩, by decide +kernel⟩, kW0_in (inT5 (List.mem_of_getElem? (i := 99) rfl)) rfl, kW0_in (inT5 (List.mem_of_getElem? (i := 100) rfl)) rfl⟩
abbrev m_X5_freeTimes : kMR := (yX5_freeTimes, cX5_freeTimes, 3, (some .int), [])
theorem o_X5_freeTimes : kOkV m_X5_freeTimes 2 := ⟨rfl, ⟨kW0_in (inT5 (List.mem_of_getElem? (i := 109) rfl)) rfl, kW0_in (inT1 (List.mem_of_getElem? (i := 1) rfl)) rfl, ⟨by decide, by decide⟩, by decide +kernel⟩, kW0_in (inT5 (List.mem_of_getElem? (i := 107) rfl)) rfl, kW0_in (inT5 (List.mem_of_getElem? (i := 108) rfl)) rfl⟩
abbrev m_X5_freeByTrying : kMR := (yX5_freeByTrying, cX5_freeByTrying, 3, (some .int), [])
theorem o_X5_freeByTrying : kOkV m_X5_freeByTrying 2 := ⟨rfl, ⟨kW0_in (inT5 (List.mem_of_getElem? (i := 116) rfl)) rfl, kW0_in (inT1 (List.mem_of_getElem? (i := 1) rfl)) rfl, ⟨by decide, by decide⟩, by decide +kernel⟩, kW0_in (inT5 (List.mem_of_getElem? (i := 114) rfl)) rfl, kW0_in (inT5 (List.mem_of_getElem? (i := 115) rfl)) rfl⟩
abbrev m_X5_longestFree : kMR := (yX5_longestFree, cX5_longestFree, 6, (some .int), [])
theorem o_X5_longestFree : kOkV m_X5_longestFree 2 := ⟨rfl, ⟨kW0_in (inT5 (List.mem_of_getElem? (i := 123) rfl)) rfl, kW0_in (inT1 (List.mem_of_getElem? (i := 1) rfl)) rfl, ⟨by decide, by decide⟩, by decide +kernel⟩, kW0_in (inT5 (List.mem_of_getElem? (i := 121) rfl)) rfl, kW0_in (inT5 (List.mem_of_getElem? (i := 122) rfl)) rfl⟩
abbrev m_X5_firstCommon : kMR := (yX5_firstCommon, cX5_firstCommon, 7, (some .int), [])
theorem o_X5_firstCommon : kOkV m_X5_firstCommon 3 := ⟨rfl, ⟨kW0_in (inT5 (List.mem_of_getElem? (i := 130) rfl)) rfl, kW0_in (inT1 (List.mem_of_getElem? (i := 1) rfl)) rfl, ⟨by decide, by decide⟩, by decide +kernel⟩, kW0_in (inT5 (List.mem_of_getElem? (i := 128) rfl)) rfl, kW0_in (inT5 (List.mem_of_getElem? (i := 129) rfl)) rfl⟩
abbrev m_X5_commonCount : kMR := (yX5_commonCount, cX5_commonCount, 7, (some .int), [])
theorem o_X5_commonCount : kOkV m_X5_commonCount 3 := ⟨rfl, ⟨kW0_in (inT5 (List.mem_of_getElem? (i := 142) rfl)) rfl, kW0_in (inT1 (List.mem_of_getElem? (i := 1) rfl)) rfl, ⟨by decide, by decide⟩, by decide +kernel⟩, kW0_in (inT5 (List.mem_of_getElem? (i := 140) rfl)) rfl, kW0_in (inT5 (List.mem_of_getElem? (i := 141) rfl)) rfl⟩
abbrev m_X5_roomFor : kMR := (yX5_roomFor, cX5_roomFor, 6, (some .int), [])
theorem o_X5_roomFor : kOkV m_X5_roomFor 4 := ⟨rfl, ⟨kW0_in (inT5 (List.mem_of_getElem? (i := 149) rfl)) rfl, kW0_in (inT1 (List.mem_of_getElem? (i := 1) rfl)) rfl, ⟨by decide, by decide⟩, by decide +kernel⟩, kW0_in (inT5 (List.mem_of_getElem? (i := 147) rfl)) rfl, kW0_in (inT5 (List.mem_of_getElem? (i := 148) rfl)) rfl⟩
abbrev m_X5_usedTimes : kMR := (yX5_usedTimes, cX5_usedTimes, 8, (some .int), [])
theorem o_X5_usedTimes : kOkV m_X5_usedTimes 2 := ⟨rfl, ⟨kW0_in (inT5 (List.mem_of_getElem? (i := 157) rfl)) rfl, kW0_in (inT1 (List.mem_of_getElem? (i := 1) rfl)) rfl, ⟨by decide, by decide⟩, by decide +kernel⟩, kW0_in (inT5 (List.mem_of_getElem? (i := 155) rfl)) rfl, kW0_in (inT5 (List.mem_of_getElem? (i := 156) rfl)) rfl⟩
abbrev m_X5_walks : kMR := (yX5_walks, cX5_walks, 8, (some .int), [])
theorem o_X5_walks : kOkV m_X5_walks 2 := ⟨rfl, ⟨kW0_in (inT5 (List.mem_of_getElem? (i := 164) rfl)) rfl, kW0_in (inT1 (List.mem_of_getElem? (i := 1) rfl)) rfl, ⟨by decide, by decide⟩, by decide +kernel⟩, kW0_in (inT5 (List.mem_of_getElem? (i := 162) rfl)) rfl, kW0_in (inT5 (List.mem_of_getElem? (i := 163) rfl)) rfl⟩
abbrev m_X5_sittings : kMR := (yX5_sittings, cX5_sittings, 5, (some .long), [])
theorem o_X5_sittings : kOkV m_X5_sittings 0 := ⟨rfl, ⟨kW0_in (inT1 (List.mem_of_getElem? (i := 135) rfl)) rfl, kW0_in (inT1 (List.mem_of_getElem? (i := 1) rfl)) rfl, ⟨by decide, by decide⟩, by decide +kernel⟩, kW0_in (inT1 (List.mem_of_getElem? (i := 133) rfl)) rfl, kW0_in (inT1 (List.mem_of_getElem? (i := 134) rfl)) rfl⟩
abbrev m_X5_meanExpected : kMR := (yX5_meanExpected, cX5_meanExpected, 4, (some .double), [])
theorem o_X5_meanExpected : kOkV m_X5_meanExpected 0 := ⟨rfl, ⟨kW0_in (inT5 (List.mem_of_getElem? (i := 185) rfl)) rfl, kW0_in (inT1 (List.mem_of_getElem? (i := 1) rfl)) rfl, ⟨by decide, by decide⟩, by decide +kernel⟩, kW0_in (inT5 (List.mem_of_getElem? (i := 183) rfl)) rfl, kW0_in (inT5 (List.mem_of_getElem? (i := 184) rfl)) rfl⟩
abbrev m_X5_yesShare : kMR := (yX5_yesShare, cX5_yesShare, 5, (some .float), [])
theorem o_X5_yesShare : kOkV m_X5_yesShare 0 := ⟨rfl, ⟨kW0_in (inT5 (List.mem_of_getElem? (i := 195) rfl)) rfl, kW0_in (inT1 (List.mem_of_getElem? (i := 1) rfl)) rfl, ⟨by decide, by decide⟩, by decide +kernel⟩, kW0_in (inT5 (List.mem_of_getElem? (i := 193) rfl)) rfl, kW0_in (inT5 (List.mem_of_getElem? (i := 194) rfl)) rfl⟩
abbrev m_X5_isConsistent : kMR := (yX5_isConsistent, cX5_isConsistent, 2, (some .boolean), [])
theorem o_X5_isConsistent : kOkV m_X5_isConsistent 0 := ⟨rfl, ⟨kW0_in (inT1 (List.mem_of_getElem? (i := 178) rfl)) rfl, kW0_in (inT1 (List.mem_of_getElem? (i := 1) rfl)) rfl, ⟨by decide, by decide⟩, by decide +kernel⟩, kW0_in (inT1 (List.mem_of_getElem? (i := 176) rfl)) rfl, kW0_in (inT1 (List.mem_of_getElem? (i := 177) rfl)) rfl⟩
abbrev m_X5_requireWithin : kMR := (yX5_requireWithin, cX5_requireWithin, 3, (none), [])
theorem o_X5_requireWithin : kOkS m_X5_requireWithin 3 := ⟨⟨kW0_in (inT2 (List.mem_of_getElem? (i := 85) rfl)) rfl, kW0_in (inT1 (List.mem_of_getElem? (i := 1) rfl)) rfl, ⟨by decide, by decide⟩, by decide +kernel⟩, kW0_in (inT2 (List.mem_of_getElem? (i := 84) rfl)) rfl⟩
abbrev m_X5_requirePerson : kMR := (yX5_requirePerson, cX5_requirePerson, 1, (none), [])
theorem o_X5_requirePerson : kOkS m_X5_requirePerson 1 := ⟨⟨kW0_in (inT2 (List.mem_of_getElem? (i := 119) rfl)) rfl, kW0_in (inT1 (List.mem_of_getElem? (i := 1) rfl)) rfl, ⟨by decide, by decide⟩, by decide +kernel⟩, kW0_in (inT2 (List.mem_of_getElem? (i := 118) rfl)) rfl⟩
abbrev m_X5_requireDay : kMR := (yX5_requireDay, cX5_requireDay, 1, (none), [])
theorem o_X5_requireDay : kOkS m_X5_requireDay 1 := ⟨⟨kW0_in (inT2 (List.mem_of_getElem? (i := 125) rfl)) rfl, kW0_in (inT1 (List.mem_of_getElem? (i := 1) rfl)) rfl, ⟨by decide, by decide⟩, by decide +kernel⟩, kW0_in (inT2 (List.mem_of_getElem? (i := 124) rfl)) rfl⟩
abbrev m_X5_requireSlot : kMR := (yX5_requireSlot, cX5_requireSlot, 3, (none), [])
theorem o_X5_requireSlot : kOkS m_X5_requireSlot 3 := ⟨⟨kW0_in (inT2 (List.mem_of_getElem? (i := 122) rfl)) rfl, kW0_in (inT1 (List.mem_of_getElem? (i := 1) rfl)) rfl, ⟨by decide, by decide⟩, by decide +kernel⟩, kW0_in (inT2 (List.mem_of_getElem? (i := 121) rfl)) rfl⟩
abbrev m_X5_requireRefusal : kMR := (yX5_requireRefusal, cX5_requireRefusal, 1, (none), [])
theorem o_X5_requireRefusal : kOkV m_X5_requireRefusal 0 := ⟨rfl, ⟨kW0_in (inT5 (List.mem_of_getElem? (i := 79) rfl)) rfl, kW0_in (inT1 (List.mem_of_getElem? (i := 1) rfl)) rfl, ⟨by decide, by decide⟩, by decide +kernel⟩, kW0_in (inT5 (List.mem_of_getElem? (i := 78) rfl)) rfl, kW0_in (List.mem_append_left _ (List.mem_of_getElem? (i := 28) rfl)) rfl⟩
abbrev m_X5_roomWith : kMR := (yX5_roomWith, cX5_roomWith, 2, (some (.object "CalendaryPlanner$Room")), [])
theorem o_X5_roomWith : kOkV m_X5_roomWith 1 := ⟨rfl, ⟨kW0_in (inT2 (List.mem_of_getElem? (i := 81) rfl)) rfl, kW0_in (inT1 (List.mem_of_getElem? (i := 1) rfl)) rfl, ⟨by decide, by decide⟩, by decide +kernel⟩, kW0_in (inT2 (List.mem_of_getElem? (i := 80) rfl)) rfl, kW0_in (List.mem_append_left _ (List.mem_of_getElem? (i := 9) rfl)) rfl⟩
abbrev m_X5_dayWith : kMR := (yX5_dayWith, cX5_dayWith, 2, (some (.object "CalendaryPlanner$Day")), [])
theorem o_X5_dayWith : kOkV m_X5_dayWith 1 := ⟨rfl, ⟨kW0_in (inT1 (List.mem_of_getElem? (i := 186) rfl)) rfl, kW0_in (inT1 (List.mem_of_getElem? (i := 1) rfl)) rfl, ⟨by decide, by decide⟩, by decide +kernel⟩, kW0_in (inT1 (List.mem_of_getElem? (i := 185) rfl)) rfl, kW0_in (List.mem_append_left _ (List.mem_of_getElem? (i := 1) rfl)) rfl⟩
abbrev m_X5_rankOf : kMR := (yX5_rankOf, cX5_rankOf, 3, (some .int), [])
theorem o_X5_rankOf : kOkV m_X5_rankOf 1 := ⟨rfl, ⟨kW0_in (inT4 (List.mem_of_getElem? (i := 132) rfl)) rfl, kW0_in (inT1 (List.mem_of_getElem? (i := 1) rfl)) rfl, ⟨by decide, by decide⟩, by decide +kernel⟩, kW0_in (inT4 (List.mem_of_getElem? (i := 131) rfl)) rfl, kW0_in (List.mem_append_left _ (List.mem_of_getElem? (i := 23) rfl)) rfl⟩
abbrev m_X5_meetingWith : kMR := (yX5_meetingWith, cX5_meetingWith, 2, (some (.object "CalendaryPlanner$Meeting")), [])
theorem o_X5_meetingWith : kOkV m_X5_meetingWith 1 := ⟨rfl, ⟨kW0_in (inT4 (List.mem_of_getElem? (i := 128) rfl)) rfl, kW0_in (inT1 (List.mem_of_getElem? (i := 1) rfl)) rfl, ⟨by decide, by decide⟩, by decide +kernel⟩, kW0_in (inT4 (List.mem_of_getElem? (i := 127) rfl)) rfl, kW0_in (List.mem_append_left _ (List.mem_of_getElem? (i := 22) rfl)) rfl⟩
abbrev m_X5_dateWith : kMR := (yX5_dateWith, cX5_dateWith, 2, (some (.object "CalendaryPlanner$Date")), [])
theorem o_X5_dateWith : kOkS m_X5_dateWith 2 := ⟨⟨kW0_in (inT4 (List.mem_of_getElem? (i := 151) rfl)) rfl, kW0_in (inT1 (List.mem_of_getElem? (i := 1) rfl)) rfl, ⟨by decide, by decide⟩, by decide +kernel⟩, kW0_in (inT4 (List.mem_of_getElem? (i := 150) rfl)) rfl⟩
abbrev m_X5_standingDateWith : kMR := (yX5_standingDateWith, cX5_standingDateWith, 3, (some (.object "CalendaryPlanner$Date")), [])
theorem o_X5_standingDateWith : kOkS m_X5_standingDateWith 2 := ⟨⟨kW0_in (inT4 (List.mem_of_getElem? (i := 232) rfl)) rfl, kW0_in (inT1 (List.mem_of_getElem? (i := 1) rfl)) rfl, ⟨by decide, by decide⟩, by decide +kernel⟩, kW0_in (inT4 (List.mem_of_getElem? (i := 231) rfl)) rfl⟩
abbrev m_X5_bitOf : kMR := (yX5_bitOf, cX5_bitOf, 1, (some .int), [])
theorem o_X5_bitOf : kOkS m_X5_bitOf 1 := ⟨⟨kW0_in (inT1 (List.mem_of_getElem? (i := 168) rfl)) rfl, kW0_in (inT1 (List.mem_of_getElem? (i := 1) rfl)) rfl, ⟨by decide, by decide⟩, by decide +kernel⟩, kW0_in (inT1 (List.mem_of_getElem? (i := 167) rfl)) rfl⟩
abbrev m_X5_holdsPerson : kMR := (yX5_holdsPerson, cX5_holdsPerson, 2, (some .boolean), [])
theorem o_X5_holdsPerson : kOkS m_X5_holdsPerson 2 := ⟨⟨kW0_in (inT2 (List.mem_of_getElem? (i := 54) rfl)) rfl, kW0_in (inT1 (List.mem_of_getElem? (i := 1) rfl)) rfl, ⟨by decide, by decide⟩, by decide +kernel⟩, kW0_in (inT2 (List.mem_of_getElem? (i := 53) rfl)) rfl⟩
abbrev m_X5_lowestPerson : kMR := (yX5_lowestPerson, cX5_lowestPerson, 2, (some .int), [])
theorem o_X5_lowestPerson : kOkS m_X5_lowestPerson 1 := ⟨⟨kW0_in (inT3 (List.mem_of_getElem? (i := 27) rfl)) rfl, kW0_in (inT1 (List.mem_of_getElem? (i := 1) rfl)) rfl, ⟨by decide, by decide⟩, by decide +kernel⟩, kW0_in (inT3 (List.mem_of_getElem? (i := 26) rfl)) rfl⟩
abbrev m_X5_planDates : kMR := (yX5_planDates, cX5_planDates, 7, (none), [])
theorem o_X5_planDates : kOkV m_X5_planDates 2 := ⟨rfl, ⟨kW0_in (inT3 (List.mem_of_getElem? (i := 20) rfl)) rfl, kW0_in (inT1 (List.mem_of_getElem? (i := 1) rfl)) rfl, ⟨by decide, by decide⟩, by decide +kernel⟩, kW0_in (inT3 (List.mem_of_getElem? (i := 19) rfl)) rfl, kW0_in (List.mem_append_left _ (List.mem_of_getElem? (i := 13) rfl)) rfl⟩
abbrev m_X5_putOnItsDay : kMR := (yX5_putOnItsDay, cX5_putOnItsDay, 2, (none), [])
theorem o_X5_putOnItsDay : kOkV m_X5_putOnItsDay 1 := ⟨rfl, ⟨kW0_in (inT3 (List.mem_of_getElem? (i := 90) rfl)) rfl, kW0_in (inT1 (List.mem_of_getElem? (i := 1) rfl)) rfl, ⟨by decide, by decide⟩, by decide +kernel⟩, kW0_in (inT3 (List.mem_of_getElem? (i := 89) rfl)) rfl, kW0_in (List.mem_append_left _ (List.mem_of_getElem? (i := 19) rfl)) rfl⟩
abbrev m_X5_takeOffItsDay : kMR := (yX5_takeOffItsDay, cX5_takeOffItsDay, 2, (none), [])
theorem o_X5_takeOffItsDay : kOkV m_X5_takeOffItsDay 1 := ⟨rfl, ⟨kW0_in (inT4 (List.mem_of_getElem? (i := 166) rfl)) rfl, kW0_in (inT1 (List.mem_of_getElem? (i := 1) rfl)) rfl, ⟨by decide, by decide⟩, by decide +kernel⟩, kW0_in (inT4 (List.mem_of_getElem? (i := 165) rfl)) rfl, kW0_in (List.mem_append_left _ (List.mem_of_getElem? (i := 24) rfl)) rfl⟩
abbrev m_X5_noteRefusal : kMR := (yX5_noteRefusal, cX5_noteRefusal, 3, (none), [])
theorem o_X5_noteRefusal : kOkV m_X5_noteRefusal 2 := ⟨rfl, ⟨kW0_in (inT3 (List.mem_of_getElem? (i := 32) rfl)) rfl, kW0_in (inT1 (List.mem_of_getElem? (i := 1) rfl)) rfl, ⟨by decide, by decide⟩, by decide +kernel⟩, kW0_in (inT3 (List.mem_of_getElem? (i := 31) rfl)) rfl, kW0_in (List.mem_append_left _ (List.mem_of_getElem? (i := 15) rfl)) rfl⟩
abbrev m_X5_requireNobodyBusy : kMR := (yX5_requireNobodyBusy, cX5_requireNobodyBusy, 5, (none), [])
theorem o_X5_requireNobodyBusy : kOkV m_X5_requireNobodyBusy 3 := ⟨rfl, ⟨kW0_in (inT3 (List.mem_of_getElem? (i := 24) rfl)) rfl, kW0_in (inT1 (List.mem_of_getElem? (i := 1) rfl)) rfl, ⟨by decide, by decide⟩, by decide +kernel⟩, kW0_in (inT3 (List.mem_of_getElem? (i := 23) rfl)) rfl, kW0_in (List.mem_append_left _ (List.mem_of_getElem? (i := 14) rfl)) rfl⟩
abbrev m_X5_requireRoom : kMR := (yX5_requireRoom, cX5_requireRoom, 6, (some (.object "CalendaryPlanner$Room")), [])
theorem o_X5_requireRoom : kOkV m_X5_requireRoom 4 := ⟨rfl, ⟨kW0_in (inT3 (List.mem_of_getElem? (i := 52) rfl)) rfl, kW0_in (inT1 (List.mem_of_getElem? (i := 1) rfl)) rfl, ⟨by decide, by decide⟩, by decide +kernel⟩, kW0_in (inT3 (List.mem_of_getElem? (i := 51) rfl)) rfl, kW0_in (List.mem_append_left _ (List.mem_of_getElem? (i := 16) rfl)) rfl⟩
abbrev m_X5_requireSeatsLeft : kMR := (yX5_requireSeatsLeft, cX5_requireSeatsLeft, 5, (none), [])
theorem o_X5_requireSeatsLeft : kOkV m_X5_requireSeatsLeft 1 := ⟨rfl, ⟨kW0_in (inT4 (List.mem_of_getElem? (i := 196) rfl)) rfl, kW0_in (inT1 (List.mem_of_getElem? (i := 1) rfl)) rfl, ⟨by decide, by decide⟩, by decide +kernel⟩, kW0_in (inT4 (List.mem_of_getElem? (i := 195) rfl)) rfl, kW0_in (List.mem_append_left _ (List.mem_of_getElem? (i := 26) rfl)) rfl⟩
abbrev m_X5_requireNoClashFor : kMR := (yX5_requireNoClashFor, cX5_requireNoClashFor, 5, (none), [])
theorem o_X5_requireNoClashFor : kOkV m_X5_requireNoClashFor 2 := ⟨rfl, ⟨kW0_in (inT4 (List.mem_of_getElem? (i := 201) rfl)) rfl, kW0_in (inT1 (List.mem_of_getElem? (i := 1) rfl)) rfl, ⟨by decide, by decide⟩, by decide +kernel⟩, kW0_in (inT4 (List.mem_of_getElem? (i := 200) rfl)) rfl, kW0_in (List.mem_append_left _ (List.mem_of_getElem? (i := 27) rfl)) rfl⟩
abbrev m_X5_busyPeople : kMR := (yX5_busyPeople, cX5_busyPeople, 7, (some .int), [])
theorem o_X5_busyPeople : kOkV m_X5_busyPeople 2 := ⟨rfl, ⟨kW0_in (inT2 (List.mem_of_getElem? (i := 23) rfl)) rfl, kW0_in (inT1 (List.mem_of_getElem? (i := 1) rfl)) rfl, ⟨by decide, by decide⟩, by decide +kernel⟩, kW0_in (inT2 (List.mem_of_getElem? (i := 22) rfl)) rfl, kW0_in (List.mem_append_left _ (List.mem_of_getElem? (i := 3) rfl)) rfl⟩
abbrev m_X5_bestRoom : kMR := (yX5_bestRoom, cX5_bestRoom, 9, (some (.object "CalendaryPlanner$Room")), [])
theorem o_X5_bestRoom : kOkV m_X5_bestRoom 3 := ⟨rfl, ⟨kW0_in (inT3 (List.mem_of_getElem? (i := 56) rfl)) rfl, kW0_in (inT1 (List.mem_of_getElem? (i := 1) rfl)) rfl, ⟨by decide, by decide⟩, by decide +kernel⟩, kW0_in (inT3 (List.mem_of_getElem? (i := 55) rfl)) rfl, kW0_in (List.mem_append_left _ (List.mem_of_getElem? (i := 17) rfl)) rfl⟩
abbrev m_X5_isTaken : kMR := (yX5_isTaken, cX5_isTaken, 7, (some .boolean), [])
theorem o_X5_isTaken : kOkV m_X5_isTaken 3 := ⟨rfl, ⟨kW0_in (inT2 (List.mem_of_getElem? (i := 39) rfl)) rfl, kW0_in (inT1 (List.mem_of_getElem? (i := 1) rfl)) rfl, ⟨by decide, by decide⟩, by decide +kernel⟩, kW0_in (inT2 (List.mem_of_getElem? (i := 38) rfl)) rfl, kW0_in (List.mem_append_left _ (List.mem_of_getElem? (i := 4) rfl)) rfl⟩
abbrev m_X5_wouldClash : kMR := (yX5_wouldClash, cX5_wouldClash, 13, (some .boolean), [])
theorem o_X5_wouldClash : kOkV m_X5_wouldClash 5 := ⟨rfl, ⟨kW0_in (inT3 (List.mem_of_getElem? (i := 61) rfl)) rfl, kW0_in (inT1 (List.mem_of_getElem? (i := 1) rfl)) rfl, ⟨by decide, by decide⟩, by decide +kernel⟩, kW0_in (inT3 (List.mem_of_getElem? (i := 60) rfl)) rfl, kW0_in (List.mem_append_left _ (List.mem_of_getElem? (i := 18) rfl)) rfl⟩
abbrev m_X5_dateOfPersonAt : kMR := (yX5_dateOfPersonAt, cX5_dateOfPersonAt, 7, (some (.object "CalendaryPlanner$Date")), [])
theorem o_X5_dateOfPersonAt : kOkV m_X5_dateOfPersonAt 3 := ⟨rfl, ⟨kW0_in (inT2 (List.mem_of_getElem? (i := 65) rfl)) rfl, kW0_in (inT1 (List.mem_of_getElem? (i := 1) rfl)) rfl, ⟨by decide, by decide⟩, by decide +kernel⟩, kW0_in (inT2 (List.mem_of_getElem? (i := 64) rfl)) rfl, kW0_in (List.mem_append_left _ (List.mem_of_getElem? (i := 8) rfl)) rfl⟩
abbrev m_X5_countFreeBySweep : kMR := (yX5_countFreeBySweep, cX5_countFreeBySweep, 8, (some .int), [])
theorem o_X5_countFreeBySweep : kOkV m_X5_countFreeBySweep 2 := ⟨rfl, ⟨kW0_in (inT2 (List.mem_of_getElem? (i := 47) rfl)) rfl, kW0_in (inT1 (List.mem_of_getElem? (i := 1) rfl)) rfl, ⟨by decide, by decide⟩, by decide +kernel⟩, kW0_in (inT2 (List.mem_of_getElem? (i := 46) rfl)) rfl, kW0_in (List.mem_append_left _ (List.mem_of_getElem? (i := 6) rfl)) rfl⟩
abbrev m_X5_countFreeByTrying : kMR := (yX5_countFreeByTrying, cX5_countFreeByTrying, 5, (some .int), [])
theorem o_X5_countFreeByTrying : kOkV m_X5_countFreeByTrying 2 := ⟨rfl, ⟨kW0_in (inT2 (List.mem_of_getElem? (i := 61) rfl)) rfl, kW0_in (inT1 (List.mem_of_getElem? (i := 1) rfl)) rfl, ⟨by decide, by decide⟩, by decide +kernel⟩, kW0_in (inT2 (List.mem_of_getElem? (i := 60) rfl)) rfl, kW0_in (List.mem_append_left _ (List.mem_of_getElem? (i := 7) rfl)) rfl⟩
abbrev m_X5_commonRoom : kMR := (yX5_commonRoom, cX5_commonRoom, 3, (some (.object "CalendaryPlanner$Room")), [])
theorem o_X5_commonRoom : kOkV m_X5_commonRoom 2 := ⟨rfl, ⟨kW0_in (inT5 (List.mem_of_getElem? (i := 134) rfl)) rfl, kW0_in (inT1 (List.mem_of_getElem? (i := 1) rfl)) rfl, ⟨by decide, by decide⟩, by decide +kernel⟩, kW0_in (inT5 (List.mem_of_getElem? (i := 133) rfl)) rfl, kW0_in (List.mem_append_left _ (List.mem_of_getElem? (i := 29) rfl)) rfl⟩
abbrev m_X5_hasDoubleUse : kMR := (yX5_hasDoubleUse, cX5_hasDoubleUse, 6, (some .boolean), [])
theorem o_X5_hasDoubleUse : kOkV m_X5_hasDoubleUse 1 := ⟨rfl, ⟨kW0_in (inT1 (List.mem_of_getElem? (i := 182) rfl)) rfl, kW0_in (inT1 (List.mem_of_getElem? (i := 1) rfl)) rfl, ⟨by decide, by decide⟩, by decide +kernel⟩, kW0_in (inT1 (List.mem_of_getElem? (i := 181) rfl)) rfl, kW0_in (List.mem_append_left _ (List.mem_of_getElem? (i := 0) rfl)) rfl⟩
abbrev m_X5_countsAgree : kMR := (yX5_countsAgree, cX5_countsAgree, 3, (some .boolean), [])
theorem o_X5_countsAgree : kOkV m_X5_countsAgree 1 := ⟨rfl, ⟨kW0_in (inT2 (List.mem_of_getElem? (i := 43) rfl)) rfl, kW0_in (inT1 (List.mem_of_getElem? (i := 1) rfl)) rfl, ⟨by decide, by decide⟩, by decide +kernel⟩, kW0_in (inT2 (List.mem_of_getElem? (i := 42) rfl)) rfl, kW0_in (List.mem_append_left _ (List.mem_of_getElem? (i := 5) rfl)) rfl⟩
abbrev m_X6_init : kMR := (yX6_init, cX6_init, 1, (none), [])
theorem o_X6_init : kOkI m_X6_init 0 := ⟨rfl, rfl, ⟨kW0_in (inT5 (List.mem_of_getElem? (i := 201) rfl)) rfl, kW0_in (inT1 (List.mem_of_getElem? (i := 7) rfl)) rfl, ⟨by decide, by decide⟩, by decide +kernel⟩, rfl, kW0_in (inT5 (List.mem_of_getElem? (i := 200) rfl)) rfl⟩
abbrev m_X6_thrown : kMR := (yX6_thrown, cX6_thrown, 1, (some .int), [])
theorem o_X6_thrown : kOkV m_X6_thrown 0 := ⟨rfl, ⟨kW0_in (inT5 (List.mem_of_getElem? (i := 223) rfl)) rfl, kW0_in (inT1 (List.mem_of_getElem? (i := 7) rfl)) rfl, ⟨by decide, by decide⟩, by decide +kernel⟩, kW0_in (inT5 (List.mem_of_getElem? (i := 221) rfl)) rfl, kW0_in (inT5 (List.mem_of_getElem? (i := 222) rfl)) rfl⟩
abbrev m_X6_fails : kMR := (yX6_fails, cX6_fails, 2, (some .boolean), [])
theorem o_X6_fails : kOkV m_X6_fails 1 := ⟨rfl, ⟨kW0_in (inT5 (List.mem_of_getElem? (i := 237) rfl)) rfl, kW0_in (inT1 (List.mem_of_getElem? (i := 7) rfl)) rfl, ⟨by decide, by decide⟩, by decide +kernel⟩, kW0_in (inT5 (List.mem_of_getElem? (i := 236) rfl)) rfl, kW0_in (List.mem_append_left _ (List.mem_of_getElem? (i := 30) rfl)) rfl⟩
abbrev m_X6_in : kMR := (yX6_in, cX6_in, 3, (some .boolean), [])
theorem o_X6_in : kOkS m_X6_in 3 := ⟨⟨kW0_in (inT5 (List.mem_of_getElem? (i := 233) rfl)) rfl, kW0_in (inT1 (List.mem_of_getElem? (i := 7) rfl)) rfl, ⟨by decide, by decide⟩, by decide +kernel⟩, kW0_in (inT5 (List.mem_of_getElem? (i := 232) rfl)) rfl⟩
abbrev m_X6_isRoom : kMR := (yX6_isRoom, cX6_isRoom, 1, (some .boolean), [])
theorem o_X6_isRoom : kOkS m_X6_isRoom 1 := ⟨⟨kW0_in (inT5 (List.mem_of_getElem? (i := 230) rfl)) rfl, kW0_in (inT1 (List.mem_of_getElem? (i := 7) rfl)) rfl, ⟨by decide, by decide⟩, by decide +kernel⟩, kW0_in (inT5 (List.mem_of_getElem? (i := 229) rfl)) rfl⟩
abbrev m_X6_isPerson : kMR := (yX6_isPerson, cX6_isPerson, 1, (some .boolean), [])
theorem o_X6_isPerson : kOkS m_X6_isPerson 1 := ⟨⟨kW0_in (inT6 (List.mem_of_getElem? (i := 16) rfl)) rfl, kW0_in (inT1 (List.mem_of_getElem? (i := 7) rfl)) rfl, ⟨by decide, by decide⟩, by decide +kernel⟩, kW0_in (inT6 (List.mem_of_getElem? (i := 15) rfl)) rfl⟩
abbrev m_X6_isDay : kMR := (yX6_isDay, cX6_isDay, 1, (some .boolean), [])
theorem o_X6_isDay : kOkS m_X6_isDay 1 := ⟨⟨kW0_in (inT6 (List.mem_of_getElem? (i := 19) rfl)) rfl, kW0_in (inT1 (List.mem_of_getElem? (i := 7) rfl)) rfl, ⟨by decide, by decide⟩, by decide +kernel⟩, kW0_in (inT6 (List.mem_of_getElem? (i := 18) rfl)) rfl⟩
abbrev m_X6_isTime : kMR := (yX6_isTime, cX6_isTime, 1, (some .boolean), [])
theorem o_X6_isTime : kOkS m_X6_isTime 1 := ⟨⟨kW0_in (inT6 (List.mem_of_getElem? (i := 22) rfl)) rfl, kW0_in (inT1 (List.mem_of_getElem? (i := 7) rfl)) rfl, ⟨by decide, by decide⟩, by decide +kernel⟩, kW0_in (inT6 (List.mem_of_getElem? (i := 21) rfl)) rfl⟩
abbrev m_X6_setRoom : kMR := (yX6_setRoom, cX6_setRoom, 5, (some .int), [])
theorem o_X6_setRoom : kOkV m_X6_setRoom 3 := ⟨rfl, ⟨kW0_in (inT5 (List.mem_of_getElem? (i := 227) rfl)) rfl, kW0_in (inT1 (List.mem_of_getElem? (i := 7) rfl)) rfl, ⟨by decide, by decide⟩, by decide +kernel⟩, kW0_in (inT5 (List.mem_of_getElem? (i := 225) rfl)) rfl, kW0_in (inT5 (List.mem_of_getElem? (i := 226) rfl)) rfl⟩
abbrev m_X6_setGap : kMR := (yX6_setGap, cX6_setGap, 3, (some .int), [])
theorem o_X6_setGap : kOkV m_X6_setGap 1 := ⟨rfl, ⟨kW0_in (inT6 (List.mem_of_getElem? (i := 1) rfl)) rfl, kW0_in (inT1 (List.mem_of_getElem? (i := 7) rfl)) rfl, ⟨by decide, by decide⟩, by decide +kernel⟩, kW0_in (inT5 (List.mem_of_getElem? (i := 239) rfl)) rfl, kW0_in (inT6 (List.mem_of_getElem? (i := 0) rfl)) rfl⟩
abbrev m_X6_seatsOf : kMR := (yX6_seatsOf, cX6_seatsOf, 2, (some .int), [])
theorem o_X6_seatsOf : kOkV m_X6_seatsOf 1 := ⟨rfl, ⟨kW0_in (inT6 (List.mem_of_getElem? (i := 5) rfl)) rfl, kW0_in (inT1 (List.mem_of_getElem? (i := 7) rfl)) rfl, ⟨by decide, by decide⟩, by decide +kernel⟩, kW0_in (inT6 (List.mem_of_getElem? (i := 3) rfl)) rfl, kW0_in (inT6 (List.mem_of_getElem? (i := 4) rfl)) rfl⟩
abbrev m_X6_houseOf : kMR := (yX6_houseOf, cX6_houseOf, 2, (some .int), [])
theorem o_X6_houseOf : kOkV m_X6_houseOf 1 := ⟨rfl, ⟨kW0_in (inT6 (List.mem_of_getElem? (i := 9) rfl)) rfl, kW0_in (inT1 (List.mem_of_getElem? (i := 7) rfl)) rfl, ⟨by decide, by decide⟩, by decide +kernel⟩, kW0_in (inT6 (List.mem_of_getElem? (i := 7) rfl)) rfl, kW0_in (inT6 (List.mem_of_getElem? (i := 8) rfl)) rfl⟩
abbrev m_X6_of : kMR := (yX6_of, cX6_of, 3, (some .int), [])
theorem o_X6_of : kOkV m_X6_of 2 := ⟨rfl, ⟨kW0_in (inT6 (List.mem_of_getElem? (i := 30) rfl)) rfl, kW0_in (inT1 (List.mem_of_getElem? (i := 7) rfl)) rfl, ⟨by decide, by decide⟩, by decide +kernel⟩, kW0_in (inT6 (List.mem_of_getElem? (i := 29) rfl)) rfl, kW0_in (List.mem_append_left _ (List.mem_of_getElem? (i := 32) rfl)) rfl⟩
abbrev m_X6_lays : kMR := (yX6_lays, cX6_lays, 4, (none), [])
theorem o_X6_lays : kOkV m_X6_lays 3 := ⟨rfl, ⟨kW0_in (inT6 (List.mem_of_getElem? (i := 73) rfl)) rfl, kW0_in (inT1 (List.mem_of_getElem? (i := 7) rfl)) rfl, ⟨by decide, by decide⟩, by decide +kernel⟩, kW0_in (inT6 (List.mem_of_getElem? (i := 72) rfl)) rfl, kW0_in (List.mem_append_left _ (List.mem_of_getElem? (i := 42) rfl)) rfl⟩
abbrev m_X6_date : kMR := (yX6_date, cX6_date, 4, (some .int), [])
theorem o_X6_date : kOkV m_X6_date 3 := ⟨rfl, ⟨kW0_in (inT6 (List.mem_of_getElem? (i := 42) rfl)) rfl, kW0_in (inT1 (List.mem_of_getElem? (i := 7) rfl)) rfl, ⟨by decide, by decide⟩, by decide +kernel⟩, kW0_in (inT6 (List.mem_of_getElem? (i := 41) rfl)) rfl, kW0_in (List.mem_append_left _ (List.mem_of_getElem? (i := 35) rfl)) rfl⟩
abbrev m_X6_at : kMR := (yX6_at, cX6_at, 3, (some .int), [])
theorem o_X6_at : kOkV m_X6_at 1 := ⟨rfl, ⟨kW0_in (inT6 (List.mem_of_getElem? (i := 85) rfl)) rfl, kW0_in (inT1 (List.mem_of_getElem? (i := 7) rfl)) rfl, ⟨by decide, by decide⟩, by decide +kernel⟩, kW0_in (inT6 (List.mem_of_getElem? (i := 84) rfl)) rfl, kW0_in (List.mem_append_left _ (List.mem_of_getElem? (i := 44) rfl)) rfl⟩
abbrev m_X6_isExpected : kMR := (yX6_isExpected, cX6_isExpected, 3, (some .boolean), [])
theorem o_X6_isExpected : kOkV m_X6_isExpected 2 := ⟨rfl, ⟨kW0_in (inT6 (List.mem_of_getElem? (i := 54) rfl)) rfl, kW0_in (inT1 (List.mem_of_getElem? (i := 7) rfl)) rfl, ⟨by decide, by decide⟩, by decide +kernel⟩, kW0_in (inT6 (List.mem_of_getElem? (i := 53) rfl)) rfl, kW0_in (List.mem_append_left _ (List.mem_of_getElem? (i := 38) rfl)) rfl⟩
abbrev m_X6_people : kMR := (yX6_people, cX6_people, 4, (some .int), [])
theorem o_X6_people : kOkV m_X6_people 1 := ⟨rfl, ⟨kW0_in (inT6 (List.mem_of_getElem? (i := 50) rfl)) rfl, kW0_in (inT1 (List.mem_of_getElem? (i := 7) rfl)) rfl, ⟨by decide, by decide⟩, by decide +kernel⟩, kW0_in (inT6 (List.mem_of_getElem? (i := 49) rfl)) rfl, kW0_in (List.mem_append_left _ (List.mem_of_getElem? (i := 37) rfl)) rfl⟩
abbrev m_X6_many : kMR := (yX6_many, cX6_many, 3, (some .int), [])
theorem o_X6_many : kOkS m_X6_many 1 := ⟨⟨kW0_in (inT6 (List.mem_of_getElem? (i := 69) rfl)) rfl, kW0_in (inT1 (List.mem_of_getElem? (i := 7) rfl)) rfl, ⟨by decide, by decide⟩, by decide +kernel⟩, kW0_in (inT6 (List.mem_of_getElem? (i := 68) rfl)) rfl⟩
abbrev m_X6_isOn : kMR := (yX6_isOn, cX6_isOn, 3, (some .boolean), [])
theorem o_X6_isOn : kOkV m_X6_isOn 2 := ⟨rfl, ⟨kW0_in (inT6 (List.mem_of_getElem? (i := 38) rfl)) rfl, kW0_in (inT1 (List.mem_of_getElem? (i := 7) rfl)) rfl, ⟨by decide, by decide⟩, by decide +kernel⟩, kW0_in (inT6 (List.mem_of_getElem? (i := 37) rfl)) rfl, kW0_in (List.mem_append_left _ (List.mem_of_getElem? (i := 34) rfl)) rfl⟩
abbrev m_X6_between : kMR := (yX6_between, cX6_between, 6, (some .int), [])
theorem o_X6_between : kOkV m_X6_between 4 := ⟨rfl, ⟨kW0_in (inT6 (List.mem_of_getElem? (i := 46) rfl)) rfl, kW0_in (inT1 (List.mem_of_getElem? (i := 7) rfl)) rfl, ⟨by decide, by decide⟩, by decide +kernel⟩, kW0_in (inT6 (List.mem_of_getElem? (i := 45) rfl)) rfl, kW0_in (List.mem_append_left _ (List.mem_of_getElem? (i := 36) rfl)) rfl⟩
abbrev m_X6_counts : kMR := (yX6_counts, cX6_counts, 4, (some .boolean), [])
theorem o_X6_counts : kOkV m_X6_counts 3 := ⟨rfl, ⟨kW0_in (inT6 (List.mem_of_getElem? (i := 34) rfl)) rfl, kW0_in (inT1 (List.mem_of_getElem? (i := 7) rfl)) rfl, ⟨by decide, by decide⟩, by decide +kernel⟩, kW0_in (inT6 (List.mem_of_getElem? (i := 33) rfl)) rfl, kW0_in (List.mem_append_left _ (List.mem_of_getElem? (i := 33) rfl)) rfl⟩
abbrev m_X6_busy : kMR := (yX6_busy, cX6_busy, 8, (some .int), [])
theorem o_X6_busy : kOkV m_X6_busy 4 := ⟨rfl, ⟨kW0_in (inT6 (List.mem_of_getElem? (i := 26) rfl)) rfl, kW0_in (inT1 (List.mem_of_getElem? (i := 7) rfl)) rfl, ⟨by decide, by decide⟩, by decide +kernel⟩, kW0_in (inT6 (List.mem_of_getElem? (i := 25) rfl)) rfl, kW0_in (List.mem_append_left _ (List.mem_of_getElem? (i := 31) rfl)) rfl⟩
abbrev m_X6_fits : kMR := (yX6_fits, cX6_fits, 10, (some .boolean), [])
theorem o_X6_fits : kOkV m_X6_fits 5 := ⟨rfl, ⟨kW0_in (inT6 (List.mem_of_getElem? (i := 66) rfl)) rfl, kW0_in (inT1 (List.mem_of_getElem? (i := 7) rfl)) rfl, ⟨by decide, by decide⟩, by decide +kernel⟩, kW0_in (inT6 (List.mem_of_getElem? (i := 65) rfl)) rfl, kW0_in (List.mem_append_left _ (List.mem_of_getElem? (i := 41) rfl)) rfl⟩
abbrev m_X6_smallest : kMR := (yX6_smallest, cX6_smallest, 7, (some .int), [])
theorem o_X6_smallest : kOkV m_X6_smallest 4 := ⟨rfl, ⟨kW0_in (inT6 (List.mem_of_getElem? (i := 62) rfl)) rfl, kW0_in (inT1 (List.mem_of_getElem? (i := 7) rfl)) rfl, ⟨by decide, by decide⟩, by decide +kernel⟩, kW0_in (inT6 (List.mem_of_getElem? (i := 61) rfl)) rfl, kW0_in (List.mem_append_left _ (List.mem_of_getElem? (i := 40) rfl)) rfl⟩
abbrev m_X6_refuses : kMR := (yX6_refuses, cX6_refuses, 4, (some .boolean), [])
theorem o_X6_refuses : kOkV m_X6_refuses 3 := ⟨rfl, ⟨kW0_in (inT6 (List.mem_of_getElem? (i := 58) rfl)) rfl, kW0_in (inT1 (List.mem_of_getElem? (i := 7) rfl)) rfl, ⟨by decide, by decide⟩, by decide +kernel⟩, kW0_in (inT6 (List.mem_of_getElem? (i := 57) rfl)) rfl, kW0_in (List.mem_append_left _ (List.mem_of_getElem? (i := 39) rfl)) rfl⟩
abbrev m_X6_dates : kMR := (yX6_dates, cX6_dates, 7, (none), [])
theorem o_X6_dates : kOkV m_X6_dates 5 := ⟨rfl, ⟨kW0_in (inT6 (List.mem_of_getElem? (i := 77) rfl)) rfl, kW0_in (inT1 (List.mem_of_getElem? (i := 7) rfl)) rfl, ⟨by decide, by decide⟩, by decide +kernel⟩, kW0_in (inT6 (List.mem_of_getElem? (i := 76) rfl)) rfl, kW0_in (List.mem_append_left _ (List.mem_of_getElem? (i := 43) rfl)) rfl⟩
abbrev m_X6_ask : kMR := (yX6_ask, cX6_ask, 12, (some .int), [])
theorem o_X6_ask : kOkV m_X6_ask 5 := ⟨rfl, ⟨kW0_in (inT6 (List.mem_of_getElem? (i := 13) rfl)) rfl, kW0_in (inT1 (List.mem_of_getElem? (i := 7) rfl)) rfl, ⟨by decide, by decide⟩, by decide +kernel⟩, kW0_in (inT6 (List.mem_of_getElem? (i := 11) rfl)) rfl, kW0_in (inT6 (List.mem_of_getElem? (i := 12) rfl)) rfl⟩
abbrev m_X6_extend : kMR := (yX6_extend, cX6_extend, 10, (some .int), [])
theorem o_X6_extend : kOkV m_X6_extend 3 := ⟨rfl, ⟨kW0_in (inT6 (List.mem_of_getElem? (i := 81) rfl)) rfl, kW0_in (inT1 (List.mem_of_getElem? (i := 7) rfl)) rfl, ⟨by decide, by decide⟩, by decide +kernel⟩, kW0_in (inT6 (List.mem_of_getElem? (i := 79) rfl)) rfl, kW0_in (inT6 (List.mem_of_getElem? (i := 80) rfl)) rfl⟩
abbrev m_X6_isNone : kMR := (yX6_isNone, cX6_isNone, 2, (some .boolean), [])
theorem o_X6_isNone : kOkV m_X6_isNone 1 := ⟨rfl, ⟨kW0_in (inT6 (List.mem_of_getElem? (i := 93) rfl)) rfl, kW0_in (inT1 (List.mem_of_getElem? (i := 7) rfl)) rfl, ⟨by decide, by decide⟩, by decide +kernel⟩, kW0_in (inT6 (List.mem_of_getElem? (i := 92) rfl)) rfl, kW0_in (List.mem_append_left _ (List.mem_of_getElem? (i := 45) rfl)) rfl⟩
abbrev m_X6_isNoDate : kMR := (yX6_isNoDate, cX6_isNoDate, 3, (some .boolean), [])
theorem o_X6_isNoDate : kOkV m_X6_isNoDate 2 := ⟨rfl, ⟨kW0_in (inT6 (List.mem_of_getElem? (i := 113) rfl)) rfl, kW0_in (inT1 (List.mem_of_getElem? (i := 7) rfl)) rfl, ⟨by decide, by decide⟩, by decide +kernel⟩, kW0_in (inT6 (List.mem_of_getElem? (i := 112) rfl)) rfl, kW0_in (List.mem_append_left _ (List.mem_of_getElem? (i := 48) rfl)) rfl⟩
abbrev m_X6_remove : kMR := (yX6_remove, cX6_remove, 4, (some .int), [])
theorem o_X6_remove : kOkV m_X6_remove 1 := ⟨rfl, ⟨kW0_in (inT6 (List.mem_of_getElem? (i := 89) rfl)) rfl, kW0_in (inT1 (List.mem_of_getElem? (i := 7) rfl)) rfl, ⟨by decide, by decide⟩, by decide +kernel⟩, kW0_in (inT6 (List.mem_of_getElem? (i := 87) rfl)) rfl, kW0_in (inT6 (List.mem_of_getElem? (i := 88) rfl)) rfl⟩
abbrev m_X6_isKeptOut : kMR := (yX6_isKeptOut, cX6_isKeptOut, 4, (some .boolean), [])
theorem o_X6_isKeptOut : kOkV m_X6_isKeptOut 2 := ⟨rfl, ⟨kW0_in (inT6 (List.mem_of_getElem? (i := 101) rfl)) rfl, kW0_in (inT1 (List.mem_of_getElem? (i := 7) rfl)) rfl, ⟨by decide, by decide⟩, by decide +kernel⟩, kW0_in (inT6 (List.mem_of_getElem? (i := 100) rfl)) rfl, kW0_in (List.mem_append_left _ (List.mem_of_getElem? (i := 46) rfl)) rfl⟩
abbrev m_X6_clashes : kMR := (yX6_clashes, cX6_clashes, 8, (some .boolean), [])
theorem o_X6_clashes : kOkV m_X6_clashes 3 := ⟨rfl, ⟨kW0_in (inT6 (List.mem_of_getElem? (i := 105) rfl)) rfl, kW0_in (inT1 (List.mem_of_getElem? (i := 7) rfl)) rfl, ⟨by decide, by decide⟩, by decide +kernel⟩, kW0_in (inT6 (List.mem_of_getElem? (i := 104) rfl)) rfl, kW0_in (List.mem_append_left _ (List.mem_of_getElem? (i := 47) rfl)) rfl⟩
abbrev m_X6_answer : kMR := (yX6_answer, cX6_answer, 6, (some .char), [])
theorem o_X6_answer : kOkV m_X6_answer 3 := ⟨rfl, ⟨kW0_in (inT6 (List.mem_of_getElem? (i := 97) rfl)) rfl, kW0_in (inT1 (List.mem_of_getElem? (i := 7) rfl)) rfl, ⟨by decide, by decide⟩, by decide +kernel⟩, kW0_in (inT6 (List.mem_of_getElem? (i := 95) rfl)) rfl, kW0_in (inT6 (List.mem_of_getElem? (i := 96) rfl)) rfl⟩
abbrev m_X6_cancel : kMR := (yX6_cancel, cX6_cancel, 6, (some .int), [])
theorem o_X6_cancel : kOkV m_X6_cancel 2 := ⟨rfl, ⟨kW0_in (inT6 (List.mem_of_getElem? (i := 109) rfl)) rfl, kW0_in (inT1 (List.mem_of_getElem? (i := 7) rfl)) rfl, ⟨by decide, by decide⟩, by decide +kernel⟩, kW0_in (inT6 (List.mem_of_getElem? (i := 107) rfl)) rfl, kW0_in (inT6 (List.mem_of_getElem? (i := 108) rfl)) rfl⟩
abbrev m_X6_move : kMR := (yX6_move, cX6_move, 8, (some .int), [])
theorem o_X6_move : kOkV m_X6_move 4 := ⟨rfl, ⟨kW0_in (inT6 (List.mem_of_getElem? (i := 117) rfl)) rfl, kW0_in (inT1 (List.mem_of_getElem? (i := 7) rfl)) rfl, ⟨by decide, by decide⟩, by decide +kernel⟩, kW0_in (inT6 (List.mem_of_getElem? (i := 115) rfl)) rfl, kW0_in (inT6 (List.mem_of_getElem? (i := 116) rfl)) rfl⟩
abbrev m_X6_meetingCount : kMR := (yX6_meetingCount, cX6_meetingCount, 1, (some .int), [])
theorem o_X6_meetingCount : kOkV m_X6_meetingCount 0 := ⟨rfl, ⟨kW0_in (inT6 (List.mem_of_getElem? (i := 121) rfl)) rfl, kW0_in (inT1 (List.mem_of_getElem? (i := 7) rfl)) rfl, ⟨by decide, by decide⟩, by decide +kernel⟩, kW0_in (inT6 (List.mem_of_getElem? (i := 119) rfl)) rfl, kW0_in (inT6 (List.mem_of_getElem? (i := 120) rfl)) rfl⟩
abbrev m_X6_meetingAt : kMR := (yX6_meetingAt, cX6_meetingAt, 2, (some .int), [])
theorem o_X6_meetingAt : kOkV m_X6_meetingAt 1 := ⟨rfl, ⟨kW0_in (inT6 (List.mem_of_getElem? (i := 125) rfl)) rfl, kW0_in (inT1 (List.mem_of_getElem? (i := 7) rfl)) rfl, ⟨by decide, by decide⟩, by decide +kernel⟩, kW0_in (inT6 (List.mem_of_getElem? (i := 123) rfl)) rfl, kW0_in (inT6 (List.mem_of_getElem? (i := 124) rfl)) rfl⟩
abbrev m_X6_hostOf : kMR := (yX6_hostOf, cX6_hostOf, 2, (some .int), [])
theorem o_X6_hostOf : kOkV m_X6_hostOf 1 := ⟨rfl, ⟨kW0_in (inT6 (List.mem_of_getElem? (i := 129) rfl)) rfl, kW0_in (inT1 (List.mem_of_getElem? (i := 7) rfl)) rfl, ⟨by decide, by decide⟩, by decide +kernel⟩, kW0_in (inT6 (List.mem_of_getElem? (i := 127) rfl)) rfl, kW0_in (inT6 (List.mem_of_getElem? (i := 128) rfl)) rfl⟩
abbrev m_X6_answerOf : kMR := (yX6_answerOf, cX6_answerOf, 3, (some .char), [])
theorem o_X6_answerOf : kOkV m_X6_answerOf 2 := ⟨rfl, ⟨kW0_in (inT6 (List.mem_of_getElem? (i := 133) rfl)) rfl, kW0_in (inT1 (List.mem_of_getElem? (i := 7) rfl)) rfl, ⟨by decide, by decide⟩, by decide +kernel⟩, kW0_in (inT6 (List.mem_of_getElem? (i := 131) rfl)) rfl, kW0_in (inT6 (List.mem_of_getElem? (i := 132) rfl)) rfl⟩
abbrev m_X6_expected : kMR := (yX6_expected, cX6_expected, 2, (some .int), [])
theorem o_X6_expected : kOkV m_X6_expected 1 := ⟨rfl, ⟨kW0_in (inT6 (List.mem_of_getElem? (i := 138) rfl)) rfl, kW0_in (inT1 (List.mem_of_getElem? (i := 7) rfl)) rfl, ⟨by decide, by decide⟩, by decide +kernel⟩, kW0_in (inT6 (List.mem_of_getElem? (i := 136) rfl)) rfl, kW0_in (inT6 (List.mem_of_getElem? (i := 137) rfl)) rfl⟩
abbrev m_X6_dateCount : kMR := (yX6_dateCount, cX6_dateCount, 2, (some .int), [])
theorem o_X6_dateCount : kOkV m_X6_dateCount 1 := ⟨rfl, ⟨kW0_in (inT6 (List.mem_of_getElem? (i := 142) rfl)) rfl, kW0_in (inT1 (List.mem_of_getElem? (i := 7) rfl)) rfl, ⟨by decide, by decide⟩, by decide +kernel⟩, kW0_in (inT6 (List.mem_of_getElem? (i := 140) rfl)) rfl, kW0_in (inT6 (List.mem_of_getElem? (i := 141) rfl)) rfl⟩
abbrev m_X6_dayOf : kMR := (yX6_dayOf, cX6_dayOf, 3, (some .int), [])
theorem o_X6_dayOf : kOkV m_X6_dayOf 2 := ⟨rfl, ⟨kW0_in (inT6 (List.mem_of_getElem? (i := 146) rfl)) rfl, kW0_in (inT1 (List.mem_of_getElem? (i := 7) rfl)) rfl, ⟨by decide, by decide⟩, by decide +kernel⟩, kW0_in (inT6 (List.mem_of_getElem? (i := 144) rfl)) rfl, kW0_in (inT6 (List.mem_of_getElem? (i := 145) rfl)) rfl⟩
abbrev m_X6_timeOf : kMR := (yX6_timeOf, cX6_timeOf, 3, (some .int), [])
theorem o_X6_timeOf : kOkV m_X6_timeOf 2 := ⟨rfl, ⟨kW0_in (inT6 (List.mem_of_getElem? (i := 150) rfl)) rfl, kW0_in (inT1 (List.mem_of_getElem? (i := 7) rfl)) rfl, ⟨by decide, by decide⟩, by decide +kernel⟩, kW0_in (inT6 (List.mem_of_getElem? (i := 148) rfl)) rfl, kW0_in (inT6 (List.mem_of_getElem? (i := 149) rfl)) rfl⟩
abbrev m_X6_isCancelled : kMR := (yX6_isCancelled, cX6_isCancelled, 3, (some .boolean), [])
theorem o_X6_isCancelled : kOkV m_X6_isCancelled 2 := ⟨rfl, ⟨kW0_in (inT6 (List.mem_of_getElem? (i := 154) rfl)) rfl, kW0_in (inT1 (List.mem_of_getElem? (i := 7) rfl)) rfl, ⟨by decide, by decide⟩, by decide +kernel⟩, kW0_in (inT6 (List.mem_of_getElem? (i := 152) rfl)) rfl, kW0_in (inT6 (List.mem_of_getElem? (i := 153) rfl)) rfl⟩
abbrev m_X6_roomOf : kMR := (yX6_roomOf, cX6_roomOf, 3, (some .int), [])
theorem o_X6_roomOf : kOkV m_X6_roomOf 2 := ⟨rfl, ⟨kW0_in (inT6 (List.mem_of_getElem? (i := 158) rfl)) rfl, kW0_in (inT1 (List.mem_of_getElem? (i := 7) rfl)) rfl, ⟨by decide, by decide⟩, by decide +kernel⟩, kW0_in (inT6 (List.mem_of_getElem? (i := 156) rfl)) rfl, kW0_in (inT6 (List.mem_of_getElem? (i := 157) rfl)) rfl⟩
abbrev m_X6_refusalReason : kMR := (yX6_refusalReason, cX6_refusalReason, 1, (some .int), [])
theorem o_X6_refusalReason : kOkV m_X6_refusalReason 0 := ⟨rfl, ⟨kW0_in (inT6 (List.mem_of_getElem? (i := 162) rfl)) rfl, kW0_in (inT1 (List.mem_of_getElem? (i := 7) rfl)) rfl, ⟨by decide, by decide⟩, by decide +kernel⟩, kW0_in (inT6 (List.mem_of_getElem? (i := 160) rfl)) rfl, kW0_in (inT6 (List.mem_of_getElem? (i := 161) rfl)) rfl⟩
abbrev m_X6_refusalDetail : kMR := (yX6_refusalDetail, cX6_refusalDetail, 1, (some .int), [])
theorem o_X6_refusalDetail : kOkV m_X6_refusalDetail 0 := ⟨rfl, ⟨kW0_in (inT6 (List.mem_of_getElem? (i := 166) rfl)) rfl, kW0_in (inT1 (List.mem_of_getElem? (i := 7) rfl)) rfl, ⟨by decide, by decide⟩, by decide +kernel⟩, kW0_in (inT6 (List.mem_of_getElem? (i := 164) rfl)) rfl, kW0_in (inT6 (List.mem_of_getElem? (i := 165) rfl)) rfl⟩
abbrev m_X6_isFreeAt : kMR := (yX6_isFreeAt, cX6_isFreeAt, 4, (some .boolean), [])
theorem o_X6_isFreeAt : kOkV m_X6_isFreeAt 3 := ⟨rfl, ⟨kW0_in (inT6 (List.mem_of_getElem? (i := 177) rfl)) rfl, kW0_in (inT1 (List.mem_of_getElem? (i := 7) rfl)) rfl, ⟨by decide, by decide⟩, by decide +kernel⟩, kW0_in (inT6 (List.mem_of_getElem? (i := 176) rfl)) rfl, kW0_in (List.mem_append_left _ (List.mem_of_getElem? (i := 49) rfl)) rfl⟩
abbrev m_X6_isNoTime : kMR := (yX6_isNoTime, cX6_isNoTime, 3, (some .boolean), [])
theorem o_X6_isNoTime : kOkS m_X6_isNoTime 3 := ⟨⟨kW0_in (inT6 (List.mem_of_getElem? (i := 173) rfl)) rfl, kW0_in (inT1 (List.mem_of_getElem? (i := 7) rfl)) rfl, ⟨by decide, by decide⟩, by decide +kernel⟩, kW0_in (inT6 (List.mem_of_getElem? (i := 172) rfl)) rfl⟩
abbrev m_X6_isFree : kMR := (yX6_isFree, cX6_isFree, 4, (some .boolean), [])
theorem o_X6_isFree : kOkV m_X6_isFree 3 := ⟨rfl, ⟨kW0_in (inT6 (List.mem_of_getElem? (i := 170) rfl)) rfl, kW0_in (inT1 (List.mem_of_getElem? (i := 7) rfl)) rfl, ⟨by decide, by decide⟩, by decide +kernel⟩, kW0_in (inT6 (List.mem_of_getElem? (i := 168) rfl)) rfl, kW0_in (inT6 (List.mem_of_getElem? (i := 169) rfl)) rfl⟩
abbrev m_X6_meetingOf : kMR := (yX6_meetingOf, cX6_meetingOf, 7, (some .int), [])
theorem o_X6_meetingOf : kOkV m_X6_meetingOf 3 := ⟨rfl, ⟨kW0_in (inT6 (List.mem_of_getElem? (i := 181) rfl)) rfl, kW0_in (inT1 (List.mem_of_getElem? (i := 7) rfl)) rfl, ⟨by decide, by decide⟩, by decide +kernel⟩, kW0_in (inT6 (List.mem_of_getElem? (i := 179) rfl)) rfl, kW0_in (inT6 (List.mem_of_getElem? (i := 180) rfl)) rfl⟩
abbrev m_X6_frees : kMR := (yX6_frees, cX6_frees, 5, (some .int), [])
theorem o_X6_frees : kOkV m_X6_frees 2 := ⟨rfl, ⟨kW0_in (inT6 (List.mem_of_getElem? (i := 189) rfl)) rfl, kW0_in (inT1 (List.mem_of_getElem? (i := 7) rfl)) rfl, ⟨by decide, by decide⟩, by decide +kernel⟩, kW0_in (inT6 (List.mem_of_getElem? (i := 188) rfl)) rfl, kW0_in (List.mem_append_left _ (List.mem_of_getElem? (i := 50) rfl)) rfl⟩
abbrev m_X6_freeTimes : kMR := (yX6_freeTimes, cX6_freeTimes, 3, (some .int), [])
theorem o_X6_freeTimes : kOkV m_X6_freeTimes 2 := ⟨rfl, ⟨kW0_in (inT6 (List.mem_of_getElem? (i := 185) rfl)) rfl, kW0_in (inT1 (List.mem_of_getElem? (i := 7) rfl)) rfl, ⟨by decide, by decide⟩, by decide +kernel⟩, kW0_in (inT6 (List.mem_of_getElem? (i := 183) rfl)) rfl, kW0_in (inT6 (List.mem_of_getElem? (i := 184) rfl)) rfl⟩
abbrev m_X6_freeByTrying : kMR := (yX6_freeByTrying, cX6_freeByTrying, 3, (some .int), [])
theorem o_X6_freeByTrying : kOkV m_X6_freeByTrying 2 := ⟨rfl, ⟨kW0_in (inT6 (List.mem_of_getElem? (i := 193) rfl)) rfl, kW0_in (inT1 (List.mem_of_getElem? (i := 7) rfl)) rfl, ⟨by decide, by decide⟩, by decide +kernel⟩, kW0_in (inT6 (List.mem_of_getElem? (i := 191) rfl)) rfl, kW0_in (inT6 (List.mem_of_getElem? (i := 192) rfl)) rfl⟩
abbrev m_X6_longestFree : kMR := (yX6_longestFree, cX6_longestFree, 6, (some .int), [])
theorem o_X6_longestFree : kOkV m_X6_longestFree 2 := ⟨rfl, ⟨kW0_in (inT6 (List.mem_of_getElem? (i := 197) rfl)) rfl, kW0_in (inT1 (List.mem_of_getElem? (i := 7) rfl)) rfl, ⟨by decide, by decide⟩, by decide +kernel⟩, kW0_in (inT6 (List.mem_of_getElem? (i := 195) rfl)) rfl, kW0_in (inT6 (List.mem_of_getElem? (i := 196) rfl)) rfl⟩
abbrev m_X6_isNoPlan : kMR := (yX6_isNoPlan, cX6_isNoPlan, 4, (some .boolean), [])
theorem o_X6_isNoPlan : kOkV m_X6_isNoPlan 3 := ⟨rfl, ⟨kW0_in (inT6 (List.mem_of_getElem? (i := 205) rfl)) rfl, kW0_in (inT1 (List.mem_of_getElem? (i := 7) rfl)) rfl, ⟨by decide, by decide⟩, by decide +kernel⟩, kW0_in (inT6 (List.mem_of_getElem? (i := 204) rfl)) rfl, kW0_in (List.mem_append_left _ (List.mem_of_getElem? (i := 51) rfl)) rfl⟩
abbrev m_X6_roomFound : kMR := (yX6_roomFound, cX6_roomFound, 5, (some .int), [])
theorem o_X6_roomFound : kOkV m_X6_roomFound 4 := ⟨rfl, ⟨kW0_in (inT6 (List.mem_of_getElem? (i := 209) rfl)) rfl, kW0_in (inT1 (List.mem_of_getElem? (i := 7) rfl)) rfl, ⟨by decide, by decide⟩, by decide +kernel⟩, kW0_in (inT6 (List.mem_of_getElem? (i := 208) rfl)) rfl, kW0_in (List.mem_append_left _ (List.mem_of_getElem? (i := 52) rfl)) rfl⟩
abbrev m_X6_firstCommon : kMR := (yX6_firstCommon, cX6_firstCommon, 6, (some .int), [])
theorem o_X6_firstCommon : kOkV m_X6_firstCommon 3 := ⟨rfl, ⟨kW0_in (inT6 (List.mem_of_getElem? (i := 201) rfl)) rfl, kW0_in (inT1 (List.mem_of_getElem? (i := 7) rfl)) rfl, ⟨by decide, by decide⟩, by decide +kernel⟩, kW0_in (inT6 (List.mem_of_getElem? (i := 199) rfl)) rfl, kW0_in (inT6 (List.mem_of_getElem? (i := 200) rfl)) rfl⟩
abbrev m_X6_commonCount : kMR := (yX6_commonCount, cX6_commonCount, 6, (some .int), [])
theorem o_X6_commonCount : kOkV m_X6_commonCount 3 := ⟨rfl, ⟨kW0_in (inT6 (List.mem_of_getElem? (i := 213) rfl)) rfl, kW0_in (inT1 (List.mem_of_getElem? (i := 7) rfl)) rfl, ⟨by decide, by decide⟩, by decide +kernel⟩, kW0_in (inT6 (List.mem_of_getElem? (i := 211) rfl)) rfl, kW0_in (inT6 (List.mem_of_getElem? (i := 212) rfl)) rfl⟩
abbrev m_X6_roomFor : kMR := (yX6_roomFor, cX6_roomFor, 6, (some .int), [])
theorem o_X6_roomFor : kOkV m_X6_roomFor 4 := ⟨rfl, ⟨kW0_in (inT6 (List.mem_of_getElem? (i := 217) rfl)) rfl, kW0_in (inT1 (List.mem_of_getElem? (i := 7) rfl)) rfl, ⟨by decide, by decide⟩, by decide +kernel⟩, kW0_in (inT6 (List.mem_of_getElem? (i := 215) rfl)) rfl, kW0_in (inT6 (List.mem_of_getElem? (i := 216) rfl)) rfl⟩
abbrev m_X6_usedTimes : kMR := (yX6_usedTimes, cX6_usedTimes, 8, (some .int), [])
theorem o_X6_usedTimes : kOkV m_X6_usedTimes 2 := ⟨rfl, ⟨kW0_in (inT6 (List.mem_of_getElem? (i := 221) rfl)) rfl, kW0_in (inT1 (List.mem_of_getElem? (i := 7) rfl)) rfl, ⟨by decide, by decide⟩, by decide +kernel⟩, kW0_in (inT6 (List.mem_of_getElem? (i := 219) rfl)) rfl, kW0_in (inT6 (List.mem_of_getElem? (i := 220) rfl)) rfl⟩
abbrev m_X6_walks : kMR := (yX6_walks, cX6_walks, 9, (some .int), [])
theorem o_X6_walks : kOkV m_X6_walks 2 := ⟨rfl, ⟨kW0_in (inT6 (List.mem_of_getElem? (i := 225) rfl)) rfl, kW0_in (inT1 (List.mem_of_getElem? (i := 7) rfl)) rfl, ⟨by decide, by decide⟩, by decide +kernel⟩, kW0_in (inT6 (List.mem_of_getElem? (i := 223) rfl)) rfl, kW0_in (inT6 (List.mem_of_getElem? (i := 224) rfl)) rfl⟩
abbrev m_X6_sittings : kMR := (yX6_sittings, cX6_sittings, 4, (some .long), [])
theorem o_X6_sittings : kOkV m_X6_sittings 0 := ⟨rfl, ⟨kW0_in (inT6 (List.mem_of_getElem? (i := 229) rfl)) rfl, kW0_in (inT1 (List.mem_of_getElem? (i := 7) rfl)) rfl, ⟨by decide, by decide⟩, by decide +kernel⟩, kW0_in (inT6 (List.mem_of_getElem? (i := 227) rfl)) rfl, kW0_in (inT6 (List.mem_of_getElem? (i := 228) rfl)) rfl⟩
abbrev m_X6_meanExpected : kMR := (yX6_meanExpected, cX6_meanExpected, 3, (some .double), [])
theorem o_X6_meanExpected : kOkV m_X6_meanExpected 0 := ⟨rfl, ⟨kW0_in (inT6 (List.mem_of_getElem? (i := 233) rfl)) rfl, kW0_in (inT1 (List.mem_of_getElem? (i := 7) rfl)) rfl, ⟨by decide, by decide⟩, by decide +kernel⟩, kW0_in (inT6 (List.mem_of_getElem? (i := 231) rfl)) rfl, kW0_in (inT6 (List.mem_of_getElem? (i := 232) rfl)) rfl⟩
abbrev m_X6_yesShare : kMR := (yX6_yesShare, cX6_yesShare, 5, (some .float), [])
theorem o_X6_yesShare : kOkV m_X6_yesShare 0 := ⟨rfl, ⟨kW0_in (inT6 (List.mem_of_getElem? (i := 237) rfl)) rfl, kW0_in (inT1 (List.mem_of_getElem? (i := 7) rfl)) rfl, ⟨by decide, by decide⟩, by decide +kernel⟩, kW0_in (inT6 (List.mem_of_getElem? (i := 235) rfl)) rfl, kW0_in (inT6 (List.mem_of_getElem? (i := 236) rfl)) rfl⟩
abbrev m_X6_isConsistent : kMR := (yX6_isConsistent, cX6_isConsistent, 4, (some .boolean), [])
theorem o_X6_isConsistent : kOkV m_X6_isConsistent 0 := ⟨rfl, ⟨kW0_in (inT7 (List.mem_of_getElem? (i := 1) rfl)) rfl, kW0_in (inT1 (List.mem_of_getElem? (i := 7) rfl)) rfl, ⟨by decide, by decide⟩, by decide +kernel⟩, kW0_in (inT6 (List.mem_of_getElem? (i := 239) rfl)) rfl, kW0_in (inT7 (List.mem_of_getElem? (i := 0) rfl)) rfl⟩
abbrev m_X6_meetsItself : kMR := (yX6_meetsItself, cX6_meetsItself, 6, (some .boolean), [])
theorem o_X6_meetsItself : kOkV m_X6_meetsItself 3 := ⟨rfl, ⟨kW0_in (inT7 (List.mem_of_getElem? (i := 5) rfl)) rfl, kW0_in (inT1 (List.mem_of_getElem? (i := 7) rfl)) rfl, ⟨by decide, by decide⟩, by decide +kernel⟩, kW0_in (inT7 (List.mem_of_getElem? (i := 4) rfl)) rfl, kW0_in (List.mem_append_left _ (List.mem_of_getElem? (i := 53) rfl)) rfl⟩
abbrev m_J6_bitCount_0f7a4 : kMR := (yJ6_bitCount_0f7a4, cJ6_bitCount_0f7a4, 1, (some .int), [])
theorem o_J6_bitCount_0f7a4 : kOkS m_J6_bitCount_0f7a4 1 := ⟨⟨kW0_in (inT1 (List.mem_of_getElem? (i := 171) rfl)) rfl, kW0_in (inT1 (List.mem_of_getElem? (i := 23) rfl)) rfl, ⟨by decide, by decide⟩, by decide +kernel⟩, kW0_in (inT1 (List.mem_of_getElem? (i := 170) rfl)) rfl⟩
abbrev m_J9_max_7cf53 : kMR := (yJ9_max_7cf53, cJ9_max_7cf53, 2, (some .int), [])
theorem o_J9_max_7cf53 : kOkS m_J9_max_7cf53 2 := ⟨⟨kW0_in (inT2 (List.mem_of_getElem? (i := 34) rfl)) rfl, kW0_in (inT1 (List.mem_of_getElem? (i := 16) rfl)) rfl, ⟨by decide, by decide⟩, by decide +kernel⟩, kW0_in (inT2 (List.mem_of_getElem? (i := 33) rfl)) rfl⟩
abbrev m_J9_min_7cf53 : kMR := (yJ9_min_7cf53, cJ9_min_7cf53, 2, (some .int), [])
theorem o_J9_min_7cf53 : kOkS m_J9_min_7cf53 2 := ⟨⟨kW0_in (inT3 (List.mem_of_getElem? (i := 11) rfl)) rfl, kW0_in (inT1 (List.mem_of_getElem? (i := 16) rfl)) rfl, ⟨by decide, by decide⟩, by decide +kernel⟩, kW0_in (inT3 (List.mem_of_getElem? (i := 10) rfl)) rfl⟩
abbrev m_Jxa1e45_init_da8c8 : kMR := (yJxa1e45_init_da8c8, cJxa1e45_init_da8c8, 1, (none), [])
theorem o_Jxa1e45_init_da8c8 : kOkI m_Jxa1e45_init_da8c8 0 := ⟨rfl, rfl, ⟨kW0_in (inT1 (List.mem_of_getElem? (i := 79) rfl)) rfl, kW0_in (inT1 (List.mem_of_getElem? (i := 4) rfl)) rfl, ⟨by decide, by decide⟩, by decide +kernel⟩, rfl, kW0_in (inT1 (List.mem_of_getElem? (i := 78) rfl)) rfl⟩
abbrev m_Jxc12de_init_da8c8 : kMR := (yJxc12de_init_da8c8, cJxc12de_init_da8c8, 1, (none), [])
theorem o_Jxc12de_init_da8c8 : kOkI m_Jxc12de_init_da8c8 0 := ⟨rfl, rfl, ⟨kW0_in (inT1 (List.mem_of_getElem? (i := 76) rfl)) rfl, kW0_in (inT1 (List.mem_of_getElem? (i := 5) rfl)) rfl, ⟨by decide, by decide⟩, by decide +kernel⟩, rfl, kW0_in (inT1 (List.mem_of_getElem? (i := 75) rfl)) rfl⟩
abbrev m_Jx4a65c_init_da8c8 : kMR := (yJx4a65c_init_da8c8, cJx4a65c_init_da8c8, 1, (none), [])
theorem o_Jx4a65c_init_da8c8 : kOkI m_Jx4a65c_init_da8c8 0 := ⟨rfl, rfl, ⟨kW0_in (inT1 (List.mem_of_getElem? (i := 73) rfl)) rfl, kW0_in (inT1 (List.mem_of_getElem? (i := 6) rfl)) rfl, ⟨by decide, by decide⟩, by decide +kernel⟩, rfl, kW0_in (inT1 (List.mem_of_getElem? (i := 72) rfl)) rfl⟩
abbrev m_Jx4a65c_grow_92f84 : kMR := (yJx4a65c_grow_92f84, cJx4a65c_grow_92f84, 4, (some (.array (.object "java/lang/Object"))), [])
theorem o_Jx4a65c_grow_92f84 : kOkV m_Jx4a65c_grow_92f84 1 := ⟨rfl, ⟨kW0_in (inT2 (List.mem_of_getElem? (i := 210) rfl)) rfl, kW0_in (inT1 (List.mem_of_getElem? (i := 6) rfl)) rfl, ⟨by decide, by decide⟩, by decide +kernel⟩, kW0_in (inT2 (List.mem_of_getElem? (i := 209) rfl)) rfl, kW0_in (List.mem_append_left _ (List.mem_of_getElem? (i := 12) rfl)) rfl⟩
abbrev m_Jx4a65c_grow_d5877 : kMR := (yJx4a65c_grow_d5877, cJx4a65c_grow_d5877, 1, (some (.array (.object "java/lang/Object"))), [])
theorem o_Jx4a65c_grow_d5877 : kOkV m_Jx4a65c_grow_d5877 0 := ⟨rfl, ⟨kW0_in (inT2 (List.mem_of_getElem? (i := 206) rfl)) rfl, kW0_in (inT1 (List.mem_of_getElem? (i := 6) rfl)) rfl, ⟨by decide, by decide⟩, by decide +kernel⟩, kW0_in (inT2 (List.mem_of_getElem? (i := 205) rfl)) rfl, kW0_in (List.mem_append_left _ (List.mem_of_getElem? (i := 11) rfl)) rfl⟩
abbrev m_Jx4a65c_size_8abf5 : kMR := (yJx4a65c_size_8abf5, cJx4a65c_size_8abf5, 1, (some .int), [])
theorem o_Jx4a65c_size_8abf5 : kOkV m_Jx4a65c_size_8abf5 0 := ⟨rfl, ⟨kW0_in (inT1 (List.mem_of_getElem? (i := 131) rfl)) rfl, kW0_in (inT1 (List.mem_of_getElem? (i := 6) rfl)) rfl, ⟨by decide, by decide⟩, by decide +kernel⟩, kW0_in (inT1 (List.mem_of_getElem? (i := 129) rfl)) rfl, kW0_in (inT1 (List.mem_of_getElem? (i := 130) rfl)) rfl⟩
abbrev m_Jx4a65c_elementData_915e3 : kMR := (yJx4a65c_elementData_915e3, cJx4a65c_elementData_915e3, 2, (some (.object "java/lang/Object")), [])
theorem o_Jx4a65c_elementData_915e3 : kOkV m_Jx4a65c_elementData_915e3 1 := ⟨rfl, ⟨kW0_in (inT1 (List.mem_of_getElem? (i := 149) rfl)) rfl, kW0_in (inT1 (List.mem_of_getElem? (i := 6) rfl)) rfl, ⟨by decide, by decide⟩, by decide +kernel⟩, kW0_in (inT1 (List.mem_of_getElem? (i := 147) rfl)) rfl, kW0_in (inT1 (List.mem_of_getElem? (i := 148) rfl)) rfl⟩
abbrev m_Jx4a65c_get_915e3 : kMR := (yJx4a65c_get_915e3, cJx4a65c_get_915e3, 2, (some (.object "java/lang/Object")), [])
theorem o_Jx4a65c_get_915e3 : kOkV m_Jx4a65c_get_915e3 1 := ⟨rfl, ⟨kW0_in (inT1 (List.mem_of_getElem? (i := 139) rfl)) rfl, kW0_in (inT1 (List.mem_of_getElem? (i := 6) rfl)) rfl, ⟨by decide, by decide⟩, by decide +kernel⟩, kW0_in (inT1 (List.mem_of_getElem? (i := 137) rfl)) rfl, kW0_in (inT1 (List.mem_of_getElem? (i := 138) rfl)) rfl⟩
abbrev m_Jx4a65c_add_72be8 : kMR := (yJx4a65c_add_72be8, cJx4a65c_add_72be8, 4, (none), [])
theorem o_Jx4a65c_add_72be8 : kOkV m_Jx4a65c_add_72be8 3 := ⟨rfl, ⟨kW0_in (inT2 (List.mem_of_getElem? (i := 202) rfl)) rfl, kW0_in (inT1 (List.mem_of_getElem? (i := 6) rfl)) rfl, ⟨by decide, by decide⟩, by decide +kernel⟩, kW0_in (inT2 (List.mem_of_getElem? (i := 201) rfl)) rfl, kW0_in (List.mem_append_left _ (List.mem_of_getElem? (i := 10) rfl)) rfl⟩
abbrev m_Jx4a65c_add_9ea2d : kMR := (yJx4a65c_add_9ea2d, cJx4a65c_add_9ea2d, 2, (some .boolean), [])
theorem o_Jx4a65c_add_9ea2d : kOkV m_Jx4a65c_add_9ea2d 1 := ⟨rfl, ⟨kW0_in (inT2 (List.mem_of_getElem? (i := 198) rfl)) rfl, kW0_in (inT1 (List.mem_of_getElem? (i := 6) rfl)) rfl, ⟨by decide, by decide⟩, by decide +kernel⟩, kW0_in (inT2 (List.mem_of_getElem? (i := 196) rfl)) rfl, kW0_in (inT2 (List.mem_of_getElem? (i := 197) rfl)) rfl⟩
abbrev m_Jx4a65c_add_7a177 : kMR := (yJx4a65c_add_7a177, cJx4a65c_add_7a177, 5, (none), [])
theorem o_Jx4a65c_add_7a177 : kOkV m_Jx4a65c_add_7a177 2 := ⟨rfl, ⟨kW0_in (inT3 (List.mem_of_getElem? (i := 101) rfl)) rfl, kW0_in (inT1 (List.mem_of_getElem? (i := 6) rfl)) rfl, ⟨by decide, by decide⟩, by decide +kernel⟩, kW0_in (inT3 (List.mem_of_getElem? (i := 99) rfl)) rfl, kW0_in (inT3 (List.mem_of_getElem? (i := 100) rfl)) rfl⟩
abbrev m_Jx4a65c_remove_915e3 : kMR := (yJx4a65c_remove_915e3, cJx4a65c_remove_915e3, 4, (some (.object "java/lang/Object")), [])
theorem o_Jx4a65c_remove_915e3 : kOkV m_Jx4a65c_remove_915e3 1 := ⟨rfl, ⟨kW0_in (inT4 (List.mem_of_getElem? (i := 174) rfl)) rfl, kW0_in (inT1 (List.mem_of_getElem? (i := 6) rfl)) rfl, ⟨by decide, by decide⟩, by decide +kernel⟩, kW0_in (inT4 (List.mem_of_getElem? (i := 172) rfl)) rfl, kW0_in (inT4 (List.mem_of_getElem? (i := 173) rfl)) rfl⟩
abbrev m_Jx4a65c_fastRemove_b59b0 : kMR := (yJx4a65c_fastRemove_b59b0, cJx4a65c_fastRemove_b59b0, 4, (none), [])
theorem o_Jx4a65c_fastRemove_b59b0 : kOkV m_Jx4a65c_fastRemove_b59b0 2 := ⟨rfl, ⟨kW0_in (inT4 (List.mem_of_getElem? (i := 178) rfl)) rfl, kW0_in (inT1 (List.mem_of_getElem? (i := 6) rfl)) rfl, ⟨by decide, by decide⟩, by decide +kernel⟩, kW0_in (inT4 (List.mem_of_getElem? (i := 177) rfl)) rfl, kW0_in (List.mem_append_left _ (List.mem_of_getElem? (i := 25) rfl)) rfl⟩
abbrev m_Jx4a65c_rangeCheckForAdd_d00df : kMR := (yJx4a65c_rangeCheckForAdd_d00df, cJx4a65c_rangeCheckForAdd_d00df, 2, (none), [])
theorem o_Jx4a65c_rangeCheckForAdd_d00df : kOkV m_Jx4a65c_rangeCheckForAdd_d00df 1 := ⟨rfl, ⟨kW0_in (inT3 (List.mem_of_getElem? (i := 105) rfl)) rfl, kW0_in (inT1 (List.mem_of_getElem? (i := 6) rfl)) rfl, ⟨by decide, by decide⟩, by decide +kernel⟩, kW0_in (inT3 (List.mem_of_getElem? (i := 104) rfl)) rfl, kW0_in (List.mem_append_left _ (List.mem_of_getElem? (i := 20) rfl)) rfl⟩
abbrev m_Jx4a65c_outOfBoundsMsg_b52d3 : kMR := (yJx4a65c_outOfBoundsMsg_b52d3, cJx4a65c_outOfBoundsMsg_b52d3, 2, (some (.object "java/lang/String")), [])
theorem o_Jx4a65c_outOfBoundsMsg_b52d3 : kOkV m_Jx4a65c_outOfBoundsMsg_b52d3 1 := ⟨rfl, ⟨kW0_in (inT3 (List.mem_of_getElem? (i := 118) rfl)) rfl, kW0_in (inT1 (List.mem_of_getElem? (i := 6) rfl)) rfl, ⟨by decide, by decide⟩, by decide +kernel⟩, kW0_in (inT3 (List.mem_of_getElem? (i := 117) rfl)) rfl, kW0_in (List.mem_append_left _ (List.mem_of_getElem? (i := 21) rfl)) rfl⟩
abbrev m_J7_copyOf_1904c : kMR := (yJ7_copyOf_1904c, cJ7_copyOf_1904c, 2, (some (.array (.object "java/lang/Object"))), [])
theorem o_J7_copyOf_1904c : kOkS m_J7_copyOf_1904c 2 := ⟨⟨kW0_in (inT2 (List.mem_of_getElem? (i := 221) rfl)) rfl, kW0_in (inT1 (List.mem_of_getElem? (i := 17) rfl)) rfl, ⟨by decide, by decide⟩, by decide +kernel⟩, kW0_in (inT2 (List.mem_of_getElem? (i := 220) rfl)) rfl⟩
abbrev m_J7_copyOf_6403c : kMR := (yJ7_copyOf_6403c, cJ7_copyOf_6403c, 4, (some (.array (.object "java/lang/Object"))), [])
theorem o_J7_copyOf_6403c : kOkS m_J7_copyOf_6403c 3 := ⟨⟨kW0_in (inT3 (List.mem_of_getElem? (i := 5) rfl)) rfl, kW0_in (inT1 (List.mem_of_getElem? (i := 17) rfl)) rfl, ⟨by decide, by decide⟩, by decide +kernel⟩, kW0_in (inT3 (List.mem_of_getElem? (i := 4) rfl)) rfl⟩
abbrev m_J15_checkIndex_7cf53 : kMR := (yJ15_checkIndex_7cf53, cJ15_checkIndex_7cf53, 2, (some .int), [])
theorem o_J15_checkIndex_7cf53 : kOkS m_J15_checkIndex_7cf53 2 := ⟨⟨kW0_in (inT1 (List.mem_of_getElem? (i := 142) rfl)) rfl, kW0_in (inT1 (List.mem_of_getElem? (i := 19) rfl)) rfl, ⟨by decide, by decide⟩, by decide +kernel⟩, kW0_in (inT1 (List.mem_of_getElem? (i := 141) rfl)) rfl⟩
abbrev m_J8_newLength_cabcc : kMR := (yJ8_newLength_cabcc, cJ8_newLength_cabcc, 4, (some .int), [])
theorem o_J8_newLength_cabcc : kOkS m_J8_newLength_cabcc 3 := ⟨⟨kW0_in (inT2 (List.mem_of_getElem? (i := 213) rfl)) rfl, kW0_in (inT1 (List.mem_of_getElem? (i := 15) rfl)) rfl, ⟨by decide, by decide⟩, by decide +kernel⟩, kW0_in (inT2 (List.mem_of_getElem? (i := 212) rfl)) rfl⟩
abbrev m_J3_checkIndex_8e157 : kMR := (yJ3_checkIndex_8e157, cJ3_checkIndex_8e157, 3, (some .int), [])
theorem o_J3_checkIndex_8e157 : kOkS m_J3_checkIndex_8e157 3 := ⟨⟨kW0_in (inT1 (List.mem_of_getElem? (i := 145) rfl)) rfl, kW0_in (inT1 (List.mem_of_getElem? (i := 20) rfl)) rfl, ⟨by decide, by decide⟩, by decide +kernel⟩, kW0_in (inT1 (List.mem_of_getElem? (i := 144) rfl)) rfl⟩
abbrev m_L_setRoom : kMR := (yL_setRoom, cL_setRoom, 6, (some .int), [(0, 12, 15, 13)])
theorem o_L_setRoom : kOkS m_L_setRoom 5 := ⟨⟨kW0_in (inT2 (List.mem_of_getElem? (i := 72) rfl)) rfl, kW0_in (inT1 (List.mem_of_getElem? (i := 0) rfl)) rfl, ⟨by decide, by decide⟩, by decide +kernel⟩, kW0_in (inT2 (List.mem_of_getElem? (i := 71) rfl)) rfl⟩
abbrev m_L_setGap : kMR := (yL_setGap, cL_setGap, 4, (some .int), [(0, 9, 12, 13)])
theorem o_L_setGap : kOkS m_L_setGap 3 := ⟨⟨kW0_in (inT2 (List.mem_of_getElem? (i := 89) rfl)) rfl, kW0_in (inT1 (List.mem_of_getElem? (i := 0) rfl)) rfl, ⟨by decide, by decide⟩, by decide +kernel⟩, kW0_in (inT2 (List.mem_of_getElem? (i := 88) rfl)) rfl⟩
abbrev m_L_seatsOf : kMR := (yL_seatsOf, cL_seatsOf, 4, (some .int), [(0, 9, 12, 13)])
theorem o_L_seatsOf : kOkS m_L_seatsOf 3 := ⟨⟨kW0_in (inT2 (List.mem_of_getElem? (i := 96) rfl)) rfl, kW0_in (inT1 (List.mem_of_getElem? (i := 0) rfl)) rfl, ⟨by decide, by decide⟩, by decide +kernel⟩, kW0_in (inT2 (List.mem_of_getElem? (i := 95) rfl)) rfl⟩
abbrev m_L_houseOf : kMR := (yL_houseOf, cL_houseOf, 4, (some .int), [(0, 9, 12, 13)])
theorem o_L_houseOf : kOkS m_L_houseOf 3 := ⟨⟨kW0_in (inT2 (List.mem_of_getElem? (i := 103) rfl)) rfl, kW0_in (inT1 (List.mem_of_getElem? (i := 0) rfl)) rfl, ⟨by decide, by decide⟩, by decide +kernel⟩, kW0_in (inT2 (List.mem_of_getElem? (i := 102) rfl)) rfl⟩
abbrev m_L_ask : kMR := (yL_ask, cL_ask, 8, (some .int), [(0, 16, 19, 13), (0, 16, 23, 29), (0, 16, 27, 31)])
theorem o_L_ask : kOkS m_L_ask 7 := ⟨⟨kW0_in (inT2 (List.mem_of_getElem? (i := 110) rfl)) rfl, kW0_in (inT1 (List.mem_of_getElem? (i := 0) rfl)) rfl, ⟨by decide, by decide⟩, by decide +kernel⟩, kW0_in (inT2 (List.mem_of_getElem? (i := 109) rfl)) rfl⟩
abbrev m_L_extend : kMR := (yL_extend, cL_extend, 6, (some .int), [(0, 12, 15, 36), (0, 12, 19, 13), (0, 12, 23, 29), (0, 12, 27, 31)])
theorem o_L_extend : kOkS m_L_extend 5 := ⟨⟨kW0_in (inT4 (List.mem_of_getElem? (i := 119) rfl)) rfl, kW0_in (inT1 (List.mem_of_getElem? (i := 0) rfl)) rfl, ⟨by decide, by decide⟩, by decide +kernel⟩, kW0_in (inT4 (List.mem_of_getElem? (i := 118) rfl)) rfl⟩
abbrev m_L_remove : kMR := (yL_remove, cL_remove, 4, (some .int), [(0, 9, 12, 36)])
theorem o_L_remove : kOkS m_L_remove 3 := ⟨⟨kW0_in (inT4 (List.mem_of_getElem? (i := 158) rfl)) rfl, kW0_in (inT1 (List.mem_of_getElem? (i := 0) rfl)) rfl, ⟨by decide, by decide⟩, by decide +kernel⟩, kW0_in (inT4 (List.mem_of_getElem? (i := 157) rfl)) rfl⟩
abbrev m_L_answer : kMR := (yL_answer, cL_answer, 6, (some .int), [(0, 12, 15, 36), (0, 12, 19, 13), (0, 12, 23, 29), (0, 12, 27, 31)])
theorem o_L_answer : kOkS m_L_answer 5 := ⟨⟨kW0_in (inT4 (List.mem_of_getElem? (i := 182) rfl)) rfl, kW0_in (inT1 (List.mem_of_getElem? (i := 0) rfl)) rfl, ⟨by decide, by decide⟩, by decide +kernel⟩, kW0_in (inT4 (List.mem_of_getElem? (i := 181) rfl)) rfl⟩
abbrev m_L_cancel : kMR := (yL_cancel, cL_cancel, 5, (some .int), [(0, 10, 13, 36), (0, 10, 17, 49), (0, 10, 21, 29)])
theorem o_L_cancel : kOkS m_L_cancel 4 := ⟨⟨kW0_in (inT4 (List.mem_of_getElem? (i := 209) rfl)) rfl, kW0_in (inT1 (List.mem_of_getElem? (i := 0) rfl)) rfl, ⟨by decide, by decide⟩, by decide +kernel⟩, kW0_in (inT4 (List.mem_of_getElem? (i := 208) rfl)) rfl⟩
abbrev m_L_move : kMR := (yL_move, cL_move, 7, (some .int), [(0, 14, 17, 36), (0, 14, 21, 49), (0, 14, 25, 13), (0, 14, 29, 31)])
theorem o_L_move : kOkS m_L_move 6 := ⟨⟨kW0_in (inT5 (List.mem_of_getElem? (i := 0) rfl)) rfl, kW0_in (inT1 (List.mem_of_getElem? (i := 0) rfl)) rfl, ⟨by decide, by decide⟩, by decide +kernel⟩, kW0_in (inT4 (List.mem_of_getElem? (i := 239) rfl)) rfl⟩
abbrev m_L_meetingAt : kMR := (yL_meetingAt, cL_meetingAt, 4, (some .int), [(0, 9, 12, 36)])
theorem o_L_meetingAt : kOkS m_L_meetingAt 3 := ⟨⟨kW0_in (inT5 (List.mem_of_getElem? (i := 7) rfl)) rfl, kW0_in (inT1 (List.mem_of_getElem? (i := 0) rfl)) rfl, ⟨by decide, by decide⟩, by decide +kernel⟩, kW0_in (inT5 (List.mem_of_getElem? (i := 6) rfl)) rfl⟩
abbrev m_L_hostOf : kMR := (yL_hostOf, cL_hostOf, 4, (some .int), [(0, 9, 12, 36)])
theorem o_L_hostOf : kOkS m_L_hostOf 3 := ⟨⟨kW0_in (inT5 (List.mem_of_getElem? (i := 15) rfl)) rfl, kW0_in (inT1 (List.mem_of_getElem? (i := 0) rfl)) rfl, ⟨by decide, by decide⟩, by decide +kernel⟩, kW0_in (inT5 (List.mem_of_getElem? (i := 14) rfl)) rfl⟩
abbrev m_L_answerOf : kMR := (yL_answerOf, cL_answerOf, 5, (some .int), [(0, 10, 13, 36), (0, 10, 17, 13)])
theorem o_L_answerOf : kOkS m_L_answerOf 4 := ⟨⟨kW0_in (inT5 (List.mem_of_getElem? (i := 22) rfl)) rfl, kW0_in (inT1 (List.mem_of_getElem? (i := 0) rfl)) rfl, ⟨by decide, by decide⟩, by decide +kernel⟩, kW0_in (inT5 (List.mem_of_getElem? (i := 21) rfl)) rfl⟩
abbrev m_L_expected : kMR := (yL_expected, cL_expected, 4, (some .int), [(0, 9, 12, 36)])
theorem o_L_expected : kOkS m_L_expected 3 := ⟨⟨kW0_in (inT5 (List.mem_of_getElem? (i := 29) rfl)) rfl, kW0_in (inT1 (List.mem_of_getElem? (i := 0) rfl)) rfl, ⟨by decide, by decide⟩, by decide +kernel⟩, kW0_in (inT5 (List.mem_of_getElem? (i := 28) rfl)) rfl⟩
abbrev m_L_dateCount : kMR := (yL_dateCount, cL_dateCount, 4, (some .int), [(0, 9, 12, 36)])
theorem o_L_dateCount : kOkS m_L_dateCount 3 := ⟨⟨kW0_in (inT5 (List.mem_of_getElem? (i := 36) rfl)) rfl, kW0_in (inT1 (List.mem_of_getElem? (i := 0) rfl)) rfl, ⟨by decide, by decide⟩, by decide +kernel⟩, kW0_in (inT5 (List.mem_of_getElem? (i := 35) rfl)) rfl⟩
abbrev m_L_dayOf : kMR := (yL_dayOf, cL_dayOf, 5, (some .int), [(0, 10, 13, 36), (0, 10, 17, 49)])
theorem o_L_dayOf : kOkS m_L_dayOf 4 := ⟨⟨kW0_in (inT5 (List.mem_of_getElem? (i := 43) rfl)) rfl, kW0_in (inT1 (List.mem_of_getElem? (i := 0) rfl)) rfl, ⟨by decide, by decide⟩, by decide +kernel⟩, kW0_in (inT5 (List.mem_of_getElem? (i := 42) rfl)) rfl⟩
abbrev m_L_timeOf : kMR := (yL_timeOf, cL_timeOf, 5, (some .int), [(0, 10, 13, 36), (0, 10, 17, 49)])
theorem o_L_timeOf : kOkS m_L_timeOf 4 := ⟨⟨kW0_in (inT5 (List.mem_of_getElem? (i := 50) rfl)) rfl, kW0_in (inT1 (List.mem_of_getElem? (i := 0) rfl)) rfl, ⟨by decide, by decide⟩, by decide +kernel⟩, kW0_in (inT5 (List.mem_of_getElem? (i := 49) rfl)) rfl⟩
abbrev m_L_isCancelled : kMR := (yL_isCancelled, cL_isCancelled, 5, (some .int), [(0, 17, 20, 36), (0, 17, 24, 49)])
theorem o_L_isCancelled : kOkS m_L_isCancelled 4 := ⟨⟨kW0_in (inT5 (List.mem_of_getElem? (i := 57) rfl)) rfl, kW0_in (inT1 (List.mem_of_getElem? (i := 0) rfl)) rfl, ⟨by decide, by decide⟩, by decide +kernel⟩, kW0_in (inT5 (List.mem_of_getElem? (i := 56) rfl)) rfl⟩
abbrev m_L_roomOf : kMR := (yL_roomOf, cL_roomOf, 5, (some .int), [(0, 10, 13, 36), (0, 10, 17, 49), (0, 10, 21, 29)])
theorem o_L_roomOf : kOkS m_L_roomOf 4 := ⟨⟨kW0_in (inT5 (List.mem_of_getElem? (i := 64) rfl)) rfl, kW0_in (inT1 (List.mem_of_getElem? (i := 0) rfl)) rfl, ⟨by decide, by decide⟩, by decide +kernel⟩, kW0_in (inT5 (List.mem_of_getElem? (i := 63) rfl)) rfl⟩
abbrev m_L_refusalReason : kMR := (yL_refusalReason, cL_refusalReason, 3, (some .int), [(0, 8, 11, 36)])
theorem o_L_refusalReason : kOkS m_L_refusalReason 2 := ⟨⟨kW0_in (inT5 (List.mem_of_getElem? (i := 71) rfl)) rfl, kW0_in (inT1 (List.mem_of_getElem? (i := 0) rfl)) rfl, ⟨by decide, by decide⟩, by decide +kernel⟩, kW0_in (inT5 (List.mem_of_getElem? (i := 70) rfl)) rfl⟩
abbrev m_L_refusalDetail : kMR := (yL_refusalDetail, cL_refusalDetail, 3, (some .int), [(0, 8, 11, 36)])
theorem o_L_refusalDetail : kOkS m_L_refusalDetail 2 := ⟨⟨kW0_in (inT5 (List.mem_of_getElem? (i := 83) rfl)) rfl, kW0_in (inT1 (List.mem_of_getElem? (i := 0) rfl)) rfl, ⟨by decide, by decide⟩, by decide +kernel⟩, kW0_in (inT5 (List.mem_of_getElem? (i := 82) rfl)) rfl⟩
abbrev m_L_isFree : kMR := (yL_isFree, cL_isFree, 6, (some .int), [(0, 19, 22, 13)])
theorem o_L_isFree : kOkS m_L_isFree 5 := ⟨⟨kW0_in (inT5 (List.mem_of_getElem? (i := 90) rfl)) rfl, kW0_in (inT1 (List.mem_of_getElem? (i := 0) rfl)) rfl, ⟨by decide, by decide⟩, by decide +kernel⟩, kW0_in (inT5 (List.mem_of_getElem? (i := 89) rfl)) rfl⟩
abbrev m_L_meetingOf : kMR := (yL_meetingOf, cL_meetingOf, 6, (some .int), [(0, 12, 15, 13), (0, 12, 19, 36)])
theorem o_L_meetingOf : kOkS m_L_meetingOf 5 := ⟨⟨kW0_in (inT5 (List.mem_of_getElem? (i := 97) rfl)) rfl, kW0_in (inT1 (List.mem_of_getElem? (i := 0) rfl)) rfl, ⟨by decide, by decide⟩, by decide +kernel⟩, kW0_in (inT5 (List.mem_of_getElem? (i := 96) rfl)) rfl⟩
abbrev m_L_freeTimes : kMR := (yL_freeTimes, cL_freeTimes, 5, (some .int), [(0, 10, 13, 13)])
theorem o_L_freeTimes : kOkS m_L_freeTimes 4 := ⟨⟨kW0_in (inT5 (List.mem_of_getElem? (i := 105) rfl)) rfl, kW0_in (inT1 (List.mem_of_getElem? (i := 0) rfl)) rfl, ⟨by decide, by decide⟩, by decide +kernel⟩, kW0_in (inT5 (List.mem_of_getElem? (i := 104) rfl)) rfl⟩
abbrev m_L_freeByTrying : kMR := (yL_freeByTrying, cL_freeByTrying, 5, (some .int), [(0, 10, 13, 13)])
theorem o_L_freeByTrying : kOkS m_L_freeByTrying 4 := ⟨⟨kW0_in (inT5 (List.mem_of_getElem? (i := 112) rfl)) rfl, kW0_in (inT1 (List.mem_of_getElem? (i := 0) rfl)) rfl, ⟨by decide, by decide⟩, by decide +kernel⟩, kW0_in (inT5 (List.mem_of_getElem? (i := 111) rfl)) rfl⟩
abbrev m_L_longestFree : kMR := (yL_longestFree, cL_longestFree, 5, (some .int), [(0, 10, 13, 13)])
theorem o_L_longestFree : kOkS m_L_longestFree 4 := ⟨⟨kW0_in (inT5 (List.mem_of_getElem? (i := 119) rfl)) rfl, kW0_in (inT1 (List.mem_of_getElem? (i := 0) rfl)) rfl, ⟨by decide, by decide⟩, by decide +kernel⟩, kW0_in (inT5 (List.mem_of_getElem? (i := 118) rfl)) rfl⟩
abbrev m_L_firstCommon : kMR := (yL_firstCommon, cL_firstCommon, 6, (some .int), [(0, 12, 15, 13), (0, 12, 19, 36)])
theorem o_L_firstCommon : kOkS m_L_firstCommon 5 := ⟨⟨kW0_in (inT5 (List.mem_of_getElem? (i := 126) rfl)) rfl, kW0_in (inT1 (List.mem_of_getElem? (i := 0) rfl)) rfl, ⟨by decide, by decide⟩, by decide +kernel⟩, kW0_in (inT5 (List.mem_of_getElem? (i := 125) rfl)) rfl⟩
abbrev m_L_commonCount : kMR := (yL_commonCount, cL_commonCount, 6, (some .int), [(0, 12, 15, 13)])
theorem o_L_commonCount : kOkS m_L_commonCount 5 := ⟨⟨kW0_in (inT5 (List.mem_of_getElem? (i := 138) rfl)) rfl, kW0_in (inT1 (List.mem_of_getElem? (i := 0) rfl)) rfl, ⟨by decide, by decide⟩, by decide +kernel⟩, kW0_in (inT5 (List.mem_of_getElem? (i := 137) rfl)) rfl⟩
abbrev m_L_roomFor : kMR := (yL_roomFor, cL_roomFor, 7, (some .int), [(0, 14, 17, 13), (0, 14, 21, 36)])
theorem o_L_roomFor : kOkS m_L_roomFor 6 := ⟨⟨kW0_in (inT5 (List.mem_of_getElem? (i := 145) rfl)) rfl, kW0_in (inT1 (List.mem_of_getElem? (i := 0) rfl)) rfl, ⟨by decide, by decide⟩, by decide +kernel⟩, kW0_in (inT5 (List.mem_of_getElem? (i := 144) rfl)) rfl⟩
abbrev m_L_usedTimes : kMR := (yL_usedTimes, cL_usedTimes, 5, (some .int), [(0, 10, 13, 13)])
theorem o_L_usedTimes : kOkS m_L_usedTimes 4 := ⟨⟨kW0_in (inT5 (List.mem_of_getElem? (i := 153) rfl)) rfl, kW0_in (inT1 (List.mem_of_getElem? (i := 0) rfl)) rfl, ⟨by decide, by decide⟩, by decide +kernel⟩, kW0_in (inT5 (List.mem_of_getElem? (i := 152) rfl)) rfl⟩
abbrev m_L_walks : kMR := (yL_walks, cL_walks, 5, (some .int), [(0, 10, 13, 13)])
theorem o_L_walks : kOkS m_L_walks 4 := ⟨⟨kW0_in (inT5 (List.mem_of_getElem? (i := 160) rfl)) rfl, kW0_in (inT1 (List.mem_of_getElem? (i := 0) rfl)) rfl, ⟨by decide, by decide⟩, by decide +kernel⟩, kW0_in (inT5 (List.mem_of_getElem? (i := 159) rfl)) rfl⟩
abbrev m_L_meanExpected : kMR := (yL_meanExpected, cL_meanExpected, 3, (some .int), [(0, 7, 10, 126)])
theorem o_L_meanExpected : kOkS m_L_meanExpected 2 := ⟨⟨kW0_in (inT5 (List.mem_of_getElem? (i := 167) rfl)) rfl, kW0_in (inT1 (List.mem_of_getElem? (i := 0) rfl)) rfl, ⟨by decide, by decide⟩, by decide +kernel⟩, kW0_in (inT5 (List.mem_of_getElem? (i := 166) rfl)) rfl⟩
abbrev m_L_yesShare : kMR := (yL_yesShare, cL_yesShare, 3, (some .int), [(0, 8, 11, 126)])
theorem o_L_yesShare : kOkS m_L_yesShare 2 := ⟨⟨kW0_in (inT5 (List.mem_of_getElem? (i := 191) rfl)) rfl, kW0_in (inT1 (List.mem_of_getElem? (i := 0) rfl)) rfl, ⟨by decide, by decide⟩, by decide +kernel⟩, kW0_in (inT5 (List.mem_of_getElem? (i := 190) rfl)) rfl⟩
theorem lk_RX0_1 : Cond.methodLink RX0 1 Lib.objectInit ∈ kW0 := kW0_in (inT3 (List.mem_of_getElem? (i := 67) rfl)) rfl
theorem fp_RX0_7 : kFp RX0 7 4 0 (.object "CalendaryPlanner$Meeting") true := ⟨RX0, TX0, 4, "CalendaryPlanner$Date", tyX0, rfl, inW_RX0, by decide, kW0_in (inT3 (List.mem_of_getElem? (i := 68) rfl)) rfl, Or.inl rfl, tyX0_ok, nmX0, by decide +kernel, rfl, fun _ => rfl⟩
theorem fp_RX0_13 : kFp RX0 13 4 1 (.object "CalendaryPlanner$Slot") false := ⟨RX0, TX0, 4, "CalendaryPlanner$Date", tyX0, rfl, inW_RX0, by decide, kW0_in (inT3 (List.mem_of_getElem? (i := 70) rfl)) rfl, Or.inl rfl, tyX0_ok, nmX0, by decide +kernel, rfl, (fun h => by cases h)⟩
theorem fp_RX0_17 : kFp RX0 17 4 2 (.object "CalendaryPlanner$Room") false := ⟨RX0, TX0, 4, "CalendaryPlanner$Date", tyX0, rfl, inW_RX0, by decide, kW0_in (inT3 (List.mem_of_getElem? (i := 74) rfl)) rfl, Or.inl rfl, tyX0_ok, nmX0, by decide +kernel, rfl, (fun h => by cases h)⟩
theorem lk_RX1_1 : Cond.methodLink RX1 1 Lib.objectInit ∈ kW0 := kW0_in (inT1 (List.mem_of_getElem? (i := 68) rfl)) rfl
theorem nw_RX1_7 : kNw RX1 7 3 3 [.int 0, .null, .int 0] := ⟨RJx4a65c, TJx4a65c, tyJx4a65c, rfl, inW_RJx4a65c, tyJx4a65c_ok, kW0_in (inT1 (List.mem_of_getElem? (i := 69) rfl)) rfl, kW0_in (inT1 (List.mem_of_getElem? (i := 70) rfl)) rfl, kW0_in (inT1 (List.mem_of_getElem? (i := 6) rfl)) rfl, by decide +kernel⟩
theorem lk_RX1_9 : Cond.methodLink RX1 9 m_Jx4a65c_init_da8c8.1 ∈ kW0 := kW0_in (inT1 (List.mem_of_getElem? (i := 71) rfl)) rfl
theorem fp_RX1_10 : kFp RX1 10 5 0 (.object "java/util/ArrayList") true := ⟨RX1, TX1, 1, "CalendaryPlanner$Day", tyX1, rfl, inW_RX1, by decide, kW0_in (inT1 (List.mem_of_getElem? (i := 95) rfl)) rfl, Or.inl rfl, tyX1_ok, nmX1, by decide +kernel, rfl, fun _ => rfl⟩
theorem fd_RX1_10 : kFd RX1 10 5 0 := ⟨RX1, TX1, 1, "CalendaryPlanner$Day", rfl, inW_RX1, by decide, kW0_in (inT1 (List.mem_of_getElem? (i := 95) rfl)) rfl, Or.inl rfl⟩
theorem lk_RX1_16 : Cond.methodLink RX1 16 m_Jx4a65c_size_8abf5.1 ∈ kW0 := kW0_in (inT3 (List.mem_of_getElem? (i := 95) rfl)) rfl
theorem lk_RX1_20 : Cond.methodLink RX1 20 m_Jx4a65c_get_915e3.1 ∈ kW0 := kW0_in (inT3 (List.mem_of_getElem? (i := 96) rfl)) rfl
theorem cl_RX1_24 : Cond.classLink RX1 24 RX0 ∈ kW0 := kW0_in (inT3 (List.mem_of_getElem? (i := 97) rfl)) rfl
theorem fd_RX1_26 : kFd RX1 26 4 1 := ⟨RX0, TX0, 4, "CalendaryPlanner$Date", rfl, inW_RX0, by decide, kW0_in (inT3 (List.mem_of_getElem? (i := 71) rfl)) rfl, Or.inl rfl⟩
theorem fd_RX1_30 : kFd RX1 30 8 1 := ⟨RX4, TX4, 3, "CalendaryPlanner$Slot", rfl, inW_RX4, by decide, kW0_in (inT2 (List.mem_of_getElem? (i := 183) rfl)) rfl, Or.inl rfl⟩
theorem lk_RX1_36 : Cond.methodLink RX1 36 m_Jx4a65c_add_7a177.1 ∈ kW0 := kW0_in (inT3 (List.mem_of_getElem? (i := 98) rfl)) rfl
theorem lk_RX1_40 : Cond.methodLink RX1 40 m_Jx4a65c_remove_915e3.1 ∈ kW0 := kW0_in (inT4 (List.mem_of_getElem? (i := 171) rfl)) rfl
theorem lk_RX2_3 : Cond.methodLink RX2 3 Lib.objectInit ∈ kW0 := kW0_in (inT2 (List.mem_of_getElem? (i := 146) rfl)) rfl
theorem fp_RX2_9 : kFp RX2 9 6 0 .int true := ⟨RX2, TX2, 6, "CalendaryPlanner$Meeting", tyX2, rfl, inW_RX2, by decide, kW0_in (inT2 (List.mem_of_getElem? (i := 149) rfl)) rfl, Or.inl rfl, tyX2_ok, nmX2, by decide +kernel, rfl, fun _ => rfl⟩
theorem fp_RX2_15 : kFp RX2 15 6 1 .int true := ⟨RX2, TX2, 6, "CalendaryPlanner$Meeting", tyX2, rfl, inW_RX2, by decide, kW0_in (inT2 (List.mem_of_getElem? (i := 151) rfl)) rfl, Or.inl rfl, tyX2_ok, nmX2, by decide +kernel, rfl, fun _ => rfl⟩
theorem fp_RX2_18 : kFp RX2 18 6 2 .int true := ⟨RX2, TX2, 6, "CalendaryPlanner$Meeting", tyX2, rfl, inW_RX2, by decide, kW0_in (inT2 (List.mem_of_getElem? (i := 153) rfl)) rfl, Or.inl rfl, tyX2_ok, nmX2, by decide +kernel, rfl, fun _ => rfl⟩
theorem nw_RX2_21 : kNw RX2 21 3 3 [.int 0, .null, .int 0] := ⟨RJx4a65c, TJx4a65c, tyJx4a65c, rfl, inW_RJx4a65c, tyJx4a65c_ok, kW0_in (inT2 (List.mem_of_getElem? (i := 147) rfl)) rfl, kW0_in (inT1 (List.mem_of_getElem? (i := 70) rfl)) rfl, kW0_in (inT1 (List.mem_of_getElem? (i := 6) rfl)) rfl, by decide +kernel⟩
theorem lk_RX2_23 : Cond.methodLink RX2 23 m_Jx4a65c_init_da8c8.1 ∈ kW0 := kW0_in (inT2 (List.mem_of_getElem? (i := 148) rfl)) rfl
theorem fp_RX2_24 : kFp RX2 24 6 3 (.object "java/util/ArrayList") true := ⟨RX2, TX2, 6, "CalendaryPlanner$Meeting", tyX2, rfl, inW_RX2, by decide, kW0_in (inT2 (List.mem_of_getElem? (i := 155) rfl)) rfl, Or.inl rfl, tyX2_ok, nmX2, by decide +kernel, rfl, fun _ => rfl⟩
theorem fd_RX2_15 : kFd RX2 15 6 1 := ⟨RX2, TX2, 6, "CalendaryPlanner$Meeting", rfl, inW_RX2, by decide, kW0_in (inT2 (List.mem_of_getElem? (i := 151) rfl)) rfl, Or.inl rfl⟩
theorem ln_RX2_28 : (RX2, 28, m_X5_bitOf.1, "CalendaryPlanner") ∈ kNst := by decide +kernel
theorem fd_RX2_18 : kFd RX2 18 6 2 := ⟨RX2, TX2, 6, "CalendaryPlanner$Meeting", rfl, inW_RX2, by decide, kW0_in (inT2 (List.mem_of_getElem? (i := 153) rfl)) rfl, Or.inl rfl⟩
theorem fd_RX2_32 : kFd RX2 32 6 5 := ⟨RX2, TX2, 6, "CalendaryPlanner$Meeting", rfl, inW_RX2, by decide, kW0_in (inT2 (List.mem_of_getElem? (i := 159) rfl)) rfl, Or.inl rfl⟩
theorem lk_RX2_35 : Cond.methodLink RX2 35 m_X2_expectedPeople.1 ∈ kW0 := kW0_in (inT1 (List.mem_of_getElem? (i := 162) rfl)) rfl
theorem lk_RX2_39 : Cond.methodLink RX2 39 m_J6_bitCount_0f7a4.1 ∈ kW0 := kW0_in (inT1 (List.mem_of_getElem? (i := 169) rfl)) rfl
theorem ln_RX2_44 : (RX2, 44, m_X5_holdsPerson.1, "CalendaryPlanner") ∈ kNst := by decide +kernel
theorem fd_RX2_48 : kFd RX2 48 6 4 := ⟨RX2, TX2, 6, "CalendaryPlanner$Meeting", rfl, inW_RX2, by decide, kW0_in (inT2 (List.mem_of_getElem? (i := 157) rfl)) rfl, Or.inl rfl⟩
theorem fp_RX2_48 : kFp RX2 48 6 4 .int false := ⟨RX2, TX2, 6, "CalendaryPlanner$Meeting", tyX2, rfl, inW_RX2, by decide, kW0_in (inT2 (List.mem_of_getElem? (i := 157) rfl)) rfl, Or.inl rfl, tyX2_ok, nmX2, by decide +kernel, rfl, (fun h => by cases h)⟩
theorem fp_RX2_32 : kFp RX2 32 6 5 .int false := ⟨RX2, TX2, 6, "CalendaryPlanner$Meeting", tyX2, rfl, inW_RX2, by decide, kW0_in (inT2 (List.mem_of_getElem? (i := 159) rfl)) rfl, Or.inl rfl, tyX2_ok, nmX2, by decide +kernel, rfl, (fun h => by cases h)⟩
theorem fd_RX2_24 : kFd RX2 24 6 3 := ⟨RX2, TX2, 6, "CalendaryPlanner$Meeting", rfl, inW_RX2, by decide, kW0_in (inT2 (List.mem_of_getElem? (i := 155) rfl)) rfl, Or.inl rfl⟩
theorem lk_RX2_51 : Cond.methodLink RX2 51 m_Jx4a65c_size_8abf5.1 ∈ kW0 := kW0_in (inT1 (List.mem_of_getElem? (i := 155) rfl)) rfl
theorem lk_RX2_54 : Cond.methodLink RX2 54 m_Jx4a65c_get_915e3.1 ∈ kW0 := kW0_in (inT1 (List.mem_of_getElem? (i := 156) rfl)) rfl
theorem cl_RX2_58 : Cond.classLink RX2 58 RX0 ∈ kW0 := kW0_in (inT1 (List.mem_of_getElem? (i := 157) rfl)) rfl
theorem fd_RX2_60 : kFd RX2 60 4 3 := ⟨RX0, TX0, 4, "CalendaryPlanner$Date", rfl, inW_RX0, by decide, kW0_in (inT3 (List.mem_of_getElem? (i := 76) rfl)) rfl, Or.inl rfl⟩
theorem fd_RX2_64 : kFd RX2 64 4 1 := ⟨RX0, TX0, 4, "CalendaryPlanner$Date", rfl, inW_RX0, by decide, kW0_in (inT3 (List.mem_of_getElem? (i := 73) rfl)) rfl, Or.inl rfl⟩
theorem fd_RX2_68 : kFd RX2 68 8 2 := ⟨RX4, TX4, 3, "CalendaryPlanner$Slot", rfl, inW_RX4, by decide, kW0_in (inT2 (List.mem_of_getElem? (i := 187) rfl)) rfl, Or.inl rfl⟩
theorem lk_RX3_1 : Cond.methodLink RX3 1 Lib.objectInit ∈ kW0 := kW0_in (inT1 (List.mem_of_getElem? (i := 48) rfl)) rfl
theorem fp_RX3_7 : kFp RX3 7 7 0 .int true := ⟨RX3, TX3, 3, "CalendaryPlanner$Room", tyX3, rfl, inW_RX3, by decide, kW0_in (inT1 (List.mem_of_getElem? (i := 49) rfl)) rfl, Or.inl rfl, tyX3_ok, nmX3, by decide +kernel, rfl, fun _ => rfl⟩
theorem fp_RX3_13 : kFp RX3 13 7 1 .int false := ⟨RX3, TX3, 3, "CalendaryPlanner$Room", tyX3, rfl, inW_RX3, by decide, kW0_in (inT1 (List.mem_of_getElem? (i := 51) rfl)) rfl, Or.inl rfl, tyX3_ok, nmX3, by decide +kernel, rfl, (fun h => by cases h)⟩
theorem fp_RX3_16 : kFp RX3 16 7 2 .int false := ⟨RX3, TX3, 3, "CalendaryPlanner$Room", tyX3, rfl, inW_RX3, by decide, kW0_in (inT1 (List.mem_of_getElem? (i := 53) rfl)) rfl, Or.inl rfl, tyX3_ok, nmX3, by decide +kernel, rfl, (fun h => by cases h)⟩
theorem lk_RX4_1 : Cond.methodLink RX4 1 Lib.objectInit ∈ kW0 := kW0_in (inT2 (List.mem_of_getElem? (i := 179) rfl)) rfl
theorem fp_RX4_7 : kFp RX4 7 8 0 .int false := ⟨RX4, TX4, 3, "CalendaryPlanner$Slot", tyX4, rfl, inW_RX4, by decide, kW0_in (inT2 (List.mem_of_getElem? (i := 180) rfl)) rfl, Or.inl rfl, tyX4_ok, nmX4, by decide +kernel, rfl, (fun h => by cases h)⟩
theorem fp_RX4_13 : kFp RX4 13 8 1 .int false := ⟨RX4, TX4, 3, "CalendaryPlanner$Slot", tyX4, rfl, inW_RX4, by decide, kW0_in (inT2 (List.mem_of_getElem? (i := 182) rfl)) rfl, Or.inl rfl, tyX4_ok, nmX4, by decide +kernel, rfl, (fun h => by cases h)⟩
theorem fp_RX4_16 : kFp RX4 16 8 2 .int true := ⟨RX4, TX4, 3, "CalendaryPlanner$Slot", tyX4, rfl, inW_RX4, by decide, kW0_in (inT2 (List.mem_of_getElem? (i := 185) rfl)) rfl, Or.inl rfl, tyX4_ok, nmX4, by decide +kernel, rfl, fun _ => rfl⟩
theorem fd_RX4_13 : kFd RX4 13 8 1 := ⟨RX4, TX4, 3, "CalendaryPlanner$Slot", rfl, inW_RX4, by decide, kW0_in (inT2 (List.mem_of_getElem? (i := 182) rfl)) rfl, Or.inl rfl⟩
theorem fd_RX4_16 : kFd RX4 16 8 2 := ⟨RX4, TX4, 3, "CalendaryPlanner$Slot", rfl, inW_RX4, by decide, kW0_in (inT2 (List.mem_of_getElem? (i := 185) rfl)) rfl, Or.inl rfl⟩
theorem lk_RX4_19 : Cond.methodLink RX4 19 m_X4_end.1 ∈ kW0 := kW0_in (inT2 (List.mem_of_getElem? (i := 28) rfl)) rfl
theorem lk_RX4_23 : Cond.methodLink RX4 23 m_J9_max_7cf53.1 ∈ kW0 := kW0_in (inT2 (List.mem_of_getElem? (i := 32) rfl)) rfl
theorem lk_RX5_1 : Cond.methodLink RX5 1 Lib.objectInit ∈ kW0 := kW0_in (inT1 (List.mem_of_getElem? (i := 39) rfl)) rfl
theorem cl_RX5_7 : Cond.classLink RX5 7 "CalendaryPlanner$Room" ∈ kW0 := kW0_in (inT1 (List.mem_of_getElem? (i := 42) rfl)) rfl
theorem nw_RX5_7 : kNw RX5 7 7 3 [.int 0, .int 0, .int 0] := ⟨RX3, TX3, tyX3, rfl, inW_RX3, tyX3_ok, kW0_in (inT1 (List.mem_of_getElem? (i := 42) rfl)) rfl, kW0_in (inT1 (List.mem_of_getElem? (i := 44) rfl)) rfl, kW0_in (inT1 (List.mem_of_getElem? (i := 2) rfl)) rfl, by decide +kernel⟩
theorem lk_RX5_9 : Cond.methodLink RX5 9 m_X3_init.1 ∈ kW0 := kW0_in (inT1 (List.mem_of_getElem? (i := 45) rfl)) rfl
theorem fp_RX5_12 : kFp RX5 12 9 0 (.array (.object "CalendaryPlanner$Room")) true := ⟨RX5, TX5, 7, "CalendaryPlanner", tyX5, rfl, inW_RX5, by decide, kW0_in (inT1 (List.mem_of_getElem? (i := 102) rfl)) rfl, Or.inl rfl, tyX5_ok, nmX5, by decide +kernel, rfl, fun _ => rfl⟩
theorem cl_RX5_18 : Cond.classLink RX5 18 "CalendaryPlanner$Day" ∈ kW0 := kW0_in (inT1 (List.mem_of_getElem? (i := 62) rfl)) rfl
theorem fp_RX5_20 : kFp RX5 20 9 1 (.array (.object "CalendaryPlanner$Day")) true := ⟨RX5, TX5, 7, "CalendaryPlanner", tyX5, rfl, inW_RX5, by decide, kW0_in (inT1 (List.mem_of_getElem? (i := 103) rfl)) rfl, Or.inl rfl, tyX5_ok, nmX5, by decide +kernel, rfl, fun _ => rfl⟩
theorem fd_RX5_20 : kFd RX5 20 9 1 := ⟨RX5, TX5, 7, "CalendaryPlanner", rfl, inW_RX5, by decide, kW0_in (inT1 (List.mem_of_getElem? (i := 103) rfl)) rfl, Or.inl rfl⟩
theorem nw_RX5_18 : kNw RX5 18 5 1 [.null] := ⟨RX1, TX1, tyX1, rfl, inW_RX1, tyX1_ok, kW0_in (inT1 (List.mem_of_getElem? (i := 62) rfl)) rfl, kW0_in (inT1 (List.mem_of_getElem? (i := 64) rfl)) rfl, kW0_in (inT1 (List.mem_of_getElem? (i := 3) rfl)) rfl, by decide +kernel⟩
theorem lk_RX5_24 : Cond.methodLink RX5 24 m_X1_init.1 ∈ kW0 := kW0_in (inT1 (List.mem_of_getElem? (i := 65) rfl)) rfl
theorem nw_RX5_25 : kNw RX5 25 3 3 [.int 0, .null, .int 0] := ⟨RJx4a65c, TJx4a65c, tyJx4a65c, rfl, inW_RJx4a65c, tyJx4a65c_ok, kW0_in (inT1 (List.mem_of_getElem? (i := 100) rfl)) rfl, kW0_in (inT1 (List.mem_of_getElem? (i := 70) rfl)) rfl, kW0_in (inT1 (List.mem_of_getElem? (i := 6) rfl)) rfl, by decide +kernel⟩
theorem lk_RX5_27 : Cond.methodLink RX5 27 m_Jx4a65c_init_da8c8.1 ∈ kW0 := kW0_in (inT1 (List.mem_of_getElem? (i := 101) rfl)) rfl
theorem fp_RX5_28 : kFp RX5 28 9 2 (.object "java/util/ArrayList") true := ⟨RX5, TX5, 7, "CalendaryPlanner", tyX5, rfl, inW_RX5, by decide, kW0_in (inT1 (List.mem_of_getElem? (i := 104) rfl)) rfl, Or.inl rfl, tyX5_ok, nmX5, by decide +kernel, rfl, fun _ => rfl⟩
theorem fp_RX5_32 : kFp RX5 32 9 3 .int false := ⟨RX5, TX5, 7, "CalendaryPlanner", tyX5, rfl, inW_RX5, by decide, kW0_in (inT1 (List.mem_of_getElem? (i := 105) rfl)) rfl, Or.inl rfl, tyX5_ok, nmX5, by decide +kernel, rfl, (fun h => by cases h)⟩
theorem fp_RX5_36 : kFp RX5 36 9 4 .int false := ⟨RX5, TX5, 7, "CalendaryPlanner", tyX5, rfl, inW_RX5, by decide, kW0_in (inT1 (List.mem_of_getElem? (i := 106) rfl)) rfl, Or.inl rfl, tyX5_ok, nmX5, by decide +kernel, rfl, (fun h => by cases h)⟩
theorem fp_RX5_39 : kFp RX5 39 9 5 .int false := ⟨RX5, TX5, 7, "CalendaryPlanner", tyX5, rfl, inW_RX5, by decide, kW0_in (inT1 (List.mem_of_getElem? (i := 107) rfl)) rfl, Or.inl rfl, tyX5_ok, nmX5, by decide +kernel, rfl, (fun h => by cases h)⟩
theorem fp_RX5_42 : kFp RX5 42 9 6 .int false := ⟨RX5, TX5, 7, "CalendaryPlanner", tyX5, rfl, inW_RX5, by decide, kW0_in (inT1 (List.mem_of_getElem? (i := 108) rfl)) rfl, Or.inl rfl, tyX5_ok, nmX5, by decide +kernel, rfl, (fun h => by cases h)⟩
theorem lk_RX5_45 : Cond.methodLink RX5 45 m_X5_roomWith.1 ∈ kW0 := kW0_in (inT2 (List.mem_of_getElem? (i := 78) rfl)) rfl
theorem lk_RX5_49 : Cond.methodLink RX5 49 m_X5_requireWithin.1 ∈ kW0 := kW0_in (inT2 (List.mem_of_getElem? (i := 83) rfl)) rfl
theorem fd_RX5_52 : kFd RX5 52 7 1 := ⟨RX3, TX3, 3, "CalendaryPlanner$Room", rfl, inW_RX3, by decide, kW0_in (inT1 (List.mem_of_getElem? (i := 52) rfl)) rfl, Or.inl rfl⟩
theorem fp_RX5_52 : kFp RX5 52 7 1 .int false := ⟨RX3, TX3, 3, "CalendaryPlanner$Room", tyX3, rfl, inW_RX3, by decide, kW0_in (inT1 (List.mem_of_getElem? (i := 52) rfl)) rfl, Or.inl rfl, tyX3_ok, nmX3, by decide +kernel, rfl, (fun h => by cases h)⟩
theorem fp_RX5_55 : kFp RX5 55 7 2 .int false := ⟨RX3, TX3, 3, "CalendaryPlanner$Room", tyX3, rfl, inW_RX3, by decide, kW0_in (inT1 (List.mem_of_getElem? (i := 54) rfl)) rfl, Or.inl rfl, tyX3_ok, nmX3, by decide +kernel, rfl, (fun h => by cases h)⟩
theorem fd_RX5_32 : kFd RX5 32 9 3 := ⟨RX5, TX5, 7, "CalendaryPlanner", rfl, inW_RX5, by decide, kW0_in (inT1 (List.mem_of_getElem? (i := 105) rfl)) rfl, Or.inl rfl⟩
theorem fd_RX5_55 : kFd RX5 55 7 2 := ⟨RX3, TX3, 3, "CalendaryPlanner$Room", rfl, inW_RX3, by decide, kW0_in (inT1 (List.mem_of_getElem? (i := 54) rfl)) rfl, Or.inl rfl⟩
theorem lk_RX5_58 : Cond.methodLink RX5 58 m_X5_requirePerson.1 ∈ kW0 := kW0_in (inT2 (List.mem_of_getElem? (i := 117) rfl)) rfl
theorem lk_RX5_62 : Cond.methodLink RX5 62 m_X5_requireSlot.1 ∈ kW0 := kW0_in (inT2 (List.mem_of_getElem? (i := 120) rfl)) rfl
theorem fd_RX5_28 : kFd RX5 28 9 2 := ⟨RX5, TX5, 7, "CalendaryPlanner", rfl, inW_RX5, by decide, kW0_in (inT1 (List.mem_of_getElem? (i := 104) rfl)) rfl, Or.inl rfl⟩
theorem lk_RX5_65 : Cond.methodLink RX5 65 m_Jx4a65c_size_8abf5.1 ∈ kW0 := kW0_in (inT1 (List.mem_of_getElem? (i := 128) rfl)) rfl
theorem cl_RX5_69 : Cond.classLink RX5 69 "java/lang/IllegalStateException" ∈ kW0 := kW0_in (inT2 (List.mem_of_getElem? (i := 126) rfl)) rfl
theorem lk_RX5_73 : Cond.methodLink RX5 73 ⟨"java/lang/IllegalStateException", "<init>", "(Ljava/lang/String;)V"⟩ ∈ kW0 := kW0_in (inT2 (List.mem_of_getElem? (i := 136) rfl)) rfl
theorem nw_RX5_76 : kNw RX5 76 6 6 [.int 0, .int 0, .int 0, .null, .int 0, .int 0] := ⟨RX2, TX2, tyX2, rfl, inW_RX2, tyX2_ok, kW0_in (inT1 (List.mem_of_getElem? (i := 150) rfl)) rfl, kW0_in (inT2 (List.mem_of_getElem? (i := 142) rfl)) rfl, kW0_in (inT1 (List.mem_of_getElem? (i := 13) rfl)) rfl, by decide +kernel⟩
theorem fd_RX5_36 : kFd RX5 36 9 4 := ⟨RX5, TX5, 7, "CalendaryPlanner", rfl, inW_RX5, by decide, kW0_in (inT1 (List.mem_of_getElem? (i := 106) rfl)) rfl, Or.inl rfl⟩
theorem lk_RX5_78 : Cond.methodLink RX5 78 m_X5_bitOf.1 ∈ kW0 := kW0_in (inT2 (List.mem_of_getElem? (i := 55) rfl)) rfl
theorem lk_RX5_82 : Cond.methodLink RX5 82 m_X2_init.1 ∈ kW0 := kW0_in (inT2 (List.mem_of_getElem? (i := 143) rfl)) rfl
theorem nw_RX5_83 : kNw RX5 83 8 3 [.int 0, .int 0, .int 0] := ⟨RX4, TX4, tyX4, rfl, inW_RX4, tyX4_ok, kW0_in (inT2 (List.mem_of_getElem? (i := 174) rfl)) rfl, kW0_in (inT2 (List.mem_of_getElem? (i := 175) rfl)) rfl, kW0_in (inT1 (List.mem_of_getElem? (i := 14) rfl)) rfl, by decide +kernel⟩
theorem lk_RX5_85 : Cond.methodLink RX5 85 m_X4_init.1 ∈ kW0 := kW0_in (inT2 (List.mem_of_getElem? (i := 176) rfl)) rfl
theorem lk_RX5_86 : Cond.methodLink RX5 86 m_Jx4a65c_add_9ea2d.1 ∈ kW0 := kW0_in (inT2 (List.mem_of_getElem? (i := 195) rfl)) rfl
theorem lk_RX5_90 : Cond.methodLink RX5 90 m_X5_planDates.1 ∈ kW0 := kW0_in (inT3 (List.mem_of_getElem? (i := 17) rfl)) rfl
theorem fd_RX5_94 : kFd RX5 94 6 0 := ⟨RX2, TX2, 6, "CalendaryPlanner$Meeting", rfl, inW_RX2, by decide, kW0_in (inT2 (List.mem_of_getElem? (i := 150) rfl)) rfl, Or.inl rfl⟩
theorem lk_RX5_97 : Cond.methodLink RX5 97 m_X5_meetingWith.1 ∈ kW0 := kW0_in (inT4 (List.mem_of_getElem? (i := 125) rfl)) rfl
theorem fd_RX5_101 : kFd RX5 101 6 3 := ⟨RX2, TX2, 6, "CalendaryPlanner$Meeting", rfl, inW_RX2, by decide, kW0_in (inT2 (List.mem_of_getElem? (i := 156) rfl)) rfl, Or.inl rfl⟩
theorem lk_RX5_104 : Cond.methodLink RX5 104 m_X5_dateWith.1 ∈ kW0 := kW0_in (inT4 (List.mem_of_getElem? (i := 149) rfl)) rfl
theorem fd_RX5_108 : kFd RX5 108 4 1 := ⟨RX0, TX0, 4, "CalendaryPlanner$Date", rfl, inW_RX0, by decide, kW0_in (inT3 (List.mem_of_getElem? (i := 72) rfl)) rfl, Or.inl rfl⟩
theorem fd_RX5_114 : kFd RX5 114 8 0 := ⟨RX4, TX4, 3, "CalendaryPlanner$Slot", rfl, inW_RX4, by decide, kW0_in (inT2 (List.mem_of_getElem? (i := 181) rfl)) rfl, Or.inl rfl⟩
theorem lk_RX5_117 : Cond.methodLink RX5 117 m_X5_requireDay.1 ∈ kW0 := kW0_in (inT2 (List.mem_of_getElem? (i := 123) rfl)) rfl
theorem fd_RX5_122 : kFd RX5 122 8 1 := ⟨RX4, TX4, 3, "CalendaryPlanner$Slot", rfl, inW_RX4, by decide, kW0_in (inT2 (List.mem_of_getElem? (i := 184) rfl)) rfl, Or.inl rfl⟩
theorem fd_RX5_125 : kFd RX5 125 8 2 := ⟨RX4, TX4, 3, "CalendaryPlanner$Slot", rfl, inW_RX4, by decide, kW0_in (inT2 (List.mem_of_getElem? (i := 186) rfl)) rfl, Or.inl rfl⟩
theorem lk_RX5_128 : Cond.methodLink RX5 128 m_X5_rankOf.1 ∈ kW0 := kW0_in (inT4 (List.mem_of_getElem? (i := 129) rfl)) rfl
theorem lk_RX5_131 : Cond.methodLink RX5 131 m_Jx4a65c_get_915e3.1 ∈ kW0 := kW0_in (inT1 (List.mem_of_getElem? (i := 136) rfl)) rfl
theorem cl_RX5_76 : Cond.classLink RX5 76 RX2 ∈ kW0 := kW0_in (inT1 (List.mem_of_getElem? (i := 150) rfl)) rfl
theorem cl_RX5_109 : Cond.classLink RX5 109 RX0 ∈ kW0 := kW0_in (inT2 (List.mem_of_getElem? (i := 19) rfl)) rfl
theorem lk_RX5_135 : Cond.methodLink RX5 135 m_X5_takeOffItsDay.1 ∈ kW0 := kW0_in (inT4 (List.mem_of_getElem? (i := 163) rfl)) rfl
theorem lk_RX5_139 : Cond.methodLink RX5 139 m_Jx4a65c_remove_915e3.1 ∈ kW0 := kW0_in (inT4 (List.mem_of_getElem? (i := 179) rfl)) rfl
theorem cl_RX5_142 : Cond.classLink RX5 142 "java/lang/IllegalArgumentException" ∈ kW0 := kW0_in (inT1 (List.mem_of_getElem? (i := 187) rfl)) rfl
theorem lk_RX5_146 : Cond.methodLink RX5 146 ⟨"java/lang/IllegalArgumentException", "<init>", "(Ljava/lang/String;)V"⟩ ∈ kW0 := kW0_in (inT1 (List.mem_of_getElem? (i := 233) rfl)) rfl
theorem fd_RX5_147 : kFd RX5 147 6 2 := ⟨RX2, TX2, 6, "CalendaryPlanner$Meeting", rfl, inW_RX2, by decide, kW0_in (inT2 (List.mem_of_getElem? (i := 154) rfl)) rfl, Or.inl rfl⟩
theorem lk_RX5_150 : Cond.methodLink RX5 150 m_X5_holdsPerson.1 ∈ kW0 := kW0_in (inT3 (List.mem_of_getElem? (i := 28) rfl)) rfl
theorem lk_RX5_156 : Cond.methodLink RX5 156 m_X2_answerFrom.1 ∈ kW0 := kW0_in (inT4 (List.mem_of_getElem? (i := 189) rfl)) rfl
theorem lk_RX5_160 : Cond.methodLink RX5 160 m_X5_requireSeatsLeft.1 ∈ kW0 := kW0_in (inT4 (List.mem_of_getElem? (i := 193) rfl)) rfl
theorem lk_RX5_164 : Cond.methodLink RX5 164 m_X5_requireNoClashFor.1 ∈ kW0 := kW0_in (inT4 (List.mem_of_getElem? (i := 198) rfl)) rfl
theorem lk_RX5_168 : Cond.methodLink RX5 168 m_X2_note.1 ∈ kW0 := kW0_in (inT4 (List.mem_of_getElem? (i := 203) rfl)) rfl
theorem lk_RX5_172 : Cond.methodLink RX5 172 m_X5_standingDateWith.1 ∈ kW0 := kW0_in (inT4 (List.mem_of_getElem? (i := 230) rfl)) rfl
theorem fp_RX5_175 : kFp RX5 175 4 3 .boolean false := ⟨RX0, TX0, 4, "CalendaryPlanner$Date", tyX0, rfl, inW_RX0, by decide, kW0_in (inT3 (List.mem_of_getElem? (i := 77) rfl)) rfl, Or.inl rfl, tyX0_ok, nmX0, by decide +kernel, rfl, (fun h => by cases h)⟩
theorem lk_RX5_179 : Cond.methodLink RX5 179 m_X2_standingDates.1 ∈ kW0 := kW0_in (inT4 (List.mem_of_getElem? (i := 234) rfl)) rfl
theorem lk_RX5_182 : Cond.methodLink RX5 182 m_X5_requireNobodyBusy.1 ∈ kW0 := kW0_in (inT3 (List.mem_of_getElem? (i := 21) rfl)) rfl
theorem lk_RX5_186 : Cond.methodLink RX5 186 m_X5_requireRoom.1 ∈ kW0 := kW0_in (inT3 (List.mem_of_getElem? (i := 49) rfl)) rfl
theorem fp_RX5_108 : kFp RX5 108 4 1 (.object "CalendaryPlanner$Slot") false := ⟨RX0, TX0, 4, "CalendaryPlanner$Date", tyX0, rfl, inW_RX0, by decide, kW0_in (inT3 (List.mem_of_getElem? (i := 72) rfl)) rfl, Or.inl rfl, tyX0_ok, nmX0, by decide +kernel, rfl, (fun h => by cases h)⟩
theorem fp_RX5_190 : kFp RX5 190 4 2 (.object "CalendaryPlanner$Room") false := ⟨RX0, TX0, 4, "CalendaryPlanner$Date", tyX0, rfl, inW_RX0, by decide, kW0_in (inT3 (List.mem_of_getElem? (i := 75) rfl)) rfl, Or.inl rfl, tyX0_ok, nmX0, by decide +kernel, rfl, (fun h => by cases h)⟩
theorem lk_RX5_194 : Cond.methodLink RX5 194 m_X5_putOnItsDay.1 ∈ kW0 := kW0_in (inT3 (List.mem_of_getElem? (i := 87) rfl)) rfl
theorem fd_RX5_197 : kFd RX5 197 7 0 := ⟨RX3, TX3, 3, "CalendaryPlanner$Room", rfl, inW_RX3, by decide, kW0_in (inT1 (List.mem_of_getElem? (i := 50) rfl)) rfl, Or.inl rfl⟩
theorem cl_RX5_198 : Cond.classLink RX5 198 "java/util/NoSuchElementException" ∈ kW0 := kW0_in (inT4 (List.mem_of_getElem? (i := 133) rfl)) rfl
theorem lk_RX5_202 : Cond.methodLink RX5 202 ⟨"java/util/NoSuchElementException", "<init>", "(Ljava/lang/String;)V"⟩ ∈ kW0 := kW0_in (inT4 (List.mem_of_getElem? (i := 143) rfl)) rfl
theorem fd_RX5_203 : kFd RX5 203 6 1 := ⟨RX2, TX2, 6, "CalendaryPlanner$Meeting", rfl, inW_RX2, by decide, kW0_in (inT2 (List.mem_of_getElem? (i := 152) rfl)) rfl, Or.inl rfl⟩
theorem lk_RX5_206 : Cond.methodLink RX5 206 m_X2_expectedCount.1 ∈ kW0 := kW0_in (inT1 (List.mem_of_getElem? (i := 158) rfl)) rfl
theorem fd_RX5_175 : kFd RX5 175 4 3 := ⟨RX0, TX0, 4, "CalendaryPlanner$Date", rfl, inW_RX0, by decide, kW0_in (inT3 (List.mem_of_getElem? (i := 77) rfl)) rfl, Or.inl rfl⟩
theorem fd_RX5_190 : kFd RX5 190 4 2 := ⟨RX0, TX0, 4, "CalendaryPlanner$Date", rfl, inW_RX0, by decide, kW0_in (inT3 (List.mem_of_getElem? (i := 75) rfl)) rfl, Or.inl rfl⟩
theorem lk_RX5_209 : Cond.methodLink RX5 209 m_X5_requireRefusal.1 ∈ kW0 := kW0_in (inT5 (List.mem_of_getElem? (i := 76) rfl)) rfl
theorem fd_RX5_39 : kFd RX5 39 9 5 := ⟨RX5, TX5, 7, "CalendaryPlanner", rfl, inW_RX5, by decide, kW0_in (inT1 (List.mem_of_getElem? (i := 107) rfl)) rfl, Or.inl rfl⟩
theorem fd_RX5_42 : kFd RX5 42 9 6 := ⟨RX5, TX5, 7, "CalendaryPlanner", rfl, inW_RX5, by decide, kW0_in (inT1 (List.mem_of_getElem? (i := 108) rfl)) rfl, Or.inl rfl⟩
theorem lk_RX5_212 : Cond.methodLink RX5 212 m_X5_dateOfPersonAt.1 ∈ kW0 := kW0_in (inT2 (List.mem_of_getElem? (i := 62) rfl)) rfl
theorem fd_RX5_218 : kFd RX5 218 4 0 := ⟨RX0, TX0, 4, "CalendaryPlanner$Date", rfl, inW_RX0, by decide, kW0_in (inT3 (List.mem_of_getElem? (i := 69) rfl)) rfl, Or.inl rfl⟩
theorem lk_RX5_222 : Cond.methodLink RX5 222 m_X5_countFreeBySweep.1 ∈ kW0 := kW0_in (inT2 (List.mem_of_getElem? (i := 44) rfl)) rfl
theorem lk_RX5_226 : Cond.methodLink RX5 226 m_X5_countFreeByTrying.1 ∈ kW0 := kW0_in (inT2 (List.mem_of_getElem? (i := 58) rfl)) rfl
theorem lk_RX5_229 : Cond.methodLink RX5 229 m_J9_max_7cf53.1 ∈ kW0 := kW0_in (inT2 (List.mem_of_getElem? (i := 56) rfl)) rfl
theorem fp_RX5_114 : kFp RX5 114 8 0 .int false := ⟨RX4, TX4, 3, "CalendaryPlanner$Slot", tyX4, rfl, inW_RX4, by decide, kW0_in (inT2 (List.mem_of_getElem? (i := 181) rfl)) rfl, Or.inl rfl, tyX4_ok, nmX4, by decide +kernel, rfl, (fun h => by cases h)⟩
theorem fp_RX5_122 : kFp RX5 122 8 1 .int false := ⟨RX4, TX4, 3, "CalendaryPlanner$Slot", tyX4, rfl, inW_RX4, by decide, kW0_in (inT2 (List.mem_of_getElem? (i := 184) rfl)) rfl, Or.inl rfl, tyX4_ok, nmX4, by decide +kernel, rfl, (fun h => by cases h)⟩
theorem lk_RX5_234 : Cond.methodLink RX5 234 m_X5_commonRoom.1 ∈ kW0 := kW0_in (inT5 (List.mem_of_getElem? (i := 131) rfl)) rfl
theorem lk_RX5_242 : Cond.methodLink RX5 242 m_X5_dayWith.1 ∈ kW0 := kW0_in (inT1 (List.mem_of_getElem? (i := 183) rfl)) rfl
theorem fd_RX5_246 : kFd RX5 246 5 0 := ⟨RX1, TX1, 1, "CalendaryPlanner$Day", rfl, inW_RX1, by decide, kW0_in (inT1 (List.mem_of_getElem? (i := 96) rfl)) rfl, Or.inl rfl⟩
theorem lk_RX5_247 : Cond.methodLink RX5 247 m_X2_expects.1 ∈ kW0 := kW0_in (inT2 (List.mem_of_getElem? (i := 48) rfl)) rfl
theorem lk_RX5_251 : Cond.methodLink RX5 251 m_X2_standingTimes.1 ∈ kW0 := kW0_in (inT1 (List.mem_of_getElem? (i := 151) rfl)) rfl
theorem cl_RX5_254 : Cond.classLink RX5 254 "java/lang/ArithmeticException" ∈ kW0 := kW0_in (inT5 (List.mem_of_getElem? (i := 186) rfl)) rfl
theorem lk_RX5_258 : Cond.methodLink RX5 258 ⟨"java/lang/ArithmeticException", "<init>", "(Ljava/lang/String;)V"⟩ ∈ kW0 := kW0_in (inT5 (List.mem_of_getElem? (i := 188) rfl)) rfl
theorem fd_RX5_259 : kFd RX5 259 6 4 := ⟨RX2, TX2, 6, "CalendaryPlanner$Meeting", rfl, inW_RX2, by decide, kW0_in (inT2 (List.mem_of_getElem? (i := 158) rfl)) rfl, Or.inl rfl⟩
theorem lk_RX5_262 : Cond.methodLink RX5 262 m_J6_bitCount_0f7a4.1 ∈ kW0 := kW0_in (inT3 (List.mem_of_getElem? (i := 57) rfl)) rfl
theorem fd_RX5_267 : kFd RX5 267 6 5 := ⟨RX2, TX2, 6, "CalendaryPlanner$Meeting", rfl, inW_RX2, by decide, kW0_in (inT2 (List.mem_of_getElem? (i := 160) rfl)) rfl, Or.inl rfl⟩
theorem lk_RX5_272 : Cond.methodLink RX5 272 m_X5_hasDoubleUse.1 ∈ kW0 := kW0_in (inT1 (List.mem_of_getElem? (i := 179) rfl)) rfl
theorem lk_RX5_275 : Cond.methodLink RX5 275 m_X5_countsAgree.1 ∈ kW0 := kW0_in (inT2 (List.mem_of_getElem? (i := 40) rfl)) rfl
theorem fd_RX5_12 : kFd RX5 12 9 0 := ⟨RX5, TX5, 7, "CalendaryPlanner", rfl, inW_RX5, by decide, kW0_in (inT1 (List.mem_of_getElem? (i := 102) rfl)) rfl, Or.inl rfl⟩
theorem cl_RX5_288 : Cond.classLink RX5 288 "java/lang/IndexOutOfBoundsException" ∈ kW0 := kW0_in (inT4 (List.mem_of_getElem? (i := 152) rfl)) rfl
theorem lk_RX5_292 : Cond.methodLink RX5 292 ⟨"java/lang/IndexOutOfBoundsException", "<init>", "(Ljava/lang/String;)V"⟩ ∈ kW0 := kW0_in (inT4 (List.mem_of_getElem? (i := 154) rfl)) rfl
theorem cl_RX5_83 : Cond.classLink RX5 83 RX4 ∈ kW0 := kW0_in (inT2 (List.mem_of_getElem? (i := 174) rfl)) rfl
theorem nw_RX5_109 : kNw RX5 109 4 4 [.null, .null, .null, .int 0] := ⟨RX0, TX0, tyX0, rfl, inW_RX0, tyX0_ok, kW0_in (inT2 (List.mem_of_getElem? (i := 19) rfl)) rfl, kW0_in (inT3 (List.mem_of_getElem? (i := 63) rfl)) rfl, kW0_in (inT1 (List.mem_of_getElem? (i := 24) rfl)) rfl, by decide +kernel⟩
theorem lk_RX5_295 : Cond.methodLink RX5 295 m_X0_init.1 ∈ kW0 := kW0_in (inT3 (List.mem_of_getElem? (i := 64) rfl)) rfl
theorem lk_RX5_298 : Cond.methodLink RX5 298 m_X1_take.1 ∈ kW0 := kW0_in (inT3 (List.mem_of_getElem? (i := 91) rfl)) rfl
theorem lk_RX5_301 : Cond.methodLink RX5 301 m_X1_drop.1 ∈ kW0 := kW0_in (inT4 (List.mem_of_getElem? (i := 167) rfl)) rfl
theorem lk_RX5_304 : Cond.methodLink RX5 304 m_X5_busyPeople.1 ∈ kW0 := kW0_in (inT2 (List.mem_of_getElem? (i := 20) rfl)) rfl
theorem lk_RX5_308 : Cond.methodLink RX5 308 m_X2_expectedPeople.1 ∈ kW0 := kW0_in (inT2 (List.mem_of_getElem? (i := 35) rfl)) rfl
theorem lk_RX5_311 : Cond.methodLink RX5 311 m_X5_lowestPerson.1 ∈ kW0 := kW0_in (inT3 (List.mem_of_getElem? (i := 25) rfl)) rfl
theorem lk_RX5_314 : Cond.methodLink RX5 314 m_X5_noteRefusal.1 ∈ kW0 := kW0_in (inT3 (List.mem_of_getElem? (i := 29) rfl)) rfl
theorem cl_RX5_318 : Cond.classLink RX5 318 "java/lang/UnsupportedOperationException" ∈ kW0 := kW0_in (inT3 (List.mem_of_getElem? (i := 33) rfl)) rfl
theorem lk_RX5_322 : Cond.methodLink RX5 322 ⟨"java/lang/UnsupportedOperationException", "<init>", "(Ljava/lang/String;)V"⟩ ∈ kW0 := kW0_in (inT3 (List.mem_of_getElem? (i := 43) rfl)) rfl
theorem lk_RX5_323 : Cond.methodLink RX5 323 m_X5_bestRoom.1 ∈ kW0 := kW0_in (inT3 (List.mem_of_getElem? (i := 53) rfl)) rfl
theorem lk_RX5_331 : Cond.methodLink RX5 331 m_X5_wouldClash.1 ∈ kW0 := kW0_in (inT3 (List.mem_of_getElem? (i := 58) rfl)) rfl
theorem lk_RX5_337 : Cond.methodLink RX5 337 m_X4_timesBetween.1 ∈ kW0 := kW0_in (inT2 (List.mem_of_getElem? (i := 24) rfl)) rfl
theorem lk_RX5_341 : Cond.methodLink RX5 341 m_X5_isTaken.1 ∈ kW0 := kW0_in (inT2 (List.mem_of_getElem? (i := 36) rfl)) rfl
theorem lk_RX5_345 : Cond.methodLink RX5 345 m_X4_holds.1 ∈ kW0 := kW0_in (inT2 (List.mem_of_getElem? (i := 66) rfl)) rfl
theorem lk_RX5_348 : Cond.methodLink RX5 348 m_X4_end.1 ∈ kW0 := kW0_in (inT2 (List.mem_of_getElem? (i := 57) rfl)) rfl
theorem lk_RX6_1 : Cond.methodLink RX6 1 Lib.objectInit ∈ kW0 := kW0_in (inT5 (List.mem_of_getElem? (i := 202) rfl)) rfl
theorem fp_RX6_7 : kFp RX6 7 10 0 (.array .int) true := ⟨RX6, TX6, 5, "CalendaryPlannerModel", tyX6, rfl, inW_RX6, by decide, kW0_in (inT5 (List.mem_of_getElem? (i := 203) rfl)) rfl, Or.inl rfl, tyX6_ok, nmX6, by decide +kernel, rfl, fun _ => rfl⟩
theorem fp_RX6_13 : kFp RX6 13 10 2 .int false := ⟨RX6, TX6, 5, "CalendaryPlannerModel", tyX6, rfl, inW_RX6, by decide, kW0_in (inT5 (List.mem_of_getElem? (i := 205) rfl)) rfl, Or.inl rfl, tyX6_ok, nmX6, by decide +kernel, rfl, (fun h => by cases h)⟩
theorem fp_RX6_17 : kFp RX6 17 10 3 .int false := ⟨RX6, TX6, 5, "CalendaryPlannerModel", tyX6, rfl, inW_RX6, by decide, kW0_in (inT5 (List.mem_of_getElem? (i := 206) rfl)) rfl, Or.inl rfl, tyX6_ok, nmX6, by decide +kernel, rfl, (fun h => by cases h)⟩
theorem fp_RX6_20 : kFp RX6 20 10 4 (.array .int) true := ⟨RX6, TX6, 5, "CalendaryPlannerModel", tyX6, rfl, inW_RX6, by decide, kW0_in (inT5 (List.mem_of_getElem? (i := 207) rfl)) rfl, Or.inl rfl, tyX6_ok, nmX6, by decide +kernel, rfl, fun _ => rfl⟩
theorem fd_RX6_7 : kFd RX6 7 10 0 := ⟨RX6, TX6, 5, "CalendaryPlannerModel", rfl, inW_RX6, by decide, kW0_in (inT5 (List.mem_of_getElem? (i := 203) rfl)) rfl, Or.inl rfl⟩
theorem fd_RX6_23 : kFd RX6 23 10 1 := ⟨RX6, TX6, 5, "CalendaryPlannerModel", rfl, inW_RX6, by decide, kW0_in (inT5 (List.mem_of_getElem? (i := 204) rfl)) rfl, Or.inl rfl⟩
theorem fp_RX6_23 : kFp RX6 23 10 1 .int false := ⟨RX6, TX6, 5, "CalendaryPlannerModel", tyX6, rfl, inW_RX6, by decide, kW0_in (inT5 (List.mem_of_getElem? (i := 204) rfl)) rfl, Or.inl rfl, tyX6_ok, nmX6, by decide +kernel, rfl, (fun h => by cases h)⟩
theorem lk_RX6_26 : Cond.methodLink RX6 26 m_X6_in.1 ∈ kW0 := kW0_in (inT5 (List.mem_of_getElem? (i := 231) rfl)) rfl
theorem lk_RX6_30 : Cond.methodLink RX6 30 m_X6_isRoom.1 ∈ kW0 := kW0_in (inT5 (List.mem_of_getElem? (i := 228) rfl)) rfl
theorem lk_RX6_34 : Cond.methodLink RX6 34 m_X6_fails.1 ∈ kW0 := kW0_in (inT5 (List.mem_of_getElem? (i := 234) rfl)) rfl
theorem lk_RX6_37 : Cond.methodLink RX6 37 m_X6_of.1 ∈ kW0 := kW0_in (inT6 (List.mem_of_getElem? (i := 27) rfl)) rfl
theorem lk_RX6_41 : Cond.methodLink RX6 41 m_X6_isExpected.1 ∈ kW0 := kW0_in (inT6 (List.mem_of_getElem? (i := 51) rfl)) rfl
theorem lk_RX6_45 : Cond.methodLink RX6 45 m_X6_date.1 ∈ kW0 := kW0_in (inT6 (List.mem_of_getElem? (i := 39) rfl)) rfl
theorem lk_RX6_49 : Cond.methodLink RX6 49 m_X6_isOn.1 ∈ kW0 := kW0_in (inT6 (List.mem_of_getElem? (i := 35) rfl)) rfl
theorem fd_RX6_13 : kFd RX6 13 10 2 := ⟨RX6, TX6, 5, "CalendaryPlannerModel", rfl, inW_RX6, by decide, kW0_in (inT5 (List.mem_of_getElem? (i := 205) rfl)) rfl, Or.inl rfl⟩
theorem fd_RX6_17 : kFd RX6 17 10 3 := ⟨RX6, TX6, 5, "CalendaryPlannerModel", rfl, inW_RX6, by decide, kW0_in (inT5 (List.mem_of_getElem? (i := 206) rfl)) rfl, Or.inl rfl⟩
theorem lk_RX6_52 : Cond.methodLink RX6 52 m_X6_counts.1 ∈ kW0 := kW0_in (inT6 (List.mem_of_getElem? (i := 31) rfl)) rfl
theorem lk_RX6_55 : Cond.methodLink RX6 55 m_X6_between.1 ∈ kW0 := kW0_in (inT6 (List.mem_of_getElem? (i := 43) rfl)) rfl
theorem lk_RX6_59 : Cond.methodLink RX6 59 m_X6_people.1 ∈ kW0 := kW0_in (inT6 (List.mem_of_getElem? (i := 47) rfl)) rfl
theorem lk_RX6_63 : Cond.methodLink RX6 63 m_X6_many.1 ∈ kW0 := kW0_in (inT6 (List.mem_of_getElem? (i := 67) rfl)) rfl
theorem lk_RX6_66 : Cond.methodLink RX6 66 m_X6_fits.1 ∈ kW0 := kW0_in (inT6 (List.mem_of_getElem? (i := 63) rfl)) rfl
theorem lk_RX6_70 : Cond.methodLink RX6 70 m_X6_lays.1 ∈ kW0 := kW0_in (inT6 (List.mem_of_getElem? (i := 70) rfl)) rfl
theorem lk_RX6_74 : Cond.methodLink RX6 74 m_X6_isPerson.1 ∈ kW0 := kW0_in (inT6 (List.mem_of_getElem? (i := 14) rfl)) rfl
theorem lk_RX6_77 : Cond.methodLink RX6 77 m_X6_isDay.1 ∈ kW0 := kW0_in (inT6 (List.mem_of_getElem? (i := 17) rfl)) rfl
theorem lk_RX6_80 : Cond.methodLink RX6 80 m_X6_isTime.1 ∈ kW0 := kW0_in (inT6 (List.mem_of_getElem? (i := 20) rfl)) rfl
theorem lk_RX6_83 : Cond.methodLink RX6 83 m_X6_busy.1 ∈ kW0 := kW0_in (inT6 (List.mem_of_getElem? (i := 23) rfl)) rfl
theorem lk_RX6_86 : Cond.methodLink RX6 86 m_X6_refuses.1 ∈ kW0 := kW0_in (inT6 (List.mem_of_getElem? (i := 55) rfl)) rfl
theorem lk_RX6_89 : Cond.methodLink RX6 89 m_X6_smallest.1 ∈ kW0 := kW0_in (inT6 (List.mem_of_getElem? (i := 59) rfl)) rfl
theorem lk_RX6_92 : Cond.methodLink RX6 92 m_X6_dates.1 ∈ kW0 := kW0_in (inT6 (List.mem_of_getElem? (i := 74) rfl)) rfl
theorem lk_RX6_96 : Cond.methodLink RX6 96 m_X6_at.1 ∈ kW0 := kW0_in (inT6 (List.mem_of_getElem? (i := 82) rfl)) rfl
theorem fd_RX6_20 : kFd RX6 20 10 4 := ⟨RX6, TX6, 5, "CalendaryPlannerModel", rfl, inW_RX6, by decide, kW0_in (inT5 (List.mem_of_getElem? (i := 207) rfl)) rfl, Or.inl rfl⟩
theorem lk_RX6_99 : Cond.methodLink RX6 99 m_X6_isNone.1 ∈ kW0 := kW0_in (inT6 (List.mem_of_getElem? (i := 90) rfl)) rfl
theorem lk_RX6_102 : Cond.methodLink RX6 102 m_X6_clashes.1 ∈ kW0 := kW0_in (inT6 (List.mem_of_getElem? (i := 102) rfl)) rfl
theorem lk_RX6_105 : Cond.methodLink RX6 105 m_X6_isKeptOut.1 ∈ kW0 := kW0_in (inT6 (List.mem_of_getElem? (i := 98) rfl)) rfl
theorem lk_RX6_108 : Cond.methodLink RX6 108 m_X6_isNoDate.1 ∈ kW0 := kW0_in (inT6 (List.mem_of_getElem? (i := 110) rfl)) rfl
theorem lk_RX6_111 : Cond.methodLink RX6 111 m_X6_hostOf.1 ∈ kW0 := kW0_in (inT6 (List.mem_of_getElem? (i := 134) rfl)) rfl
theorem lk_RX6_114 : Cond.methodLink RX6 114 m_X6_isNoTime.1 ∈ kW0 := kW0_in (inT6 (List.mem_of_getElem? (i := 171) rfl)) rfl
theorem lk_RX6_117 : Cond.methodLink RX6 117 m_X6_isFreeAt.1 ∈ kW0 := kW0_in (inT6 (List.mem_of_getElem? (i := 174) rfl)) rfl
theorem lk_RX6_120 : Cond.methodLink RX6 120 m_X6_frees.1 ∈ kW0 := kW0_in (inT6 (List.mem_of_getElem? (i := 186) rfl)) rfl
theorem lk_RX6_123 : Cond.methodLink RX6 123 m_X6_isNoPlan.1 ∈ kW0 := kW0_in (inT6 (List.mem_of_getElem? (i := 202) rfl)) rfl
theorem lk_RX6_126 : Cond.methodLink RX6 126 m_X6_roomFound.1 ∈ kW0 := kW0_in (inT6 (List.mem_of_getElem? (i := 206) rfl)) rfl
theorem lk_RX6_129 : Cond.methodLink RX6 129 m_X6_meetsItself.1 ∈ kW0 := kW0_in (inT7 (List.mem_of_getElem? (i := 2) rfl)) rfl
theorem lk_RJxa1e45_1 : Cond.methodLink RJxa1e45 1 Lib.objectInit ∈ kW0 := kW0_in (inT1 (List.mem_of_getElem? (i := 80) rfl)) rfl
theorem lk_RJxc12de_1 : Cond.methodLink RJxc12de 1 m_Jxa1e45_init_da8c8.1 ∈ kW0 := kW0_in (inT1 (List.mem_of_getElem? (i := 77) rfl)) rfl
theorem lk_RJx4a65c_1 : Cond.methodLink RJx4a65c 1 m_Jxc12de_init_da8c8.1 ∈ kW0 := kW0_in (inT1 (List.mem_of_getElem? (i := 74) rfl)) rfl
theorem fp_RJx4a65c_9 : kFp RJx4a65c 9 3 1 (.array (.object "java/lang/Object")) false := ⟨RJx4a65c, TJx4a65c, 3, "java/util/ArrayList", tyJx4a65c, rfl, inW_RJx4a65c, by decide, kW0_in (inT1 (List.mem_of_getElem? (i := 83) rfl)) rfl, Or.inl rfl, tyJx4a65c_ok, nmJx4a65c, by decide +kernel, rfl, (fun h => by cases h)⟩
theorem fd_RJx4a65c_9 : kFd RJx4a65c 9 3 1 := ⟨RJx4a65c, TJx4a65c, 3, "java/util/ArrayList", rfl, inW_RJx4a65c, by decide, kW0_in (inT1 (List.mem_of_getElem? (i := 83) rfl)) rfl, Or.inl rfl⟩
theorem lk_RJx4a65c_73 : Cond.methodLink RJx4a65c 73 m_J8_newLength_cabcc.1 ∈ kW0 := kW0_in (inT2 (List.mem_of_getElem? (i := 211) rfl)) rfl
theorem lk_RJx4a65c_66 : Cond.methodLink RJx4a65c 66 m_J7_copyOf_1904c.1 ∈ kW0 := kW0_in (inT2 (List.mem_of_getElem? (i := 219) rfl)) rfl
theorem lk_RJx4a65c_79 : Cond.methodLink RJx4a65c 79 m_J9_max_7cf53.1 ∈ kW0 := kW0_in (inT3 (List.mem_of_getElem? (i := 15) rfl)) rfl
theorem cl_RJx4a65c_7 : Cond.classLink RJx4a65c 7 "java/lang/Object" ∈ kW0 := kW0_in (inT3 (List.mem_of_getElem? (i := 16) rfl)) rfl
theorem fd_RJx4a65c_48 : kFd RJx4a65c 48 3 2 := ⟨RJx4a65c, TJx4a65c, 3, "java/util/ArrayList", rfl, inW_RJx4a65c, by decide, kW0_in (inT1 (List.mem_of_getElem? (i := 84) rfl)) rfl, Or.inl rfl⟩
theorem lk_RJx4a65c_69 : Cond.methodLink RJx4a65c 69 m_Jx4a65c_grow_92f84.1 ∈ kW0 := kW0_in (inT2 (List.mem_of_getElem? (i := 207) rfl)) rfl
theorem lk_RJx4a65c_118 : Cond.methodLink RJx4a65c 118 m_J15_checkIndex_7cf53.1 ∈ kW0 := kW0_in (inT1 (List.mem_of_getElem? (i := 140) rfl)) rfl
theorem lk_RJx4a65c_123 : Cond.methodLink RJx4a65c 123 m_Jx4a65c_elementData_915e3.1 ∈ kW0 := kW0_in (inT1 (List.mem_of_getElem? (i := 146) rfl)) rfl
theorem lk_RJx4a65c_129 : Cond.methodLink RJx4a65c 129 m_Jx4a65c_grow_d5877.1 ∈ kW0 := kW0_in (inT2 (List.mem_of_getElem? (i := 203) rfl)) rfl
theorem fp_RJx4a65c_48 : kFp RJx4a65c 48 3 2 .int false := ⟨RJx4a65c, TJx4a65c, 3, "java/util/ArrayList", tyJx4a65c, rfl, inW_RJx4a65c, by decide, kW0_in (inT1 (List.mem_of_getElem? (i := 84) rfl)) rfl, Or.inl rfl, tyJx4a65c_ok, nmJx4a65c, by decide +kernel, rfl, (fun h => by cases h)⟩
theorem fd_RJx4a65c_63 : kFd RJx4a65c 63 3 0 := ⟨RJx4a65c, TJx4a65c, 3, "java/util/ArrayList", rfl, inW_RJx4a65c, by decide, kW0_in (inT1 (List.mem_of_getElem? (i := 86) rfl)) rfl, Or.inr (kW0_in (inT1 (List.mem_of_getElem? (i := 87) rfl)) rfl)⟩
theorem fp_RJx4a65c_63 : kFp RJx4a65c 63 3 0 .int false := ⟨RJx4a65c, TJx4a65c, 3, "java/util/ArrayList", tyJx4a65c, rfl, inW_RJx4a65c, by decide, kW0_in (inT1 (List.mem_of_getElem? (i := 86) rfl)) rfl, Or.inr (kW0_in (inT1 (List.mem_of_getElem? (i := 87) rfl)) rfl), tyJx4a65c_ok, nmJx4a65c, by decide +kernel, rfl, (fun h => by cases h)⟩
theorem lk_RJx4a65c_131 : Cond.methodLink RJx4a65c 131 m_Jx4a65c_add_72be8.1 ∈ kW0 := kW0_in (inT2 (List.mem_of_getElem? (i := 199) rfl)) rfl
theorem lk_RJx4a65c_135 : Cond.methodLink RJx4a65c 135 m_Jx4a65c_rangeCheckForAdd_d00df.1 ∈ kW0 := kW0_in (inT3 (List.mem_of_getElem? (i := 102) rfl)) rfl
theorem lk_RJx4a65c_112 : Cond.methodLink RJx4a65c 112 ⟨"java/lang/System", "arraycopy", "(Ljava/lang/Object;ILjava/lang/Object;II)V"⟩ ∈ kW0 := kW0_in (inT4 (List.mem_of_getElem? (i := 116) rfl)) rfl
theorem lk_RJx4a65c_144 : Cond.methodLink RJx4a65c 144 m_Jx4a65c_fastRemove_b59b0.1 ∈ kW0 := kW0_in (inT4 (List.mem_of_getElem? (i := 175) rfl)) rfl
theorem cl_RJx4a65c_187 : Cond.classLink RJx4a65c 187 "java/lang/IndexOutOfBoundsException" ∈ kW0 := kW0_in (inT3 (List.mem_of_getElem? (i := 106) rfl)) rfl
theorem lk_RJx4a65c_198 : Cond.methodLink RJx4a65c 198 m_Jx4a65c_outOfBoundsMsg_b52d3.1 ∈ kW0 := kW0_in (inT3 (List.mem_of_getElem? (i := 115) rfl)) rfl
theorem lk_RJx4a65c_193 : Cond.methodLink RJx4a65c 193 ⟨"java/lang/IndexOutOfBoundsException", "<init>", "(Ljava/lang/String;)V"⟩ ∈ kW0 := kW0_in (inT4 (List.mem_of_getElem? (i := 110) rfl)) rfl
theorem lk_RJx4a65c_22 : Cond.methodLink RJx4a65c 22 ⟨"java/lang/StringBuilder", "<init>", "()V"⟩ ∈ kW0 := kW0_in (inT3 (List.mem_of_getElem? (i := 121) rfl)) rfl
theorem lk_RJx4a65c_25 : Cond.methodLink RJx4a65c 25 ⟨"java/lang/StringBuilder", "append", "(Ljava/lang/String;)Ljava/lang/StringBuilder;"⟩ ∈ kW0 := kW0_in (inT3 (List.mem_of_getElem? (i := 151) rfl)) rfl
theorem lk_RJx4a65c_29 : Cond.methodLink RJx4a65c 29 ⟨"java/lang/StringBuilder", "append", "(I)Ljava/lang/StringBuilder;"⟩ ∈ kW0 := kW0_in (inT4 (List.mem_of_getElem? (i := 16) rfl)) rfl
theorem lk_RJx4a65c_32 : Cond.methodLink RJx4a65c 32 ⟨"java/lang/StringBuilder", "toString", "()Ljava/lang/String;"⟩ ∈ kW0 := kW0_in (inT4 (List.mem_of_getElem? (i := 42) rfl)) rfl
theorem lk_RJ7_86 : Cond.methodLink RJ7 86 ⟨"java/lang/Object", "getClass", "()Ljava/lang/Class;"⟩ ∈ kW0 := kW0_in (inT2 (List.mem_of_getElem? (i := 222) rfl)) rfl
theorem lk_RJ7_300 : Cond.methodLink RJ7 300 m_J7_copyOf_6403c.1 ∈ kW0 := kW0_in (inT3 (List.mem_of_getElem? (i := 3) rfl)) rfl
theorem cl_RJ7_2 : Cond.classLink RJ7 2 "java/lang/Object" ∈ kW0 := kW0_in (inT3 (List.mem_of_getElem? (i := 8) rfl)) rfl
theorem cl_RJ7_110 : Cond.classLink RJ7 110 "[Ljava/lang/Object;" ∈ kW0 := kW0_in (inT3 (List.mem_of_getElem? (i := 6) rfl)) rfl
theorem lk_RJ7_304 : Cond.methodLink RJ7 304 m_J9_min_7cf53.1 ∈ kW0 := kW0_in (inT3 (List.mem_of_getElem? (i := 9) rfl)) rfl
theorem lk_RJ7_150 : Cond.methodLink RJ7 150 ⟨"java/lang/System", "arraycopy", "(Ljava/lang/Object;ILjava/lang/Object;II)V"⟩ ∈ kW0 := kW0_in (inT3 (List.mem_of_getElem? (i := 12) rfl)) rfl
theorem lk_RJ15_105 : Cond.methodLink RJ15 105 m_J3_checkIndex_8e157.1 ∈ kW0 := kW0_in (inT1 (List.mem_of_getElem? (i := 143) rfl)) rfl
theorem lk_RJ8_194 : Cond.methodLink RJ8 194 m_J9_max_7cf53.1 ∈ kW0 := kW0_in (inT2 (List.mem_of_getElem? (i := 214) rfl)) rfl
theorem lk_RJ8_201 : Cond.methodLink RJ8 201 ⟨"jdk/internal/util/ArraysSupport", "hugeLength", "(II)I"⟩ ∈ kW0 := kW0_in (inT2 (List.mem_of_getElem? (i := 216) rfl)) rfl
theorem lk_RL_7 : Cond.methodLink RL 7 m_X5_setRoom.1 ∈ kW0 := kW0_in (inT2 (List.mem_of_getElem? (i := 74) rfl)) rfl
theorem lk_RL_15 : Cond.methodLink RL 15 m_X5_setGap.1 ∈ kW0 := kW0_in (inT2 (List.mem_of_getElem? (i := 90) rfl)) rfl
theorem lk_RL_19 : Cond.methodLink RL 19 m_X5_seatsOf.1 ∈ kW0 := kW0_in (inT2 (List.mem_of_getElem? (i := 97) rfl)) rfl
theorem lk_RL_22 : Cond.methodLink RL 22 m_X5_houseOf.1 ∈ kW0 := kW0_in (inT2 (List.mem_of_getElem? (i := 104) rfl)) rfl
theorem lk_RL_25 : Cond.methodLink RL 25 m_X5_ask.1 ∈ kW0 := kW0_in (inT2 (List.mem_of_getElem? (i := 113) rfl)) rfl
theorem lk_RL_33 : Cond.methodLink RL 33 m_X5_extend.1 ∈ kW0 := kW0_in (inT4 (List.mem_of_getElem? (i := 121) rfl)) rfl
theorem lk_RL_38 : Cond.methodLink RL 38 m_X5_remove.1 ∈ kW0 := kW0_in (inT4 (List.mem_of_getElem? (i := 159) rfl)) rfl
theorem lk_RL_41 : Cond.methodLink RL 41 m_X5_answer.1 ∈ kW0 := kW0_in (inT4 (List.mem_of_getElem? (i := 183) rfl)) rfl
theorem lk_RL_45 : Cond.methodLink RL 45 m_X5_cancel.1 ∈ kW0 := kW0_in (inT4 (List.mem_of_getElem? (i := 226) rfl)) rfl
theorem lk_RL_51 : Cond.methodLink RL 51 m_X5_move.1 ∈ kW0 := kW0_in (inT5 (List.mem_of_getElem? (i := 1) rfl)) rfl
theorem lk_RL_55 : Cond.methodLink RL 55 m_X5_meetingAt.1 ∈ kW0 := kW0_in (inT5 (List.mem_of_getElem? (i := 8) rfl)) rfl
theorem lk_RL_58 : Cond.methodLink RL 58 m_X5_hostOf.1 ∈ kW0 := kW0_in (inT5 (List.mem_of_getElem? (i := 16) rfl)) rfl
theorem lk_RL_61 : Cond.methodLink RL 61 m_X5_answerOf.1 ∈ kW0 := kW0_in (inT5 (List.mem_of_getElem? (i := 23) rfl)) rfl
theorem lk_RL_65 : Cond.methodLink RL 65 m_X5_expected.1 ∈ kW0 := kW0_in (inT5 (List.mem_of_getElem? (i := 30) rfl)) rfl
theorem lk_RL_68 : Cond.methodLink RL 68 m_X5_dateCount.1 ∈ kW0 := kW0_in (inT5 (List.mem_of_getElem? (i := 37) rfl)) rfl
theorem lk_RL_71 : Cond.methodLink RL 71 m_X5_dayOf.1 ∈ kW0 := kW0_in (inT5 (List.mem_of_getElem? (i := 44) rfl)) rfl
theorem lk_RL_74 : Cond.methodLink RL 74 m_X5_timeOf.1 ∈ kW0 := kW0_in (inT5 (List.mem_of_getElem? (i := 51) rfl)) rfl
theorem lk_RL_77 : Cond.methodLink RL 77 m_X5_isCancelled.1 ∈ kW0 := kW0_in (inT5 (List.mem_of_getElem? (i := 58) rfl)) rfl
theorem lk_RL_81 : Cond.methodLink RL 81 m_X5_roomOf.1 ∈ kW0 := kW0_in (inT5 (List.mem_of_getElem? (i := 65) rfl)) rfl
theorem lk_RL_84 : Cond.methodLink RL 84 m_X5_refusalReason.1 ∈ kW0 := kW0_in (inT5 (List.mem_of_getElem? (i := 72) rfl)) rfl
theorem lk_RL_88 : Cond.methodLink RL 88 m_X5_refusalDetail.1 ∈ kW0 := kW0_in (inT5 (List.mem_of_getElem? (i := 84) rfl)) rfl
theorem lk_RL_91 : Cond.methodLink RL 91 m_X5_isFree.1 ∈ kW0 := kW0_in (inT5 (List.mem_of_getElem? (i := 91) rfl)) rfl
theorem lk_RL_95 : Cond.methodLink RL 95 m_X5_meetingOf.1 ∈ kW0 := kW0_in (inT5 (List.mem_of_getElem? (i := 98) rfl)) rfl
theorem lk_RL_98 : Cond.methodLink RL 98 m_X5_freeTimes.1 ∈ kW0 := kW0_in (inT5 (List.mem_of_getElem? (i := 106) rfl)) rfl
theorem lk_RL_101 : Cond.methodLink RL 101 m_X5_freeByTrying.1 ∈ kW0 := kW0_in (inT5 (List.mem_of_getElem? (i := 113) rfl)) rfl
theorem lk_RL_104 : Cond.methodLink RL 104 m_X5_longestFree.1 ∈ kW0 := kW0_in (inT5 (List.mem_of_getElem? (i := 120) rfl)) rfl
theorem lk_RL_107 : Cond.methodLink RL 107 m_X5_firstCommon.1 ∈ kW0 := kW0_in (inT5 (List.mem_of_getElem? (i := 127) rfl)) rfl
theorem lk_RL_110 : Cond.methodLink RL 110 m_X5_commonCount.1 ∈ kW0 := kW0_in (inT5 (List.mem_of_getElem? (i := 139) rfl)) rfl
theorem lk_RL_113 : Cond.methodLink RL 113 m_X5_roomFor.1 ∈ kW0 := kW0_in (inT5 (List.mem_of_getElem? (i := 146) rfl)) rfl
theorem lk_RL_116 : Cond.methodLink RL 116 m_X5_usedTimes.1 ∈ kW0 := kW0_in (inT5 (List.mem_of_getElem? (i := 154) rfl)) rfl
theorem lk_RL_119 : Cond.methodLink RL 119 m_X5_walks.1 ∈ kW0 := kW0_in (inT5 (List.mem_of_getElem? (i := 161) rfl)) rfl
theorem lk_RL_122 : Cond.methodLink RL 122 m_X5_meanExpected.1 ∈ kW0 := kW0_in (inT5 (List.mem_of_getElem? (i := 182) rfl)) rfl
theorem lk_RL_128 : Cond.methodLink RL 128 m_X5_yesShare.1 ∈ kW0 := kW0_in (inT5 (List.mem_of_getElem? (i := 192) rfl)) rfl
theorem nw_RL_8 : kNw RL 8 9 7 [.null, .null, .null, .int 0, .int 0, .int 0, .int 0] := ⟨RX5, TX5, tyX5, rfl, inW_RX5, tyX5_ok, kW0_in (inT1 (List.mem_of_getElem? (i := 34) rfl)) rfl, kW0_in (inT1 (List.mem_of_getElem? (i := 35) rfl)) rfl, kW0_in (inT1 (List.mem_of_getElem? (i := 1) rfl)) rfl, by decide +kernel⟩
theorem lk_RL_132 : Cond.methodLink RL 132 m_X5_init.1 ∈ kW0 := kW0_in (inT1 (List.mem_of_getElem? (i := 36) rfl)) rfl
theorem nw_RL_133 : kNw RL 133 10 5 [.null, .int 0, .int 0, .int 0, .null] := ⟨RX6, TX6, tyX6, rfl, inW_RX6, tyX6_ok, kW0_in (inT5 (List.mem_of_getElem? (i := 197) rfl)) rfl, kW0_in (inT5 (List.mem_of_getElem? (i := 198) rfl)) rfl, kW0_in (inT1 (List.mem_of_getElem? (i := 7) rfl)) rfl, by decide +kernel⟩
theorem lk_RL_135 : Cond.methodLink RL 135 m_X6_init.1 ∈ kW0 := kW0_in (inT5 (List.mem_of_getElem? (i := 199) rfl)) rfl
theorem lk_RL_136 : Cond.methodLink RL 136 m_L_setRoom.1 ∈ kW0 := kW0_in (inT2 (List.mem_of_getElem? (i := 70) rfl)) rfl
theorem lk_RL_141 : Cond.methodLink RL 141 m_X6_setRoom.1 ∈ kW0 := kW0_in (inT5 (List.mem_of_getElem? (i := 224) rfl)) rfl
theorem lk_RL_142 : Cond.methodLink RL 142 m_X6_thrown.1 ∈ kW0 := kW0_in (inT5 (List.mem_of_getElem? (i := 220) rfl)) rfl
theorem lk_RL_145 : Cond.methodLink RL 145 m_L_setGap.1 ∈ kW0 := kW0_in (inT2 (List.mem_of_getElem? (i := 87) rfl)) rfl
theorem lk_RL_148 : Cond.methodLink RL 148 m_X6_setGap.1 ∈ kW0 := kW0_in (inT5 (List.mem_of_getElem? (i := 238) rfl)) rfl
theorem lk_RL_149 : Cond.methodLink RL 149 m_L_seatsOf.1 ∈ kW0 := kW0_in (inT2 (List.mem_of_getElem? (i := 94) rfl)) rfl
theorem lk_RL_151 : Cond.methodLink RL 151 m_X6_seatsOf.1 ∈ kW0 := kW0_in (inT6 (List.mem_of_getElem? (i := 2) rfl)) rfl
theorem lk_RL_152 : Cond.methodLink RL 152 m_L_houseOf.1 ∈ kW0 := kW0_in (inT2 (List.mem_of_getElem? (i := 101) rfl)) rfl
theorem lk_RL_154 : Cond.methodLink RL 154 m_X6_houseOf.1 ∈ kW0 := kW0_in (inT6 (List.mem_of_getElem? (i := 6) rfl)) rfl
theorem lk_RL_155 : Cond.methodLink RL 155 m_L_ask.1 ∈ kW0 := kW0_in (inT2 (List.mem_of_getElem? (i := 108) rfl)) rfl
theorem lk_RL_158 : Cond.methodLink RL 158 m_X6_ask.1 ∈ kW0 := kW0_in (inT6 (List.mem_of_getElem? (i := 10) rfl)) rfl
theorem lk_RL_159 : Cond.methodLink RL 159 m_L_extend.1 ∈ kW0 := kW0_in (inT4 (List.mem_of_getElem? (i := 117) rfl)) rfl
theorem lk_RL_161 : Cond.methodLink RL 161 m_X6_extend.1 ∈ kW0 := kW0_in (inT6 (List.mem_of_getElem? (i := 78) rfl)) rfl
theorem lk_RL_162 : Cond.methodLink RL 162 m_L_remove.1 ∈ kW0 := kW0_in (inT4 (List.mem_of_getElem? (i := 156) rfl)) rfl
theorem lk_RL_164 : Cond.methodLink RL 164 m_X6_remove.1 ∈ kW0 := kW0_in (inT6 (List.mem_of_getElem? (i := 86) rfl)) rfl
theorem lk_RL_165 : Cond.methodLink RL 165 m_L_answer.1 ∈ kW0 := kW0_in (inT4 (List.mem_of_getElem? (i := 180) rfl)) rfl
theorem lk_RL_168 : Cond.methodLink RL 168 m_X6_answer.1 ∈ kW0 := kW0_in (inT6 (List.mem_of_getElem? (i := 94) rfl)) rfl
theorem lk_RL_169 : Cond.methodLink RL 169 m_L_cancel.1 ∈ kW0 := kW0_in (inT4 (List.mem_of_getElem? (i := 207) rfl)) rfl
theorem lk_RL_172 : Cond.methodLink RL 172 m_X6_cancel.1 ∈ kW0 := kW0_in (inT6 (List.mem_of_getElem? (i := 106) rfl)) rfl
theorem lk_RL_173 : Cond.methodLink RL 173 m_L_move.1 ∈ kW0 := kW0_in (inT4 (List.mem_of_getElem? (i := 238) rfl)) rfl
theorem lk_RL_176 : Cond.methodLink RL 176 m_X6_move.1 ∈ kW0 := kW0_in (inT6 (List.mem_of_getElem? (i := 114) rfl)) rfl
theorem lk_RL_177 : Cond.methodLink RL 177 m_X5_meetingCount.1 ∈ kW0 := kW0_in (inT1 (List.mem_of_getElem? (i := 124) rfl)) rfl
theorem lk_RL_180 : Cond.methodLink RL 180 m_X6_meetingCount.1 ∈ kW0 := kW0_in (inT6 (List.mem_of_getElem? (i := 118) rfl)) rfl
theorem lk_RL_181 : Cond.methodLink RL 181 m_L_meetingAt.1 ∈ kW0 := kW0_in (inT5 (List.mem_of_getElem? (i := 5) rfl)) rfl
theorem lk_RL_183 : Cond.methodLink RL 183 m_X6_meetingAt.1 ∈ kW0 := kW0_in (inT6 (List.mem_of_getElem? (i := 122) rfl)) rfl
theorem lk_RL_184 : Cond.methodLink RL 184 m_L_hostOf.1 ∈ kW0 := kW0_in (inT5 (List.mem_of_getElem? (i := 13) rfl)) rfl
theorem lk_RL_186 : Cond.methodLink RL 186 m_X6_hostOf.1 ∈ kW0 := kW0_in (inT6 (List.mem_of_getElem? (i := 126) rfl)) rfl
theorem lk_RL_187 : Cond.methodLink RL 187 m_L_answerOf.1 ∈ kW0 := kW0_in (inT5 (List.mem_of_getElem? (i := 20) rfl)) rfl
theorem lk_RL_189 : Cond.methodLink RL 189 m_X6_answerOf.1 ∈ kW0 := kW0_in (inT6 (List.mem_of_getElem? (i := 130) rfl)) rfl
theorem lk_RL_190 : Cond.methodLink RL 190 m_L_expected.1 ∈ kW0 := kW0_in (inT5 (List.mem_of_getElem? (i := 27) rfl)) rfl
theorem lk_RL_192 : Cond.methodLink RL 192 m_X6_expected.1 ∈ kW0 := kW0_in (inT6 (List.mem_of_getElem? (i := 135) rfl)) rfl
theorem lk_RL_193 : Cond.methodLink RL 193 m_L_dateCount.1 ∈ kW0 := kW0_in (inT5 (List.mem_of_getElem? (i := 34) rfl)) rfl
theorem lk_RL_195 : Cond.methodLink RL 195 m_X6_dateCount.1 ∈ kW0 := kW0_in (inT6 (List.mem_of_getElem? (i := 139) rfl)) rfl
theorem lk_RL_196 : Cond.methodLink RL 196 m_L_dayOf.1 ∈ kW0 := kW0_in (inT5 (List.mem_of_getElem? (i := 41) rfl)) rfl
theorem lk_RL_198 : Cond.methodLink RL 198 m_X6_dayOf.1 ∈ kW0 := kW0_in (inT6 (List.mem_of_getElem? (i := 143) rfl)) rfl
theorem lk_RL_199 : Cond.methodLink RL 199 m_L_timeOf.1 ∈ kW0 := kW0_in (inT5 (List.mem_of_getElem? (i := 48) rfl)) rfl
theorem lk_RL_201 : Cond.methodLink RL 201 m_X6_timeOf.1 ∈ kW0 := kW0_in (inT6 (List.mem_of_getElem? (i := 147) rfl)) rfl
theorem lk_RL_202 : Cond.methodLink RL 202 m_L_isCancelled.1 ∈ kW0 := kW0_in (inT5 (List.mem_of_getElem? (i := 55) rfl)) rfl
theorem lk_RL_204 : Cond.methodLink RL 204 m_X6_isCancelled.1 ∈ kW0 := kW0_in (inT6 (List.mem_of_getElem? (i := 151) rfl)) rfl
theorem lk_RL_205 : Cond.methodLink RL 205 m_L_roomOf.1 ∈ kW0 := kW0_in (inT5 (List.mem_of_getElem? (i := 62) rfl)) rfl
theorem lk_RL_207 : Cond.methodLink RL 207 m_X6_roomOf.1 ∈ kW0 := kW0_in (inT6 (List.mem_of_getElem? (i := 155) rfl)) rfl
theorem lk_RL_208 : Cond.methodLink RL 208 m_L_refusalReason.1 ∈ kW0 := kW0_in (inT5 (List.mem_of_getElem? (i := 69) rfl)) rfl
theorem lk_RL_211 : Cond.methodLink RL 211 m_X6_refusalReason.1 ∈ kW0 := kW0_in (inT6 (List.mem_of_getElem? (i := 159) rfl)) rfl
theorem lk_RL_212 : Cond.methodLink RL 212 m_L_refusalDetail.1 ∈ kW0 := kW0_in (inT5 (List.mem_of_getElem? (i := 81) rfl)) rfl
theorem lk_RL_214 : Cond.methodLink RL 214 m_X6_refusalDetail.1 ∈ kW0 := kW0_in (inT6 (List.mem_of_getElem? (i := 163) rfl)) rfl
theorem lk_RL_215 : Cond.methodLink RL 215 m_L_isFree.1 ∈ kW0 := kW0_in (inT5 (List.mem_of_getElem? (i := 88) rfl)) rfl
theorem lk_RL_217 : Cond.methodLink RL 217 m_X6_isFree.1 ∈ kW0 := kW0_in (inT6 (List.mem_of_getElem? (i := 167) rfl)) rfl
theorem lk_RL_218 : Cond.methodLink RL 218 m_L_meetingOf.1 ∈ kW0 := kW0_in (inT5 (List.mem_of_getElem? (i := 95) rfl)) rfl
theorem lk_RL_220 : Cond.methodLink RL 220 m_X6_meetingOf.1 ∈ kW0 := kW0_in (inT6 (List.mem_of_getElem? (i := 178) rfl)) rfl
theorem lk_RL_221 : Cond.methodLink RL 221 m_L_freeTimes.1 ∈ kW0 := kW0_in (inT5 (List.mem_of_getElem? (i := 103) rfl)) rfl
theorem lk_RL_223 : Cond.methodLink RL 223 m_X6_freeTimes.1 ∈ kW0 := kW0_in (inT6 (List.mem_of_getElem? (i := 182) rfl)) rfl
theorem lk_RL_224 : Cond.methodLink RL 224 m_L_freeByTrying.1 ∈ kW0 := kW0_in (inT5 (List.mem_of_getElem? (i := 110) rfl)) rfl
theorem lk_RL_226 : Cond.methodLink RL 226 m_X6_freeByTrying.1 ∈ kW0 := kW0_in (inT6 (List.mem_of_getElem? (i := 190) rfl)) rfl
theorem lk_RL_227 : Cond.methodLink RL 227 m_L_longestFree.1 ∈ kW0 := kW0_in (inT5 (List.mem_of_getElem? (i := 117) rfl)) rfl
theorem lk_RL_229 : Cond.methodLink RL 229 m_X6_longestFree.1 ∈ kW0 := kW0_in (inT6 (List.mem_of_getElem? (i := 194) rfl)) rfl
theorem lk_RL_230 : Cond.methodLink RL 230 m_L_firstCommon.1 ∈ kW0 := kW0_in (inT5 (List.mem_of_getElem? (i := 124) rfl)) rfl
theorem lk_RL_232 : Cond.methodLink RL 232 m_X6_firstCommon.1 ∈ kW0 := kW0_in (inT6 (List.mem_of_getElem? (i := 198) rfl)) rfl
theorem lk_RL_233 : Cond.methodLink RL 233 m_L_commonCount.1 ∈ kW0 := kW0_in (inT5 (List.mem_of_getElem? (i := 136) rfl)) rfl
theorem lk_RL_235 : Cond.methodLink RL 235 m_X6_commonCount.1 ∈ kW0 := kW0_in (inT6 (List.mem_of_getElem? (i := 210) rfl)) rfl
theorem lk_RL_236 : Cond.methodLink RL 236 m_L_roomFor.1 ∈ kW0 := kW0_in (inT5 (List.mem_of_getElem? (i := 143) rfl)) rfl
theorem lk_RL_238 : Cond.methodLink RL 238 m_X6_roomFor.1 ∈ kW0 := kW0_in (inT6 (List.mem_of_getElem? (i := 214) rfl)) rfl
theorem lk_RL_239 : Cond.methodLink RL 239 m_L_usedTimes.1 ∈ kW0 := kW0_in (inT5 (List.mem_of_getElem? (i := 151) rfl)) rfl
theorem lk_RL_241 : Cond.methodLink RL 241 m_X6_usedTimes.1 ∈ kW0 := kW0_in (inT6 (List.mem_of_getElem? (i := 218) rfl)) rfl
theorem lk_RL_242 : Cond.methodLink RL 242 m_L_walks.1 ∈ kW0 := kW0_in (inT5 (List.mem_of_getElem? (i := 158) rfl)) rfl
theorem lk_RL_244 : Cond.methodLink RL 244 m_X6_walks.1 ∈ kW0 := kW0_in (inT6 (List.mem_of_getElem? (i := 222) rfl)) rfl
theorem lk_RL_245 : Cond.methodLink RL 245 m_X5_sittings.1 ∈ kW0 := kW0_in (inT1 (List.mem_of_getElem? (i := 132) rfl)) rfl
theorem lk_RL_249 : Cond.methodLink RL 249 m_X6_sittings.1 ∈ kW0 := kW0_in (inT6 (List.mem_of_getElem? (i := 226) rfl)) rfl
theorem lk_RL_250 : Cond.methodLink RL 250 m_L_meanExpected.1 ∈ kW0 := kW0_in (inT5 (List.mem_of_getElem? (i := 165) rfl)) rfl
theorem lk_RL_253 : Cond.methodLink RL 253 m_X6_meanExpected.1 ∈ kW0 := kW0_in (inT6 (List.mem_of_getElem? (i := 230) rfl)) rfl
theorem lk_RL_254 : Cond.methodLink RL 254 m_L_yesShare.1 ∈ kW0 := kW0_in (inT5 (List.mem_of_getElem? (i := 189) rfl)) rfl
theorem lk_RL_256 : Cond.methodLink RL 256 m_X6_yesShare.1 ∈ kW0 := kW0_in (inT6 (List.mem_of_getElem? (i := 234) rfl)) rfl
theorem lk_RL_257 : Cond.methodLink RL 257 m_X5_isConsistent.1 ∈ kW0 := kW0_in (inT1 (List.mem_of_getElem? (i := 175) rfl)) rfl
theorem lk_RL_261 : Cond.methodLink RL 261 m_X6_isConsistent.1 ∈ kW0 := kW0_in (inT6 (List.mem_of_getElem? (i := 238) rfl)) rfl
theorem cl_RL_13 : Cond.classLink RL 13 "java/lang/IllegalArgumentException" ∈ kW0 := kW0_in (inT2 (List.mem_of_getElem? (i := 73) rfl)) rfl
theorem cl_RL_29 : Cond.classLink RL 29 "java/lang/IllegalStateException" ∈ kW0 := kW0_in (inT2 (List.mem_of_getElem? (i := 111) rfl)) rfl
theorem cl_RL_31 : Cond.classLink RL 31 "java/lang/UnsupportedOperationException" ∈ kW0 := kW0_in (inT2 (List.mem_of_getElem? (i := 112) rfl)) rfl
theorem cl_RL_36 : Cond.classLink RL 36 "java/util/NoSuchElementException" ∈ kW0 := kW0_in (inT4 (List.mem_of_getElem? (i := 120) rfl)) rfl
theorem cl_RL_49 : Cond.classLink RL 49 "java/lang/IndexOutOfBoundsException" ∈ kW0 := kW0_in (inT4 (List.mem_of_getElem? (i := 210) rfl)) rfl
theorem cl_RL_126 : Cond.classLink RL 126 "java/lang/ArithmeticException" ∈ kW0 := kW0_in (inT5 (List.mem_of_getElem? (i := 168) rfl)) rfl
theorem nse_0 : decode prog_41_method_4_code 0 = .ok (.aload_n 0, 1) := by decide +kernel
theorem nse_1 : decode prog_41_method_4_code 1 = .ok (.aload_n 1, 1) := by decide +kernel
theorem nse_2 : decode prog_41_method_4_code 2 = .ok (.invokespecial 13, 3) := by decide +kernel
theorem nse_5 : decode prog_41_method_4_code 5 = .ok (.return_, 1) := by decide +kernel
theorem at_RX5_73 : kAt RX5 73 "java/lang/IllegalStateException" ["java/lang/RuntimeException", "java/lang/Exception"] := by
  have h : (vx_atS RX5 73 "java/lang/IllegalStateException" ["java/lang/RuntimeException", "java/lang/Exception"]).all (fun w => decide (w ∈ lw_tbl) && (goodWord w || (w.faceAtom && w.onTables))) = true := by decide +kernel
  intro w hw
  have h1 := List.all_eq_true.mp h w hw
  simp only [Bool.and_eq_true, decide_eq_true_eq] at h1
  rcases Bool.or_eq_true_iff.mp h1.2 with z | z
  · exact Or.inl (kW0_in h1.1 z)
  · exact Or.inr (kFace_in h1.1 z)
theorem ini_IllegalStateException : Cond.initialized "java/lang/IllegalStateException" ∈ kW0 := kW0_in (inT1 (List.mem_of_getElem? (i := 12) rfl)) rfl
theorem at_RX5_146 : kAt RX5 146 "java/lang/IllegalArgumentException" ["java/lang/RuntimeException", "java/lang/Exception"] := by
  have h : (vx_atS RX5 146 "java/lang/IllegalArgumentException" ["java/lang/RuntimeException", "java/lang/Exception"]).all (fun w => decide (w ∈ lw_tbl) && (goodWord w || (w.faceAtom && w.onTables))) = true := by decide +kernel
  intro w hw
  have h1 := List.all_eq_true.mp h w hw
  simp only [Bool.and_eq_true, decide_eq_true_eq] at h1
  rcases Bool.or_eq_true_iff.mp h1.2 with z | z
  · exact Or.inl (kW0_in h1.1 z)
  · exact Or.inr (kFace_in h1.1 z)
theorem ini_IllegalArgumentException : Cond.initialized "java/lang/IllegalArgumentException" ∈ kW0 := kW0_in (inT1 (List.mem_of_getElem? (i := 11) rfl)) rfl
theorem ax_RX5_202 : kAtX RX5 202 "java/util/NoSuchElementException" "java/lang/RuntimeException" 13 prog_41_method_4_code ["java/lang/Exception"] := by
  have h : (kv_atS9 RX5 202 "java/util/NoSuchElementException" "java/lang/RuntimeException" 13 prog_41_method_4_code ["java/lang/Exception"]).all (fun w => decide (w ∈ lw_tbl) && (goodWord w || (w.faceAtom && w.onTables))) = true := by decide +kernel
  intro w hw
  have h1 := List.all_eq_true.mp h w hw
  simp only [Bool.and_eq_true, decide_eq_true_eq] at h1
  rcases Bool.or_eq_true_iff.mp h1.2 with z | z
  · exact Or.inl (kW0_in h1.1 z)
  · exact Or.inr (kFace_in h1.1 z)
theorem ini_NoSuchElementException : Cond.initialized "java/util/NoSuchElementException" ∈ kW0 := kW0_in (inT1 (List.mem_of_getElem? (i := 31) rfl)) rfl
theorem at_RX5_258 : kAt RX5 258 "java/lang/ArithmeticException" ["java/lang/RuntimeException", "java/lang/Exception"] := by
  have h : (vx_atS RX5 258 "java/lang/ArithmeticException" ["java/lang/RuntimeException", "java/lang/Exception"]).all (fun w => decide (w ∈ lw_tbl) && (goodWord w || (w.faceAtom && w.onTables))) = true := by decide +kernel
  intro w hw
  have h1 := List.all_eq_true.mp h w hw
  simp only [Bool.and_eq_true, decide_eq_true_eq] at h1
  rcases Bool.or_eq_true_iff.mp h1.2 with z | z
  · exact Or.inl (kW0_in h1.1 z)
  · exact Or.inr (kFace_in h1.1 z)
theorem ini_ArithmeticException : Cond.initialized "java/lang/ArithmeticException" ∈ kW0 := kW0_in (inT1 (List.mem_of_getElem? (i := 33) rfl)) rfl
theorem at_RX5_292 : kAt RX5 292 "java/lang/IndexOutOfBoundsException" ["java/lang/RuntimeException", "java/lang/Exception"] := by
  have h : (vx_atS RX5 292 "java/lang/IndexOutOfBoundsException" ["java/lang/RuntimeException", "java/lang/Exception"]).all (fun w => decide (w ∈ lw_tbl) && (goodWord w || (w.faceAtom && w.onTables))) = true := by decide +kernel
  intro w hw
  have h1 := List.all_eq_true.mp h w hw
  simp only [Bool.and_eq_true, decide_eq_true_eq] at h1
  rcases Bool.or_eq_true_iff.mp h1.2 with z | z
  · exact Or.inl (kW0_in h1.1 z)
  · exact Or.inr (kFace_in h1.1 z)
theorem ini_IndexOutOfBoundsException : Cond.initialized "java/lang/IndexOutOfBoundsException" ∈ kW0 := kW0_in (inT1 (List.mem_of_getElem? (i := 25) rfl)) rfl
theorem at_RX5_322 : kAt RX5 322 "java/lang/UnsupportedOperationException" ["java/lang/RuntimeException", "java/lang/Exception"] := by
  have h : (vx_atS RX5 322 "java/lang/UnsupportedOperationException" ["java/lang/RuntimeException", "java/lang/Exception"]).all (fun w => decide (w ∈ lw_tbl) && (goodWord w || (w.faceAtom && w.onTables))) = true := by decide +kernel
  intro w hw
  have h1 := List.all_eq_true.mp h w hw
  simp only [Bool.and_eq_true, decide_eq_true_eq] at h1
  rcases Bool.or_eq_true_iff.mp h1.2 with z | z
  · exact Or.inl (kW0_in h1.1 z)
  · exact Or.inr (kFace_in h1.1 z)
theorem ini_UnsupportedOperationException : Cond.initialized "java/lang/UnsupportedOperationException" ∈ kW0 := kW0_in (inT1 (List.mem_of_getElem? (i := 21) rfl)) rfl
theorem oi_inst : Cond.instanceMethod Lib.objectInit ∈ kW0 := kW0_in (inT1 (List.mem_of_getElem? (i := 40) rfl)) rfl
theorem oi_code : Cond.code Lib.objectInit ⟨#[0xb1]⟩ 1 none ∈ kW0 := kW0_in (inT1 (List.mem_of_getElem? (i := 41) (by decide +kernel))) rfl
theorem aw_int : Cond.arrayClass .int ∈ kW0 := kW0_in (inT5 (List.mem_of_getElem? (i := 219) rfl)) rfl
theorem aw_long : Cond.arrayClass .long ∈ kW0 := kW0_in (inT7 (List.mem_of_getElem? (i := 6) rfl)) rfl
theorem aw_double : Cond.arrayClass .double ∈ kW0 := kW0_in (inT7 (List.mem_of_getElem? (i := 7) rfl)) rfl
theorem gs_list : Cond.fieldLink RJx4a65c 39 "java/util/ArrayList" "DEFAULTCAPACITY_EMPTY_ELEMENTDATA" "[Ljava/lang/Object;" ∈ kW0 := kW0_in (inT1 (List.mem_of_getElem? (i := 81) rfl)) rfl
end
