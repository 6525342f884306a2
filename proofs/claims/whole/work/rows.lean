section
-- ===== PART A: goes FIRST, ahead of the names: the tables' words, and 'selects' of the private methods out of them =====
/-- a private method of a class that the tables say can be made, by its rows of tables_1 -/
def lw_okq (q : MethodName × Nat) : Prop := (q.1.cls ≠ "java/lang/invoke/MethodHandle" ∧ q.1.cls ≠ "java/lang/invoke/VarHandle") ∧ Cond.instantiable q.1.cls q.2 ∈ tables_1 ∧ Cond.privateMethod q.1 ∈ tables_1 ∧ Cond.instanceMethod q.1 ∈ tables_1
theorem lw_p0 : lw_okq (⟨"OneDoor$Reader", "readToken", "()V"⟩, 8) := ⟨⟨by decide +kernel, by decide +kernel⟩, List.mem_of_getElem? (i := 26) (by decide +kernel), List.mem_of_getElem? (i := 350) (by decide +kernel), List.mem_of_getElem? (i := 351) (by decide +kernel)⟩
theorem lw_p1 : lw_okq (⟨"OneDoor$Reader", "readLetters", "()V"⟩, 8) := ⟨⟨by decide +kernel, by decide +kernel⟩, List.mem_of_getElem? (i := 26) (by decide +kernel), List.mem_of_getElem? (i := 357) (by decide +kernel), List.mem_of_getElem? (i := 358) (by decide +kernel)⟩
theorem lw_p2 : lw_okq (⟨"OneDoor$Reader", "readDigits", "()V"⟩, 8) := ⟨⟨by decide +kernel, by decide +kernel⟩, List.mem_of_getElem? (i := 26) (by decide +kernel), List.mem_of_getElem? (i := 364) (by decide +kernel), List.mem_of_getElem? (i := 365) (by decide +kernel)⟩
theorem lw_p3 : lw_okq (⟨"OneDoor$Reader", "readItem", "(LOneDoor$Told;)Z"⟩, 8) := ⟨⟨by decide +kernel, by decide +kernel⟩, List.mem_of_getElem? (i := 26) (by decide +kernel), List.mem_of_getElem? (i := 371) (by decide +kernel), List.mem_of_getElem? (i := 372) (by decide +kernel)⟩
theorem lw_p4 : lw_okq (⟨"OneDoor$Reader", "readHouse", "(LOneDoor$Told;)Z"⟩, 8) := ⟨⟨by decide +kernel, by decide +kernel⟩, List.mem_of_getElem? (i := 26) (by decide +kernel), List.mem_of_getElem? (i := 375) (by decide +kernel), List.mem_of_getElem? (i := 376) (by decide +kernel)⟩
theorem lw_p5 : lw_okq (⟨"OneDoor$Reader", "readNumber", "(II)Z"⟩, 8) := ⟨⟨by decide +kernel, by decide +kernel⟩, List.mem_of_getElem? (i := 26) (by decide +kernel), List.mem_of_getElem? (i := 379) (by decide +kernel), List.mem_of_getElem? (i := 380) (by decide +kernel)⟩
theorem lw_p6 : lw_okq (⟨"OneDoor$Reader", "readStop", "()Z"⟩, 8) := ⟨⟨by decide +kernel, by decide +kernel⟩, List.mem_of_getElem? (i := 26) (by decide +kernel), List.mem_of_getElem? (i := 383) (by decide +kernel), List.mem_of_getElem? (i := 384) (by decide +kernel)⟩
theorem lw_p7 : lw_okq (⟨"OneDoor$Reader", "readPerson", "(LOneDoor$Told;)Z"⟩, 8) := ⟨⟨by decide +kernel, by decide +kernel⟩, List.mem_of_getElem? (i := 26) (by decide +kernel), List.mem_of_getElem? (i := 387) (by decide +kernel), List.mem_of_getElem? (i := 388) (by decide +kernel)⟩
theorem lw_p8 : lw_okq (⟨"OneDoor$Reader", "readTax", "(LOneDoor$Told;)Z"⟩, 8) := ⟨⟨by decide +kernel, by decide +kernel⟩, List.mem_of_getElem? (i := 26) (by decide +kernel), List.mem_of_getElem? (i := 391) (by decide +kernel), List.mem_of_getElem? (i := 392) (by decide +kernel)⟩
theorem lw_p9 : lw_okq (⟨"OneDoor$Reader", "readWarm", "(LOneDoor$Told;)Z"⟩, 8) := ⟨⟨by decide +kernel, by decide +kernel⟩, List.mem_of_getElem? (i := 26) (by decide +kernel), List.mem_of_getElem? (i := 395) (by decide +kernel), List.mem_of_getElem? (i := 396) (by decide +kernel)⟩
theorem lw_p10 : lw_okq (⟨"OneDoor", "isHouse", "(I)Z"⟩, 12) := ⟨⟨by decide +kernel, by decide +kernel⟩, List.mem_of_getElem? (i := 18) (by decide +kernel), List.mem_of_getElem? (i := 419) (by decide +kernel), List.mem_of_getElem? (i := 420) (by decide +kernel)⟩
theorem lw_p11 : lw_okq (⟨"OneDoor", "peopleAt", "([II)I"⟩, 12) := ⟨⟨by decide +kernel, by decide +kernel⟩, List.mem_of_getElem? (i := 18) (by decide +kernel), List.mem_of_getElem? (i := 423) (by decide +kernel), List.mem_of_getElem? (i := 424) (by decide +kernel)⟩
theorem lw_p12 : lw_okq (⟨"OneDoor$Plan", "theWay", "(II)I"⟩, 7) := ⟨⟨by decide +kernel, by decide +kernel⟩, List.mem_of_getElem? (i := 176) (by decide +kernel), List.mem_of_getElem? (i := 435) (by decide +kernel), List.mem_of_getElem? (i := 436) (by decide +kernel)⟩
theorem lw_p13 : lw_okq (⟨"OneDoor$Plan", "minutesOf", "(I)I"⟩, 7) := ⟨⟨by decide +kernel, by decide +kernel⟩, List.mem_of_getElem? (i := 176) (by decide +kernel), List.mem_of_getElem? (i := 445) (by decide +kernel), List.mem_of_getElem? (i := 446) (by decide +kernel)⟩
theorem lw_p14 : lw_okq (⟨"OneDoor", "isPerson", "(I)Z"⟩, 12) := ⟨⟨by decide +kernel, by decide +kernel⟩, List.mem_of_getElem? (i := 18) (by decide +kernel), List.mem_of_getElem? (i := 453) (by decide +kernel), List.mem_of_getElem? (i := 454) (by decide +kernel)⟩
theorem lw_p15 : lw_okq (⟨"OneDoor", "stepEnd", "(II)I"⟩, 12) := ⟨⟨by decide +kernel, by decide +kernel⟩, List.mem_of_getElem? (i := 18) (by decide +kernel), List.mem_of_getElem? (i := 465) (by decide +kernel), List.mem_of_getElem? (i := 466) (by decide +kernel)⟩
def lw_privs_1 : List (MethodName × Nat) := [(⟨"OneDoor$Reader", "readToken", "()V"⟩, 8), (⟨"OneDoor$Reader", "readLetters", "()V"⟩, 8), (⟨"OneDoor$Reader", "readDigits", "()V"⟩, 8), (⟨"OneDoor$Reader", "readItem", "(LOneDoor$Told;)Z"⟩, 8), (⟨"OneDoor$Reader", "readHouse", "(LOneDoor$Told;)Z"⟩, 8), (⟨"OneDoor$Reader", "readNumber", "(II)Z"⟩, 8), (⟨"OneDoor$Reader", "readStop", "()Z"⟩, 8), (⟨"OneDoor$Reader", "readPerson", "(LOneDoor$Told;)Z"⟩, 8), (⟨"OneDoor$Reader", "readTax", "(LOneDoor$Told;)Z"⟩, 8), (⟨"OneDoor$Reader", "readWarm", "(LOneDoor$Told;)Z"⟩, 8), (⟨"OneDoor", "isHouse", "(I)Z"⟩, 12), (⟨"OneDoor", "peopleAt", "([II)I"⟩, 12), (⟨"OneDoor$Plan", "theWay", "(II)I"⟩, 7), (⟨"OneDoor$Plan", "minutesOf", "(I)I"⟩, 7), (⟨"OneDoor", "isPerson", "(I)Z"⟩, 12), (⟨"OneDoor", "stepEnd", "(II)I"⟩, 12)]
theorem lw_r1 : ∀ q ∈ lw_privs_1, lw_okq q := List.forall_mem_cons.mpr ⟨lw_p0, List.forall_mem_cons.mpr ⟨lw_p1, List.forall_mem_cons.mpr ⟨lw_p2, List.forall_mem_cons.mpr ⟨lw_p3, List.forall_mem_cons.mpr ⟨lw_p4, List.forall_mem_cons.mpr ⟨lw_p5, List.forall_mem_cons.mpr ⟨lw_p6, List.forall_mem_cons.mpr ⟨lw_p7, List.forall_mem_cons.mpr ⟨lw_p8, List.forall_mem_cons.mpr ⟨lw_p9, List.forall_mem_cons.mpr ⟨lw_p10, List.forall_mem_cons.mpr ⟨lw_p11, List.forall_mem_cons.mpr ⟨lw_p12, List.forall_mem_cons.mpr ⟨lw_p13, List.forall_mem_cons.mpr ⟨lw_p14, List.forall_mem_cons.mpr ⟨lw_p15, fun _ h => absurd h List.not_mem_nil⟩⟩⟩⟩⟩⟩⟩⟩⟩⟩⟩⟩⟩⟩⟩⟩
theorem lw_p16 : lw_okq (⟨"OneDoor", "mayEnter", "(II)Z"⟩, 12) := ⟨⟨by decide +kernel, by decide +kernel⟩, List.mem_of_getElem? (i := 18) (by decide +kernel), List.mem_of_getElem? (i := 469) (by decide +kernel), List.mem_of_getElem? (i := 470) (by decide +kernel)⟩
theorem lw_p17 : lw_okq (⟨"OneDoor$Life", "loseOldest", "()V"⟩, 3) := ⟨⟨by decide +kernel, by decide +kernel⟩, List.mem_of_getElem? (i := 114) (by decide +kernel), List.mem_of_getElem? (i := 477) (by decide +kernel), List.mem_of_getElem? (i := 478) (by decide +kernel)⟩
theorem lw_p18 : lw_okq (⟨"OneDoor", "move", "(II)V"⟩, 12) := ⟨⟨by decide +kernel, by decide +kernel⟩, List.mem_of_getElem? (i := 18) (by decide +kernel), List.mem_of_getElem? (i := 485) (by decide +kernel), List.mem_of_getElem? (i := 486) (by decide +kernel)⟩
theorem lw_p19 : lw_okq (⟨"OneDoor", "disturb", "(I)V"⟩, 12) := ⟨⟨by decide +kernel, by decide +kernel⟩, List.mem_of_getElem? (i := 18) (by decide +kernel), List.mem_of_getElem? (i := 489) (by decide +kernel), List.mem_of_getElem? (i := 490) (by decide +kernel)⟩
theorem lw_p20 : lw_okq (⟨"OneDoor$Plan", "dwellersOn", "(I)I"⟩, 7) := ⟨⟨by decide +kernel, by decide +kernel⟩, List.mem_of_getElem? (i := 176) (by decide +kernel), List.mem_of_getElem? (i := 534) (by decide +kernel), List.mem_of_getElem? (i := 535) (by decide +kernel)⟩
theorem lw_p21 : lw_okq (⟨"OneDoor$Plan", "eachWayMeets", "(II)Z"⟩, 7) := ⟨⟨by decide +kernel, by decide +kernel⟩, List.mem_of_getElem? (i := 176) (by decide +kernel), List.mem_of_getElem? (i := 547) (by decide +kernel), List.mem_of_getElem? (i := 548) (by decide +kernel)⟩
theorem lw_p22 : lw_okq (⟨"OneDoor$Plan", "giveFrom", "(II)V"⟩, 7) := ⟨⟨by decide +kernel, by decide +kernel⟩, List.mem_of_getElem? (i := 176) (by decide +kernel), List.mem_of_getElem? (i := 569) (by decide +kernel), List.mem_of_getElem? (i := 570) (by decide +kernel)⟩
theorem lw_p23 : lw_okq (⟨"OneDoor", "hatsFit", "(I)Z"⟩, 12) := ⟨⟨by decide +kernel, by decide +kernel⟩, List.mem_of_getElem? (i := 18) (by decide +kernel), List.mem_of_getElem? (i := 618) (by decide +kernel), List.mem_of_getElem? (i := 619) (by decide +kernel)⟩
theorem lw_p24 : lw_okq (⟨"OneDoor", "hatsFitOut", "(III)Z"⟩, 12) := ⟨⟨by decide +kernel, by decide +kernel⟩, List.mem_of_getElem? (i := 18) (by decide +kernel), List.mem_of_getElem? (i := 623) (by decide +kernel), List.mem_of_getElem? (i := 624) (by decide +kernel)⟩
theorem lw_p25 : lw_okq (⟨"OneDoor", "hatsFitIn", "(III)Z"⟩, 12) := ⟨⟨by decide +kernel, by decide +kernel⟩, List.mem_of_getElem? (i := 18) (by decide +kernel), List.mem_of_getElem? (i := 634) (by decide +kernel), List.mem_of_getElem? (i := 635) (by decide +kernel)⟩
theorem lw_p26 : lw_okq (⟨"OneDoorModel", "plain", "()V"⟩, 23) := ⟨⟨by decide +kernel, by decide +kernel⟩, List.mem_of_getElem? (i := 725) (by decide +kernel), List.mem_of_getElem? (i := 731) (by decide +kernel), List.mem_of_getElem? (i := 732) (by decide +kernel)⟩
theorem lw_p27 : lw_okq (⟨"OneDoorModel", "takeDraft", "()V"⟩, 23) := ⟨⟨by decide +kernel, by decide +kernel⟩, List.mem_of_getElem? (i := 725) (by decide +kernel), List.mem_of_getElem? (i := 735) (by decide +kernel), List.mem_of_getElem? (i := 736) (by decide +kernel)⟩
theorem lw_p28 : lw_okq (⟨"OneDoorModel", "step", "()V"⟩, 23) := ⟨⟨by decide +kernel, by decide +kernel⟩, List.mem_of_getElem? (i := 725) (by decide +kernel), List.mem_of_getElem? (i := 825) (by decide +kernel), List.mem_of_getElem? (i := 826) (by decide +kernel)⟩
theorem lw_p29 : lw_okq (⟨"OneDoorModel", "here", "()I"⟩, 23) := ⟨⟨by decide +kernel, by decide +kernel⟩, List.mem_of_getElem? (i := 725) (by decide +kernel), List.mem_of_getElem? (i := 829) (by decide +kernel), List.mem_of_getElem? (i := 830) (by decide +kernel)⟩
theorem lw_p30 : lw_okq (⟨"OneDoorModel", "mayBe", "(I)Z"⟩, 23) := ⟨⟨by decide +kernel, by decide +kernel⟩, List.mem_of_getElem? (i := 725) (by decide +kernel), List.mem_of_getElem? (i := 833) (by decide +kernel), List.mem_of_getElem? (i := 834) (by decide +kernel)⟩
theorem lw_p31 : lw_okq (⟨"OneDoorModel", "due", "(Z)I"⟩, 23) := ⟨⟨by decide +kernel, by decide +kernel⟩, List.mem_of_getElem? (i := 725) (by decide +kernel), List.mem_of_getElem? (i := 837) (by decide +kernel), List.mem_of_getElem? (i := 838) (by decide +kernel)⟩
def lw_privs_2 : List (MethodName × Nat) := [(⟨"OneDoor", "mayEnter", "(II)Z"⟩, 12), (⟨"OneDoor$Life", "loseOldest", "()V"⟩, 3), (⟨"OneDoor", "move", "(II)V"⟩, 12), (⟨"OneDoor", "disturb", "(I)V"⟩, 12), (⟨"OneDoor$Plan", "dwellersOn", "(I)I"⟩, 7), (⟨"OneDoor$Plan", "eachWayMeets", "(II)Z"⟩, 7), (⟨"OneDoor$Plan", "giveFrom", "(II)V"⟩, 7), (⟨"OneDoor", "hatsFit", "(I)Z"⟩, 12), (⟨"OneDoor", "hatsFitOut", "(III)Z"⟩, 12), (⟨"OneDoor", "hatsFitIn", "(III)Z"⟩, 12), (⟨"OneDoorModel", "plain", "()V"⟩, 23), (⟨"OneDoorModel", "takeDraft", "()V"⟩, 23), (⟨"OneDoorModel", "step", "()V"⟩, 23), (⟨"OneDoorModel", "here", "()I"⟩, 23), (⟨"OneDoorModel", "mayBe", "(I)Z"⟩, 23), (⟨"OneDoorModel", "due", "(Z)I"⟩, 23)]
theorem lw_r2 : ∀ q ∈ lw_privs_2, lw_okq q := List.forall_mem_cons.mpr ⟨lw_p16, List.forall_mem_cons.mpr ⟨lw_p17, List.forall_mem_cons.mpr ⟨lw_p18, List.forall_mem_cons.mpr ⟨lw_p19, List.forall_mem_cons.mpr ⟨lw_p20, List.forall_mem_cons.mpr ⟨lw_p21, List.forall_mem_cons.mpr ⟨lw_p22, List.forall_mem_cons.mpr ⟨lw_p23, List.forall_mem_cons.mpr ⟨lw_p24, List.forall_mem_cons.mpr ⟨lw_p25, List.forall_mem_cons.mpr ⟨lw_p26, List.forall_mem_cons.mpr ⟨lw_p27, List.forall_mem_cons.mpr ⟨lw_p28, List.forall_mem_cons.mpr ⟨lw_p29, List.forall_mem_cons.mpr ⟨lw_p30, List.forall_mem_cons.mpr ⟨lw_p31, fun _ h => absurd h List.not_mem_nil⟩⟩⟩⟩⟩⟩⟩⟩⟩⟩⟩⟩⟩⟩⟩⟩
theorem lw_p32 : lw_okq (⟨"OneDoorModel", "readRow", "(I)V"⟩, 23) := ⟨⟨by decide +kernel, by decide +kernel⟩, List.mem_of_getElem? (i := 725) (by decide +kernel), List.mem_of_getElem? (i := 841) (by decide +kernel), List.mem_of_getElem? (i := 842) (by decide +kernel)⟩
theorem lw_p33 : lw_okq (⟨"OneDoorModel", "number", "(II)I"⟩, 23) := ⟨⟨by decide +kernel, by decide +kernel⟩, List.mem_of_getElem? (i := 725) (by decide +kernel), List.mem_of_getElem? (i := 845) (by decide +kernel), List.mem_of_getElem? (i := 846) (by decide +kernel)⟩
theorem lw_p34 : lw_okq (⟨"OneDoorModel", "isHouse", "(I)Z"⟩, 23) := ⟨⟨by decide +kernel, by decide +kernel⟩, List.mem_of_getElem? (i := 725) (by decide +kernel), List.mem_of_getElem? (i := 853) (by decide +kernel), List.mem_of_getElem? (i := 854) (by decide +kernel)⟩
theorem lw_p35 : lw_okq (⟨"OneDoorModel", "living", "(I)I"⟩, 23) := ⟨⟨by decide +kernel, by decide +kernel⟩, List.mem_of_getElem? (i := 725) (by decide +kernel), List.mem_of_getElem? (i := 857) (by decide +kernel), List.mem_of_getElem? (i := 858) (by decide +kernel)⟩
theorem lw_p36 : lw_okq (⟨"OneDoorModel", "being", "(I)I"⟩, 23) := ⟨⟨by decide +kernel, by decide +kernel⟩, List.mem_of_getElem? (i := 725) (by decide +kernel), List.mem_of_getElem? (i := 861) (by decide +kernel), List.mem_of_getElem? (i := 862) (by decide +kernel)⟩
theorem lw_p37 : lw_okq (⟨"OneDoorModel", "minutesTo", "(I)I"⟩, 23) := ⟨⟨by decide +kernel, by decide +kernel⟩, List.mem_of_getElem? (i := 725) (by decide +kernel), List.mem_of_getElem? (i := 865) (by decide +kernel), List.mem_of_getElem? (i := 866) (by decide +kernel)⟩
theorem lw_p38 : lw_okq (⟨"OneDoorModel", "wayTo", "(II)I"⟩, 23) := ⟨⟨by decide +kernel, by decide +kernel⟩, List.mem_of_getElem? (i := 725) (by decide +kernel), List.mem_of_getElem? (i := 869) (by decide +kernel), List.mem_of_getElem? (i := 870) (by decide +kernel)⟩
theorem lw_p39 : lw_okq (⟨"OneDoorModel", "doorTo", "(II)I"⟩, 23) := ⟨⟨by decide +kernel, by decide +kernel⟩, List.mem_of_getElem? (i := 725) (by decide +kernel), List.mem_of_getElem? (i := 873) (by decide +kernel), List.mem_of_getElem? (i := 874) (by decide +kernel)⟩
theorem lw_p40 : lw_okq (⟨"OneDoorModel", "minutesOf", "(I)I"⟩, 23) := ⟨⟨by decide +kernel, by decide +kernel⟩, List.mem_of_getElem? (i := 725) (by decide +kernel), List.mem_of_getElem? (i := 880) (by decide +kernel), List.mem_of_getElem? (i := 881) (by decide +kernel)⟩
theorem lw_p41 : lw_okq (⟨"OneDoorModel", "isPerson", "(I)Z"⟩, 23) := ⟨⟨by decide +kernel, by decide +kernel⟩, List.mem_of_getElem? (i := 725) (by decide +kernel), List.mem_of_getElem? (i := 888) (by decide +kernel), List.mem_of_getElem? (i := 889) (by decide +kernel)⟩
theorem lw_p42 : lw_okq (⟨"OneDoorModel", "takeHomes", "()V"⟩, 23) := ⟨⟨by decide +kernel, by decide +kernel⟩, List.mem_of_getElem? (i := 725) (by decide +kernel), List.mem_of_getElem? (i := 892) (by decide +kernel), List.mem_of_getElem? (i := 893) (by decide +kernel)⟩
theorem lw_p43 : lw_okq (⟨"OneDoorModel", "passed", "(II)I"⟩, 23) := ⟨⟨by decide +kernel, by decide +kernel⟩, List.mem_of_getElem? (i := 725) (by decide +kernel), List.mem_of_getElem? (i := 896) (by decide +kernel), List.mem_of_getElem? (i := 897) (by decide +kernel)⟩
theorem lw_p44 : lw_okq (⟨"OneDoorModel", "stepTo", "(II)I"⟩, 23) := ⟨⟨by decide +kernel, by decide +kernel⟩, List.mem_of_getElem? (i := 725) (by decide +kernel), List.mem_of_getElem? (i := 904) (by decide +kernel), List.mem_of_getElem? (i := 905) (by decide +kernel)⟩
theorem lw_p45 : lw_okq (⟨"OneDoorModel", "know", "()V"⟩, 23) := ⟨⟨by decide +kernel, by decide +kernel⟩, List.mem_of_getElem? (i := 725) (by decide +kernel), List.mem_of_getElem? (i := 908) (by decide +kernel), List.mem_of_getElem? (i := 909) (by decide +kernel)⟩
theorem lw_p46 : lw_okq (⟨"OneDoorModel", "passings", "(I)I"⟩, 23) := ⟨⟨by decide +kernel, by decide +kernel⟩, List.mem_of_getElem? (i := 725) (by decide +kernel), List.mem_of_getElem? (i := 939) (by decide +kernel), List.mem_of_getElem? (i := 940) (by decide +kernel)⟩
theorem lw_p47 : lw_okq (⟨"OneDoorModel", "hurt", "()I"⟩, 23) := ⟨⟨by decide +kernel, by decide +kernel⟩, List.mem_of_getElem? (i := 725) (by decide +kernel), List.mem_of_getElem? (i := 943) (by decide +kernel), List.mem_of_getElem? (i := 944) (by decide +kernel)⟩
def lw_privs_3 : List (MethodName × Nat) := [(⟨"OneDoorModel", "readRow", "(I)V"⟩, 23), (⟨"OneDoorModel", "number", "(II)I"⟩, 23), (⟨"OneDoorModel", "isHouse", "(I)Z"⟩, 23), (⟨"OneDoorModel", "living", "(I)I"⟩, 23), (⟨"OneDoorModel", "being", "(I)I"⟩, 23), (⟨"OneDoorModel", "minutesTo", "(I)I"⟩, 23), (⟨"OneDoorModel", "wayTo", "(II)I"⟩, 23), (⟨"OneDoorModel", "doorTo", "(II)I"⟩, 23), (⟨"OneDoorModel", "minutesOf", "(I)I"⟩, 23), (⟨"OneDoorModel", "isPerson", "(I)Z"⟩, 23), (⟨"OneDoorModel", "takeHomes", "()V"⟩, 23), (⟨"OneDoorModel", "passed", "(II)I"⟩, 23), (⟨"OneDoorModel", "stepTo", "(II)I"⟩, 23), (⟨"OneDoorModel", "know", "()V"⟩, 23), (⟨"OneDoorModel", "passings", "(I)I"⟩, 23), (⟨"OneDoorModel", "hurt", "()I"⟩, 23)]
theorem lw_r3 : ∀ q ∈ lw_privs_3, lw_okq q := List.forall_mem_cons.mpr ⟨lw_p32, List.forall_mem_cons.mpr ⟨lw_p33, List.forall_mem_cons.mpr ⟨lw_p34, List.forall_mem_cons.mpr ⟨lw_p35, List.forall_mem_cons.mpr ⟨lw_p36, List.forall_mem_cons.mpr ⟨lw_p37, List.forall_mem_cons.mpr ⟨lw_p38, List.forall_mem_cons.mpr ⟨lw_p39, List.forall_mem_cons.mpr ⟨lw_p40, List.forall_mem_cons.mpr ⟨lw_p41, List.forall_mem_cons.mpr ⟨lw_p42, List.forall_mem_cons.mpr ⟨lw_p43, List.forall_mem_cons.mpr ⟨lw_p44, List.forall_mem_cons.mpr ⟨lw_p45, List.forall_mem_cons.mpr ⟨lw_p46, List.forall_mem_cons.mpr ⟨lw_p47, fun _ h => absurd h List.not_mem_nil⟩⟩⟩⟩⟩⟩⟩⟩⟩⟩⟩⟩⟩⟩⟩⟩
theorem lw_p48 : lw_okq (⟨"OneDoorModel", "stopped", "(I)I"⟩, 23) := ⟨⟨by decide +kernel, by decide +kernel⟩, List.mem_of_getElem? (i := 725) (by decide +kernel), List.mem_of_getElem? (i := 947) (by decide +kernel), List.mem_of_getElem? (i := 948) (by decide +kernel)⟩
theorem lw_p49 : lw_okq (⟨"OneDoorModel", "isBarred", "(III)Z"⟩, 23) := ⟨⟨by decide +kernel, by decide +kernel⟩, List.mem_of_getElem? (i := 725) (by decide +kernel), List.mem_of_getElem? (i := 951) (by decide +kernel), List.mem_of_getElem? (i := 952) (by decide +kernel)⟩
theorem lw_p50 : lw_okq (⟨"OneDoorModel", "toOpen", "()I"⟩, 23) := ⟨⟨by decide +kernel, by decide +kernel⟩, List.mem_of_getElem? (i := 725) (by decide +kernel), List.mem_of_getElem? (i := 955) (by decide +kernel), List.mem_of_getElem? (i := 956) (by decide +kernel)⟩
theorem lw_p51 : lw_okq (⟨"OneDoorModel", "isAhead", "()Z"⟩, 23) := ⟨⟨by decide +kernel, by decide +kernel⟩, List.mem_of_getElem? (i := 725) (by decide +kernel), List.mem_of_getElem? (i := 963) (by decide +kernel), List.mem_of_getElem? (i := 964) (by decide +kernel)⟩
theorem lw_p52 : lw_okq (⟨"OneDoorModel", "isSo", "(IIZ)Z"⟩, 23) := ⟨⟨by decide +kernel, by decide +kernel⟩, List.mem_of_getElem? (i := 725) (by decide +kernel), List.mem_of_getElem? (i := 994) (by decide +kernel), List.mem_of_getElem? (i := 995) (by decide +kernel)⟩
theorem lw_p53 : lw_okq (⟨"OneDoorModel", "outAt", "(III)I"⟩, 23) := ⟨⟨by decide +kernel, by decide +kernel⟩, List.mem_of_getElem? (i := 725) (by decide +kernel), List.mem_of_getElem? (i := 998) (by decide +kernel), List.mem_of_getElem? (i := 999) (by decide +kernel)⟩
theorem lw_p54 : lw_okq (⟨"OneDoorModel", "inAt", "(III)I"⟩, 23) := ⟨⟨by decide +kernel, by decide +kernel⟩, List.mem_of_getElem? (i := 725) (by decide +kernel), List.mem_of_getElem? (i := 1002) (by decide +kernel), List.mem_of_getElem? (i := 1003) (by decide +kernel)⟩
def lw_privs_4 : List (MethodName × Nat) := [(⟨"OneDoorModel", "stopped", "(I)I"⟩, 23), (⟨"OneDoorModel", "isBarred", "(III)Z"⟩, 23), (⟨"OneDoorModel", "toOpen", "()I"⟩, 23), (⟨"OneDoorModel", "isAhead", "()Z"⟩, 23), (⟨"OneDoorModel", "isSo", "(IIZ)Z"⟩, 23), (⟨"OneDoorModel", "outAt", "(III)I"⟩, 23), (⟨"OneDoorModel", "inAt", "(III)I"⟩, 23)]
theorem lw_r4 : ∀ q ∈ lw_privs_4, lw_okq q := List.forall_mem_cons.mpr ⟨lw_p48, List.forall_mem_cons.mpr ⟨lw_p49, List.forall_mem_cons.mpr ⟨lw_p50, List.forall_mem_cons.mpr ⟨lw_p51, List.forall_mem_cons.mpr ⟨lw_p52, List.forall_mem_cons.mpr ⟨lw_p53, List.forall_mem_cons.mpr ⟨lw_p54, fun _ h => absurd h List.not_mem_nil⟩⟩⟩⟩⟩⟩⟩
def lw_privs : List (MethodName × Nat) := lw_privs_1 ++ (lw_privs_2 ++ (lw_privs_3 ++ (lw_privs_4)))
def lw_tbl : List Cond := k2_sels lw_privs ++ tables_1
theorem lw_privs_ok : ∀ q ∈ lw_privs, lw_okq q := by
  show ∀ q ∈ lw_privs_1 ++ (lw_privs_2 ++ (lw_privs_3 ++ (lw_privs_4))), lw_okq q
  exact List.forall_mem_append.mpr ⟨lw_r1, List.forall_mem_append.mpr ⟨lw_r2, List.forall_mem_append.mpr ⟨lw_r3, lw_r4⟩⟩⟩

/-- the words that every later state keeps -/
def zgt : List Cond := lw_tbl.filter goodWord
theorem zmem {w : Cond} (i : Nat) (h : (lw_tbl[i]?).filter goodWord = some w) : w ∈ zgt := by
  obtain ⟨h1, h2⟩ := Option.filter_eq_some_iff.mp h
  exact List.mem_filter.mpr ⟨List.mem_of_getElem? h1, h2⟩
theorem zsub {ws : List Cond} (ps : List Nat) (h : ws = ps.filterMap (fun i => (lw_tbl[i]?).filter goodWord)) : ∀ w ∈ ws, w ∈ zgt := fun w hw => by
  rw [h] at hw
  obtain ⟨i, -, hi⟩ := List.mem_filterMap.mp hw
  exact zmem i hi
def zT3 : u_T := fun k => match k with
  | 0 => ("OneDoor$Hall", "told", "LOneDoor$Told;", true)
  | 1 => ("OneDoor$Hall", "state", "LOneDoor$Now;", true)
  | _ => ("OneDoor$Hall", "asked", "J", false)
def zT3y : Nat → FieldType := fun k => match k with
  | 0 => .object "OneDoor$Told"
  | 1 => .object "OneDoor$Now"
  | _ => .long
theorem zT3n : ∀ a, a < 3 → ∀ b, b < 3 → a ≠ b → (zT3 a).2.1 ≠ (zT3 b).2.1 := by decide +kernel
theorem zT3p : ∀ k, k < 3 → parseFieldDescriptor (zT3 k).2.2.1 = some (zT3y k) := by decide +kernel
def zT5 : u_T := fun k => match k with
  | 0 => ("OneDoor$Life", "state", "LOneDoor$Now;", true)
  | 1 => ("OneDoor$Life", "before", "[LOneDoor$Now;", true)
  | _ => ("OneDoor$Life", "known", "I", false)
def zT5y : Nat → FieldType := fun k => match k with
  | 0 => .object "OneDoor$Now"
  | 1 => .array (.object "OneDoor$Now")
  | _ => .int
theorem zT5n : ∀ a, a < 3 → ∀ b, b < 3 → a ≠ b → (zT5 a).2.1 ≠ (zT5 b).2.1 := by decide +kernel
theorem zT5p : ∀ k, k < 3 → parseFieldDescriptor (zT5 k).2.2.1 = some (zT5y k) := by decide +kernel
def zT6 : u_T := fun k => match k with
  | 0 => ("OneDoor$Now", "place", "[I", true)
  | 1 => ("OneDoor$Now", "home", "[I", true)
  | 2 => ("OneDoor$Now", "patience", "[I", true)
  | 3 => ("OneDoor$Now", "minute", "I", false)
  | 4 => ("OneDoor$Now", "offended", "I", false)
  | 5 => ("OneDoor$Now", "shut", "I", false)
  | _ => ("OneDoor$Now", "other", "I", false)
def zT6y : Nat → FieldType := fun k => match k with
  | 0 => .array (.int)
  | 1 => .array (.int)
  | 2 => .array (.int)
  | 3 => .int
  | 4 => .int
  | 5 => .int
  | _ => .int
theorem zT6n : ∀ a, a < 7 → ∀ b, b < 7 → a ≠ b → (zT6 a).2.1 ≠ (zT6 b).2.1 := by decide +kernel
theorem zT6p : ∀ k, k < 7 → parseFieldDescriptor (zT6 k).2.2.1 = some (zT6y k) := by decide +kernel
def zT8 : u_T := fun k => match k with
  | 0 => ("OneDoor$Plan", "told", "LOneDoor$Told;", true)
  | 1 => ("OneDoor$Plan", "state", "LOneDoor$Now;", true)
  | 2 => ("OneDoor$Plan", "cost", "[I", true)
  | 3 => ("OneDoor$Plan", "left", "[I", true)
  | 4 => ("OneDoor$Plan", "given", "[I", true)
  | 5 => ("OneDoor$Plan", "best", "[I", true)
  | _ => ("OneDoor$Plan", "fewest", "I", false)
def zT8y : Nat → FieldType := fun k => match k with
  | 0 => .object "OneDoor$Told"
  | 1 => .object "OneDoor$Now"
  | 2 => .array (.int)
  | 3 => .array (.int)
  | 4 => .array (.int)
  | 5 => .array (.int)
  | _ => .int
theorem zT8n : ∀ a, a < 7 → ∀ b, b < 7 → a ≠ b → (zT8 a).2.1 ≠ (zT8 b).2.1 := by decide +kernel
theorem zT8p : ∀ k, k < 7 → parseFieldDescriptor (zT8 k).2.2.1 = some (zT8y k) := by decide +kernel
def zT9 : u_T := fun k => match k with
  | 0 => ("OneDoor$Reader", "text", "[I", true)
  | 1 => ("OneDoor$Reader", "size", "I", false)
  | 2 => ("OneDoor$Reader", "at", "I", false)
  | 3 => ("OneDoor$Reader", "tokenAt", "I", false)
  | 4 => ("OneDoor$Reader", "token", "I", false)
  | 5 => ("OneDoor$Reader", "value", "I", false)
  | 6 => ("OneDoor$Reader", "taxTold", "Z", false)
  | _ => ("OneDoor$Reader", "warmTold", "Z", false)
def zT9y : Nat → FieldType := fun k => match k with
  | 0 => .array (.int)
  | 1 => .int
  | 2 => .int
  | 3 => .int
  | 4 => .int
  | 5 => .int
  | 6 => .boolean
  | _ => .boolean
theorem zT9n : ∀ a, a < 8 → ∀ b, b < 8 → a ≠ b → (zT9 a).2.1 ≠ (zT9 b).2.1 := by decide +kernel
theorem zT9p : ∀ k, k < 8 → parseFieldDescriptor (zT9 k).2.2.1 = some (zT9y k) := by decide +kernel
def zT10 : u_T := fun k => match k with
  | 0 => ("OneDoor$Told", "hall", "[I", true)
  | 1 => ("OneDoor$Told", "home", "[I", true)
  | 2 => ("OneDoor$Told", "errands", "[I", true)
  | 3 => ("OneDoor$Told", "patience", "[I", true)
  | 4 => ("OneDoor$Told", "houses", "I", false)
  | 5 => ("OneDoor$Told", "people", "I", false)
  | 6 => ("OneDoor$Told", "tax", "I", false)
  | _ => ("OneDoor$Told", "warm", "I", false)
def zT10y : Nat → FieldType := fun k => match k with
  | 0 => .array (.int)
  | 1 => .array (.int)
  | 2 => .array (.int)
  | 3 => .array (.int)
  | 4 => .int
  | 5 => .int
  | 6 => .int
  | _ => .int
theorem zT10n : ∀ a, a < 8 → ∀ b, b < 8 → a ≠ b → (zT10 a).2.1 ≠ (zT10 b).2.1 := by decide +kernel
theorem zT10p : ∀ k, k < 8 → parseFieldDescriptor (zT10 k).2.2.1 = some (zT10y k) := by decide +kernel
def zT11 : u_T := fun k => match k with
  | 0 => ("OneDoor", "reader", "LOneDoor$Reader;", true)
  | 1 => ("OneDoor", "draft", "LOneDoor$Told;", true)
  | 2 => ("OneDoor", "told", "LOneDoor$Told;", true)
  | 3 => ("OneDoor", "life", "LOneDoor$Life;", true)
  | 4 => ("OneDoor", "state", "LOneDoor$Now;", true)
  | 5 => ("OneDoor", "images", "[LOneDoor$Life;", true)
  | 6 => ("OneDoor", "kept", "[Z", true)
  | 7 => ("OneDoor", "plan", "LOneDoor$Plan;", true)
  | 8 => ("OneDoor", "hatHouse", "[I", true)
  | 9 => ("OneDoor", "hatMinute", "[I", true)
  | 10 => ("OneDoor", "hatsSeen", "I", false)
  | _ => ("OneDoor", "kinds", "[LOneDoor$Hall;", true)
def zT11y : Nat → FieldType := fun k => match k with
  | 0 => .object "OneDoor$Reader"
  | 1 => .object "OneDoor$Told"
  | 2 => .object "OneDoor$Told"
  | 3 => .object "OneDoor$Life"
  | 4 => .object "OneDoor$Now"
  | 5 => .array (.object "OneDoor$Life")
  | 6 => .array (.boolean)
  | 7 => .object "OneDoor$Plan"
  | 8 => .array (.int)
  | 9 => .array (.int)
  | 10 => .int
  | _ => .array (.object "OneDoor$Hall")
theorem zT11n : ∀ a, a < 12 → ∀ b, b < 12 → a ≠ b → (zT11 a).2.1 ≠ (zT11 b).2.1 := by decide +kernel
theorem zT11p : ∀ k, k < 12 → parseFieldDescriptor (zT11 k).2.2.1 = some (zT11y k) := by decide +kernel
def zT12 : u_T := fun k => match k with
  | 0 => ("OneDoorModel", "trace", "J", false)
  | 1 => ("OneDoorModel", "text", "[B", true)
  | 2 => ("OneDoorModel", "typed", "I", false)
  | 3 => ("OneDoorModel", "houses", "[I", true)
  | 4 => ("OneDoorModel", "hall", "[I", true)
  | 5 => ("OneDoorModel", "people", "[I", true)
  | 6 => ("OneDoorModel", "draftHome", "[I", true)
  | 7 => ("OneDoorModel", "errands", "[I", true)
  | 8 => ("OneDoorModel", "patience", "[I", true)
  | 9 => ("OneDoorModel", "law", "[I", true)
  | 10 => ("OneDoorModel", "lawsTold", "I", false)
  | 11 => ("OneDoorModel", "at", "I", false)
  | 12 => ("OneDoorModel", "start", "I", false)
  | 13 => ("OneDoorModel", "sort", "I", false)
  | 14 => ("OneDoorModel", "value", "I", false)
  | 15 => ("OneDoorModel", "fault", "I", false)
  | 16 => ("OneDoorModel", "now", "[I", true)
  | 17 => ("OneDoorModel", "isKept", "[Z", true)
  | 18 => ("OneDoorModel", "tried", "[I", true)
  | 19 => ("OneDoorModel", "best", "[I", true)
  | 20 => ("OneDoorModel", "hatHouse", "[I", true)
  | 21 => ("OneDoorModel", "hatMinute", "[I", true)
  | _ => ("OneDoorModel", "hats", "I", false)
def zT12y : Nat → FieldType := fun k => match k with
  | 0 => .long
  | 1 => .array (.byte)
  | 2 => .int
  | 3 => .array (.int)
  | 4 => .array (.int)
  | 5 => .array (.int)
  | 6 => .array (.int)
  | 7 => .array (.int)
  | 8 => .array (.int)
  | 9 => .array (.int)
  | 10 => .int
  | 11 => .int
  | 12 => .int
  | 13 => .int
  | 14 => .int
  | 15 => .int
  | 16 => .array (.int)
  | 17 => .array (.boolean)
  | 18 => .array (.int)
  | 19 => .array (.int)
  | 20 => .array (.int)
  | 21 => .array (.int)
  | _ => .int
theorem zT12n : ∀ a, a < 23 → ∀ b, b < 23 → a ≠ b → (zT12 a).2.1 ≠ (zT12 b).2.1 := by decide +kernel
theorem zT12p : ∀ k, k < 23 → parseFieldDescriptor (zT12 k).2.2.1 = some (zT12y k) := by decide +kernel
def zCl : List vw_C := [("OneDoor$Attic", zT3, 3), ("OneDoor$Bath", zT3, 3), ("OneDoor$Curtain", zT3, 3), ("OneDoor$Hall", zT3, 3), ("OneDoor$Kitchen", zT3, 3), ("OneDoor$Life", zT5, 3), ("OneDoor$Now", zT6, 7), ("OneDoor$Piano", zT3, 3), ("OneDoor$Plan", zT8, 7), ("OneDoor$Reader", zT9, 8), ("OneDoor$Told", zT10, 8), ("OneDoor", zT11, 12), ("OneDoorModel", zT12, 23)]
theorem zin0 : ∀ w ∈ u_ws "OneDoor$Attic" zT3 3, w ∈ zgt := zsub [343, 344, 345] (by decide +kernel)
theorem zin1 : ∀ w ∈ u_ws "OneDoor$Bath" zT3 3, w ∈ zgt := zsub [313, 314, 315] (by decide +kernel)
theorem zin2 : ∀ w ∈ u_ws "OneDoor$Curtain" zT3 3, w ∈ zgt := zsub [333, 334, 335] (by decide +kernel)
theorem zin3 : ∀ w ∈ u_ws "OneDoor$Hall" zT3 3, w ∈ zgt := zsub [290, 292, 294] (by decide +kernel)
theorem zin4 : ∀ w ∈ u_ws "OneDoor$Kitchen" zT3 3, w ∈ zgt := zsub [303, 304, 305] (by decide +kernel)
theorem zin5 : ∀ w ∈ u_ws "OneDoor$Life" zT5 3, w ∈ zgt := zsub [222, 224, 226] (by decide +kernel)
theorem zin6 : ∀ w ∈ u_ws "OneDoor$Now" zT6 7, w ∈ zgt := zsub [201, 203, 205, 207, 209, 211, 213] (by decide +kernel)
theorem zin7 : ∀ w ∈ u_ws "OneDoor$Piano" zT3 3, w ∈ zgt := zsub [323, 324, 325] (by decide +kernel)
theorem zin8 : ∀ w ∈ u_ws "OneDoor$Plan" zT8 7, w ∈ zgt := zsub [245, 247, 249, 251, 253, 255, 257] (by decide +kernel)
theorem zin9 : ∀ w ∈ u_ws "OneDoor$Reader" zT9 8, w ∈ zgt := zsub [96, 98, 100, 102, 104, 106, 108, 110] (by decide +kernel)
theorem zin10 : ∀ w ∈ u_ws "OneDoor$Told" zT10 8, w ∈ zgt := zsub [151, 153, 155, 157, 159, 161, 163, 165] (by decide +kernel)
theorem zin11 : ∀ w ∈ u_ws "OneDoor" zT11 12, w ∈ zgt := zsub [359, 361, 363, 365, 367, 369, 371, 373, 375, 377, 379, 381] (by decide +kernel)
theorem zin12 : ∀ w ∈ u_ws "OneDoorModel" zT12 23, w ∈ zgt := zsub [816, 818, 820, 822, 824, 826, 828, 830, 832, 834, 836, 838, 840, 842, 844, 846, 848, 850, 852, 854, 856, 858, 860] (by decide +kernel)
/-- what the tables say of a class of the list -/
def zClOk (q : vw_C) : Prop := (∀ w ∈ u_ws q.1 q.2.1 q.2.2, w ∈ zgt) ∧ (∃ ty : Nat → FieldType, ∀ k, k < q.2.2 → parseFieldDescriptor (q.2.1 k).2.2.1 = some (ty k)) ∧ (∀ a, a < q.2.2 → ∀ b, b < q.2.2 → a ≠ b → (q.2.1 a).2.1 ≠ (q.2.1 b).2.1) ∧ Cond.instantiable q.1 q.2.2 ∈ zgt ∧ Cond.initialized q.1 ∈ zgt
theorem zcl0 : zClOk ("OneDoor$Attic", zT3, 3) := ⟨zin0, ⟨zT3y, zT3p⟩, zT3n, zmem 338 (by decide +kernel), zmem 67 (by decide +kernel)⟩
theorem zcl1 : zClOk ("OneDoor$Bath", zT3, 3) := ⟨zin1, ⟨zT3y, zT3p⟩, zT3n, zmem 308 (by decide +kernel), zmem 64 (by decide +kernel)⟩
theorem zcl2 : zClOk ("OneDoor$Curtain", zT3, 3) := ⟨zin2, ⟨zT3y, zT3p⟩, zT3n, zmem 328 (by decide +kernel), zmem 66 (by decide +kernel)⟩
theorem zcl3 : zClOk ("OneDoor$Hall", zT3, 3) := ⟨zin3, ⟨zT3y, zT3p⟩, zT3n, zmem 263 (by decide +kernel), zmem 62 (by decide +kernel)⟩
theorem zcl4 : zClOk ("OneDoor$Kitchen", zT3, 3) := ⟨zin4, ⟨zT3y, zT3p⟩, zT3n, zmem 298 (by decide +kernel), zmem 63 (by decide +kernel)⟩
theorem zcl5 : zClOk ("OneDoor$Life", zT5, 3) := ⟨zin5, ⟨zT5y, zT5p⟩, zT5n, zmem 169 (by decide +kernel), zmem 59 (by decide +kernel)⟩
theorem zcl6 : zClOk ("OneDoor$Now", zT6, 7) := ⟨zin6, ⟨zT6y, zT6p⟩, zT6n, zmem 175 (by decide +kernel), zmem 60 (by decide +kernel)⟩
theorem zcl7 : zClOk ("OneDoor$Piano", zT3, 3) := ⟨zin7, ⟨zT3y, zT3p⟩, zT3n, zmem 318 (by decide +kernel), zmem 65 (by decide +kernel)⟩
theorem zcl8 : zClOk ("OneDoor$Plan", zT8, 7) := ⟨zin8, ⟨zT8y, zT8p⟩, zT8n, zmem 231 (by decide +kernel), zmem 61 (by decide +kernel)⟩
theorem zcl9 : zClOk ("OneDoor$Reader", zT9, 8) := ⟨zin9, ⟨zT9y, zT9p⟩, zT9n, zmem 81 (by decide +kernel), zmem 57 (by decide +kernel)⟩
theorem zcl10 : zClOk ("OneDoor$Told", zT10, 8) := ⟨zin10, ⟨zT10y, zT10p⟩, zT10n, zmem 115 (by decide +kernel), zmem 58 (by decide +kernel)⟩
theorem zcl11 : zClOk ("OneDoor", zT11, 12) := ⟨zin11, ⟨zT11y, zT11p⟩, zT11n, zmem 73 (by decide +kernel), zmem 56 (by decide +kernel)⟩
theorem zcl12 : zClOk ("OneDoorModel", zT12, 23) := ⟨zin12, ⟨zT12y, zT12p⟩, zT12n, zmem 780 (by decide +kernel), zmem 68 (by decide +kernel)⟩
theorem zcls {ci : Nat} {q : vw_C} (h : zCl[ci]? = some q) : zClOk q := by
  match ci, h with
  | 0, h => cases h; exact zcl0
  | 1, h => cases h; exact zcl1
  | 2, h => cases h; exact zcl2
  | 3, h => cases h; exact zcl3
  | 4, h => cases h; exact zcl4
  | 5, h => cases h; exact zcl5
  | 6, h => cases h; exact zcl6
  | 7, h => cases h; exact zcl7
  | 8, h => cases h; exact zcl8
  | 9, h => cases h; exact zcl9
  | 10, h => cases h; exact zcl10
  | 11, h => cases h; exact zcl11
  | 12, h => cases h; exact zcl12
  | n + 13, h => simp [zCl] at h
/-- the words that need a way of their own into a later state -/
def zBd (U : State) : Prop := va_Nw (.methodLinkNest "OneDoor" 9 ⟨"OneDoor$Reader", "<init>", "()V"⟩ "OneDoor") U ∧ va_Nw (.methodLinkNest "OneDoor" 18 ⟨"OneDoor$Told", "<init>", "()V"⟩ "OneDoor") U ∧ va_Nw (.methodLinkNest "OneDoor$Life" 11 ⟨"OneDoor$Now", "<init>", "()V"⟩ "OneDoor") U ∧ va_AO "OneDoor$Now" U ∧ va_AO "OneDoor$Life" U ∧ va_AO "OneDoor$Hall" U ∧ va_Nw (.castable "OneDoor$Kitchen" "OneDoor$Hall") U ∧ va_Nw (.castable "OneDoor$Bath" "OneDoor$Hall") U ∧ va_Nw (.castable "OneDoor$Piano" "OneDoor$Hall") U ∧ va_Nw (.castable "OneDoor$Curtain" "OneDoor$Hall") U ∧ va_Nw (.castable "OneDoor$Attic" "OneDoor$Hall") U
theorem zBd_warm {s U : State} (hW : s.WarmedH U.vm) (h : zBd s) : zBd U := by
  obtain ⟨h0, h1, h2, h3, h4, h5, h6, h7, h8, h9, h10⟩ := h
  exact ⟨va_Nw.warmM hW h0, va_Nw.warmM hW h1, va_Nw.warmM hW h2, va_AO.moved hW.alike h3, va_AO.moved hW.alike h4, va_AO.moved hW.alike h5, va_Nw.warmC hW h6, va_Nw.warmC hW h7, va_Nw.warmC hW h8, va_Nw.warmC hW h9, va_Nw.warmC hW h10⟩
theorem zBd_same {s U : State} (hW : s.vm = U.vm) (h : zBd s) : zBd U := by
  obtain ⟨h0, h1, h2, h3, h4, h5, h6, h7, h8, h9, h10⟩ := h
  exact ⟨va_Nw.same rfl hW h0, va_Nw.same rfl hW h1, va_Nw.same rfl hW h2, va_AO.moved (by rw [hW]; exact Vm.Alike.refl _) h3, va_AO.moved (by rw [hW]; exact Vm.Alike.refl _) h4, va_AO.moved (by rw [hW]; exact Vm.Alike.refl _) h5, va_Nw.same rfl hW h6, va_Nw.same rfl hW h7, va_Nw.same rfl hW h8, va_Nw.same rfl hW h9, va_Nw.same rfl hW h10⟩
theorem zBd_of {args : Array Value} {s : State} (h : ∀ w ∈ lw_tbl, w.before args s = true) : zBd s := ⟨va_Nw.of rfl (h _ (List.mem_of_getElem? (i := 82) (by decide +kernel))), va_Nw.of rfl (h _ (List.mem_of_getElem? (i := 116) (by decide +kernel))), va_Nw.of rfl (h _ (List.mem_of_getElem? (i := 176) (by decide +kernel))), va_AO.of (h _ (List.mem_of_getElem? (i := 216) (by decide +kernel))), va_AO.of (h _ (List.mem_of_getElem? (i := 229) (by decide +kernel))), va_AO.of (h _ (List.mem_of_getElem? (i := 262) (by decide +kernel))), va_Nw.of rfl (h _ (List.mem_of_getElem? (i := 1100) (by decide +kernel))), va_Nw.of rfl (h _ (List.mem_of_getElem? (i := 1101) (by decide +kernel))), va_Nw.of rfl (h _ (List.mem_of_getElem? (i := 1102) (by decide +kernel))), va_Nw.of rfl (h _ (List.mem_of_getElem? (i := 1103) (by decide +kernel))), va_Nw.of rfl (h _ (List.mem_of_getElem? (i := 1104) (by decide +kernel)))⟩
end
section
/-! A SMALL MACHINE over the kit's: heap cells by relative numbers (0: the script, k + 1: the k-th cell made since the law began), instructions as functions. -/
abbrev zAC : Type := (Nat × Nat × ((Nat → Int32) ⊕ (Nat → Option Nat))) ⊕ (Nat × List Value)
abbrev zHp : Type := Nat → zAC
/-- locals, operand stack, heap, cells made, their slots -/
abbrev zC : Type := List Value × List Value × zHp × Nat × Nat
/-- an end: what is returned, heap, cells, slots -/
abbrev zF : Type := Option Value × zHp × Nat × Nat
abbrev zM : Type := MethodName × ByteArray × Nat × Option FieldType
/-- what an instruction does: goes on; branches (whether, where); returns; calls -/
abbrev zR : Type := zC ⊕ (Bool × Nat × zC) ⊕ zF ⊕ (zM × List Value × zC)
abbrev zI : Type := zC → Option zR
def zAd (base b : Nat) : Nat → Nat
  | 0 => b
  | k + 1 => base + k
def zV (base b : Nat) : Value → Value
  | .ref k => .ref (zAd base b k)
  | v => v
def zA (base b : Nat) : ((Nat → Int32) ⊕ (Nat → Option Nat)) → ((Nat → Int32) ⊕ (Nat → Int64) ⊕ (Nat → UInt32) ⊕ (Nat → UInt64) ⊕ (Nat → Option Nat))
  | .inl f => .inl f
  | .inr f => .inr (.inr (.inr (.inr (fun j => (f j).map (zAd base b)))))
def zE (aC : Nat → ClassId) (base b : Nat) : zAC → va_E
  | .inl a => .inl (aC a.1, a.2.1, zA base b a.2.2)
  | .inr o => .inr (o.1, o.2.map (zV base b))
def zW (aC : Nat → ClassId) (base b : Nat) (M : zHp) (N : Nat) : va_W := (List.range N).map fun k => (base + k, zE aC base b (M (k + 1)))
def zTys (aC : Nat → ClassId) : List (ClassId × FieldType) := [(aC 0, .int), (aC 1, .byte), (aC 2, .boolean), (aC 3, .object "OneDoor$Now"), (aC 4, .object "OneDoor$Life"), (aC 5, .object "OneDoor$Hall")]
/-- a cell that is not there -/
def zvoid : zAC := .inl (9, 0, .inl fun _ => 0)
def zWd (D : va_G) (aC : Nat → ClassId) (base b L : Nat) (xs : Nat → Int32) (M : zHp) (N : Nat) (s : State) (H : Heap) (locs : List Loc) : Prop :=
  va_P D zCl (zW aC base b M N) H ∧ va_S (fun q => base ≤ q) s.heap H locs ∧ M 0 = .inl (0, L, .inl xs) ∧ ∀ k, N < k → M k = zvoid
/-- the locals: a '.retAddr 0' is a place not set, '.retAddr 1' the second one of a long -/
def zL (base b nL : Nat) (ls : List Value) (lsA : Array Slot) : Prop :=
  ls.length = nL ∧ lsA.size = nL ∧ lv_wf lsA ∧ (∀ (i : Nat) (v : Value), ls[i]? = some v → (∀ r, v ≠ Value.retAddr r) → lsA[i]? = some (Slot.val (zV base b v))) ∧ (∀ (i : Nat) (x : Int64), ls[i]? = some (Value.long x) → ls[i + 1]? = some (Value.retAddr 1)) ∧ ∀ (i : Nat) (x : UInt64), ls[i]? ≠ some (Value.double x)
def zPc (D : va_G) (aC : Nat → ClassId) (base b L : Nat) (xs : Nat → Int32) (as : List Value) (M : zHp) (N : Nat) : Array Value → State → Prop := fun v U =>
  v = (as.map (zV base b)).toArray ∧ U.heap.size = base + N ∧ va_P D zCl (zW aC base b M N) U.heap ∧ M 0 = .inl (0, L, .inl xs) ∧ (∀ k, N < k → M k = zvoid) ∧ va_K D zCl (zTys aC) U ∧ va_X b L xs U U.heap ∧ b < base ∧ zBd U
def zQ (D : va_G) (aC : Nat → ClassId) (base b L : Nat) (xs : Nat → Int32) (f : zF) : Array Value → State → Outcome → State → Prop := fun _ st oc t =>
  oc = .returned (f.1.map (zV base b)) ∧ va_P D zCl (zW aC base b f.2.1 f.2.2.1) t.heap ∧ f.2.1 0 = .inl (0, L, .inl xs) ∧ (∀ k, f.2.2.1 < k → f.2.1 k = zvoid) ∧ va_F (fun q => base ≤ q) st t
def zwd (md : zM) : List Cond := .code md.1 md.2.1 md.2.2.1 md.2.2.2 :: zgt
def zRoom (F mc ms : Nat) : Room := { frames := F, cells := mc, slots := ms, locals := 60 * F }
/-- method md, called with these on this heap, ends so (level d: frames that it may need) -/
def zRuns (d : Nat) (md : zM) (as : List Value) (M : zHp) (N S : Nat) (f : zF) : Prop :=
  N ≤ f.2.2.1 ∧ S ≤ f.2.2.2 ∧ ∀ (l : Launch) (D : va_G) (aC : Nat → ClassId) (base b L : Nat) (xs : Nat → Int32) (F : Nat), d < F →
    Met l md.1 (zwd md) (zRoom F (f.2.2.1 - N) (f.2.2.2 - S)) (zPc D aC base b L xs as M N) (zQ D aC base b L xs f) (f.2.2.1 - N) (f.2.2.2 - S) (fun q => base ≤ q)
/-- what holds throughout a method's body -/
def zX (d : Nat) (md : zM) (f : zF) (p : Program) (R : Room) (s : State) (m : MethodId) (args : Array Value) (meth : Method) (c : Code) (D : va_G) (aC : Nat → ClassId) (base b L : Nat) (xs : Nat → Int32) (n0 s0 F : Nat) : Prop :=
  p.tables.exec = Jvm.exec ∧ c.code = md.2.1 ∧ c.maxLocals = md.2.2.1 ∧ s.vm.findClass md.1.cls = some m.cls ∧ (∀ w ∈ zgt, w.before args s = true) ∧ meth.locks = false ∧ meth.sig.returnType = md.2.2.2 ∧ (md.1.name = "<init>" → meth.name = "<init>") ∧
  va_K D zCl (zTys aC) s ∧ va_X b L xs s s.heap ∧ b < base ∧ s.heap.size = base + n0 ∧ f.2.2.1 - n0 ≤ R.cells ∧ f.2.2.2 - s0 ≤ R.slots ∧ F ≤ R.frames ∧ 60 * F ≤ R.locals ∧ d < F ∧ zBd s
/-- from this place of md's code with this configuration it ends so -/
def zGo (d : Nat) (md : zM) (pc : Nat) (k : zC) (f : zF) : Prop :=
  k.2.2.2.1 ≤ f.2.2.1 ∧ k.2.2.2.2 ≤ f.2.2.2 ∧ ∀ (p : Program) (l : Launch) (e : Env) (R : Room) (s : State) (m : MethodId) (args : Array Value) (below : List Frame) (meth : Method) (c : Code) (D : va_G) (aC : Nat → ClassId) (base b L : Nat) (xs : Nat → Int32) (n0 s0 F : Nat),
    zX d md f p R s m args meth c D aC base b L xs n0 s0 F → n0 ≤ k.2.2.2.1 → s0 ≤ k.2.2.2.2 → ∀ (H : Heap) (locs : List Loc) (lsA : Array Slot), zWd D aC base b L xs k.2.2.1 k.2.2.2.1 s H locs → zL base b md.2.2.1 k.1 lsA →
      W p l e R s m args below meth c H locs (k.2.2.2.1 - n0) (k.2.2.2.2 - s0) (MQ below (zQ D aC base b L xs f) args s (f.2.2.1 - n0) (f.2.2.2 - s0) (fun q => base ≤ q)) (F0 m pc lsA (k.2.1.map (zV base b)))
/-- what is behind an instruction -/
def zT (d : Nat) (md : zM) (f : zF) (pc : Nat) : zR → Prop
  | .inl k => zGo d md pc k f
  | .inr (.inl (t, q, k)) => if t = true then zGo d md q k f else zGo d md pc k f
  | .inr (.inr (.inl g)) => g = f
  | .inr (.inr (.inr (y, as, k))) => ∃ d' g, d = d' + 1 ∧ zRuns d' y as k.2.2.1 k.2.2.2.1 k.2.2.2.2 g ∧ zGo d md pc (k.1, g.1.toList ++ k.2.1, g.2) f
/-- a row of instructions from a configuration on: what is to be shown -/
def zB (d : Nat) (md : zM) (f : zF) : List zI → zC → Prop
  | [], _ => False
  | i :: is, c => match i c with
    | none => False
    | some (.inl k) => zB d md f is k
    | some (.inr (.inl (t, q, k))) => if t = true then zGo d md q k f else zB d md f is k
    | some (.inr (.inr (.inl g))) => g = f
    | some (.inr (.inr (.inr (y, as, k)))) => ∃ d' g, d = d' + 1 ∧ zRuns d' y as k.2.2.1 k.2.2.2.1 k.2.2.2.2 g ∧ zB d md f is (k.1, g.1.toList ++ k.2.1, g.2)
/-- instruction i stands at pc of md, the next one at pc' -/
def zS (md : zM) (pc pc' : Nat) (i : zI) : Prop := ∀ (d : Nat) (f : zF) (c : zC) (r : zR), i c = some r → zT d md f pc' r → zGo d md pc c f
def zOk (md : zM) (pc : Nat) (is : List zI) : Prop := ∀ (d : Nat) (f : zF) (c : zC), zB d md f is c → zGo d md pc c f
theorem zOk_nil (md : zM) (pc : Nat) : zOk md pc [] := fun _ _ _ h => h.elim
theorem zOk_cons {md : zM} {pc pc' : Nat} {i : zI} {is : List zI} (h1 : zS md pc pc' i) (h2 : zOk md pc' is) : zOk md pc (i :: is) := by
  intro d f c h
  unfold zB at h
  cases hr : i c with
  | none => rw [hr] at h; exact h.elim
  | some r =>
    rw [hr] at h
    refine h1 d f c r hr ?_
    match r, h with
    | .inl k, h => exact h2 d f k h
    | .inr (.inl (t, q, k)), h =>
      show if t = true then zGo d md q k f else zGo d md pc' k f
      by_cases ht : t = true
      · rw [if_pos ht]
        have h : if t = true then zGo d md q k f else zB d md f is k := h
        rw [if_pos ht] at h
        exact h
      · rw [if_neg ht]
        have h : if t = true then zGo d md q k f else zB d md f is k := h
        rw [if_neg ht] at h
        exact h2 d f k h
    | .inr (.inr (.inl g)), h => exact h
    | .inr (.inr (.inr (y, as, k))), h =>
      obtain ⟨d', g, e1, e2, e3⟩ := h
      exact ⟨d', g, e1, e2, h2 d f _ e3⟩
-- the world as a list
theorem zW_len (aC : Nat → ClassId) (base b : Nat) (M : zHp) (N : Nat) : (zW aC base b M N).length = N := by simp [zW]
theorem zW_get {aC : Nat → ClassId} {base b : Nat} {M : zHp} {N k : Nat} (h : k < N) : (zW aC base b M N)[k]? = some (base + k, zE aC base b (M (k + 1))) := by
  simp [zW, h]
theorem zW_lt {aC : Nat → ClassId} {base b : Nat} {M : zHp} {N k : Nat} {q : Nat × va_E} (h : (zW aC base b M N)[k]? = some q) : k < N ∧ q = (base + k, zE aC base b (M (k + 1))) := by
  have hk : k < N := by
    have := (List.getElem?_eq_some_iff.mp h).1
    rwa [zW_len] at this
  rw [zW_get hk] at h
  exact ⟨hk, (Option.some.inj h).symm⟩
theorem zW_set {aC : Nat → ClassId} {base b : Nat} {M : zHp} {N k : Nat} (c : zAC) (h : k < N) : (zW aC base b M N).set k (base + k, zE aC base b c) = zW aC base b (va_up M (k + 1) c) N := by
  apply List.ext_getElem?
  intro j
  rw [List.getElem?_set]
  by_cases hj : k = j
  · subst hj
    rw [if_pos rfl, if_pos (by rw [zW_len]; exact h), zW_get h]
    simp [va_up]
  · rw [if_neg hj]
    by_cases h2 : j < N
    · rw [zW_get h2, zW_get h2]
      have : ¬ j + 1 = k + 1 := by omega
      unfold va_up
      rw [if_neg this]
    · rw [List.getElem?_eq_none (by rw [zW_len]; omega), List.getElem?_eq_none (by rw [zW_len]; omega)]
theorem zW_push {aC : Nat → ClassId} {base b : Nat} {M : zHp} {N : Nat} (c : zAC) : zW aC base b M N ++ [(base + N, zE aC base b c)] = zW aC base b (va_up M (N + 1) c) (N + 1) := by
  apply List.ext_getElem?
  intro j
  by_cases h : j < N
  · rw [List.getElem?_append_left (by rw [zW_len]; exact h), zW_get h, zW_get (by omega)]
    have : ¬ j + 1 = N + 1 := by omega
    unfold va_up
    rw [if_neg this]
  · rw [List.getElem?_append_right (by rw [zW_len]; omega), zW_len]
    by_cases h2 : j = N
    · subst h2
      rw [zW_get (by omega)]
      simp [va_up]
    · rw [List.getElem?_eq_none (by simp; omega), List.getElem?_eq_none (by rw [zW_len]; omega)]
theorem zW_D (aC : Nat → ClassId) (base b : Nat) (M : zHp) (N : Nat) : va_D (fun q => base ≤ q) (zW aC base b M N) := by
  refine ⟨fun i j p q hi hj e => ?_, fun k q h => ?_⟩
  · obtain ⟨-, rfl⟩ := zW_lt hi
    obtain ⟨-, rfl⟩ := zW_lt hj
    have e : base + i = base + j := e
    omega
  · obtain ⟨-, rfl⟩ := zW_lt h
    exact Nat.le_add_right base k
/-- the heap's size is known: from below by the cells, from above by what was made -/
theorem zsize {p : Program} {l : Launch} {e : Env} {R : Room} {s : State} {m : MethodId} {args : Array Value} {below : List Frame} {meth : Method} {c : Code} {H : Heap} {locs : List Loc} {slots : Nat} {Q : State → Prop} {g : JFrame} {D : va_G} {aC : Nat → ClassId} {base b L : Nat} {xs : Nat → Int32} {M : zHp} {N n0 : Nat}
    (hs : s.heap.size = base + n0) (hn : n0 ≤ N) (hw : zWd D aC base b L xs M N s H locs) (k : H.size = base + N → W p l e R s m args below meth c H locs (N - n0) slots Q g) : W p l e R s m args below meth c H locs (N - n0) slots Q g := by
  intro T hT X
  refine k ?_ T hT X
  have h1 := X.heapSize
  rw [hT, hs] at h1
  have h2 : base + N ≤ H.size := by
    rcases Nat.eq_zero_or_pos N with h | h
    · have := hw.2.1.1
      omega
    · have h3 := (hw.1 (N - 1) _ (zW_get (by omega))).lt
      have h3 : base + (N - 1) < H.size := h3
      omega
  omega
-- simple instructions
theorem zG_simple {d : Nat} {md : zM} {pc pc' : Nat} {ls st st' : List Value} {M : zHp} {N S : Nat} {f : zF}
    (h : ∀ (p : Program) (l : Launch) (e : Env) (R : Room) (s : State) (m : MethodId) (args : Array Value) (below : List Frame) (meth : Method) (c : Code) (H : Heap) (locs : List Loc) (cells slots : Nat) (Q : State → Prop) (lsA : Array Slot) (base b : Nat), p.tables.exec = Jvm.exec → c.code = md.2.1 → s.vm.findClass md.1.cls = some m.cls → (∀ w ∈ zgt, w.before args s = true) → zL base b md.2.2.1 ls lsA →
      W p l e R s m args below meth c H locs cells slots Q (F0 m pc' lsA (st'.map (zV base b))) → W p l e R s m args below meth c H locs cells slots Q (F0 m pc lsA (st.map (zV base b))))
    (k : zGo d md pc' (ls, st', M, N, S) f) : zGo d md pc (ls, st, M, N, S) f :=
  ⟨k.1, k.2.1, fun p l e R s m args below meth c D aC base b L xs n0 s0 F hx hn hs H locs lsA hw hl => h p l e R s m args below meth c H locs _ _ _ lsA base b hx.1 hx.2.1 hx.2.2.2.1 hx.2.2.2.2.1 hl (k.2.2 p l e R s m args below meth c D aC base b L xs n0 s0 F hx hn hs H locs lsA hw hl)⟩
end
section
/-! instructions that leave the heap alone -/
def i_const (v : Int32) : zI := fun c => some (.inl (c.1, .int v :: c.2.1, c.2.2))
def i_lconst (v : Int64) : zI := fun c => some (.inl (c.1, .long v :: c.2.1, c.2.2))
def i_iload (i : Nat) : zI := fun c => match c.1[i]? with
  | some (.int x) => some (.inl (c.1, .int x :: c.2.1, c.2.2))
  | _ => none
def i_lload (i : Nat) : zI := fun c => match c.1[i]? with
  | some (.long x) => some (.inl (c.1, .long x :: c.2.1, c.2.2))
  | _ => none
def i_aload (i : Nat) : zI := fun c => match c.1[i]? with
  | some (.ref x) => some (.inl (c.1, .ref x :: c.2.1, c.2.2))
  | _ => none
def zset : List Value → Nat → Value → Option (List Value)
  | [], _, _ => none
  | w :: ls, 0, v => if w = .retAddr 1 then none else some (v :: ls)
  | w :: ls, i + 1, v => (zset ls i v).map (fun l => w :: l)
def i_istore (i : Nat) : zI := fun c => match c.2.1 with
  | .int x :: st => (zset c.1 i (.int x)).map fun ls => .inl (ls, st, c.2.2)
  | _ => none
def i_astore (i : Nat) : zI := fun c => match c.2.1 with
  | .ref x :: st => (zset c.1 i (.ref x)).map fun ls => .inl (ls, st, c.2.2)
  | _ => none
def i_lstore (i : Nat) : zI := fun c => match c.2.1 with
  | .long x :: st => (zset c.1 i (.long x)).bind fun ls => if i + 1 < c.1.length then some (.inl (ls.set (i + 1) (.retAddr 1), st, c.2.2)) else none
  | _ => none
def i_iinc (i : Nat) (v : Int32) : zI := fun c => match c.1[i]? with
  | some (.int x) => (zset c.1 i (.int (x + v))).map fun ls => .inl (ls, c.2.1, c.2.2)
  | _ => none
def i_bin (o : Int32 → Int32 → Int32) : zI := fun c => match c.2.1 with
  | .int y :: .int x :: st => some (.inl (c.1, .int (o x y) :: st, c.2.2))
  | _ => none
def i_un (o : Int32 → Int32) : zI := fun c => match c.2.1 with
  | .int x :: st => some (.inl (c.1, .int (o x) :: st, c.2.2))
  | _ => none
/-- division, remainder: by 0 it's stuck -/
def i_div (o : Int32 → Int32 → Int32) : zI := fun c => match c.2.1 with
  | .int y :: .int x :: st => if y = 0 then none else some (.inl (c.1, .int (o x y) :: st, c.2.2))
  | _ => none
def i_ladd : zI := fun c => match c.2.1 with
  | .long y :: .long x :: st => some (.inl (c.1, .long (x + y) :: st, c.2.2))
  | _ => none
def i_lcmp : zI := fun c => match c.2.1 with
  | .long y :: .long x :: st => some (.inl (c.1, .int (lg_cmp x y) :: st, c.2.2))
  | _ => none
def z1 : Value → Bool
  | .int _ => true
  | .ref _ => true
  | .null => true
  | _ => false
def i_dup : zI := fun c => match c.2.1 with
  | v :: st => if z1 v = true then some (.inl (c.1, v :: v :: st, c.2.2)) else none
  | _ => none
def i_dup2 : zI := fun c => match c.2.1 with
  | v :: w :: st => if (z1 v && z1 w) = true then some (.inl (c.1, v :: w :: v :: w :: st, c.2.2)) else none
  | _ => none
def i_pop : zI := fun c => match c.2.1 with
  | v :: st => if z1 v = true then some (.inl (c.1, st, c.2.2)) else none
  | _ => none
def i_goto (t : Nat) : zI := fun c => some (.inr (.inl (true, t, c)))
def i_if (o : Int32 → Bool) (t : Nat) : zI := fun c => match c.2.1 with
  | .int x :: st => some (.inr (.inl (o x, t, (c.1, st, c.2.2))))
  | _ => none
def i_icmp (o : Int32 → Int32 → Bool) (t : Nat) : zI := fun c => match c.2.1 with
  | .int y :: .int x :: st => some (.inr (.inl (o x y, t, (c.1, st, c.2.2))))
  | _ => none
def zsw (ps : List (Int32 × Nat)) (d : Nat) (x : Int32) : Nat := match ps with
  | [] => d
  | (k, t) :: r => if x = k then t else zsw r d x
def i_sw (ps : List (Int32 × Nat)) (d : Nat) : zI := fun c => match c.2.1 with
  | .int x :: st => some (.inr (.inl (true, zsw ps d x, (c.1, st, c.2.2))))
  | _ => none
def i_ret : zI := fun c => match c.2.1 with
  | [.int x] => some (.inr (.inr (.inl (some (.int x), c.2.2))))
  | _ => none
def i_zret : zI := fun c => match c.2.1 with
  | [.int x] => if x = 0 ∨ x = 1 then some (.inr (.inr (.inl (some (.int x), c.2.2)))) else none
  | _ => none
def i_lret : zI := fun c => match c.2.1 with
  | [.long x] => some (.inr (.inr (.inl (some (.long x), c.2.2))))
  | _ => none
def i_vret : zI := fun c => match c.2.1 with
  | [] => some (.inr (.inr (.inl (none, c.2.2))))
  | _ => none
-- they are what the machine does
theorem n_iconst {md : zM} {pc : Nat} {n : Int} {v : Int32} (hv : Int32.ofInt n = v) (hd : decode md.2.1 pc = .ok (.iconst n, 1)) : zS md pc (pc + 1) (i_const v) := by
  intro d f ⟨ls, st, M, N, S⟩ r h k
  cases h
  exact zG_simple (fun p l e R s m args below meth c H locs cells slots Q lsA base b hx hb ho ht hl k => lv_iconst hx hb hd hv k) k
theorem n_bipush {md : zM} {pc : Nat} {n : Int} {v : Int32} (hv : (Int8.ofInt n).toInt32 = v) (hd : decode md.2.1 pc = .ok (.bipush n, 2)) : zS md pc (pc + 2) (i_const v) := by
  intro d f ⟨ls, st, M, N, S⟩ r h k
  cases h
  exact zG_simple (fun p l e R s m args below meth c H locs cells slots Q lsA base b hx hb ho ht hl k => lv_bipush hx hb hd hv k) k
theorem n_sipush {md : zM} {pc : Nat} {n : Int} {v : Int32} (hv : (Int16.ofInt n).toInt32 = v) (hd : decode md.2.1 pc = .ok (.sipush n, 3)) : zS md pc (pc + 3) (i_const v) := by
  intro d f ⟨ls, st, M, N, S⟩ r h k
  cases h
  exact zG_simple (fun p l e R s m args below meth c H locs cells slots Q lsA base b hx hb ho ht hl k => lv_sipush hx hb hd hv k) k
theorem n_ldc {md : zM} {pc i : Nat} {v : Int32} (hw : Cond.constant md.1.cls i v ∈ zgt) (hd : decode md.2.1 pc = .ok (.ldc i, 2)) : zS md pc (pc + 2) (i_const v) := by
  intro d f ⟨ls, st, M, N, S⟩ r h k
  cases h
  exact zG_simple (fun p l e R s m args below meth c H locs cells slots Q lsA base b hx hb ho ht hl k => lv_ldc hx hb ho (ht _ hw) hd k) k
theorem n_ldcw {md : zM} {pc i : Nat} {v : Int32} (hw : Cond.constant md.1.cls i v ∈ zgt) (hd : decode md.2.1 pc = .ok (.ldc_w i, 3)) : zS md pc (pc + 3) (i_const v) := by
  intro d f ⟨ls, st, M, N, S⟩ r h k
  cases h
  exact zG_simple (fun p l e R s m args below meth c H locs cells slots Q lsA base b hx hb ho ht hl k => lv_ldcw hx hb ho (ht _ hw) hd k) k
theorem n_ldc2 {md : zM} {pc i : Nat} {v : Int64} (hw : Cond.constantLong md.1.cls i v ∈ zgt) (hd : decode md.2.1 pc = .ok (.ldc2_w i, 3)) : zS md pc (pc + 3) (i_lconst v) := by
  intro d f ⟨ls, st, M, N, S⟩ r h k
  cases h
  exact zG_simple (fun p l e R s m args below meth c H locs cells slots Q lsA base b hx hb ho ht hl k => lv_ldc2 hx hb ho (ht _ hw) hd k) k
theorem n_lconst {md : zM} {pc : Nat} {n : Fin 2} {v : Int64} (hv : Int64.ofNat (n : Nat) = v) (hd : decode md.2.1 pc = .ok (.lconst n, 1)) : zS md pc (pc + 1) (i_lconst v) := by
  intro d f ⟨ls, st, M, N, S⟩ r h k
  cases h
  exact zG_simple (fun p l e R s m args below meth c H locs cells slots Q lsA base b hx hb ho ht hl k => lv_lconst hx hb hd hv k) k
theorem zload {base b nL i : Nat} {ls : List Value} {lsA : Array Slot} {v : Value} (hl : zL base b nL ls lsA) (h : ls[i]? = some v) (hv : ∀ r, v ≠ Value.retAddr r) : lsA[i]? = some (.val (zV base b v)) := hl.2.2.2.1 i v h hv
theorem n_iload_n {md : zM} {pc i : Nat} {j : Fin 4} (hj : (j : Nat) = i) (hd : decode md.2.1 pc = .ok (.iload_n j, 1)) : zS md pc (pc + 1) (i_iload i) := by
  intro d f ⟨ls, st, M, N, S⟩ r h k
  unfold i_iload at h
  dsimp only at h
  split at h
  · rename_i x hx0
    cases h
    exact zG_simple (fun p l e R s m args below meth c H locs cells slots Q lsA base b hx hb ho ht hl k => lv_iload_n hx hb hd hj (zload hl hx0 (by intro r; simp)) k) k
  · cases h
theorem n_iload {md : zM} {pc i : Nat} (hd : decode md.2.1 pc = .ok (.iload i, 2)) : zS md pc (pc + 2) (i_iload i) := by
  intro d f ⟨ls, st, M, N, S⟩ r h k
  unfold i_iload at h
  dsimp only at h
  split at h
  · rename_i x hx0
    cases h
    exact zG_simple (fun p l e R s m args below meth c H locs cells slots Q lsA base b hx hb ho ht hl k => lv_iload hx hb hd (zload hl hx0 (by intro r; simp)) k) k
  · cases h
theorem n_lload_n {md : zM} {pc i : Nat} {j : Fin 4} (hj : (j : Nat) = i) (hd : decode md.2.1 pc = .ok (.lload_n j, 1)) : zS md pc (pc + 1) (i_lload i) := by
  intro d f ⟨ls, st, M, N, S⟩ r h k
  unfold i_lload at h
  dsimp only at h
  split at h
  · rename_i x hx0
    cases h
    exact zG_simple (fun p l e R s m args below meth c H locs cells slots Q lsA base b hx hb ho ht hl k => lv_lload_n hx hb hd hj (zload hl hx0 (by intro r; simp)) k) k
  · cases h
theorem n_aload_n {md : zM} {pc i : Nat} {j : Fin 4} (hj : (j : Nat) = i) (hd : decode md.2.1 pc = .ok (.aload_n j, 1)) : zS md pc (pc + 1) (i_aload i) := by
  intro d f ⟨ls, st, M, N, S⟩ r h k
  unfold i_aload at h
  dsimp only at h
  split at h
  · rename_i x hx0
    cases h
    exact zG_simple (fun p l e R s m args below meth c H locs cells slots Q lsA base b hx hb ho ht hl k => lv_aload_n hx hb hd hj (zload hl hx0 (by intro r; simp)) k) k
  · cases h
theorem n_aload {md : zM} {pc i : Nat} (hd : decode md.2.1 pc = .ok (.aload i, 2)) : zS md pc (pc + 2) (i_aload i) := by
  intro d f ⟨ls, st, M, N, S⟩ r h k
  unfold i_aload at h
  dsimp only at h
  split at h
  · rename_i x hx0
    cases h
    exact zG_simple (fun p l e R s m args below meth c H locs cells slots Q lsA base b hx hb ho ht hl k => lv_aload hx hb hd (zload hl hx0 (by intro r; simp)) k) k
  · cases h
theorem n_iadd {md : zM} {pc : Nat} (hd : decode md.2.1 pc = .ok (.iadd, 1)) : zS md pc (pc + 1) (i_bin (fun x y => x + y)) := by
  intro d f ⟨ls, st, M, N, S⟩ r h k
  unfold i_bin at h
  dsimp only at h
  split at h
  · cases h
    exact zG_simple (fun p l e R s m args below meth c H locs cells slots Q lsA base b hx hb ho ht hl k => lv_iadd hx hb hd k) k
  · cases h
theorem n_isub {md : zM} {pc : Nat} (hd : decode md.2.1 pc = .ok (.isub, 1)) : zS md pc (pc + 1) (i_bin (fun x y => x - y)) := by
  intro d f ⟨ls, st, M, N, S⟩ r h k
  unfold i_bin at h
  dsimp only at h
  split at h
  · cases h
    exact zG_simple (fun p l e R s m args below meth c H locs cells slots Q lsA base b hx hb ho ht hl k => lv_isub hx hb hd k) k
  · cases h
theorem n_imul {md : zM} {pc : Nat} (hd : decode md.2.1 pc = .ok (.imul, 1)) : zS md pc (pc + 1) (i_bin (fun x y => x * y)) := by
  intro d f ⟨ls, st, M, N, S⟩ r h k
  unfold i_bin at h
  dsimp only at h
  split at h
  · cases h
    exact zG_simple (fun p l e R s m args below meth c H locs cells slots Q lsA base b hx hb ho ht hl k => lv_imul hx hb hd k) k
  · cases h
theorem n_iand {md : zM} {pc : Nat} (hd : decode md.2.1 pc = .ok (.iand, 1)) : zS md pc (pc + 1) (i_bin (fun x y => x &&& y)) := by
  intro d f ⟨ls, st, M, N, S⟩ r h k
  unfold i_bin at h
  dsimp only at h
  split at h
  · cases h
    exact zG_simple (fun p l e R s m args below meth c H locs cells slots Q lsA base b hx hb ho ht hl k => lv_iand hx hb hd k) k
  · cases h
theorem n_ior {md : zM} {pc : Nat} (hd : decode md.2.1 pc = .ok (.ior, 1)) : zS md pc (pc + 1) (i_bin (fun x y => x ||| y)) := by
  intro d f ⟨ls, st, M, N, S⟩ r h k
  unfold i_bin at h
  dsimp only at h
  split at h
  · cases h
    exact zG_simple (fun p l e R s m args below meth c H locs cells slots Q lsA base b hx hb ho ht hl k => lv_ior hx hb hd k) k
  · cases h
theorem n_ixor {md : zM} {pc : Nat} (hd : decode md.2.1 pc = .ok (.ixor, 1)) : zS md pc (pc + 1) (i_bin (fun x y => x ^^^ y)) := by
  intro d f ⟨ls, st, M, N, S⟩ r h k
  unfold i_bin at h
  dsimp only at h
  split at h
  · cases h
    exact zG_simple (fun p l e R s m args below meth c H locs cells slots Q lsA base b hx hb ho ht hl k => lv_ixor hx hb hd k) k
  · cases h
theorem n_ishl {md : zM} {pc : Nat} (hd : decode md.2.1 pc = .ok (.ishl, 1)) : zS md pc (pc + 1) (i_bin (fun x y => x <<< (y &&& 31))) := by
  intro d f ⟨ls, st, M, N, S⟩ r h k
  unfold i_bin at h
  dsimp only at h
  split at h
  · cases h
    exact zG_simple (fun p l e R s m args below meth c H locs cells slots Q lsA base b hx hb ho ht hl k => lv_ishl hx hb hd k) k
  · cases h
theorem n_ishr {md : zM} {pc : Nat} (hd : decode md.2.1 pc = .ok (.ishr, 1)) : zS md pc (pc + 1) (i_bin (fun x y => x >>> (y &&& 31))) := by
  intro d f ⟨ls, st, M, N, S⟩ r h k
  unfold i_bin at h
  dsimp only at h
  split at h
  · cases h
    exact zG_simple (fun p l e R s m args below meth c H locs cells slots Q lsA base b hx hb ho ht hl k => lv_ishr hx hb hd k) k
  · cases h
theorem n_iushr {md : zM} {pc : Nat} (hd : decode md.2.1 pc = .ok (.iushr, 1)) : zS md pc (pc + 1) (i_bin (fun x y => (x.toUInt32 >>> (y.toUInt32 &&& Int32.toUInt32 31)).toInt32)) := by
  intro d f ⟨ls, st, M, N, S⟩ r h k
  unfold i_bin at h
  dsimp only at h
  split at h
  · cases h
    exact zG_simple (fun p l e R s m args below meth c H locs cells slots Q lsA base b hx hb ho ht hl k => lv_iushr hx hb hd rfl k) k
  · cases h
theorem n_idiv {md : zM} {pc : Nat} (hd : decode md.2.1 pc = .ok (.idiv, 1)) : zS md pc (pc + 1) (i_div (fun x y => x / y)) := by
  intro d f ⟨ls, st, M, N, S⟩ r h k
  unfold i_div at h
  dsimp only at h
  split at h
  · split at h
    · cases h
    · rename_i hne
      cases h
      exact zG_simple (fun p l e R s m args below meth c H locs cells slots Q lsA base b hx hb ho ht hl k => lv_idiv hx hb hd hne k) k
  · cases h
theorem n_irem {md : zM} {pc : Nat} (hd : decode md.2.1 pc = .ok (.irem, 1)) : zS md pc (pc + 1) (i_div (fun x y => x - x / y * y)) := by
  intro d f ⟨ls, st, M, N, S⟩ r h k
  unfold i_div at h
  dsimp only at h
  split at h
  · split at h
    · cases h
    · rename_i hne
      cases h
      exact zG_simple (fun p l e R s m args below meth c H locs cells slots Q lsA base b hx hb ho ht hl k => lv_irem hx hb hd hne k) k
  · cases h
theorem n_i2b {md : zM} {pc : Nat} (hd : decode md.2.1 pc = .ok (.i2b, 1)) : zS md pc (pc + 1) (i_un (fun x => x.toInt8.toInt32)) := by
  intro d f ⟨ls, st, M, N, S⟩ r h k
  unfold i_un at h
  dsimp only at h
  split at h
  · cases h
    exact zG_simple (fun p l e R s m args below meth c H locs cells slots Q lsA base b hx hb ho ht hl k => lv_i2b hx hb hd rfl k) k
  · cases h
theorem n_ladd {md : zM} {pc : Nat} (hd : decode md.2.1 pc = .ok (.ladd, 1)) : zS md pc (pc + 1) i_ladd := by
  intro d f ⟨ls, st, M, N, S⟩ r h k
  unfold i_ladd at h
  dsimp only at h
  split at h
  · cases h
    exact zG_simple (fun p l e R s m args below meth c H locs cells slots Q lsA base b hx hb ho ht hl k => lv_ladd hx hb hd k) k
  · cases h
theorem n_lcmp {md : zM} {pc : Nat} (hd : decode md.2.1 pc = .ok (.lcmp, 1)) : zS md pc (pc + 1) i_lcmp := by
  intro d f ⟨ls, st, M, N, S⟩ r h k
  unfold i_lcmp at h
  dsimp only at h
  split at h
  · cases h
    exact zG_simple (fun p l e R s m args below meth c H locs cells slots Q lsA base b hx hb ho ht hl k => W.lcmp hx hb hd k) k
  · cases h
theorem z1_cat {base b : Nat} {v : Value} (h : z1 v = true) : (zV base b v).category = 1 := by
  cases v <;> first | rfl | cases h
theorem n_dup {md : zM} {pc : Nat} (hd : decode md.2.1 pc = .ok (.dup, 1)) : zS md pc (pc + 1) i_dup := by
  intro d f ⟨ls, st, M, N, S⟩ r h k
  unfold i_dup at h
  dsimp only at h
  split at h
  · split at h
    · rename_i h1
      cases h
      exact zG_simple (fun p l e R s m args below meth c H locs cells slots Q lsA base b hx hb ho ht hl k => lv_dup hx hb hd (z1_cat h1) k) k
    · cases h
  · cases h
theorem n_pop {md : zM} {pc : Nat} (hd : decode md.2.1 pc = .ok (.pop, 1)) : zS md pc (pc + 1) i_pop := by
  intro d f ⟨ls, st, M, N, S⟩ r h k
  unfold i_pop at h
  dsimp only at h
  split at h
  · split at h
    · rename_i h1
      cases h
      exact zG_simple (fun p l e R s m args below meth c H locs cells slots Q lsA base b hx hb ho ht hl k => lv_pop hx hb hd (z1_cat h1) k) k
    · cases h
  · cases h
theorem n_dup2 {md : zM} {pc : Nat} (hd : decode md.2.1 pc = .ok (.dup2, 1)) : zS md pc (pc + 1) i_dup2 := by
  intro d f ⟨ls, st, M, N, S⟩ r h k
  unfold i_dup2 at h
  dsimp only at h
  split at h
  · split at h
    · rename_i h1
      cases h
      rw [Bool.and_eq_true] at h1
      exact zG_simple (fun p l e R s m args below meth c H locs cells slots Q lsA base b hx hb ho ht hl k => lv_dup2_11 hx hb hd (z1_cat h1.1) (z1_cat h1.2) k) k
    · cases h
  · cases h
/-- two ways on -/
theorem zG_two {d : Nat} {md : zM} {pc pt pf : Nat} {ls st st' : List Value} {M : zHp} {N S : Nat} {f : zF} {t : Bool}
    (h : ∀ (p : Program) (l : Launch) (e : Env) (R : Room) (s : State) (m : MethodId) (args : Array Value) (below : List Frame) (meth : Method) (c : Code) (H : Heap) (locs : List Loc) (cells slots : Nat) (Q : State → Prop) (lsA : Array Slot) (base b : Nat), p.tables.exec = Jvm.exec → c.code = md.2.1 →
      (t = true → W p l e R s m args below meth c H locs cells slots Q (F0 m pt lsA (st'.map (zV base b)))) → (t = false → W p l e R s m args below meth c H locs cells slots Q (F0 m pf lsA (st'.map (zV base b)))) → W p l e R s m args below meth c H locs cells slots Q (F0 m pc lsA (st.map (zV base b))))
    (k : if t = true then zGo d md pt (ls, st', M, N, S) f else zGo d md pf (ls, st', M, N, S) f) : zGo d md pc (ls, st, M, N, S) f := by
  cases t with
  | true =>
    have k : zGo d md pt (ls, st', M, N, S) f := k
    exact ⟨k.1, k.2.1, fun p l e R s m args below meth c D aC base b L xs n0 s0 F hx hn hs H locs lsA hw hl => h p l e R s m args below meth c H locs _ _ _ lsA base b hx.1 hx.2.1 (fun _ => k.2.2 p l e R s m args below meth c D aC base b L xs n0 s0 F hx hn hs H locs lsA hw hl) (fun h => by cases h)⟩
  | false =>
    have k : zGo d md pf (ls, st', M, N, S) f := k
    exact ⟨k.1, k.2.1, fun p l e R s m args below meth c D aC base b L xs n0 s0 F hx hn hs H locs lsA hw hl => h p l e R s m args below meth c H locs _ _ _ lsA base b hx.1 hx.2.1 (fun h => by cases h) (fun _ => k.2.2 p l e R s m args below meth c D aC base b L xs n0 s0 F hx hn hs H locs lsA hw hl)⟩
theorem n_if_eq {md : zM} {pc tgt : Nat} {off : Int} (ht0 : (pc : Int) + off = (tgt : Int)) (hd : decode md.2.1 pc = .ok (.ifCond .eq off, 3)) : zS md pc (pc + 3) (i_if (fun x => decide (x = 0)) tgt) := by
  intro d f ⟨ls, st, M, N, S⟩ r h k
  unfold i_if at h
  dsimp only at h
  split at h
  · cases h
    exact zG_two (fun p l e R s m args below meth c H locs cells slots Q lsA base b hx hb kt kf => lv_if_eq hx hb hd ht0 (fun h => kt (decide_eq_true h)) (fun h => kf (decide_eq_false h))) k
  · cases h
theorem n_icmp_eq {md : zM} {pc tgt : Nat} {off : Int} (ht0 : (pc : Int) + off = (tgt : Int)) (hd : decode md.2.1 pc = .ok (.if_icmp .eq off, 3)) : zS md pc (pc + 3) (i_icmp (fun x y => decide (x = y)) tgt) := by
  intro d f ⟨ls, st, M, N, S⟩ r h k
  unfold i_icmp at h
  dsimp only at h
  split at h
  · cases h
    exact zG_two (fun p l e R s m args below meth c H locs cells slots Q lsA base b hx hb kt kf => lv_icmp_eq hx hb hd ht0 (fun h => kt (decide_eq_true h)) (fun h => kf (decide_eq_false h))) k
  · cases h
theorem n_if_ne {md : zM} {pc tgt : Nat} {off : Int} (ht0 : (pc : Int) + off = (tgt : Int)) (hd : decode md.2.1 pc = .ok (.ifCond .ne off, 3)) : zS md pc (pc + 3) (i_if (fun x => decide (¬ x = 0)) tgt) := by
  intro d f ⟨ls, st, M, N, S⟩ r h k
  unfold i_if at h
  dsimp only at h
  split at h
  · cases h
    exact zG_two (fun p l e R s m args below meth c H locs cells slots Q lsA base b hx hb kt kf => lv_if_ne hx hb hd ht0 (fun h => kt (decide_eq_true h)) (fun h => kf (decide_eq_false (fun g => g h)))) k
  · cases h
theorem n_icmp_ne {md : zM} {pc tgt : Nat} {off : Int} (ht0 : (pc : Int) + off = (tgt : Int)) (hd : decode md.2.1 pc = .ok (.if_icmp .ne off, 3)) : zS md pc (pc + 3) (i_icmp (fun x y => decide (¬ x = y)) tgt) := by
  intro d f ⟨ls, st, M, N, S⟩ r h k
  unfold i_icmp at h
  dsimp only at h
  split at h
  · cases h
    exact zG_two (fun p l e R s m args below meth c H locs cells slots Q lsA base b hx hb kt kf => lv_icmp_ne hx hb hd ht0 (fun h => kt (decide_eq_true h)) (fun h => kf (decide_eq_false (fun g => g h)))) k
  · cases h
theorem n_if_lt {md : zM} {pc tgt : Nat} {off : Int} (ht0 : (pc : Int) + off = (tgt : Int)) (hd : decode md.2.1 pc = .ok (.ifCond .lt off, 3)) : zS md pc (pc + 3) (i_if (fun x => decide (x < 0)) tgt) := by
  intro d f ⟨ls, st, M, N, S⟩ r h k
  unfold i_if at h
  dsimp only at h
  split at h
  · cases h
    exact zG_two (fun p l e R s m args below meth c H locs cells slots Q lsA base b hx hb kt kf => lv_if_lt hx hb hd ht0 (fun h => kt (decide_eq_true h)) (fun h => kf (decide_eq_false h))) k
  · cases h
theorem n_icmp_lt {md : zM} {pc tgt : Nat} {off : Int} (ht0 : (pc : Int) + off = (tgt : Int)) (hd : decode md.2.1 pc = .ok (.if_icmp .lt off, 3)) : zS md pc (pc + 3) (i_icmp (fun x y => decide (x < y)) tgt) := by
  intro d f ⟨ls, st, M, N, S⟩ r h k
  unfold i_icmp at h
  dsimp only at h
  split at h
  · cases h
    exact zG_two (fun p l e R s m args below meth c H locs cells slots Q lsA base b hx hb kt kf => lv_icmp_lt hx hb hd ht0 (fun h => kt (decide_eq_true h)) (fun h => kf (decide_eq_false h))) k
  · cases h
theorem n_if_ge {md : zM} {pc tgt : Nat} {off : Int} (ht0 : (pc : Int) + off = (tgt : Int)) (hd : decode md.2.1 pc = .ok (.ifCond .ge off, 3)) : zS md pc (pc + 3) (i_if (fun x => decide (0 ≤ x)) tgt) := by
  intro d f ⟨ls, st, M, N, S⟩ r h k
  unfold i_if at h
  dsimp only at h
  split at h
  · cases h
    exact zG_two (fun p l e R s m args below meth c H locs cells slots Q lsA base b hx hb kt kf => lv_if_ge hx hb hd ht0 (fun h => kt (decide_eq_true h)) (fun h => kf (decide_eq_false h))) k
  · cases h
theorem n_icmp_ge {md : zM} {pc tgt : Nat} {off : Int} (ht0 : (pc : Int) + off = (tgt : Int)) (hd : decode md.2.1 pc = .ok (.if_icmp .ge off, 3)) : zS md pc (pc + 3) (i_icmp (fun x y => decide (y ≤ x)) tgt) := by
  intro d f ⟨ls, st, M, N, S⟩ r h k
  unfold i_icmp at h
  dsimp only at h
  split at h
  · cases h
    exact zG_two (fun p l e R s m args below meth c H locs cells slots Q lsA base b hx hb kt kf => lv_icmp_ge hx hb hd ht0 (fun h => kt (decide_eq_true h)) (fun h => kf (decide_eq_false h))) k
  · cases h
theorem n_if_gt {md : zM} {pc tgt : Nat} {off : Int} (ht0 : (pc : Int) + off = (tgt : Int)) (hd : decode md.2.1 pc = .ok (.ifCond .gt off, 3)) : zS md pc (pc + 3) (i_if (fun x => decide (0 < x)) tgt) := by
  intro d f ⟨ls, st, M, N, S⟩ r h k
  unfold i_if at h
  dsimp only at h
  split at h
  · cases h
    exact zG_two (fun p l e R s m args below meth c H locs cells slots Q lsA base b hx hb kt kf => lv_if_gt hx hb hd ht0 (fun h => kt (decide_eq_true h)) (fun h => kf (decide_eq_false h))) k
  · cases h
theorem n_icmp_gt {md : zM} {pc tgt : Nat} {off : Int} (ht0 : (pc : Int) + off = (tgt : Int)) (hd : decode md.2.1 pc = .ok (.if_icmp .gt off, 3)) : zS md pc (pc + 3) (i_icmp (fun x y => decide (y < x)) tgt) := by
  intro d f ⟨ls, st, M, N, S⟩ r h k
  unfold i_icmp at h
  dsimp only at h
  split at h
  · cases h
    exact zG_two (fun p l e R s m args below meth c H locs cells slots Q lsA base b hx hb kt kf => lv_icmp_gt hx hb hd ht0 (fun h => kt (decide_eq_true h)) (fun h => kf (decide_eq_false h))) k
  · cases h
theorem n_if_le {md : zM} {pc tgt : Nat} {off : Int} (ht0 : (pc : Int) + off = (tgt : Int)) (hd : decode md.2.1 pc = .ok (.ifCond .le off, 3)) : zS md pc (pc + 3) (i_if (fun x => decide (x ≤ 0)) tgt) := by
  intro d f ⟨ls, st, M, N, S⟩ r h k
  unfold i_if at h
  dsimp only at h
  split at h
  · cases h
    exact zG_two (fun p l e R s m args below meth c H locs cells slots Q lsA base b hx hb kt kf => lv_if_le hx hb hd ht0 (fun h => kt (decide_eq_true h)) (fun h => kf (decide_eq_false h))) k
  · cases h
theorem n_icmp_le {md : zM} {pc tgt : Nat} {off : Int} (ht0 : (pc : Int) + off = (tgt : Int)) (hd : decode md.2.1 pc = .ok (.if_icmp .le off, 3)) : zS md pc (pc + 3) (i_icmp (fun x y => decide (x ≤ y)) tgt) := by
  intro d f ⟨ls, st, M, N, S⟩ r h k
  unfold i_icmp at h
  dsimp only at h
  split at h
  · cases h
    exact zG_two (fun p l e R s m args below meth c H locs cells slots Q lsA base b hx hb kt kf => lv_icmp_le hx hb hd ht0 (fun h => kt (decide_eq_true h)) (fun h => kf (decide_eq_false h))) k
  · cases h
end
section
/-! stores into locals, jumps, returns -/
theorem zset_spec : ∀ {ls : List Value} {i : Nat} {v : Value} {ls' : List Value}, zset ls i v = some ls' → i < ls.length ∧ ls[i]? ≠ some (.retAddr 1) ∧ ls' = ls.set i v
  | [], _, _, _, h => by cases h
  | w :: ls, 0, v, ls', h => by
    unfold zset at h
    split at h
    · cases h
    · rename_i hw
      cases h
      exact ⟨by simp, by simpa using hw, rfl⟩
  | w :: ls, i + 1, v, ls', h => by
    unfold zset at h
    cases hz : zset ls i v with
    | none => rw [hz] at h; cases h
    | some l =>
      rw [hz] at h
      cases h
      obtain ⟨h1, h2, h3⟩ := zset_spec hz
      exact ⟨by simpa using h1, by simpa using h2, by simp [h3]⟩
def zlv (base b : Nat) (ls : List Value) : List (Nat × Value) := (List.range ls.length).filterMap fun i => match ls[i]? with
  | some (Value.retAddr _) => none
  | some v => some (i, zV base b v)
  | none => none
theorem zlv_mem {base b : Nat} {ls : List Value} {q : Nat × Value} : q ∈ zlv base b ls ↔ ∃ v, ls[q.1]? = some v ∧ (∀ r, v ≠ Value.retAddr r) ∧ q.2 = zV base b v := by
  unfold zlv
  rw [List.mem_filterMap]
  constructor
  · rintro ⟨i, -, h⟩
    split at h
    · cases h
    · rename_i v hv hn
      cases h
      exact ⟨v, hn, fun r e => hv r e, rfl⟩
    · cases h
  · rintro ⟨v, h1, h2, h3⟩
    refine ⟨q.1, List.mem_range.mpr (List.getElem?_eq_some_iff.mp h1).1, ?_⟩
    rw [h1]
    cases v with
    | retAddr r => exact absurd rfl (h2 r)
    | _ => simp only; rw [← h3]
theorem zL_has {base b nL : Nat} {ls : List Value} {lsA : Array Slot} (h : zL base b nL ls lsA) : lv_has lsA nL (zlv base b ls) :=
  ⟨h.2.1, h.2.2.1, fun q hq => by
    obtain ⟨v, h1, h2, h3⟩ := zlv_mem.mp hq
    rw [h3]
    exact h.2.2.2.1 q.1 v h1 h2⟩
theorem zV_cat (base b : Nat) (v : Value) : (zV base b v).category = v.category := by cases v <;> rfl
theorem zL_put {base b nL i : Nat} {ls ls' : List Value} {lsA lsB : Array Slot} {v : Value} (h : zL base b nL ls lsA) (hz : zset ls i v = some ls') (hv : z1 v = true)
    (hB : lv_has lsB nL ((i, zV base b v) :: (zlv base b ls).filter (fun q => !(q.1 == i) && !(q.1 + 1 == i && q.2.category == 2)))) : zL base b nL ls' lsB := by
  obtain ⟨hi, hne, rfl⟩ := zset_spec hz
  obtain ⟨g1, g2, g3⟩ := hB
  obtain ⟨h1, h2, h3, h4, h5, h6⟩ := h
  refine ⟨by rw [List.length_set]; exact h1, g1, g2, fun j w hj hw => ?_, fun j x hj => ?_, fun j x hj => ?_⟩
  · rw [List.getElem?_set] at hj
    by_cases e : i = j
    · subst e
      rw [if_pos rfl, if_pos hi] at hj
      cases hj
      exact g3 (i, zV base b v) List.mem_cons_self
    · rw [if_neg e] at hj
      refine g3 (j, zV base b w) (List.mem_cons_of_mem _ (List.mem_filter.mpr ⟨zlv_mem.mpr ⟨w, hj, hw, rfl⟩, ?_⟩))
      have hne2 : (j == i) = false := by simpa using fun e2 : j = i => e e2.symm
      rw [hne2]
      by_cases e3 : j + 1 = i
      · have : (zV base b w).category ≠ 2 := by
          rw [zV_cat]
          cases w with
          | long x => exact absurd (h5 j x hj) (by rw [e3]; exact hne)
          | double x => exact absurd hj (h6 j x)
          | _ => simp [Value.category]
        simp [this]
      · simp [e3]
  · rw [List.getElem?_set] at hj ⊢
    by_cases e : i = j
    · subst e
      rw [if_pos rfl, if_pos hi] at hj
      cases hj
      cases hv
    · rw [if_neg e] at hj
      have hj2 := h5 j x hj
      by_cases e2 : i = j + 1
      · subst e2
        exact absurd hj2 hne
      · rw [if_neg e2]
        exact hj2
  · rw [List.getElem?_set] at hj
    by_cases e : i = j
    · subst e
      rw [if_pos rfl, if_pos hi] at hj
      cases hj
      cases hv
    · rw [if_neg e] at hj
      exact h6 j x hj
/-- an instruction that changes the locals -/
theorem zG_loc {d : Nat} {md : zM} {pc pc' : Nat} {ls ls' st st' : List Value} {M : zHp} {N S : Nat} {f : zF}
    (h : ∀ (p : Program) (l : Launch) (e : Env) (R : Room) (s : State) (m : MethodId) (args : Array Value) (below : List Frame) (meth : Method) (c : Code) (H : Heap) (locs : List Loc) (cells slots : Nat) (Q : State → Prop) (lsA : Array Slot) (base b : Nat), p.tables.exec = Jvm.exec → c.code = md.2.1 → zL base b md.2.2.1 ls lsA →
      (∀ lsB, zL base b md.2.2.1 ls' lsB → W p l e R s m args below meth c H locs cells slots Q (F0 m pc' lsB (st'.map (zV base b)))) → W p l e R s m args below meth c H locs cells slots Q (F0 m pc lsA (st.map (zV base b))))
    (k : zGo d md pc' (ls', st', M, N, S) f) : zGo d md pc (ls, st, M, N, S) f :=
  ⟨k.1, k.2.1, fun p l e R s m args below meth c D aC base b L xs n0 s0 F hx hn hs H locs lsA hw hl => h p l e R s m args below meth c H locs _ _ _ lsA base b hx.1 hx.2.1 hl (fun lsB hl => k.2.2 p l e R s m args below meth c D aC base b L xs n0 s0 F hx hn hs H locs lsB hw hl)⟩
theorem n_istore_n {md : zM} {pc i : Nat} {j : Fin 4} (hj : (j : Nat) = i) (hd : decode md.2.1 pc = .ok (.istore_n j, 1)) : zS md pc (pc + 1) (i_istore i) := by
  intro d f ⟨ls, st, M, N, S⟩ r h k
  unfold i_istore at h
  dsimp only at h
  split at h
  · rename_i x st
    obtain ⟨ls', hz, rfl⟩ := Option.map_eq_some_iff.mp h
    exact zG_loc (fun p l e R s m args below meth c H locs cells slots Q lsA base b hx hb hl k => lv_istore_n hx hb hd hj (zL_has hl) (by have := (zset_spec hz).1; rw [← hl.1]; exact this) rfl (fun lsB hB => k lsB (zL_put hl hz rfl hB))) k
  · cases h
theorem n_istore {md : zM} {pc i : Nat} (hd : decode md.2.1 pc = .ok (.istore i, 2)) : zS md pc (pc + 2) (i_istore i) := by
  intro d f ⟨ls, st, M, N, S⟩ r h k
  unfold i_istore at h
  dsimp only at h
  split at h
  · rename_i x st
    obtain ⟨ls', hz, rfl⟩ := Option.map_eq_some_iff.mp h
    exact zG_loc (fun p l e R s m args below meth c H locs cells slots Q lsA base b hx hb hl k => lv_istore hx hb hd (zL_has hl) (by have := (zset_spec hz).1; rw [← hl.1]; exact this) rfl (fun lsB hB => k lsB (zL_put hl hz rfl hB))) k
  · cases h
theorem n_astore_n {md : zM} {pc i : Nat} {j : Fin 4} (hj : (j : Nat) = i) (hd : decode md.2.1 pc = .ok (.astore_n j, 1)) : zS md pc (pc + 1) (i_astore i) := by
  intro d f ⟨ls, st, M, N, S⟩ r h k
  unfold i_astore at h
  dsimp only at h
  split at h
  · rename_i x st
    obtain ⟨ls', hz, rfl⟩ := Option.map_eq_some_iff.mp h
    exact zG_loc (fun p l e R s m args below meth c H locs cells slots Q lsA base b hx hb hl k => lv_astore_n hx hb hd hj (zL_has hl) (by have := (zset_spec hz).1; rw [← hl.1]; exact this) rfl (fun lsB hB => k lsB (zL_put (v := .ref x) hl hz rfl hB))) k
  · cases h
theorem zlv_place {base b nL i : Nat} {ls : List Value} {lsA : Array Slot} {v : Value} (_ : zL base b nL ls lsA) (h : ls[i]? = some v) (hv : ∀ r, v ≠ Value.retAddr r) : ∃ k : Nat, (zlv base b ls)[k]? = some (i, zV base b v) :=
  List.getElem?_of_mem (zlv_mem.mpr ⟨v, h, hv, rfl⟩)
theorem n_iinc {md : zM} {pc i : Nat} {n : Int} {v : Int32} (hv : Int32.ofInt n = v) (hd : decode md.2.1 pc = .ok (.iinc i n, 3)) : zS md pc (pc + 3) (i_iinc i v) := by
  intro d f ⟨ls, st, M, N, S⟩ r h k
  unfold i_iinc at h
  dsimp only at h
  split at h
  · rename_i x hx0
    obtain ⟨ls', hz, rfl⟩ := Option.map_eq_some_iff.mp h
    refine zG_loc (fun p l e R s m args below meth c H locs cells slots Q lsA base b hx hb hl k => ?_) k
    obtain ⟨j, hj⟩ := zlv_place hl hx0 (by intro r; simp)
    exact lv_iinc hx hb hd (zL_has hl) hj (by rw [hv]) (by have := (zset_spec hz).1; rw [← hl.1]; exact this) rfl (fun lsB hB => k lsB (zL_put hl hz rfl hB))
  · cases h
theorem n_lstore_n {md : zM} {pc i : Nat} {j : Fin 4} (hj : (j : Nat) = i) (hd : decode md.2.1 pc = .ok (.lstore_n j, 1)) : zS md pc (pc + 1) (i_lstore i) := by
  intro d f ⟨ls, st, M, N, S⟩ r h k
  unfold i_lstore at h
  dsimp only at h
  split at h
  · rename_i x st
    obtain ⟨ls', hz, h⟩ := Option.bind_eq_some_iff.mp h
    split at h
    · rename_i hlen
      cases h
      obtain ⟨hi, hne, rfl⟩ := zset_spec hz
      refine zG_loc (fun p l e R s m args below meth c H locs cells slots Q lsA base b hx hb hl k => lv_lstore_n hx hb hd hj (zL_has hl) (by rw [← hl.1]; exact hlen) rfl (fun lsB hB => k lsB ?_)) k
      obtain ⟨g1, g2, g3⟩ := hB
      obtain ⟨h1, h2, h3, h4, h5, h6⟩ := hl
      refine ⟨by rw [List.length_set, List.length_set]; exact h1, g1, g2, fun j w hj hw => ?_, fun j y hj => ?_, fun j y hj => ?_⟩
      · rw [List.getElem?_set] at hj
        by_cases e : i + 1 = j
        · subst e
          rw [if_pos rfl, if_pos (by rw [List.length_set]; exact hlen)] at hj
          cases hj
          exact absurd rfl (hw 1)
        · rw [if_neg e, List.getElem?_set] at hj
          by_cases e2 : i = j
          · subst e2
            rw [if_pos rfl, if_pos hi] at hj
            cases hj
            exact g3 (i, Value.long x) List.mem_cons_self
          · rw [if_neg e2] at hj
            refine g3 (j, zV base b w) (List.mem_cons_of_mem _ (List.mem_filter.mpr ⟨zlv_mem.mpr ⟨w, hj, hw, rfl⟩, ?_⟩))
            have hne2 : (j == i) = false := by simpa using fun q : j = i => e2 q.symm
            have hne3 : (j == i + 1) = false := by simpa using fun q : j = i + 1 => e q.symm
            rw [hne2, hne3]
            by_cases e3 : j + 1 = i
            · have : (zV base b w).category ≠ 2 := by
                rw [zV_cat]
                cases w with
                | long x => exact absurd (h5 j x hj) (by rw [e3]; exact hne)
                | double x => exact absurd hj (h6 j x)
                | _ => simp [Value.category]
              simp [this]
            · simp [e3]
      · rw [List.getElem?_set] at hj
        by_cases e : i + 1 = j
        · subst e
          rw [if_pos rfl, if_pos (by rw [List.length_set]; exact hlen)] at hj
          cases hj
        · rw [if_neg e, List.getElem?_set] at hj
          rw [List.getElem?_set]
          by_cases e2 : i = j
          · subst e2
            rw [if_pos rfl, if_pos (by rw [List.length_set]; exact hlen)]
          · rw [if_neg e2] at hj
            have hq := h5 j y hj
            by_cases e4 : i + 1 = j + 1
            · omega
            · rw [if_neg e4, List.getElem?_set]
              by_cases e5 : i = j + 1
              · subst e5
                exact absurd hq hne
              · rw [if_neg e5]
                exact hq
      · rw [List.getElem?_set] at hj
        by_cases e : i + 1 = j
        · subst e
          rw [if_pos rfl, if_pos (by rw [List.length_set]; exact hlen)] at hj
          cases hj
        · rw [if_neg e, List.getElem?_set] at hj
          by_cases e2 : i = j
          · subst e2
            rw [if_pos rfl, if_pos hi] at hj
            cases hj
          · rw [if_neg e2] at hj
            exact h6 j y hj
    · cases h
  · cases h
theorem n_goto {md : zM} {pc tgt : Nat} {off : Int} (ht0 : (pc : Int) + off = (tgt : Int)) (hd : decode md.2.1 pc = .ok (.goto off, 3)) (pc' : Nat) : zS md pc pc' (i_goto tgt) := by
  intro d f ⟨ls, st, M, N, S⟩ r h k
  cases h
  exact zG_simple (fun p l e R s m args below meth c H locs cells slots Q lsA base b hx hb ho ht hl k => lv_goto hx hb hd ht0 k) k
/-- nothing stands there: the next row of instructions goes on -/
theorem n_next {md : zM} (pc pc' : Nat) : zS md pc pc' (i_goto pc) := by
  intro d f c r h k
  cases h
  exact k
def zswOk (pc : Nat) (dflt : Int) (ps : List (Int × Int)) (qs : List (Int32 × Nat)) (dt : Nat) : Bool :=
  decide ((pc : Int) + dflt = (dt : Int)) && decide (qs = ps.map (fun a => (Int32.ofInt a.1, ((pc : Int) + a.2).toNat))) && ps.all (fun a => decide (-1000 ≤ a.1) && decide (a.1 ≤ 1000) && decide (0 ≤ (pc : Int) + a.2))
theorem i32_small {k : Int} (h1 : -1000 ≤ k) (h2 : k ≤ 1000) : (Int32.ofInt k).toInt = k := by
  rw [Int32.toInt_ofInt]
  have : Int32.size = 4294967296 := rfl
  rw [this]
  apply Int.bmod_eq_of_le <;> omega
theorem i32_eq {x : Int32} {k : Int} (h1 : -1000 ≤ k) (h2 : k ≤ 1000) : x = Int32.ofInt k ↔ x.toInt = k := by
  constructor
  · rintro rfl
    exact i32_small h1 h2
  · intro h
    apply Int32.toInt_inj.mp
    rw [h, i32_small h1 h2]
theorem zsw_lk (pc : Nat) (dflt : Int) (dt : Nat) (hd : (pc : Int) + dflt = (dt : Int)) (x : Int32) : ∀ (ps : List (Int × Int)), (ps.all (fun a => decide (-1000 ≤ a.1) && decide (a.1 ≤ 1000) && decide (0 ≤ (pc : Int) + a.2)) = true) →
    (pc : Int) + Op.lookupswitch.offset ps dflt x.toInt = ((zsw (ps.map (fun a => (Int32.ofInt a.1, ((pc : Int) + a.2).toNat))) dt x : Nat) : Int)
  | [], _ => by simpa [zsw, Op.lookupswitch.offset] using hd
  | a :: ps, h => by
    rw [List.all_cons, Bool.and_eq_true] at h
    obtain ⟨h0, hr⟩ := h
    simp only [Bool.and_eq_true, decide_eq_true_eq] at h0
    have ih := zsw_lk pc dflt dt hd x ps hr
    have e := @i32_eq x a.1 h0.1.1 h0.1.2
    simp only [List.map_cons, zsw]
    by_cases hx : x = Int32.ofInt a.1
    · rw [if_pos hx]
      have hx2 := e.mp hx
      simp only [Op.lookupswitch.offset, List.find?]
      simp [hx2]
      omega
    · rw [if_neg hx]
      have hx2 : ¬ x.toInt = a.1 := fun q => hx (e.mpr q)
      rw [← ih]
      simp only [Op.lookupswitch.offset, List.find?]
      simp
      exact fun q => absurd q.symm hx2
theorem n_lsw {md : zM} {pc len : Nat} {dflt : Int} {ps : Array (Int × Int)} {qs : List (Int32 × Nat)} {dt : Nat} (hp : (ps.toList.zip (ps.toList.drop 1)).all (fun (a, next) => a.1 < next.1) = true) (hok : zswOk pc dflt ps.toList qs dt = true) (hd : decode md.2.1 pc = .ok (.lookupswitch dflt ps, len)) (pc' : Nat) : zS md pc pc' (i_sw qs dt) := by
  intro d f ⟨ls, st, M, N, S⟩ r h k
  unfold i_sw at h
  dsimp only at h
  simp only [zswOk, Bool.and_eq_true, decide_eq_true_eq] at hok
  obtain ⟨⟨h1, h2⟩, h3⟩ := hok
  split at h
  · rename_i x st
    cases h
    have hz := zsw_lk pc dflt dt h1 x ps.toList (by simpa [Bool.and_eq_true] using h3)
    rw [← h2] at hz
    exact zG_simple (fun p l e R s m args below meth c H locs cells slots Q lsA base b hx hb ho ht hl k => lv_lookup hx hb hd hp rfl hz k) k
  · cases h
theorem zsw_tab (pc : Nat) (dflt : Int) (dt : Nat) (hd : (pc : Int) + dflt = (dt : Int)) (x : Int32) : ∀ (offs : List Int) (lo : Int), ((offs.zipIdx.map (fun a => (lo + (a.2 : Int), a.1))).all (fun a => decide (-1000 ≤ a.1) && decide (a.1 ≤ 1000) && decide (0 ≤ (pc : Int) + a.2)) = true) →
    ∀ qs, qs = (offs.zipIdx.map (fun a => (lo + (a.2 : Int), a.1))).map (fun a => (Int32.ofInt a.1, ((pc : Int) + a.2).toNat)) →
    ((x.toInt < lo ∨ lo + offs.length ≤ x.toInt) → zsw qs dt x = dt) ∧ (∀ off, ¬ x.toInt < lo → offs[(x.toInt - lo).toNat]? = some off → (pc : Int) + off = ((zsw qs dt x : Nat) : Int))
  | [], lo, _, qs, hq => by
    subst hq
    exact ⟨fun _ => rfl, fun off _ h => by simp at h⟩
  | o :: offs, lo, h, qs, hq => by
    have hz : (o :: offs).zipIdx.map (fun a => (lo + (a.2 : Int), a.1)) = (lo, o) :: offs.zipIdx.map (fun a => ((lo + 1) + (a.2 : Int), a.1)) := by
      rw [List.zipIdx_cons, List.map_cons]
      congr 1
      · simp
      · rw [List.zipIdx_succ, List.map_map]
        apply List.map_congr_left
        intro a _
        simp
        omega
    rw [hz] at h hq
    rw [List.all_cons, Bool.and_eq_true] at h
    obtain ⟨h0, hr⟩ := h
    simp only [Bool.and_eq_true, decide_eq_true_eq] at h0
    obtain ⟨i1, i2⟩ := zsw_tab pc dflt dt hd x offs (lo + 1) hr _ rfl
    have e := @i32_eq x lo h0.1.1 h0.1.2
    rw [List.map_cons] at hq
    subst hq
    simp only [zsw]
    by_cases hx : x = Int32.ofInt lo
    · have hx2 := e.mp hx
      rw [if_pos hx]
      refine ⟨fun q => ?_, fun off _ q => ?_⟩
      · simp at q
        omega
      · rw [hx2] at q
        simp at q
        subst q
        omega
    · have hx2 : ¬ x.toInt = lo := fun q => hx (e.mpr q)
      rw [if_neg hx]
      refine ⟨fun q => i1 ?_, fun off g q => i2 off (by omega) ?_⟩
      · simp at q
        omega
      · have : (x.toInt - lo).toNat = (x.toInt - (lo + 1)).toNat + 1 := by omega
        rw [this] at q
        simpa using q
theorem n_tsw {md : zM} {pc len : Nat} {dflt lo hi : Int} {offs : Array Int} {qs : List (Int32 × Nat)} {dt : Nat} (hhi : hi = lo + offs.toList.length - 1) (hok : zswOk pc dflt (offs.toList.zipIdx.map (fun a => (lo + (a.2 : Int), a.1))) qs dt = true) (hd : decode md.2.1 pc = .ok (.tableswitch dflt lo hi offs, len)) (pc' : Nat) : zS md pc pc' (i_sw qs dt) := by
  intro d f ⟨ls, st, M, N, S⟩ r h k
  unfold i_sw at h
  dsimp only at h
  simp only [zswOk, Bool.and_eq_true, decide_eq_true_eq] at hok
  obtain ⟨⟨h1, h2⟩, h3⟩ := hok
  split at h
  · rename_i x st
    cases h
    obtain ⟨z1, z2⟩ := zsw_tab pc dflt dt h1 x offs.toList lo (by simpa [Bool.and_eq_true] using h3) qs h2
    refine zG_simple (fun p l e R s m args below meth c H locs cells slots Q lsA base b hx hb ho ht hl k => ?_) k
    by_cases hin : x.toInt < lo ∨ hi < x.toInt
    · exact lv_tableOut hx hb hd hin (by rw [z1 (by omega)]; exact h1) k
    · have hlt : (x.toInt - lo).toNat < offs.toList.length := by omega
      refine lv_tableIn hx hb hd (fun q => hin (Or.inl q)) (fun q => hin (Or.inr q)) (off := offs.toList[(x.toInt - lo).toNat]) ?_ (z2 _ (fun q => hin (Or.inl q)) (List.getElem?_eq_getElem hlt)) k
      rw [← Array.getElem?_toList]
      exact List.getElem?_eq_getElem hlt
  · cases h
/-- the end of a method -/
theorem zG_ret {d : Nat} {md : zM} {pc : Nat} {ls st : List Value} {M : zHp} {N S : Nat} {v : Option Value}
    (h : ∀ (p : Program) (l : Launch) (e : Env) (R : Room) (s : State) (m : MethodId) (args : Array Value) (below : List Frame) (meth : Method) (c : Code) (H : Heap) (locs : List Loc) (cells slots : Nat) (lsA : Array Slot) (base b : Nat) (Qc : Array Value → State → Outcome → State → Prop), p.tables.exec = Jvm.exec → c.code = md.2.1 → meth.locks = false → meth.sig.returnType = md.2.2.2 →
      (∀ t : State, t.heap = H → s.WarmedH t.vm → Qc args s (.returned (v.map (zV base b))) t) → (∀ q ∈ locs, base ≤ q.base) → W p l e R s m args below meth c H locs cells slots (MQ below Qc args s cells slots (fun q => base ≤ q)) (F0 m pc lsA (st.map (zV base b)))) : zGo d md pc (ls, st, M, N, S) (v, M, N, S) :=
  ⟨Nat.le_refl _, Nat.le_refl _, fun p l e R s m args below meth c D aC base b L xs n0 s0 F hx hn hs H locs lsA hw hl => h p l e R s m args below meth c H locs _ _ lsA base b _ hx.1 hx.2.1 hx.2.2.2.2.2.1 hx.2.2.2.2.2.2.1 (fun t ht _ => ⟨rfl, by rw [ht]; exact hw.1, hw.2.2.1, hw.2.2.2, hw.2.1.F ht⟩) hw.2.1.2.2⟩
theorem n_ret {md : zM} {pc : Nat} (hr : md.2.2.2 = some .int) (hd : decode md.2.1 pc = .ok (.ireturn, 1)) (pc' : Nat) : zS md pc pc' i_ret := by
  intro d f ⟨ls, st, M, N, S⟩ r h k
  unfold i_ret at h
  dsimp only at h
  split at h
  · cases h
    cases k
    exact zG_ret (fun p l e R s m args below meth c H locs cells slots lsA base b Qc hx hb hlk hrt hq hf => W.iret hx hb (by rw [hrt, hr]) hq hf hd hlk)
  · cases h
theorem n_zret {md : zM} {pc : Nat} (hr : md.2.2.2 = some .boolean) (hd : decode md.2.1 pc = .ok (.ireturn, 1)) (pc' : Nat) : zS md pc pc' i_zret := by
  intro d f ⟨ls, st, M, N, S⟩ r h k
  unfold i_zret at h
  dsimp only at h
  split at h
  · split at h
    · rename_i h01
      cases h
      cases k
      exact zG_ret (fun p l e R s m args below meth c H locs cells slots lsA base b Qc hx hb hlk hrt hq hf => W.zret (ty := .boolean) hx hb (by rw [hrt, hr]) (by rcases h01 with h | h <;> subst h <;> decide) hq hf hd hlk)
    · cases h
  · cases h
theorem n_lret {md : zM} {pc : Nat} (hr : md.2.2.2 = some .long) (hd : decode md.2.1 pc = .ok (.lreturn, 1)) (pc' : Nat) : zS md pc pc' i_lret := by
  intro d f ⟨ls, st, M, N, S⟩ r h k
  unfold i_lret at h
  dsimp only at h
  split at h
  · cases h
    cases k
    exact zG_ret (fun p l e R s m args below meth c H locs cells slots lsA base b Qc hx hb hlk hrt hq hf => W.lret hx hb (by rw [hrt, hr]) hq hf hd hlk)
  · cases h
theorem n_vret {md : zM} {pc : Nat} (hr : md.2.2.2 = none) (hd : decode md.2.1 pc = .ok (.return_, 1)) (pc' : Nat) : zS md pc pc' i_vret := by
  intro d f ⟨ls, st, M, N, S⟩ r h k
  unfold i_vret at h
  dsimp only at h
  split at h
  · cases h
    cases k
    exact zG_ret (fun p l e R s m args below meth c H locs cells slots lsA base b Qc hx hb hlk hrt hq hf => W.vret hx hb (by rw [hrt, hr]) hq hf hd hlk)
  · cases h
end
section
/-! instructions that read and write the heap -/
def zkin (ci c0 : Nat) : Bool := ci == c0 || (c0 == 3 && (ci == 0 || ci == 1 || ci == 2 || ci == 4 || ci == 7))
def i_getf (c0 k : Nat) : zI := fun c => match c.2.1 with
  | .ref a :: st => match c.2.2.1 a with
    | .inr (ci, fs) => if zkin ci c0 = true then fs[k]?.map fun v => .inl (c.1, v :: st, c.2.2) else none
    | _ => none
  | _ => none
/-- which values a field of that sort takes: 0 int, 1 boolean, 2 long, 3 a reference -/
def zty : Nat → Value → Bool
  | 0, .int _ => true
  | 1, .int x => decide (x = 0 ∨ x = 1)
  | 2, .long _ => true
  | 3, .ref _ => true
  | _, _ => false
def i_putf (c0 k t : Nat) : zI := fun c => match c.2.1 with
  | v :: .ref a :: st => match c.2.2.1 a with
    | .inr (ci, fs) => if zkin ci c0 = true ∧ zty t v = true ∧ k < fs.length then some (.inl (c.1, st, va_up c.2.2.1 a (.inr (ci, fs.set k v)), c.2.2.2)) else none
    | _ => none
  | _ => none
def zix (i : Int32) (n : Nat) : Option Nat := if i < 0 ∨ n ≤ i.toNatClampNeg then none else some i.toNatClampNeg
def i_iald : zI := fun c => match c.2.1 with
  | .int i :: .ref a :: st => match c.2.2.1 a with
    | .inl (t, n, .inl f) => if t = 0 then (zix i n).map fun j => .inl (c.1, .int (f j) :: st, c.2.2) else none
    | _ => none
  | _ => none
def i_bald : zI := fun c => match c.2.1 with
  | .int i :: .ref a :: st => match c.2.2.1 a with
    | .inl (t, n, .inl f) => if t = 1 ∨ t = 2 then (zix i n).map fun j => .inl (c.1, .int (f j) :: st, c.2.2) else none
    | _ => none
  | _ => none
def zrv : Option Nat → Value
  | some k => .ref k
  | none => .null
def i_aald : zI := fun c => match c.2.1 with
  | .int i :: .ref a :: st => match c.2.2.1 a with
    | .inl (t, n, .inr f) => if 3 ≤ t ∧ t ≤ 5 then (zix i n).map fun j => .inl (c.1, zrv (f j) :: st, c.2.2) else none
    | _ => none
  | _ => none
def i_alen : zI := fun c => match c.2.1 with
  | .ref a :: st => match c.2.2.1 a with
    | .inl (t, n, _) => if t ≤ 5 then some (.inl (c.1, .int (nI n) :: st, c.2.2)) else none
    | _ => none
  | _ => none
def i_iast : zI := fun c => match c.2.1 with
  | .int x :: .int i :: .ref a :: st => match c.2.2.1 a with
    | .inl (t, n, .inl f) => if t = 0 ∧ ¬ a = 0 then (zix i n).map fun j => .inl (c.1, st, va_up c.2.2.1 a (.inl (t, n, .inl (upd f j x))), c.2.2.2) else none
    | _ => none
  | _ => none
def i_bast : zI := fun c => match c.2.1 with
  | .int x :: .int i :: .ref a :: st => match c.2.2.1 a with
    | .inl (t, n, .inl f) => if t = 1 then (zix i n).map fun j => .inl (c.1, st, va_up c.2.2.1 a (.inl (1, n, .inl (upd f j x.toInt8.toInt32))), c.2.2.2) else if t = 2 then (zix i n).map fun j => .inl (c.1, st, va_up c.2.2.1 a (.inl (2, n, .inl (upd f j (x &&& 1)))), c.2.2.2) else none
    | _ => none
  | _ => none
def zarr (t ci : Nat) : Bool := (t == 3 && ci == 6) || (t == 4 && ci == 5) || (t == 5 && (ci == 0 || ci == 1 || ci == 2 || ci == 3 || ci == 4 || ci == 7))
def i_aast : zI := fun c => match c.2.1 with
  | .ref v :: .int i :: .ref a :: st => match c.2.2.1 a, c.2.2.1 v with
    | .inl (t, n, .inr f), .inr (ci, _) => if zarr t ci = true then (zix i n).map fun j => .inl (c.1, st, va_up c.2.2.1 a (.inl (t, n, .inr (va_up f j (some v)))), c.2.2.2) else none
    | _, _ => none
  | _ => none
def i_new (ci : Nat) (fs : List Value) : zI := fun c => some (.inl (c.1, .ref (c.2.2.2.1 + 1) :: c.2.1, va_up c.2.2.1 (c.2.2.2.1 + 1) (.inr (ci, fs)), c.2.2.2.1 + 1, c.2.2.2.2 + fs.length))
def i_newa (t : Nat) : zI := fun c => match c.2.1 with
  | .int n :: st => if ¬ n < 0 ∧ n.toNatClampNeg ≤ 100000 then some (.inl (c.1, .ref (c.2.2.2.1 + 1) :: st, va_up c.2.2.1 (c.2.2.2.1 + 1) (.inl (t, n.toNatClampNeg, .inl fun _ => 0)), c.2.2.2.1 + 1, c.2.2.2.2 + n.toNatClampNeg)) else none
  | _ => none
def i_anew (t : Nat) : zI := fun c => match c.2.1 with
  | .int n :: st => if ¬ n < 0 ∧ n.toNatClampNeg ≤ 100000 then some (.inl (c.1, .ref (c.2.2.2.1 + 1) :: st, va_up c.2.2.1 (c.2.2.2.1 + 1) (.inl (t, n.toNatClampNeg, .inr fun _ => none)), c.2.2.2.1 + 1, c.2.2.2.2 + n.toNatClampNeg)) else none
  | _ => none
def zsm : List Value → Bool
  | [] => true
  | [_] => true
  | [_, _] => true
  | [_, _, _] => true
  | [_, _, _, _] => true
  | _ => false
def i_acopy : zI := fun c => match c.2.1 with
  | .int n :: .int dp :: .ref a :: .int sp :: .ref a0 :: st => match c.2.2.1 a0, c.2.2.1 a with
    | .inl (t0, n0, .inl f), .inl (t1, n1, .inl g) => if t0 = 0 ∧ t1 = 0 ∧ ¬ a = 0 ∧ ¬ a0 = 0 ∧ ¬ n < 0 ∧ ¬ sp < 0 ∧ ¬ dp < 0 ∧ sp.toNatClampNeg + n.toNatClampNeg ≤ n0 ∧ dp.toNatClampNeg + n.toNatClampNeg ≤ n1 ∧ zsm st = true then some (.inl (c.1, st, va_up c.2.2.1 a (.inl (0, n1, .inl (va_cpy f g sp.toNatClampNeg dp.toNatClampNeg n.toNatClampNeg))), c.2.2.2)) else none
    | _, _ => none
  | _ => none
theorem zwd_lt {D : va_G} {aC : Nat → ClassId} {base b L : Nat} {xs : Nat → Int32} {M : zHp} {N : Nat} {s : State} {H : Heap} {locs : List Loc} {a : Nat} (hw : zWd D aC base b L xs M N s H locs) (ha : a ≠ 0) (hv : M a ≠ zvoid) : ∃ j, a = j + 1 ∧ j < N ∧ (zW aC base b M N)[j]? = some (base + j, zE aC base b (M (j + 1))) := by
  refine ⟨a - 1, by omega, ?_, ?_⟩
  · rcases Nat.lt_or_ge N a with h | h
    · exact absurd (hw.2.2.2 a h) hv
    · omega
  · refine zW_get ?_
    rcases Nat.lt_or_ge N a with h | h
    · exact absurd (hw.2.2.2 a h) hv
    · omega
theorem zwd_obj {D : va_G} {aC : Nat → ClassId} {base b L : Nat} {xs : Nat → Int32} {M : zHp} {N : Nat} {s : State} {H : Heap} {locs : List Loc} {a ci : Nat} {fs : List Value} (hw : zWd D aC base b L xs M N s H locs) (hm : M a = .inr (ci, fs)) : ∃ j, a = j + 1 ∧ j < N ∧ (zW aC base b M N)[j]? = some (base + j, .inr (ci, fs.map (zV base b))) := by
  obtain ⟨j, rfl, h1, h2⟩ := zwd_lt hw (a := a) (fun h => by subst h; rw [hw.2.2.1] at hm; cases hm) (by rw [hm]; intro h; cases h)
  rw [hm] at h2
  exact ⟨j, rfl, h1, h2⟩
theorem zwd_arr {D : va_G} {aC : Nat → ClassId} {base b L : Nat} {xs : Nat → Int32} {M : zHp} {N : Nat} {s : State} {H : Heap} {locs : List Loc} {a t n : Nat} {r : (Nat → Int32) ⊕ (Nat → Option Nat)} (hw : zWd D aC base b L xs M N s H locs) (hm : M a = .inl (t, n, r)) (ht : t ≠ 9) (ha : a ≠ 0) : ∃ j, a = j + 1 ∧ j < N ∧ (zW aC base b M N)[j]? = some (base + j, .inl (aC t, n, zA base b r)) := by
  obtain ⟨j, rfl, h1, h2⟩ := zwd_lt hw ha (by rw [hm]; intro h; unfold zvoid at h; injection h with h; injection h with h3; exact ht h3)
  rw [hm] at h2
  exact ⟨j, rfl, h1, h2⟩
theorem zkin_ok {ci c0 : Nat} {C0 : String} {T : u_T} {n : Nat} (h : zkin ci c0 = true) (h0 : zCl[c0]? = some (C0, T, n)) : ∃ C, zCl[ci]? = some (C, T, n) := by
  unfold zkin at h
  rw [Bool.or_eq_true] at h
  rcases h with h | h
  · rw [beq_iff_eq] at h
    subst h
    exact ⟨C0, h0⟩
  · simp only [Bool.and_eq_true, Bool.or_eq_true, beq_iff_eq] at h
    obtain ⟨rfl, h⟩ := h
    cases h0
    rcases h with (((rfl | rfl) | rfl) | rfl) | rfl
    · exact ⟨_, rfl⟩
    · exact ⟨_, rfl⟩
    · exact ⟨_, rfl⟩
    · exact ⟨_, rfl⟩
    · exact ⟨_, rfl⟩
theorem zsame {args : Array Value} {s : State} {ref dc nm ds : String} (hts : ∀ w ∈ zgt, w.before args s = true) (h : ref = dc ∨ Cond.sameField ref dc nm ds ∈ zgt) : ∀ x, s.fieldFound? dc nm ds = some x → s.fieldFound? ref nm ds = some x := by
  rcases h with rfl | h
  · exact fun _ h => h
  · exact fun x hx => u_same (hts _ h) x hx
theorem n_getf {md : zM} {pc idx c0 k n : Nat} {C0 ref dc nm ds : String} {T : u_T} {fn : Bool} (h0 : zCl[c0]? = some (C0, T, n)) (hk : k < n) (hT : T k = (dc, nm, ds, fn)) (hl : Cond.fieldLink md.1.cls idx ref nm ds ∈ zgt) (hsm : ref = dc ∨ Cond.sameField ref dc nm ds ∈ zgt) (hd : decode md.2.1 pc = .ok (.getfield idx, 3)) : zS md pc (pc + 3) (i_getf c0 k) := by
  intro d f ⟨ls, st, M, N, S⟩ r h q
  unfold i_getf at h
  dsimp only at h
  split at h
  · rename_i a st
    split at h
    · rename_i ci fs hm
      split at h
      · rename_i hkin
        obtain ⟨v, hv, rfl⟩ := Option.map_eq_some_iff.mp h
        obtain ⟨C, hC⟩ := zkin_ok hkin h0
        have q : zGo d md (pc + 3) (ls, v :: st, M, N, S) f := q
        refine ⟨q.1, q.2.1, fun p l e R s m args below meth c D aC base b L xs n0 s0 F hx hn hs H locs lsA hw hl' => ?_⟩
        obtain ⟨j, rfl, hj, he⟩ := zwd_obj hw hm
        have hb := q.2.2 p l e R s m args below meth c D aC base b L xs n0 s0 F hx hn hs H locs lsA hw hl'
        refine va_get (ref := ref) (C := C) (T := T) (N := n) hx.1 hx.2.1 hx.2.2.2.2.1 (zcls hC).1 hx.2.2.2.1 hx.2.2.2.2.2.2.2.2.1 hw.1 j he hC k hk ?_ ?_ (v := zV base b v) (by rw [List.getElem?_map, hv]; rfl) hd hb
        · rw [hT]; exact hx.2.2.2.2.1 _ hl
        · rw [hT]; exact zsame hx.2.2.2.2.1 hsm
      · cases h
    · cases h
  · cases h
theorem zty_ok {t : Nat} {ty : FieldType} {v : Value} {base b : Nat} (h : zty t v = true) (ht : (t = 0 ∧ ty = .int) ∨ (t = 1 ∧ ty = .boolean) ∨ (t = 2 ∧ ty = .long) ∨ (t = 3 ∧ ((∃ C, ty = .object C) ∨ ∃ e, ty = .array e))) : narrow ty (zV base b v) = zV base b v ∧ fits ty (zV base b v) = true := by
  rcases ht with ⟨rfl, rfl⟩ | ⟨rfl, rfl⟩ | ⟨rfl, rfl⟩ | ⟨rfl, h2⟩
  · cases v <;> first | exact ⟨rfl, rfl⟩ | cases h
  · cases v with
    | int x =>
      have h : x = 0 ∨ x = 1 := by simpa [zty] using h
      rcases h with rfl | rfl
      · exact ⟨rfl, rfl⟩
      · exact ⟨rfl, rfl⟩
    | _ => cases h
  · cases v <;> first | exact ⟨rfl, rfl⟩ | cases h
  · rcases h2 with ⟨C, rfl⟩ | ⟨e, rfl⟩
    · cases v <;> first | exact ⟨rfl, rfl⟩ | cases h
    · cases v <;> first | exact ⟨rfl, rfl⟩ | cases h
theorem zwd_put {D : va_G} {aC : Nat → ClassId} {base b L : Nat} {xs : Nat → Int32} {M : zHp} {N : Nat} {s : State} {H H1 : Heap} {locs locs1 : List Loc} {j : Nat} {c : zAC} (hw : zWd D aC base b L xs M N s H locs) (hj : j < N) (hP : va_P D zCl ((zW aC base b M N).set j (base + j, zE aC base b c)) H1) (hS : va_S (fun q => base ≤ q) s.heap H1 locs1) : zWd D aC base b L xs (va_up M (j + 1) c) N s H1 locs1 := by
  rw [zW_set c hj] at hP
  refine ⟨hP, hS, ?_, fun k hk => ?_⟩
  · unfold va_up
    rw [if_neg (by omega)]
    exact hw.2.2.1
  · unfold va_up
    rw [if_neg (by omega)]
    exact hw.2.2.2 k hk
theorem n_putf {md : zM} {pc idx c0 k n t : Nat} {C0 ref dc nm ds : String} {T : u_T} {fn : Bool} {ty : FieldType} (h0 : zCl[c0]? = some (C0, T, n)) (hk : k < n) (hT : T k = (dc, nm, ds, fn)) (hl : Cond.fieldLink md.1.cls idx ref nm ds ∈ zgt) (hsm : ref = dc ∨ Cond.sameField ref dc nm ds ∈ zgt) (hfn : fn = false ∨ (md.1.name = "<init>" ∧ dc = md.1.cls))
    (hty : parseFieldDescriptor ds = some ty) (ht : (t = 0 ∧ ty = .int) ∨ (t = 1 ∧ ty = .boolean) ∨ (t = 2 ∧ ty = .long) ∨ (t = 3 ∧ ((∃ C, ty = .object C) ∨ ∃ e, ty = .array e))) (hd : decode md.2.1 pc = .ok (.putfield idx, 3)) : zS md pc (pc + 3) (i_putf c0 k t) := by
  intro d f ⟨ls, st, M, N, S⟩ r h q
  unfold i_putf at h
  dsimp only at h
  split at h
  · rename_i v a st
    split at h
    · rename_i ci fs hm
      split at h
      · rename_i hc3
        obtain ⟨hkin, hzt, hlen⟩ := hc3
        cases h
        obtain ⟨C, hC⟩ := zkin_ok hkin h0
        have q : zGo d md (pc + 3) (ls, st, va_up M a (.inr (ci, fs.set k v)), N, S) f := q
        refine ⟨q.1, q.2.1, fun p l e R s m args below meth c D aC base b L xs n0 s0 F hx hn hs H locs lsA hw hl' => ?_⟩
        obtain ⟨j, rfl, hj, he⟩ := zwd_obj hw hm
        obtain ⟨hcin, ⟨tyf, htyf⟩, hnm, -, -⟩ := zcls hC
        obtain ⟨hnar, hfit⟩ := zty_ok (base := base) (b := b) hzt ht
        have hlk : (Cond.fieldLink md.1.cls idx ref (T k).2.1 (T k).2.2.1).before args s = true := by rw [hT]; exact hx.2.2.2.2.1 _ hl
        have hsame : ∀ x, s.fieldFound? (T k).1 (T k).2.1 (T k).2.2.1 = some x → s.fieldFound? ref (T k).2.1 (T k).2.2.1 = some x := by rw [hT]; exact zsame hx.2.2.2.2.1 hsm
        have hgo : ∀ (H1 : Heap) (locs1 : List Loc), va_P D zCl ((zW aC base b M N).set j (base + j, .inr (ci, (fs.map (zV base b)).set k (zV base b v)))) H1 → va_D (fun q => base ≤ q) ((zW aC base b M N).set j (base + j, .inr (ci, (fs.map (zV base b)).set k (zV base b v)))) → va_S (fun q => base ≤ q) s.heap H1 locs1 → W p l e R s m args below meth c H1 locs1 (N - n0) (S - s0) (MQ below (zQ D aC base b L xs f) args s (f.2.2.1 - n0) (f.2.2.2 - s0) (fun q => base ≤ q)) (F0 m (pc + 3) lsA (st.map (zV base b))) := by
          intro H1 locs1 hP1 _ hS1
          refine q.2.2 p l e R s m args below meth c D aC base b L xs n0 s0 F hx hn hs H1 locs1 lsA (zwd_put hw hj (c := .inr (ci, fs.set k v)) ?_ hS1) hl'
          rw [show zE aC base b (.inr (ci, fs.set k v)) = .inr (ci, (fs.map (zV base b)).set k (zV base b v)) by simp [zE, List.map_set]]
          exact hP1
        rcases hfn with rfl | ⟨hi1, hi2⟩
        · exact va_put (ref := ref) (C := C) (T := T) (N := n) hx.1 hx.2.1 hx.2.2.2.2.1 hcin tyf htyf hnm hx.2.2.2.1 hx.2.2.2.2.2.2.2.2.1 hw.1 (zW_D aC base b M N) hw.2.1 j he hC k hk hlk hsame (by rw [hT]) (ty := ty) (by rw [hT]; exact hty) hnar hfit (by simpa using hlen) hd hgo
        · cases fn with
          | false => exact va_put (ref := ref) (C := C) (T := T) (N := n) hx.1 hx.2.1 hx.2.2.2.2.1 hcin tyf htyf hnm hx.2.2.2.1 hx.2.2.2.2.2.2.2.2.1 hw.1 (zW_D aC base b M N) hw.2.1 j he hC k hk hlk hsame (by rw [hT]) (ty := ty) (by rw [hT]; exact hty) hnar hfit (by simpa using hlen) hd hgo
          | true => exact va_putF (ref := ref) (C := C) (T := T) (N := n) hx.1 hx.2.1 hx.2.2.2.2.1 hcin tyf htyf hnm hx.2.2.2.1 hx.2.2.2.2.2.2.2.2.1 hw.1 (zW_D aC base b M N) hw.2.1 j he hC k hk hlk hsame (by rw [hT]) (hx.2.2.2.2.2.2.2.1 hi1) (by rw [hT]; exact hi2) (ty := ty) (by rw [hT]; exact hty) hnar hfit (by simpa using hlen) hd hgo
      · cases h
    · cases h
  · cases h
theorem zix_in {i : Int32} {n j : Nat} (h : zix i n = some j) : vp_in i n ∧ j = i.toNatClampNeg := by
  unfold zix at h
  split at h
  · cases h
  · rename_i hn
    cases h
    exact ⟨hn, rfl⟩
theorem n_iald {md : zM} {pc : Nat} (hd : decode md.2.1 pc = .ok (.iaload, 1)) : zS md pc (pc + 1) i_iald := by
  intro d f ⟨ls, st, M, N, S⟩ r h q
  unfold i_iald at h
  dsimp only at h
  split at h
  · rename_i i a st
    split at h
    · rename_i t n g hm
      by_cases ht0 : t = 0
      rotate_left
      · rw [if_neg ht0] at h
        cases h
      subst ht0
      rw [if_pos rfl] at h
      obtain ⟨j, hj, rfl⟩ := Option.map_eq_some_iff.mp h
      obtain ⟨hin, rfl⟩ := zix_in hj
      have q : zGo d md (pc + 1) (ls, .int (g i.toNatClampNeg) :: st, M, N, S) f := q
      refine ⟨q.1, q.2.1, fun p l e R s m args below meth c D aC base b L xs n0 s0 F hx hn hs H locs lsA hw hl' => ?_⟩
      have hb := q.2.2 p l e R s m args below meth c D aC base b L xs n0 s0 F hx hn hs H locs lsA hw hl'
      by_cases ha : a = 0
      · subst ha
        have hm := hw.2.2.1.symm.trans hm
        injection hm with hm; injection hm with _ hm; injection hm with e1 e2; injection e2 with e2
        subst e1; subst e2
        exact va_sld (b := b) (xs := xs) hx.1 hx.2.1 hx.2.2.2.2.2.2.2.2.2.1 (by have := hx.2.2.2.2.2.2.2.2.2.2.2.1; have := hx.2.2.2.2.2.2.2.2.2.2.1; omega) (A := fun q => base ≤ q) (by have := hx.2.2.2.2.2.2.2.2.2.2.1; omega) hw.2.1 hin hd hb
      · obtain ⟨j, rfl, hj, he⟩ := zwd_arr hw hm (by decide) ha
        exact va_iald hx.1 hx.2.1 hx.2.2.2.2.2.2.2.2.1 hw.1 j 0 he rfl hin hd hb
    · cases h
  · cases h
theorem n_alen {md : zM} {pc : Nat} (hd : decode md.2.1 pc = .ok (.arraylength, 1)) : zS md pc (pc + 1) i_alen := by
  intro d f ⟨ls, st, M, N, S⟩ r h q
  unfold i_alen at h
  dsimp only at h
  split at h
  · rename_i a st
    split at h
    · rename_i t n g hm
      split at h
      · rename_i ht5
        cases h
        have q : zGo d md (pc + 1) (ls, .int (nI n) :: st, M, N, S) f := q
        refine ⟨q.1, q.2.1, fun p l e R s m args below meth c D aC base b L xs n0 s0 F hx hn hs H locs lsA hw hl' => ?_⟩
        have hb := q.2.2 p l e R s m args below meth c D aC base b L xs n0 s0 F hx hn hs H locs lsA hw hl'
        by_cases ha : a = 0
        · subst ha
          have hm := hw.2.2.1.symm.trans hm
          injection hm with hm; injection hm with _ hm; injection hm with e1 e2
          subst e1
          exact va_slen (b := b) (xs := xs) hx.1 hx.2.1 hx.2.2.2.2.2.2.2.2.2.1 (by have := hx.2.2.2.2.2.2.2.2.2.2.2.1; have := hx.2.2.2.2.2.2.2.2.2.2.1; omega) (A := fun q => base ≤ q) (by have := hx.2.2.2.2.2.2.2.2.2.2.1; omega) hw.2.1 hd hb
        · obtain ⟨j, rfl, hj, he⟩ := zwd_arr hw hm (by omega) ha
          rcases (show t = 0 ∨ t = 1 ∨ t = 2 ∨ t = 3 ∨ t = 4 ∨ t = 5 by omega) with rfl | rfl | rfl | rfl | rfl | rfl
          · exact va_alen hx.1 hx.2.1 hx.2.2.2.2.2.2.2.2.1 hw.1 j 0 he rfl rfl hd hb
          · exact va_alen hx.1 hx.2.1 hx.2.2.2.2.2.2.2.2.1 hw.1 j 1 he rfl rfl hd hb
          · exact va_alen hx.1 hx.2.1 hx.2.2.2.2.2.2.2.2.1 hw.1 j 2 he rfl rfl hd hb
          · exact va_alen hx.1 hx.2.1 hx.2.2.2.2.2.2.2.2.1 hw.1 j 3 he rfl rfl hd hb
          · exact va_alen hx.1 hx.2.1 hx.2.2.2.2.2.2.2.2.1 hw.1 j 4 he rfl rfl hd hb
          · exact va_alen hx.1 hx.2.1 hx.2.2.2.2.2.2.2.2.1 hw.1 j 5 he rfl rfl hd hb
      · cases h
    · cases h
  · cases h
theorem n_bald {md : zM} {pc : Nat} (hd : decode md.2.1 pc = .ok (.baload, 1)) : zS md pc (pc + 1) i_bald := by
  intro d f ⟨ls, st, M, N, S⟩ r h q
  unfold i_bald at h
  dsimp only at h
  split at h
  · rename_i i a st
    split at h
    · rename_i t n g hm
      by_cases ht0 : t = 1 ∨ t = 2
      rotate_left
      · rw [if_neg ht0] at h
        cases h
      rcases ht0 with rfl | rfl
      · rw [if_pos (Or.inl rfl)] at h
        obtain ⟨j, hj, rfl⟩ := Option.map_eq_some_iff.mp h
        obtain ⟨hin, rfl⟩ := zix_in hj
        have q : zGo d md (pc + 1) (ls, .int (g i.toNatClampNeg) :: st, M, N, S) f := q
        refine ⟨q.1, q.2.1, fun p l e R s m args below meth c D aC base b L xs n0 s0 F hx hn hs H locs lsA hw hl' => ?_⟩
        have hb := q.2.2 p l e R s m args below meth c D aC base b L xs n0 s0 F hx hn hs H locs lsA hw hl'
        obtain ⟨j, rfl, hj, he⟩ := zwd_arr hw hm (by decide) (fun h => by subst h; have hm := hw.2.2.1.symm.trans hm; injection hm with hm; injection hm with hm; cases hm)
        exact va_bald hx.1 hx.2.1 hx.2.2.2.2.2.2.2.2.1 hw.1 j 1 he rfl hin hd hb
      · rw [if_pos (Or.inr rfl)] at h
        obtain ⟨j, hj, rfl⟩ := Option.map_eq_some_iff.mp h
        obtain ⟨hin, rfl⟩ := zix_in hj
        have q : zGo d md (pc + 1) (ls, .int (g i.toNatClampNeg) :: st, M, N, S) f := q
        refine ⟨q.1, q.2.1, fun p l e R s m args below meth c D aC base b L xs n0 s0 F hx hn hs H locs lsA hw hl' => ?_⟩
        have hb := q.2.2 p l e R s m args below meth c D aC base b L xs n0 s0 F hx hn hs H locs lsA hw hl'
        obtain ⟨j, rfl, hj, he⟩ := zwd_arr hw hm (by decide) (fun h => by subst h; have hm := hw.2.2.1.symm.trans hm; injection hm with hm; injection hm with hm; cases hm)
        exact va_zald hx.1 hx.2.1 hx.2.2.2.2.2.2.2.2.1 hw.1 j 2 he rfl hin hd hb
    · cases h
  · cases h
theorem zrv_up (base b : Nat) (o : Option Nat) : va_rf (o.map (zAd base b)) = zV base b (zrv o) := by cases o <;> rfl
theorem n_aald {md : zM} {pc : Nat} (hd : decode md.2.1 pc = .ok (.aaload, 1)) : zS md pc (pc + 1) i_aald := by
  intro d f ⟨ls, st, M, N, S⟩ r h q
  unfold i_aald at h
  dsimp only at h
  split at h
  · rename_i i a st
    split at h
    · rename_i t n g hm
      split at h
      · rename_i ht
        obtain ⟨j, hj, rfl⟩ := Option.map_eq_some_iff.mp h
        obtain ⟨hin, rfl⟩ := zix_in hj
        have q : zGo d md (pc + 1) (ls, zrv (g i.toNatClampNeg) :: st, M, N, S) f := q
        refine ⟨q.1, q.2.1, fun p l e R s m args below meth c D aC base b L xs n0 s0 F hx hn hs H locs lsA hw hl' => ?_⟩
        have hb := q.2.2 p l e R s m args below meth c D aC base b L xs n0 s0 F hx hn hs H locs lsA hw hl'
        obtain ⟨j, rfl, hj, he⟩ := zwd_arr hw hm (by omega) (fun h => by subst h; have hm := hw.2.2.1.symm.trans hm; injection hm with hm; injection hm with _ hm; injection hm with _ hm; cases hm)
        have hb : W p l e R s m args below meth c H locs (N - n0) (S - s0) (MQ below (zQ D aC base b L xs f) args s (f.2.2.1 - n0) (f.2.2.2 - s0) (fun q => base ≤ q)) (F0 m (pc + 1) lsA (va_rf ((g i.toNatClampNeg).map (zAd base b)) :: st.map (zV base b))) := by rw [zrv_up]; exact hb
        rcases (show t = 3 ∨ t = 4 ∨ t = 5 by omega) with rfl | rfl | rfl
        · exact va_aldq hx.1 hx.2.1 hx.2.2.2.2.2.2.2.2.1 hw.1 j 3 he rfl hin hd hb
        · exact va_aldq hx.1 hx.2.1 hx.2.2.2.2.2.2.2.2.1 hw.1 j 4 he rfl hin hd hb
        · exact va_aldq hx.1 hx.2.1 hx.2.2.2.2.2.2.2.2.1 hw.1 j 5 he rfl hin hd hb
      · cases h
    · cases h
  · cases h
theorem n_iast {md : zM} {pc : Nat} (hd : decode md.2.1 pc = .ok (.iastore, 1)) : zS md pc (pc + 1) i_iast := by
  intro d f ⟨ls, st, M, N, S⟩ r h q
  unfold i_iast at h
  dsimp only at h
  split at h
  · rename_i x i a st
    split at h
    · rename_i t n g hm
      split at h
      rotate_left
      · cases h
      · rename_i ha
        obtain ⟨rfl, ha⟩ := ha
        obtain ⟨j, hj, rfl⟩ := Option.map_eq_some_iff.mp h
        obtain ⟨hin, rfl⟩ := zix_in hj
        have q : zGo d md (pc + 1) (ls, st, va_up M a (.inl (0, n, .inl (upd g i.toNatClampNeg x))), N, S) f := q
        refine ⟨q.1, q.2.1, fun p l e R s m args below meth c D aC base b L xs n0 s0 F hx hn hs H locs lsA hw hl' => ?_⟩
        obtain ⟨j, rfl, hj, he⟩ := zwd_arr hw hm (by decide) ha
        exact va_iast hx.1 hx.2.1 hx.2.2.2.2.2.2.2.2.1 hw.1 (zW_D aC base b M N) hw.2.1 j 0 he rfl hin hd (fun H1 locs1 hP1 _ hS1 => q.2.2 p l e R s m args below meth c D aC base b L xs n0 s0 F hx hn hs H1 locs1 lsA (zwd_put hw hj hP1 hS1) hl')
    · cases h
  · cases h
theorem n_bast {md : zM} {pc : Nat} (hd : decode md.2.1 pc = .ok (.bastore, 1)) : zS md pc (pc + 1) i_bast := by
  intro d f ⟨ls, st, M, N, S⟩ r h q
  unfold i_bast at h
  dsimp only at h
  split at h
  · rename_i x i a st
    split at h
    · rename_i t n g hm
      by_cases ht0 : t = 1 ∨ t = 2
      rotate_left
      · rw [if_neg (fun e => ht0 (Or.inl e)), if_neg (fun e => ht0 (Or.inr e))] at h
        cases h
      rcases ht0 with rfl | rfl
      · rw [if_pos rfl] at h
        obtain ⟨j, hj, rfl⟩ := Option.map_eq_some_iff.mp h
        obtain ⟨hin, rfl⟩ := zix_in hj
        have q : zGo d md (pc + 1) (ls, st, va_up M a (.inl (1, n, .inl (upd g i.toNatClampNeg x.toInt8.toInt32))), N, S) f := q
        refine ⟨q.1, q.2.1, fun p l e R s m args below meth c D aC base b L xs n0 s0 F hx hn hs H locs lsA hw hl' => ?_⟩
        obtain ⟨j, rfl, hj, he⟩ := zwd_arr hw hm (by decide) (fun h => by subst h; have hm := hw.2.2.1.symm.trans hm; injection hm with hm; injection hm with hm; cases hm)
        exact va_bast hx.1 hx.2.1 hx.2.2.2.2.2.2.2.2.1 hw.1 (zW_D aC base b M N) hw.2.1 j 1 he rfl hin hd (fun H1 locs1 hP1 _ hS1 => q.2.2 p l e R s m args below meth c D aC base b L xs n0 s0 F hx hn hs H1 locs1 lsA (zwd_put hw hj (by rw [vp_nar_byte] at hP1; exact hP1) hS1) hl')
      · rw [if_neg (by decide), if_pos rfl] at h
        obtain ⟨j, hj, rfl⟩ := Option.map_eq_some_iff.mp h
        obtain ⟨hin, rfl⟩ := zix_in hj
        have q : zGo d md (pc + 1) (ls, st, va_up M a (.inl (2, n, .inl (upd g i.toNatClampNeg (x &&& 1)))), N, S) f := q
        refine ⟨q.1, q.2.1, fun p l e R s m args below meth c D aC base b L xs n0 s0 F hx hn hs H locs lsA hw hl' => ?_⟩
        obtain ⟨j, rfl, hj, he⟩ := zwd_arr hw hm (by decide) (fun h => by subst h; have hm := hw.2.2.1.symm.trans hm; injection hm with hm; injection hm with hm; cases hm)
        exact va_zast hx.1 hx.2.1 hx.2.2.2.2.2.2.2.2.1 hw.1 (zW_D aC base b M N) hw.2.1 j 2 he rfl hin hd (fun H1 locs1 hP1 _ hS1 => q.2.2 p l e R s m args below meth c D aC base b L xs n0 s0 F hx hn hs H1 locs1 lsA (zwd_put hw hj hP1 hS1) hl')
    · cases h
  · cases h
theorem n_aast {md : zM} {pc : Nat} (hd : decode md.2.1 pc = .ok (.aastore, 1)) : zS md pc (pc + 1) i_aast := by
  intro d f ⟨ls, st, M, N, S⟩ r h q
  unfold i_aast at h
  dsimp only at h
  split at h
  · rename_i v i a st
    split at h
    · rename_i t n g ci fs hm hmv
      split at h
      · rename_i hz
        obtain ⟨j, hj, rfl⟩ := Option.map_eq_some_iff.mp h
        obtain ⟨hin, rfl⟩ := zix_in hj
        have q : zGo d md (pc + 1) (ls, st, va_up M a (.inl (t, n, .inr (va_up g i.toNatClampNeg (some v)))), N, S) f := q
        refine ⟨q.1, q.2.1, fun p l e R s m args below meth c D aC base b L xs n0 s0 F hx hn hs H locs lsA hw hl' => ?_⟩
        obtain ⟨j, rfl, hj, he⟩ := zwd_arr hw hm (by intro h9; subst h9; simp [zarr] at hz) (fun h => by subst h; have hm := hw.2.2.1.symm.trans hm; injection hm with hm; injection hm with _ hm; injection hm with _ hm; cases hm)
        obtain ⟨jv, rfl, hjv, hev⟩ := zwd_obj hw hmv
        have hE : zE aC base b (.inl (t, n, .inr (va_up g i.toNatClampNeg (some (jv + 1))))) = .inl (aC t, n, .inr (.inr (.inr (.inr (va_up (fun j => (g j).map (zAd base b)) i.toNatClampNeg (some (base + jv))))))) := by
          simp only [zE, zA]
          congr 7
          funext y
          unfold va_up
          split <;> rfl
        have hgo : ∀ (H1 : Heap) (locs1 : List Loc), va_P D zCl ((zW aC base b M N).set j (base + j, .inl (aC t, n, .inr (.inr (.inr (.inr (va_up (fun j => (g j).map (zAd base b)) i.toNatClampNeg (some (base + jv))))))))) H1 → va_D (fun q => base ≤ q) ((zW aC base b M N).set j (base + j, .inl (aC t, n, .inr (.inr (.inr (.inr (va_up (fun j => (g j).map (zAd base b)) i.toNatClampNeg (some (base + jv))))))))) → va_S (fun q => base ≤ q) s.heap H1 locs1 → W p l e R s m args below meth c H1 locs1 (N - n0) (S - s0) (MQ below (zQ D aC base b L xs f) args s (f.2.2.1 - n0) (f.2.2.2 - s0) (fun q => base ≤ q)) (F0 m (pc + 1) lsA (st.map (zV base b))) := by
          intro H1 locs1 hP1 _ hS1
          rw [← hE] at hP1
          exact q.2.2 p l e R s m args below meth c D aC base b L xs n0 s0 F hx hn hs H1 locs1 lsA (zwd_put hw hj hP1 hS1) hl'
        have hbd : zBd s := hx.2.2.2.2.2.2.2.2.2.2.2.2.2.2.2.2.2
        simp only [zarr, Bool.or_eq_true, Bool.and_eq_true, beq_iff_eq] at hz
        rcases hz with (⟨rfl, rfl⟩ | ⟨rfl, rfl⟩) | ⟨rfl, ((((rfl | rfl) | rfl) | rfl) | rfl) | rfl⟩
        · exact va_astq hx.1 hx.2.1 hx.2.2.2.2.2.2.2.2.1 hw.1 (zW_D aC base b M N) hw.2.1 j 3 jv 6 (r := ("OneDoor$Now", zT6, 7)) he rfl hev rfl hin hd hgo
        · exact va_astq hx.1 hx.2.1 hx.2.2.2.2.2.2.2.2.1 hw.1 (zW_D aC base b M N) hw.2.1 j 4 jv 5 (r := ("OneDoor$Life", zT5, 3)) he rfl hev rfl hin hd hgo
        · exact va_astqO hx.1 hx.2.1 hx.2.2.2.2.2.2.2.2.1 hw.1 (zW_D aC base b M N) hw.2.1 j 5 jv 0 (r := ("OneDoor$Attic", zT3, 3)) he rfl hbd.2.2.2.2.2.2.2.2.2.2 hev rfl hin hd hgo
        · exact va_astqO hx.1 hx.2.1 hx.2.2.2.2.2.2.2.2.1 hw.1 (zW_D aC base b M N) hw.2.1 j 5 jv 1 (r := ("OneDoor$Bath", zT3, 3)) he rfl hbd.2.2.2.2.2.2.2.1 hev rfl hin hd hgo
        · exact va_astqO hx.1 hx.2.1 hx.2.2.2.2.2.2.2.2.1 hw.1 (zW_D aC base b M N) hw.2.1 j 5 jv 2 (r := ("OneDoor$Curtain", zT3, 3)) he rfl hbd.2.2.2.2.2.2.2.2.2.1 hev rfl hin hd hgo
        · exact va_astq hx.1 hx.2.1 hx.2.2.2.2.2.2.2.2.1 hw.1 (zW_D aC base b M N) hw.2.1 j 5 jv 3 (r := ("OneDoor$Hall", zT3, 3)) he rfl hev rfl hin hd hgo
        · exact va_astqO hx.1 hx.2.1 hx.2.2.2.2.2.2.2.2.1 hw.1 (zW_D aC base b M N) hw.2.1 j 5 jv 4 (r := ("OneDoor$Kitchen", zT3, 3)) he rfl hbd.2.2.2.2.2.2.1 hev rfl hin hd hgo
        · exact va_astqO hx.1 hx.2.1 hx.2.2.2.2.2.2.2.2.1 hw.1 (zW_D aC base b M N) hw.2.1 j 5 jv 7 (r := ("OneDoor$Piano", zT3, 3)) he rfl hbd.2.2.2.2.2.2.2.2.1 hev rfl hin hd hgo
      · cases h
    · cases h
  · cases h
theorem znew_q {base b N q : Nat} {aC : Nat → ClassId} {M : zHp} {D : va_G} {e : va_E} {H1 : Heap} (hP : va_P D zCl (zW aC base b M N ++ [(q, e)]) H1) (hD : va_D (fun q => base ≤ q) (zW aC base b M N ++ [(q, e)])) (hsz : H1.size ≤ base + N + 1) : q = base + N := by
  have hg : (zW aC base b M N ++ [(q, e)])[N]? = some (q, e) := by
    rw [List.getElem?_append_right (by rw [zW_len]; omega), zW_len]
    simp
  have h1 : base ≤ q := hD.2 N (q, e) hg
  have h2 : q < H1.size := (hP N (q, e) hg).lt
  rcases Nat.lt_or_ge q (base + N) with h | h
  · exfalso
    have hk : (zW aC base b M N ++ [(q, e)])[q - base]? = some (base + (q - base), zE aC base b (M (q - base + 1))) := by
      rw [List.getElem?_append_left (by rw [zW_len]; omega)]
      exact zW_get (by omega)
    have := hD.1 (q - base) N _ _ hk hg (by show base + (q - base) = q; omega)
    omega
  · omega
theorem zwd_new {D : va_G} {aC : Nat → ClassId} {base b L : Nat} {xs : Nat → Int32} {M : zHp} {N : Nat} {s : State} {H H1 : Heap} {locs : List Loc} {c : zAC} (hw : zWd D aC base b L xs M N s H locs) (hP : va_P D zCl (zW aC base b M N ++ [(base + N, zE aC base b c)]) H1) (hS : va_S (fun q => base ≤ q) s.heap H1 locs) : zWd D aC base b L xs (va_up M (N + 1) c) (N + 1) s H1 locs := by
  rw [zW_push c] at hP
  refine ⟨hP, hS, ?_, fun k hk => ?_⟩
  · unfold va_up
    rw [if_neg (by omega)]
    exact hw.2.2.1
  · unfold va_up
    rw [if_neg (by omega)]
    exact hw.2.2.2 k (by omega)
theorem zdef_map (base b : Nat) : ∀ (fs : List Value), fs.all (fun v => decide (v = .null ∨ v = .int 0 ∨ v = .long 0)) = true → fs.map (zV base b) = fs
  | [], _ => rfl
  | v :: fs, h => by
    rw [List.all_cons, Bool.and_eq_true] at h
    rw [List.map_cons, zdef_map base b fs h.2]
    have h1 : v = .null ∨ v = .int 0 ∨ v = .long 0 := by simpa using h.1
    rcases h1 with rfl | rfl | rfl <;> rfl
theorem n_new {md : zM} {pc idx ci n : Nat} {C : String} {T : u_T} {fs : List Value} (hC : zCl[ci]? = some (C, T, n)) (hl : Cond.classLink md.1.cls idx C ∈ zgt) (hn : fs.length = n) (hdf : fs.all (fun v => decide (v = .null ∨ v = .int 0 ∨ v = .long 0)) = true) (ty : Nat → FieldType) (hty : ∀ k, k < n → parseFieldDescriptor (T k).2.2.1 = some (ty k)) (hfs : ∀ j, j < n → defaultValue (ty j) = vp_V fs j) (hd : decode md.2.1 pc = .ok (.new idx, 3)) : zS md pc (pc + 3) (i_new ci fs) := by
  intro d f ⟨ls, st, M, N, S⟩ r h q
  cases h
  have q : zGo d md (pc + 3) (ls, .ref (N + 1) :: st, va_up M (N + 1) (.inr (ci, fs)), N + 1, S + fs.length) f := q
  have q1 : N + 1 ≤ f.2.2.1 := q.1
  have q2 : S + fs.length ≤ f.2.2.2 := q.2.1
  refine ⟨by show N ≤ _; omega, by show S ≤ _; omega, fun p l e R s m args below meth c D aC base b L xs n0 s0 F hx hn0 hs0 H locs lsA hw hl' => ?_⟩
  have hn0 : n0 ≤ N := hn0
  have hs0 : s0 ≤ S := hs0
  have hw : zWd D aC base b L xs M N s H locs := hw
  have hsz := hx.2.2.2.2.2.2.2.2.2.2.2.1
  have hcl := hx.2.2.2.2.2.2.2.2.2.2.2.2.1
  have hsl := hx.2.2.2.2.2.2.2.2.2.2.2.2.2.1
  obtain ⟨hcin, -, -, hinst, hini⟩ := zcls hC
  refine va_new (ci := ci) (fs := fs) (C := C) (T := T) (N := n) hx.1 hx.2.1 hx.2.2.2.2.1 hcin ty hty hx.2.2.2.1 (hx.2.2.2.2.1 _ hl) (hx.2.2.2.2.1 _ hinst) (hx.2.2.2.2.1 _ hini) hx.2.2.2.2.2.2.2.2.1 hw.1 (zW_D aC base b M N) hw.2.1 (fun q hq => by have hq : s.heap.size ≤ q := hq; show base ≤ q; omega) hC hfs (by show N - n0 + 1 ≤ _; omega) (by show S - s0 + n ≤ _; omega) hd ?_
  intro q0 H1 hP1 hD1 hS1 T1 hT1 X1
  have hh := X1.heapSize
  have hh : T1.heap.size ≤ s.heap.size + (N - n0 + 1) := hh
  rw [hT1] at hh
  obtain rfl := znew_q hP1 hD1 (by omega)
  have e1 : N + 1 - n0 = N - n0 + 1 := by omega
  have e2 : S + fs.length - s0 = S - s0 + n := by omega
  have hE : zE aC base b (.inr (ci, fs)) = .inr (ci, fs) := by simp only [zE]; rw [zdef_map base b fs hdf]
  have K := q.2.2 p l e R s m args below meth c D aC base b L xs n0 s0 F hx (by show n0 ≤ N + 1; omega) (by show s0 ≤ S + fs.length; omega) H1 locs lsA (zwd_new hw (by rw [hE]; exact hP1) hS1) hl'
  have K : W p l e R s m args below meth c H1 locs (N + 1 - n0) (S + fs.length - s0) (MQ below (zQ D aC base b L xs f) args s (f.2.2.1 - n0) (f.2.2.2 - s0) (fun q => base ≤ q)) (F0 m (pc + 3) lsA (.ref (base + N) :: st.map (zV base b))) := K
  rw [e1, e2] at K
  exact K T1 hT1 X1
theorem zRA_uniq {s : State} {c1 c2 : ClassId} {ty : FieldType} (h1 : va_RA s c1 ty) (h2 : va_RA s c2 ty) : c1 = c2 := by
  cases ty with
  | object C =>
    obtain ⟨_, _, _, _, _, a⟩ := h1
    obtain ⟨_, _, _, _, _, b⟩ := h2
    exact Option.some.inj (a.symm.trans b)
  | _ =>
    have a : s.vm.findClass _ = some c1 := h1
    have b : s.vm.findClass _ = some c2 := h2
    exact Option.some.inj (a.symm.trans b)
theorem n_newa {md : zM} {pc t : Nat} {aty : ArrayType} {ty : FieldType} (hty : newarray.typeOf aty = ty) (hw0 : Cond.arrayClass ty ∈ zgt) (ht : ∀ aC : Nat → ClassId, (zTys aC)[t]? = some (aC t, ty)) (hdf : defaultValue ty = .int 0) (hby : componentBytes ty ≤ 4) (hd : decode md.2.1 pc = .ok (.newarray aty, 2)) : zS md pc (pc + 2) (i_newa t) := by
  intro d f ⟨ls, st, M, N, S⟩ r h q
  unfold i_newa at h
  dsimp only at h
  split at h
  · rename_i n st
    split at h
    · rename_i hnn
      obtain ⟨hnn, hbig⟩ := hnn
      cases h
      have q : zGo d md (pc + 2) (ls, .ref (N + 1) :: st, va_up M (N + 1) (.inl (t, n.toNatClampNeg, .inl fun _ => 0)), N + 1, S + n.toNatClampNeg) f := q
      have q1 : N + 1 ≤ f.2.2.1 := q.1
      have q2 : S + n.toNatClampNeg ≤ f.2.2.2 := q.2.1
      refine ⟨by show N ≤ _; omega, by show S ≤ _; omega, fun p l e R s m args below meth c D aC base b L xs n0 s0 F hx hn0 hs0 H locs lsA hw hl' => ?_⟩
      have hn0 : n0 ≤ N := hn0
      have hs0 : s0 ≤ S := hs0
      have hw : zWd D aC base b L xs M N s H locs := hw
      have hsz := hx.2.2.2.2.2.2.2.2.2.2.2.1
      have hcl := hx.2.2.2.2.2.2.2.2.2.2.2.2.1
      have hsl := hx.2.2.2.2.2.2.2.2.2.2.2.2.2.1
      refine va_newa (atype := aty) hx.1 hx.2.1 (by rw [hty]; exact hx.2.2.2.2.1 _ hw0) hty hx.2.2.2.2.2.2.2.2.1 hw.1 (zW_D aC base b M N) hw.2.1 (fun q hq => by have hq : s.heap.size ≤ q := hq; show base ≤ q; omega) (a0 := (n.toNatClampNeg, .inl fun _ => 0)) (fun cA => by rw [hdf]; rfl) hnn rfl (by have := Nat.mul_le_mul hbig hby; omega) (by show N - n0 + 1 ≤ _; omega) (by show S - s0 + n.toNatClampNeg ≤ _; omega) hd ?_
      intro q0 cA H1 hK1 hP1 hD1 hS1 T1 hT1 X1
      have hcA : cA = aC t := by
        have h1 := (hK1.2 (zTys aC).length (cA, ty) (by simp)).2
        have h2 := (hx.2.2.2.2.2.2.2.2.1.2 t (aC t, ty) (ht aC)).2
        exact zRA_uniq h1 h2
      subst hcA
      have hh := X1.heapSize
      have hh : T1.heap.size ≤ s.heap.size + (N - n0 + 1) := hh
      rw [hT1] at hh
      obtain rfl := znew_q hP1 hD1 (by omega)
      have e1 : N + 1 - n0 = N - n0 + 1 := by omega
      have e2 : S + n.toNatClampNeg - s0 = S - s0 + n.toNatClampNeg := by omega
      have K := q.2.2 p l e R s m args below meth c D aC base b L xs n0 s0 F hx (by show n0 ≤ N + 1; omega) (by show s0 ≤ S + _; omega) H1 locs lsA (zwd_new hw hP1 hS1) hl'
      have K : W p l e R s m args below meth c H1 locs (N + 1 - n0) (S + n.toNatClampNeg - s0) (MQ below (zQ D aC base b L xs f) args s (f.2.2.1 - n0) (f.2.2.2 - s0) (fun q => base ≤ q)) (F0 m (pc + 2) lsA (.ref (base + N) :: st.map (zV base b))) := K
      rw [e1, e2] at K
      exact K T1 hT1 X1
    · cases h
  · cases h
theorem n_anew {md : zM} {pc t idx : Nat} {C : String} (hl : Cond.classLink md.1.cls idx C ∈ zgt) (hw0 : ∀ U, zBd U → va_AO C U) (ht : ∀ aC : Nat → ClassId, (zTys aC)[t]? = some (aC t, .object C)) (hd : decode md.2.1 pc = .ok (.anewarray idx, 3)) : zS md pc (pc + 3) (i_anew t) := by
  intro d f ⟨ls, st, M, N, S⟩ r h q
  unfold i_anew at h
  dsimp only at h
  split at h
  · rename_i n st
    split at h
    · rename_i hnn
      obtain ⟨hnn, hbig⟩ := hnn
      cases h
      have q : zGo d md (pc + 3) (ls, .ref (N + 1) :: st, va_up M (N + 1) (.inl (t, n.toNatClampNeg, .inr fun _ => none)), N + 1, S + n.toNatClampNeg) f := q
      have q1 : N + 1 ≤ f.2.2.1 := q.1
      have q2 : S + n.toNatClampNeg ≤ f.2.2.2 := q.2.1
      refine ⟨by show N ≤ _; omega, by show S ≤ _; omega, fun p l e R s m args below meth c D aC base b L xs n0 s0 F hx hn0 hs0 H locs lsA hw hl' => ?_⟩
      have hn0 : n0 ≤ N := hn0
      have hs0 : s0 ≤ S := hs0
      have hw : zWd D aC base b L xs M N s H locs := hw
      have hsz := hx.2.2.2.2.2.2.2.2.2.2.2.1
      have hcl := hx.2.2.2.2.2.2.2.2.2.2.2.2.1
      have hsl := hx.2.2.2.2.2.2.2.2.2.2.2.2.2.1
      refine va_newq hx.1 hx.2.1 hx.2.2.2.1 (hx.2.2.2.2.1 _ hl) (hw0 s hx.2.2.2.2.2.2.2.2.2.2.2.2.2.2.2.2.2) hx.2.2.2.2.2.2.2.2.1 hw.1 (zW_D aC base b M N) hw.2.1 (fun q hq => by have hq : s.heap.size ≤ q := hq; show base ≤ q; omega) hnn rfl (by omega) (by show N - n0 + 1 ≤ _; omega) (by show S - s0 + n.toNatClampNeg ≤ _; omega) hd ?_
      intro q0 cA H1 hK1 hP1 hD1 hS1 T1 hT1 X1
      have hcA : cA = aC t := by
        have h1 := (hK1.2 (zTys aC).length (cA, .object C) (by simp)).2
        have h2 := (hx.2.2.2.2.2.2.2.2.1.2 t (aC t, .object C) (ht aC)).2
        exact zRA_uniq h1 h2
      subst hcA
      have hh := X1.heapSize
      have hh : T1.heap.size ≤ s.heap.size + (N - n0 + 1) := hh
      rw [hT1] at hh
      obtain rfl := znew_q hP1 hD1 (by omega)
      have e1 : N + 1 - n0 = N - n0 + 1 := by omega
      have e2 : S + n.toNatClampNeg - s0 = S - s0 + n.toNatClampNeg := by omega
      have K := q.2.2 p l e R s m args below meth c D aC base b L xs n0 s0 F hx (by show n0 ≤ N + 1; omega) (by show s0 ≤ S + _; omega) H1 locs lsA (zwd_new hw hP1 hS1) hl'
      have K : W p l e R s m args below meth c H1 locs (N + 1 - n0) (S + n.toNatClampNeg - s0) (MQ below (zQ D aC base b L xs f) args s (f.2.2.1 - n0) (f.2.2.2 - s0) (fun q => base ≤ q)) (F0 m (pc + 3) lsA (.ref (base + N) :: st.map (zV base b))) := K
      rw [e1, e2] at K
      exact K T1 hT1 X1
    · cases h
  · cases h
theorem zsm_cat (base b : Nat) {st : List Value} (h : zsm st = true) : ((st.map (zV base b)).map fun v => v.category).sum ≤ 8 := by
  have hc : ∀ v : Value, (zV base b v).category ≤ 2 := fun v => by rcases lv_cat (zV base b v) with h | h <;> omega
  match st, h with
  | [], _ => simp
  | [a], _ => have := hc a; simp; omega
  | [a, b'], _ => have := hc a; have := hc b'; simp; omega
  | [a, b', c'], _ => have := hc a; have := hc b'; have := hc c'; simp; omega
  | [a, b', c', d'], _ => have := hc a; have := hc b'; have := hc c'; have := hc d'; simp; omega
theorem n_acopy {md : zM} {pc idx : Nat} (hl : Cond.methodLink md.1.cls idx arraycopyName ∈ zgt) (h1 : Cond.native arraycopyName ∈ zgt) (h2 : Cond.static arraycopyName ∈ zgt) (h3 : Cond.initialized "java/lang/System" ∈ zgt) (hd : decode md.2.1 pc = .ok (.invokestatic idx, 3)) : zS md pc (pc + 3) i_acopy := by
  intro d f ⟨ls, st, M, N, S⟩ r h q
  unfold i_acopy at h
  dsimp only at h
  split at h
  · rename_i n dp a sp a0 st
    split at h
    · rename_i t0 k0 g0 t1 k1 g1 hm0 hm1
      split at h
      rotate_left
      · cases h
      · rename_i hno
        obtain ⟨rfl, rfl, ha, ha0, c1, c2, c3, c4, c5, c6⟩ := hno
        cases h
        have q : zGo d md (pc + 3) (ls, st, va_up M a (.inl (0, k1, .inl (va_cpy g0 g1 sp.toNatClampNeg dp.toNatClampNeg n.toNatClampNeg))), N, S) f := q
        refine ⟨q.1, q.2.1, fun p l e R s m args below meth c D aC base b L xs n0 s0 F hx hn hs H locs lsA hw hl' => ?_⟩
        obtain ⟨j0, rfl, hj0, he0⟩ := zwd_arr hw hm0 (by decide) ha0
        obtain ⟨j1, rfl, hj1, he1⟩ := zwd_arr hw hm1 (by decide) ha
        have hFR := hx.2.2.2.2.2.2.2.2.2.2.2.2.2.2
        have hcat := zsm_cat base b c6
        exact va_copyi hx.1 hx.2.1 (by rw [hx.2.2.1, hl'.2.1]) hx.2.2.2.1 (hx.2.2.2.2.1 _ hl) (hx.2.2.2.2.1 _ h1) (hx.2.2.2.2.1 _ h2) (hx.2.2.2.2.1 _ h3) hx.2.2.2.2.2.2.2.2.1 hw.1 (zW_D aC base b M N) hw.2.1 j0 j1 0 0 he0 he1 rfl rfl rfl c2 c3 c1 c4 c5 (fun i _ => rfl) (by omega) (by rw [show nativeFrameWords "java/lang/System" "arraycopy" 5 = 7 by decide]; omega) hd
          (fun H1 locs1 hP1 _ hS1 => q.2.2 p l e R s m args below meth c D aC base b L xs n0 s0 F hx hn hs H1 locs1 lsA (zwd_put hw hj1 hP1 hS1) hl')
    · cases h
  · cases h
end
