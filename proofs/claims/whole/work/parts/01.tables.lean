-- ===== PART A: goes FIRST, ahead of the names: the tables' words, and 'selects' of the private methods out of them =====
/-- a private method of a class that the tables say can be made, by its rows of tables_1 -/
def lw_okq (q : MethodName × Nat) : Prop := (q.1.cls ≠ "java/lang/invoke/MethodHandle" ∧ q.1.cls ≠ "java/lang/invoke/VarHandle") ∧ Cond.instantiable q.1.cls q.2 ∈ tables_1 ∧ Cond.privateMethod q.1 ∈ tables_1 ∧ Cond.instanceMethod q.1 ∈ tables_1
theorem lw_p0 : lw_okq (⟨"OneDoor$Reader", "readToken", "()V"⟩, 8) := ⟨⟨by decide +kernel, by decide +kernel⟩, List.mem_of_getElem? (i := 26) (by decide +kernel), List.mem_of_getElem? (i := 350) (by decide +kernel), List.mem_of_getElem? (i := 351) (by decide +kernel)⟩
theorem lw_p1 : lw_okq (⟨"OneDoor$Reader", "readLetters", "()V"⟩, 8) := ⟨⟨by decide +kernel, by decide +kernel⟩, List.mem_of_getElem? (i := 26) (by decide +kernel), List.mem_of_getElem? (i := 357) (by decide +kernel), List.mem_of_getElem? (i := 358) (by decide +kernel)⟩
theorem lw_p2 : lw_okq (⟨"OneDoor$Reader", "readDigits", "()V"⟩, 8) := ⟨⟨by decide +kernel, by decide +kernel⟩, List.mem_of_getElem? (i := 26) (by decide +kernel), List.mem_of_getElem? (i := 364) (by decide +kernel), List.mem_of_getElem? (i := 365) (by decide +kernel)⟩
theorem lw_p3 : lw_okq (⟨"OneDoor$Reader", "readItem", "(LOneDoor$Told;)Z"⟩, 8) := ⟨⟨by decide +kernel, by decide +kernel⟩, List.mem_of_getElem? (i := 26) (by decide +kernel), List.mem_of_getElem? (i := 371) (by decide +kernel), List.mem_of_getElem? (i := 372) (by decide +kernel)⟩
theorem lw_p4 : lw_okq (⟨"OneDoor$Reader", "readHouse", "(LOneDoor$Told;)Z"⟩, 8) := ⟨⟨by decide +kernel, by decide +kernel⟩, List.mem_of_getElem? (i := 26) (by decide +kernel), List.mem_of_getElem? (i := 375) (by decide +kernel), List.mem_of_getElem? (i := 376) (by decide +kernel)⟩
theorem lw_p5 : lw_okq (⟨"OneDoor$Reader", "readNumber", "(II)Z"⟩, 8) := ⟨⟨by decide +kernel, by decide +kernel⟩, List.mem_of_getElem? (i := 26) (by decide +kernel), List.mem_of_getElem? (i := 379) (by decide +kernel), List.mem_of_getElem? (i := 380) (by decide +kernel)⟩
theorem lw_p6 : lw_okq (⟨"OneDoor$Reader", "readStop", "()Z"⟩, 8) := ⟨⟨by decide +kernel, by decide +kernel⟩, List.mem_of_getElem? (i := 26) (by decide +kernel), List.mem_of_getElem? (i := 383) (by decide +kernel), List.mem_of_getElem? (i := 384) (by decide +kernel)⟩
theorem lw_p7 : lw_okq (⟨"OneDoor$Reader", "readPerson", "(LOneDoor$Told;)Z"⟩, 8) := ⟨⟨by decide +kernel, by decide +kernel⟩, List.mem_of_getElem? (i := 26) (by decide +kernel), List.mem_of_getElem? (i := 387) (by decide +kernel), List.mem_of_getElem? (i := 388) (by decide +kernel)⟩
theorem lw_p8 : lw_okq (⟨"OneDoor$Reader", "readTax", "(LOneDoor$Told;)Z"⟩, 8) := ⟨⟨by decide +kernel, by decide +kernel⟩, List.mem_of_getElem? (i := 26) (by decide +kernel), List.mem_of_getElem? (i := 391) (by decide +kernel), List.mem_of_getElem? (i := 392) (by decide +kernel)⟩
theorem lw_p9 : lw_okq (⟨"OneDoor$Reader", "readWarm", "(LOneDoor$Told;)Z"⟩, 8) := ⟨⟨by decide +kernel, by decide +kernel⟩, List.mem_of_getElem? (i := 26) (by decide +kernel), List.mem_of_getElem? (i := 395) (by decide +kernel), List.mem_of_getElem? (i := 396) (by decide +kernel)⟩
theorem lw_p10 : lw_okq (⟨"OneDoor", "isHouse", "(I)Z"⟩, 12) := ⟨⟨by decide +kernel, by decide +kernel⟩, List.mem_of_getElem? (i := 18) (by decide +kernel), List.mem_of_getElem? (i := 419) (by decide +kernel), List.mem_of_getElem? (i := 420) (by decide +kernel)⟩
theorem lw_p11 : lw_okq (⟨"OneDoor", "peopleAt", "([II)I"⟩, 12) := ⟨⟨by decide +kernel, by decide +kernel⟩, List.mem_of_getElem? (i := 18) (by decide +kernel), List.mem_of_getElem? (i := 423) (by decide +kernel), List.mem_of_getElem? (i := 424) (by decide +kernel)⟩
theorem lw_p12 : lw_okq (⟨"OneDoor$Plan", "theWay", "(II)I"⟩, 7) := ⟨⟨by decide +kernel, by decide +kernel⟩, List.mem_of_getElem? (i := 176) (by decide +kernel), List.mem_of_getElem? (i := 435) (by decide +kernel), List.mem_of_getElem? (i := 436) (by decide +kernel)⟩
theorem lw_p13 : lw_okq (⟨"OneDoor$Plan", "minutesOf", "(I)I"⟩, 7) := ⟨⟨by decide +kernel, by decide +kernel⟩, List.mem_of_getElem? (i := 176) (by decide +kernel), List.mem_of_getElem? (i := 445) (by decide +kernel), List.mem_of_getElem? (i := 446) (by decide +kernel)⟩
theorem lw_p14 : lw_okq (⟨"OneDoor", "isPerson", "(I)Z"⟩, 12) := ⟨⟨by decide +kernel, by decide +kernel⟩, List.mem_of_getElem? (i := 18) (by decide +kernel), List.mem_of_getElem? (i := 453) (by decide +kernel), List.mem_of_getElem? (i := 454) (by decide +kernel)⟩
theorem lw_p15 : lw_okq (⟨"OneDoor", "stepEnd", "(II)I"⟩, 12) := ⟨⟨by decide +kernel, by decide +kernel⟩, List.mem_of_getElem? (i := 18) (by decide +kernel), List.mem_of_getElem? (i := 465) (by decide +kernel), List.mem_of_getElem? (i := 466) (by decide +kernel)⟩
def lw_privs_1 : List (MethodName × Nat) := [(⟨"OneDoor$Reader", "readToken", "()V"⟩, 8), (⟨"OneDoor$Reader", "readLetters", "()V"⟩, 8), (⟨"OneDoor$Reader", "readDigits", "()V"⟩, 8), (⟨"OneDoor$Reader", "readItem", "(LOneDoor$Told;)Z"⟩, 8), (⟨"OneDoor$Reader", "readHouse", "(LOneDoor$Told;)Z"⟩, 8), (⟨"OneDoor$Reader", "readNumber", "(II)Z"⟩, 8), (⟨"OneDoor$Reader", "readStop", "()Z"⟩, 8), (⟨"OneDoor$Reader", "readPerson", "(LOneDoor$Told;)Z"⟩, 8), (⟨"OneDoor$Reader", "readTax", "(LOneDoor$Told;)Z"⟩, 8), (⟨"OneDoor$Reader", "readWarm", "(LOneDoor$Told;)Z"⟩, 8), (⟨"OneDoor", "isHouse", "(I)Z"⟩, 12), (⟨"OneDoor", "peopleAt", "([II)I"⟩, 12), (⟨"OneDoor$Plan", "theWay", "(II)I"⟩, 7), (⟨"OneDoor$Plan", "minutesOf", "(I)I"⟩, 7), (⟨"OneDoor", "isPerson", "(I)Z"⟩, 12), (⟨"OneDoor", "stepEnd", "(II)I"⟩, 12)]
theorem lw_r1 : ∀ q ∈ lw_privs_1, lw_okq q := List.forall_mem_cons.mpr ⟨lw_p0, List.forall_mem_cons.mpr ⟨lw_p1, List.forall_mem_cons.mpr ⟨lw_p2, List.forall_mem_cons.mpr ⟨lw_p3, List.forall_mem_cons.mpr ⟨lw_p4, List.forall_mem_cons.mpr ⟨lw_p5, List.forall_mem_cons.mpr ⟨lw_p6, List.forall_mem_cons.mpr ⟨lw_p7, List.forall_mem_cons.mpr ⟨lw_p8, List.forall_mem_cons.mpr ⟨lw_p9, List.forall_mem_cons.mpr ⟨lw_p10, List.forall_mem_cons.mpr ⟨lw_p11, List.forall_mem_cons.mpr ⟨lw_p12, List.forall_mem_cons.mpr ⟨lw_p13, List.forall_mem_cons.mpr ⟨lw_p14, List.forall_mem_cons.mpr ⟨lw_p15, fun _ h => absurd h List.not_mem_nil⟩⟩⟩⟩⟩⟩⟩⟩⟩⟩⟩⟩⟩⟩⟩⟩
theorem lw_p16 : lw_okq (⟨"OneDoor", "mayEnter", "(II)Z"⟩, 12) := ⟨⟨by decide +kernel, by decide +kernel⟩, List.mem_of_getElem? (i := 18) (by decide +kernel), List.mem_of_getElem? (i := 469) (by decide +kernel), List.mem_of_getElem? (i := 470) (by decide +kernel)⟩
theorem lw_p17 : lw_okq (⟨"OneDoor$Life", "loseOldest", "()V"⟩, 3) := ⟨⟨by decide +kernel, by decide +kernel⟩, List.mem_of_getElem? (i := 114) (by decide +kernel), List.mem_of_getElem? (i := 477) (by decide +kernel), List.mem_of_getElem? (i := 478) (by decide +kernel)⟩
theorem lw_p18 : lw_okq (⟨"OneDoor", "move", "(II)V"⟩, 12) := ⟨⟨by decide +kernel, by decide +kernel⟩, List.mem_of_getElem? (i := 18) (by decide +kernel), List.mem_of_getElem? (i := 485) (by decide +kernel), List.mem_of_getElem? (i := 486) (by decide +kernel)⟩
theorem lw_p19 : lw_okq (⟨"OneDoor", "disturb", "(I)V"⟩, 12) := ⟨⟨by decide +kernel, by decide +kernel⟩, List.mem_of_getElem? (i := 18) (by decide +kernel), List.mem_of_getElem? (i := 489) (by decide +kernel), List.mem_of_getElem? (i := 490) (by decide +kernel)⟩
theorem lw_p20 : lw_okq (⟨"OneDoor$Plan", "dwellersOn", "(I)I"⟩, 7) := ⟨⟨by decide +kernel, by decide +kernel⟩, List.mem_of_getElem? (i := 176) (by decide +kernel), List.mem_of_getElem? (i := 534) (by decide +kernel), List.mem_of_getElem? (i := 535) (by decide +kernel)⟩
theorem lw_p21 : lw_okq (⟨"OneDoor$Plan", "eachWayMeets", "(II)Z"⟩, 7) := ⟨⟨by decide +kernel, by decide +kernel⟩, List.mem_of_getElem? (i := 176) (by decide +kernel), List.mem_of_getElem? (i := 547) (by decide +kernel), List.mem_of_getElem? (i := 548) (by decide +kernel)⟩
theorem lw_p22 : lw_okq (⟨"OneDoor$Plan", "giveFrom", "(II)V"⟩, 7) := ⟨⟨by decide +kernel, by decide +kernel⟩, List.mem_of_getElem? (i := 176) (by decide +kernel), List.mem_of_getElem? (i := 569) (by decide +kernel), List.mem_of_getElem? (i := 570) (by decide +kernel)⟩
theorem lw_p23 : lw_okq (⟨"OneDoor", "hatsFit", "(I)Z"⟩, 12) := ⟨⟨by decide +kernel, by decide +kernel⟩, List.mem_of_getElem? (i := 18) (by decide +kernel), List.mem_of_getElem? (i := 618) (by decide +kernel), List.mem_of_getElem? (i := 619) (by decide +kernel)⟩
theorem lw_p24 : lw_okq (⟨"OneDoor", "hatsFitOut", "(III)Z"⟩, 12) := ⟨⟨by decide +kernel, by decide +kernel⟩, List.mem_of_getElem? (i := 18) (by decide +kernel), List.mem_of_getElem? (i := 623) (by decide +kernel), List.mem_of_getElem? (i := 624) (by decide +kernel)⟩
theorem lw_p25 : lw_okq (⟨"OneDoor", "hatsFitIn", "(III)Z"⟩, 12) := ⟨⟨by decide +kernel, by decide +kernel⟩, List.mem_of_getElem? (i := 18) (by decide +kernel), List.mem_of_getElem? (i := 634) (by decide +kernel), List.mem_of_getElem? (i := 635) (by decide +kernel)⟩
theorem lw_p26 : lw_okq (⟨"OneDoorModel", "plain", "()V"⟩, 23) := ⟨⟨by decide +kernel, by decide +kernel⟩, List.mem_of_getElem? (i := 725) (by decide +kernel), List.mem_of_getElem? (i := 731) (by decide +kernel), List.mem_of_getElem? (i := 732) (by decide +kernel)⟩
theorem lw_p27 : lw_okq (⟨"OneDoorModel", "takeDraft", "()V"⟩, 23) := ⟨⟨by decide +kernel, by decide +kernel⟩, List.mem_of_getElem? (i := 725) (by decide +kernel), List.mem_of_getElem? (i := 735) (by decide +kernel), List.mem_of_getElem? (i := 736) (by decide +kernel)⟩
theorem lw_p28 : lw_okq (⟨"OneDoorModel", "step", "()V"⟩, 23) := ⟨⟨by decide +kernel, by decide +kernel⟩, List.mem_of_getElem? (i := 725) (by decide +kernel), List.mem_of_getElem? (i := 825) (by decide +kernel), List.mem_of_getElem? (i := 826) (by decide +kernel)⟩
theorem lw_p29 : lw_okq (⟨"OneDoorModel", "here", "()I"⟩, 23) := ⟨⟨by decide +kernel, by decide +kernel⟩, List.mem_of_getElem? (i := 725) (by decide +kernel), List.mem_of_getElem? (i := 829) (by decide +kernel), List.mem_of_getElem? (i := 830) (by decide +kernel)⟩
theorem lw_p30 : lw_okq (⟨"OneDoorModel", "mayBe", "(I)Z"⟩, 23) := ⟨⟨by decide +kernel, by decide +kernel⟩, List.mem_of_getElem? (i := 725) (by decide +kernel), List.mem_of_getElem? (i := 833) (by decide +kernel), List.mem_of_getElem? (i := 834) (by decide +kernel)⟩
theorem lw_p31 : lw_okq (⟨"OneDoorModel", "due", "(Z)I"⟩, 23) := ⟨⟨by decide +kernel, by decide +kernel⟩, List.mem_of_getElem? (i := 725) (by decide +kernel), List.mem_of_getElem? (i := 837) (by decide +kernel), List.mem_of_getElem? (i := 838) (by decide +kernel)⟩
def lw_privs_2 : List (MethodName × Nat) := [(⟨"OneDoor", "mayEnter", "(II)Z"⟩, 12), (⟨"OneDoor$Life", "loseOldest", "()V"⟩, 3), (⟨"OneDoor", "move", "(II)V"⟩, 12), (⟨"OneDoor", "disturb", "(I)V"⟩, 12), (⟨"OneDoor$Plan", "dwellersOn", "(I)I"⟩, 7), (⟨"OneDoor$Plan", "eachWayMeets", "(II)Z"⟩, 7), (⟨"OneDoor$Plan", "giveFrom", "(II)V"⟩, 7), (⟨"OneDoor", "hatsFit", "(I)Z"⟩, 12), (⟨"OneDoor", "hatsFitOut", "(III)Z"⟩, 12), (⟨"OneDoor", "hatsFitIn", "(III)Z"⟩, 12), (⟨"OneDoorModel", "plain", "()V"⟩, 23), (⟨"OneDoorModel", "takeDraft", "()V"⟩, 23), (⟨"OneDoorModel", "step", "()V"⟩, 23), (⟨"OneDoorModel", "here", "()I"⟩, 23), (⟨"OneDoorModel", "mayBe", "(I)Z"⟩, 23), (⟨"OneDoorModel", "due", "(Z)I"⟩, 23)]
theorem lw_r2 : ∀ q ∈ lw_privs_2, lw_okq q := List.forall_mem_cons.mpr ⟨lw_p16, List.forall_mem_cons.mpr ⟨lw_p17, List.forall_mem_cons.mpr ⟨lw_p18, List.forall_mem_cons.mpr ⟨lw_p19, List.forall_mem_cons.mpr ⟨lw_p20, List.forall_mem_cons.mpr ⟨lw_p21, List.forall_mem_cons.mpr ⟨lw_p22, List.forall_mem_cons.mpr ⟨lw_p23, List.forall_mem_cons.mpr ⟨lw_p24, List.forall_mem_cons.mpr ⟨lw_p25, List.forall_mem_cons.mpr ⟨lw_p26, List.forall_mem_cons.mpr ⟨lw_p27, List.forall_mem_cons.mpr ⟨lw_p28, List.forall_mem_cons.mpr ⟨lw_p29, List.forall_mem_cons.mpr ⟨lw_p30, List.forall_mem_cons.mpr ⟨lw_p31, fun _ h => absurd h List.not_mem_nil⟩⟩⟩⟩⟩⟩⟩⟩⟩⟩⟩⟩⟩⟩⟩⟩
theorem lw_p32 : lw_okq (⟨"OneDoorModel", "readRow", "(I)V"⟩, 23) := ⟨⟨by decide +kernel, by decide +kernel⟩, List.mem_of_getElem? (i := 725) (by decide +kernel), List.mem_of_getElem? (i := 841) (by decide +kernel), List.mem_of_getElem? (i := 842) (by decide +kernel)⟩
theorem lw_p33 : lw_okq (⟨"OneDoorModel", "number", "(II)I"⟩, 23) := ⟨⟨by decide +kernel, by decide +kernel⟩, List.mem_of_getElem? (i := 725) (by decide +kernel), List.mem_of_getElem? (i := 845) (by decide +kernel), List.mem_of_getElem? (i := 846) (by decide +kernel)⟩
theorem lw_p34 : lw_okq (⟨"OneDoorModel", "isHouse", "(I)Z"⟩, 23) := ⟨⟨by decide +kernel, by decide +kernel⟩, List.mem_of_getElem? (i := 725) (by decide +kernel), List.mem_of_getElem? (i := 853) (by decide +kernel), List.mem_of_getElem? (i := 854) (by decide +kernel)⟩
theorem lw_p35 : lw_okq (⟨"OneDoorModel", "living", "(I)I"⟩, 23) := ⟨⟨by decide +kernel, by decide +kernel⟩, List.mem_of_getElem? (i := 725) (by decide +kernel), List.mem_of_getElem? (i := 857) (by decide +kernel), List.mem_of_getElem? (i := 858) (by decide +kernel)⟩
theorem lw_p36 : lw_okq (⟨"OneDoorModel", "being", "(I)I"⟩, 23) := ⟨⟨by decide +kernel, by decide +kernel⟩, List.mem_of_getElem? (i := 725) (by decide +kernel), List.mem_of_getElem? (i := 861) (by decide +kernel), List.mem_of_getElem? (i := 862) (by decide +kernel)⟩
theorem lw_p37 : lw_okq (⟨"OneDoorModel", "minutesTo", "(I)I"⟩, 23) := ⟨⟨by decide +kernel, by decide +kernel⟩, List.mem_of_getElem? (i := 725) (by decide +kernel), List.mem_of_getElem? (i := 865) (by decide +kernel), List.mem_of_getElem? (i := 866) (by decide +kernel)⟩
theorem lw_p38 : lw_okq (⟨"OneDoorModel", "wayTo", "(II)I"⟩, 23) := ⟨⟨by decide +kernel, by decide +kernel⟩, List.mem_of_getElem? (i := 725) (by decide +kernel), List.mem_of_getElem? (i := 869) (by decide +kernel), List.mem_of_getElem? (i := 870) (by decide +kernel)⟩
theorem lw_p39 : lw_okq (⟨"OneDoorModel", "doorTo", "(II)I"⟩, 23) := ⟨⟨by decide +kernel, by decide +kernel⟩, List.mem_of_getElem? (i := 725) (by decide +kernel), List.mem_of_getElem? (i := 873) (by decide +kernel), List.mem_of_getElem? (i := 874) (by decide +kernel)⟩
theorem lw_p40 : lw_okq (⟨"OneDoorModel", "minutesOf", "(I)I"⟩, 23) := ⟨⟨by decide +kernel, by decide +kernel⟩, List.mem_of_getElem? (i := 725) (by decide +kernel), List.mem_of_getElem? (i := 880) (by decide +kernel), List.mem_of_getElem? (i := 881) (by decide +kernel)⟩
theorem lw_p41 : lw_okq (⟨"OneDoorModel", "isPerson", "(I)Z"⟩, 23) := ⟨⟨by decide +kernel, by decide +kernel⟩, List.mem_of_getElem? (i := 725) (by decide +kernel), List.mem_of_getElem? (i := 888) (by decide +kernel), List.mem_of_getElem? (i := 889) (by decide +kernel)⟩
theorem lw_p42 : lw_okq (⟨"OneDoorModel", "takeHomes", "()V"⟩, 23) := ⟨⟨by decide +kernel, by decide +kernel⟩, List.mem_of_getElem? (i := 725) (by decide +kernel), List.mem_of_getElem? (i := 892) (by decide +kernel), List.mem_of_getElem? (i := 893) (by decide +kernel)⟩
theorem lw_p43 : lw_okq (⟨"OneDoorModel", "passed", "(II)I"⟩, 23) := ⟨⟨by decide +kernel, by decide +kernel⟩, List.mem_of_getElem? (i := 725) (by decide +kernel), List.mem_of_getElem? (i := 896) (by decide +kernel), List.mem_of_getElem? (i := 897) (by decide +kernel)⟩
theorem lw_p44 : lw_okq (⟨"OneDoorModel", "stepTo", "(II)I"⟩, 23) := ⟨⟨by decide +kernel, by decide +kernel⟩, List.mem_of_getElem? (i := 725) (by decide +kernel), List.mem_of_getElem? (i := 904) (by decide +kernel), List.mem_of_getElem? (i := 905) (by decide +kernel)⟩
theorem lw_p45 : lw_okq (⟨"OneDoorModel", "know", "()V"⟩, 23) := ⟨⟨by decide +kernel, by decide +kernel⟩, List.mem_of_getElem? (i := 725) (by decide +kernel), List.mem_of_getElem? (i := 908) (by decide +kernel), List.mem_of_getElem? (i := 909) (by decide +kernel)⟩
theorem lw_p46 : lw_okq (⟨"OneDoorModel", "passings", "(I)I"⟩, 23) := ⟨⟨by decide +kernel, by decide +kernel⟩, List.mem_of_getElem? (i := 725) (by decide +kernel), List.mem_of_getElem? (i := 939) (by decide +kernel), List.mem_of_getElem? (i := 940) (by decide +kernel)⟩
theorem lw_p47 : lw_okq (⟨"OneDoorModel", "hurt", "()I"⟩, 23) := ⟨⟨by decide +kernel, by decide +kernel⟩, List.mem_of_getElem? (i := 725) (by decide +kernel), List.mem_of_getElem? (i := 943) (by decide +kernel), List.mem_of_getElem? (i := 944) (by decide +kernel)⟩
def lw_privs_3 : List (MethodName × Nat) := [(⟨"OneDoorModel", "readRow", "(I)V"⟩, 23), (⟨"OneDoorModel", "number", "(II)I"⟩, 23), (⟨"OneDoorModel", "isHouse", "(I)Z"⟩, 23), (⟨"OneDoorModel", "living", "(I)I"⟩, 23), (⟨"OneDoorModel", "being", "(I)I"⟩, 23), (⟨"OneDoorModel", "minutesTo", "(I)I"⟩, 23), (⟨"OneDoorModel", "wayTo", "(II)I"⟩, 23), (⟨"OneDoorModel", "doorTo", "(II)I"⟩, 23), (⟨"OneDoorModel", "minutesOf", "(I)I"⟩, 23), (⟨"OneDoorModel", "isPerson", "(I)Z"⟩, 23), (⟨"OneDoorModel", "takeHomes", "()V"⟩, 23), (⟨"OneDoorModel", "passed", "(II)I"⟩, 23), (⟨"OneDoorModel", "stepTo", "(II)I"⟩, 23), (⟨"OneDoorModel", "know", "()V"⟩, 23), (⟨"OneDoorModel", "passings", "(I)I"⟩, 23), (⟨"OneDoorModel", "hurt", "()I"⟩, 23)]
theorem lw_r3 : ∀ q ∈ lw_privs_3, lw_okq q := List.forall_mem_cons.mpr ⟨lw_p32, List.forall_mem_cons.mpr ⟨lw_p33, List.forall_mem_cons.mpr ⟨lw_p34, List.forall_mem_cons.mpr ⟨lw_p35, List.forall_mem_cons.mpr ⟨lw_p36, List.forall_mem_cons.mpr ⟨lw_p37, List.forall_mem_cons.mpr ⟨lw_p38, List.forall_mem_cons.mpr ⟨lw_p39, List.forall_mem_cons.mpr ⟨lw_p40, List.forall_mem_cons.mpr ⟨lw_p41, List.forall_mem_cons.mpr ⟨lw_p42, List.forall_mem_cons.mpr ⟨lw_p43, List.forall_mem_cons.mpr ⟨lw_p44, List.forall_mem_cons.mpr ⟨lw_p45, List.forall_mem_cons.mpr ⟨lw_p46, List.forall_mem_cons.mpr ⟨lw_p47, fun _ h => absurd h List.not_mem_nil⟩⟩⟩⟩⟩⟩⟩⟩⟩⟩⟩⟩⟩⟩⟩⟩
theorem lw_p48 : lw_okq (⟨"OneDoorModel", "stopped", "(I)I"⟩, 23) := ⟨⟨by decide +kernel, by decide +kernel⟩, List.mem_of_getElem? (i := 725) (by decide +kernel), List.mem_of_getElem? (i := 947) (by decide +kernel), List.mem_of_getElem? (i := 948) (by decide +kernel)⟩
theorem lw_p49 : lw_okq (⟨"OneDoorModel", "isBarred", "(III)Z"⟩, 23) := ⟨⟨by decide +kernel, by decide +kernel⟩, List.mem_of_getElem? (i := 725) (by decide +kernel), List.mem_of_getElem? (i := 951) (by decide +kernel), List.mem_of_getElem? (i := 952) (by decide +kernel)⟩
theorem lw_p50 : lw_okq (⟨"OneDoorModel", "toOpen", "()I"⟩, 23) := ⟨⟨by decide +kernel, by decide +kernel⟩, List.mem_of_getElem? (i := 725) (by decide +kernel), List.mem_of_getElem? (i := 955) (by decide +kernel), List.mem_of_getElem? (i := 956) (by decide +kernel)⟩
theorem lw_p51 : lw_okq (⟨"OneDoorModel", "isAhead", "()Z"⟩, 23) := ⟨⟨by decide +kernel, by decide +kernel⟩, List.mem_of_getElem? (i := 725) (by decide +kernel), List.mem_of_getElem? (i := 963) (by decide +kernel), List.mem_of_getElem? (i := 964) (by decide +kernel)⟩
theorem lw_p52 : lw_okq (⟨"OneDoorModel", "isSo", "(IIZ)Z"⟩, 23) := ⟨⟨by decide +kernel, by decide +kernel⟩, List.mem_of_getElem? (i := 725) (by decide +kernel), List.mem_of_getElem? (i := 994) (by decide +kernel), List.mem_of_getElem? (i := 995) (by decide +kernel)⟩
theorem lw_p53 : lw_okq (⟨"OneDoorModel", "outAt", "(III)I"⟩, 23) := ⟨⟨by decide +kernel, by decide +kernel⟩, List.mem_of_getElem? (i := 725) (by decide +kernel), List.mem_of_getElem? (i := 998) (by decide +kernel), List.mem_of_getElem? (i := 999) (by decide +kernel)⟩
theorem lw_p54 : lw_okq (⟨"OneDoorModel", "inAt", "(III)I"⟩, 23) := ⟨⟨by decide +kernel, by decide +kernel⟩, List.mem_of_getElem? (i := 725) (by decide +kernel), List.mem_of_getElem? (i := 1002) (by decide +kernel), List.mem_of_getElem? (i := 1003) (by decide +kernel)⟩
def lw_privs_4 : List (MethodName × Nat) := [(⟨"OneDoorModel", "stopped", "(I)I"⟩, 23), (⟨"OneDoorModel", "isBarred", "(III)Z"⟩, 23), (⟨"OneDoorModel", "toOpen", "()I"⟩, 23), (⟨"OneDoorModel", "isAhead", "()Z"⟩, 23), (⟨"OneDoorModel", "isSo", "(IIZ)Z"⟩, 23), (⟨"OneDoorModel", "outAt", "(III)I"⟩, 23), (⟨"OneDoorModel", "inAt", "(III)I"⟩, 23)]
theorem lw_r4 : ∀ q ∈ lw_privs_4, lw_okq q := List.forall_mem_cons.mpr ⟨lw_p48, List.forall_mem_cons.mpr ⟨lw_p49, List.forall_mem_cons.mpr ⟨lw_p50, List.forall_mem_cons.mpr ⟨lw_p51, List.forall_mem_cons.mpr ⟨lw_p52, List.forall_mem_cons.mpr ⟨lw_p53, List.forall_mem_cons.mpr ⟨lw_p54, fun _ h => absurd h List.not_mem_nil⟩⟩⟩⟩⟩⟩⟩
def lw_privs : List (MethodName × Nat) := lw_privs_1 ++ (lw_privs_2 ++ (lw_privs_3 ++ (lw_privs_4)))
def lw_tbl : List Cond := k2_sels lw_privs ++ tables_1
theorem lw_privs_ok : ∀ q ∈ lw_privs, lw_okq q := by
  show ∀ q ∈ lw_privs_1 ++ (lw_privs_2 ++ (lw_privs_3 ++ (lw_privs_4))), lw_okq q
  exact List.forall_mem_append.mpr ⟨lw_r1, List.forall_mem_append.mpr ⟨lw_r2, List.forall_mem_append.mpr ⟨lw_r3, lw_r4⟩⟩⟩

/-- the words that every later state keeps -/
def zgt : List Cond := lw_tbl.filter goodWord
theorem zmem {w : Cond} (i : Nat) (h : (lw_tbl[i]?).filter goodWord = some w) : w ∈ zgt := by
  obtain ⟨h1, h2⟩ := Option.filter_eq_some_iff.mp h
  exact List.mem_filter.mpr ⟨List.mem_of_getElem? h1, h2⟩
theorem zsub {ws : List Cond} (ps : List Nat) (h : ws = ps.filterMap (fun i => (lw_tbl[i]?).filter goodWord)) : ∀ w ∈ ws, w ∈ zgt := fun w hw => by
  rw [h] at hw
  obtain ⟨i, -, hi⟩ := List.mem_filterMap.mp hw
  exact zmem i hi
def zT3 : u_T := fun k => match k with
  | 0 => ("OneDoor$Hall", "told", "LOneDoor$Told;", true)
  | 1 => ("OneDoor$Hall", "state", "LOneDoor$Now;", true)
  | _ => ("OneDoor$Hall", "asked", "J", false)
def zT3y : Nat → FieldType := fun k => match k with
  | 0 => .object "OneDoor$Told"
  | 1 => .object "OneDoor$Now"
  | _ => .long
theorem zT3n : ∀ a, a < 3 → ∀ b, b < 3 → a ≠ b → (zT3 a).2.1 ≠ (zT3 b).2.1 := by decide +kernel
theorem zT3p : ∀ k, k < 3 → parseFieldDescriptor (zT3 k).2.2.1 = some (zT3y k) := by decide +kernel
def zT5 : u_T := fun k => match k with
  | 0 => ("OneDoor$Life", "state", "LOneDoor$Now;", true)
  | 1 => ("OneDoor$Life", "before", "[LOneDoor$Now;", true)
  | _ => ("OneDoor$Life", "known", "I", false)
def zT5y : Nat → FieldType := fun k => match k with
  | 0 => .object "OneDoor$Now"
  | 1 => .array (.object "OneDoor$Now")
  | _ => .int
theorem zT5n : ∀ a, a < 3 → ∀ b, b < 3 → a ≠ b → (zT5 a).2.1 ≠ (zT5 b).2.1 := by decide +kernel
theorem zT5p : ∀ k, k < 3 → parseFieldDescriptor (zT5 k).2.2.1 = some (zT5y k) := by decide +kernel
def zT6 : u_T := fun k => match k with
  | 0 => ("OneDoor$Now", "place", "[I", true)
  | 1 => ("OneDoor$Now", "home", "[I", true)
  | 2 => ("OneDoor$Now", "patience", "[I", true)
  | 3 => ("OneDoor$Now", "minute", "I", false)
  | 4 => ("OneDoor$Now", "offended", "I", false)
  | 5 => ("OneDoor$Now", "shut", "I", false)
  | _ => ("OneDoor$Now", "other", "I", false)
def zT6y : Nat → FieldType := fun k => match k with
  | 0 => .array (.int)
  | 1 => .array (.int)
  | 2 => .array (.int)
  | 3 => .int
  | 4 => .int
  | 5 => .int
  | _ => .int
theorem zT6n : ∀ a, a < 7 → ∀ b, b < 7 → a ≠ b → (zT6 a).2.1 ≠ (zT6 b).2.1 := by decide +kernel
theorem zT6p : ∀ k, k < 7 → parseFieldDescriptor (zT6 k).2.2.1 = some (zT6y k) := by decide +kernel
def zT8 : u_T := fun k => match k with
  | 0 => ("OneDoor$Plan", "told", "LOneDoor$Told;", true)
  | 1 => ("OneDoor$Plan", "state", "LOneDoor$Now;", true)
  | 2 => ("OneDoor$Plan", "cost", "[I", true)
  | 3 => ("OneDoor$Plan", "left", "[I", true)
  | 4 => ("OneDoor$Plan", "given", "[I", true)
  | 5 => ("OneDoor$Plan", "best", "[I", true)
  | _ => ("OneDoor$Plan", "fewest", "I", false)
def zT8y : Nat → FieldType := fun k => match k with
  | 0 => .object "OneDoor$Told"
  | 1 => .object "OneDoor$Now"
  | 2 => .array (.int)
  | 3 => .array (.int)
  | 4 => .array (.int)
  | 5 => .array (.int)
  | _ => .int
theorem zT8n : ∀ a, a < 7 → ∀ b, b < 7 → a ≠ b → (zT8 a).2.1 ≠ (zT8 b).2.1 := by decide +kernel
theorem zT8p : ∀ k, k < 7 → parseFieldDescriptor (zT8 k).2.2.1 = some (zT8y k) := by decide +kernel
def zT9 : u_T := fun k => match k with
  | 0 => ("OneDoor$Reader", "text", "[I", true)
  | 1 => ("OneDoor$Reader", "size", "I", false)
  | 2 => ("OneDoor$Reader", "at", "I", false)
  | 3 => ("OneDoor$Reader", "tokenAt", "I", false)
  | 4 => ("OneDoor$Reader", "token", "I", false)
  | 5 => ("OneDoor$Reader", "value", "I", false)
  | 6 => ("OneDoor$Reader", "taxTold", "Z", false)
  | _ => ("OneDoor$Reader", "warmTold", "Z", false)
def zT9y : Nat → FieldType := fun k => match k with
  | 0 => .array (.int)
  | 1 => .int
  | 2 => .int
  | 3 => .int
  | 4 => .int
  | 5 => .int
  | 6 => .boolean
  | _ => .boolean
theorem zT9n : ∀ a, a < 8 → ∀ b, b < 8 → a ≠ b → (zT9 a).2.1 ≠ (zT9 b).2.1 := by decide +kernel
theorem zT9p : ∀ k, k < 8 → parseFieldDescriptor (zT9 k).2.2.1 = some (zT9y k) := by decide +kernel
def zT10 : u_T := fun k => match k with
  | 0 => ("OneDoor$Told", "hall", "[I", true)
  | 1 => ("OneDoor$Told", "home", "[I", true)
  | 2 => ("OneDoor$Told", "errands", "[I", true)
  | 3 => ("OneDoor$Told", "patience", "[I", true)
  | 4 => ("OneDoor$Told", "houses", "I", false)
  | 5 => ("OneDoor$Told", "people", "I", false)
  | 6 => ("OneDoor$Told", "tax", "I", false)
  | _ => ("OneDoor$Told", "warm", "I", false)
def zT10y : Nat → FieldType := fun k => match k with
  | 0 => .array (.int)
  | 1 => .array (.int)
  | 2 => .array (.int)
  | 3 => .array (.int)
  | 4 => .int
  | 5 => .int
  | 6 => .int
  | _ => .int
theorem zT10n : ∀ a, a < 8 → ∀ b, b < 8 → a ≠ b → (zT10 a).2.1 ≠ (zT10 b).2.1 := by decide +kernel
theorem zT10p : ∀ k, k < 8 → parseFieldDescriptor (zT10 k).2.2.1 = some (zT10y k) := by decide +kernel
def zT11 : u_T := fun k => match k with
  | 0 => ("OneDoor", "reader", "LOneDoor$Reader;", true)
  | 1 => ("OneDoor", "draft", "LOneDoor$Told;", true)
  | 2 => ("OneDoor", "told", "LOneDoor$Told;", true)
  | 3 => ("OneDoor", "life", "LOneDoor$Life;", true)
  | 4 => ("OneDoor", "state", "LOneDoor$Now;", true)
  | 5 => ("OneDoor", "images", "[LOneDoor$Life;", true)
  | 6 => ("OneDoor", "kept", "[Z", true)
  | 7 => ("OneDoor", "plan", "LOneDoor$Plan;", true)
  | 8 => ("OneDoor", "hatHouse", "[I", true)
  | 9 => ("OneDoor", "hatMinute", "[I", true)
  | 10 => ("OneDoor", "hatsSeen", "I", false)
  | _ => ("OneDoor", "kinds", "[LOneDoor$Hall;", true)
def zT11y : Nat → FieldType := fun k => match k with
  | 0 => .object "OneDoor$Reader"
  | 1 => .object "OneDoor$Told"
  | 2 => .object "OneDoor$Told"
  | 3 => .object "OneDoor$Life"
  | 4 => .object "OneDoor$Now"
  | 5 => .array (.object "OneDoor$Life")
  | 6 => .array (.boolean)
  | 7 => .object "OneDoor$Plan"
  | 8 => .array (.int)
  | 9 => .array (.int)
  | 10 => .int
  | _ => .array (.object "OneDoor$Hall")
theorem zT11n : ∀ a, a < 12 → ∀ b, b < 12 → a ≠ b → (zT11 a).2.1 ≠ (zT11 b).2.1 := by decide +kernel
theorem zT11p : ∀ k, k < 12 → parseFieldDescriptor (zT11 k).2.2.1 = some (zT11y k) := by decide +kernel
def zT12 : u_T := fun k => match k with
  | 0 => ("OneDoorModel", "trace", "J", false)
  | 1 => ("OneDoorModel", "text", "[B", true)
  | 2 => ("OneDoorModel", "typed", "I", false)
  | 3 => ("OneDoorModel", "houses", "[I", true)
  | 4 => ("OneDoorModel", "hall", "[I", true)
  | 5 => ("OneDoorModel", "people", "[I", true)
  | 6 => ("OneDoorModel", "draftHome", "[I", true)
  | 7 => ("OneDoorModel", "errands", "[I", true)
  | 8 => ("OneDoorModel", "patience", "[I", true)
  | 9 => ("OneDoorModel", "law", "[I", true)
  | 10 => ("OneDoorModel", "lawsTold", "I", false)
  | 11 => ("OneDoorModel", "at", "I", false)
  | 12 => ("OneDoorModel", "start", "I", false)
  | 13 => ("OneDoorModel", "sort", "I", false)
  | 14 => ("OneDoorModel", "value", "I", false)
  | 15 => ("OneDoorModel", "fault", "I", false)
  | 16 => ("OneDoorModel", "now", "[I", true)
  | 17 => ("OneDoorModel", "isKept", "[Z", true)
  | 18 => ("OneDoorModel", "tried", "[I", true)
  | 19 => ("OneDoorModel", "best", "[I", true)
  | 20 => ("OneDoorModel", "hatHouse", "[I", true)
  | 21 => ("OneDoorModel", "hatMinute", "[I", true)
  | _ => ("OneDoorModel", "hats", "I", false)
def zT12y : Nat → FieldType := fun k => match k with
  | 0 => .long
  | 1 => .array (.byte)
  | 2 => .int
  | 3 => .array (.int)
  | 4 => .array (.int)
  | 5 => .array (.int)
  | 6 => .array (.int)
  | 7 => .array (.int)
  | 8 => .array (.int)
  | 9 => .array (.int)
  | 10 => .int
  | 11 => .int
  | 12 => .int
  | 13 => .int
  | 14 => .int
  | 15 => .int
  | 16 => .array (.int)
  | 17 => .array (.boolean)
  | 18 => .array (.int)
  | 19 => .array (.int)
  | 20 => .array (.int)
  | 21 => .array (.int)
  | _ => .int
theorem zT12n : ∀ a, a < 23 → ∀ b, b < 23 → a ≠ b → (zT12 a).2.1 ≠ (zT12 b).2.1 := by decide +kernel
theorem zT12p : ∀ k, k < 23 → parseFieldDescriptor (zT12 k).2.2.1 = some (zT12y k) := by decide +kernel
def zCl : List vw_C := [("OneDoor$Attic", zT3, 3), ("OneDoor$Bath", zT3, 3), ("OneDoor$Curtain", zT3, 3), ("OneDoor$Hall", zT3, 3), ("OneDoor$Kitchen", zT3, 3), ("OneDoor$Life", zT5, 3), ("OneDoor$Now", zT6, 7), ("OneDoor$Piano", zT3, 3), ("OneDoor$Plan", zT8, 7), ("OneDoor$Reader", zT9, 8), ("OneDoor$Told", zT10, 8), ("OneDoor", zT11, 12), ("OneDoorModel", zT12, 23)]
theorem zin0 : ∀ w ∈ u_ws "OneDoor$Attic" zT3 3, w ∈ zgt := zsub [343, 344, 345] (by decide +kernel)
theorem zin1 : ∀ w ∈ u_ws "OneDoor$Bath" zT3 3, w ∈ zgt := zsub [313, 314, 315] (by decide +kernel)
theorem zin2 : ∀ w ∈ u_ws "OneDoor$Curtain" zT3 3, w ∈ zgt := zsub [333, 334, 335] (by decide +kernel)
theorem zin3 : ∀ w ∈ u_ws "OneDoor$Hall" zT3 3, w ∈ zgt := zsub [290, 292, 294] (by decide +kernel)
theorem zin4 : ∀ w ∈ u_ws "OneDoor$Kitchen" zT3 3, w ∈ zgt := zsub [303, 304, 305] (by decide +kernel)
theorem zin5 : ∀ w ∈ u_ws "OneDoor$Life" zT5 3, w ∈ zgt := zsub [222, 224, 226] (by decide +kernel)
theorem zin6 : ∀ w ∈ u_ws "OneDoor$Now" zT6 7, w ∈ zgt := zsub [201, 203, 205, 207, 209, 211, 213] (by decide +kernel)
theorem zin7 : ∀ w ∈ u_ws "OneDoor$Piano" zT3 3, w ∈ zgt := zsub [323, 324, 325] (by decide +kernel)
theorem zin8 : ∀ w ∈ u_ws "OneDoor$Plan" zT8 7, w ∈ zgt := zsub [245, 247, 249, 251, 253, 255, 257] (by decide +kernel)
theorem zin9 : ∀ w ∈ u_ws "OneDoor$Reader" zT9 8, w ∈ zgt := zsub [96, 98, 100, 102, 104, 106, 108, 110] (by decide +kernel)
theorem zin10 : ∀ w ∈ u_ws "OneDoor$Told" zT10 8, w ∈ zgt := zsub [151, 153, 155, 157, 159, 161, 163, 165] (by decide +kernel)
theorem zin11 : ∀ w ∈ u_ws "OneDoor" zT11 12, w ∈ zgt := zsub [359, 361, 363, 365, 367, 369, 371, 373, 375, 377, 379, 381] (by decide +kernel)
theorem zin12 : ∀ w ∈ u_ws "OneDoorModel" zT12 23, w ∈ zgt := zsub [816, 818, 820, 822, 824, 826, 828, 830, 832, 834, 836, 838, 840, 842, 844, 846, 848, 850, 852, 854, 856, 858, 860] (by decide +kernel)
/-- what the tables say of a class of the list -/
def zClOk (q : vw_C) : Prop := (∀ w ∈ u_ws q.1 q.2.1 q.2.2, w ∈ zgt) ∧ (∃ ty : Nat → FieldType, ∀ k, k < q.2.2 → parseFieldDescriptor (q.2.1 k).2.2.1 = some (ty k)) ∧ (∀ a, a < q.2.2 → ∀ b, b < q.2.2 → a ≠ b → (q.2.1 a).2.1 ≠ (q.2.1 b).2.1) ∧ Cond.instantiable q.1 q.2.2 ∈ zgt ∧ Cond.initialized q.1 ∈ zgt
theorem zcl0 : zClOk ("OneDoor$Attic", zT3, 3) := ⟨zin0, ⟨zT3y, zT3p⟩, zT3n, zmem 338 (by decide +kernel), zmem 67 (by decide +kernel)⟩
theorem zcl1 : zClOk ("OneDoor$Bath", zT3, 3) := ⟨zin1, ⟨zT3y, zT3p⟩, zT3n, zmem 308 (by decide +kernel), zmem 64 (by decide +kernel)⟩
theorem zcl2 : zClOk ("OneDoor$Curtain", zT3, 3) := ⟨zin2, ⟨zT3y, zT3p⟩, zT3n, zmem 328 (by decide +kernel), zmem 66 (by decide +kernel)⟩
theorem zcl3 : zClOk ("OneDoor$Hall", zT3, 3) := ⟨zin3, ⟨zT3y, zT3p⟩, zT3n, zmem 263 (by decide +kernel), zmem 62 (by decide +kernel)⟩
theorem zcl4 : zClOk ("OneDoor$Kitchen", zT3, 3) := ⟨zin4, ⟨zT3y, zT3p⟩, zT3n, zmem 298 (by decide +kernel), zmem 63 (by decide +kernel)⟩
theorem zcl5 : zClOk ("OneDoor$Life", zT5, 3) := ⟨zin5, ⟨zT5y, zT5p⟩, zT5n, zmem 169 (by decide +kernel), zmem 59 (by decide +kernel)⟩
theorem zcl6 : zClOk ("OneDoor$Now", zT6, 7) := ⟨zin6, ⟨zT6y, zT6p⟩, zT6n, zmem 175 (by decide +kernel), zmem 60 (by decide +kernel)⟩
theorem zcl7 : zClOk ("OneDoor$Piano", zT3, 3) := ⟨zin7, ⟨zT3y, zT3p⟩, zT3n, zmem 318 (by decide +kernel), zmem 65 (by decide +kernel)⟩
theorem zcl8 : zClOk ("OneDoor$Plan", zT8, 7) := ⟨zin8, ⟨zT8y, zT8p⟩, zT8n, zmem 231 (by decide +kernel), zmem 61 (by decide +kernel)⟩
theorem zcl9 : zClOk ("OneDoor$Reader", zT9, 8) := ⟨zin9, ⟨zT9y, zT9p⟩, zT9n, zmem 81 (by decide +kernel), zmem 57 (by decide +kernel)⟩
theorem zcl10 : zClOk ("OneDoor$Told", zT10, 8) := ⟨zin10, ⟨zT10y, zT10p⟩, zT10n, zmem 115 (by decide +kernel), zmem 58 (by decide +kernel)⟩
theorem zcl11 : zClOk ("OneDoor", zT11, 12) := ⟨zin11, ⟨zT11y, zT11p⟩, zT11n, zmem 73 (by decide +kernel), zmem 56 (by decide +kernel)⟩
theorem zcl12 : zClOk ("OneDoorModel", zT12, 23) := ⟨zin12, ⟨zT12y, zT12p⟩, zT12n, zmem 780 (by decide +kernel), zmem 68 (by decide +kernel)⟩
theorem zcls {ci : Nat} {q : vw_C} (h : zCl[ci]? = some q) : zClOk q := by
  match ci, h with
  | 0, h => cases h; exact zcl0
  | 1, h => cases h; exact zcl1
  | 2, h => cases h; exact zcl2
  | 3, h => cases h; exact zcl3
  | 4, h => cases h; exact zcl4
  | 5, h => cases h; exact zcl5
  | 6, h => cases h; exact zcl6
  | 7, h => cases h; exact zcl7
  | 8, h => cases h; exact zcl8
  | 9, h => cases h; exact zcl9
  | 10, h => cases h; exact zcl10
  | 11, h => cases h; exact zcl11
  | 12, h => cases h; exact zcl12
  | n + 13, h => simp [zCl] at h
/-- the words that need a way of their own into a later state -/
def zBd (U : State) : Prop := va_Nw (.methodLinkNest "OneDoor" 9 ⟨"OneDoor$Reader", "<init>", "()V"⟩ "OneDoor") U ∧ va_Nw (.methodLinkNest "OneDoor" 18 ⟨"OneDoor$Told", "<init>", "()V"⟩ "OneDoor") U ∧ va_Nw (.methodLinkNest "OneDoor$Life" 11 ⟨"OneDoor$Now", "<init>", "()V"⟩ "OneDoor") U ∧ va_AO "OneDoor$Now" U ∧ va_AO "OneDoor$Life" U ∧ va_AO "OneDoor$Hall" U ∧ va_Nw (.castable "OneDoor$Kitchen" "OneDoor$Hall") U ∧ va_Nw (.castable "OneDoor$Bath" "OneDoor$Hall") U ∧ va_Nw (.castable "OneDoor$Piano" "OneDoor$Hall") U ∧ va_Nw (.castable "OneDoor$Curtain" "OneDoor$Hall") U ∧ va_Nw (.castable "OneDoor$Attic" "OneDoor$Hall") U
theorem zBd_warm {s U : State} (hW : s.WarmedH U.vm) (h : zBd s) : zBd U := by
  obtain ⟨h0, h1, h2, h3, h4, h5, h6, h7, h8, h9, h10⟩ := h
  exact ⟨va_Nw.warmM hW h0, va_Nw.warmM hW h1, va_Nw.warmM hW h2, va_AO.moved hW.alike h3, va_AO.moved hW.alike h4, va_AO.moved hW.alike h5, va_Nw.warmC hW h6, va_Nw.warmC hW h7, va_Nw.warmC hW h8, va_Nw.warmC hW h9, va_Nw.warmC hW h10⟩
theorem zBd_same {s U : State} (hW : s.vm = U.vm) (h : zBd s) : zBd U := by
  obtain ⟨h0, h1, h2, h3, h4, h5, h6, h7, h8, h9, h10⟩ := h
  exact ⟨va_Nw.same rfl hW h0, va_Nw.same rfl hW h1, va_Nw.same rfl hW h2, va_AO.moved (by rw [hW]; exact Vm.Alike.refl _) h3, va_AO.moved (by rw [hW]; exact Vm.Alike.refl _) h4, va_AO.moved (by rw [hW]; exact Vm.Alike.refl _) h5, va_Nw.same rfl hW h6, va_Nw.same rfl hW h7, va_Nw.same rfl hW h8, va_Nw.same rfl hW h9, va_Nw.same rfl hW h10⟩
theorem zBd_of {args : Array Value} {s : State} (h : ∀ w ∈ lw_tbl, w.before args s = true) : zBd s := ⟨va_Nw.of rfl (h _ (List.mem_of_getElem? (i := 82) (by decide +kernel))), va_Nw.of rfl (h _ (List.mem_of_getElem? (i := 116) (by decide +kernel))), va_Nw.of rfl (h _ (List.mem_of_getElem? (i := 176) (by decide +kernel))), va_AO.of (h _ (List.mem_of_getElem? (i := 216) (by decide +kernel))), va_AO.of (h _ (List.mem_of_getElem? (i := 229) (by decide +kernel))), va_AO.of (h _ (List.mem_of_getElem? (i := 262) (by decide +kernel))), va_Nw.of rfl (h _ (List.mem_of_getElem? (i := 1100) (by decide +kernel))), va_Nw.of rfl (h _ (List.mem_of_getElem? (i := 1101) (by decide +kernel))), va_Nw.of rfl (h _ (List.mem_of_getElem? (i := 1102) (by decide +kernel))), va_Nw.of rfl (h _ (List.mem_of_getElem? (i := 1103) (by decide +kernel))), va_Nw.of rfl (h _ (List.mem_of_getElem? (i := 1104) (by decide +kernel)))⟩
