section
-- ===== PART A: goes FIRST, ahead of the names: the tables' words, and 'selects' of the private methods out of them =====
/-- a private method of a class that the tables say can be made, by its rows of tables_1 -/
def lw_okq (q : MethodName × Nat) : Prop := (q.1.cls ≠ "java/lang/invoke/MethodHandle" ∧ q.1.cls ≠ "java/lang/invoke/VarHandle") ∧ Cond.instantiable q.1.cls q.2 ∈ tables_1 ∧ Cond.privateMethod q.1 ∈ tables_1 ∧ Cond.instanceMethod q.1 ∈ tables_1
theorem lw_p0 : lw_okq (⟨"OneDoor$Reader", "readToken", "()V"⟩, 8) := ⟨⟨by decide +kernel, by decide +kernel⟩, List.mem_of_getElem? (i := 26) (by decide +kernel), List.mem_of_getElem? (i := 350) (by decide +kernel), List.mem_of_getElem? (i := 351) (by decide +kernel)⟩
theorem lw_p1 : lw_okq (⟨"OneDoor$Reader", "readLetters", "()V"⟩, 8) := ⟨⟨by decide +kernel, by decide +kernel⟩, List.mem_of_getElem? (i := 26) (by decide +kernel), List.mem_of_getElem? (i := 357) (by decide +kernel), List.mem_of_getElem? (i := 358) (by decide +kernel)⟩
theorem lw_p2 : lw_okq (⟨"OneDoor$Reader", "readDigits", "()V"⟩, 8) := ⟨⟨by decide +kernel, by decide +kernel⟩, List.mem_of_getElem? (i := 26) (by decide +kernel), List.mem_of_getElem? (i := 364) (by decide +kernel), List.mem_of_getElem? (i := 365) (by decide +kernel)⟩
theorem lw_p3 : lw_okq (⟨"OneDoor$Reader", "readItem", "(LOneDoor$Told;)Z"⟩, 8) := ⟨⟨by decide +kernel, by decide +kernel⟩, List.mem_of_getElem? (i := 26) (by decide +kernel), List.mem_of_getElem? (i := 371) (by decide +kernel), List.mem_of_getElem? (i := 372) (by decide +kernel)⟩
theorem lw_p4 : lw_okq (⟨"OneDoor$Reader", "readHouse", "(LOneDoor$Told;)Z"⟩, 8) := ⟨⟨by decide +kernel, by decide +kernel⟩, List.mem_of_getElem? (i := 26) (by decide +kernel), List.mem_of_getElem? (i := 375) (by decide +kernel), List.mem_of_getElem? (i := 376) (by decide +kernel)⟩
theorem lw_p5 : lw_okq (⟨"OneDoor$Reader", "readNumber", "(II)Z"⟩, 8) := ⟨⟨by decide +kernel, by decide +kernel⟩, List.mem_of_getElem? (i := 26) (by decide +kernel), List.mem_of_getElem? (i := 379) (by decide +kernel), List.mem_of_getElem? (i := 380) (by decide +kernel)⟩
theorem lw_p6 : lw_okq (⟨"OneDoor$Reader", "readStop", "()Z"⟩, 8) := ⟨⟨by decide +kernel, by decide +kernel⟩, List.mem_of_getElem? (i := 26) (by decide +kernel), List.mem_of_getElem? (i := 383) (by decide +kernel), List.mem_of_getElem? (i := 384) (by decide +kernel)⟩
theorem lw_p7 : lw_okq (⟨"OneDoor$Reader", "readPerson", "(LOneDoor$Told;)Z"⟩, 8) := ⟨⟨by decide +kernel, by decide +kernel⟩, List.mem_of_getElem? (i := 26) (by decide +kernel), List.mem_of_getElem? (i := 387) (by decide +kernel), List.mem_of_getElem? (i := 388) (by decide +kernel)⟩
theorem lw_p8 : lw_okq (⟨"OneDoor$Reader", "readTax", "(LOneDoor$Told;)Z"⟩, 8) := ⟨⟨by decide +kernel, by decide +kernel⟩, List.mem_of_getElem? (i := 26) (by decide +kernel), List.mem_of_getElem? (i := 391) (by decide +kernel), List.mem_of_getElem? (i := 392) (by decide +kernel)⟩
theorem lw_p9 : lw_okq (⟨"OneDoor$Reader", "readWarm", "(LOneDoor$Told;)Z"⟩, 8) := ⟨⟨by decide +kernel, by decide +kernel⟩, List.mem_of_getElem? (i := 26) (by decide +kernel), List.mem_of_getElem? (i := 395) (by decide +kernel), List.mem_of_getElem? (i := 396) (by decide +kernel)⟩
theorem lw_p10 : lw_okq (⟨"OneDoor", "isHouse", "(I)Z"⟩, 12) := ⟨⟨by decide +kernel, by decide +kernel⟩, List.mem_of_getElem? (i := 18) (by decide +kernel), List.mem_of_getElem? (i := 419) (by decide +kernel), List.mem_of_getElem? (i := 420) (by decide +kernel)⟩
theorem lw_p11 : lw_okq (⟨"OneDoor", "peopleAt", "([II)I"⟩, 12) := ⟨⟨by decide +kernel, by decide +kernel⟩, List.mem_of_getElem? (i := 18) (by decide +kernel), List.mem_of_getElem? (i := 423) (by decide +kernel), List.mem_of_getElem? (i := 424) (by decide +kernel)⟩
theorem lw_p12 : lw_okq (⟨"OneDoor$Plan", "theWay", "(II)I"⟩, 7) := ⟨⟨by decide +kernel, by decide +kernel⟩, List.mem_of_getElem? (i := 176) (by decide +kernel), List.mem_of_getElem? (i := 435) (by decide +kernel), List.mem_of_getElem? (i := 436) (by decide +kernel)⟩
theorem lw_p13 : lw_okq (⟨"OneDoor$Plan", "minutesOf", "(I)I"⟩, 7) := ⟨⟨by decide +kernel, by decide +kernel⟩, List.mem_of_getElem? (i := 176) (by decide +kernel), List.mem_of_getElem? (i := 445) (by decide +kernel), List.mem_of_getElem? (i := 446) (by decide +kernel)⟩
theorem lw_p14 : lw_okq (⟨"OneDoor", "isPerson", "(I)Z"⟩, 12) := ⟨⟨by decide +kernel, by decide +kernel⟩, List.mem_of_getElem? (i := 18) (by decide +kernel), List.mem_of_getElem? (i := 453) (by decide +kernel), List.mem_of_getElem? (i := 454) (by decide +kernel)⟩
theorem lw_p15 : lw_okq (⟨"OneDoor", "stepEnd", "(II)I"⟩, 12) := ⟨⟨by decide +kernel, by decide +kernel⟩, List.mem_of_getElem? (i := 18) (by decide +kernel), List.mem_of_getElem? (i := 465) (by decide +kernel), List.mem_of_getElem? (i := 466) (by decide +kernel)⟩
def lw_privs_1 : List (MethodName × Nat) := [(⟨"OneDoor$Reader", "readToken", "()V"⟩, 8), (⟨"OneDoor$Reader", "readLetters", "()V"⟩, 8), (⟨"OneDoor$Reader", "readDigits", "()V"⟩, 8), (⟨"OneDoor$Reader", "readItem", "(LOneDoor$Told;)Z"⟩, 8), (⟨"OneDoor$Reader", "readHouse", "(LOneDoor$Told;)Z"⟩, 8), (⟨"OneDoor$Reader", "readNumber", "(II)Z"⟩, 8), (⟨"OneDoor$Reader", "readStop", "()Z"⟩, 8), (⟨"OneDoor$Reader", "readPerson", "(LOneDoor$Told;)Z"⟩, 8), (⟨"OneDoor$Reader", "readTax", "(LOneDoor$Told;)Z"⟩, 8), (⟨"OneDoor$Reader", "readWarm", "(LOneDoor$Told;)Z"⟩, 8), (⟨"OneDoor", "isHouse", "(I)Z"⟩, 12), (⟨"OneDoor", "peopleAt", "([II)I"⟩, 12), (⟨"OneDoor$Plan", "theWay", "(II)I"⟩, 7), (⟨"OneDoor$Plan", "minutesOf", "(I)I"⟩, 7), (⟨"OneDoor", "isPerson", "(I)Z"⟩, 12), (⟨"OneDoor", "stepEnd", "(II)I"⟩, 12)]
theorem lw_r1 : ∀ q ∈ lw_privs_1, lw_okq q := List.forall_mem_cons.mpr ⟨lw_p0, List.forall_mem_cons.mpr ⟨lw_p1, List.forall_mem_cons.mpr ⟨lw_p2, List.forall_mem_cons.mpr ⟨lw_p3, List.forall_mem_cons.mpr ⟨lw_p4, List.forall_mem_cons.mpr ⟨lw_p5, List.forall_mem_cons.mpr ⟨lw_p6, List.forall_mem_cons.mpr ⟨lw_p7, List.forall_mem_cons.mpr ⟨lw_p8, List.forall_mem_cons.mpr ⟨lw_p9, List.forall_mem_cons.mpr ⟨lw_p10, List.forall_mem_cons.mpr ⟨lw_p11, List.forall_mem_cons.mpr ⟨lw_p12, List.forall_mem_cons.mpr ⟨lw_p13, List.forall_mem_cons.mpr ⟨lw_p14, List.forall_mem_cons.mpr ⟨lw_p15, fun _ h => absurd h List.not_mem_nil⟩⟩⟩⟩⟩⟩⟩⟩⟩⟩⟩⟩⟩⟩⟩⟩
theorem lw_p16 : lw_okq (⟨"OneDoor", "mayEnter", "(II)Z"⟩, 12) := ⟨⟨by decide +kernel, by decide +kernel⟩, List.mem_of_getElem? (i := 18) (by decide +kernel), List.mem_of_getElem? (i := 469) (by decide +kernel), List.mem_of_getElem? (i := 470) (by decide +kernel)⟩
theorem lw_p17 : lw_okq (⟨"OneDoor$Life", "loseOldest", "()V"⟩, 3) := ⟨⟨by decide +kernel, by decide +kernel⟩, List.mem_of_getElem? (i := 114) (by decide +kernel), List.mem_of_getElem? (i := 477) (by decide +kernel), List.mem_of_getElem? (i := 478) (by decide +kernel)⟩
theorem lw_p18 : lw_okq (⟨"OneDoor", "move", "(II)V"⟩, 12) := ⟨⟨by decide +kernel, by decide +kernel⟩, List.mem_of_getElem? (i := 18) (by decide +kernel), List.mem_of_getElem? (i := 485) (by decide +kernel), List.mem_of_getElem? (i := 486) (by decide +kernel)⟩
theorem lw_p19 : lw_okq (⟨"OneDoor", "disturb", "(I)V"⟩, 12) := ⟨⟨by decide +kernel, by decide +kernel⟩, List.mem_of_getElem? (i := 18) (by decide +kernel), List.mem_of_getElem? (i := 489) (by decide +kernel), List.mem_of_getElem? (i := 490) (by decide +kernel)⟩
theorem lw_p20 : lw_okq (⟨"OneDoor$Plan", "dwellersOn", "(I)I"⟩, 7) := ⟨⟨by decide +kernel, by decide +kernel⟩, List.mem_of_getElem? (i := 176) (by decide +kernel), List.mem_of_getElem? (i := 534) (by decide +kernel), List.mem_of_getElem? (i := 535) (by decide +kernel)⟩
theorem lw_p21 : lw_okq (⟨"OneDoor$Plan", "eachWayMeets", "(II)Z"⟩, 7) := ⟨⟨by decide +kernel, by decide +kernel⟩, List.mem_of_getElem? (i := 176) (by decide +kernel), List.mem_of_getElem? (i := 547) (by decide +kernel), List.mem_of_getElem? (i := 548) (by decide +kernel)⟩
theorem lw_p22 : lw_okq (⟨"OneDoor$Plan", "giveFrom", "(II)V"⟩, 7) := ⟨⟨by decide +kernel, by decide +kernel⟩, List.mem_of_getElem? (i := 176) (by decide +kernel), List.mem_of_getElem? (i := 569) (by decide +kernel), List.mem_of_getElem? (i := 570) (by decide +kernel)⟩
theorem lw_p23 : lw_okq (⟨"OneDoor", "hatsFit", "(I)Z"⟩, 12) := ⟨⟨by decide +kernel, by decide +kernel⟩, List.mem_of_getElem? (i := 18) (by decide +kernel), List.mem_of_getElem? (i := 618) (by decide +kernel), List.mem_of_getElem? (i := 619) (by decide +kernel)⟩
theorem lw_p24 : lw_okq (⟨"OneDoor", "hatsFitOut", "(III)Z"⟩, 12) := ⟨⟨by decide +kernel, by decide +kernel⟩, List.mem_of_getElem? (i := 18) (by decide +kernel), List.mem_of_getElem? (i := 623) (by decide +kernel), List.mem_of_getElem? (i := 624) (by decide +kernel)⟩
theorem lw_p25 : lw_okq (⟨"OneDoor", "hatsFitIn", "(III)Z"⟩, 12) := ⟨⟨by decide +kernel, by decide +kernel⟩, List.mem_of_getElem? (i := 18) (by decide +kernel), List.mem_of_getElem? (i := 634) (by decide +kernel), List.mem_of_getElem? (i := 635) (by decide +kernel)⟩
theorem lw_p26 : lw_okq (⟨"OneDoorModel", "plain", "()V"⟩, 23) := ⟨⟨by decide +kernel, by decide +kernel⟩, List.mem_of_getElem? (i := 725) (by decide +kernel), List.mem_of_getElem? (i := 731) (by decide +kernel), List.mem_of_getElem? (i := 732) (by decide +kernel)⟩
theorem lw_p27 : lw_okq (⟨"OneDoorModel", "takeDraft", "()V"⟩, 23) := ⟨⟨by decide +kernel, by decide +kernel⟩, List.mem_of_getElem? (i := 725) (by decide +kernel), List.mem_of_getElem? (i := 735) (by decide +kernel), List.mem_of_getElem? (i := 736) (by decide +kernel)⟩
theorem lw_p28 : lw_okq (⟨"OneDoorModel", "step", "()V"⟩, 23) := ⟨⟨by decide +kernel, by decide +kernel⟩, List.mem_of_getElem? (i := 725) (by decide +kernel), List.mem_of_getElem? (i := 825) (by decide +kernel), List.mem_of_getElem? (i := 826) (by decide +kernel)⟩
theorem lw_p29 : lw_okq (⟨"OneDoorModel", "here", "()I"⟩, 23) := ⟨⟨by decide +kernel, by decide +kernel⟩, List.mem_of_getElem? (i := 725) (by decide +kernel), List.mem_of_getElem? (i := 829) (by decide +kernel), List.mem_of_getElem? (i := 830) (by decide +kernel)⟩
theorem lw_p30 : lw_okq (⟨"OneDoorModel", "mayBe", "(I)Z"⟩, 23) := ⟨⟨by decide +kernel, by decide +kernel⟩, List.mem_of_getElem? (i := 725) (by decide +kernel), List.mem_of_getElem? (i := 833) (by decide +kernel), List.mem_of_getElem? (i := 834) (by decide +kernel)⟩
theorem lw_p31 : lw_okq (⟨"OneDoorModel", "due", "(Z)I"⟩, 23) := ⟨⟨by decide +kernel, by decide +kernel⟩, List.mem_of_getElem? (i := 725) (by decide +kernel), List.mem_of_getElem? (i := 837) (by decide +kernel), List.mem_of_getElem? (i := 838) (by decide +kernel)⟩
def lw_privs_2 : List (MethodName × Nat) := [(⟨"OneDoor", "mayEnter", "(II)Z"⟩, 12), (⟨"OneDoor$Life", "loseOldest", "()V"⟩, 3), (⟨"OneDoor", "move", "(II)V"⟩, 12), (⟨"OneDoor", "disturb", "(I)V"⟩, 12), (⟨"OneDoor$Plan", "dwellersOn", "(I)I"⟩, 7), (⟨"OneDoor$Plan", "eachWayMeets", "(II)Z"⟩, 7), (⟨"OneDoor$Plan", "giveFrom", "(II)V"⟩, 7), (⟨"OneDoor", "hatsFit", "(I)Z"⟩, 12), (⟨"OneDoor", "hatsFitOut", "(III)Z"⟩, 12), (⟨"OneDoor", "hatsFitIn", "(III)Z"⟩, 12), (⟨"OneDoorModel", "plain", "()V"⟩, 23), (⟨"OneDoorModel", "takeDraft", "()V"⟩, 23), (⟨"OneDoorModel", "step", "()V"⟩, 23), (⟨"OneDoorModel", "here", "()I"⟩, 23), (⟨"OneDoorModel", "mayBe", "(I)Z"⟩, 23), (⟨"OneDoorModel", "due", "(Z)I"⟩, 23)]
theorem lw_r2 : ∀ q ∈ lw_privs_2, lw_okq q := List.forall_mem_cons.mpr ⟨lw_p16, List.forall_mem_cons.mpr ⟨lw_p17, List.forall_mem_cons.mpr ⟨lw_p18, List.forall_mem_cons.mpr ⟨lw_p19, List.forall_mem_cons.mpr ⟨lw_p20, List.forall_mem_cons.mpr ⟨lw_p21, List.forall_mem_cons.mpr ⟨lw_p22, List.forall_mem_cons.mpr ⟨lw_p23, List.forall_mem_cons.mpr ⟨lw_p24, List.forall_mem_cons.mpr ⟨lw_p25, List.forall_mem_cons.mpr ⟨lw_p26, List.forall_mem_cons.mpr ⟨lw_p27, List.forall_mem_cons.mpr ⟨lw_p28, List.forall_mem_cons.mpr ⟨lw_p29, List.forall_mem_cons.mpr ⟨lw_p30, List.forall_mem_cons.mpr ⟨lw_p31, fun _ h => absurd h List.not_mem_nil⟩⟩⟩⟩⟩⟩⟩⟩⟩⟩⟩⟩⟩⟩⟩⟩
theorem lw_p32 : lw_okq (⟨"OneDoorModel", "readRow", "(I)V"⟩, 23) := ⟨⟨by decide +kernel, by decide +kernel⟩, List.mem_of_getElem? (i := 725) (by decide +kernel), List.mem_of_getElem? (i := 841) (by decide +kernel), List.mem_of_getElem? (i := 842) (by decide +kernel)⟩
theorem lw_p33 : lw_okq (⟨"OneDoorModel", "number", "(II)I"⟩, 23) := ⟨⟨by decide +kernel, by decide +kernel⟩, List.mem_of_getElem? (i := 725) (by decide +kernel), List.mem_of_getElem? (i := 845) (by decide +kernel), List.mem_of_getElem? (i := 846) (by decide +kernel)⟩
theorem lw_p34 : lw_okq (⟨"OneDoorModel", "isHouse", "(I)Z"⟩, 23) := ⟨⟨by decide +kernel, by decide +kernel⟩, List.mem_of_getElem? (i := 725) (by decide +kernel), List.mem_of_getElem? (i := 853) (by decide +kernel), List.mem_of_getElem? (i := 854) (by decide +kernel)⟩
theorem lw_p35 : lw_okq (⟨"OneDoorModel", "living", "(I)I"⟩, 23) := ⟨⟨by decide +kernel, by decide +kernel⟩, List.mem_of_getElem? (i := 725) (by decide +kernel), List.mem_of_getElem? (i := 857) (by decide +kernel), List.mem_of_getElem? (i := 858) (by decide +kernel)⟩
theorem lw_p36 : lw_okq (⟨"OneDoorModel", "being", "(I)I"⟩, 23) := ⟨⟨by decide +kernel, by decide +kernel⟩, List.mem_of_getElem? (i := 725) (by decide +kernel), List.mem_of_getElem? (i := 861) (by decide +kernel), List.mem_of_getElem? (i := 862) (by decide +kernel)⟩
theorem lw_p37 : lw_okq (⟨"OneDoorModel", "minutesTo", "(I)I"⟩, 23) := ⟨⟨by decide +kernel, by decide +kernel⟩, List.mem_of_getElem? (i := 725) (by decide +kernel), List.mem_of_getElem? (i := 865) (by decide +kernel), List.mem_of_getElem? (i := 866) (by decide +kernel)⟩
theorem lw_p38 : lw_okq (⟨"OneDoorModel", "wayTo", "(II)I"⟩, 23) := ⟨⟨by decide +kernel, by decide +kernel⟩, List.mem_of_getElem? (i := 725) (by decide +kernel), List.mem_of_getElem? (i := 869) (by decide +kernel), List.mem_of_getElem? (i := 870) (by decide +kernel)⟩
theorem lw_p39 : lw_okq (⟨"OneDoorModel", "doorTo", "(II)I"⟩, 23) := ⟨⟨by decide +kernel, by decide +kernel⟩, List.mem_of_getElem? (i := 725) (by decide +kernel), List.mem_of_getElem? (i := 873) (by decide +kernel), List.mem_of_getElem? (i := 874) (by decide +kernel)⟩
theorem lw_p40 : lw_okq (⟨"OneDoorModel", "minutesOf", "(I)I"⟩, 23) := ⟨⟨by decide +kernel, by decide +kernel⟩, List.mem_of_getElem? (i := 725) (by decide +kernel), List.mem_of_getElem? (i := 880) (by decide +kernel), List.mem_of_getElem? (i := 881) (by decide +kernel)⟩
theorem lw_p41 : lw_okq (⟨"OneDoorModel", "isPerson", "(I)Z"⟩, 23) := ⟨⟨by decide +kernel, by decide +kernel⟩, List.mem_of_getElem? (i := 725) (by decide +kernel), List.mem_of_getElem? (i := 888) (by decide +kernel), List.mem_of_getElem? (i := 889) (by decide +kernel)⟩
theorem lw_p42 : lw_okq (⟨"OneDoorModel", "takeHomes", "()V"⟩, 23) := ⟨⟨by decide +kernel, by decide +kernel⟩, List.mem_of_getElem? (i := 725) (by decide +kernel), List.mem_of_getElem? (i := 892) (by decide +kernel), List.mem_of_getElem? (i := 893) (by decide +kernel)⟩
theorem lw_p43 : lw_okq (⟨"OneDoorModel", "passed", "(II)I"⟩, 23) := ⟨⟨by decide +kernel, by decide +kernel⟩, List.mem_of_getElem? (i := 725) (by decide +kernel), List.mem_of_getElem? (i := 896) (by decide +kernel), List.mem_of_getElem? (i := 897) (by decide +kernel)⟩
theorem lw_p44 : lw_okq (⟨"OneDoorModel", "stepTo", "(II)I"⟩, 23) := ⟨⟨by decide +kernel, by decide +kernel⟩, List.mem_of_getElem? (i := 725) (by decide +kernel), List.mem_of_getElem? (i := 904) (by decide +kernel), List.mem_of_getElem? (i := 905) (by decide +kernel)⟩
theorem lw_p45 : lw_okq (⟨"OneDoorModel", "know", "()V"⟩, 23) := ⟨⟨by decide +kernel, by decide +kernel⟩, List.mem_of_getElem? (i := 725) (by decide +kernel), List.mem_of_getElem? (i := 908) (by decide +kernel), List.mem_of_getElem? (i := 909) (by decide +kernel)⟩
theorem lw_p46 : lw_okq (⟨"OneDoorModel", "passings", "(I)I"⟩, 23) := ⟨⟨by decide +kernel, by decide +kernel⟩, List.mem_of_getElem? (i := 725) (by decide +kernel), List.mem_of_getElem? (i := 939) (by decide +kernel), List.mem_of_getElem? (i := 940) (by decide +kernel)⟩
theorem lw_p47 : lw_okq (⟨"OneDoorModel", "hurt", "()I"⟩, 23) := ⟨⟨by decide +kernel, by decide +kernel⟩, List.mem_of_getElem? (i := 725) (by decide +kernel), List.mem_of_getElem? (i := 943) (by decide +kernel), List.mem_of_getElem? (i := 944) (by decide +kernel)⟩
def lw_privs_3 : List (MethodName × Nat) := [(⟨"OneDoorModel", "readRow", "(I)V"⟩, 23), (⟨"OneDoorModel", "number", "(II)I"⟩, 23), (⟨"OneDoorModel", "isHouse", "(I)Z"⟩, 23), (⟨"OneDoorModel", "living", "(I)I"⟩, 23), (⟨"OneDoorModel", "being", "(I)I"⟩, 23), (⟨"OneDoorModel", "minutesTo", "(I)I"⟩, 23), (⟨"OneDoorModel", "wayTo", "(II)I"⟩, 23), (⟨"OneDoorModel", "doorTo", "(II)I"⟩, 23), (⟨"OneDoorModel", "minutesOf", "(I)I"⟩, 23), (⟨"OneDoorModel", "isPerson", "(I)Z"⟩, 23), (⟨"OneDoorModel", "takeHomes", "()V"⟩, 23), (⟨"OneDoorModel", "passed", "(II)I"⟩, 23), (⟨"OneDoorModel", "stepTo", "(II)I"⟩, 23), (⟨"OneDoorModel", "know", "()V"⟩, 23), (⟨"OneDoorModel", "passings", "(I)I"⟩, 23), (⟨"OneDoorModel", "hurt", "()I"⟩, 23)]
theorem lw_r3 : ∀ q ∈ lw_privs_3, lw_okq q := List.forall_mem_cons.mpr ⟨lw_p32, List.forall_mem_cons.mpr ⟨lw_p33, List.forall_mem_cons.mpr ⟨lw_p34, List.forall_mem_cons.mpr ⟨lw_p35, List.forall_mem_cons.mpr ⟨lw_p36, List.forall_mem_cons.mpr ⟨lw_p37, List.forall_mem_cons.mpr ⟨lw_p38, List.forall_mem_cons.mpr ⟨lw_p39, List.forall_mem_cons.mpr ⟨lw_p40, List.forall_mem_cons.mpr ⟨lw_p41, List.forall_mem_cons.mpr ⟨lw_p42, List.forall_mem_cons.mpr ⟨lw_p43, List.forall_mem_cons.mpr ⟨lw_p44, List.forall_mem_cons.mpr ⟨lw_p45, List.forall_mem_cons.mpr ⟨lw_p46, List.forall_mem_cons.mpr ⟨lw_p47, fun _ h => absurd h List.not_mem_nil⟩⟩⟩⟩⟩⟩⟩⟩⟩⟩⟩⟩⟩⟩⟩⟩
theorem lw_p48 : lw_okq (⟨"OneDoorModel", "stopped", "(I)I"⟩, 23) := ⟨⟨by decide +kernel, by decide +kernel⟩, List.mem_of_getElem? (i := 725) (by decide +kernel), List.mem_of_getElem? (i := 947) (by decide +kernel), List.mem_of_getElem? (i := 948) (by decide +kernel)⟩
theorem lw_p49 : lw_okq (⟨"OneDoorModel", "isBarred", "(III)Z"⟩, 23) := ⟨⟨by decide +kernel, by decide +kernel⟩, List.mem_of_getElem? (i := 725) (by decide +kernel), List.mem_of_getElem? (i := 951) (by decide +kernel), List.mem_of_getElem? (i := 952) (by decide +kernel)⟩
theorem lw_p50 : lw_okq (⟨"OneDoorModel", "toOpen", "()I"⟩, 23) := ⟨⟨by decide +kernel, by decide +kernel⟩, List.mem_of_getElem? (i := 725) (by decide +kernel), List.mem_of_getElem? (i := 955) (by decide +kernel), List.mem_of_getElem? (i := 956) (by decide +kernel)⟩
theorem lw_p51 : lw_okq (⟨"OneDoorModel", "isAhead", "()Z"⟩, 23) := ⟨⟨by decide +kernel, by decide +kernel⟩, List.mem_of_getElem? (i := 725) (by decide +kernel), List.mem_of_getElem? (i := 963) (by decide +kernel), List.mem_of_getElem? (i := 964) (by decide +kernel)⟩
theorem lw_p52 : lw_okq (⟨"OneDoorModel", "isSo", "(IIZ)Z"⟩, 23) := ⟨⟨by decide +kernel, by decide +kernel⟩, List.mem_of_getElem? (i := 725) (by decide +kernel), List.mem_of_getElem? (i := 994) (by decide +kernel), List.mem_of_getElem? (i := 995) (by decide +kernel)⟩
theorem lw_p53 : lw_okq (⟨"OneDoorModel", "outAt", "(III)I"⟩, 23) := ⟨⟨by decide +kernel, by decide +kernel⟩, List.mem_of_getElem? (i := 725) (by decide +kernel), List.mem_of_getElem? (i := 998) (by decide +kernel), List.mem_of_getElem? (i := 999) (by decide +kernel)⟩
theorem lw_p54 : lw_okq (⟨"OneDoorModel", "inAt", "(III)I"⟩, 23) := ⟨⟨by decide +kernel, by decide +kernel⟩, List.mem_of_getElem? (i := 725) (by decide +kernel), List.mem_of_getElem? (i := 1002) (by decide +kernel), List.mem_of_getElem? (i := 1003) (by decide +kernel)⟩
def lw_privs_4 : List (MethodName × Nat) := [(⟨"OneDoorModel", "stopped", "(I)I"⟩, 23), (⟨"OneDoorModel", "isBarred", "(III)Z"⟩, 23), (⟨"OneDoorModel", "toOpen", "()I"⟩, 23), (⟨"OneDoorModel", "isAhead", "()Z"⟩, 23), (⟨"OneDoorModel", "isSo", "(IIZ)Z"⟩, 23), (⟨"OneDoorModel", "outAt", "(III)I"⟩, 23), (⟨"OneDoorModel", "inAt", "(III)I"⟩, 23)]
theorem lw_r4 : ∀ q ∈ lw_privs_4, lw_okq q := List.forall_mem_cons.mpr ⟨lw_p48, List.forall_mem_cons.mpr ⟨lw_p49, List.forall_mem_cons.mpr ⟨lw_p50, List.forall_mem_cons.mpr ⟨lw_p51, List.forall_mem_cons.mpr ⟨lw_p52, List.forall_mem_cons.mpr ⟨lw_p53, List.forall_mem_cons.mpr ⟨lw_p54, fun _ h => absurd h List.not_mem_nil⟩⟩⟩⟩⟩⟩⟩
def lw_privs : List (MethodName × Nat) := lw_privs_1 ++ (lw_privs_2 ++ (lw_privs_3 ++ (lw_privs_4)))
def lw_tbl : List Cond := k2_sels lw_privs ++ tables_1
theorem lw_privs_ok : ∀ q ∈ lw_privs, lw_okq q := by
  show ∀ q ∈ lw_privs_1 ++ (lw_privs_2 ++ (lw_privs_3 ++ (lw_privs_4))), lw_okq q
  exact List.forall_mem_append.mpr ⟨lw_r1, List.forall_mem_append.mpr ⟨lw_r2, List.forall_mem_append.mpr ⟨lw_r3, lw_r4⟩⟩⟩

/-- the words that every later state keeps -/
def zgt : List Cond := lw_tbl.filter goodWord
theorem zmem {w : Cond} (i : Nat) (h : (lw_tbl[i]?).filter goodWord = some w) : w ∈ zgt := by
  obtain ⟨h1, h2⟩ := Option.filter_eq_some_iff.mp h
  exact List.mem_filter.mpr ⟨List.mem_of_getElem? h1, h2⟩
theorem zsub {ws : List Cond} (ps : List Nat) (h : ws = ps.filterMap (fun i => (lw_tbl[i]?).filter goodWord)) : ∀ w ∈ ws, w ∈ zgt := fun w hw => by
  rw [h] at hw
  obtain ⟨i, -, hi⟩ := List.mem_filterMap.mp hw
  exact zmem i hi
def zT3 : u_T := fun k => match k with
  | 0 => ("OneDoor$Hall", "told", "LOneDoor$Told;", true)
  | 1 => ("OneDoor$Hall", "state", "LOneDoor$Now;", true)
  | _ => ("OneDoor$Hall", "asked", "J", false)
def zT3y : Nat → FieldType := fun k => match k with
  | 0 => .object "OneDoor$Told"
  | 1 => .object "OneDoor$Now"
  | _ => .long
theorem zT3n : ∀ a, a < 3 → ∀ b, b < 3 → a ≠ b → (zT3 a).2.1 ≠ (zT3 b).2.1 := by decide +kernel
theorem zT3p : ∀ k, k < 3 → parseFieldDescriptor (zT3 k).2.2.1 = some (zT3y k) := by decide +kernel
def zT5 : u_T := fun k => match k with
  | 0 => ("OneDoor$Life", "state", "LOneDoor$Now;", true)
  | 1 => ("OneDoor$Life", "before", "[LOneDoor$Now;", true)
  | _ => ("OneDoor$Life", "known", "I", false)
def zT5y : Nat → FieldType := fun k => match k with
  | 0 => .object "OneDoor$Now"
  | 1 => .array (.object "OneDoor$Now")
  | _ => .int
theorem zT5n : ∀ a, a < 3 → ∀ b, b < 3 → a ≠ b → (zT5 a).2.1 ≠ (zT5 b).2.1 := by decide +kernel
theorem zT5p : ∀ k, k < 3 → parseFieldDescriptor (zT5 k).2.2.1 = some (zT5y k) := by decide +kernel
def zT6 : u_T := fun k => match k with
  | 0 => ("OneDoor$Now", "place", "[I", true)
  | 1 => ("OneDoor$Now", "home", "[I", true)
  | 2 => ("OneDoor$Now", "patience", "[I", true)
  | 3 => ("OneDoor$Now", "minute", "I", false)
  | 4 => ("OneDoor$Now", "offended", "I", false)
  | 5 => ("OneDoor$Now", "shut", "I", false)
  | _ => ("OneDoor$Now", "other", "I", false)
def zT6y : Nat → FieldType := fun k => match k with
  | 0 => .array (.int)
  | 1 => .array (.int)
  | 2 => .array (.int)
  | 3 => .int
  | 4 => .int
  | 5 => .int
  | _ => .int
theorem zT6n : ∀ a, a < 7 → ∀ b, b < 7 → a ≠ b → (zT6 a).2.1 ≠ (zT6 b).2.1 := by decide +kernel
theorem zT6p : ∀ k, k < 7 → parseFieldDescriptor (zT6 k).2.2.1 = some (zT6y k) := by decide +kernel
def zT8 : u_T := fun k => match k with
  | 0 => ("OneDoor$Plan", "told", "LOneDoor$Told;", true)
  | 1 => ("OneDoor$Plan", "state", "LOneDoor$Now;", true)
  | 2 => ("OneDoor$Plan", "cost", "[I", true)
  | 3 => ("OneDoor$Plan", "left", "[I", true)
  | 4 => ("OneDoor$Plan", "given", "[I", true)
  | 5 => ("OneDoor$Plan", "best", "[I", true)
  | _ => ("OneDoor$Plan", "fewest", "I", false)
def zT8y : Nat → FieldType := fun k => match k with
  | 0 => .object "OneDoor$Told"
  | 1 => .object "OneDoor$Now"
  | 2 => .array (.int)
  | 3 => .array (.int)
  | 4 => .array (.int)
  | 5 => .array (.int)
  | _ => .int
theorem zT8n : ∀ a, a < 7 → ∀ b, b < 7 → a ≠ b → (zT8 a).2.1 ≠ (zT8 b).2.1 := by decide +kernel
theorem zT8p : ∀ k, k < 7 → parseFieldDescriptor (zT8 k).2.2.1 = some (zT8y k) := by decide +kernel
def zT9 : u_T := fun k => match k with
  | 0 => ("OneDoor$Reader", "text", "[I", true)
  | 1 => ("OneDoor$Reader", "size", "I", false)
  | 2 => ("OneDoor$Reader", "at", "I", false)
  | 3 => ("OneDoor$Reader", "tokenAt", "I", false)
  | 4 => ("OneDoor$Reader", "token", "I", false)
  | 5 => ("OneDoor$Reader", "value", "I", false)
  | 6 => ("OneDoor$Reader", "taxTold", "Z", false)
  | _ => ("OneDoor$Reader", "warmTold", "Z", false)
def zT9y : Nat → FieldType := fun k => match k with
  | 0 => .array (.int)
  | 1 => .int
  | 2 => .int
  | 3 => .int
  | 4 => .int
  | 5 => .int
  | 6 => .boolean
  | _ => .boolean
theorem zT9n : ∀ a, a < 8 → ∀ b, b < 8 → a ≠ b → (zT9 a).2.1 ≠ (zT9 b).2.1 := by decide +kernel
theorem zT9p : ∀ k, k < 8 → parseFieldDescriptor (zT9 k).2.2.1 = some (zT9y k) := by decide +kernel
def zT10 : u_T := fun k => match k with
  | 0 => ("OneDoor$Told", "hall", "[I", true)
  | 1 => ("OneDoor$Told", "home", "[I", true)
  | 2 => ("OneDoor$Told", "errands", "[I", true)
  | 3 => ("OneDoor$Told", "patience", "[I", true)
  | 4 => ("OneDoor$Told", "houses", "I", false)
  | 5 => ("OneDoor$Told", "people", "I", false)
  | 6 => ("OneDoor$Told", "tax", "I", false)
  | _ => ("OneDoor$Told", "warm", "I", false)
def zT10y : Nat → FieldType := fun k => match k with
  | 0 => .array (.int)
  | 1 => .array (.int)
  | 2 => .array (.int)
  | 3 => .array (.int)
  | 4 => .int
  | 5 => .int
  | 6 => .int
  | _ => .int
theorem zT10n : ∀ a, a < 8 → ∀ b, b < 8 → a ≠ b → (zT10 a).2.1 ≠ (zT10 b).2.1 := by decide +kernel
theorem zT10p : ∀ k, k < 8 → parseFieldDescriptor (zT10 k).2.2.1 = some (zT10y k) := by decide +kernel
def zT11 : u_T := fun k => match k with
  | 0 => ("OneDoor", "reader", "LOneDoor$Reader;", true)
  | 1 => ("OneDoor", "draft", "LOneDoor$Told;", true)
  | 2 => ("OneDoor", "told", "LOneDoor$Told;", true)
  | 3 => ("OneDoor", "life", "LOneDoor$Life;", true)
  | 4 => ("OneDoor", "state", "LOneDoor$Now;", true)
  | 5 => ("OneDoor", "images", "[LOneDoor$Life;", true)
  | 6 => ("OneDoor", "kept", "[Z", true)
  | 7 => ("OneDoor", "plan", "LOneDoor$Plan;", true)
  | 8 => ("OneDoor", "hatHouse", "[I", true)
  | 9 => ("OneDoor", "hatMinute", "[I", true)
  | 10 => ("OneDoor", "hatsSeen", "I", false)
  | _ => ("OneDoor", "kinds", "[LOneDoor$Hall;", true)
def zT11y : Nat → FieldType := fun k => match k with
  | 0 => .object "OneDoor$Reader"
  | 1 => .object "OneDoor$Told"
  | 2 => .object "OneDoor$Told"
  | 3 => .object "OneDoor$Life"
  | 4 => .object "OneDoor$Now"
  | 5 => .array (.object "OneDoor$Life")
  | 6 => .array (.boolean)
  | 7 => .object "OneDoor$Plan"
  | 8 => .array (.int)
  | 9 => .array (.int)
  | 10 => .int
  | _ => .array (.object "OneDoor$Hall")
theorem zT11n : ∀ a, a < 12 → ∀ b, b < 12 → a ≠ b → (zT11 a).2.1 ≠ (zT11 b).2.1 := by decide +kernel
theorem zT11p : ∀ k, k < 12 → parseFieldDescriptor (zT11 k).2.2.1 = some (zT11y k) := by decide +kernel
def zT12 : u_T := fun k => match k with
  | 0 => ("OneDoorModel", "trace", "J", false)
  | 1 => ("OneDoorModel", "text", "[B", true)
  | 2 => ("OneDoorModel", "typed", "I", false)
  | 3 => ("OneDoorModel", "houses", "[I", true)
  | 4 => ("OneDoorModel", "hall", "[I", true)
  | 5 => ("OneDoorModel", "people", "[I", true)
  | 6 => ("OneDoorModel", "draftHome", "[I", true)
  | 7 => ("OneDoorModel", "errands", "[I", true)
  | 8 => ("OneDoorModel", "patience", "[I", true)
  | 9 => ("OneDoorModel", "law", "[I", true)
  | 10 => ("OneDoorModel", "lawsTold", "I", false)
  | 11 => ("OneDoorModel", "at", "I", false)
  | 12 => ("OneDoorModel", "start", "I", false)
  | 13 => ("OneDoorModel", "sort", "I", false)
  | 14 => ("OneDoorModel", "value", "I", false)
  | 15 => ("OneDoorModel", "fault", "I", false)
  | 16 => ("OneDoorModel", "now", "[I", true)
  | 17 => ("OneDoorModel", "isKept", "[Z", true)
  | 18 => ("OneDoorModel", "tried", "[I", true)
  | 19 => ("OneDoorModel", "best", "[I", true)
  | 20 => ("OneDoorModel", "hatHouse", "[I", true)
  | 21 => ("OneDoorModel", "hatMinute", "[I", true)
  | _ => ("OneDoorModel", "hats", "I", false)
def zT12y : Nat → FieldType := fun k => match k with
  | 0 => .long
  | 1 => .array (.byte)
  | 2 => .int
  | 3 => .array (.int)
  | 4 => .array (.int)
  | 5 => .array (.int)
  | 6 => .array (.int)
  | 7 => .array (.int)
  | 8 => .array (.int)
  | 9 => .array (.int)
  | 10 => .int
  | 11 => .int
  | 12 => .int
  | 13 => .int
  | 14 => .int
  | 15 => .int
  | 16 => .array (.int)
  | 17 => .array (.boolean)
  | 18 => .array (.int)
  | 19 => .array (.int)
  | 20 => .array (.int)
  | 21 => .array (.int)
  | _ => .int
theorem zT12n : ∀ a, a < 23 → ∀ b, b < 23 → a ≠ b → (zT12 a).2.1 ≠ (zT12 b).2.1 := by decide +kernel
theorem zT12p : ∀ k, k < 23 → parseFieldDescriptor (zT12 k).2.2.1 = some (zT12y k) := by decide +kernel
def zCl : List vw_C := [("OneDoor$Attic", zT3, 3), ("OneDoor$Bath", zT3, 3), ("OneDoor$Curtain", zT3, 3), ("OneDoor$Hall", zT3, 3), ("OneDoor$Kitchen", zT3, 3), ("OneDoor$Life", zT5, 3), ("OneDoor$Now", zT6, 7), ("OneDoor$Piano", zT3, 3), ("OneDoor$Plan", zT8, 7), ("OneDoor$Reader", zT9, 8), ("OneDoor$Told", zT10, 8), ("OneDoor", zT11, 12), ("OneDoorModel", zT12, 23)]
theorem zin0 : ∀ w ∈ u_ws "OneDoor$Attic" zT3 3, w ∈ zgt := zsub [343, 344, 345] (by decide +kernel)
theorem zin1 : ∀ w ∈ u_ws "OneDoor$Bath" zT3 3, w ∈ zgt := zsub [313, 314, 315] (by decide +kernel)
theorem zin2 : ∀ w ∈ u_ws "OneDoor$Curtain" zT3 3, w ∈ zgt := zsub [333, 334, 335] (by decide +kernel)
theorem zin3 : ∀ w ∈ u_ws "OneDoor$Hall" zT3 3, w ∈ zgt := zsub [290, 292, 294] (by decide +kernel)
theorem zin4 : ∀ w ∈ u_ws "OneDoor$Kitchen" zT3 3, w ∈ zgt := zsub [303, 304, 305] (by decide +kernel)
theorem zin5 : ∀ w ∈ u_ws "OneDoor$Life" zT5 3, w ∈ zgt := zsub [222, 224, 226] (by decide +kernel)
theorem zin6 : ∀ w ∈ u_ws "OneDoor$Now" zT6 7, w ∈ zgt := zsub [201, 203, 205, 207, 209, 211, 213] (by decide +kernel)
theorem zin7 : ∀ w ∈ u_ws "OneDoor$Piano" zT3 3, w ∈ zgt := zsub [323, 324, 325] (by decide +kernel)
theorem zin8 : ∀ w ∈ u_ws "OneDoor$Plan" zT8 7, w ∈ zgt := zsub [245, 247, 249, 251, 253, 255, 257] (by decide +kernel)
theorem zin9 : ∀ w ∈ u_ws "OneDoor$Reader" zT9 8, w ∈ zgt := zsub [96, 98, 100, 102, 104, 106, 108, 110] (by decide +kernel)
theorem zin10 : ∀ w ∈ u_ws "OneDoor$Told" zT10 8, w ∈ zgt := zsub [151, 153, 155, 157, 159, 161, 163, 165] (by decide +kernel)
theorem zin11 : ∀ w ∈ u_ws "OneDoor" zT11 12, w ∈ zgt := zsub [359, 361, 363, 365, 367, 369, 371, 373, 375, 377, 379, 381] (by decide +kernel)
theorem zin12 : ∀ w ∈ u_ws "OneDoorModel" zT12 23, w ∈ zgt := zsub [816, 818, 820, 822, 824, 826, 828, 830, 832, 834, 836, 838, 840, 842, 844, 846, 848, 850, 852, 854, 856, 858, 860] (by decide +kernel)
/-- what the tables say of a class of the list -/
def zClOk (q : vw_C) : Prop := (∀ w ∈ u_ws q.1 q.2.1 q.2.2, w ∈ zgt) ∧ (∃ ty : Nat → FieldType, ∀ k, k < q.2.2 → parseFieldDescriptor (q.2.1 k).2.2.1 = some (ty k)) ∧ (∀ a, a < q.2.2 → ∀ b, b < q.2.2 → a ≠ b → (q.2.1 a).2.1 ≠ (q.2.1 b).2.1) ∧ Cond.instantiable q.1 q.2.2 ∈ zgt ∧ Cond.initialized q.1 ∈ zgt
theorem zcl0 : zClOk ("OneDoor$Attic", zT3, 3) := ⟨zin0, ⟨zT3y, zT3p⟩, zT3n, zmem 338 (by decide +kernel), zmem 67 (by decide +kernel)⟩
theorem zcl1 : zClOk ("OneDoor$Bath", zT3, 3) := ⟨zin1, ⟨zT3y, zT3p⟩, zT3n, zmem 308 (by decide +kernel), zmem 64 (by decide +kernel)⟩
theorem zcl2 : zClOk ("OneDoor$Curtain", zT3, 3) := ⟨zin2, ⟨zT3y, zT3p⟩, zT3n, zmem 328 (by decide +kernel), zmem 66 (by decide +kernel)⟩
theorem zcl3 : zClOk ("OneDoor$Hall", zT3, 3) := ⟨zin3, ⟨zT3y, zT3p⟩, zT3n, zmem 263 (by decide +kernel), zmem 62 (by decide +kernel)⟩
theorem zcl4 : zClOk ("OneDoor$Kitchen", zT3, 3) := ⟨zin4, ⟨zT3y, zT3p⟩, zT3n, zmem 298 (by decide +kernel), zmem 63 (by decide +kernel)⟩
theorem zcl5 : zClOk ("OneDoor$Life", zT5, 3) := ⟨zin5, ⟨zT5y, zT5p⟩, zT5n, zmem 169 (by decide +kernel), zmem 59 (by decide +kernel)⟩
theorem zcl6 : zClOk ("OneDoor$Now", zT6, 7) := ⟨zin6, ⟨zT6y, zT6p⟩, zT6n, zmem 175 (by decide +kernel), zmem 60 (by decide +kernel)⟩
theorem zcl7 : zClOk ("OneDoor$Piano", zT3, 3) := ⟨zin7, ⟨zT3y, zT3p⟩, zT3n, zmem 318 (by decide +kernel), zmem 65 (by decide +kernel)⟩
theorem zcl8 : zClOk ("OneDoor$Plan", zT8, 7) := ⟨zin8, ⟨zT8y, zT8p⟩, zT8n, zmem 231 (by decide +kernel), zmem 61 (by decide +kernel)⟩
theorem zcl9 : zClOk ("OneDoor$Reader", zT9, 8) := ⟨zin9, ⟨zT9y, zT9p⟩, zT9n, zmem 81 (by decide +kernel), zmem 57 (by decide +kernel)⟩
theorem zcl10 : zClOk ("OneDoor$Told", zT10, 8) := ⟨zin10, ⟨zT10y, zT10p⟩, zT10n, zmem 115 (by decide +kernel), zmem 58 (by decide +kernel)⟩
theorem zcl11 : zClOk ("OneDoor", zT11, 12) := ⟨zin11, ⟨zT11y, zT11p⟩, zT11n, zmem 73 (by decide +kernel), zmem 56 (by decide +kernel)⟩
theorem zcl12 : zClOk ("OneDoorModel", zT12, 23) := ⟨zin12, ⟨zT12y, zT12p⟩, zT12n, zmem 780 (by decide +kernel), zmem 68 (by decide +kernel)⟩
theorem zcls {ci : Nat} {q : vw_C} (h : zCl[ci]? = some q) : zClOk q := by
  match ci, h with
  | 0, h => cases h; exact zcl0
  | 1, h => cases h; exact zcl1
  | 2, h => cases h; exact zcl2
  | 3, h => cases h; exact zcl3
  | 4, h => cases h; exact zcl4
  | 5, h => cases h; exact zcl5
  | 6, h => cases h; exact zcl6
  | 7, h => cases h; exact zcl7
  | 8, h => cases h; exact zcl8
  | 9, h => cases h; exact zcl9
  | 10, h => cases h; exact zcl10
  | 11, h => cases h; exact zcl11
  | 12, h => cases h; exact zcl12
  | n + 13, h => simp [zCl] at h
/-- the words that need a way of their own into a later state -/
def zBd (U : State) : Prop := va_Nw (.methodLinkNest "OneDoor" 9 ⟨"OneDoor$Reader", "<init>", "()V"⟩ "OneDoor") U ∧ va_Nw (.methodLinkNest "OneDoor" 18 ⟨"OneDoor$Told", "<init>", "()V"⟩ "OneDoor") U ∧ va_Nw (.methodLinkNest "OneDoor$Life" 11 ⟨"OneDoor$Now", "<init>", "()V"⟩ "OneDoor") U ∧ va_AO "OneDoor$Now" U ∧ va_AO "OneDoor$Life" U ∧ va_AO "OneDoor$Hall" U ∧ va_Nw (.castable "OneDoor$Kitchen" "OneDoor$Hall") U ∧ va_Nw (.castable "OneDoor$Bath" "OneDoor$Hall") U ∧ va_Nw (.castable "OneDoor$Piano" "OneDoor$Hall") U ∧ va_Nw (.castable "OneDoor$Curtain" "OneDoor$Hall") U ∧ va_Nw (.castable "OneDoor$Attic" "OneDoor$Hall") U
theorem zBd_warm {s U : State} (hW : s.WarmedH U.vm) (h : zBd s) : zBd U := by
  obtain ⟨h0, h1, h2, h3, h4, h5, h6, h7, h8, h9, h10⟩ := h
  exact ⟨va_Nw.warmM hW h0, va_Nw.warmM hW h1, va_Nw.warmM hW h2, va_AO.moved hW.alike h3, va_AO.moved hW.alike h4, va_AO.moved hW.alike h5, va_Nw.warmC hW h6, va_Nw.warmC hW h7, va_Nw.warmC hW h8, va_Nw.warmC hW h9, va_Nw.warmC hW h10⟩
theorem zBd_same {s U : State} (hW : s.vm = U.vm) (h : zBd s) : zBd U := by
  obtain ⟨h0, h1, h2, h3, h4, h5, h6, h7, h8, h9, h10⟩ := h
  exact ⟨va_Nw.same rfl hW h0, va_Nw.same rfl hW h1, va_Nw.same rfl hW h2, va_AO.moved (by rw [hW]; exact Vm.Alike.refl _) h3, va_AO.moved (by rw [hW]; exact Vm.Alike.refl _) h4, va_AO.moved (by rw [hW]; exact Vm.Alike.refl _) h5, va_Nw.same rfl hW h6, va_Nw.same rfl hW h7, va_Nw.same rfl hW h8, va_Nw.same rfl hW h9, va_Nw.same rfl hW h10⟩
theorem zBd_of {args : Array Value} {s : State} (h : ∀ w ∈ lw_tbl, w.before args s = true) : zBd s := ⟨va_Nw.of rfl (h _ (List.mem_of_getElem? (i := 82) (by decide +kernel))), va_Nw.of rfl (h _ (List.mem_of_getElem? (i := 116) (by decide +kernel))), va_Nw.of rfl (h _ (List.mem_of_getElem? (i := 176) (by decide +kernel))), va_AO.of (h _ (List.mem_of_getElem? (i := 216) (by decide +kernel))), va_AO.of (h _ (List.mem_of_getElem? (i := 229) (by decide +kernel))), va_AO.of (h _ (List.mem_of_getElem? (i := 262) (by decide +kernel))), va_Nw.of rfl (h _ (List.mem_of_getElem? (i := 1100) (by decide +kernel))), va_Nw.of rfl (h _ (List.mem_of_getElem? (i := 1101) (by decide +kernel))), va_Nw.of rfl (h _ (List.mem_of_getElem? (i := 1102) (by decide +kernel))), va_Nw.of rfl (h _ (List.mem_of_getElem? (i := 1103) (by decide +kernel))), va_Nw.of rfl (h _ (List.mem_of_getElem? (i := 1104) (by decide +kernel)))⟩
end
section
/-! A SMALL MACHINE over the kit's: heap cells by relative numbers (0: the script, k + 1: the k-th cell made since the law began), instructions as functions. -/
abbrev zAC : Type := (Nat × Nat × ((Nat → Int32) ⊕ (Nat → Option Nat))) ⊕ (Nat × List Value)
abbrev zHp : Type := Nat → zAC
/-- locals, operand stack, heap, cells made, their slots -/
abbrev zC : Type := List Value × List Value × zHp × Nat × Nat
/-- an end: what is returned, heap, cells, slots -/
abbrev zF : Type := Option Value × zHp × Nat × Nat
abbrev zM : Type := MethodName × ByteArray × Nat × Option FieldType
/-- what an instruction does: goes on; branches (whether, where); returns; calls -/
abbrev zR : Type := zC ⊕ (Bool × Nat × zC) ⊕ zF ⊕ (zM × List Value × zC)
abbrev zI : Type := zC → Option zR
def zAd (base b : Nat) : Nat → Nat
  | 0 => b
  | k + 1 => base + k
def zV (base b : Nat) : Value → Value
  | .ref k => .ref (zAd base b k)
  | v => v
def zA (base b : Nat) : ((Nat → Int32) ⊕ (Nat → Option Nat)) → ((Nat → Int32) ⊕ (Nat → Int64) ⊕ (Nat → UInt32) ⊕ (Nat → UInt64) ⊕ (Nat → Option Nat))
  | .inl f => .inl f
  | .inr f => .inr (.inr (.inr (.inr (fun j => (f j).map (zAd base b)))))
def zE (aC : Nat → ClassId) (base b : Nat) : zAC → va_E
  | .inl a => .inl (aC a.1, a.2.1, zA base b a.2.2)
  | .inr o => .inr (o.1, o.2.map (zV base b))
def zW (aC : Nat → ClassId) (base b : Nat) (M : zHp) (N : Nat) : va_W := (List.range N).map fun k => (base + k, zE aC base b (M (k + 1)))
def zTys (aC : Nat → ClassId) : List (ClassId × FieldType) := [(aC 0, .int), (aC 1, .byte), (aC 2, .boolean), (aC 3, .object "OneDoor$Now"), (aC 4, .object "OneDoor$Life"), (aC 5, .object "OneDoor$Hall")]
/-- a cell that is not there -/
def zvoid : zAC := .inl (9, 0, .inl fun _ => 0)
def zWd (D : va_G) (aC : Nat → ClassId) (base b L : Nat) (xs : Nat → Int32) (M : zHp) (N : Nat) (s : State) (H : Heap) (locs : List Loc) : Prop :=
  va_P D zCl (zW aC base b M N) H ∧ va_S (fun q => base ≤ q) s.heap H locs ∧ M 0 = .inl (0, L, .inl xs) ∧ ∀ k, N < k → M k = zvoid
/-- the locals: a '.retAddr 0' is a place not set, '.retAddr 1' the second one of a long -/
def zL (base b nL : Nat) (ls : List Value) (lsA : Array Slot) : Prop :=
  ls.length = nL ∧ lsA.size = nL ∧ lv_wf lsA ∧ (∀ (i : Nat) (v : Value), ls[i]? = some v → (∀ r, v ≠ Value.retAddr r) → lsA[i]? = some (Slot.val (zV base b v))) ∧ (∀ (i : Nat) (x : Int64), ls[i]? = some (Value.long x) → ls[i + 1]? = some (Value.retAddr 1)) ∧ ∀ (i : Nat) (x : UInt64), ls[i]? ≠ some (Value.double x)
def zPc (D : va_G) (aC : Nat → ClassId) (base b L : Nat) (xs : Nat → Int32) (as : List Value) (M : zHp) (N : Nat) : Array Value → State → Prop := fun v U =>
  v = (as.map (zV base b)).toArray ∧ U.heap.size = base + N ∧ va_P D zCl (zW aC base b M N) U.heap ∧ M 0 = .inl (0, L, .inl xs) ∧ (∀ k, N < k → M k = zvoid) ∧ va_K D zCl (zTys aC) U ∧ va_X b L xs U U.heap ∧ b < base ∧ zBd U
def zQ (D : va_G) (aC : Nat → ClassId) (base b L : Nat) (xs : Nat → Int32) (f : zF) : Array Value → State → Outcome → State → Prop := fun _ st oc t =>
  oc = .returned (f.1.map (zV base b)) ∧ va_P D zCl (zW aC base b f.2.1 f.2.2.1) t.heap ∧ f.2.1 0 = .inl (0, L, .inl xs) ∧ (∀ k, f.2.2.1 < k → f.2.1 k = zvoid) ∧ va_F (fun q => base ≤ q) st t
def zwd (md : zM) : List Cond := .code md.1 md.2.1 md.2.2.1 md.2.2.2 :: zgt
def zRoom (F mc ms : Nat) : Room := { frames := F, cells := mc, slots := ms, locals := 60 * F }
/-- method md, called with these on this heap, ends so (level d: frames that it may need) -/
def zRuns (d : Nat) (md : zM) (as : List Value) (M : zHp) (N S : Nat) (f : zF) : Prop :=
  N ≤ f.2.2.1 ∧ S ≤ f.2.2.2 ∧ ∀ (l : Launch) (D : va_G) (aC : Nat → ClassId) (base b L : Nat) (xs : Nat → Int32) (F : Nat), d < F →
    Met l md.1 (zwd md) (zRoom F (f.2.2.1 - N) (f.2.2.2 - S)) (zPc D aC base b L xs as M N) (zQ D aC base b L xs f) (f.2.2.1 - N) (f.2.2.2 - S) (fun q => base ≤ q)
/-- what holds throughout a method's body -/
def zX (d : Nat) (md : zM) (f : zF) (p : Program) (R : Room) (s : State) (m : MethodId) (args : Array Value) (meth : Method) (c : Code) (D : va_G) (aC : Nat → ClassId) (base b L : Nat) (xs : Nat → Int32) (n0 s0 F : Nat) : Prop :=
  p.tables.exec = Jvm.exec ∧ c.code = md.2.1 ∧ c.maxLocals = md.2.2.1 ∧ s.vm.findClass md.1.cls = some m.cls ∧ (∀ w ∈ zgt, w.before args s = true) ∧ meth.locks = false ∧ meth.sig.returnType = md.2.2.2 ∧ (md.1.name = "<init>" → meth.name = "<init>") ∧
  va_K D zCl (zTys aC) s ∧ va_X b L xs s s.heap ∧ b < base ∧ s.heap.size = base + n0 ∧ f.2.2.1 - n0 ≤ R.cells ∧ f.2.2.2 - s0 ≤ R.slots ∧ F ≤ R.frames ∧ 60 * F ≤ R.locals ∧ d < F ∧ zBd s
/-- from this place of md's code with this configuration it ends so -/
def zGo (d : Nat) (md : zM) (pc : Nat) (k : zC) (f : zF) : Prop :=
  k.2.2.2.1 ≤ f.2.2.1 ∧ k.2.2.2.2 ≤ f.2.2.2 ∧ ∀ (p : Program) (l : Launch) (e : Env) (R : Room) (s : State) (m : MethodId) (args : Array Value) (below : List Frame) (meth : Method) (c : Code) (D : va_G) (aC : Nat → ClassId) (base b L : Nat) (xs : Nat → Int32) (n0 s0 F : Nat),
    zX d md f p R s m args meth c D aC base b L xs n0 s0 F → n0 ≤ k.2.2.2.1 → s0 ≤ k.2.2.2.2 → ∀ (H : Heap) (locs : List Loc) (lsA : Array Slot), zWd D aC base b L xs k.2.2.1 k.2.2.2.1 s H locs → zL base b md.2.2.1 k.1 lsA →
      W p l e R s m args below meth c H locs (k.2.2.2.1 - n0) (k.2.2.2.2 - s0) (MQ below (zQ D aC base b L xs f) args s (f.2.2.1 - n0) (f.2.2.2 - s0) (fun q => base ≤ q)) (F0 m pc lsA (k.2.1.map (zV base b)))
/-- what is behind an instruction -/
def zT (d : Nat) (md : zM) (f : zF) (pc : Nat) : zR → Prop
  | .inl k => zGo d md pc k f
  | .inr (.inl (t, q, k)) => if t = true then zGo d md q k f else zGo d md pc k f
  | .inr (.inr (.inl g)) => g = f
  | .inr (.inr (.inr (y, as, k))) => ∃ d' g, d = d' + 1 ∧ zRuns d' y as k.2.2.1 k.2.2.2.1 k.2.2.2.2 g ∧ zGo d md pc (k.1, g.1.toList ++ k.2.1, g.2) f
/-- a row of instructions from a configuration on: what is to be shown -/
def zB (d : Nat) (md : zM) (f : zF) : List zI → zC → Prop
  | [], _ => False
  | i :: is, c => match i c with
    | none => False
    | some (.inl k) => zB d md f is k
    | some (.inr (.inl (t, q, k))) => if t = true then zGo d md q k f else zB d md f is k
    | some (.inr (.inr (.inl g))) => g = f
    | some (.inr (.inr (.inr (y, as, k)))) => ∃ d' g, d = d' + 1 ∧ zRuns d' y as k.2.2.1 k.2.2.2.1 k.2.2.2.2 g ∧ zB d md f is (k.1, g.1.toList ++ k.2.1, g.2)
/-- instruction i stands at pc of md, the next one at pc' -/
def zS (md : zM) (pc pc' : Nat) (i : zI) : Prop := ∀ (d : Nat) (f : zF) (c : zC) (r : zR), i c = some r → zT d md f pc' r → zGo d md pc c f
def zOk (md : zM) (pc : Nat) (is : List zI) : Prop := ∀ (d : Nat) (f : zF) (c : zC), zB d md f is c → zGo d md pc c f
theorem zOk_nil (md : zM) (pc : Nat) : zOk md pc [] := fun _ _ _ h => h.elim
theorem zOk_cons {md : zM} {pc pc' : Nat} {i : zI} {is : List zI} (h1 : zS md pc pc' i) (h2 : zOk md pc' is) : zOk md pc (i :: is) := by
  intro d f c h
  unfold zB at h
  cases hr : i c with
  | none => rw [hr] at h; exact h.elim
  | some r =>
    rw [hr] at h
    refine h1 d f c r hr ?_
    match r, h with
    | .inl k, h => exact h2 d f k h
    | .inr (.inl (t, q, k)), h =>
      show if t = true then zGo d md q k f else zGo d md pc' k f
      by_cases ht : t = true
      · rw [if_pos ht]
        have h : if t = true then zGo d md q k f else zB d md f is k := h
        rw [if_pos ht] at h
        exact h
      · rw [if_neg ht]
        have h : if t = true then zGo d md q k f else zB d md f is k := h
        rw [if_neg ht] at h
        exact h2 d f k h
    | .inr (.inr (.inl g)), h => exact h
    | .inr (.inr (.inr (y, as, k))), h =>
      obtain ⟨d', g, e1, e2, e3⟩ := h
      exact ⟨d', g, e1, e2, h2 d f _ e3⟩
-- the world as a list
theorem zW_len (aC : Nat → ClassId) (base b : Nat) (M : zHp) (N : Nat) : (zW aC base b M N).length = N := by simp [zW]
theorem zW_get {aC : Nat → ClassId} {base b : Nat} {M : zHp} {N k : Nat} (h : k < N) : (zW aC base b M N)[k]? = some (base + k, zE aC base b (M (k + 1))) := by
  simp [zW, h]
theorem zW_lt {aC : Nat → ClassId} {base b : Nat} {M : zHp} {N k : Nat} {q : Nat × va_E} (h : (zW aC base b M N)[k]? = some q) : k < N ∧ q = (base + k, zE aC base b (M (k + 1))) := by
  have hk : k < N := by
    have := (List.getElem?_eq_some_iff.mp h).1
    rwa [zW_len] at this
  rw [zW_get hk] at h
  exact ⟨hk, (Option.some.inj h).symm⟩
theorem zW_set {aC : Nat → ClassId} {base b : Nat} {M : zHp} {N k : Nat} (c : zAC) (h : k < N) : (zW aC base b M N).set k (base + k, zE aC base b c) = zW aC base b (va_up M (k + 1) c) N := by
  apply List.ext_getElem?
  intro j
  rw [List.getElem?_set]
  by_cases hj : k = j
  · subst hj
    rw [if_pos rfl, if_pos (by rw [zW_len]; exact h), zW_get h]
    simp [va_up]
  · rw [if_neg hj]
    by_cases h2 : j < N
    · rw [zW_get h2, zW_get h2]
      have : ¬ j + 1 = k + 1 := by omega
      unfold va_up
      rw [if_neg this]
    · rw [List.getElem?_eq_none (by rw [zW_len]; omega), List.getElem?_eq_none (by rw [zW_len]; omega)]
theorem zW_push {aC : Nat → ClassId} {base b : Nat} {M : zHp} {N : Nat} (c : zAC) : zW aC base b M N ++ [(base + N, zE aC base b c)] = zW aC base b (va_up M (N + 1) c) (N + 1) := by
  apply List.ext_getElem?
  intro j
  by_cases h : j < N
  · rw [List.getElem?_append_left (by rw [zW_len]; exact h), zW_get h, zW_get (by omega)]
    have : ¬ j + 1 = N + 1 := by omega
    unfold va_up
    rw [if_neg this]
  · rw [List.getElem?_append_right (by rw [zW_len]; omega), zW_len]
    by_cases h2 : j = N
    · subst h2
      rw [zW_get (by omega)]
      simp [va_up]
    · rw [List.getElem?_eq_none (by simp; omega), List.getElem?_eq_none (by rw [zW_len]; omega)]
theorem zW_D (aC : Nat → ClassId) (base b : Nat) (M : zHp) (N : Nat) : va_D (fun q => base ≤ q) (zW aC base b M N) := by
  refine ⟨fun i j p q hi hj e => ?_, fun k q h => ?_⟩
  · obtain ⟨-, rfl⟩ := zW_lt hi
    obtain ⟨-, rfl⟩ := zW_lt hj
    have e : base + i = base + j := e
    omega
  · obtain ⟨-, rfl⟩ := zW_lt h
    exact Nat.le_add_right base k
/-- the heap's size is known: from below by the cells, from above by what was made -/
theorem zsize {p : Program} {l : Launch} {e : Env} {R : Room} {s : State} {m : MethodId} {args : Array Value} {below : List Frame} {meth : Method} {c : Code} {H : Heap} {locs : List Loc} {slots : Nat} {Q : State → Prop} {g : JFrame} {D : va_G} {aC : Nat → ClassId} {base b L : Nat} {xs : Nat → Int32} {M : zHp} {N n0 : Nat}
    (hs : s.heap.size = base + n0) (hn : n0 ≤ N) (hw : zWd D aC base b L xs M N s H locs) (k : H.size = base + N → W p l e R s m args below meth c H locs (N - n0) slots Q g) : W p l e R s m args below meth c H locs (N - n0) slots Q g := by
  intro T hT X
  refine k ?_ T hT X
  have h1 := X.heapSize
  rw [hT, hs] at h1
  have h2 : base + N ≤ H.size := by
    rcases Nat.eq_zero_or_pos N with h | h
    · have := hw.2.1.1
      omega
    · have h3 := (hw.1 (N - 1) _ (zW_get (by omega))).lt
      have h3 : base + (N - 1) < H.size := h3
      omega
  omega
-- simple instructions
theorem zG_simple {d : Nat} {md : zM} {pc pc' : Nat} {ls st st' : List Value} {M : zHp} {N S : Nat} {f : zF}
    (h : ∀ (p : Program) (l : Launch) (e : Env) (R : Room) (s : State) (m : MethodId) (args : Array Value) (below : List Frame) (meth : Method) (c : Code) (H : Heap) (locs : List Loc) (cells slots : Nat) (Q : State → Prop) (lsA : Array Slot) (base b : Nat), p.tables.exec = Jvm.exec → c.code = md.2.1 → s.vm.findClass md.1.cls = some m.cls → (∀ w ∈ zgt, w.before args s = true) → zL base b md.2.2.1 ls lsA →
      W p l e R s m args below meth c H locs cells slots Q (F0 m pc' lsA (st'.map (zV base b))) → W p l e R s m args below meth c H locs cells slots Q (F0 m pc lsA (st.map (zV base b))))
    (k : zGo d md pc' (ls, st', M, N, S) f) : zGo d md pc (ls, st, M, N, S) f :=
  ⟨k.1, k.2.1, fun p l e R s m args below meth c D aC base b L xs n0 s0 F hx hn hs H locs lsA hw hl => h p l e R s m args below meth c H locs _ _ _ lsA base b hx.1 hx.2.1 hx.2.2.2.1 hx.2.2.2.2.1 hl (k.2.2 p l e R s m args below meth c D aC base b L xs n0 s0 F hx hn hs H locs lsA hw hl)⟩
end
section
/-! instructions that leave the heap alone -/
def i_const (v : Int32) : zI := fun c => some (.inl (c.1, .int v :: c.2.1, c.2.2))
def i_lconst (v : Int64) : zI := fun c => some (.inl (c.1, .long v :: c.2.1, c.2.2))
def i_iload (i : Nat) : zI := fun c => match c.1[i]? with
  | some (.int x) => some (.inl (c.1, .int x :: c.2.1, c.2.2))
  | _ => none
def i_lload (i : Nat) : zI := fun c => match c.1[i]? with
  | some (.long x) => some (.inl (c.1, .long x :: c.2.1, c.2.2))
  | _ => none
def i_aload (i : Nat) : zI := fun c => match c.1[i]? with
  | some (.ref x) => some (.inl (c.1, .ref x :: c.2.1, c.2.2))
  | _ => none
def zset : List Value → Nat → Value → Option (List Value)
  | [], _, _ => none
  | w :: ls, 0, v => if w = .retAddr 1 then none else some (v :: ls)
  | w :: ls, i + 1, v => (zset ls i v).map (fun l => w :: l)
def i_istore (i : Nat) : zI := fun c => match c.2.1 with
  | .int x :: st => (zset c.1 i (.int x)).map fun ls => .inl (ls, st, c.2.2)
  | _ => none
def i_astore (i : Nat) : zI := fun c => match c.2.1 with
  | .ref x :: st => (zset c.1 i (.ref x)).map fun ls => .inl (ls, st, c.2.2)
  | _ => none
def i_lstore (i : Nat) : zI := fun c => match c.2.1 with
  | .long x :: st => (zset c.1 i (.long x)).bind fun ls => if i + 1 < c.1.length then some (.inl (ls.set (i + 1) (.retAddr 1), st, c.2.2)) else none
  | _ => none
def i_iinc (i : Nat) (v : Int32) : zI := fun c => match c.1[i]? with
  | some (.int x) => (zset c.1 i (.int (x + v))).map fun ls => .inl (ls, c.2.1, c.2.2)
  | _ => none
def i_bin (o : Int32 → Int32 → Int32) : zI := fun c => match c.2.1 with
  | .int y :: .int x :: st => some (.inl (c.1, .int (o x y) :: st, c.2.2))
  | _ => none
def i_un (o : Int32 → Int32) : zI := fun c => match c.2.1 with
  | .int x :: st => some (.inl (c.1, .int (o x) :: st, c.2.2))
  | _ => none
/-- division, remainder: by 0 it's stuck -/
def i_div (o : Int32 → Int32 → Int32) : zI := fun c => match c.2.1 with
  | .int y :: .int x :: st => if y = 0 then none else some (.inl (c.1, .int (o x y) :: st, c.2.2))
  | _ => none
def i_ladd : zI := fun c => match c.2.1 with
  | .long y :: .long x :: st => some (.inl (c.1, .long (x + y) :: st, c.2.2))
  | _ => none
def i_lcmp : zI := fun c => match c.2.1 with
  | .long y :: .long x :: st => some (.inl (c.1, .int (lg_cmp x y) :: st, c.2.2))
  | _ => none
def z1 : Value → Bool
  | .int _ => true
  | .ref _ => true
  | .null => true
  | _ => false
def i_dup : zI := fun c => match c.2.1 with
  | v :: st => if z1 v = true then some (.inl (c.1, v :: v :: st, c.2.2)) else none
  | _ => none
def i_dup2 : zI := fun c => match c.2.1 with
  | v :: w :: st => if (z1 v && z1 w) = true then some (.inl (c.1, v :: w :: v :: w :: st, c.2.2)) else none
  | _ => none
def i_pop : zI := fun c => match c.2.1 with
  | v :: st => if z1 v = true then some (.inl (c.1, st, c.2.2)) else none
  | _ => none
def i_goto (t : Nat) : zI := fun c => some (.inr (.inl (true, t, c)))
def i_if (o : Int32 → Bool) (t : Nat) : zI := fun c => match c.2.1 with
  | .int x :: st => some (.inr (.inl (o x, t, (c.1, st, c.2.2))))
  | _ => none
def i_icmp (o : Int32 → Int32 → Bool) (t : Nat) : zI := fun c => match c.2.1 with
  | .int y :: .int x :: st => some (.inr (.inl (o x y, t, (c.1, st, c.2.2))))
  | _ => none
def zsw (ps : List (Int32 × Nat)) (d : Nat) (x : Int32) : Nat := match ps with
  | [] => d
  | (k, t) :: r => if x = k then t else zsw r d x
def i_sw (ps : List (Int32 × Nat)) (d : Nat) : zI := fun c => match c.2.1 with
  | .int x :: st => some (.inr (.inl (true, zsw ps d x, (c.1, st, c.2.2))))
  | _ => none
def i_ret : zI := fun c => match c.2.1 with
  | [.int x] => some (.inr (.inr (.inl (some (.int x), c.2.2))))
  | _ => none
def i_zret : zI := fun c => match c.2.1 with
  | [.int x] => if x = 0 ∨ x = 1 then some (.inr (.inr (.inl (some (.int x), c.2.2)))) else none
  | _ => none
def i_lret : zI := fun c => match c.2.1 with
  | [.long x] => some (.inr (.inr (.inl (some (.long x), c.2.2))))
  | _ => none
def i_vret : zI := fun c => match c.2.1 with
  | [] => some (.inr (.inr (.inl (none, c.2.2))))
  | _ => none
-- they are what the machine does
theorem n_iconst {md : zM} {pc : Nat} {n : Int} {v : Int32} (hv : Int32.ofInt n = v) (hd : decode md.2.1 pc = .ok (.iconst n, 1)) : zS md pc (pc + 1) (i_const v) := by
  intro d f ⟨ls, st, M, N, S⟩ r h k
  cases h
  exact zG_simple (fun p l e R s m args below meth c H locs cells slots Q lsA base b hx hb ho ht hl k => lv_iconst hx hb hd hv k) k
theorem n_bipush {md : zM} {pc : Nat} {n : Int} {v : Int32} (hv : (Int8.ofInt n).toInt32 = v) (hd : decode md.2.1 pc = .ok (.bipush n, 2)) : zS md pc (pc + 2) (i_const v) := by
  intro d f ⟨ls, st, M, N, S⟩ r h k
  cases h
  exact zG_simple (fun p l e R s m args below meth c H locs cells slots Q lsA base b hx hb ho ht hl k => lv_bipush hx hb hd hv k) k
theorem n_sipush {md : zM} {pc : Nat} {n : Int} {v : Int32} (hv : (Int16.ofInt n).toInt32 = v) (hd : decode md.2.1 pc = .ok (.sipush n, 3)) : zS md pc (pc + 3) (i_const v) := by
  intro d f ⟨ls, st, M, N, S⟩ r h k
  cases h
  exact zG_simple (fun p l e R s m args below meth c H locs cells slots Q lsA base b hx hb ho ht hl k => lv_sipush hx hb hd hv k) k
theorem n_ldc {md : zM} {pc i : Nat} {v : Int32} (hw : Cond.constant md.1.cls i v ∈ zgt) (hd : decode md.2.1 pc = .ok (.ldc i, 2)) : zS md pc (pc + 2) (i_const v) := by
  intro d f ⟨ls, st, M, N, S⟩ r h k
  cases h
  exact zG_simple (fun p l e R s m args below meth c H locs cells slots Q lsA base b hx hb ho ht hl k => lv_ldc hx hb ho (ht _ hw) hd k) k
theorem n_ldcw {md : zM} {pc i : Nat} {v : Int32} (hw : Cond.constant md.1.cls i v ∈ zgt) (hd : decode md.2.1 pc = .ok (.ldc_w i, 3)) : zS md pc (pc + 3) (i_const v) := by
  intro d f ⟨ls, st, M, N, S⟩ r h k
  cases h
  exact zG_simple (fun p l e R s m args below meth c H locs cells slots Q lsA base b hx hb ho ht hl k => lv_ldcw hx hb ho (ht _ hw) hd k) k
theorem n_ldc2 {md : zM} {pc i : Nat} {v : Int64} (hw : Cond.constantLong md.1.cls i v ∈ zgt) (hd : decode md.2.1 pc = .ok (.ldc2_w i, 3)) : zS md pc (pc + 3) (i_lconst v) := by
  intro d f ⟨ls, st, M, N, S⟩ r h k
  cases h
  exact zG_simple (fun p l e R s m args below meth c H locs cells slots Q lsA base b hx hb ho ht hl k => lv_ldc2 hx hb ho (ht _ hw) hd k) k
theorem n_lconst {md : zM} {pc : Nat} {n : Fin 2} {v : Int64} (hv : Int64.ofNat (n : Nat) = v) (hd : decode md.2.1 pc = .ok (.lconst n, 1)) : zS md pc (pc + 1) (i_lconst v) := by
  intro d f ⟨ls, st, M, N, S⟩ r h k
  cases h
  exact zG_simple (fun p l e R s m args below meth c H locs cells slots Q lsA base b hx hb ho ht hl k => lv_lconst hx hb hd hv k) k
theorem zload {base b nL i : Nat} {ls : List Value} {lsA : Array Slot} {v : Value} (hl : zL base b nL ls lsA) (h : ls[i]? = some v) (hv : ∀ r, v ≠ Value.retAddr r) : lsA[i]? = some (.val (zV base b v)) := hl.2.2.2.1 i v h hv
theorem n_iload_n {md : zM} {pc i : Nat} {j : Fin 4} (hj : (j : Nat) = i) (hd : decode md.2.1 pc = .ok (.iload_n j, 1)) : zS md pc (pc + 1) (i_iload i) := by
  intro d f ⟨ls, st, M, N, S⟩ r h k
  unfold i_iload at h
  dsimp only at h
  split at h
  · rename_i x hx0
    cases h
    exact zG_simple (fun p l e R s m args below meth c H locs cells slots Q lsA base b hx hb ho ht hl k => lv_iload_n hx hb hd hj (zload hl hx0 (by intro r; simp)) k) k
  · cases h
theorem n_iload {md : zM} {pc i : Nat} (hd : decode md.2.1 pc = .ok (.iload i, 2)) : zS md pc (pc + 2) (i_iload i) := by
  intro d f ⟨ls, st, M, N, S⟩ r h k
  unfold i_iload at h
  dsimp only at h
  split at h
  · rename_i x hx0
    cases h
    exact zG_simple (fun p l e R s m args below meth c H locs cells slots Q lsA base b hx hb ho ht hl k => lv_iload hx hb hd (zload hl hx0 (by intro r; simp)) k) k
  · cases h
theorem n_lload_n {md : zM} {pc i : Nat} {j : Fin 4} (hj : (j : Nat) = i) (hd : decode md.2.1 pc = .ok (.lload_n j, 1)) : zS md pc (pc + 1) (i_lload i) := by
  intro d f ⟨ls, st, M, N, S⟩ r h k
  unfold i_lload at h
  dsimp only at h
  split at h
  · rename_i x hx0
    cases h
    exact zG_simple (fun p l e R s m args below meth c H locs cells slots Q lsA base b hx hb ho ht hl k => lv_lload_n hx hb hd hj (zload hl hx0 (by intro r; simp)) k) k
  · cases h
theorem n_aload_n {md : zM} {pc i : Nat} {j : Fin 4} (hj : (j : Nat) = i) (hd : decode md.2.1 pc = .ok (.aload_n j, 1)) : zS md pc (pc + 1) (i_aload i) := by
  intro d f ⟨ls, st, M, N, S⟩ r h k
  unfold i_aload at h
  dsimp only at h
  split at h
  · rename_i x hx0
    cases h
    exact zG_simple (fun p l e R s m args below meth c H locs cells slots Q lsA base b hx hb ho ht hl k => lv_aload_n hx hb hd hj (zload hl hx0 (by intro r; simp)) k) k
  · cases h
theorem n_aload {md : zM} {pc i : Nat} (hd : decode md.2.1 pc = .ok (.aload i, 2)) : zS md pc (pc + 2) (i_aload i) := by
  intro d f ⟨ls, st, M, N, S⟩ r h k
  unfold i_aload at h
  dsimp only at h
  split at h
  · rename_i x hx0
    cases h
    exact zG_simple (fun p l e R s m args below meth c H locs cells slots Q lsA base b hx hb ho ht hl k => lv_aload hx hb hd (zload hl hx0 (by intro r; simp)) k) k
  · cases h
theorem n_iadd {md : zM} {pc : Nat} (hd : decode md.2.1 pc = .ok (.iadd, 1)) : zS md pc (pc + 1) (i_bin (fun x y => x + y)) := by
  intro d f ⟨ls, st, M, N, S⟩ r h k
  unfold i_bin at h
  dsimp only at h
  split at h
  · cases h
    exact zG_simple (fun p l e R s m args below meth c H locs cells slots Q lsA base b hx hb ho ht hl k => lv_iadd hx hb hd k) k
  · cases h
theorem n_isub {md : zM} {pc : Nat} (hd : decode md.2.1 pc = .ok (.isub, 1)) : zS md pc (pc + 1) (i_bin (fun x y => x - y)) := by
  intro d f ⟨ls, st, M, N, S⟩ r h k
  unfold i_bin at h
  dsimp only at h
  split at h
  · cases h
    exact zG_simple (fun p l e R s m args below meth c H locs cells slots Q lsA base b hx hb ho ht hl k => lv_isub hx hb hd k) k
  · cases h
theorem n_imul {md : zM} {pc : Nat} (hd : decode md.2.1 pc = .ok (.imul, 1)) : zS md pc (pc + 1) (i_bin (fun x y => x * y)) := by
  intro d f ⟨ls, st, M, N, S⟩ r h k
  unfold i_bin at h
  dsimp only at h
  split at h
  · cases h
    exact zG_simple (fun p l e R s m args below meth c H locs cells slots Q lsA base b hx hb ho ht hl k => lv_imul hx hb hd k) k
  · cases h
theorem n_iand {md : zM} {pc : Nat} (hd : decode md.2.1 pc = .ok (.iand, 1)) : zS md pc (pc + 1) (i_bin (fun x y => x &&& y)) := by
  intro d f ⟨ls, st, M, N, S⟩ r h k
  unfold i_bin at h
  dsimp only at h
  split at h
  · cases h
    exact zG_simple (fun p l e R s m args below meth c H locs cells slots Q lsA base b hx hb ho ht hl k => lv_iand hx hb hd k) k
  · cases h
theorem n_ior {md : zM} {pc : Nat} (hd : decode md.2.1 pc = .ok (.ior, 1)) : zS md pc (pc + 1) (i_bin (fun x y => x ||| y)) := by
  intro d f ⟨ls, st, M, N, S⟩ r h k
  unfold i_bin at h
  dsimp only at h
  split at h
  · cases h
    exact zG_simple (fun p l e R s m args below meth c H locs cells slots Q lsA base b hx hb ho ht hl k => lv_ior hx hb hd k) k
  · cases h
theorem n_ixor {md : zM} {pc : Nat} (hd : decode md.2.1 pc = .ok (.ixor, 1)) : zS md pc (pc + 1) (i_bin (fun x y => x ^^^ y)) := by
  intro d f ⟨ls, st, M, N, S⟩ r h k
  unfold i_bin at h
  dsimp only at h
  split at h
  · cases h
    exact zG_simple (fun p l e R s m args below meth c H locs cells slots Q lsA base b hx hb ho ht hl k => lv_ixor hx hb hd k) k
  · cases h
theorem n_ishl {md : zM} {pc : Nat} (hd : decode md.2.1 pc = .ok (.ishl, 1)) : zS md pc (pc + 1) (i_bin (fun x y => x <<< (y &&& 31))) := by
  intro d f ⟨ls, st, M, N, S⟩ r h k
  unfold i_bin at h
  dsimp only at h
  split at h
  · cases h
    exact zG_simple (fun p l e R s m args below meth c H locs cells slots Q lsA base b hx hb ho ht hl k => lv_ishl hx hb hd k) k
  · cases h
theorem n_ishr {md : zM} {pc : Nat} (hd : decode md.2.1 pc = .ok (.ishr, 1)) : zS md pc (pc + 1) (i_bin (fun x y => x >>> (y &&& 31))) := by
  intro d f ⟨ls, st, M, N, S⟩ r h k
  unfold i_bin at h
  dsimp only at h
  split at h
  · cases h
    exact zG_simple (fun p l e R s m args below meth c H locs cells slots Q lsA base b hx hb ho ht hl k => lv_ishr hx hb hd k) k
  · cases h
theorem n_iushr {md : zM} {pc : Nat} (hd : decode md.2.1 pc = .ok (.iushr, 1)) : zS md pc (pc + 1) (i_bin (fun x y => (x.toUInt32 >>> (y.toUInt32 &&& Int32.toUInt32 31)).toInt32)) := by
  intro d f ⟨ls, st, M, N, S⟩ r h k
  unfold i_bin at h
  dsimp only at h
  split at h
  · cases h
    exact zG_simple (fun p l e R s m args below meth c H locs cells slots Q lsA base b hx hb ho ht hl k => lv_iushr hx hb hd rfl k) k
  · cases h
theorem n_idiv {md : zM} {pc : Nat} (hd : decode md.2.1 pc = .ok (.idiv, 1)) : zS md pc (pc + 1) (i_div (fun x y => x / y)) := by
  intro d f ⟨ls, st, M, N, S⟩ r h k
  unfold i_div at h
  dsimp only at h
  split at h
  · split at h
    · cases h
    · rename_i hne
      cases h
      exact zG_simple (fun p l e R s m args below meth c H locs cells slots Q lsA base b hx hb ho ht hl k => lv_idiv hx hb hd hne k) k
  · cases h
theorem n_irem {md : zM} {pc : Nat} (hd : decode md.2.1 pc = .ok (.irem, 1)) : zS md pc (pc + 1) (i_div (fun x y => x - x / y * y)) := by
  intro d f ⟨ls, st, M, N, S⟩ r h k
  unfold i_div at h
  dsimp only at h
  split at h
  · split at h
    · cases h
    · rename_i hne
      cases h
      exact zG_simple (fun p l e R s m args below meth c H locs cells slots Q lsA base b hx hb ho ht hl k => lv_irem hx hb hd hne k) k
  · cases h
theorem n_i2b {md : zM} {pc : Nat} (hd : decode md.2.1 pc = .ok (.i2b, 1)) : zS md pc (pc + 1) (i_un (fun x => x.toInt8.toInt32)) := by
  intro d f ⟨ls, st, M, N, S⟩ r h k
  unfold i_un at h
  dsimp only at h
  split at h
  · cases h
    exact zG_simple (fun p l e R s m args below meth c H locs cells slots Q lsA base b hx hb ho ht hl k => lv_i2b hx hb hd rfl k) k
  · cases h
theorem n_ladd {md : zM} {pc : Nat} (hd : decode md.2.1 pc = .ok (.ladd, 1)) : zS md pc (pc + 1) i_ladd := by
  intro d f ⟨ls, st, M, N, S⟩ r h k
  unfold i_ladd at h
  dsimp only at h
  split at h
  · cases h
    exact zG_simple (fun p l e R s m args below meth c H locs cells slots Q lsA base b hx hb ho ht hl k => lv_ladd hx hb hd k) k
  · cases h
theorem n_lcmp {md : zM} {pc : Nat} (hd : decode md.2.1 pc = .ok (.lcmp, 1)) : zS md pc (pc + 1) i_lcmp := by
  intro d f ⟨ls, st, M, N, S⟩ r h k
  unfold i_lcmp at h
  dsimp only at h
  split at h
  · cases h
    exact zG_simple (fun p l e R s m args below meth c H locs cells slots Q lsA base b hx hb ho ht hl k => W.lcmp hx hb hd k) k
  · cases h
theorem z1_cat {base b : Nat} {v : Value} (h : z1 v = true) : (zV base b v).category = 1 := by
  cases v <;> first | rfl | cases h
theorem n_dup {md : zM} {pc : Nat} (hd : decode md.2.1 pc = .ok (.dup, 1)) : zS md pc (pc + 1) i_dup := by
  intro d f ⟨ls, st, M, N, S⟩ r h k
  unfold i_dup at h
  dsimp only at h
  split at h
  · split at h
    · rename_i h1
      cases h
      exact zG_simple (fun p l e R s m args below meth c H locs cells slots Q lsA base b hx hb ho ht hl k => lv_dup hx hb hd (z1_cat h1) k) k
    · cases h
  · cases h
theorem n_pop {md : zM} {pc : Nat} (hd : decode md.2.1 pc = .ok (.pop, 1)) : zS md pc (pc + 1) i_pop := by
  intro d f ⟨ls, st, M, N, S⟩ r h k
  unfold i_pop at h
  dsimp only at h
  split at h
  · split at h
    · rename_i h1
      cases h
      exact zG_simple (fun p l e R s m args below meth c H locs cells slots Q lsA base b hx hb ho ht hl k => lv_pop hx hb hd (z1_cat h1) k) k
    · cases h
  · cases h
theorem n_dup2 {md : zM} {pc : Nat} (hd : decode md.2.1 pc = .ok (.dup2, 1)) : zS md pc (pc + 1) i_dup2 := by
  intro d f ⟨ls, st, M, N, S⟩ r h k
  unfold i_dup2 at h
  dsimp only at h
  split at h
  · split at h
    · rename_i h1
      cases h
      rw [Bool.and_eq_true] at h1
      exact zG_simple (fun p l e R s m args below meth c H locs cells slots Q lsA base b hx hb ho ht hl k => lv_dup2_11 hx hb hd (z1_cat h1.1) (z1_cat h1.2) k) k
    · cases h
  · cases h
/-- two ways on -/
theorem zG_two {d : Nat} {md : zM} {pc pt pf : Nat} {ls st st' : List Value} {M : zHp} {N S : Nat} {f : zF} {t : Bool}
    (h : ∀ (p : Program) (l : Launch) (e : Env) (R : Room) (s : State) (m : MethodId) (args : Array Value) (below : List Frame) (meth : Method) (c : Code) (H : Heap) (locs : List Loc) (cells slots : Nat) (Q : State → Prop) (lsA : Array Slot) (base b : Nat), p.tables.exec = Jvm.exec → c.code = md.2.1 →
      (t = true → W p l e R s m args below meth c H locs cells slots Q (F0 m pt lsA (st'.map (zV base b)))) → (t = false → W p l e R s m args below meth c H locs cells slots Q (F0 m pf lsA (st'.map (zV base b)))) → W p l e R s m args below meth c H locs cells slots Q (F0 m pc lsA (st.map (zV base b))))
    (k : if t = true then zGo d md pt (ls, st', M, N, S) f else zGo d md pf (ls, st', M, N, S) f) : zGo d md pc (ls, st, M, N, S) f := by
  cases t with
  | true =>
    have k : zGo d md pt (ls, st', M, N, S) f := k
    exact ⟨k.1, k.2.1, fun p l e R s m args below meth c D aC base b L xs n0 s0 F hx hn hs H locs lsA hw hl => h p l e R s m args below meth c H locs _ _ _ lsA base b hx.1 hx.2.1 (fun _ => k.2.2 p l e R s m args below meth c D aC base b L xs n0 s0 F hx hn hs H locs lsA hw hl) (fun h => by cases h)⟩
  | false =>
    have k : zGo d md pf (ls, st', M, N, S) f := k
    exact ⟨k.1, k.2.1, fun p l e R s m args below meth c D aC base b L xs n0 s0 F hx hn hs H locs lsA hw hl => h p l e R s m args below meth c H locs _ _ _ lsA base b hx.1 hx.2.1 (fun h => by cases h) (fun _ => k.2.2 p l e R s m args below meth c D aC base b L xs n0 s0 F hx hn hs H locs lsA hw hl)⟩
theorem n_if_eq {md : zM} {pc tgt : Nat} {off : Int} (ht0 : (pc : Int) + off = (tgt : Int)) (hd : decode md.2.1 pc = .ok (.ifCond .eq off, 3)) : zS md pc (pc + 3) (i_if (fun x => decide (x = 0)) tgt) := by
  intro d f ⟨ls, st, M, N, S⟩ r h k
  unfold i_if at h
  dsimp only at h
  split at h
  · cases h
    exact zG_two (fun p l e R s m args below meth c H locs cells slots Q lsA base b hx hb kt kf => lv_if_eq hx hb hd ht0 (fun h => kt (decide_eq_true h)) (fun h => kf (decide_eq_false h))) k
  · cases h
theorem n_icmp_eq {md : zM} {pc tgt : Nat} {off : Int} (ht0 : (pc : Int) + off = (tgt : Int)) (hd : decode md.2.1 pc = .ok (.if_icmp .eq off, 3)) : zS md pc (pc + 3) (i_icmp (fun x y => decide (x = y)) tgt) := by
  intro d f ⟨ls, st, M, N, S⟩ r h k
  unfold i_icmp at h
  dsimp only at h
  split at h
  · cases h
    exact zG_two (fun p l e R s m args below meth c H locs cells slots Q lsA base b hx hb kt kf => lv_icmp_eq hx hb hd ht0 (fun h => kt (decide_eq_true h)) (fun h => kf (decide_eq_false h))) k
  · cases h
theorem n_if_ne {md : zM} {pc tgt : Nat} {off : Int} (ht0 : (pc : Int) + off = (tgt : Int)) (hd : decode md.2.1 pc = .ok (.ifCond .ne off, 3)) : zS md pc (pc + 3) (i_if (fun x => decide (¬ x = 0)) tgt) := by
  intro d f ⟨ls, st, M, N, S⟩ r h k
  unfold i_if at h
  dsimp only at h
  split at h
  · cases h
    exact zG_two (fun p l e R s m args below meth c H locs cells slots Q lsA base b hx hb kt kf => lv_if_ne hx hb hd ht0 (fun h => kt (decide_eq_true h)) (fun h => kf (decide_eq_false (fun g => g h)))) k
  · cases h
theorem n_icmp_ne {md : zM} {pc tgt : Nat} {off : Int} (ht0 : (pc : Int) + off = (tgt : Int)) (hd : decode md.2.1 pc = .ok (.if_icmp .ne off, 3)) : zS md pc (pc + 3) (i_icmp (fun x y => decide (¬ x = y)) tgt) := by
  intro d f ⟨ls, st, M, N, S⟩ r h k
  unfold i_icmp at h
  dsimp only at h
  split at h
  · cases h
    exact zG_two (fun p l e R s m args below meth c H locs cells slots Q lsA base b hx hb kt kf => lv_icmp_ne hx hb hd ht0 (fun h => kt (decide_eq_true h)) (fun h => kf (decide_eq_false (fun g => g h)))) k
  · cases h
theorem n_if_lt {md : zM} {pc tgt : Nat} {off : Int} (ht0 : (pc : Int) + off = (tgt : Int)) (hd : decode md.2.1 pc = .ok (.ifCond .lt off, 3)) : zS md pc (pc + 3) (i_if (fun x => decide (x < 0)) tgt) := by
  intro d f ⟨ls, st, M, N, S⟩ r h k
  unfold i_if at h
  dsimp only at h
  split at h
  · cases h
    exact zG_two (fun p l e R s m args below meth c H locs cells slots Q lsA base b hx hb kt kf => lv_if_lt hx hb hd ht0 (fun h => kt (decide_eq_true h)) (fun h => kf (decide_eq_false h))) k
  · cases h
theorem n_icmp_lt {md : zM} {pc tgt : Nat} {off : Int} (ht0 : (pc : Int) + off = (tgt : Int)) (hd : decode md.2.1 pc = .ok (.if_icmp .lt off, 3)) : zS md pc (pc + 3) (i_icmp (fun x y => decide (x < y)) tgt) := by
  intro d f ⟨ls, st, M, N, S⟩ r h k
  unfold i_icmp at h
  dsimp only at h
  split at h
  · cases h
    exact zG_two (fun p l e R s m args below meth c H locs cells slots Q lsA base b hx hb kt kf => lv_icmp_lt hx hb hd ht0 (fun h => kt (decide_eq_true h)) (fun h => kf (decide_eq_false h))) k
  · cases h
theorem n_if_ge {md : zM} {pc tgt : Nat} {off : Int} (ht0 : (pc : Int) + off = (tgt : Int)) (hd : decode md.2.1 pc = .ok (.ifCond .ge off, 3)) : zS md pc (pc + 3) (i_if (fun x => decide (0 ≤ x)) tgt) := by
  intro d f ⟨ls, st, M, N, S⟩ r h k
  unfold i_if at h
  dsimp only at h
  split at h
  · cases h
    exact zG_two (fun p l e R s m args below meth c H locs cells slots Q lsA base b hx hb kt kf => lv_if_ge hx hb hd ht0 (fun h => kt (decide_eq_true h)) (fun h => kf (decide_eq_false h))) k
  · cases h
theorem n_icmp_ge {md : zM} {pc tgt : Nat} {off : Int} (ht0 : (pc : Int) + off = (tgt : Int)) (hd : decode md.2.1 pc = .ok (.if_icmp .ge off, 3)) : zS md pc (pc + 3) (i_icmp (fun x y => decide (y ≤ x)) tgt) := by
  intro d f ⟨ls, st, M, N, S⟩ r h k
  unfold i_icmp at h
  dsimp only at h
  split at h
  · cases h
    exact zG_two (fun p l e R s m args below meth c H locs cells slots Q lsA base b hx hb kt kf => lv_icmp_ge hx hb hd ht0 (fun h => kt (decide_eq_true h)) (fun h => kf (decide_eq_false h))) k
  · cases h
theorem n_if_gt {md : zM} {pc tgt : Nat} {off : Int} (ht0 : (pc : Int) + off = (tgt : Int)) (hd : decode md.2.1 pc = .ok (.ifCond .gt off, 3)) : zS md pc (pc + 3) (i_if (fun x => decide (0 < x)) tgt) := by
  intro d f ⟨ls, st, M, N, S⟩ r h k
  unfold i_if at h
  dsimp only at h
  split at h
  · cases h
    exact zG_two (fun p l e R s m args below meth c H locs cells slots Q lsA base b hx hb kt kf => lv_if_gt hx hb hd ht0 (fun h => kt (decide_eq_true h)) (fun h => kf (decide_eq_false h))) k
  · cases h
theorem n_icmp_gt {md : zM} {pc tgt : Nat} {off : Int} (ht0 : (pc : Int) + off = (tgt : Int)) (hd : decode md.2.1 pc = .ok (.if_icmp .gt off, 3)) : zS md pc (pc + 3) (i_icmp (fun x y => decide (y < x)) tgt) := by
  intro d f ⟨ls, st, M, N, S⟩ r h k
  unfold i_icmp at h
  dsimp only at h
  split at h
  · cases h
    exact zG_two (fun p l e R s m args below meth c H locs cells slots Q lsA base b hx hb kt kf => lv_icmp_gt hx hb hd ht0 (fun h => kt (decide_eq_true h)) (fun h => kf (decide_eq_false h))) k
  · cases h
theorem n_if_le {md : zM} {pc tgt : Nat} {off : Int} (ht0 : (pc : Int) + off = (tgt : Int)) (hd : decode md.2.1 pc = .ok (.ifCond .le off, 3)) : zS md pc (pc + 3) (i_if (fun x => decide (x ≤ 0)) tgt) := by
  intro d f ⟨ls, st, M, N, S⟩ r h k
  unfold i_if at h
  dsimp only at h
  split at h
  · cases h
    exact zG_two (fun p l e R s m args below meth c H locs cells slots Q lsA base b hx hb kt kf => lv_if_le hx hb hd ht0 (fun h => kt (decide_eq_true h)) (fun h => kf (decide_eq_false h))) k
  · cases h
theorem n_icmp_le {md : zM} {pc tgt : Nat} {off : Int} (ht0 : (pc : Int) + off = (tgt : Int)) (hd : decode md.2.1 pc = .ok (.if_icmp .le off, 3)) : zS md pc (pc + 3) (i_icmp (fun x y => decide (x ≤ y)) tgt) := by
  intro d f ⟨ls, st, M, N, S⟩ r h k
  unfold i_icmp at h
  dsimp only at h
  split at h
  · cases h
    exact zG_two (fun p l e R s m args below meth c H locs cells slots Q lsA base b hx hb kt kf => lv_icmp_le hx hb hd ht0 (fun h => kt (decide_eq_true h)) (fun h => kf (decide_eq_false h))) k
  · cases h
end
section
/-! stores into locals, jumps, returns -/
theorem zset_spec : ∀ {ls : List Value} {i : Nat} {v : Value} {ls' : List Value}, zset ls i v = some ls' → i < ls.length ∧ ls[i]? ≠ some (.retAddr 1) ∧ ls' = ls.set i v
  | [], _, _, _, h => by cases h
  | w :: ls, 0, v, ls', h => by
    unfold zset at h
    split at h
    · cases h
    · rename_i hw
      cases h
      exact ⟨by simp, by simpa using hw, rfl⟩
  | w :: ls, i + 1, v, ls', h => by
    unfold zset at h
    cases hz : zset ls i v with
    | none => rw [hz] at h; cases h
    | some l =>
      rw [hz] at h
      cases h
      obtain ⟨h1, h2, h3⟩ := zset_spec hz
      exact ⟨by simpa using h1, by simpa using h2, by simp [h3]⟩
def zlv (base b : Nat) (ls : List Value) : List (Nat × Value) := (List.range ls.length).filterMap fun i => match ls[i]? with
  | some (Value.retAddr _) => none
  | some v => some (i, zV base b v)
  | none => none
theorem zlv_mem {base b : Nat} {ls : List Value} {q : Nat × Value} : q ∈ zlv base b ls ↔ ∃ v, ls[q.1]? = some v ∧ (∀ r, v ≠ Value.retAddr r) ∧ q.2 = zV base b v := by
  unfold zlv
  rw [List.mem_filterMap]
  constructor
  · rintro ⟨i, -, h⟩
    split at h
    · cases h
    · rename_i v hv hn
      cases h
      exact ⟨v, hn, fun r e => hv r e, rfl⟩
    · cases h
  · rintro ⟨v, h1, h2, h3⟩
    refine ⟨q.1, List.mem_range.mpr (List.getElem?_eq_some_iff.mp h1).1, ?_⟩
    rw [h1]
    cases v with
    | retAddr r => exact absurd rfl (h2 r)
    | _ => simp only; rw [← h3]
theorem zL_has {base b nL : Nat} {ls : List Value} {lsA : Array Slot} (h : zL base b nL ls lsA) : lv_has lsA nL (zlv base b ls) :=
  ⟨h.2.1, h.2.2.1, fun q hq => by
    obtain ⟨v, h1, h2, h3⟩ := zlv_mem.mp hq
    rw [h3]
    exact h.2.2.2.1 q.1 v h1 h2⟩
theorem zV_cat (base b : Nat) (v : Value) : (zV base b v).category = v.category := by cases v <;> rfl
theorem zL_put {base b nL i : Nat} {ls ls' : List Value} {lsA lsB : Array Slot} {v : Value} (h : zL base b nL ls lsA) (hz : zset ls i v = some ls') (hv : z1 v = true)
    (hB : lv_has lsB nL ((i, zV base b v) :: (zlv base b ls).filter (fun q => !(q.1 == i) && !(q.1 + 1 == i && q.2.category == 2)))) : zL base b nL ls' lsB := by
  obtain ⟨hi, hne, rfl⟩ := zset_spec hz
  obtain ⟨g1, g2, g3⟩ := hB
  obtain ⟨h1, h2, h3, h4, h5, h6⟩ := h
  refine ⟨by rw [List.length_set]; exact h1, g1, g2, fun j w hj hw => ?_, fun j x hj => ?_, fun j x hj => ?_⟩
  · rw [List.getElem?_set] at hj
    by_cases e : i = j
    · subst e
      rw [if_pos rfl, if_pos hi] at hj
      cases hj
      exact g3 (i, zV base b v) List.mem_cons_self
    · rw [if_neg e] at hj
      refine g3 (j, zV base b w) (List.mem_cons_of_mem _ (List.mem_filter.mpr ⟨zlv_mem.mpr ⟨w, hj, hw, rfl⟩, ?_⟩))
      have hne2 : (j == i) = false := by simpa using fun e2 : j = i => e e2.symm
      rw [hne2]
      by_cases e3 : j + 1 = i
      · have : (zV base b w).category ≠ 2 := by
          rw [zV_cat]
          cases w with
          | long x => exact absurd (h5 j x hj) (by rw [e3]; exact hne)
          | double x => exact absurd hj (h6 j x)
          | _ => simp [Value.category]
        simp [this]
      · simp [e3]
  · rw [List.getElem?_set] at hj ⊢
    by_cases e : i = j
    · subst e
      rw [if_pos rfl, if_pos hi] at hj
      cases hj
      cases hv
    · rw [if_neg e] at hj
      have hj2 := h5 j x hj
      by_cases e2 : i = j + 1
      · subst e2
        exact absurd hj2 hne
      · rw [if_neg e2]
        exact hj2
  · rw [List.getElem?_set] at hj
    by_cases e : i = j
    · subst e
      rw [if_pos rfl, if_pos hi] at hj
      cases hj
      cases hv
    · rw [if_neg e] at hj
      exact h6 j x hj
/-- an instruction that changes the locals -/
theorem zG_loc {d : Nat} {md : zM} {pc pc' : Nat} {ls ls' st st' : List Value} {M : zHp} {N S : Nat} {f : zF}
    (h : ∀ (p : Program) (l : Launch) (e : Env) (R : Room) (s : State) (m : MethodId) (args : Array Value) (below : List Frame) (meth : Method) (c : Code) (H : Heap) (locs : List Loc) (cells slots : Nat) (Q : State → Prop) (lsA : Array Slot) (base b : Nat), p.tables.exec = Jvm.exec → c.code = md.2.1 → zL base b md.2.2.1 ls lsA →
      (∀ lsB, zL base b md.2.2.1 ls' lsB → W p l e R s m args below meth c H locs cells slots Q (F0 m pc' lsB (st'.map (zV base b)))) → W p l e R s m args below meth c H locs cells slots Q (F0 m pc lsA (st.map (zV base b))))
    (k : zGo d md pc' (ls', st', M, N, S) f) : zGo d md pc (ls, st, M, N, S) f :=
  ⟨k.1, k.2.1, fun p l e R s m args below meth c D aC base b L xs n0 s0 F hx hn hs H locs lsA hw hl => h p l e R s m args below meth c H locs _ _ _ lsA base b hx.1 hx.2.1 hl (fun lsB hl => k.2.2 p l e R s m args below meth c D aC base b L xs n0 s0 F hx hn hs H locs lsB hw hl)⟩
theorem n_istore_n {md : zM} {pc i : Nat} {j : Fin 4} (hj : (j : Nat) = i) (hd : decode md.2.1 pc = .ok (.istore_n j, 1)) : zS md pc (pc + 1) (i_istore i) := by
  intro d f ⟨ls, st, M, N, S⟩ r h k
  unfold i_istore at h
  dsimp only at h
  split at h
  · rename_i x st
    obtain ⟨ls', hz, rfl⟩ := Option.map_eq_some_iff.mp h
    exact zG_loc (fun p l e R s m args below meth c H locs cells slots Q lsA base b hx hb hl k => lv_istore_n hx hb hd hj (zL_has hl) (by have := (zset_spec hz).1; rw [← hl.1]; exact this) rfl (fun lsB hB => k lsB (zL_put hl hz rfl hB))) k
  · cases h
theorem n_istore {md : zM} {pc i : Nat} (hd : decode md.2.1 pc = .ok (.istore i, 2)) : zS md pc (pc + 2) (i_istore i) := by
  intro d f ⟨ls, st, M, N, S⟩ r h k
  unfold i_istore at h
  dsimp only at h
  split at h
  · rename_i x st
    obtain ⟨ls', hz, rfl⟩ := Option.map_eq_some_iff.mp h
    exact zG_loc (fun p l e R s m args below meth c H locs cells slots Q lsA base b hx hb hl k => lv_istore hx hb hd (zL_has hl) (by have := (zset_spec hz).1; rw [← hl.1]; exact this) rfl (fun lsB hB => k lsB (zL_put hl hz rfl hB))) k
  · cases h
theorem n_astore_n {md : zM} {pc i : Nat} {j : Fin 4} (hj : (j : Nat) = i) (hd : decode md.2.1 pc = .ok (.astore_n j, 1)) : zS md pc (pc + 1) (i_astore i) := by
  intro d f ⟨ls, st, M, N, S⟩ r h k
  unfold i_astore at h
  dsimp only at h
  split at h
  · rename_i x st
    obtain ⟨ls', hz, rfl⟩ := Option.map_eq_some_iff.mp h
    exact zG_loc (fun p l e R s m args below meth c H locs cells slots Q lsA base b hx hb hl k => lv_astore_n hx hb hd hj (zL_has hl) (by have := (zset_spec hz).1; rw [← hl.1]; exact this) rfl (fun lsB hB => k lsB (zL_put (v := .ref x) hl hz rfl hB))) k
  · cases h
theorem zlv_place {base b nL i : Nat} {ls : List Value} {lsA : Array Slot} {v : Value} (_ : zL base b nL ls lsA) (h : ls[i]? = some v) (hv : ∀ r, v ≠ Value.retAddr r) : ∃ k : Nat, (zlv base b ls)[k]? = some (i, zV base b v) :=
  List.getElem?_of_mem (zlv_mem.mpr ⟨v, h, hv, rfl⟩)
theorem n_iinc {md : zM} {pc i : Nat} {n : Int} {v : Int32} (hv : Int32.ofInt n = v) (hd : decode md.2.1 pc = .ok (.iinc i n, 3)) : zS md pc (pc + 3) (i_iinc i v) := by
  intro d f ⟨ls, st, M, N, S⟩ r h k
  unfold i_iinc at h
  dsimp only at h
  split at h
  · rename_i x hx0
    obtain ⟨ls', hz, rfl⟩ := Option.map_eq_some_iff.mp h
    refine zG_loc (fun p l e R s m args below meth c H locs cells slots Q lsA base b hx hb hl k => ?_) k
    obtain ⟨j, hj⟩ := zlv_place hl hx0 (by intro r; simp)
    exact lv_iinc hx hb hd (zL_has hl) hj (by rw [hv]) (by have := (zset_spec hz).1; rw [← hl.1]; exact this) rfl (fun lsB hB => k lsB (zL_put hl hz rfl hB))
  · cases h
theorem n_lstore_n {md : zM} {pc i : Nat} {j : Fin 4} (hj : (j : Nat) = i) (hd : decode md.2.1 pc = .ok (.lstore_n j, 1)) : zS md pc (pc + 1) (i_lstore i) := by
  intro d f ⟨ls, st, M, N, S⟩ r h k
  unfold i_lstore at h
  dsimp only at h
  split at h
  · rename_i x st
    obtain ⟨ls', hz, h⟩ := Option.bind_eq_some_iff.mp h
    split at h
    · rename_i hlen
      cases h
      obtain ⟨hi, hne, rfl⟩ := zset_spec hz
      refine zG_loc (fun p l e R s m args below meth c H locs cells slots Q lsA base b hx hb hl k => lv_lstore_n hx hb hd hj (zL_has hl) (by rw [← hl.1]; exact hlen) rfl (fun lsB hB => k lsB ?_)) k
      obtain ⟨g1, g2, g3⟩ := hB
      obtain ⟨h1, h2, h3, h4, h5, h6⟩ := hl
      refine ⟨by rw [List.length_set, List.length_set]; exact h1, g1, g2, fun j w hj hw => ?_, fun j y hj => ?_, fun j y hj => ?_⟩
      · rw [List.getElem?_set] at hj
        by_cases e : i + 1 = j
        · subst e
          rw [if_pos rfl, if_pos (by rw [List.length_set]; exact hlen)] at hj
          cases hj
          exact absurd rfl (hw 1)
        · rw [if_neg e, List.getElem?_set] at hj
          by_cases e2 : i = j
          · subst e2
            rw [if_pos rfl, if_pos hi] at hj
            cases hj
            exact g3 (i, Value.long x) List.mem_cons_self
          · rw [if_neg e2] at hj
            refine g3 (j, zV base b w) (List.mem_cons_of_mem _ (List.mem_filter.mpr ⟨zlv_mem.mpr ⟨w, hj, hw, rfl⟩, ?_⟩))
            have hne2 : (j == i) = false := by simpa using fun q : j = i => e2 q.symm
            have hne3 : (j == i + 1) = false := by simpa using fun q : j = i + 1 => e q.symm
            rw [hne2, hne3]
            by_cases e3 : j + 1 = i
            · have : (zV base b w).category ≠ 2 := by
                rw [zV_cat]
                cases w with
                | long x => exact absurd (h5 j x hj) (by rw [e3]; exact hne)
                | double x => exact absurd hj (h6 j x)
                | _ => simp [Value.category]
              simp [this]
            · simp [e3]
      · rw [List.getElem?_set] at hj
        by_cases e : i + 1 = j
        · subst e
          rw [if_pos rfl, if_pos (by rw [List.length_set]; exact hlen)] at hj
          cases hj
        · rw [if_neg e, List.getElem?_set] at hj
          rw [List.getElem?_set]
          by_cases e2 : i = j
          · subst e2
            rw [if_pos rfl, if_pos (by rw [List.length_set]; exact hlen)]
          · rw [if_neg e2] at hj
            have hq := h5 j y hj
            by_cases e4 : i + 1 = j + 1
            · omega
            · rw [if_neg e4, List.getElem?_set]
              by_cases e5 : i = j + 1
              · subst e5
                exact absurd hq hne
              · rw [if_neg e5]
                exact hq
      · rw [List.getElem?_set] at hj
        by_cases e : i + 1 = j
        · subst e
          rw [if_pos rfl, if_pos (by rw [List.length_set]; exact hlen)] at hj
          cases hj
        · rw [if_neg e, List.getElem?_set] at hj
          by_cases e2 : i = j
          · subst e2
            rw [if_pos rfl, if_pos hi] at hj
            cases hj
          · rw [if_neg e2] at hj
            exact h6 j y hj
    · cases h
  · cases h
theorem n_goto {md : zM} {pc tgt : Nat} {off : Int} (ht0 : (pc : Int) + off = (tgt : Int)) (hd : decode md.2.1 pc = .ok (.goto off, 3)) (pc' : Nat) : zS md pc pc' (i_goto tgt) := by
  intro d f ⟨ls, st, M, N, S⟩ r h k
  cases h
  exact zG_simple (fun p l e R s m args below meth c H locs cells slots Q lsA base b hx hb ho ht hl k => lv_goto hx hb hd ht0 k) k
/-- nothing stands there: the next row of instructions goes on -/
theorem n_next {md : zM} (pc pc' : Nat) : zS md pc pc' (i_goto pc) := by
  intro d f c r h k
  cases h
  exact k
def zswOk (pc : Nat) (dflt : Int) (ps : List (Int × Int)) (qs : List (Int32 × Nat)) (dt : Nat) : Bool :=
  decide ((pc : Int) + dflt = (dt : Int)) && decide (qs = ps.map (fun a => (Int32.ofInt a.1, ((pc : Int) + a.2).toNat))) && ps.all (fun a => decide (-1000 ≤ a.1) && decide (a.1 ≤ 1000) && decide (0 ≤ (pc : Int) + a.2))
theorem i32_small {k : Int} (h1 : -1000 ≤ k) (h2 : k ≤ 1000) : (Int32.ofInt k).toInt = k := by
  rw [Int32.toInt_ofInt]
  have : Int32.size = 4294967296 := rfl
  rw [this]
  apply Int.bmod_eq_of_le <;> omega
theorem i32_eq {x : Int32} {k : Int} (h1 : -1000 ≤ k) (h2 : k ≤ 1000) : x = Int32.ofInt k ↔ x.toInt = k := by
  constructor
  · rintro rfl
    exact i32_small h1 h2
  · intro h
    apply Int32.toInt_inj.mp
    rw [h, i32_small h1 h2]
theorem zsw_lk (pc : Nat) (dflt : Int) (dt : Nat) (hd : (pc : Int) + dflt = (dt : Int)) (x : Int32) : ∀ (ps : List (Int × Int)), (ps.all (fun a => decide (-1000 ≤ a.1) && decide (a.1 ≤ 1000) && decide (0 ≤ (pc : Int) + a.2)) = true) →
    (pc : Int) + Op.lookupswitch.offset ps dflt x.toInt = ((zsw (ps.map (fun a => (Int32.ofInt a.1, ((pc : Int) + a.2).toNat))) dt x : Nat) : Int)
  | [], _ => by simpa [zsw, Op.lookupswitch.offset] using hd
  | a :: ps, h => by
    rw [List.all_cons, Bool.and_eq_true] at h
    obtain ⟨h0, hr⟩ := h
    simp only [Bool.and_eq_true, decide_eq_true_eq] at h0
    have ih := zsw_lk pc dflt dt hd x ps hr
    have e := @i32_eq x a.1 h0.1.1 h0.1.2
    simp only [List.map_cons, zsw]
    by_cases hx : x = Int32.ofInt a.1
    · rw [if_pos hx]
      have hx2 := e.mp hx
      simp only [Op.lookupswitch.offset, List.find?]
      simp [hx2]
      omega
    · rw [if_neg hx]
      have hx2 : ¬ x.toInt = a.1 := fun q => hx (e.mpr q)
      rw [← ih]
      simp only [Op.lookupswitch.offset, List.find?]
      simp
      exact fun q => absurd q.symm hx2
theorem n_lsw {md : zM} {pc len : Nat} {dflt : Int} {ps : Array (Int × Int)} {qs : List (Int32 × Nat)} {dt : Nat} (hp : (ps.toList.zip (ps.toList.drop 1)).all (fun (a, next) => a.1 < next.1) = true) (hok : zswOk pc dflt ps.toList qs dt = true) (hd : decode md.2.1 pc = .ok (.lookupswitch dflt ps, len)) (pc' : Nat) : zS md pc pc' (i_sw qs dt) := by
  intro d f ⟨ls, st, M, N, S⟩ r h k
  unfold i_sw at h
  dsimp only at h
  simp only [zswOk, Bool.and_eq_true, decide_eq_true_eq] at hok
  obtain ⟨⟨h1, h2⟩, h3⟩ := hok
  split at h
  · rename_i x st
    cases h
    have hz := zsw_lk pc dflt dt h1 x ps.toList (by simpa [Bool.and_eq_true] using h3)
    rw [← h2] at hz
    exact zG_simple (fun p l e R s m args below meth c H locs cells slots Q lsA base b hx hb ho ht hl k => lv_lookup hx hb hd hp rfl hz k) k
  · cases h
theorem zsw_tab (pc : Nat) (dflt : Int) (dt : Nat) (hd : (pc : Int) + dflt = (dt : Int)) (x : Int32) : ∀ (offs : List Int) (lo : Int), ((offs.zipIdx.map (fun a => (lo + (a.2 : Int), a.1))).all (fun a => decide (-1000 ≤ a.1) && decide (a.1 ≤ 1000) && decide (0 ≤ (pc : Int) + a.2)) = true) →
    ∀ qs, qs = (offs.zipIdx.map (fun a => (lo + (a.2 : Int), a.1))).map (fun a => (Int32.ofInt a.1, ((pc : Int) + a.2).toNat)) →
    ((x.toInt < lo ∨ lo + offs.length ≤ x.toInt) → zsw qs dt x = dt) ∧ (∀ off, ¬ x.toInt < lo → offs[(x.toInt - lo).toNat]? = some off → (pc : Int) + off = ((zsw qs dt x : Nat) : Int))
  | [], lo, _, qs, hq => by
    subst hq
    exact ⟨fun _ => rfl, fun off _ h => by simp at h⟩
  | o :: offs, lo, h, qs, hq => by
    have hz : (o :: offs).zipIdx.map (fun a => (lo + (a.2 : Int), a.1)) = (lo, o) :: offs.zipIdx.map (fun a => ((lo + 1) + (a.2 : Int), a.1)) := by
      rw [List.zipIdx_cons, List.map_cons]
      congr 1
      · simp
      · rw [List.zipIdx_succ, List.map_map]
        apply List.map_congr_left
        intro a _
        simp
        omega
    rw [hz] at h hq
    rw [List.all_cons, Bool.and_eq_true] at h
    obtain ⟨h0, hr⟩ := h
    simp only [Bool.and_eq_true, decide_eq_true_eq] at h0
    obtain ⟨i1, i2⟩ := zsw_tab pc dflt dt hd x offs (lo + 1) hr _ rfl
    have e := @i32_eq x lo h0.1.1 h0.1.2
    rw [List.map_cons] at hq
    subst hq
    simp only [zsw]
    by_cases hx : x = Int32.ofInt lo
    · have hx2 := e.mp hx
      rw [if_pos hx]
      refine ⟨fun q => ?_, fun off _ q => ?_⟩
      · simp at q
        omega
      · rw [hx2] at q
        simp at q
        subst q
        omega
    · have hx2 : ¬ x.toInt = lo := fun q => hx (e.mpr q)
      rw [if_neg hx]
      refine ⟨fun q => i1 ?_, fun off g q => i2 off (by omega) ?_⟩
      · simp at q
        omega
      · have : (x.toInt - lo).toNat = (x.toInt - (lo + 1)).toNat + 1 := by omega
        rw [this] at q
        simpa using q
theorem n_tsw {md : zM} {pc len : Nat} {dflt lo hi : Int} {offs : Array Int} {qs : List (Int32 × Nat)} {dt : Nat} (hhi : hi = lo + offs.toList.length - 1) (hok : zswOk pc dflt (offs.toList.zipIdx.map (fun a => (lo + (a.2 : Int), a.1))) qs dt = true) (hd : decode md.2.1 pc = .ok (.tableswitch dflt lo hi offs, len)) (pc' : Nat) : zS md pc pc' (i_sw qs dt) := by
  intro d f ⟨ls, st, M, N, S⟩ r h k
  unfold i_sw at h
  dsimp only at h
  simp only [zswOk, Bool.and_eq_true, decide_eq_true_eq] at hok
  obtain ⟨⟨h1, h2⟩, h3⟩ := hok
  split at h
  · rename_i x st
    cases h
    obtain ⟨z1, z2⟩ := zsw_tab pc dflt dt h1 x offs.toList lo (by simpa [Bool.and_eq_true] using h3) qs h2
    refine zG_simple (fun p l e R s m args below meth c H locs cells slots Q lsA base b hx hb ho ht hl k => ?_) k
    by_cases hin : x.toInt < lo ∨ hi < x.toInt
    · exact lv_tableOut hx hb hd hin (by rw [z1 (by omega)]; exact h1) k
    · have hlt : (x.toInt - lo).toNat < offs.toList.length := by omega
      refine lv_tableIn hx hb hd (fun q => hin (Or.inl q)) (fun q => hin (Or.inr q)) (off := offs.toList[(x.toInt - lo).toNat]) ?_ (z2 _ (fun q => hin (Or.inl q)) (List.getElem?_eq_getElem hlt)) k
      rw [← Array.getElem?_toList]
      exact List.getElem?_eq_getElem hlt
  · cases h
/-- the end of a method -/
theorem zG_ret {d : Nat} {md : zM} {pc : Nat} {ls st : List Value} {M : zHp} {N S : Nat} {v : Option Value}
    (h : ∀ (p : Program) (l : Launch) (e : Env) (R : Room) (s : State) (m : MethodId) (args : Array Value) (below : List Frame) (meth : Method) (c : Code) (H : Heap) (locs : List Loc) (cells slots : Nat) (lsA : Array Slot) (base b : Nat) (Qc : Array Value → State → Outcome → State → Prop), p.tables.exec = Jvm.exec → c.code = md.2.1 → meth.locks = false → meth.sig.returnType = md.2.2.2 →
      (∀ t : State, t.heap = H → s.WarmedH t.vm → Qc args s (.returned (v.map (zV base b))) t) → (∀ q ∈ locs, base ≤ q.base) → W p l e R s m args below meth c H locs cells slots (MQ below Qc args s cells slots (fun q => base ≤ q)) (F0 m pc lsA (st.map (zV base b)))) : zGo d md pc (ls, st, M, N, S) (v, M, N, S) :=
  ⟨Nat.le_refl _, Nat.le_refl _, fun p l e R s m args below meth c D aC base b L xs n0 s0 F hx hn hs H locs lsA hw hl => h p l e R s m args below meth c H locs _ _ lsA base b _ hx.1 hx.2.1 hx.2.2.2.2.2.1 hx.2.2.2.2.2.2.1 (fun t ht _ => ⟨rfl, by rw [ht]; exact hw.1, hw.2.2.1, hw.2.2.2, hw.2.1.F ht⟩) hw.2.1.2.2⟩
theorem n_ret {md : zM} {pc : Nat} (hr : md.2.2.2 = some .int) (hd : decode md.2.1 pc = .ok (.ireturn, 1)) (pc' : Nat) : zS md pc pc' i_ret := by
  intro d f ⟨ls, st, M, N, S⟩ r h k
  unfold i_ret at h
  dsimp only at h
  split at h
  · cases h
    cases k
    exact zG_ret (fun p l e R s m args below meth c H locs cells slots lsA base b Qc hx hb hlk hrt hq hf => W.iret hx hb (by rw [hrt, hr]) hq hf hd hlk)
  · cases h
theorem n_zret {md : zM} {pc : Nat} (hr : md.2.2.2 = some .boolean) (hd : decode md.2.1 pc = .ok (.ireturn, 1)) (pc' : Nat) : zS md pc pc' i_zret := by
  intro d f ⟨ls, st, M, N, S⟩ r h k
  unfold i_zret at h
  dsimp only at h
  split at h
  · split at h
    · rename_i h01
      cases h
      cases k
      exact zG_ret (fun p l e R s m args below meth c H locs cells slots lsA base b Qc hx hb hlk hrt hq hf => W.zret (ty := .boolean) hx hb (by rw [hrt, hr]) (by rcases h01 with h | h <;> subst h <;> decide) hq hf hd hlk)
    · cases h
  · cases h
theorem n_lret {md : zM} {pc : Nat} (hr : md.2.2.2 = some .long) (hd : decode md.2.1 pc = .ok (.lreturn, 1)) (pc' : Nat) : zS md pc pc' i_lret := by
  intro d f ⟨ls, st, M, N, S⟩ r h k
  unfold i_lret at h
  dsimp only at h
  split at h
  · cases h
    cases k
    exact zG_ret (fun p l e R s m args below meth c H locs cells slots lsA base b Qc hx hb hlk hrt hq hf => W.lret hx hb (by rw [hrt, hr]) hq hf hd hlk)
  · cases h
theorem n_vret {md : zM} {pc : Nat} (hr : md.2.2.2 = none) (hd : decode md.2.1 pc = .ok (.return_, 1)) (pc' : Nat) : zS md pc pc' i_vret := by
  intro d f ⟨ls, st, M, N, S⟩ r h k
  unfold i_vret at h
  dsimp only at h
  split at h
  · cases h
    cases k
    exact zG_ret (fun p l e R s m args below meth c H locs cells slots lsA base b Qc hx hb hlk hrt hq hf => W.vret hx hb (by rw [hrt, hr]) hq hf hd hlk)
  · cases h
end
section
/-! instructions that read and write the heap -/
def zkin (ci c0 : Nat) : Bool := ci == c0 || (c0 == 3 && (ci == 0 || ci == 1 || ci == 2 || ci == 4 || ci == 7))
def i_getf (c0 k : Nat) : zI := fun c => match c.2.1 with
  | .ref a :: st => match c.2.2.1 a with
    | .inr (ci, fs) => if zkin ci c0 = true then fs[k]?.map fun v => .inl (c.1, v :: st, c.2.2) else none
    | _ => none
  | _ => none
/-- which values a field of that sort takes: 0 int, 1 boolean, 2 long, 3 a reference -/
def zty : Nat → Value → Bool
  | 0, .int _ => true
  | 1, .int x => decide (x = 0 ∨ x = 1)
  | 2, .long _ => true
  | 3, .ref _ => true
  | _, _ => false
def i_putf (c0 k t : Nat) : zI := fun c => match c.2.1 with
  | v :: .ref a :: st => match c.2.2.1 a with
    | .inr (ci, fs) => if zkin ci c0 = true ∧ zty t v = true ∧ k < fs.length then some (.inl (c.1, st, va_up c.2.2.1 a (.inr (ci, fs.set k v)), c.2.2.2)) else none
    | _ => none
  | _ => none
def zix (i : Int32) (n : Nat) : Option Nat := if i < 0 ∨ n ≤ i.toNatClampNeg then none else some i.toNatClampNeg
def i_iald : zI := fun c => match c.2.1 with
  | .int i :: .ref a :: st => match c.2.2.1 a with
    | .inl (0, n, .inl f) => (zix i n).map fun j => .inl (c.1, .int (f j) :: st, c.2.2)
    | _ => none
  | _ => none
def i_bald : zI := fun c => match c.2.1 with
  | .int i :: .ref a :: st => match c.2.2.1 a with
    | .inl (1, n, .inl f) => (zix i n).map fun j => .inl (c.1, .int (f j) :: st, c.2.2)
    | .inl (2, n, .inl f) => (zix i n).map fun j => .inl (c.1, .int (f j) :: st, c.2.2)
    | _ => none
  | _ => none
def zrv : Option Nat → Value
  | some k => .ref k
  | none => .null
def i_aald : zI := fun c => match c.2.1 with
  | .int i :: .ref a :: st => match c.2.2.1 a with
    | .inl (t, n, .inr f) => if 3 ≤ t ∧ t ≤ 5 then (zix i n).map fun j => .inl (c.1, zrv (f j) :: st, c.2.2) else none
    | _ => none
  | _ => none
def i_alen : zI := fun c => match c.2.1 with
  | .ref a :: st => match c.2.2.1 a with
    | .inl (t, n, _) => if t ≤ 5 then some (.inl (c.1, .int (nI n) :: st, c.2.2)) else none
    | _ => none
  | _ => none
def i_iast : zI := fun c => match c.2.1 with
  | .int x :: .int i :: .ref a :: st => match c.2.2.1 a with
    | .inl (0, n, .inl f) => if a = 0 then none else (zix i n).map fun j => .inl (c.1, st, va_up c.2.2.1 a (.inl (0, n, .inl (upd f j x))), c.2.2.2)
    | _ => none
  | _ => none
def i_bast : zI := fun c => match c.2.1 with
  | .int x :: .int i :: .ref a :: st => match c.2.2.1 a with
    | .inl (1, n, .inl f) => (zix i n).map fun j => .inl (c.1, st, va_up c.2.2.1 a (.inl (1, n, .inl (upd f j x.toInt8.toInt32))), c.2.2.2)
    | .inl (2, n, .inl f) => (zix i n).map fun j => .inl (c.1, st, va_up c.2.2.1 a (.inl (2, n, .inl (upd f j (x &&& 1)))), c.2.2.2)
    | _ => none
  | _ => none
def zarr (t ci : Nat) : Bool := (t == 3 && ci == 6) || (t == 4 && ci == 5) || (t == 5 && (ci == 0 || ci == 1 || ci == 2 || ci == 3 || ci == 4 || ci == 7))
def i_aast : zI := fun c => match c.2.1 with
  | .ref v :: .int i :: .ref a :: st => match c.2.2.1 a, c.2.2.1 v with
    | .inl (t, n, .inr f), .inr (ci, _) => if zarr t ci = true then (zix i n).map fun j => .inl (c.1, st, va_up c.2.2.1 a (.inl (t, n, .inr (va_up f j (some v)))), c.2.2.2) else none
    | _, _ => none
  | _ => none
def i_new (ci : Nat) (fs : List Value) : zI := fun c => some (.inl (c.1, .ref (c.2.2.2.1 + 1) :: c.2.1, va_up c.2.2.1 (c.2.2.2.1 + 1) (.inr (ci, fs)), c.2.2.2.1 + 1, c.2.2.2.2 + fs.length))
def i_newa (t : Nat) : zI := fun c => match c.2.1 with
  | .int n :: st => if ¬ n < 0 ∧ n.toNatClampNeg ≤ 100000 then some (.inl (c.1, .ref (c.2.2.2.1 + 1) :: st, va_up c.2.2.1 (c.2.2.2.1 + 1) (.inl (t, n.toNatClampNeg, .inl fun _ => 0)), c.2.2.2.1 + 1, c.2.2.2.2 + n.toNatClampNeg)) else none
  | _ => none
def i_anew (t : Nat) : zI := fun c => match c.2.1 with
  | .int n :: st => if ¬ n < 0 ∧ n.toNatClampNeg ≤ 100000 then some (.inl (c.1, .ref (c.2.2.2.1 + 1) :: st, va_up c.2.2.1 (c.2.2.2.1 + 1) (.inl (t, n.toNatClampNeg, .inr fun _ => none)), c.2.2.2.1 + 1, c.2.2.2.2 + n.toNatClampNeg)) else none
  | _ => none
def zsm : List Value → Bool
  | [] => true
  | [_] => true
  | [_, _] => true
  | [_, _, _] => true
  | [_, _, _, _] => true
  | _ => false
def i_acopy : zI := fun c => match c.2.1 with
  | .int n :: .int dp :: .ref a :: .int sp :: .ref a0 :: st => match c.2.2.1 a0, c.2.2.1 a with
    | .inl (0, n0, .inl f), .inl (0, n1, .inl g) => if a = 0 ∨ a0 = 0 ∨ n < 0 ∨ sp < 0 ∨ dp < 0 ∨ n0 < sp.toNatClampNeg + n.toNatClampNeg ∨ n1 < dp.toNatClampNeg + n.toNatClampNeg ∨ zsm st = false then none else some (.inl (c.1, st, va_up c.2.2.1 a (.inl (0, n1, .inl (va_cpy f g sp.toNatClampNeg dp.toNatClampNeg n.toNatClampNeg))), c.2.2.2))
    | _, _ => none
  | _ => none
theorem zwd_lt {D : va_G} {aC : Nat → ClassId} {base b L : Nat} {xs : Nat → Int32} {M : zHp} {N : Nat} {s : State} {H : Heap} {locs : List Loc} {a : Nat} (hw : zWd D aC base b L xs M N s H locs) (ha : a ≠ 0) (hv : M a ≠ zvoid) : ∃ j, a = j + 1 ∧ j < N ∧ (zW aC base b M N)[j]? = some (base + j, zE aC base b (M (j + 1))) := by
  refine ⟨a - 1, by omega, ?_, ?_⟩
  · rcases Nat.lt_or_ge N a with h | h
    · exact absurd (hw.2.2.2 a h) hv
    · omega
  · refine zW_get ?_
    rcases Nat.lt_or_ge N a with h | h
    · exact absurd (hw.2.2.2 a h) hv
    · omega
theorem zwd_obj {D : va_G} {aC : Nat → ClassId} {base b L : Nat} {xs : Nat → Int32} {M : zHp} {N : Nat} {s : State} {H : Heap} {locs : List Loc} {a ci : Nat} {fs : List Value} (hw : zWd D aC base b L xs M N s H locs) (hm : M a = .inr (ci, fs)) : ∃ j, a = j + 1 ∧ j < N ∧ (zW aC base b M N)[j]? = some (base + j, .inr (ci, fs.map (zV base b))) := by
  obtain ⟨j, rfl, h1, h2⟩ := zwd_lt hw (a := a) (fun h => by subst h; rw [hw.2.2.1] at hm; cases hm) (by rw [hm]; intro h; cases h)
  rw [hm] at h2
  exact ⟨j, rfl, h1, h2⟩
theorem zwd_arr {D : va_G} {aC : Nat → ClassId} {base b L : Nat} {xs : Nat → Int32} {M : zHp} {N : Nat} {s : State} {H : Heap} {locs : List Loc} {a t n : Nat} {r : (Nat → Int32) ⊕ (Nat → Option Nat)} (hw : zWd D aC base b L xs M N s H locs) (hm : M a = .inl (t, n, r)) (ht : t ≠ 9) (ha : a ≠ 0) : ∃ j, a = j + 1 ∧ j < N ∧ (zW aC base b M N)[j]? = some (base + j, .inl (aC t, n, zA base b r)) := by
  obtain ⟨j, rfl, h1, h2⟩ := zwd_lt hw ha (by rw [hm]; intro h; unfold zvoid at h; injection h with h; injection h with h3; exact ht h3)
  rw [hm] at h2
  exact ⟨j, rfl, h1, h2⟩
theorem zkin_ok {ci c0 : Nat} {C0 : String} {T : u_T} {n : Nat} (h : zkin ci c0 = true) (h0 : zCl[c0]? = some (C0, T, n)) : ∃ C, zCl[ci]? = some (C, T, n) := by
  unfold zkin at h
  rw [Bool.or_eq_true] at h
  rcases h with h | h
  · rw [beq_iff_eq] at h
    subst h
    exact ⟨C0, h0⟩
  · simp only [Bool.and_eq_true, Bool.or_eq_true, beq_iff_eq] at h
    obtain ⟨rfl, h⟩ := h
    cases h0
    rcases h with (((rfl | rfl) | rfl) | rfl) | rfl
    · exact ⟨_, rfl⟩
    · exact ⟨_, rfl⟩
    · exact ⟨_, rfl⟩
    · exact ⟨_, rfl⟩
    · exact ⟨_, rfl⟩
theorem zsame {args : Array Value} {s : State} {ref dc nm ds : String} (hts : ∀ w ∈ zgt, w.before args s = true) (h : ref = dc ∨ Cond.sameField ref dc nm ds ∈ zgt) : ∀ x, s.fieldFound? dc nm ds = some x → s.fieldFound? ref nm ds = some x := by
  rcases h with rfl | h
  · exact fun _ h => h
  · exact fun x hx => u_same (hts _ h) x hx
theorem n_getf {md : zM} {pc idx c0 k n : Nat} {C0 ref dc nm ds : String} {T : u_T} {fn : Bool} (h0 : zCl[c0]? = some (C0, T, n)) (hk : k < n) (hT : T k = (dc, nm, ds, fn)) (hl : Cond.fieldLink md.1.cls idx ref nm ds ∈ zgt) (hsm : ref = dc ∨ Cond.sameField ref dc nm ds ∈ zgt) (hd : decode md.2.1 pc = .ok (.getfield idx, 3)) : zS md pc (pc + 3) (i_getf c0 k) := by
  intro d f ⟨ls, st, M, N, S⟩ r h q
  unfold i_getf at h
  dsimp only at h
  split at h
  · rename_i a st
    split at h
    · rename_i ci fs hm
      split at h
      · rename_i hkin
        obtain ⟨v, hv, rfl⟩ := Option.map_eq_some_iff.mp h
        obtain ⟨C, hC⟩ := zkin_ok hkin h0
        have q : zGo d md (pc + 3) (ls, v :: st, M, N, S) f := q
        refine ⟨q.1, q.2.1, fun p l e R s m args below meth c D aC base b L xs n0 s0 F hx hn hs H locs lsA hw hl' => ?_⟩
        obtain ⟨j, rfl, hj, he⟩ := zwd_obj hw hm
        have hb := q.2.2 p l e R s m args below meth c D aC base b L xs n0 s0 F hx hn hs H locs lsA hw hl'
        refine va_get (ref := ref) (C := C) (T := T) (N := n) hx.1 hx.2.1 hx.2.2.2.2.1 (zcls hC).1 hx.2.2.2.1 hx.2.2.2.2.2.2.2.2.1 hw.1 j he hC k hk ?_ ?_ (v := zV base b v) (by rw [List.getElem?_map, hv]; rfl) hd hb
        · rw [hT]; exact hx.2.2.2.2.1 _ hl
        · rw [hT]; exact zsame hx.2.2.2.2.1 hsm
      · cases h
    · cases h
  · cases h
theorem zty_ok {t : Nat} {ty : FieldType} {v : Value} {base b : Nat} (h : zty t v = true) (ht : (t = 0 ∧ ty = .int) ∨ (t = 1 ∧ ty = .boolean) ∨ (t = 2 ∧ ty = .long) ∨ (t = 3 ∧ ((∃ C, ty = .object C) ∨ ∃ e, ty = .array e))) : narrow ty (zV base b v) = zV base b v ∧ fits ty (zV base b v) = true := by
  rcases ht with ⟨rfl, rfl⟩ | ⟨rfl, rfl⟩ | ⟨rfl, rfl⟩ | ⟨rfl, h2⟩
  · cases v <;> first | exact ⟨rfl, rfl⟩ | cases h
  · cases v with
    | int x =>
      have h : x = 0 ∨ x = 1 := by simpa [zty] using h
      rcases h with rfl | rfl
      · exact ⟨rfl, rfl⟩
      · exact ⟨rfl, rfl⟩
    | _ => cases h
  · cases v <;> first | exact ⟨rfl, rfl⟩ | cases h
  · rcases h2 with ⟨C, rfl⟩ | ⟨e, rfl⟩
    · cases v <;> first | exact ⟨rfl, rfl⟩ | cases h
    · cases v <;> first | exact ⟨rfl, rfl⟩ | cases h
theorem zwd_put {D : va_G} {aC : Nat → ClassId} {base b L : Nat} {xs : Nat → Int32} {M : zHp} {N : Nat} {s : State} {H H1 : Heap} {locs locs1 : List Loc} {j : Nat} {c : zAC} (hw : zWd D aC base b L xs M N s H locs) (hj : j < N) (hP : va_P D zCl ((zW aC base b M N).set j (base + j, zE aC base b c)) H1) (hS : va_S (fun q => base ≤ q) s.heap H1 locs1) : zWd D aC base b L xs (va_up M (j + 1) c) N s H1 locs1 := by
  rw [zW_set c hj] at hP
  refine ⟨hP, hS, ?_, fun k hk => ?_⟩
  · unfold va_up
    rw [if_neg (by omega)]
    exact hw.2.2.1
  · unfold va_up
    rw [if_neg (by omega)]
    exact hw.2.2.2 k hk
theorem n_putf {md : zM} {pc idx c0 k n t : Nat} {C0 ref dc nm ds : String} {T : u_T} {fn : Bool} {ty : FieldType} (h0 : zCl[c0]? = some (C0, T, n)) (hk : k < n) (hT : T k = (dc, nm, ds, fn)) (hl : Cond.fieldLink md.1.cls idx ref nm ds ∈ zgt) (hsm : ref = dc ∨ Cond.sameField ref dc nm ds ∈ zgt) (hfn : fn = false ∨ (md.1.name = "<init>" ∧ dc = md.1.cls))
    (hty : parseFieldDescriptor ds = some ty) (ht : (t = 0 ∧ ty = .int) ∨ (t = 1 ∧ ty = .boolean) ∨ (t = 2 ∧ ty = .long) ∨ (t = 3 ∧ ((∃ C, ty = .object C) ∨ ∃ e, ty = .array e))) (hd : decode md.2.1 pc = .ok (.putfield idx, 3)) : zS md pc (pc + 3) (i_putf c0 k t) := by
  intro d f ⟨ls, st, M, N, S⟩ r h q
  unfold i_putf at h
  dsimp only at h
  split at h
  · rename_i v a st
    split at h
    · rename_i ci fs hm
      split at h
      · rename_i hc3
        obtain ⟨hkin, hzt, hlen⟩ := hc3
        cases h
        obtain ⟨C, hC⟩ := zkin_ok hkin h0
        have q : zGo d md (pc + 3) (ls, st, va_up M a (.inr (ci, fs.set k v)), N, S) f := q
        refine ⟨q.1, q.2.1, fun p l e R s m args below meth c D aC base b L xs n0 s0 F hx hn hs H locs lsA hw hl' => ?_⟩
        obtain ⟨j, rfl, hj, he⟩ := zwd_obj hw hm
        obtain ⟨hcin, ⟨tyf, htyf⟩, hnm, -, -⟩ := zcls hC
        obtain ⟨hnar, hfit⟩ := zty_ok (base := base) (b := b) hzt ht
        have hlk : (Cond.fieldLink md.1.cls idx ref (T k).2.1 (T k).2.2.1).before args s = true := by rw [hT]; exact hx.2.2.2.2.1 _ hl
        have hsame : ∀ x, s.fieldFound? (T k).1 (T k).2.1 (T k).2.2.1 = some x → s.fieldFound? ref (T k).2.1 (T k).2.2.1 = some x := by rw [hT]; exact zsame hx.2.2.2.2.1 hsm
        have hgo : ∀ (H1 : Heap) (locs1 : List Loc), va_P D zCl ((zW aC base b M N).set j (base + j, .inr (ci, (fs.map (zV base b)).set k (zV base b v)))) H1 → va_D (fun q => base ≤ q) ((zW aC base b M N).set j (base + j, .inr (ci, (fs.map (zV base b)).set k (zV base b v)))) → va_S (fun q => base ≤ q) s.heap H1 locs1 → W p l e R s m args below meth c H1 locs1 (N - n0) (S - s0) (MQ below (zQ D aC base b L xs f) args s (f.2.2.1 - n0) (f.2.2.2 - s0) (fun q => base ≤ q)) (F0 m (pc + 3) lsA (st.map (zV base b))) := by
          intro H1 locs1 hP1 _ hS1
          refine q.2.2 p l e R s m args below meth c D aC base b L xs n0 s0 F hx hn hs H1 locs1 lsA (zwd_put hw hj (c := .inr (ci, fs.set k v)) ?_ hS1) hl'
          rw [show zE aC base b (.inr (ci, fs.set k v)) = .inr (ci, (fs.map (zV base b)).set k (zV base b v)) by simp [zE, List.map_set]]
          exact hP1
        rcases hfn with rfl | ⟨hi1, hi2⟩
        · exact va_put (ref := ref) (C := C) (T := T) (N := n) hx.1 hx.2.1 hx.2.2.2.2.1 hcin tyf htyf hnm hx.2.2.2.1 hx.2.2.2.2.2.2.2.2.1 hw.1 (zW_D aC base b M N) hw.2.1 j he hC k hk hlk hsame (by rw [hT]) (ty := ty) (by rw [hT]; exact hty) hnar hfit (by simpa using hlen) hd hgo
        · cases fn with
          | false => exact va_put (ref := ref) (C := C) (T := T) (N := n) hx.1 hx.2.1 hx.2.2.2.2.1 hcin tyf htyf hnm hx.2.2.2.1 hx.2.2.2.2.2.2.2.2.1 hw.1 (zW_D aC base b M N) hw.2.1 j he hC k hk hlk hsame (by rw [hT]) (ty := ty) (by rw [hT]; exact hty) hnar hfit (by simpa using hlen) hd hgo
          | true => exact va_putF (ref := ref) (C := C) (T := T) (N := n) hx.1 hx.2.1 hx.2.2.2.2.1 hcin tyf htyf hnm hx.2.2.2.1 hx.2.2.2.2.2.2.2.2.1 hw.1 (zW_D aC base b M N) hw.2.1 j he hC k hk hlk hsame (by rw [hT]) (hx.2.2.2.2.2.2.2.1 hi1) (by rw [hT]; exact hi2) (ty := ty) (by rw [hT]; exact hty) hnar hfit (by simpa using hlen) hd hgo
      · cases h
    · cases h
  · cases h
theorem zix_in {i : Int32} {n j : Nat} (h : zix i n = some j) : vp_in i n ∧ j = i.toNatClampNeg := by
  unfold zix at h
  split at h
  · cases h
  · rename_i hn
    cases h
    exact ⟨hn, rfl⟩
theorem n_iald {md : zM} {pc : Nat} (hd : decode md.2.1 pc = .ok (.iaload, 1)) : zS md pc (pc + 1) i_iald := by
  intro d f ⟨ls, st, M, N, S⟩ r h q
  unfold i_iald at h
  dsimp only at h
  split at h
  · rename_i i a st
    split at h
    · rename_i n g hm
      obtain ⟨j, hj, rfl⟩ := Option.map_eq_some_iff.mp h
      obtain ⟨hin, rfl⟩ := zix_in hj
      have q : zGo d md (pc + 1) (ls, .int (g i.toNatClampNeg) :: st, M, N, S) f := q
      refine ⟨q.1, q.2.1, fun p l e R s m args below meth c D aC base b L xs n0 s0 F hx hn hs H locs lsA hw hl' => ?_⟩
      have hb := q.2.2 p l e R s m args below meth c D aC base b L xs n0 s0 F hx hn hs H locs lsA hw hl'
      by_cases ha : a = 0
      · subst ha
        have hm := hw.2.2.1.symm.trans hm
        injection hm with hm; injection hm with _ hm; injection hm with e1 e2; injection e2 with e2
        subst e1; subst e2
        exact va_sld (b := b) (xs := xs) hx.1 hx.2.1 hx.2.2.2.2.2.2.2.2.2.1 (by have := hx.2.2.2.2.2.2.2.2.2.2.2.1; have := hx.2.2.2.2.2.2.2.2.2.2.1; omega) (A := fun q => base ≤ q) (by have := hx.2.2.2.2.2.2.2.2.2.2.1; omega) hw.2.1 hin hd hb
      · obtain ⟨j, rfl, hj, he⟩ := zwd_arr hw hm (by decide) ha
        exact va_iald hx.1 hx.2.1 hx.2.2.2.2.2.2.2.2.1 hw.1 j 0 he rfl hin hd hb
    · cases h
  · cases h
theorem n_alen {md : zM} {pc : Nat} (hd : decode md.2.1 pc = .ok (.arraylength, 1)) : zS md pc (pc + 1) i_alen := by
  intro d f ⟨ls, st, M, N, S⟩ r h q
  unfold i_alen at h
  dsimp only at h
  split at h
  · rename_i a st
    split at h
    · rename_i t n g hm
      split at h
      · rename_i ht5
        cases h
        have q : zGo d md (pc + 1) (ls, .int (nI n) :: st, M, N, S) f := q
        refine ⟨q.1, q.2.1, fun p l e R s m args below meth c D aC base b L xs n0 s0 F hx hn hs H locs lsA hw hl' => ?_⟩
        have hb := q.2.2 p l e R s m args below meth c D aC base b L xs n0 s0 F hx hn hs H locs lsA hw hl'
        by_cases ha : a = 0
        · subst ha
          have hm := hw.2.2.1.symm.trans hm
          injection hm with hm; injection hm with _ hm; injection hm with e1 e2
          subst e1
          exact va_slen (b := b) (xs := xs) hx.1 hx.2.1 hx.2.2.2.2.2.2.2.2.2.1 (by have := hx.2.2.2.2.2.2.2.2.2.2.2.1; have := hx.2.2.2.2.2.2.2.2.2.2.1; omega) (A := fun q => base ≤ q) (by have := hx.2.2.2.2.2.2.2.2.2.2.1; omega) hw.2.1 hd hb
        · obtain ⟨j, rfl, hj, he⟩ := zwd_arr hw hm (by omega) ha
          rcases (show t = 0 ∨ t = 1 ∨ t = 2 ∨ t = 3 ∨ t = 4 ∨ t = 5 by omega) with rfl | rfl | rfl | rfl | rfl | rfl
          · exact va_alen hx.1 hx.2.1 hx.2.2.2.2.2.2.2.2.1 hw.1 j 0 he rfl rfl hd hb
          · exact va_alen hx.1 hx.2.1 hx.2.2.2.2.2.2.2.2.1 hw.1 j 1 he rfl rfl hd hb
          · exact va_alen hx.1 hx.2.1 hx.2.2.2.2.2.2.2.2.1 hw.1 j 2 he rfl rfl hd hb
          · exact va_alen hx.1 hx.2.1 hx.2.2.2.2.2.2.2.2.1 hw.1 j 3 he rfl rfl hd hb
          · exact va_alen hx.1 hx.2.1 hx.2.2.2.2.2.2.2.2.1 hw.1 j 4 he rfl rfl hd hb
          · exact va_alen hx.1 hx.2.1 hx.2.2.2.2.2.2.2.2.1 hw.1 j 5 he rfl rfl hd hb
      · cases h
    · cases h
  · cases h
theorem n_bald {md : zM} {pc : Nat} (hd : decode md.2.1 pc = .ok (.baload, 1)) : zS md pc (pc + 1) i_bald := by
  intro d f ⟨ls, st, M, N, S⟩ r h q
  unfold i_bald at h
  dsimp only at h
  split at h
  · rename_i i a st
    split at h
    · rename_i n g hm
      obtain ⟨j, hj, rfl⟩ := Option.map_eq_some_iff.mp h
      obtain ⟨hin, rfl⟩ := zix_in hj
      have q : zGo d md (pc + 1) (ls, .int (g i.toNatClampNeg) :: st, M, N, S) f := q
      refine ⟨q.1, q.2.1, fun p l e R s m args below meth c D aC base b L xs n0 s0 F hx hn hs H locs lsA hw hl' => ?_⟩
      have hb := q.2.2 p l e R s m args below meth c D aC base b L xs n0 s0 F hx hn hs H locs lsA hw hl'
      obtain ⟨j, rfl, hj, he⟩ := zwd_arr hw hm (by decide) (fun h => by subst h; have hm := hw.2.2.1.symm.trans hm; injection hm with hm; injection hm with hm; cases hm)
      exact va_bald hx.1 hx.2.1 hx.2.2.2.2.2.2.2.2.1 hw.1 j 1 he rfl hin hd hb
    · rename_i n g hm
      obtain ⟨j, hj, rfl⟩ := Option.map_eq_some_iff.mp h
      obtain ⟨hin, rfl⟩ := zix_in hj
      have q : zGo d md (pc + 1) (ls, .int (g i.toNatClampNeg) :: st, M, N, S) f := q
      refine ⟨q.1, q.2.1, fun p l e R s m args below meth c D aC base b L xs n0 s0 F hx hn hs H locs lsA hw hl' => ?_⟩
      have hb := q.2.2 p l e R s m args below meth c D aC base b L xs n0 s0 F hx hn hs H locs lsA hw hl'
      obtain ⟨j, rfl, hj, he⟩ := zwd_arr hw hm (by decide) (fun h => by subst h; have hm := hw.2.2.1.symm.trans hm; injection hm with hm; injection hm with hm; cases hm)
      exact va_zald hx.1 hx.2.1 hx.2.2.2.2.2.2.2.2.1 hw.1 j 2 he rfl hin hd hb
    · cases h
  · cases h
theorem zrv_up (base b : Nat) (o : Option Nat) : va_rf (o.map (zAd base b)) = zV base b (zrv o) := by cases o <;> rfl
theorem n_aald {md : zM} {pc : Nat} (hd : decode md.2.1 pc = .ok (.aaload, 1)) : zS md pc (pc + 1) i_aald := by
  intro d f ⟨ls, st, M, N, S⟩ r h q
  unfold i_aald at h
  dsimp only at h
  split at h
  · rename_i i a st
    split at h
    · rename_i t n g hm
      split at h
      · rename_i ht
        obtain ⟨j, hj, rfl⟩ := Option.map_eq_some_iff.mp h
        obtain ⟨hin, rfl⟩ := zix_in hj
        have q : zGo d md (pc + 1) (ls, zrv (g i.toNatClampNeg) :: st, M, N, S) f := q
        refine ⟨q.1, q.2.1, fun p l e R s m args below meth c D aC base b L xs n0 s0 F hx hn hs H locs lsA hw hl' => ?_⟩
        have hb := q.2.2 p l e R s m args below meth c D aC base b L xs n0 s0 F hx hn hs H locs lsA hw hl'
        obtain ⟨j, rfl, hj, he⟩ := zwd_arr hw hm (by omega) (fun h => by subst h; have hm := hw.2.2.1.symm.trans hm; injection hm with hm; injection hm with _ hm; injection hm with _ hm; cases hm)
        have hb : W p l e R s m args below meth c H locs (N - n0) (S - s0) (MQ below (zQ D aC base b L xs f) args s (f.2.2.1 - n0) (f.2.2.2 - s0) (fun q => base ≤ q)) (F0 m (pc + 1) lsA (va_rf ((g i.toNatClampNeg).map (zAd base b)) :: st.map (zV base b))) := by rw [zrv_up]; exact hb
        rcases (show t = 3 ∨ t = 4 ∨ t = 5 by omega) with rfl | rfl | rfl
        · exact va_aldq hx.1 hx.2.1 hx.2.2.2.2.2.2.2.2.1 hw.1 j 3 he rfl hin hd hb
        · exact va_aldq hx.1 hx.2.1 hx.2.2.2.2.2.2.2.2.1 hw.1 j 4 he rfl hin hd hb
        · exact va_aldq hx.1 hx.2.1 hx.2.2.2.2.2.2.2.2.1 hw.1 j 5 he rfl hin hd hb
      · cases h
    · cases h
  · cases h
theorem n_iast {md : zM} {pc : Nat} (hd : decode md.2.1 pc = .ok (.iastore, 1)) : zS md pc (pc + 1) i_iast := by
  intro d f ⟨ls, st, M, N, S⟩ r h q
  unfold i_iast at h
  dsimp only at h
  split at h
  · rename_i x i a st
    split at h
    · rename_i n g hm
      split at h
      · cases h
      · rename_i ha
        obtain ⟨j, hj, rfl⟩ := Option.map_eq_some_iff.mp h
        obtain ⟨hin, rfl⟩ := zix_in hj
        have q : zGo d md (pc + 1) (ls, st, va_up M a (.inl (0, n, .inl (upd g i.toNatClampNeg x))), N, S) f := q
        refine ⟨q.1, q.2.1, fun p l e R s m args below meth c D aC base b L xs n0 s0 F hx hn hs H locs lsA hw hl' => ?_⟩
        obtain ⟨j, rfl, hj, he⟩ := zwd_arr hw hm (by decide) ha
        exact va_iast hx.1 hx.2.1 hx.2.2.2.2.2.2.2.2.1 hw.1 (zW_D aC base b M N) hw.2.1 j 0 he rfl hin hd (fun H1 locs1 hP1 _ hS1 => q.2.2 p l e R s m args below meth c D aC base b L xs n0 s0 F hx hn hs H1 locs1 lsA (zwd_put hw hj hP1 hS1) hl')
    · cases h
  · cases h
theorem n_bast {md : zM} {pc : Nat} (hd : decode md.2.1 pc = .ok (.bastore, 1)) : zS md pc (pc + 1) i_bast := by
  intro d f ⟨ls, st, M, N, S⟩ r h q
  unfold i_bast at h
  dsimp only at h
  split at h
  · rename_i x i a st
    split at h
    · rename_i n g hm
      obtain ⟨j, hj, rfl⟩ := Option.map_eq_some_iff.mp h
      obtain ⟨hin, rfl⟩ := zix_in hj
      have q : zGo d md (pc + 1) (ls, st, va_up M a (.inl (1, n, .inl (upd g i.toNatClampNeg x.toInt8.toInt32))), N, S) f := q
      refine ⟨q.1, q.2.1, fun p l e R s m args below meth c D aC base b L xs n0 s0 F hx hn hs H locs lsA hw hl' => ?_⟩
      obtain ⟨j, rfl, hj, he⟩ := zwd_arr hw hm (by decide) (fun h => by subst h; have hm := hw.2.2.1.symm.trans hm; injection hm with hm; injection hm with hm; cases hm)
      exact va_bast hx.1 hx.2.1 hx.2.2.2.2.2.2.2.2.1 hw.1 (zW_D aC base b M N) hw.2.1 j 1 he rfl hin hd (fun H1 locs1 hP1 _ hS1 => q.2.2 p l e R s m args below meth c D aC base b L xs n0 s0 F hx hn hs H1 locs1 lsA (zwd_put hw hj (by rw [vp_nar_byte] at hP1; exact hP1) hS1) hl')
    · rename_i n g hm
      obtain ⟨j, hj, rfl⟩ := Option.map_eq_some_iff.mp h
      obtain ⟨hin, rfl⟩ := zix_in hj
      have q : zGo d md (pc + 1) (ls, st, va_up M a (.inl (2, n, .inl (upd g i.toNatClampNeg (x &&& 1)))), N, S) f := q
      refine ⟨q.1, q.2.1, fun p l e R s m args below meth c D aC base b L xs n0 s0 F hx hn hs H locs lsA hw hl' => ?_⟩
      obtain ⟨j, rfl, hj, he⟩ := zwd_arr hw hm (by decide) (fun h => by subst h; have hm := hw.2.2.1.symm.trans hm; injection hm with hm; injection hm with hm; cases hm)
      exact va_zast hx.1 hx.2.1 hx.2.2.2.2.2.2.2.2.1 hw.1 (zW_D aC base b M N) hw.2.1 j 2 he rfl hin hd (fun H1 locs1 hP1 _ hS1 => q.2.2 p l e R s m args below meth c D aC base b L xs n0 s0 F hx hn hs H1 locs1 lsA (zwd_put hw hj hP1 hS1) hl')
    · cases h
  · cases h
theorem n_aast {md : zM} {pc : Nat} (hd : decode md.2.1 pc = .ok (.aastore, 1)) : zS md pc (pc + 1) i_aast := by
  intro d f ⟨ls, st, M, N, S⟩ r h q
  unfold i_aast at h
  dsimp only at h
  split at h
  · rename_i v i a st
    split at h
    · rename_i t n g ci fs hm hmv
      split at h
      · rename_i hz
        obtain ⟨j, hj, rfl⟩ := Option.map_eq_some_iff.mp h
        obtain ⟨hin, rfl⟩ := zix_in hj
        have q : zGo d md (pc + 1) (ls, st, va_up M a (.inl (t, n, .inr (va_up g i.toNatClampNeg (some v)))), N, S) f := q
        refine ⟨q.1, q.2.1, fun p l e R s m args below meth c D aC base b L xs n0 s0 F hx hn hs H locs lsA hw hl' => ?_⟩
        obtain ⟨j, rfl, hj, he⟩ := zwd_arr hw hm (by intro h9; subst h9; simp [zarr] at hz) (fun h => by subst h; have hm := hw.2.2.1.symm.trans hm; injection hm with hm; injection hm with _ hm; injection hm with _ hm; cases hm)
        obtain ⟨jv, rfl, hjv, hev⟩ := zwd_obj hw hmv
        have hE : zE aC base b (.inl (t, n, .inr (va_up g i.toNatClampNeg (some (jv + 1))))) = .inl (aC t, n, .inr (.inr (.inr (.inr (va_up (fun j => (g j).map (zAd base b)) i.toNatClampNeg (some (base + jv))))))) := by
          simp only [zE, zA]
          congr 7
          funext y
          unfold va_up
          split <;> rfl
        have hgo : ∀ (H1 : Heap) (locs1 : List Loc), va_P D zCl ((zW aC base b M N).set j (base + j, .inl (aC t, n, .inr (.inr (.inr (.inr (va_up (fun j => (g j).map (zAd base b)) i.toNatClampNeg (some (base + jv))))))))) H1 → va_D (fun q => base ≤ q) ((zW aC base b M N).set j (base + j, .inl (aC t, n, .inr (.inr (.inr (.inr (va_up (fun j => (g j).map (zAd base b)) i.toNatClampNeg (some (base + jv))))))))) → va_S (fun q => base ≤ q) s.heap H1 locs1 → W p l e R s m args below meth c H1 locs1 (N - n0) (S - s0) (MQ below (zQ D aC base b L xs f) args s (f.2.2.1 - n0) (f.2.2.2 - s0) (fun q => base ≤ q)) (F0 m (pc + 1) lsA (st.map (zV base b))) := by
          intro H1 locs1 hP1 _ hS1
          rw [← hE] at hP1
          exact q.2.2 p l e R s m args below meth c D aC base b L xs n0 s0 F hx hn hs H1 locs1 lsA (zwd_put hw hj hP1 hS1) hl'
        have hbd : zBd s := hx.2.2.2.2.2.2.2.2.2.2.2.2.2.2.2.2.2
        simp only [zarr, Bool.or_eq_true, Bool.and_eq_true, beq_iff_eq] at hz
        rcases hz with (⟨rfl, rfl⟩ | ⟨rfl, rfl⟩) | ⟨rfl, ((((rfl | rfl) | rfl) | rfl) | rfl) | rfl⟩
        · exact va_astq hx.1 hx.2.1 hx.2.2.2.2.2.2.2.2.1 hw.1 (zW_D aC base b M N) hw.2.1 j 3 jv 6 (r := ("OneDoor$Now", zT6, 7)) he rfl hev rfl hin hd hgo
        · exact va_astq hx.1 hx.2.1 hx.2.2.2.2.2.2.2.2.1 hw.1 (zW_D aC base b M N) hw.2.1 j 4 jv 5 (r := ("OneDoor$Life", zT5, 3)) he rfl hev rfl hin hd hgo
        · exact va_astqO hx.1 hx.2.1 hx.2.2.2.2.2.2.2.2.1 hw.1 (zW_D aC base b M N) hw.2.1 j 5 jv 0 (r := ("OneDoor$Attic", zT3, 3)) he rfl hbd.2.2.2.2.2.2.2.2.2.2 hev rfl hin hd hgo
        · exact va_astqO hx.1 hx.2.1 hx.2.2.2.2.2.2.2.2.1 hw.1 (zW_D aC base b M N) hw.2.1 j 5 jv 1 (r := ("OneDoor$Bath", zT3, 3)) he rfl hbd.2.2.2.2.2.2.2.1 hev rfl hin hd hgo
        · exact va_astqO hx.1 hx.2.1 hx.2.2.2.2.2.2.2.2.1 hw.1 (zW_D aC base b M N) hw.2.1 j 5 jv 2 (r := ("OneDoor$Curtain", zT3, 3)) he rfl hbd.2.2.2.2.2.2.2.2.2.1 hev rfl hin hd hgo
        · exact va_astq hx.1 hx.2.1 hx.2.2.2.2.2.2.2.2.1 hw.1 (zW_D aC base b M N) hw.2.1 j 5 jv 3 (r := ("OneDoor$Hall", zT3, 3)) he rfl hev rfl hin hd hgo
        · exact va_astqO hx.1 hx.2.1 hx.2.2.2.2.2.2.2.2.1 hw.1 (zW_D aC base b M N) hw.2.1 j 5 jv 4 (r := ("OneDoor$Kitchen", zT3, 3)) he rfl hbd.2.2.2.2.2.2.1 hev rfl hin hd hgo
        · exact va_astqO hx.1 hx.2.1 hx.2.2.2.2.2.2.2.2.1 hw.1 (zW_D aC base b M N) hw.2.1 j 5 jv 7 (r := ("OneDoor$Piano", zT3, 3)) he rfl hbd.2.2.2.2.2.2.2.2.1 hev rfl hin hd hgo
      · cases h
    · cases h
  · cases h
theorem znew_q {base b N q : Nat} {aC : Nat → ClassId} {M : zHp} {D : va_G} {e : va_E} {H1 : Heap} (hP : va_P D zCl (zW aC base b M N ++ [(q, e)]) H1) (hD : va_D (fun q => base ≤ q) (zW aC base b M N ++ [(q, e)])) (hsz : H1.size ≤ base + N + 1) : q = base + N := by
  have hg : (zW aC base b M N ++ [(q, e)])[N]? = some (q, e) := by
    rw [List.getElem?_append_right (by rw [zW_len]; omega), zW_len]
    simp
  have h1 : base ≤ q := hD.2 N (q, e) hg
  have h2 : q < H1.size := (hP N (q, e) hg).lt
  rcases Nat.lt_or_ge q (base + N) with h | h
  · exfalso
    have hk : (zW aC base b M N ++ [(q, e)])[q - base]? = some (base + (q - base), zE aC base b (M (q - base + 1))) := by
      rw [List.getElem?_append_left (by rw [zW_len]; omega)]
      exact zW_get (by omega)
    have := hD.1 (q - base) N _ _ hk hg (by show base + (q - base) = q; omega)
    omega
  · omega
theorem zwd_new {D : va_G} {aC : Nat → ClassId} {base b L : Nat} {xs : Nat → Int32} {M : zHp} {N : Nat} {s : State} {H H1 : Heap} {locs : List Loc} {c : zAC} (hw : zWd D aC base b L xs M N s H locs) (hP : va_P D zCl (zW aC base b M N ++ [(base + N, zE aC base b c)]) H1) (hS : va_S (fun q => base ≤ q) s.heap H1 locs) : zWd D aC base b L xs (va_up M (N + 1) c) (N + 1) s H1 locs := by
  rw [zW_push c] at hP
  refine ⟨hP, hS, ?_, fun k hk => ?_⟩
  · unfold va_up
    rw [if_neg (by omega)]
    exact hw.2.2.1
  · unfold va_up
    rw [if_neg (by omega)]
    exact hw.2.2.2 k (by omega)
theorem zdef_map (base b : Nat) : ∀ (fs : List Value), fs.all (fun v => decide (v = .null ∨ v = .int 0 ∨ v = .long 0)) = true → fs.map (zV base b) = fs
  | [], _ => rfl
  | v :: fs, h => by
    rw [List.all_cons, Bool.and_eq_true] at h
    rw [List.map_cons, zdef_map base b fs h.2]
    have h1 : v = .null ∨ v = .int 0 ∨ v = .long 0 := by simpa using h.1
    rcases h1 with rfl | rfl | rfl <;> rfl
theorem n_new {md : zM} {pc idx ci n : Nat} {C : String} {T : u_T} {fs : List Value} (hC : zCl[ci]? = some (C, T, n)) (hl : Cond.classLink md.1.cls idx C ∈ zgt) (hn : fs.length = n) (hdf : fs.all (fun v => decide (v = .null ∨ v = .int 0 ∨ v = .long 0)) = true) (ty : Nat → FieldType) (hty : ∀ k, k < n → parseFieldDescriptor (T k).2.2.1 = some (ty k)) (hfs : ∀ j, j < n → defaultValue (ty j) = vp_V fs j) (hd : decode md.2.1 pc = .ok (.new idx, 3)) : zS md pc (pc + 3) (i_new ci fs) := by
  intro d f ⟨ls, st, M, N, S⟩ r h q
  cases h
  have q : zGo d md (pc + 3) (ls, .ref (N + 1) :: st, va_up M (N + 1) (.inr (ci, fs)), N + 1, S + fs.length) f := q
  have q1 : N + 1 ≤ f.2.2.1 := q.1
  have q2 : S + fs.length ≤ f.2.2.2 := q.2.1
  refine ⟨by show N ≤ _; omega, by show S ≤ _; omega, fun p l e R s m args below meth c D aC base b L xs n0 s0 F hx hn0 hs0 H locs lsA hw hl' => ?_⟩
  have hn0 : n0 ≤ N := hn0
  have hs0 : s0 ≤ S := hs0
  have hw : zWd D aC base b L xs M N s H locs := hw
  have hsz := hx.2.2.2.2.2.2.2.2.2.2.2.1
  have hcl := hx.2.2.2.2.2.2.2.2.2.2.2.2.1
  have hsl := hx.2.2.2.2.2.2.2.2.2.2.2.2.2.1
  obtain ⟨hcin, -, -, hinst, hini⟩ := zcls hC
  refine va_new (ci := ci) (fs := fs) (C := C) (T := T) (N := n) hx.1 hx.2.1 hx.2.2.2.2.1 hcin ty hty hx.2.2.2.1 (hx.2.2.2.2.1 _ hl) (hx.2.2.2.2.1 _ hinst) (hx.2.2.2.2.1 _ hini) hx.2.2.2.2.2.2.2.2.1 hw.1 (zW_D aC base b M N) hw.2.1 (fun q hq => by have hq : s.heap.size ≤ q := hq; show base ≤ q; omega) hC hfs (by show N - n0 + 1 ≤ _; omega) (by show S - s0 + n ≤ _; omega) hd ?_
  intro q0 H1 hP1 hD1 hS1 T1 hT1 X1
  have hh := X1.heapSize
  have hh : T1.heap.size ≤ s.heap.size + (N - n0 + 1) := hh
  rw [hT1] at hh
  obtain rfl := znew_q hP1 hD1 (by omega)
  have e1 : N + 1 - n0 = N - n0 + 1 := by omega
  have e2 : S + fs.length - s0 = S - s0 + n := by omega
  have hE : zE aC base b (.inr (ci, fs)) = .inr (ci, fs) := by simp only [zE]; rw [zdef_map base b fs hdf]
  have K := q.2.2 p l e R s m args below meth c D aC base b L xs n0 s0 F hx (by show n0 ≤ N + 1; omega) (by show s0 ≤ S + fs.length; omega) H1 locs lsA (zwd_new hw (by rw [hE]; exact hP1) hS1) hl'
  have K : W p l e R s m args below meth c H1 locs (N + 1 - n0) (S + fs.length - s0) (MQ below (zQ D aC base b L xs f) args s (f.2.2.1 - n0) (f.2.2.2 - s0) (fun q => base ≤ q)) (F0 m (pc + 3) lsA (.ref (base + N) :: st.map (zV base b))) := K
  rw [e1, e2] at K
  exact K T1 hT1 X1
theorem zRA_uniq {s : State} {c1 c2 : ClassId} {ty : FieldType} (h1 : va_RA s c1 ty) (h2 : va_RA s c2 ty) : c1 = c2 := by
  cases ty with
  | object C =>
    obtain ⟨_, _, _, _, _, a⟩ := h1
    obtain ⟨_, _, _, _, _, b⟩ := h2
    exact Option.some.inj (a.symm.trans b)
  | _ =>
    have a : s.vm.findClass _ = some c1 := h1
    have b : s.vm.findClass _ = some c2 := h2
    exact Option.some.inj (a.symm.trans b)
theorem n_newa {md : zM} {pc t : Nat} {aty : ArrayType} {ty : FieldType} (hty : newarray.typeOf aty = ty) (hw0 : Cond.arrayClass ty ∈ zgt) (ht : ∀ aC : Nat → ClassId, (zTys aC)[t]? = some (aC t, ty)) (hdf : defaultValue ty = .int 0) (hby : componentBytes ty ≤ 4) (hd : decode md.2.1 pc = .ok (.newarray aty, 2)) : zS md pc (pc + 2) (i_newa t) := by
  intro d f ⟨ls, st, M, N, S⟩ r h q
  unfold i_newa at h
  dsimp only at h
  split at h
  · rename_i n st
    split at h
    · rename_i hnn
      obtain ⟨hnn, hbig⟩ := hnn
      cases h
      have q : zGo d md (pc + 2) (ls, .ref (N + 1) :: st, va_up M (N + 1) (.inl (t, n.toNatClampNeg, .inl fun _ => 0)), N + 1, S + n.toNatClampNeg) f := q
      have q1 : N + 1 ≤ f.2.2.1 := q.1
      have q2 : S + n.toNatClampNeg ≤ f.2.2.2 := q.2.1
      refine ⟨by show N ≤ _; omega, by show S ≤ _; omega, fun p l e R s m args below meth c D aC base b L xs n0 s0 F hx hn0 hs0 H locs lsA hw hl' => ?_⟩
      have hn0 : n0 ≤ N := hn0
      have hs0 : s0 ≤ S := hs0
      have hw : zWd D aC base b L xs M N s H locs := hw
      have hsz := hx.2.2.2.2.2.2.2.2.2.2.2.1
      have hcl := hx.2.2.2.2.2.2.2.2.2.2.2.2.1
      have hsl := hx.2.2.2.2.2.2.2.2.2.2.2.2.2.1
      refine va_newa (atype := aty) hx.1 hx.2.1 (by rw [hty]; exact hx.2.2.2.2.1 _ hw0) hty hx.2.2.2.2.2.2.2.2.1 hw.1 (zW_D aC base b M N) hw.2.1 (fun q hq => by have hq : s.heap.size ≤ q := hq; show base ≤ q; omega) (a0 := (n.toNatClampNeg, .inl fun _ => 0)) (fun cA => by rw [hdf]; rfl) hnn rfl (by have := Nat.mul_le_mul hbig hby; omega) (by show N - n0 + 1 ≤ _; omega) (by show S - s0 + n.toNatClampNeg ≤ _; omega) hd ?_
      intro q0 cA H1 hK1 hP1 hD1 hS1 T1 hT1 X1
      have hcA : cA = aC t := by
        have h1 := (hK1.2 (zTys aC).length (cA, ty) (by simp)).2
        have h2 := (hx.2.2.2.2.2.2.2.2.1.2 t (aC t, ty) (ht aC)).2
        exact zRA_uniq h1 h2
      subst hcA
      have hh := X1.heapSize
      have hh : T1.heap.size ≤ s.heap.size + (N - n0 + 1) := hh
      rw [hT1] at hh
      obtain rfl := znew_q hP1 hD1 (by omega)
      have e1 : N + 1 - n0 = N - n0 + 1 := by omega
      have e2 : S + n.toNatClampNeg - s0 = S - s0 + n.toNatClampNeg := by omega
      have K := q.2.2 p l e R s m args below meth c D aC base b L xs n0 s0 F hx (by show n0 ≤ N + 1; omega) (by show s0 ≤ S + _; omega) H1 locs lsA (zwd_new hw hP1 hS1) hl'
      have K : W p l e R s m args below meth c H1 locs (N + 1 - n0) (S + n.toNatClampNeg - s0) (MQ below (zQ D aC base b L xs f) args s (f.2.2.1 - n0) (f.2.2.2 - s0) (fun q => base ≤ q)) (F0 m (pc + 2) lsA (.ref (base + N) :: st.map (zV base b))) := K
      rw [e1, e2] at K
      exact K T1 hT1 X1
    · cases h
  · cases h
theorem n_anew {md : zM} {pc t idx : Nat} {C : String} (hl : Cond.classLink md.1.cls idx C ∈ zgt) (hw0 : ∀ U, zBd U → va_AO C U) (ht : ∀ aC : Nat → ClassId, (zTys aC)[t]? = some (aC t, .object C)) (hd : decode md.2.1 pc = .ok (.anewarray idx, 3)) : zS md pc (pc + 3) (i_anew t) := by
  intro d f ⟨ls, st, M, N, S⟩ r h q
  unfold i_anew at h
  dsimp only at h
  split at h
  · rename_i n st
    split at h
    · rename_i hnn
      obtain ⟨hnn, hbig⟩ := hnn
      cases h
      have q : zGo d md (pc + 3) (ls, .ref (N + 1) :: st, va_up M (N + 1) (.inl (t, n.toNatClampNeg, .inr fun _ => none)), N + 1, S + n.toNatClampNeg) f := q
      have q1 : N + 1 ≤ f.2.2.1 := q.1
      have q2 : S + n.toNatClampNeg ≤ f.2.2.2 := q.2.1
      refine ⟨by show N ≤ _; omega, by show S ≤ _; omega, fun p l e R s m args below meth c D aC base b L xs n0 s0 F hx hn0 hs0 H locs lsA hw hl' => ?_⟩
      have hn0 : n0 ≤ N := hn0
      have hs0 : s0 ≤ S := hs0
      have hw : zWd D aC base b L xs M N s H locs := hw
      have hsz := hx.2.2.2.2.2.2.2.2.2.2.2.1
      have hcl := hx.2.2.2.2.2.2.2.2.2.2.2.2.1
      have hsl := hx.2.2.2.2.2.2.2.2.2.2.2.2.2.1
      refine va_newq hx.1 hx.2.1 hx.2.2.2.1 (hx.2.2.2.2.1 _ hl) (hw0 s hx.2.2.2.2.2.2.2.2.2.2.2.2.2.2.2.2.2) hx.2.2.2.2.2.2.2.2.1 hw.1 (zW_D aC base b M N) hw.2.1 (fun q hq => by have hq : s.heap.size ≤ q := hq; show base ≤ q; omega) hnn rfl (by omega) (by show N - n0 + 1 ≤ _; omega) (by show S - s0 + n.toNatClampNeg ≤ _; omega) hd ?_
      intro q0 cA H1 hK1 hP1 hD1 hS1 T1 hT1 X1
      have hcA : cA = aC t := by
        have h1 := (hK1.2 (zTys aC).length (cA, .object C) (by simp)).2
        have h2 := (hx.2.2.2.2.2.2.2.2.1.2 t (aC t, .object C) (ht aC)).2
        exact zRA_uniq h1 h2
      subst hcA
      have hh := X1.heapSize
      have hh : T1.heap.size ≤ s.heap.size + (N - n0 + 1) := hh
      rw [hT1] at hh
      obtain rfl := znew_q hP1 hD1 (by omega)
      have e1 : N + 1 - n0 = N - n0 + 1 := by omega
      have e2 : S + n.toNatClampNeg - s0 = S - s0 + n.toNatClampNeg := by omega
      have K := q.2.2 p l e R s m args below meth c D aC base b L xs n0 s0 F hx (by show n0 ≤ N + 1; omega) (by show s0 ≤ S + _; omega) H1 locs lsA (zwd_new hw hP1 hS1) hl'
      have K : W p l e R s m args below meth c H1 locs (N + 1 - n0) (S + n.toNatClampNeg - s0) (MQ below (zQ D aC base b L xs f) args s (f.2.2.1 - n0) (f.2.2.2 - s0) (fun q => base ≤ q)) (F0 m (pc + 3) lsA (.ref (base + N) :: st.map (zV base b))) := K
      rw [e1, e2] at K
      exact K T1 hT1 X1
    · cases h
  · cases h
theorem zsm_cat (base b : Nat) {st : List Value} (h : zsm st = true) : ((st.map (zV base b)).map fun v => v.category).sum ≤ 8 := by
  have hc : ∀ v : Value, (zV base b v).category ≤ 2 := fun v => by rcases lv_cat (zV base b v) with h | h <;> omega
  match st, h with
  | [], _ => simp
  | [a], _ => have := hc a; simp; omega
  | [a, b'], _ => have := hc a; have := hc b'; simp; omega
  | [a, b', c'], _ => have := hc a; have := hc b'; have := hc c'; simp; omega
  | [a, b', c', d'], _ => have := hc a; have := hc b'; have := hc c'; have := hc d'; simp; omega
theorem n_acopy {md : zM} {pc idx : Nat} (hl : Cond.methodLink md.1.cls idx arraycopyName ∈ zgt) (h1 : Cond.native arraycopyName ∈ zgt) (h2 : Cond.static arraycopyName ∈ zgt) (h3 : Cond.initialized "java/lang/System" ∈ zgt) (hd : decode md.2.1 pc = .ok (.invokestatic idx, 3)) : zS md pc (pc + 3) i_acopy := by
  intro d f ⟨ls, st, M, N, S⟩ r h q
  unfold i_acopy at h
  dsimp only at h
  split at h
  · rename_i n dp a sp a0 st
    split at h
    · rename_i k0 g0 k1 g1 hm0 hm1
      split at h
      · cases h
      · rename_i hno
        simp only [not_or, Nat.not_lt, Bool.not_eq_false] at hno
        obtain ⟨ha, ha0, c1, c2, c3, c4, c5, c6⟩ := hno
        cases h
        have q : zGo d md (pc + 3) (ls, st, va_up M a (.inl (0, k1, .inl (va_cpy g0 g1 sp.toNatClampNeg dp.toNatClampNeg n.toNatClampNeg))), N, S) f := q
        refine ⟨q.1, q.2.1, fun p l e R s m args below meth c D aC base b L xs n0 s0 F hx hn hs H locs lsA hw hl' => ?_⟩
        obtain ⟨j0, rfl, hj0, he0⟩ := zwd_arr hw hm0 (by decide) ha0
        obtain ⟨j1, rfl, hj1, he1⟩ := zwd_arr hw hm1 (by decide) ha
        have hFR := hx.2.2.2.2.2.2.2.2.2.2.2.2.2.2
        have hcat := zsm_cat base b c6
        exact va_copyi hx.1 hx.2.1 (by rw [hx.2.2.1, hl'.2.1]) hx.2.2.2.1 (hx.2.2.2.2.1 _ hl) (hx.2.2.2.2.1 _ h1) (hx.2.2.2.2.1 _ h2) (hx.2.2.2.2.1 _ h3) hx.2.2.2.2.2.2.2.2.1 hw.1 (zW_D aC base b M N) hw.2.1 j0 j1 0 0 he0 he1 rfl rfl rfl c2 c3 c1 c4 c5 (fun i _ => rfl) (by omega) (by rw [show nativeFrameWords "java/lang/System" "arraycopy" 5 = 7 by decide]; omega) hd
          (fun H1 locs1 hP1 _ hS1 => q.2.2 p l e R s m args below meth c D aC base b L xs n0 s0 F hx hn hs H1 locs1 lsA (zwd_put hw hj1 hP1 hS1) hl')
    · cases h
  · cases h
end
section
/-! calls -/
theorem zgood {md : zM} (h : Cond.code md.1 md.2.1 md.2.2.1 md.2.2.2 ∈ zgt) : GoodIn zgt (zwd md) := by
  intro w hw
  have hm : w ∈ zgt := by
    rcases List.mem_cons.mp hw with e | e
    · rw [e]; exact h
    · exact e
  exact ⟨hm, good_of_word (List.mem_filter.mp hm).2⟩
theorem zgood_app {ws : List Cond} {md : zM} (h : Cond.code md.1 md.2.1 md.2.2.1 md.2.2.2 ∈ zgt) (h2 : ∀ w ∈ ws, w ∈ zgt) : GoodIn zgt (ws ++ zwd md) := by
  intro w hw
  rcases List.mem_append.mp hw with e | e
  · exact ⟨h2 w e, good_of_word (List.mem_filter.mp (h2 w e)).2⟩
  · exact zgood h w e
/-- what is known of a method of n parameters -/
def zMok (md : zM) (n : Nat) : Prop := plainName md.1.cls = true ∧ Cond.code md.1 md.2.1 md.2.2.1 md.2.2.2 ∈ zgt ∧ Cond.initialized md.1.cls ∈ zgt ∧ (md.1.cls ≠ "java/lang/invoke/MethodHandle" ∧ md.1.cls ≠ "java/lang/invoke/VarHandle" ∧ (parseMethodDescriptor md.1.desc).map (fun d => d.parameters.length) = some n) ∧ md.2.2.1 ≤ 30
theorem zPc_blind {D : va_G} {aC : Nat → ClassId} {base b L : Nat} {xs : Nat → Int32} {as : List Value} {M : zHp} {N : Nat} : FrameBlind (zPc D aC base b L xs as M N) := by
  intro a U g mk h
  obtain ⟨h1, h2, h3, h4, h5, h6, h7, h8, h9⟩ := h
  exact ⟨h1, h2, h3, h4, h5, va_K.moved (u := U) (U := U.calling g mk a) (Vm.Alike.refl U.vm) h6, va_X.moved (u := U) (U := U.calling g mk a) (Vm.Alike.refl U.vm) h7, h8, zBd_same rfl h9⟩
theorem zPc_pre {d : Nat} {md : zM} {f : zF} {p : Program} {R : Room} {s : State} {m : MethodId} {args : Array Value} {meth : Method} {c : Code} {D : va_G} {aC : Nat → ClassId} {base b L : Nat} {xs : Nat → Int32} {n0 s0 F : Nat} {M : zHp} {N : Nat} {H : Heap} {locs : List Loc} (as : List Value)
    (hx : zX d md f p R s m args meth c D aC base b L xs n0 s0 F) (hw : zWd D aC base b L xs M N s H locs) (hsz : H.size = base + N) : ∀ U : State, U.heap = H → s.WarmedH U.vm → zPc D aC base b L xs as M N ((as.map (zV base b)).toArray) U := by
  intro U hU hW
  have hbb := hx.2.2.2.2.2.2.2.2.2.2.1
  refine ⟨rfl, by rw [hU]; exact hsz, by rw [hU]; exact hw.1, hw.2.2.1, hw.2.2.2, va_K.moved hW.alike hx.2.2.2.2.2.2.2.2.1, ?_, hbb, zBd_warm hW hx.2.2.2.2.2.2.2.2.2.2.2.2.2.2.2.2.2⟩
  rw [hU]
  refine va_X.moved hW.alike (va_X.kept hx.2.2.2.2.2.2.2.2.2.1 (hw.2.1.2.1 b ?_ ?_))
  · have := hx.2.2.2.2.2.2.2.2.2.2.2.1
    omega
  · show ¬ base ≤ b
    omega
theorem zcall {d : Nat} {md : zM} {f g : zF} {p : Program} {l : Launch} {e : Env} {R : Room} {s : State} {m : MethodId} {args : Array Value} {below : List Frame} {meth : Method} {c : Code} {D : va_G} {aC : Nat → ClassId} {base b L : Nat} {xs : Nat → Int32} {n0 s0 F pc : Nat} {M : zHp} {N S : Nat} {H : Heap} {locs : List Loc} {ls st : List Value} {lsA : Array Slot} {st0 : List Value} {a : Array Value}
    (hx : zX d md f p R s m args meth c D aC base b L xs n0 s0 F) (hn : n0 ≤ N) (hs : s0 ≤ S) (hw : zWd D aC base b L xs M N s H locs) (hl : zL base b md.2.2.1 ls lsA) (hg1 : N ≤ g.2.2.1) (hg2 : S ≤ g.2.2.2)
    (hr : va_Run p l e R s m args below meth c H locs (N - n0) (S - s0) (g.2.2.1 - N) (g.2.2.2 - S) (F0 m pc lsA st0) (st.map (zV base b)) (zQ D aC base b L xs g a) (fun q => base ≤ q))
    (q : zGo d md (pc + 3) (ls, g.1.toList ++ st, g.2) f) : W p l e R s m args below meth c H locs (N - n0) (S - s0) (MQ below (zQ D aC base b L xs f) args s (f.2.2.1 - n0) (f.2.2.2 - s0) (fun q => base ≤ q)) (F0 m pc lsA st0) := by
  intro T hT X
  obtain ⟨v, st₀, t, T', L2, h0, X', hL, e1, e2, ⟨hv, hP, hM0, hvd, hz, hk⟩, st2⟩ := hr T hT X
  have hv : v = g.1.map (zV base b) := Outcome.returned.inj hv
  subst hv
  rw [h0] at hz hk
  have hs1 : base ≤ s.heap.size := by have := hx.2.2.2.2.2.2.2.2.2.2.2.1; omega
  have hw' : zWd D aC base b L xs g.2.1 g.2.2.1 s T'.heap (locs ++ L2) := by
    refine ⟨by rw [e1]; exact hP, ⟨Nat.le_trans hw.2.1.1 (by rw [e1]; exact hz), fun x h1 h2 => ?_, fun x hx => ?_⟩, hM0, hvd⟩
    · rw [e1, hk x (Nat.lt_of_lt_of_le h1 hw.2.1.1) h2]
      exact hw.2.1.2.1 x h1 h2
    · rcases List.mem_append.mp hx with h | h
      · exact hw.2.1.2.2 x h
      · exact hL x h
  have K := q.2.2 p l e R s m args below meth c D aC base b L xs n0 s0 F hx (by show n0 ≤ g.2.2.1; omega) (by show s0 ≤ g.2.2.2; omega) T'.heap (locs ++ L2) lsA hw' hl
  have K : W p l e R s m args below meth c T'.heap (locs ++ L2) (g.2.2.1 - n0) (g.2.2.2 - s0) (MQ below (zQ D aC base b L xs f) args s (f.2.2.1 - n0) (f.2.2.2 - s0) (fun q => base ≤ q)) (F0 m (pc + 3) lsA ((g.1.toList ++ st).map (zV base b))) := K
  rw [show g.2.2.1 - n0 = N - n0 + (g.2.2.1 - N) by omega, show g.2.2.2 - s0 = S - s0 + (g.2.2.2 - S) by omega, show (g.1.toList ++ st).map (zV base b) = (g.1.map (zV base b)).toList ++ st.map (zV base b) by cases g.1 <;> simp] at K
  obtain ⟨t2, a1, b1⟩ := K T' rfl X'
  exact ⟨t2, st2 t2 a1, b1⟩
def zpop : Nat → List Value → Option (List Value × List Value)
  | 0, st => some ([], st)
  | _ + 1, [] => none
  | n + 1, v :: st => (zpop n st).map fun q => (q.1 ++ [v], q.2)
theorem zpop_spec : ∀ {n : Nat} {st : List Value} {q : List Value × List Value}, zpop n st = some q → st = q.1.reverse ++ q.2 ∧ q.1.length = n
  | 0, st, q, h => by cases h; exact ⟨rfl, rfl⟩
  | n + 1, [], q, h => by cases h
  | n + 1, v :: st, q, h => by
    unfold zpop at h
    obtain ⟨q', h1, rfl⟩ := Option.map_eq_some_iff.mp h
    obtain ⟨e1, e2⟩ := zpop_spec h1
    exact ⟨by simp [e1], by simp [e2]⟩
/-- a static method of n parameters -/
def i_callS (y : zM) (n : Nat) : zI := fun c => match zpop n c.2.1 with
  | some (as, st) => if zsm st = true then some (.inr (.inr (.inr (y, as, (c.1, st, c.2.2))))) else none
  | none => none
/-- a method of an object, of n parameters beside it: which one, its class says -/
def i_callV (tab : Nat → Option zM) (n : Nat) : zI := fun c => match zpop (n + 1) c.2.1 with
  | some (.ref a :: as, st) => match c.2.2.1 a with
    | .inr (ci, _) => match tab ci with
      | some y => if zsm st = true then some (.inr (.inr (.inr (y, .ref a :: as, (c.1, st, c.2.2))))) else none
      | none => none
    | _ => none
  | _ => none
/-- a constructor -/
def i_callI (y : zM) (n : Nat) : zI := fun c => match zpop (n + 1) c.2.1 with
  | some (.ref a :: as, st) => if zsm st = true then some (.inr (.inr (.inr (y, .ref a :: as, (c.1, st, c.2.2))))) else none
  | _ => none
/-- Object's constructor -/
def i_obj : zI := fun c => match c.2.1 with
  | .ref _ :: st => if zsm st = true then some (.inl (c.1, st, c.2.2)) else none
  | _ => none
theorem zroom {d' d F : Nat} {md : zM} {n : Nat} {R : Room} (hm : zMok md n) (h : d = d' + 1) (hF : d < F) (h1 : F ≤ R.frames) (h2 : 60 * F ≤ R.locals) (mc ms : Nat) : d' < F - 1 ∧ (zRoom (F - 1) mc ms).frames + 1 ≤ R.frames ∧ 8 + (md.2.2.1 + 11) + (zRoom (F - 1) mc ms).locals ≤ R.locals := by
  have := hm.2.2.2.2
  refine ⟨by omega, ?_, ?_⟩
  · show F - 1 + 1 ≤ R.frames
    omega
  · show 8 + (md.2.2.1 + 11) + 60 * (F - 1) ≤ R.locals
    omega
theorem n_callS {md y : zM} {pc n idx : Nat} (hm : zMok y n) (hl : Cond.methodLink md.1.cls idx y.1 ∈ zgt) (hst : Cond.static y.1 ∈ zgt) (hd : decode md.2.1 pc = .ok (.invokestatic idx, 3)) : zS md pc (pc + 3) (i_callS y n) := by
  intro d f ⟨ls, st, M, N, S⟩ r h q
  unfold i_callS at h
  dsimp only at h
  split at h
  · rename_i as st' hp
    split at h
    · rename_i hsm
      cases h
      obtain ⟨d', g, hdd, hrun, q⟩ := q
      obtain ⟨e1, e2⟩ := zpop_spec hp
      have e1 : st = as.reverse ++ st' := e1
      have e2 : as.length = n := e2
      have hr1 : N ≤ g.2.2.1 := hrun.1
      have hr2 : S ≤ g.2.2.2 := hrun.2.1
      have q1 : g.2.2.1 ≤ f.2.2.1 := q.1
      have q2 : g.2.2.2 ≤ f.2.2.2 := q.2.1
      refine ⟨by show N ≤ _; omega, by show S ≤ _; omega, fun p l e R s m args below meth c D aC base b L xs n0 s0 F hx hn hs H locs lsA hw hl' => ?_⟩
      have hn : n0 ≤ N := hn
      have hs : s0 ≤ S := hs
      have hw : zWd D aC base b L xs M N s H locs := hw
      have hFR := hx.2.2.2.2.2.2.2.2.2.2.2.2
      refine zsize hx.2.2.2.2.2.2.2.2.2.2.2.1 hn hw (fun hsz => ?_)
      obtain ⟨r1, r2, r3⟩ := zroom hm hdd hFR.2.2.2.2.1 hFR.2.2.1 hFR.2.2.2.1 (g.2.2.1 - N) (g.2.2.2 - S)
      have hM := hrun.2.2 l D aC base b L xs (F - 1) r1
      refine zcall (st := st') (a := (as.map (zV base b)).toArray) hx hn hs hw hl' hr1 hr2 ?_ q
      refine va_runS (As := as.map (zV base b)) (rest := st'.map (zV base b)) (n := n) (Ts := zgt) (cc := md.2.1) (nL := md.2.2.1) (own := md.1.cls) (index := idx) (bytes := y.2.1) (maxL := y.2.2.1) (ret := y.2.2.2) ⟨hx.1, hx.2.1, hx.2.2.1, hx.2.2.2.1, hx.2.2.2.2.1⟩ hM ⟨callB_of n hx.2.2.2.2.1 (zgood hm.2.1) rfl rfl rfl (hx.2.2.2.2.1 _ hm.2.2.1) (hx.2.2.2.2.1 _ hl) hm.2.2.2.1 ⟨r2, r3⟩, hx.2.2.2.2.1 _ hst⟩ ⟨zPc_blind, zPc_pre as hx hw hsz⟩ rfl (by simpa using e2) hl'.2.1 ?_ (lv_room (zsm_cat base b hsm)) hd ⟨?_, ?_⟩
      · show st.map (zV base b) = _
        rw [e1]
        simp
      · show N - n0 + (g.2.2.1 - N) ≤ R.cells
        omega
      · show S - s0 + (g.2.2.2 - S) ≤ R.slots
        omega
    · cases h
  · cases h
theorem n_callI {md y : zM} {pc n idx : Nat} (hm : zMok y n) (hret : y.2.2.2 = none) (hnm : y.1.name = "<init>") (hl : Cond.methodLink md.1.cls idx y.1 ∈ zgt) (hin : Cond.instanceMethod y.1 ∈ zgt) (hd : decode md.2.1 pc = .ok (.invokespecial idx, 3)) : zS md pc (pc + 3) (i_callI y n) := by
  intro d f ⟨ls, st, M, N, S⟩ r h q
  unfold i_callI at h
  dsimp only at h
  split at h
  · rename_i a as st' hp
    split at h
    · rename_i hsm
      cases h
      obtain ⟨d', g, hdd, hrun, q⟩ := q
      obtain ⟨e1, e2⟩ := zpop_spec hp
      have e1 : st = (Value.ref a :: as).reverse ++ st' := e1
      have e2 : (Value.ref a :: as).length = n + 1 := e2
      have hr1 : N ≤ g.2.2.1 := hrun.1
      have hr2 : S ≤ g.2.2.2 := hrun.2.1
      have q1 : g.2.2.1 ≤ f.2.2.1 := q.1
      have q2 : g.2.2.2 ≤ f.2.2.2 := q.2.1
      refine ⟨by show N ≤ _; omega, by show S ≤ _; omega, fun p l e R s m args below meth c D aC base b L xs n0 s0 F hx hn hs H locs lsA hw hl' => ?_⟩
      have hn : n0 ≤ N := hn
      have hs : s0 ≤ S := hs
      have hw : zWd D aC base b L xs M N s H locs := hw
      have hFR := hx.2.2.2.2.2.2.2.2.2.2.2.2
      refine zsize hx.2.2.2.2.2.2.2.2.2.2.2.1 hn hw (fun hsz => ?_)
      obtain ⟨r1, r2, r3⟩ := zroom hm hdd hFR.2.2.2.2.1 hFR.2.2.1 hFR.2.2.2.1 (g.2.2.1 - N) (g.2.2.2 - S)
      have hM := hrun.2.2 l D aC base b L xs (F - 1) r1
      refine zcall (st := st') (a := (Value.ref (zAd base b a) :: as.map (zV base b)).toArray) hx hn hs hw hl' hr1 hr2 ?_ q
      refine va_runI (b := zAd base b a) (As := as.map (zV base b)) (rest := st'.map (zV base b)) (n := n) (Ts := zgt) (cc := md.2.1) (nL := md.2.2.1) (own := md.1.cls) (index := idx) (bytes := y.2.1) (maxL := y.2.2.1) ⟨hx.1, hx.2.1, hx.2.2.1, hx.2.2.2.1, hx.2.2.2.2.1⟩ hM ⟨callB_of n hx.2.2.2.2.1 (zgood hm.2.1) (by unfold zwd; rw [hret]) rfl rfl (hx.2.2.2.2.1 _ hm.2.2.1) (hx.2.2.2.2.1 _ hl) hm.2.2.2.1 ⟨r2, r3⟩, hnm, hx.2.2.2.2.1 _ hin⟩ ⟨zPc_blind, zPc_pre (Value.ref a :: as) hx hw hsz⟩ rfl (by simpa using e2) hl'.2.1 ?_ (lv_room (zsm_cat base b hsm)) hd ⟨?_, ?_⟩
      · show st.map (zV base b) = _
        rw [e1]
        simp [zV]
      · show N - n0 + (g.2.2.1 - N) ≤ R.cells
        omega
      · show S - s0 + (g.2.2.2 - S) ≤ R.slots
        omega
    · cases h
  · cases h
theorem n_callIN {md y : zM} {pc n idx : Nat} {host : String} (hm : zMok y n) (hret : y.2.2.2 = none) (hnm : y.1.name = "<init>") (hl : ∀ U, zBd U → va_Nw (.methodLinkNest md.1.cls idx y.1 host) U) (hin : Cond.instanceMethod y.1 ∈ zgt) (hd : decode md.2.1 pc = .ok (.invokespecial idx, 3)) : zS md pc (pc + 3) (i_callI y n) := by
  intro d f ⟨ls, st, M, N, S⟩ r h q
  unfold i_callI at h
  dsimp only at h
  split at h
  · rename_i a as st' hp
    split at h
    · rename_i hsm
      cases h
      obtain ⟨d', g, hdd, hrun, q⟩ := q
      obtain ⟨e1, e2⟩ := zpop_spec hp
      have e1 : st = (Value.ref a :: as).reverse ++ st' := e1
      have e2 : (Value.ref a :: as).length = n + 1 := e2
      have hr1 : N ≤ g.2.2.1 := hrun.1
      have hr2 : S ≤ g.2.2.2 := hrun.2.1
      have q1 : g.2.2.1 ≤ f.2.2.1 := q.1
      have q2 : g.2.2.2 ≤ f.2.2.2 := q.2.1
      refine ⟨by show N ≤ _; omega, by show S ≤ _; omega, fun p l e R s m args below meth c D aC base b L xs n0 s0 F hx hn hs H locs lsA hw hl' => ?_⟩
      have hn : n0 ≤ N := hn
      have hs : s0 ≤ S := hs
      have hw : zWd D aC base b L xs M N s H locs := hw
      have hFR := hx.2.2.2.2.2.2.2.2.2.2.2.2
      refine zsize hx.2.2.2.2.2.2.2.2.2.2.2.1 hn hw (fun hsz => ?_)
      obtain ⟨r1, r2, r3⟩ := zroom hm hdd hFR.2.2.2.2.1 hFR.2.2.1 hFR.2.2.2.1 (g.2.2.1 - N) (g.2.2.2 - S)
      have hM := hrun.2.2 l D aC base b L xs (F - 1) r1
      refine zcall (st := st') (a := (Value.ref (zAd base b a) :: as.map (zV base b)).toArray) hx hn hs hw hl' hr1 hr2 ?_ q
      refine va_runIN (host := host) (b := zAd base b a) (As := as.map (zV base b)) (rest := st'.map (zV base b)) (n := n) (Ts := zgt) (cc := md.2.1) (nL := md.2.2.1) (own := md.1.cls) (index := idx) (bytes := y.2.1) (maxL := y.2.2.1) ⟨hx.1, hx.2.1, hx.2.2.1, hx.2.2.2.1, hx.2.2.2.2.1⟩ hM ⟨va_cnB n hx.2.2.2.2.1 (zgood hm.2.1) (by unfold zwd; rw [hret]) rfl rfl (hl s hx.2.2.2.2.2.2.2.2.2.2.2.2.2.2.2.2.2) (hx.2.2.2.2.1 _ hm.2.2.1) hm.2.2.2.1 ⟨r2, r3⟩, hnm, hx.2.2.2.2.1 _ hin⟩ ⟨zPc_blind, zPc_pre (Value.ref a :: as) hx hw hsz⟩ rfl (by simpa using e2) hl'.2.1 ?_ (lv_room (zsm_cat base b hsm)) hd ⟨?_, ?_⟩
      · show st.map (zV base b) = _
        rw [e1]
        simp [zV]
      · show N - n0 + (g.2.2.1 - N) ≤ R.cells
        omega
      · show S - s0 + (g.2.2.2 - S) ≤ R.slots
        omega
    · cases h
  · cases h
/-- how a method of an object is found: its own class's one; another's that overrides; by super -/
def zV1 (md : zM) (idx : Nat) (x y : MethodName) (C : String) : Prop :=
  (y = x ∧ y.cls = C ∧ Cond.methodLink md.1.cls idx y ∈ zgt ∧ Cond.instanceMethod y ∈ zgt ∧ Cond.selects C y y ∈ zgt) ∨
  (∃ (owner : String) (b0 : ByteArray) (m0 : Nat) (r0 : Option FieldType), Cond.code ⟨owner, x.name, x.desc⟩ b0 m0 r0 ∈ zgt ∧ (owner ≠ "java/lang/invoke/MethodHandle" ∧ owner ≠ "java/lang/invoke/VarHandle") ∧ y.desc = x.desc ∧ Cond.methodLink md.1.cls idx x ∈ zgt ∧ Cond.sameMethod x.cls owner x.name x.desc ∈ zgt ∧ Cond.instanceMethod ⟨owner, x.name, x.desc⟩ ∈ zgt ∧ Cond.selects C x y ∈ zgt ∧ Cond.instanceMethod y ∈ zgt)
theorem n_callV {md : zM} {x : MethodName} {tab : Nat → Option zM} {pc n idx : Nat} (ht : ∀ ci y, tab ci = some y → zMok y n ∧ ∃ C T k, zCl[ci]? = some (C, T, k) ∧ zV1 md idx x y.1 C) (hd : decode md.2.1 pc = .ok (.invokevirtual idx, 3)) : zS md pc (pc + 3) (i_callV tab n) := by
  intro d f ⟨ls, st, M, N, S⟩ r h q
  unfold i_callV at h
  dsimp only at h
  split at h
  · rename_i a as st' hp
    split at h
    · rename_i ci fs hmo
      split at h
      · rename_i y hty
        split at h
        · rename_i hsm
          cases h
          obtain ⟨hm, C, T, k, hC, hV⟩ := ht ci y hty
          obtain ⟨d', g, hdd, hrun, q⟩ := q
          obtain ⟨e1, e2⟩ := zpop_spec hp
          have e1 : st = (Value.ref a :: as).reverse ++ st' := e1
          have e2 : (Value.ref a :: as).length = n + 1 := e2
          have hr1 : N ≤ g.2.2.1 := hrun.1
          have hr2 : S ≤ g.2.2.2 := hrun.2.1
          have q1 : g.2.2.1 ≤ f.2.2.1 := q.1
          have q2 : g.2.2.2 ≤ f.2.2.2 := q.2.1
          refine ⟨by show N ≤ _; omega, by show S ≤ _; omega, fun p l e R s m args below meth c D aC base b L xs n0 s0 F hx hn hs H locs lsA hw hl' => ?_⟩
          have hn : n0 ≤ N := hn
          have hs : s0 ≤ S := hs
          have hw : zWd D aC base b L xs M N s H locs := hw
          have hFR := hx.2.2.2.2.2.2.2.2.2.2.2.2
          refine zsize hx.2.2.2.2.2.2.2.2.2.2.2.1 hn hw (fun hsz => ?_)
          obtain ⟨r1, r2, r3⟩ := zroom hm hdd hFR.2.2.2.2.1 hFR.2.2.1 hFR.2.2.2.1 (g.2.2.1 - N) (g.2.2.2 - S)
          have hM := hrun.2.2 l D aC base b L xs (F - 1) r1
          have hst : st.map (zV base b) = (as.map (zV base b)).reverse ++ .ref (zAd base b a) :: st'.map (zV base b) := by rw [e1]; simp [zV]
          have hrc : ∃ cellB : Cell, H[zAd base b a]? = some cellB ∧ cellB.vm.isStatics = false ∧ s.vm.findClass C = some cellB.cls := by
            obtain ⟨j, rfl, hj, he⟩ := zwd_obj hw hmo
            exact va_recv hx.2.2.2.2.2.2.2.2.1 hw.1 hC he
          refine zcall (st := st') (a := (Value.ref (zAd base b a) :: as.map (zV base b)).toArray) hx hn hs hw hl' hr1 hr2 ?_ q
          have hts := hx.2.2.2.2.1
          rcases hV with ⟨-, hyC, v1, v2, v3⟩ | ⟨owner, b0, m0, r0, v0, v0b, v0c, v1, v2, v3, v4, v5⟩
          · exact va_runV (C := C) (b := zAd base b a) (As := as.map (zV base b)) (rest := st'.map (zV base b)) (n := n) (Ts := zgt) (cc := md.2.1) (nL := md.2.2.1) (own := md.1.cls) (index := idx) (bytes := y.2.1) (maxL := y.2.2.1) (ret := y.2.2.2) ⟨hx.1, hx.2.1, hx.2.2.1, hx.2.2.2.1, hts⟩ hM ⟨callB_of n hts (zgood hm.2.1) rfl rfl rfl (hts _ hm.2.2.1) (hts _ v1) hm.2.2.2.1 ⟨r2, r3⟩, hts _ v2, hts _ v3⟩ ⟨zPc_blind, hrc, zPc_pre (Value.ref a :: as) hx hw hsz⟩ rfl (by simpa using e2) hl'.2.1 hst (lv_room (zsm_cat base b hsm)) hd ⟨by show N - n0 + (g.2.2.1 - N) ≤ R.cells; omega, by show S - s0 + (g.2.2.2 - S) ≤ R.slots; omega⟩
          · exact va_runU (C := C) (owner := owner) (x := x) (b := zAd base b a) (As := as.map (zV base b)) (rest := st'.map (zV base b)) (n := n) (Ts := zgt) (cc := md.2.1) (nL := md.2.2.1) (own := md.1.cls) (index := idx) (bytes := y.2.1) (maxL := y.2.2.1) (ret := y.2.2.2) ⟨hx.1, hx.2.1, hx.2.2.1, hx.2.2.2.1, hts⟩ hM
              (va_cwO n hts (by
                refine zgood_app hm.2.1 (ws := [.methodLink md.1.cls idx x, .sameMethod x.cls owner x.name x.desc, .instanceMethod ⟨owner, x.name, x.desc⟩, .selects C x y.1, .instanceMethod y.1, .initialized y.1.cls]) ?_
                intro w hw
                simp only [List.mem_cons, List.not_mem_nil, or_false] at hw
                rcases hw with rfl | rfl | rfl | rfl | rfl | rfl
                · exact v1
                · exact v2
                · exact v3
                · exact v4
                · exact v5
                · exact hm.2.2.1) rfl rfl rfl v0 ⟨v0b.1, v0b.2, by rw [← v0c]; exact hm.2.2.2.1.2.2⟩ ⟨r2, r3⟩) ⟨zPc_blind, hrc, zPc_pre (Value.ref a :: as) hx hw hsz⟩ rfl (by simpa using e2) hl'.2.1 hst (lv_room (zsm_cat base b hsm)) hd ⟨by show N - n0 + (g.2.2.1 - N) ≤ R.cells; omega, by show S - s0 + (g.2.2.2 - S) ≤ R.slots; omega⟩
        · cases h
      · cases h
    · cases h
  · cases h
/-- super.m(..) -/
theorem n_callU {md y : zM} {tab : Nat → Option zM} {pc n idx : Nat} (hm : zMok y n) (ht : ∀ ci z, tab ci = some z → z = y ∧ ∃ q, zCl[ci]? = some q) (hnm : y.1.name ≠ "<init>") (v1 : Cond.methodLink md.1.cls idx y.1 ∈ zgt) (v2 : Cond.sameMethod y.1.cls y.1.cls y.1.name y.1.desc ∈ zgt) (v3 : Cond.superclass md.1.cls y.1.cls ∈ zgt) (v4 : Cond.instanceMethod y.1 ∈ zgt) (hd : decode md.2.1 pc = .ok (.invokespecial idx, 3)) : zS md pc (pc + 3) (i_callV tab n) := by
  intro d f ⟨ls, st, M, N, S⟩ r h q
  unfold i_callV at h
  dsimp only at h
  split at h
  · rename_i a as st' hp
    split at h
    · rename_i ci fs hmo
      split at h
      · rename_i z hty
        split at h
        · rename_i hsm
          cases h
          obtain ⟨rfl, ⟨C, T, k⟩, hC⟩ := ht ci z hty
          obtain ⟨d', g, hdd, hrun, q⟩ := q
          obtain ⟨e1, e2⟩ := zpop_spec hp
          have e1 : st = (Value.ref a :: as).reverse ++ st' := e1
          have e2 : (Value.ref a :: as).length = n + 1 := e2
          have hr1 : N ≤ g.2.2.1 := hrun.1
          have hr2 : S ≤ g.2.2.2 := hrun.2.1
          have q1 : g.2.2.1 ≤ f.2.2.1 := q.1
          have q2 : g.2.2.2 ≤ f.2.2.2 := q.2.1
          refine ⟨by show N ≤ _; omega, by show S ≤ _; omega, fun p l e R s m args below meth c D aC base b L xs n0 s0 F hx hn hs H locs lsA hw hl' => ?_⟩
          have hn : n0 ≤ N := hn
          have hs : s0 ≤ S := hs
          have hw : zWd D aC base b L xs M N s H locs := hw
          have hFR := hx.2.2.2.2.2.2.2.2.2.2.2.2
          refine zsize hx.2.2.2.2.2.2.2.2.2.2.2.1 hn hw (fun hsz => ?_)
          obtain ⟨r1, r2, r3⟩ := zroom hm hdd hFR.2.2.2.2.1 hFR.2.2.1 hFR.2.2.2.1 (g.2.2.1 - N) (g.2.2.2 - S)
          have hM := hrun.2.2 l D aC base b L xs (F - 1) r1
          have hst : st.map (zV base b) = (as.map (zV base b)).reverse ++ .ref (zAd base b a) :: st'.map (zV base b) := by rw [e1]; simp [zV]
          have hrc : ∃ cellB : Cell, H[zAd base b a]? = some cellB ∧ cellB.vm.isStatics = false ∧ s.vm.findClass C = some cellB.cls := by
            obtain ⟨j, rfl, hj, he⟩ := zwd_obj hw hmo
            exact va_recv hx.2.2.2.2.2.2.2.2.1 hw.1 hC he
          refine zcall (st := st') (a := (Value.ref (zAd base b a) :: as.map (zV base b)).toArray) hx hn hs hw hl' hr1 hr2 ?_ q
          have hts := hx.2.2.2.2.1
          have hat : ClassAt s C (D.1 ci) := (hx.2.2.2.2.2.2.2.2.1.1 ci _ hC).2
          exact va_runSU hat (b := zAd base b a) (As := as.map (zV base b)) (rest := st'.map (zV base b)) (n := n) (Ts := zgt) (cc := md.2.1) (nL := md.2.2.1) (own := md.1.cls) (index := idx) (bytes := z.2.1) (maxL := z.2.2.1) (ret := z.2.2.2) ⟨hx.1, hx.2.1, hx.2.2.1, hx.2.2.2.1, hts⟩ hM
              (va_cwSU n hts (by
                refine zgood_app hm.2.1 (ws := [.methodLink md.1.cls idx z.1, .sameMethod z.1.cls z.1.cls z.1.name z.1.desc, .superclass md.1.cls z.1.cls, .instanceMethod z.1, .initialized z.1.cls]) ?_
                intro w hw
                simp only [List.mem_cons, List.not_mem_nil, or_false] at hw
                rcases hw with rfl | rfl | rfl | rfl | rfl
                · exact v1
                · exact v2
                · exact v3
                · exact v4
                · exact hm.2.2.1) rfl rfl rfl ⟨hnm, hm.2.2.2.1.2.2⟩ ⟨r2, r3⟩) ⟨zPc_blind, hrc, zPc_pre (Value.ref a :: as) hx hw hsz⟩ rfl (by simpa using e2) hl'.2.1 hst (lv_room (zsm_cat base b hsm)) hd ⟨by show N - n0 + (g.2.2.1 - N) ≤ R.cells; omega, by show S - s0 + (g.2.2.2 - S) ≤ R.slots; omega⟩
        · cases h
      · cases h
    · cases h
  · cases h
theorem n_obj {md : zM} {pc idx : Nat} (hl : Cond.methodLink md.1.cls idx Lib.objectInit ∈ zgt) (hin : Cond.instanceMethod Lib.objectInit ∈ zgt) (hc : Cond.code Lib.objectInit ⟨#[0xb1]⟩ 1 none ∈ zgt) (hd : decode md.2.1 pc = .ok (.invokespecial idx, 3)) : zS md pc (pc + 3) i_obj := by
  intro d f ⟨ls, st, M, N, S⟩ r h q
  unfold i_obj at h
  dsimp only at h
  split at h
  · rename_i a st
    split at h
    · rename_i hsm
      cases h
      refine ⟨q.1, q.2.1, fun p l e R s m args below meth c D aC base b L xs n0 s0 F hx hn hs H locs lsA hw hl' => ?_⟩
      have hFR := hx.2.2.2.2.2.2.2.2.2.2.2.2
      have hcat := lv_room (m := m) (pc := pc) (ls := lsA) (rest := .ref (zAd base b a) :: st.map (zV base b)) (zsm_cat base b hsm)
      exact W.objInit hx.1 hx.2.1 hx.2.2.2.1 (hx.2.2.2.2.1 _ hl) (hx.2.2.2.2.1 _ hin) (hx.2.2.2.2.1 _ hc) rfl (by rw [hx.2.2.1]; exact hl'.2.1) rfl hd (by omega) (by have hcat : 2 * (F0 m pc lsA (List.map (zV base b) (ls, Value.ref a :: st, M, N, S).2.1)).monitorRoom + ((st.map (zV base b)).map fun v => v.category).sum ≤ 8 := hcat; omega) (q.2.2 p l e R s m args below meth c D aC base b L xs n0 s0 F hx hn hs H locs lsA hw hl')
    · cases h
  · cases h
/-- a method's entry -/
theorem zenter {d : Nat} {md : zM} {as : List Value} {M : zHp} {N S n k : Nat} {f : zF} (hm : zMok md k) (hn : as.length + n = md.2.2.1) (has : as.all z1 = true) (h : zGo d md 0 (as ++ List.replicate n (.retAddr 0), [], M, N, S) f) : zRuns d md as M N S f := by
  refine ⟨h.1, h.2.1, fun l D aC base b L xs F hF => ?_⟩
  refine Met.ofW (cc := md.2.1) (maxL := md.2.2.1) (ret := md.2.2.2) hm.1 rfl ?_
  intro p e s m args below meth c s₁ B hml hv
  obtain ⟨rfl, hsz, hP, hM0, hvd, hK, hX, hb, hbd⟩ := hv
  have hts := atoms_spec (ws := zwd md) B.pre
  have h1 : ∀ v ∈ as.map (zV base b), v.category = 1 := by
    intro v hv
    obtain ⟨w, hw, rfl⟩ := List.mem_map.mp hv
    exact z1_cat (List.all_eq_true.mp has w hw)
  have hsl : ∀ vs : List Value, (∀ v ∈ vs, v.category = 1) → lg_sl vs = vs.map Slot.val := by
    intro vs hvs
    induction vs with
    | nil => rfl
    | cons v vs ih =>
      have hv1 := hvs v List.mem_cons_self
      have := ih (fun w hw => hvs w (List.mem_cons_of_mem _ hw))
      unfold lg_sl at this ⊢
      rw [List.flatMap_cons, this, if_neg (by omega)]
      rfl
  have hle : (lg_sl (as.map (zV base b))).length ≤ md.2.2.1 := by rw [hsl _ h1]; simp; omega
  have hl := lv_entry (as.map (zV base b)) hle
  rw [lg_entry_eq]
  refine h.2.2 p l e _ s m _ below meth c D aC base b L xs N S F ⟨B.exec, B.bytes, hml, findClass_of_methodNamed B.named, fun w hw => hts w (List.mem_cons_of_mem _ hw), B.notSynchronized, B.returns, fun hi => by rw [← hi]; exact (name_of_methodNamed B.named B.method).1, hK, hX, hb, hsz, Nat.le_refl _, Nat.le_refl _, Nat.le_refl _, Nat.le_refl _, hF, hbd⟩ (Nat.le_refl _) (Nat.le_refl _) s.heap [] _ ⟨hP, va_S.rf, hM0, hvd⟩ ⟨?_, hl.1, hl.2.1, ?_, ?_, ?_⟩ |> fun K => by
    have K' : W p l e (zRoom F (f.2.2.1 - N) (f.2.2.2 - S)) s m ((as.map (zV base b)).toArray) below meth c s.heap [] (N - N) (S - S) (MQ below (zQ D aC base b L xs f) ((as.map (zV base b)).toArray) s (f.2.2.1 - N) (f.2.2.2 - S) (fun q => base ≤ q)) (F0 m 0 ((lg_sl (as.map (zV base b)) ++ List.replicate (md.2.2.1 - (lg_sl (as.map (zV base b))).length) Slot.unset).toArray) []) := K
    rw [Nat.sub_self, Nat.sub_self] at K'
    exact K'
  · show (as ++ List.replicate n (Value.retAddr 0)).length = md.2.2.1
    simp
    exact hn
  · intro i v hi hv
    have hi : (as ++ List.replicate n (Value.retAddr 0))[i]? = some v := hi
    rcases Nat.lt_or_ge i as.length with g | g
    · rw [List.getElem?_append_left g] at hi
      rw [hsl _ h1]
      rw [List.getElem?_toArray, List.getElem?_append_left (by simp; exact g)]
      simp [hi]
    · rw [List.getElem?_append_right g, List.getElem?_replicate] at hi
      split at hi
      · cases hi
        exact absurd rfl (hv 0)
      · cases hi
  · intro i x hi
    have hi : (as ++ List.replicate n (Value.retAddr 0))[i]? = some (.long x) := hi
    rcases Nat.lt_or_ge i as.length with g | g
    · rw [List.getElem?_append_left g] at hi
      have := List.all_eq_true.mp has _ (List.mem_of_getElem? hi)
      cases this
    · rw [List.getElem?_append_right g, List.getElem?_replicate] at hi
      split at hi <;> cases hi
  · intro i x hi
    have hi : (as ++ List.replicate n (Value.retAddr 0))[i]? = some (.double x) := hi
    rcases Nat.lt_or_ge i as.length with g | g
    · rw [List.getElem?_append_left g] at hi
      have := List.all_eq_true.mp has _ (List.mem_of_getElem? hi)
      cases this
    · rw [List.getElem?_append_right g, List.getElem?_replicate] at hi
      split at hi <;> cases hi
/-- Math.max, Math.min -/
def i_mm (o : Int32 → Int32 → Int32) : zI := fun c => match c.2.1 with
  | .int y :: .int x :: st => if zsm st = true then some (.inl (c.1, .int (o x y) :: st, c.2.2)) else none
  | _ => none
theorem n_mmax {md : zM} {pc idx : Nat} (hl : Cond.methodLink md.1.cls idx Lib.Math.max.name ∈ zgt) (h1 : Cond.static Lib.Math.max.name ∈ zgt) (h2 : Cond.initialized "java/lang/Math" ∈ zgt) (h3 : Cond.code Lib.Math.max.name Lib.Math.max.code 2 (some .int) ∈ zgt) (hd : decode md.2.1 pc = .ok (.invokestatic idx, 3)) : zS md pc (pc + 3) (i_mm (fun x y => if x < y then y else x)) := by
  intro d f ⟨ls, st, M, N, S⟩ r h q
  unfold i_mm at h
  dsimp only at h
  split at h
  · rename_i y x st
    split at h
    · rename_i hsm
      cases h
      have q1 : N ≤ f.2.2.1 := q.1
      have q2 : S ≤ f.2.2.2 := q.2.1
      refine ⟨q.1, q.2.1, fun p l e R s m args below meth c D aC base b L xs n0 s0 F hx hn hs H locs lsA hw hl' => ?_⟩
      have hFR := hx.2.2.2.2.2.2.2.2.2.2.2.2
      have hcat := zsm_cat base b hsm
      have hn : n0 ≤ N := hn
      have hs : s0 ≤ S := hs
      exact va_mmax hx.1 hx.2.1 (by rw [hx.2.2.1, hl'.2.1]) hx.2.2.2.1 (hx.2.2.2.2.1 _ hl) (hx.2.2.2.2.1 _ h1) (hx.2.2.2.2.1 _ h2) (hx.2.2.2.2.1 _ h3) (by omega) (by omega) (by show N - n0 ≤ R.cells; omega) (by show S - s0 ≤ R.slots; omega) hd (q.2.2 p l e R s m args below meth c D aC base b L xs n0 s0 F hx hn hs H locs lsA hw hl')
    · cases h
  · cases h
theorem n_mmin {md : zM} {pc idx : Nat} (hl : Cond.methodLink md.1.cls idx Lib.Math.min.name ∈ zgt) (h1 : Cond.static Lib.Math.min.name ∈ zgt) (h2 : Cond.initialized "java/lang/Math" ∈ zgt) (h3 : Cond.code Lib.Math.min.name Lib.Math.min.code 2 (some .int) ∈ zgt) (hd : decode md.2.1 pc = .ok (.invokestatic idx, 3)) : zS md pc (pc + 3) (i_mm (fun x y => if y < x then y else x)) := by
  intro d f ⟨ls, st, M, N, S⟩ r h q
  unfold i_mm at h
  dsimp only at h
  split at h
  · rename_i y x st
    split at h
    · rename_i hsm
      cases h
      have q1 : N ≤ f.2.2.1 := q.1
      have q2 : S ≤ f.2.2.2 := q.2.1
      refine ⟨q.1, q.2.1, fun p l e R s m args below meth c D aC base b L xs n0 s0 F hx hn hs H locs lsA hw hl' => ?_⟩
      have hFR := hx.2.2.2.2.2.2.2.2.2.2.2.2
      have hcat := zsm_cat base b hsm
      have hn : n0 ≤ N := hn
      have hs : s0 ≤ S := hs
      exact va_mmin hx.1 hx.2.1 (by rw [hx.2.2.1, hl'.2.1]) hx.2.2.2.1 (hx.2.2.2.2.1 _ hl) (hx.2.2.2.2.1 _ h1) (hx.2.2.2.2.1 _ h2) (hx.2.2.2.2.1 _ h3) (by omega) (by omega) (by show N - n0 ≤ R.cells; omega) (by show S - s0 ≤ R.slots; omega) hd (q.2.2 p l e R s m args below meth c D aC base b L xs n0 s0 F hx hn hs H locs lsA hw hl')
    · cases h
  · cases h
end
section
def mD_init : zM := (⟨"OneDoor", "<init>", "()V"⟩, prog_1_method_1_code, 2, none)
def mR_init : zM := (⟨"OneDoor$Reader", "<init>", "()V"⟩, prog_11_method_1_code, 1, none)
def mT_init : zM := (⟨"OneDoor$Told", "<init>", "()V"⟩, prog_12_method_1_code, 1, none)
def mL_init : zM := (⟨"OneDoor$Life", "<init>", "()V"⟩, prog_7_method_1_code, 2, none)
def mN_init : zM := (⟨"OneDoor$Now", "<init>", "()V"⟩, prog_8_method_1_code, 1, none)
def mP_init : zM := (⟨"OneDoor$Plan", "<init>", "(LOneDoor$Told;LOneDoor$Now;)V"⟩, prog_10_method_1_code, 3, none)
def mH_init : zM := (⟨"OneDoor$Hall", "<init>", "(LOneDoor$Told;LOneDoor$Now;)V"⟩, prog_5_method_1_code, 3, none)
def mK_init : zM := (⟨"OneDoor$Kitchen", "<init>", "(LOneDoor$Told;LOneDoor$Now;)V"⟩, prog_6_method_1_code, 3, none)
def mB_init : zM := (⟨"OneDoor$Bath", "<init>", "(LOneDoor$Told;LOneDoor$Now;)V"⟩, prog_3_method_1_code, 3, none)
def mI_init : zM := (⟨"OneDoor$Piano", "<init>", "(LOneDoor$Told;LOneDoor$Now;)V"⟩, prog_9_method_1_code, 3, none)
def mC_init : zM := (⟨"OneDoor$Curtain", "<init>", "(LOneDoor$Told;LOneDoor$Now;)V"⟩, prog_4_method_1_code, 3, none)
def mA_init : zM := (⟨"OneDoor$Attic", "<init>", "(LOneDoor$Told;LOneDoor$Now;)V"⟩, prog_2_method_1_code, 3, none)
def mD_type : zM := (⟨"OneDoor", "type", "(I)I"⟩, prog_1_method_2_code, 2, some .int)
def mD_clear : zM := (⟨"OneDoor", "clear", "()I"⟩, prog_1_method_3_code, 2, some .int)
def mD_street : zM := (⟨"OneDoor", "street", "()I"⟩, prog_1_method_4_code, 3, some .int)
def mR_readAll : zM := (⟨"OneDoor$Reader", "readAll", "(LOneDoor$Told;)I"⟩, prog_11_method_2_code, 3, some .int)
def mT_empty : zM := (⟨"OneDoor$Told", "empty", "()V"⟩, prog_12_method_2_code, 1, none)
def mR_readToken : zM := (⟨"OneDoor$Reader", "readToken", "()V"⟩, prog_11_method_10_code, 1, none)
def mR_isLetter : zM := (⟨"OneDoor$Reader", "isLetter", "(I)Z"⟩, prog_11_method_13_code, 1, some .boolean)
def mR_readLetters : zM := (⟨"OneDoor$Reader", "readLetters", "()V"⟩, prog_11_method_11_code, 1, none)
def mR_isDigit : zM := (⟨"OneDoor$Reader", "isDigit", "(I)Z"⟩, prog_11_method_14_code, 1, some .boolean)
def mR_readDigits : zM := (⟨"OneDoor$Reader", "readDigits", "()V"⟩, prog_11_method_12_code, 3, none)
def mR_readItem : zM := (⟨"OneDoor$Reader", "readItem", "(LOneDoor$Told;)Z"⟩, prog_11_method_3_code, 2, some .boolean)
def mR_readHouse : zM := (⟨"OneDoor$Reader", "readHouse", "(LOneDoor$Told;)Z"⟩, prog_11_method_4_code, 3, some .boolean)
def mR_readNumber : zM := (⟨"OneDoor$Reader", "readNumber", "(II)Z"⟩, prog_11_method_8_code, 3, some .boolean)
def mR_readStop : zM := (⟨"OneDoor$Reader", "readStop", "()Z"⟩, prog_11_method_9_code, 1, some .boolean)
def mR_readPerson : zM := (⟨"OneDoor$Reader", "readPerson", "(LOneDoor$Told;)Z"⟩, prog_11_method_5_code, 3, some .boolean)
def mR_readTax : zM := (⟨"OneDoor$Reader", "readTax", "(LOneDoor$Told;)Z"⟩, prog_11_method_6_code, 2, some .boolean)
def mR_readWarm : zM := (⟨"OneDoor$Reader", "readWarm", "(LOneDoor$Told;)Z"⟩, prog_11_method_7_code, 2, some .boolean)
def mT_become : zM := (⟨"OneDoor$Told", "become", "(LOneDoor$Told;)V"⟩, prog_12_method_3_code, 2, none)
def mL_begin : zM := (⟨"OneDoor$Life", "begin", "(LOneDoor$Told;)V"⟩, prog_7_method_2_code, 2, none)
def mN_begin : zM := (⟨"OneDoor$Now", "begin", "(LOneDoor$Told;)V"⟩, prog_8_method_2_code, 2, none)
def mD_house : zM := (⟨"OneDoor", "house", "(II)I"⟩, prog_1_method_5_code, 3, some .int)
def mD_isHouse : zM := (⟨"OneDoor", "isHouse", "(I)Z"⟩, prog_1_method_29_code, 2, some .boolean)
def mD_peopleAt : zM := (⟨"OneDoor", "peopleAt", "([II)I"⟩, prog_1_method_33_code, 5, some .int)
def mP_minutesTo : zM := (⟨"OneDoor$Plan", "minutesTo", "(I)I"⟩, prog_10_method_7_code, 2, some .int)
def mP_wayTo : zM := (⟨"OneDoor$Plan", "wayTo", "(I)I"⟩, prog_10_method_6_code, 2, some .int)
def mP_theWay : zM := (⟨"OneDoor$Plan", "theWay", "(II)I"⟩, prog_10_method_4_code, 5, some .int)
def mP_wayByFirst : zM := (⟨"OneDoor$Plan", "wayByFirst", "(I)I"⟩, prog_10_method_2_code, 1, some .int)
def mP_wayByOther : zM := (⟨"OneDoor$Plan", "wayByOther", "(II)I"⟩, prog_10_method_3_code, 2, some .int)
def mP_minutesOf : zM := (⟨"OneDoor$Plan", "minutesOf", "(I)I"⟩, prog_10_method_5_code, 4, some .int)
def mD_person : zM := (⟨"OneDoor", "person", "(II)I"⟩, prog_1_method_6_code, 3, some .int)
def mD_isPerson : zM := (⟨"OneDoor", "isPerson", "(I)Z"⟩, prog_1_method_30_code, 2, some .boolean)
def mP_passedInADay : zM := (⟨"OneDoor$Plan", "passedInADay", "(I)I"⟩, prog_10_method_11_code, 4, some .int)
def mD_steps : zM := (⟨"OneDoor", "steps", "(II)I"⟩, prog_1_method_7_code, 4, some .int)
def mD_stepEnd : zM := (⟨"OneDoor", "stepEnd", "(II)I"⟩, prog_1_method_34_code, 4, some .int)
def mD_mayEnter : zM := (⟨"OneDoor", "mayEnter", "(II)Z"⟩, prog_1_method_35_code, 3, some .boolean)
def mL_remember : zM := (⟨"OneDoor$Life", "remember", "()V"⟩, prog_7_method_3_code, 1, none)
def mL_loseOldest : zM := (⟨"OneDoor$Life", "loseOldest", "()V"⟩, prog_7_method_4_code, 3, none)
def mN_become : zM := (⟨"OneDoor$Now", "become", "(LOneDoor$Now;)V"⟩, prog_8_method_3_code, 2, none)
def mD_move : zM := (⟨"OneDoor", "move", "(II)V"⟩, prog_1_method_36_code, 5, none)
def mD_disturb : zM := (⟨"OneDoor", "disturb", "(I)V"⟩, prog_1_method_37_code, 2, none)
def mD_shuts : zM := (⟨"OneDoor", "shuts", "(II)I"⟩, prog_1_method_8_code, 3, some .int)
def mJ_bitCount : zM := (⟨"java/lang/Integer", "bitCount", "(I)I"⟩, prog_15_method_49_code, 1, some .int)
def mD_exchanges : zM := (⟨"OneDoor", "exchanges", "(II)I"⟩, prog_1_method_9_code, 4, some .int)
def mD_door : zM := (⟨"OneDoor", "door", "(I)I"⟩, prog_1_method_10_code, 3, some .int)
def mD_calms : zM := (⟨"OneDoor", "calms", "(I)I"⟩, prog_1_method_11_code, 3, some .int)
def mD_undo : zM := (⟨"OneDoor", "undo", "()I"⟩, prog_1_method_12_code, 1, some .int)
def mL_forgo : zM := (⟨"OneDoor$Life", "forgo", "()V"⟩, prog_7_method_5_code, 1, none)
def mD_now : zM := (⟨"OneDoor", "now", "(I)I"⟩, prog_1_method_13_code, 2, some .int)
def mP_passings : zM := (⟨"OneDoor$Plan", "passings", "(I)I"⟩, prog_10_method_10_code, 4, some .int)
def mP_dwellersOn : zM := (⟨"OneDoor$Plan", "dwellersOn", "(I)I"⟩, prog_10_method_9_code, 4, some .int)
def mP_hurt : zM := (⟨"OneDoor$Plan", "hurt", "()I"⟩, prog_10_method_12_code, 3, some .int)
def mP_stopped : zM := (⟨"OneDoor$Plan", "stopped", "(I)I"⟩, prog_10_method_15_code, 4, some .int)
def mP_eachWayMeets : zM := (⟨"OneDoor$Plan", "eachWayMeets", "(II)Z"⟩, prog_10_method_14_code, 3, some .boolean)
def mP_toOpen : zM := (⟨"OneDoor$Plan", "toOpen", "()I"⟩, prog_10_method_17_code, 4, some .int)
def mP_isFewer : zM := (⟨"OneDoor$Plan", "isFewer", "(II)Z"⟩, prog_10_method_18_code, 2, some .boolean)
def mD_homes : zM := (⟨"OneDoor", "homes", "(I)I"⟩, prog_1_method_14_code, 2, some .int)
def mP_giveHomes : zM := (⟨"OneDoor$Plan", "giveHomes", "()V"⟩, prog_10_method_20_code, 2, none)
def mP_giveFrom : zM := (⟨"OneDoor$Plan", "giveFrom", "(II)V"⟩, prog_10_method_21_code, 4, none)
def mD_doorAt : zM := (⟨"OneDoor", "doorAt", "(I)I"⟩, prog_1_method_15_code, 3, some .int)
def mP_bestDoor : zM := (⟨"OneDoor$Plan", "bestDoor", "()I"⟩, prog_10_method_19_code, 5, some .int)
def mD_fair : zM := (⟨"OneDoor", "fair", "(II)I"⟩, prog_1_method_16_code, 5, some .int)
def mP_effort : zM := (⟨"OneDoor$Plan", "effort", "(I)I"⟩, prog_10_method_8_code, 2, some .int)
def mD_inLeastTerms : zM := (⟨"OneDoor", "inLeastTerms", "(III)I"⟩, prog_1_method_41_code, 5, some .int)
def mD_commonDivisor : zM := (⟨"OneDoor", "commonDivisor", "(II)I"⟩, prog_1_method_42_code, 6, some .int)
def mD_coffin : zM := (⟨"OneDoor", "coffin", "(I)I"⟩, prog_1_method_17_code, 2, some .int)
def mP_blocked : zM := (⟨"OneDoor$Plan", "blocked", "(I)I"⟩, prog_10_method_16_code, 4, some .int)
def mD_hats : zM := (⟨"OneDoor", "hats", "(II)I"⟩, prog_1_method_18_code, 3, some .int)
def mD_forget : zM := (⟨"OneDoor", "forget", "()I"⟩, prog_1_method_19_code, 2, some .int)
def mD_who : zM := (⟨"OneDoor", "who", "()I"⟩, prog_1_method_20_code, 3, some .int)
def mD_hatsFit : zM := (⟨"OneDoor", "hatsFit", "(I)Z"⟩, prog_1_method_38_code, 5, some .boolean)
def mD_hatsFitOut : zM := (⟨"OneDoor", "hatsFitOut", "(III)Z"⟩, prog_1_method_39_code, 5, some .boolean)
def mP_placeOut : zM := (⟨"OneDoor$Plan", "placeOut", "(III)I"⟩, prog_10_method_23_code, 8, some .int)
def mP_towardsDoor : zM := (⟨"OneDoor$Plan", "towardsDoor", "(II)I"⟩, prog_10_method_22_code, 2, some .int)
def mD_hatsFitIn : zM := (⟨"OneDoor", "hatsFitIn", "(III)Z"⟩, prog_1_method_40_code, 5, some .boolean)
def mP_placeIn : zM := (⟨"OneDoor$Plan", "placeIn", "(III)I"⟩, prog_10_method_24_code, 8, some .int)
def mD_bread : zM := (⟨"OneDoor", "bread", "()I"⟩, prog_1_method_21_code, 3, some .int)
def mD_meet : zM := (⟨"OneDoor", "meet", "(IIII)I"⟩, prog_1_method_22_code, 5, some .int)
def mD_isStart : zM := (⟨"OneDoor", "isStart", "(I)Z"⟩, prog_1_method_31_code, 1, some .boolean)
def mP_meeting : zM := (⟨"OneDoor$Plan", "meeting", "(IIII)I"⟩, prog_10_method_25_code, 12, some .int)
def mD_odds : zM := (⟨"OneDoor", "odds", "(III)I"⟩, prog_1_method_23_code, 7, some .int)
def mP_goersThrough : zM := (⟨"OneDoor$Plan", "goersThrough", "(I)I"⟩, prog_10_method_13_code, 4, some .int)
def mD_mark : zM := (⟨"OneDoor", "mark", "(II)I"⟩, prog_1_method_24_code, 3, some .int)
def mA_worth : zM := (⟨"OneDoor$Attic", "worth", "(I)I"⟩, prog_2_method_2_code, 2, some .int)
def mB_worth : zM := (⟨"OneDoor$Bath", "worth", "(I)I"⟩, prog_3_method_2_code, 2, some .int)
def mC_worth : zM := (⟨"OneDoor$Curtain", "worth", "(I)I"⟩, prog_4_method_2_code, 2, some .int)
def mK_worth : zM := (⟨"OneDoor$Kitchen", "worth", "(I)I"⟩, prog_6_method_2_code, 4, some .int)
def mI_worth : zM := (⟨"OneDoor$Piano", "worth", "(I)I"⟩, prog_9_method_2_code, 2, some .int)
def mH_worth : zM := (⟨"OneDoor$Hall", "worth", "(I)I"⟩, prog_5_method_2_code, 2, some .int)
def mD_keep : zM := (⟨"OneDoor", "keep", "(I)I"⟩, prog_1_method_25_code, 2, some .int)
def mD_isImage : zM := (⟨"OneDoor", "isImage", "(I)Z"⟩, prog_1_method_32_code, 1, some .boolean)
def mL_become : zM := (⟨"OneDoor$Life", "become", "(LOneDoor$Life;)V"⟩, prog_7_method_6_code, 3, none)
def mD_back : zM := (⟨"OneDoor", "back", "(I)I"⟩, prog_1_method_26_code, 2, some .int)
def mD_count : zM := (⟨"OneDoor", "count", "(I)I"⟩, prog_1_method_27_code, 2, some .int)
def mD_trace : zM := (⟨"OneDoor", "trace", "()J"⟩, prog_1_method_28_code, 4, some .long)
def mM_init : zM := (⟨"OneDoorModel", "<init>", "()V"⟩, prog_14_method_1_code, 1, none)
def mM_plain : zM := (⟨"OneDoorModel", "plain", "()V"⟩, prog_14_method_12_code, 1, none)
def mM_takeDraft : zM := (⟨"OneDoorModel", "takeDraft", "()V"⟩, prog_14_method_13_code, 2, none)
def mM_type : zM := (⟨"OneDoorModel", "type", "(I)I"⟩, prog_14_method_4_code, 2, some .int)
def mM_in : zM := (⟨"OneDoorModel", "in", "(III)Z"⟩, prog_14_method_3_code, 3, some .boolean)
def mM_clear : zM := (⟨"OneDoorModel", "clear", "()I"⟩, prog_14_method_5_code, 2, some .int)
def mM_street : zM := (⟨"OneDoorModel", "street", "()I"⟩, prog_14_method_14_code, 3, some .int)
def mM_step : zM := (⟨"OneDoorModel", "step", "()V"⟩, prog_14_method_7_code, 2, none)
def mM_here : zM := (⟨"OneDoorModel", "here", "()I"⟩, prog_14_method_6_code, 1, some .int)
def mM_mayBe : zM := (⟨"OneDoorModel", "mayBe", "(I)Z"⟩, prog_14_method_10_code, 2, some .boolean)
def mM_due : zM := (⟨"OneDoorModel", "due", "(Z)I"⟩, prog_14_method_8_code, 3, some .int)
def mM_readRow : zM := (⟨"OneDoorModel", "readRow", "(I)V"⟩, prog_14_method_11_code, 2, none)
def mM_number : zM := (⟨"OneDoorModel", "number", "(II)I"⟩, prog_14_method_9_code, 3, some .int)
def mM_house : zM := (⟨"OneDoorModel", "house", "(II)I"⟩, prog_14_method_25_code, 3, some .int)
def mM_isHouse : zM := (⟨"OneDoorModel", "isHouse", "(I)Z"⟩, prog_14_method_15_code, 2, some .boolean)
def mM_living : zM := (⟨"OneDoorModel", "living", "(I)I"⟩, prog_14_method_23_code, 4, some .int)
def mM_being : zM := (⟨"OneDoorModel", "being", "(I)I"⟩, prog_14_method_24_code, 4, some .int)
def mM_minutesTo : zM := (⟨"OneDoorModel", "minutesTo", "(I)I"⟩, prog_14_method_22_code, 2, some .int)
def mM_wayTo : zM := (⟨"OneDoorModel", "wayTo", "(II)I"⟩, prog_14_method_21_code, 3, some .int)
def mM_doorTo : zM := (⟨"OneDoorModel", "doorTo", "(II)I"⟩, prog_14_method_20_code, 3, some .int)
def mM_through : zM := (⟨"OneDoorModel", "through", "(II)I"⟩, prog_14_method_18_code, 4, some .int)
def mM_minutesOf : zM := (⟨"OneDoorModel", "minutesOf", "(I)I"⟩, prog_14_method_19_code, 4, some .int)
def mM_person : zM := (⟨"OneDoorModel", "person", "(II)I"⟩, prog_14_method_29_code, 3, some .int)
def mM_isPerson : zM := (⟨"OneDoorModel", "isPerson", "(I)Z"⟩, prog_14_method_16_code, 2, some .boolean)
def mM_takeHomes : zM := (⟨"OneDoorModel", "takeHomes", "()V"⟩, prog_14_method_26_code, 2, none)
def mM_passed : zM := (⟨"OneDoorModel", "passed", "(II)I"⟩, prog_14_method_27_code, 5, some .int)
def mM_steps : zM := (⟨"OneDoorModel", "steps", "(II)I"⟩, prog_14_method_32_code, 6, some .int)
def mM_stepTo : zM := (⟨"OneDoorModel", "stepTo", "(II)I"⟩, prog_14_method_31_code, 3, some .int)
def mM_know : zM := (⟨"OneDoorModel", "know", "()V"⟩, prog_14_method_30_code, 2, none)
def mM_shuts : zM := (⟨"OneDoorModel", "shuts", "(II)I"⟩, prog_14_method_33_code, 3, some .int)
def mM_manyOf : zM := (⟨"OneDoorModel", "manyOf", "(I)I"⟩, prog_14_method_17_code, 3, some .int)
def mM_exchanges : zM := (⟨"OneDoorModel", "exchanges", "(II)I"⟩, prog_14_method_34_code, 4, some .int)
def mM_door : zM := (⟨"OneDoorModel", "door", "(I)I"⟩, prog_14_method_35_code, 3, some .int)
def mM_calms : zM := (⟨"OneDoorModel", "calms", "(I)I"⟩, prog_14_method_36_code, 3, some .int)
def mM_undo : zM := (⟨"OneDoorModel", "undo", "()I"⟩, prog_14_method_37_code, 2, some .int)
def mM_now : zM := (⟨"OneDoorModel", "now", "(I)I"⟩, prog_14_method_42_code, 2, some .int)
def mM_passings : zM := (⟨"OneDoorModel", "passings", "(I)I"⟩, prog_14_method_28_code, 4, some .int)
def mM_hurt : zM := (⟨"OneDoorModel", "hurt", "()I"⟩, prog_14_method_41_code, 3, some .int)
def mM_stopped : zM := (⟨"OneDoorModel", "stopped", "(I)I"⟩, prog_14_method_39_code, 6, some .int)
def mM_isBarred : zM := (⟨"OneDoorModel", "isBarred", "(III)Z"⟩, prog_14_method_38_code, 5, some .boolean)
def mM_toOpen : zM := (⟨"OneDoorModel", "toOpen", "()I"⟩, prog_14_method_40_code, 4, some .int)
def mM_homes : zM := (⟨"OneDoorModel", "homes", "(I)I"⟩, prog_14_method_43_code, 10, some .int)
def mM_isAhead : zM := (⟨"OneDoorModel", "isAhead", "()Z"⟩, prog_14_method_44_code, 2, some .boolean)
def mM_doorAt : zM := (⟨"OneDoorModel", "doorAt", "(I)I"⟩, prog_14_method_45_code, 6, some .int)
def mM_fair : zM := (⟨"OneDoorModel", "fair", "(II)I"⟩, prog_14_method_47_code, 5, some .int)
def mM_part : zM := (⟨"OneDoorModel", "part", "(III)I"⟩, prog_14_method_46_code, 6, some .int)
def mM_coffin : zM := (⟨"OneDoorModel", "coffin", "(I)I"⟩, prog_14_method_48_code, 7, some .int)
def mM_hats : zM := (⟨"OneDoorModel", "hats", "(II)I"⟩, prog_14_method_49_code, 3, some .int)
def mM_forget : zM := (⟨"OneDoorModel", "forget", "()I"⟩, prog_14_method_50_code, 2, some .int)
def mM_who : zM := (⟨"OneDoorModel", "who", "()I"⟩, prog_14_method_54_code, 5, some .int)
def mM_isSo : zM := (⟨"OneDoorModel", "isSo", "(IIZ)Z"⟩, prog_14_method_53_code, 6, some .boolean)
def mM_outAt : zM := (⟨"OneDoorModel", "outAt", "(III)I"⟩, prog_14_method_51_code, 8, some .int)
def mM_inAt : zM := (⟨"OneDoorModel", "inAt", "(III)I"⟩, prog_14_method_52_code, 7, some .int)
def mM_bread : zM := (⟨"OneDoorModel", "bread", "()I"⟩, prog_14_method_55_code, 3, some .int)
def mM_meet : zM := (⟨"OneDoorModel", "meet", "(IIII)I"⟩, prog_14_method_56_code, 7, some .int)
def mM_odds : zM := (⟨"OneDoorModel", "odds", "(III)I"⟩, prog_14_method_57_code, 7, some .int)
def mM_mark : zM := (⟨"OneDoorModel", "mark", "(II)I"⟩, prog_14_method_58_code, 5, some .int)
def mM_keep : zM := (⟨"OneDoorModel", "keep", "(I)I"⟩, prog_14_method_59_code, 3, some .int)
def mM_back : zM := (⟨"OneDoorModel", "back", "(I)I"⟩, prog_14_method_60_code, 3, some .int)
def mM_count : zM := (⟨"OneDoorModel", "count", "(I)I"⟩, prog_14_method_61_code, 2, some .int)
def mM_trace : zM := (⟨"OneDoorModel", "trace", "()J"⟩, prog_14_method_62_code, 1, some .long)
def mW_law : zM := (⟨"OneDoorLaw", "law", "([I)Z"⟩, code, 4, some .boolean)
theorem kD_init : zMok mD_init 0 := ⟨by decide +kernel, zmem 76 (by decide +kernel), zmem 56 (by decide +kernel), ⟨by decide, by decide, by decide +kernel⟩, by decide⟩
theorem kR_init : zMok mR_init 0 := ⟨by decide +kernel, zmem 84 (by decide +kernel), zmem 57 (by decide +kernel), ⟨by decide, by decide, by decide +kernel⟩, by decide⟩
theorem kT_init : zMok mT_init 0 := ⟨by decide +kernel, zmem 118 (by decide +kernel), zmem 58 (by decide +kernel), ⟨by decide, by decide, by decide +kernel⟩, by decide⟩
theorem kL_init : zMok mL_init 0 := ⟨by decide +kernel, zmem 172 (by decide +kernel), zmem 59 (by decide +kernel), ⟨by decide, by decide, by decide +kernel⟩, by decide⟩
theorem kN_init : zMok mN_init 0 := ⟨by decide +kernel, zmem 178 (by decide +kernel), zmem 60 (by decide +kernel), ⟨by decide, by decide, by decide +kernel⟩, by decide⟩
theorem kP_init : zMok mP_init 2 := ⟨by decide +kernel, zmem 234 (by decide +kernel), zmem 61 (by decide +kernel), ⟨by decide, by decide, by decide +kernel⟩, by decide⟩
theorem kH_init : zMok mH_init 2 := ⟨by decide +kernel, zmem 266 (by decide +kernel), zmem 62 (by decide +kernel), ⟨by decide, by decide, by decide +kernel⟩, by decide⟩
theorem kK_init : zMok mK_init 2 := ⟨by decide +kernel, zmem 301 (by decide +kernel), zmem 63 (by decide +kernel), ⟨by decide, by decide, by decide +kernel⟩, by decide⟩
theorem kB_init : zMok mB_init 2 := ⟨by decide +kernel, zmem 311 (by decide +kernel), zmem 64 (by decide +kernel), ⟨by decide, by decide, by decide +kernel⟩, by decide⟩
theorem kI_init : zMok mI_init 2 := ⟨by decide +kernel, zmem 321 (by decide +kernel), zmem 65 (by decide +kernel), ⟨by decide, by decide, by decide +kernel⟩, by decide⟩
theorem kC_init : zMok mC_init 2 := ⟨by decide +kernel, zmem 331 (by decide +kernel), zmem 66 (by decide +kernel), ⟨by decide, by decide, by decide +kernel⟩, by decide⟩
theorem kA_init : zMok mA_init 2 := ⟨by decide +kernel, zmem 341 (by decide +kernel), zmem 67 (by decide +kernel), ⟨by decide, by decide, by decide +kernel⟩, by decide⟩
theorem kD_type : zMok mD_type 1 := ⟨by decide +kernel, zmem 387 (by decide +kernel), zmem 56 (by decide +kernel), ⟨by decide, by decide, by decide +kernel⟩, by decide⟩
theorem kD_clear : zMok mD_clear 0 := ⟨by decide +kernel, zmem 391 (by decide +kernel), zmem 56 (by decide +kernel), ⟨by decide, by decide, by decide +kernel⟩, by decide⟩
theorem kD_street : zMok mD_street 0 := ⟨by decide +kernel, zmem 395 (by decide +kernel), zmem 56 (by decide +kernel), ⟨by decide, by decide, by decide +kernel⟩, by decide⟩
theorem kR_readAll : zMok mR_readAll 1 := ⟨by decide +kernel, zmem 399 (by decide +kernel), zmem 57 (by decide +kernel), ⟨by decide, by decide, by decide +kernel⟩, by decide⟩
theorem kT_empty : zMok mT_empty 0 := ⟨by decide +kernel, zmem 403 (by decide +kernel), zmem 58 (by decide +kernel), ⟨by decide, by decide, by decide +kernel⟩, by decide⟩
theorem kR_readToken : zMok mR_readToken 0 := ⟨by decide +kernel, zmem 407 (by decide +kernel), zmem 57 (by decide +kernel), ⟨by decide, by decide, by decide +kernel⟩, by decide⟩
theorem kR_isLetter : zMok mR_isLetter 1 := ⟨by decide +kernel, zmem 410 (by decide +kernel), zmem 57 (by decide +kernel), ⟨by decide, by decide, by decide +kernel⟩, by decide⟩
theorem kR_readLetters : zMok mR_readLetters 0 := ⟨by decide +kernel, zmem 414 (by decide +kernel), zmem 57 (by decide +kernel), ⟨by decide, by decide, by decide +kernel⟩, by decide⟩
theorem kR_isDigit : zMok mR_isDigit 1 := ⟨by decide +kernel, zmem 417 (by decide +kernel), zmem 57 (by decide +kernel), ⟨by decide, by decide, by decide +kernel⟩, by decide⟩
theorem kR_readDigits : zMok mR_readDigits 0 := ⟨by decide +kernel, zmem 421 (by decide +kernel), zmem 57 (by decide +kernel), ⟨by decide, by decide, by decide +kernel⟩, by decide⟩
theorem kR_readItem : zMok mR_readItem 1 := ⟨by decide +kernel, zmem 428 (by decide +kernel), zmem 57 (by decide +kernel), ⟨by decide, by decide, by decide +kernel⟩, by decide⟩
theorem kR_readHouse : zMok mR_readHouse 1 := ⟨by decide +kernel, zmem 432 (by decide +kernel), zmem 57 (by decide +kernel), ⟨by decide, by decide, by decide +kernel⟩, by decide⟩
theorem kR_readNumber : zMok mR_readNumber 2 := ⟨by decide +kernel, zmem 436 (by decide +kernel), zmem 57 (by decide +kernel), ⟨by decide, by decide, by decide +kernel⟩, by decide⟩
theorem kR_readStop : zMok mR_readStop 0 := ⟨by decide +kernel, zmem 440 (by decide +kernel), zmem 57 (by decide +kernel), ⟨by decide, by decide, by decide +kernel⟩, by decide⟩
theorem kR_readPerson : zMok mR_readPerson 1 := ⟨by decide +kernel, zmem 444 (by decide +kernel), zmem 57 (by decide +kernel), ⟨by decide, by decide, by decide +kernel⟩, by decide⟩
theorem kR_readTax : zMok mR_readTax 1 := ⟨by decide +kernel, zmem 448 (by decide +kernel), zmem 57 (by decide +kernel), ⟨by decide, by decide, by decide +kernel⟩, by decide⟩
theorem kR_readWarm : zMok mR_readWarm 1 := ⟨by decide +kernel, zmem 452 (by decide +kernel), zmem 57 (by decide +kernel), ⟨by decide, by decide, by decide +kernel⟩, by decide⟩
theorem kT_become : zMok mT_become 1 := ⟨by decide +kernel, zmem 456 (by decide +kernel), zmem 58 (by decide +kernel), ⟨by decide, by decide, by decide +kernel⟩, by decide⟩
theorem kL_begin : zMok mL_begin 1 := ⟨by decide +kernel, zmem 463 (by decide +kernel), zmem 59 (by decide +kernel), ⟨by decide, by decide, by decide +kernel⟩, by decide⟩
theorem kN_begin : zMok mN_begin 1 := ⟨by decide +kernel, zmem 467 (by decide +kernel), zmem 60 (by decide +kernel), ⟨by decide, by decide, by decide +kernel⟩, by decide⟩
theorem kD_house : zMok mD_house 2 := ⟨by decide +kernel, zmem 472 (by decide +kernel), zmem 56 (by decide +kernel), ⟨by decide, by decide, by decide +kernel⟩, by decide⟩
theorem kD_isHouse : zMok mD_isHouse 1 := ⟨by decide +kernel, zmem 476 (by decide +kernel), zmem 56 (by decide +kernel), ⟨by decide, by decide, by decide +kernel⟩, by decide⟩
theorem kD_peopleAt : zMok mD_peopleAt 2 := ⟨by decide +kernel, zmem 480 (by decide +kernel), zmem 56 (by decide +kernel), ⟨by decide, by decide, by decide +kernel⟩, by decide⟩
theorem kP_minutesTo : zMok mP_minutesTo 1 := ⟨by decide +kernel, zmem 484 (by decide +kernel), zmem 61 (by decide +kernel), ⟨by decide, by decide, by decide +kernel⟩, by decide⟩
theorem kP_wayTo : zMok mP_wayTo 1 := ⟨by decide +kernel, zmem 488 (by decide +kernel), zmem 61 (by decide +kernel), ⟨by decide, by decide, by decide +kernel⟩, by decide⟩
theorem kP_theWay : zMok mP_theWay 2 := ⟨by decide +kernel, zmem 492 (by decide +kernel), zmem 61 (by decide +kernel), ⟨by decide, by decide, by decide +kernel⟩, by decide⟩
theorem kP_wayByFirst : zMok mP_wayByFirst 1 := ⟨by decide +kernel, zmem 495 (by decide +kernel), zmem 61 (by decide +kernel), ⟨by decide, by decide, by decide +kernel⟩, by decide⟩
theorem kP_wayByOther : zMok mP_wayByOther 2 := ⟨by decide +kernel, zmem 498 (by decide +kernel), zmem 61 (by decide +kernel), ⟨by decide, by decide, by decide +kernel⟩, by decide⟩
theorem kP_minutesOf : zMok mP_minutesOf 1 := ⟨by decide +kernel, zmem 502 (by decide +kernel), zmem 61 (by decide +kernel), ⟨by decide, by decide, by decide +kernel⟩, by decide⟩
theorem kD_person : zMok mD_person 2 := ⟨by decide +kernel, zmem 506 (by decide +kernel), zmem 56 (by decide +kernel), ⟨by decide, by decide, by decide +kernel⟩, by decide⟩
theorem kD_isPerson : zMok mD_isPerson 1 := ⟨by decide +kernel, zmem 510 (by decide +kernel), zmem 56 (by decide +kernel), ⟨by decide, by decide, by decide +kernel⟩, by decide⟩
theorem kP_passedInADay : zMok mP_passedInADay 1 := ⟨by decide +kernel, zmem 514 (by decide +kernel), zmem 61 (by decide +kernel), ⟨by decide, by decide, by decide +kernel⟩, by decide⟩
theorem kD_steps : zMok mD_steps 2 := ⟨by decide +kernel, zmem 518 (by decide +kernel), zmem 56 (by decide +kernel), ⟨by decide, by decide, by decide +kernel⟩, by decide⟩
theorem kD_stepEnd : zMok mD_stepEnd 2 := ⟨by decide +kernel, zmem 522 (by decide +kernel), zmem 56 (by decide +kernel), ⟨by decide, by decide, by decide +kernel⟩, by decide⟩
theorem kD_mayEnter : zMok mD_mayEnter 2 := ⟨by decide +kernel, zmem 526 (by decide +kernel), zmem 56 (by decide +kernel), ⟨by decide, by decide, by decide +kernel⟩, by decide⟩
theorem kL_remember : zMok mL_remember 0 := ⟨by decide +kernel, zmem 530 (by decide +kernel), zmem 59 (by decide +kernel), ⟨by decide, by decide, by decide +kernel⟩, by decide⟩
theorem kL_loseOldest : zMok mL_loseOldest 0 := ⟨by decide +kernel, zmem 534 (by decide +kernel), zmem 59 (by decide +kernel), ⟨by decide, by decide, by decide +kernel⟩, by decide⟩
theorem kN_become : zMok mN_become 1 := ⟨by decide +kernel, zmem 538 (by decide +kernel), zmem 60 (by decide +kernel), ⟨by decide, by decide, by decide +kernel⟩, by decide⟩
theorem kD_move : zMok mD_move 2 := ⟨by decide +kernel, zmem 542 (by decide +kernel), zmem 56 (by decide +kernel), ⟨by decide, by decide, by decide +kernel⟩, by decide⟩
theorem kD_disturb : zMok mD_disturb 1 := ⟨by decide +kernel, zmem 546 (by decide +kernel), zmem 56 (by decide +kernel), ⟨by decide, by decide, by decide +kernel⟩, by decide⟩
theorem kD_shuts : zMok mD_shuts 2 := ⟨by decide +kernel, zmem 553 (by decide +kernel), zmem 56 (by decide +kernel), ⟨by decide, by decide, by decide +kernel⟩, by decide⟩
theorem kJ_bitCount : zMok mJ_bitCount 1 := ⟨by decide +kernel, zmem 556 (by decide +kernel), zmem 71 (by decide +kernel), ⟨by decide, by decide, by decide +kernel⟩, by decide⟩
theorem kD_exchanges : zMok mD_exchanges 2 := ⟨by decide +kernel, zmem 563 (by decide +kernel), zmem 56 (by decide +kernel), ⟨by decide, by decide, by decide +kernel⟩, by decide⟩
theorem kD_door : zMok mD_door 1 := ⟨by decide +kernel, zmem 567 (by decide +kernel), zmem 56 (by decide +kernel), ⟨by decide, by decide, by decide +kernel⟩, by decide⟩
theorem kD_calms : zMok mD_calms 1 := ⟨by decide +kernel, zmem 571 (by decide +kernel), zmem 56 (by decide +kernel), ⟨by decide, by decide, by decide +kernel⟩, by decide⟩
theorem kD_undo : zMok mD_undo 0 := ⟨by decide +kernel, zmem 575 (by decide +kernel), zmem 56 (by decide +kernel), ⟨by decide, by decide, by decide +kernel⟩, by decide⟩
theorem kL_forgo : zMok mL_forgo 0 := ⟨by decide +kernel, zmem 579 (by decide +kernel), zmem 59 (by decide +kernel), ⟨by decide, by decide, by decide +kernel⟩, by decide⟩
theorem kD_now : zMok mD_now 1 := ⟨by decide +kernel, zmem 583 (by decide +kernel), zmem 56 (by decide +kernel), ⟨by decide, by decide, by decide +kernel⟩, by decide⟩
theorem kP_passings : zMok mP_passings 1 := ⟨by decide +kernel, zmem 587 (by decide +kernel), zmem 61 (by decide +kernel), ⟨by decide, by decide, by decide +kernel⟩, by decide⟩
theorem kP_dwellersOn : zMok mP_dwellersOn 1 := ⟨by decide +kernel, zmem 591 (by decide +kernel), zmem 61 (by decide +kernel), ⟨by decide, by decide, by decide +kernel⟩, by decide⟩
theorem kP_hurt : zMok mP_hurt 0 := ⟨by decide +kernel, zmem 595 (by decide +kernel), zmem 61 (by decide +kernel), ⟨by decide, by decide, by decide +kernel⟩, by decide⟩
theorem kP_stopped : zMok mP_stopped 1 := ⟨by decide +kernel, zmem 600 (by decide +kernel), zmem 61 (by decide +kernel), ⟨by decide, by decide, by decide +kernel⟩, by decide⟩
theorem kP_eachWayMeets : zMok mP_eachWayMeets 2 := ⟨by decide +kernel, zmem 604 (by decide +kernel), zmem 61 (by decide +kernel), ⟨by decide, by decide, by decide +kernel⟩, by decide⟩
theorem kP_toOpen : zMok mP_toOpen 0 := ⟨by decide +kernel, zmem 608 (by decide +kernel), zmem 61 (by decide +kernel), ⟨by decide, by decide, by decide +kernel⟩, by decide⟩
theorem kP_isFewer : zMok mP_isFewer 2 := ⟨by decide +kernel, zmem 611 (by decide +kernel), zmem 61 (by decide +kernel), ⟨by decide, by decide, by decide +kernel⟩, by decide⟩
theorem kD_homes : zMok mD_homes 1 := ⟨by decide +kernel, zmem 617 (by decide +kernel), zmem 56 (by decide +kernel), ⟨by decide, by decide, by decide +kernel⟩, by decide⟩
theorem kP_giveHomes : zMok mP_giveHomes 0 := ⟨by decide +kernel, zmem 621 (by decide +kernel), zmem 61 (by decide +kernel), ⟨by decide, by decide, by decide +kernel⟩, by decide⟩
theorem kP_giveFrom : zMok mP_giveFrom 2 := ⟨by decide +kernel, zmem 626 (by decide +kernel), zmem 61 (by decide +kernel), ⟨by decide, by decide, by decide +kernel⟩, by decide⟩
theorem kD_doorAt : zMok mD_doorAt 1 := ⟨by decide +kernel, zmem 631 (by decide +kernel), zmem 56 (by decide +kernel), ⟨by decide, by decide, by decide +kernel⟩, by decide⟩
theorem kP_bestDoor : zMok mP_bestDoor 0 := ⟨by decide +kernel, zmem 635 (by decide +kernel), zmem 61 (by decide +kernel), ⟨by decide, by decide, by decide +kernel⟩, by decide⟩
theorem kD_fair : zMok mD_fair 2 := ⟨by decide +kernel, zmem 640 (by decide +kernel), zmem 56 (by decide +kernel), ⟨by decide, by decide, by decide +kernel⟩, by decide⟩
theorem kP_effort : zMok mP_effort 1 := ⟨by decide +kernel, zmem 644 (by decide +kernel), zmem 61 (by decide +kernel), ⟨by decide, by decide, by decide +kernel⟩, by decide⟩
theorem kD_inLeastTerms : zMok mD_inLeastTerms 3 := ⟨by decide +kernel, zmem 648 (by decide +kernel), zmem 56 (by decide +kernel), ⟨by decide, by decide, by decide +kernel⟩, by decide⟩
theorem kD_commonDivisor : zMok mD_commonDivisor 2 := ⟨by decide +kernel, zmem 651 (by decide +kernel), zmem 56 (by decide +kernel), ⟨by decide, by decide, by decide +kernel⟩, by decide⟩
theorem kD_coffin : zMok mD_coffin 1 := ⟨by decide +kernel, zmem 655 (by decide +kernel), zmem 56 (by decide +kernel), ⟨by decide, by decide, by decide +kernel⟩, by decide⟩
theorem kP_blocked : zMok mP_blocked 1 := ⟨by decide +kernel, zmem 659 (by decide +kernel), zmem 61 (by decide +kernel), ⟨by decide, by decide, by decide +kernel⟩, by decide⟩
theorem kD_hats : zMok mD_hats 2 := ⟨by decide +kernel, zmem 663 (by decide +kernel), zmem 56 (by decide +kernel), ⟨by decide, by decide, by decide +kernel⟩, by decide⟩
theorem kD_forget : zMok mD_forget 0 := ⟨by decide +kernel, zmem 667 (by decide +kernel), zmem 56 (by decide +kernel), ⟨by decide, by decide, by decide +kernel⟩, by decide⟩
theorem kD_who : zMok mD_who 0 := ⟨by decide +kernel, zmem 671 (by decide +kernel), zmem 56 (by decide +kernel), ⟨by decide, by decide, by decide +kernel⟩, by decide⟩
theorem kD_hatsFit : zMok mD_hatsFit 1 := ⟨by decide +kernel, zmem 675 (by decide +kernel), zmem 56 (by decide +kernel), ⟨by decide, by decide, by decide +kernel⟩, by decide⟩
theorem kD_hatsFitOut : zMok mD_hatsFitOut 3 := ⟨by decide +kernel, zmem 680 (by decide +kernel), zmem 56 (by decide +kernel), ⟨by decide, by decide, by decide +kernel⟩, by decide⟩
theorem kP_placeOut : zMok mP_placeOut 3 := ⟨by decide +kernel, zmem 684 (by decide +kernel), zmem 61 (by decide +kernel), ⟨by decide, by decide, by decide +kernel⟩, by decide⟩
theorem kP_towardsDoor : zMok mP_towardsDoor 2 := ⟨by decide +kernel, zmem 687 (by decide +kernel), zmem 61 (by decide +kernel), ⟨by decide, by decide, by decide +kernel⟩, by decide⟩
theorem kD_hatsFitIn : zMok mD_hatsFitIn 3 := ⟨by decide +kernel, zmem 691 (by decide +kernel), zmem 56 (by decide +kernel), ⟨by decide, by decide, by decide +kernel⟩, by decide⟩
theorem kP_placeIn : zMok mP_placeIn 3 := ⟨by decide +kernel, zmem 695 (by decide +kernel), zmem 61 (by decide +kernel), ⟨by decide, by decide, by decide +kernel⟩, by decide⟩
theorem kD_bread : zMok mD_bread 0 := ⟨by decide +kernel, zmem 699 (by decide +kernel), zmem 56 (by decide +kernel), ⟨by decide, by decide, by decide +kernel⟩, by decide⟩
theorem kD_meet : zMok mD_meet 4 := ⟨by decide +kernel, zmem 703 (by decide +kernel), zmem 56 (by decide +kernel), ⟨by decide, by decide, by decide +kernel⟩, by decide⟩
theorem kD_isStart : zMok mD_isStart 1 := ⟨by decide +kernel, zmem 706 (by decide +kernel), zmem 56 (by decide +kernel), ⟨by decide, by decide, by decide +kernel⟩, by decide⟩
theorem kP_meeting : zMok mP_meeting 4 := ⟨by decide +kernel, zmem 710 (by decide +kernel), zmem 61 (by decide +kernel), ⟨by decide, by decide, by decide +kernel⟩, by decide⟩
theorem kD_odds : zMok mD_odds 3 := ⟨by decide +kernel, zmem 716 (by decide +kernel), zmem 56 (by decide +kernel), ⟨by decide, by decide, by decide +kernel⟩, by decide⟩
theorem kP_goersThrough : zMok mP_goersThrough 1 := ⟨by decide +kernel, zmem 720 (by decide +kernel), zmem 61 (by decide +kernel), ⟨by decide, by decide, by decide +kernel⟩, by decide⟩
theorem kD_mark : zMok mD_mark 2 := ⟨by decide +kernel, zmem 724 (by decide +kernel), zmem 56 (by decide +kernel), ⟨by decide, by decide, by decide +kernel⟩, by decide⟩
theorem kA_worth : zMok mA_worth 1 := ⟨by decide +kernel, zmem 732 (by decide +kernel), zmem 67 (by decide +kernel), ⟨by decide, by decide, by decide +kernel⟩, by decide⟩
theorem kB_worth : zMok mB_worth 1 := ⟨by decide +kernel, zmem 737 (by decide +kernel), zmem 64 (by decide +kernel), ⟨by decide, by decide, by decide +kernel⟩, by decide⟩
theorem kC_worth : zMok mC_worth 1 := ⟨by decide +kernel, zmem 742 (by decide +kernel), zmem 66 (by decide +kernel), ⟨by decide, by decide, by decide +kernel⟩, by decide⟩
theorem kK_worth : zMok mK_worth 1 := ⟨by decide +kernel, zmem 747 (by decide +kernel), zmem 63 (by decide +kernel), ⟨by decide, by decide, by decide +kernel⟩, by decide⟩
theorem kI_worth : zMok mI_worth 1 := ⟨by decide +kernel, zmem 752 (by decide +kernel), zmem 65 (by decide +kernel), ⟨by decide, by decide, by decide +kernel⟩, by decide⟩
theorem kH_worth : zMok mH_worth 1 := ⟨by decide +kernel, zmem 755 (by decide +kernel), zmem 62 (by decide +kernel), ⟨by decide, by decide, by decide +kernel⟩, by decide⟩
theorem kD_keep : zMok mD_keep 1 := ⟨by decide +kernel, zmem 759 (by decide +kernel), zmem 56 (by decide +kernel), ⟨by decide, by decide, by decide +kernel⟩, by decide⟩
theorem kD_isImage : zMok mD_isImage 1 := ⟨by decide +kernel, zmem 762 (by decide +kernel), zmem 56 (by decide +kernel), ⟨by decide, by decide, by decide +kernel⟩, by decide⟩
theorem kL_become : zMok mL_become 1 := ⟨by decide +kernel, zmem 766 (by decide +kernel), zmem 59 (by decide +kernel), ⟨by decide, by decide, by decide +kernel⟩, by decide⟩
theorem kD_back : zMok mD_back 1 := ⟨by decide +kernel, zmem 770 (by decide +kernel), zmem 56 (by decide +kernel), ⟨by decide, by decide, by decide +kernel⟩, by decide⟩
theorem kD_count : zMok mD_count 1 := ⟨by decide +kernel, zmem 774 (by decide +kernel), zmem 56 (by decide +kernel), ⟨by decide, by decide, by decide +kernel⟩, by decide⟩
theorem kD_trace : zMok mD_trace 0 := ⟨by decide +kernel, zmem 778 (by decide +kernel), zmem 56 (by decide +kernel), ⟨by decide, by decide, by decide +kernel⟩, by decide⟩
theorem kM_init : zMok mM_init 0 := ⟨by decide +kernel, zmem 783 (by decide +kernel), zmem 68 (by decide +kernel), ⟨by decide, by decide, by decide +kernel⟩, by decide⟩
theorem kM_plain : zMok mM_plain 0 := ⟨by decide +kernel, zmem 788 (by decide +kernel), zmem 68 (by decide +kernel), ⟨by decide, by decide, by decide +kernel⟩, by decide⟩
theorem kM_takeDraft : zMok mM_takeDraft 0 := ⟨by decide +kernel, zmem 792 (by decide +kernel), zmem 68 (by decide +kernel), ⟨by decide, by decide, by decide +kernel⟩, by decide⟩
theorem kM_type : zMok mM_type 1 := ⟨by decide +kernel, zmem 867 (by decide +kernel), zmem 68 (by decide +kernel), ⟨by decide, by decide, by decide +kernel⟩, by decide⟩
theorem kM_in : zMok mM_in 3 := ⟨by decide +kernel, zmem 870 (by decide +kernel), zmem 68 (by decide +kernel), ⟨by decide, by decide, by decide +kernel⟩, by decide⟩
theorem kM_clear : zMok mM_clear 0 := ⟨by decide +kernel, zmem 874 (by decide +kernel), zmem 68 (by decide +kernel), ⟨by decide, by decide, by decide +kernel⟩, by decide⟩
theorem kM_street : zMok mM_street 0 := ⟨by decide +kernel, zmem 878 (by decide +kernel), zmem 68 (by decide +kernel), ⟨by decide, by decide, by decide +kernel⟩, by decide⟩
theorem kM_step : zMok mM_step 0 := ⟨by decide +kernel, zmem 882 (by decide +kernel), zmem 68 (by decide +kernel), ⟨by decide, by decide, by decide +kernel⟩, by decide⟩
theorem kM_here : zMok mM_here 0 := ⟨by decide +kernel, zmem 886 (by decide +kernel), zmem 68 (by decide +kernel), ⟨by decide, by decide, by decide +kernel⟩, by decide⟩
theorem kM_mayBe : zMok mM_mayBe 1 := ⟨by decide +kernel, zmem 890 (by decide +kernel), zmem 68 (by decide +kernel), ⟨by decide, by decide, by decide +kernel⟩, by decide⟩
theorem kM_due : zMok mM_due 1 := ⟨by decide +kernel, zmem 894 (by decide +kernel), zmem 68 (by decide +kernel), ⟨by decide, by decide, by decide +kernel⟩, by decide⟩
theorem kM_readRow : zMok mM_readRow 1 := ⟨by decide +kernel, zmem 898 (by decide +kernel), zmem 68 (by decide +kernel), ⟨by decide, by decide, by decide +kernel⟩, by decide⟩
theorem kM_number : zMok mM_number 2 := ⟨by decide +kernel, zmem 902 (by decide +kernel), zmem 68 (by decide +kernel), ⟨by decide, by decide, by decide +kernel⟩, by decide⟩
theorem kM_house : zMok mM_house 2 := ⟨by decide +kernel, zmem 906 (by decide +kernel), zmem 68 (by decide +kernel), ⟨by decide, by decide, by decide +kernel⟩, by decide⟩
theorem kM_isHouse : zMok mM_isHouse 1 := ⟨by decide +kernel, zmem 910 (by decide +kernel), zmem 68 (by decide +kernel), ⟨by decide, by decide, by decide +kernel⟩, by decide⟩
theorem kM_living : zMok mM_living 1 := ⟨by decide +kernel, zmem 914 (by decide +kernel), zmem 68 (by decide +kernel), ⟨by decide, by decide, by decide +kernel⟩, by decide⟩
theorem kM_being : zMok mM_being 1 := ⟨by decide +kernel, zmem 918 (by decide +kernel), zmem 68 (by decide +kernel), ⟨by decide, by decide, by decide +kernel⟩, by decide⟩
theorem kM_minutesTo : zMok mM_minutesTo 1 := ⟨by decide +kernel, zmem 922 (by decide +kernel), zmem 68 (by decide +kernel), ⟨by decide, by decide, by decide +kernel⟩, by decide⟩
theorem kM_wayTo : zMok mM_wayTo 2 := ⟨by decide +kernel, zmem 926 (by decide +kernel), zmem 68 (by decide +kernel), ⟨by decide, by decide, by decide +kernel⟩, by decide⟩
theorem kM_doorTo : zMok mM_doorTo 2 := ⟨by decide +kernel, zmem 930 (by decide +kernel), zmem 68 (by decide +kernel), ⟨by decide, by decide, by decide +kernel⟩, by decide⟩
theorem kM_through : zMok mM_through 2 := ⟨by decide +kernel, zmem 933 (by decide +kernel), zmem 68 (by decide +kernel), ⟨by decide, by decide, by decide +kernel⟩, by decide⟩
theorem kM_minutesOf : zMok mM_minutesOf 1 := ⟨by decide +kernel, zmem 937 (by decide +kernel), zmem 68 (by decide +kernel), ⟨by decide, by decide, by decide +kernel⟩, by decide⟩
theorem kM_person : zMok mM_person 2 := ⟨by decide +kernel, zmem 941 (by decide +kernel), zmem 68 (by decide +kernel), ⟨by decide, by decide, by decide +kernel⟩, by decide⟩
theorem kM_isPerson : zMok mM_isPerson 1 := ⟨by decide +kernel, zmem 945 (by decide +kernel), zmem 68 (by decide +kernel), ⟨by decide, by decide, by decide +kernel⟩, by decide⟩
theorem kM_takeHomes : zMok mM_takeHomes 0 := ⟨by decide +kernel, zmem 949 (by decide +kernel), zmem 68 (by decide +kernel), ⟨by decide, by decide, by decide +kernel⟩, by decide⟩
theorem kM_passed : zMok mM_passed 2 := ⟨by decide +kernel, zmem 953 (by decide +kernel), zmem 68 (by decide +kernel), ⟨by decide, by decide, by decide +kernel⟩, by decide⟩
theorem kM_steps : zMok mM_steps 2 := ⟨by decide +kernel, zmem 957 (by decide +kernel), zmem 68 (by decide +kernel), ⟨by decide, by decide, by decide +kernel⟩, by decide⟩
theorem kM_stepTo : zMok mM_stepTo 2 := ⟨by decide +kernel, zmem 961 (by decide +kernel), zmem 68 (by decide +kernel), ⟨by decide, by decide, by decide +kernel⟩, by decide⟩
theorem kM_know : zMok mM_know 0 := ⟨by decide +kernel, zmem 965 (by decide +kernel), zmem 68 (by decide +kernel), ⟨by decide, by decide, by decide +kernel⟩, by decide⟩
theorem kM_shuts : zMok mM_shuts 2 := ⟨by decide +kernel, zmem 969 (by decide +kernel), zmem 68 (by decide +kernel), ⟨by decide, by decide, by decide +kernel⟩, by decide⟩
theorem kM_manyOf : zMok mM_manyOf 1 := ⟨by decide +kernel, zmem 972 (by decide +kernel), zmem 68 (by decide +kernel), ⟨by decide, by decide, by decide +kernel⟩, by decide⟩
theorem kM_exchanges : zMok mM_exchanges 2 := ⟨by decide +kernel, zmem 976 (by decide +kernel), zmem 68 (by decide +kernel), ⟨by decide, by decide, by decide +kernel⟩, by decide⟩
theorem kM_door : zMok mM_door 1 := ⟨by decide +kernel, zmem 980 (by decide +kernel), zmem 68 (by decide +kernel), ⟨by decide, by decide, by decide +kernel⟩, by decide⟩
theorem kM_calms : zMok mM_calms 1 := ⟨by decide +kernel, zmem 984 (by decide +kernel), zmem 68 (by decide +kernel), ⟨by decide, by decide, by decide +kernel⟩, by decide⟩
theorem kM_undo : zMok mM_undo 0 := ⟨by decide +kernel, zmem 988 (by decide +kernel), zmem 68 (by decide +kernel), ⟨by decide, by decide, by decide +kernel⟩, by decide⟩
theorem kM_now : zMok mM_now 1 := ⟨by decide +kernel, zmem 992 (by decide +kernel), zmem 68 (by decide +kernel), ⟨by decide, by decide, by decide +kernel⟩, by decide⟩
theorem kM_passings : zMok mM_passings 1 := ⟨by decide +kernel, zmem 996 (by decide +kernel), zmem 68 (by decide +kernel), ⟨by decide, by decide, by decide +kernel⟩, by decide⟩
theorem kM_hurt : zMok mM_hurt 0 := ⟨by decide +kernel, zmem 1000 (by decide +kernel), zmem 68 (by decide +kernel), ⟨by decide, by decide, by decide +kernel⟩, by decide⟩
theorem kM_stopped : zMok mM_stopped 1 := ⟨by decide +kernel, zmem 1004 (by decide +kernel), zmem 68 (by decide +kernel), ⟨by decide, by decide, by decide +kernel⟩, by decide⟩
theorem kM_isBarred : zMok mM_isBarred 3 := ⟨by decide +kernel, zmem 1008 (by decide +kernel), zmem 68 (by decide +kernel), ⟨by decide, by decide, by decide +kernel⟩, by decide⟩
theorem kM_toOpen : zMok mM_toOpen 0 := ⟨by decide +kernel, zmem 1012 (by decide +kernel), zmem 68 (by decide +kernel), ⟨by decide, by decide, by decide +kernel⟩, by decide⟩
theorem kM_homes : zMok mM_homes 1 := ⟨by decide +kernel, zmem 1016 (by decide +kernel), zmem 68 (by decide +kernel), ⟨by decide, by decide, by decide +kernel⟩, by decide⟩
theorem kM_isAhead : zMok mM_isAhead 0 := ⟨by decide +kernel, zmem 1020 (by decide +kernel), zmem 68 (by decide +kernel), ⟨by decide, by decide, by decide +kernel⟩, by decide⟩
theorem kM_doorAt : zMok mM_doorAt 1 := ⟨by decide +kernel, zmem 1024 (by decide +kernel), zmem 68 (by decide +kernel), ⟨by decide, by decide, by decide +kernel⟩, by decide⟩
theorem kM_fair : zMok mM_fair 2 := ⟨by decide +kernel, zmem 1028 (by decide +kernel), zmem 68 (by decide +kernel), ⟨by decide, by decide, by decide +kernel⟩, by decide⟩
theorem kM_part : zMok mM_part 3 := ⟨by decide +kernel, zmem 1031 (by decide +kernel), zmem 68 (by decide +kernel), ⟨by decide, by decide, by decide +kernel⟩, by decide⟩
theorem kM_coffin : zMok mM_coffin 1 := ⟨by decide +kernel, zmem 1035 (by decide +kernel), zmem 68 (by decide +kernel), ⟨by decide, by decide, by decide +kernel⟩, by decide⟩
theorem kM_hats : zMok mM_hats 2 := ⟨by decide +kernel, zmem 1039 (by decide +kernel), zmem 68 (by decide +kernel), ⟨by decide, by decide, by decide +kernel⟩, by decide⟩
theorem kM_forget : zMok mM_forget 0 := ⟨by decide +kernel, zmem 1043 (by decide +kernel), zmem 68 (by decide +kernel), ⟨by decide, by decide, by decide +kernel⟩, by decide⟩
theorem kM_who : zMok mM_who 0 := ⟨by decide +kernel, zmem 1047 (by decide +kernel), zmem 68 (by decide +kernel), ⟨by decide, by decide, by decide +kernel⟩, by decide⟩
theorem kM_isSo : zMok mM_isSo 3 := ⟨by decide +kernel, zmem 1051 (by decide +kernel), zmem 68 (by decide +kernel), ⟨by decide, by decide, by decide +kernel⟩, by decide⟩
theorem kM_outAt : zMok mM_outAt 3 := ⟨by decide +kernel, zmem 1055 (by decide +kernel), zmem 68 (by decide +kernel), ⟨by decide, by decide, by decide +kernel⟩, by decide⟩
theorem kM_inAt : zMok mM_inAt 3 := ⟨by decide +kernel, zmem 1059 (by decide +kernel), zmem 68 (by decide +kernel), ⟨by decide, by decide, by decide +kernel⟩, by decide⟩
theorem kM_bread : zMok mM_bread 0 := ⟨by decide +kernel, zmem 1063 (by decide +kernel), zmem 68 (by decide +kernel), ⟨by decide, by decide, by decide +kernel⟩, by decide⟩
theorem kM_meet : zMok mM_meet 4 := ⟨by decide +kernel, zmem 1067 (by decide +kernel), zmem 68 (by decide +kernel), ⟨by decide, by decide, by decide +kernel⟩, by decide⟩
theorem kM_odds : zMok mM_odds 3 := ⟨by decide +kernel, zmem 1071 (by decide +kernel), zmem 68 (by decide +kernel), ⟨by decide, by decide, by decide +kernel⟩, by decide⟩
theorem kM_mark : zMok mM_mark 2 := ⟨by decide +kernel, zmem 1075 (by decide +kernel), zmem 68 (by decide +kernel), ⟨by decide, by decide, by decide +kernel⟩, by decide⟩
theorem kM_keep : zMok mM_keep 1 := ⟨by decide +kernel, zmem 1085 (by decide +kernel), zmem 68 (by decide +kernel), ⟨by decide, by decide, by decide +kernel⟩, by decide⟩
theorem kM_back : zMok mM_back 1 := ⟨by decide +kernel, zmem 1089 (by decide +kernel), zmem 68 (by decide +kernel), ⟨by decide, by decide, by decide +kernel⟩, by decide⟩
theorem kM_count : zMok mM_count 1 := ⟨by decide +kernel, zmem 1093 (by decide +kernel), zmem 68 (by decide +kernel), ⟨by decide, by decide, by decide +kernel⟩, by decide⟩
theorem kM_trace : zMok mM_trace 0 := ⟨by decide +kernel, zmem 1097 (by decide +kernel), zmem 68 (by decide +kernel), ⟨by decide, by decide, by decide +kernel⟩, by decide⟩
def ztab (c : Nat) (y : zM) : Nat → Option zM := fun ci => if ci = c then some y else none
theorem ztab_self (c : Nat) (y : zM) : ztab c y c = some y := if_pos rfl
def zsup (cs : List Nat) (y : zM) : Nat → Option zM := fun ci => if ci ∈ cs then some y else none
theorem zV_own {md y : zM} {idx n ci k : Nat} {C : String} {T : u_T} (hm : zMok y n) (hC : zCl[ci]? = some (C, T, k)) (hcls : y.1.cls = C) (v1 : Cond.methodLink md.1.cls idx y.1 ∈ zgt) (v2 : Cond.instanceMethod y.1 ∈ zgt) (v3 : Cond.selects C y.1 y.1 ∈ zgt) : ∀ c z, ztab ci y c = some z → zMok z n ∧ ∃ C T k, zCl[c]? = some (C, T, k) ∧ zV1 md idx y.1 z.1 C := by
  intro c z h
  unfold ztab at h
  split at h
  · rename_i e
    cases h
    subst e
    exact ⟨hm, C, T, k, hC, Or.inl ⟨rfl, hcls, v1, v2, v3⟩⟩
  · cases h
theorem oqD1 {md : zM} (hc : md.1.cls = "OneDoor") {pc : Nat} (hd : decode md.2.1 pc = .ok (.invokespecial 1, 3)) : zS md pc (pc + 3) i_obj := n_obj (by rw [hc]; exact zmem 77 (by decide +kernel)) (zmem 78 (by decide +kernel)) (zmem 79 (by decide +kernel)) hd
theorem wqD7 {md : zM} (hc : md.1.cls = "OneDoor") {pc : Nat} (hd : decode md.2.1 pc = .ok (.new 7, 3)) : zS md pc (pc + 3) (i_new 9 [.null, .int 0, .int 0, .int 0, .int 0, .int 0, .int 0, .int 0]) := n_new (C := "OneDoor$Reader") (T := zT9) (n := 8) rfl (by rw [hc]; exact zmem 80 (by decide +kernel)) rfl (by decide) zT9y zT9p (by decide) hd
theorem iqD9 {md : zM} (hc : md.1.cls = "OneDoor") {pc : Nat} (hd : decode md.2.1 pc = .ok (.invokespecial 9, 3)) : zS md pc (pc + 3) (i_callI mR_init 0) := n_callIN (host := "OneDoor") kR_init rfl rfl (fun U h => by rw [hc]; exact h.1) (zmem 83 (by decide +kernel)) hd
theorem pqD10 {md : zM} (hc : md.1.cls = "OneDoor") (hi : md.1.name = "<init>") {pc : Nat} (hd : decode md.2.1 pc = .ok (.putfield 10, 3)) : zS md pc (pc + 3) (i_putf 11 0 3) := n_putf (C0 := "OneDoor") (T := zT11) (n := 12) (ref := "OneDoor") (dc := "OneDoor") (nm := "reader") (ds := "LOneDoor$Reader;") (fn := true) (ty := (.object "OneDoor$Reader")) rfl (by decide) rfl (by rw [hc]; exact zmem 347 (by decide +kernel)) (Or.inl rfl) (Or.inr ⟨hi, hc.symm⟩) (by decide +kernel) (Or.inr (Or.inr (Or.inr ⟨rfl, Or.inl ⟨_, rfl⟩⟩))) hd
theorem wqD16 {md : zM} (hc : md.1.cls = "OneDoor") {pc : Nat} (hd : decode md.2.1 pc = .ok (.new 16, 3)) : zS md pc (pc + 3) (i_new 10 [.null, .null, .null, .null, .int 0, .int 0, .int 0, .int 0]) := n_new (C := "OneDoor$Told") (T := zT10) (n := 8) rfl (by rw [hc]; exact zmem 114 (by decide +kernel)) rfl (by decide) zT10y zT10p (by decide) hd
theorem iqD18 {md : zM} (hc : md.1.cls = "OneDoor") {pc : Nat} (hd : decode md.2.1 pc = .ok (.invokespecial 18, 3)) : zS md pc (pc + 3) (i_callI mT_init 0) := n_callIN (host := "OneDoor") kT_init rfl rfl (fun U h => by rw [hc]; exact h.2.1) (zmem 117 (by decide +kernel)) hd
theorem pqD19 {md : zM} (hc : md.1.cls = "OneDoor") (hi : md.1.name = "<init>") {pc : Nat} (hd : decode md.2.1 pc = .ok (.putfield 19, 3)) : zS md pc (pc + 3) (i_putf 11 1 3) := n_putf (C0 := "OneDoor") (T := zT11) (n := 12) (ref := "OneDoor") (dc := "OneDoor") (nm := "draft") (ds := "LOneDoor$Told;") (fn := true) (ty := (.object "OneDoor$Told")) rfl (by decide) rfl (by rw [hc]; exact zmem 348 (by decide +kernel)) (Or.inl rfl) (Or.inr ⟨hi, hc.symm⟩) (by decide +kernel) (Or.inr (Or.inr (Or.inr ⟨rfl, Or.inl ⟨_, rfl⟩⟩))) hd
theorem pqD23 {md : zM} (hc : md.1.cls = "OneDoor") (hi : md.1.name = "<init>") {pc : Nat} (hd : decode md.2.1 pc = .ok (.putfield 23, 3)) : zS md pc (pc + 3) (i_putf 11 2 3) := n_putf (C0 := "OneDoor") (T := zT11) (n := 12) (ref := "OneDoor") (dc := "OneDoor") (nm := "told") (ds := "LOneDoor$Told;") (fn := true) (ty := (.object "OneDoor$Told")) rfl (by decide) rfl (by rw [hc]; exact zmem 349 (by decide +kernel)) (Or.inl rfl) (Or.inr ⟨hi, hc.symm⟩) (by decide +kernel) (Or.inr (Or.inr (Or.inr ⟨rfl, Or.inl ⟨_, rfl⟩⟩))) hd
theorem wqD26 {md : zM} (hc : md.1.cls = "OneDoor") {pc : Nat} (hd : decode md.2.1 pc = .ok (.new 26, 3)) : zS md pc (pc + 3) (i_new 5 [.null, .null, .int 0]) := n_new (C := "OneDoor$Life") (T := zT5) (n := 3) rfl (by rw [hc]; exact zmem 168 (by decide +kernel)) rfl (by decide) zT5y zT5p (by decide) hd
theorem iqD28 {md : zM} (hc : md.1.cls = "OneDoor") {pc : Nat} (hd : decode md.2.1 pc = .ok (.invokespecial 28, 3)) : zS md pc (pc + 3) (i_callI mL_init 0) := n_callI kL_init rfl rfl (by rw [hc]; exact zmem 170 (by decide +kernel)) (zmem 171 (by decide +kernel)) hd
theorem pqD29 {md : zM} (hc : md.1.cls = "OneDoor") (hi : md.1.name = "<init>") {pc : Nat} (hd : decode md.2.1 pc = .ok (.putfield 29, 3)) : zS md pc (pc + 3) (i_putf 11 3 3) := n_putf (C0 := "OneDoor") (T := zT11) (n := 12) (ref := "OneDoor") (dc := "OneDoor") (nm := "life") (ds := "LOneDoor$Life;") (fn := true) (ty := (.object "OneDoor$Life")) rfl (by decide) rfl (by rw [hc]; exact zmem 350 (by decide +kernel)) (Or.inl rfl) (Or.inr ⟨hi, hc.symm⟩) (by decide +kernel) (Or.inr (Or.inr (Or.inr ⟨rfl, Or.inl ⟨_, rfl⟩⟩))) hd
theorem gqD29 {md : zM} (hc : md.1.cls = "OneDoor") {pc : Nat} (hd : decode md.2.1 pc = .ok (.getfield 29, 3)) : zS md pc (pc + 3) (i_getf 11 3) := n_getf (C0 := "OneDoor") (T := zT11) (n := 12) (ref := "OneDoor") (dc := "OneDoor") (nm := "life") (ds := "LOneDoor$Life;") (fn := true) rfl (by decide) rfl (by rw [hc]; exact zmem 350 (by decide +kernel)) (Or.inl rfl) hd
theorem gqD33 {md : zM} (hc : md.1.cls = "OneDoor") {pc : Nat} (hd : decode md.2.1 pc = .ok (.getfield 33, 3)) : zS md pc (pc + 3) (i_getf 5 0) := n_getf (C0 := "OneDoor$Life") (T := zT5) (n := 3) (ref := "OneDoor$Life") (dc := "OneDoor$Life") (nm := "state") (ds := "LOneDoor$Now;") (fn := true) rfl (by decide) rfl (by rw [hc]; exact zmem 218 (by decide +kernel)) (Or.inl rfl) hd
theorem pqD37 {md : zM} (hc : md.1.cls = "OneDoor") (hi : md.1.name = "<init>") {pc : Nat} (hd : decode md.2.1 pc = .ok (.putfield 37, 3)) : zS md pc (pc + 3) (i_putf 11 4 3) := n_putf (C0 := "OneDoor") (T := zT11) (n := 12) (ref := "OneDoor") (dc := "OneDoor") (nm := "state") (ds := "LOneDoor$Now;") (fn := true) (ty := (.object "OneDoor$Now")) rfl (by decide) rfl (by rw [hc]; exact zmem 351 (by decide +kernel)) (Or.inl rfl) (Or.inr ⟨hi, hc.symm⟩) (by decide +kernel) (Or.inr (Or.inr (Or.inr ⟨rfl, Or.inl ⟨_, rfl⟩⟩))) hd
theorem aqD26 {md : zM} (hc : md.1.cls = "OneDoor") {pc : Nat} (hd : decode md.2.1 pc = .ok (.anewarray 26, 3)) : zS md pc (pc + 3) (i_anew 4) := n_anew (C := "OneDoor$Life") (by rw [hc]; exact zmem 168 (by decide +kernel)) (fun U h => h.2.2.2.2.1) (fun _ => rfl) hd
theorem pqD38 {md : zM} (hc : md.1.cls = "OneDoor") (hi : md.1.name = "<init>") {pc : Nat} (hd : decode md.2.1 pc = .ok (.putfield 38, 3)) : zS md pc (pc + 3) (i_putf 11 5 3) := n_putf (C0 := "OneDoor") (T := zT11) (n := 12) (ref := "OneDoor") (dc := "OneDoor") (nm := "images") (ds := "[LOneDoor$Life;") (fn := true) (ty := (.array (.object "OneDoor$Life"))) rfl (by decide) rfl (by rw [hc]; exact zmem 352 (by decide +kernel)) (Or.inl rfl) (Or.inr ⟨hi, hc.symm⟩) (by decide +kernel) (Or.inr (Or.inr (Or.inr ⟨rfl, Or.inr ⟨_, rfl⟩⟩))) hd
theorem gqD38 {md : zM} (hc : md.1.cls = "OneDoor") {pc : Nat} (hd : decode md.2.1 pc = .ok (.getfield 38, 3)) : zS md pc (pc + 3) (i_getf 11 5) := n_getf (C0 := "OneDoor") (T := zT11) (n := 12) (ref := "OneDoor") (dc := "OneDoor") (nm := "images") (ds := "[LOneDoor$Life;") (fn := true) rfl (by decide) rfl (by rw [hc]; exact zmem 352 (by decide +kernel)) (Or.inl rfl) hd
theorem pqD42 {md : zM} (hc : md.1.cls = "OneDoor") (hi : md.1.name = "<init>") {pc : Nat} (hd : decode md.2.1 pc = .ok (.putfield 42, 3)) : zS md pc (pc + 3) (i_putf 11 6 3) := n_putf (C0 := "OneDoor") (T := zT11) (n := 12) (ref := "OneDoor") (dc := "OneDoor") (nm := "kept") (ds := "[Z") (fn := true) (ty := (.array .boolean)) rfl (by decide) rfl (by rw [hc]; exact zmem 353 (by decide +kernel)) (Or.inl rfl) (Or.inr ⟨hi, hc.symm⟩) (by decide +kernel) (Or.inr (Or.inr (Or.inr ⟨rfl, Or.inr ⟨_, rfl⟩⟩))) hd
theorem wqD46 {md : zM} (hc : md.1.cls = "OneDoor") {pc : Nat} (hd : decode md.2.1 pc = .ok (.new 46, 3)) : zS md pc (pc + 3) (i_new 8 [.null, .null, .null, .null, .null, .null, .int 0]) := n_new (C := "OneDoor$Plan") (T := zT8) (n := 7) rfl (by rw [hc]; exact zmem 230 (by decide +kernel)) rfl (by decide) zT8y zT8p (by decide) hd
theorem gqD23 {md : zM} (hc : md.1.cls = "OneDoor") {pc : Nat} (hd : decode md.2.1 pc = .ok (.getfield 23, 3)) : zS md pc (pc + 3) (i_getf 11 2) := n_getf (C0 := "OneDoor") (T := zT11) (n := 12) (ref := "OneDoor") (dc := "OneDoor") (nm := "told") (ds := "LOneDoor$Told;") (fn := true) rfl (by decide) rfl (by rw [hc]; exact zmem 349 (by decide +kernel)) (Or.inl rfl) hd
theorem gqD37 {md : zM} (hc : md.1.cls = "OneDoor") {pc : Nat} (hd : decode md.2.1 pc = .ok (.getfield 37, 3)) : zS md pc (pc + 3) (i_getf 11 4) := n_getf (C0 := "OneDoor") (T := zT11) (n := 12) (ref := "OneDoor") (dc := "OneDoor") (nm := "state") (ds := "LOneDoor$Now;") (fn := true) rfl (by decide) rfl (by rw [hc]; exact zmem 351 (by decide +kernel)) (Or.inl rfl) hd
theorem iqD48 {md : zM} (hc : md.1.cls = "OneDoor") {pc : Nat} (hd : decode md.2.1 pc = .ok (.invokespecial 48, 3)) : zS md pc (pc + 3) (i_callI mP_init 2) := n_callI kP_init rfl rfl (by rw [hc]; exact zmem 232 (by decide +kernel)) (zmem 233 (by decide +kernel)) hd
theorem pqD51 {md : zM} (hc : md.1.cls = "OneDoor") (hi : md.1.name = "<init>") {pc : Nat} (hd : decode md.2.1 pc = .ok (.putfield 51, 3)) : zS md pc (pc + 3) (i_putf 11 7 3) := n_putf (C0 := "OneDoor") (T := zT11) (n := 12) (ref := "OneDoor") (dc := "OneDoor") (nm := "plan") (ds := "LOneDoor$Plan;") (fn := true) (ty := (.object "OneDoor$Plan")) rfl (by decide) rfl (by rw [hc]; exact zmem 354 (by decide +kernel)) (Or.inl rfl) (Or.inr ⟨hi, hc.symm⟩) (by decide +kernel) (Or.inr (Or.inr (Or.inr ⟨rfl, Or.inl ⟨_, rfl⟩⟩))) hd
theorem pqD55 {md : zM} (hc : md.1.cls = "OneDoor") (hi : md.1.name = "<init>") {pc : Nat} (hd : decode md.2.1 pc = .ok (.putfield 55, 3)) : zS md pc (pc + 3) (i_putf 11 8 3) := n_putf (C0 := "OneDoor") (T := zT11) (n := 12) (ref := "OneDoor") (dc := "OneDoor") (nm := "hatHouse") (ds := "[I") (fn := true) (ty := (.array .int)) rfl (by decide) rfl (by rw [hc]; exact zmem 355 (by decide +kernel)) (Or.inl rfl) (Or.inr ⟨hi, hc.symm⟩) (by decide +kernel) (Or.inr (Or.inr (Or.inr ⟨rfl, Or.inr ⟨_, rfl⟩⟩))) hd
theorem pqD59 {md : zM} (hc : md.1.cls = "OneDoor") (hi : md.1.name = "<init>") {pc : Nat} (hd : decode md.2.1 pc = .ok (.putfield 59, 3)) : zS md pc (pc + 3) (i_putf 11 9 3) := n_putf (C0 := "OneDoor") (T := zT11) (n := 12) (ref := "OneDoor") (dc := "OneDoor") (nm := "hatMinute") (ds := "[I") (fn := true) (ty := (.array .int)) rfl (by decide) rfl (by rw [hc]; exact zmem 356 (by decide +kernel)) (Or.inl rfl) (Or.inr ⟨hi, hc.symm⟩) (by decide +kernel) (Or.inr (Or.inr (Or.inr ⟨rfl, Or.inr ⟨_, rfl⟩⟩))) hd
theorem aqD62 {md : zM} (hc : md.1.cls = "OneDoor") {pc : Nat} (hd : decode md.2.1 pc = .ok (.anewarray 62, 3)) : zS md pc (pc + 3) (i_anew 5) := n_anew (C := "OneDoor$Hall") (by rw [hc]; exact zmem 261 (by decide +kernel)) (fun U h => h.2.2.2.2.2.1) (fun _ => rfl) hd
theorem wqD62 {md : zM} (hc : md.1.cls = "OneDoor") {pc : Nat} (hd : decode md.2.1 pc = .ok (.new 62, 3)) : zS md pc (pc + 3) (i_new 3 [.null, .null, .long 0]) := n_new (C := "OneDoor$Hall") (T := zT3) (n := 3) rfl (by rw [hc]; exact zmem 261 (by decide +kernel)) rfl (by decide) zT3y zT3p (by decide) hd
theorem iqD64 {md : zM} (hc : md.1.cls = "OneDoor") {pc : Nat} (hd : decode md.2.1 pc = .ok (.invokespecial 64, 3)) : zS md pc (pc + 3) (i_callI mH_init 2) := n_callI kH_init rfl rfl (by rw [hc]; exact zmem 264 (by decide +kernel)) (zmem 265 (by decide +kernel)) hd
theorem wqD65 {md : zM} (hc : md.1.cls = "OneDoor") {pc : Nat} (hd : decode md.2.1 pc = .ok (.new 65, 3)) : zS md pc (pc + 3) (i_new 4 [.null, .null, .long 0]) := n_new (C := "OneDoor$Kitchen") (T := zT3) (n := 3) rfl (by rw [hc]; exact zmem 297 (by decide +kernel)) rfl (by decide) zT3y zT3p (by decide) hd
theorem iqD67 {md : zM} (hc : md.1.cls = "OneDoor") {pc : Nat} (hd : decode md.2.1 pc = .ok (.invokespecial 67, 3)) : zS md pc (pc + 3) (i_callI mK_init 2) := n_callI kK_init rfl rfl (by rw [hc]; exact zmem 299 (by decide +kernel)) (zmem 300 (by decide +kernel)) hd
theorem wqD68 {md : zM} (hc : md.1.cls = "OneDoor") {pc : Nat} (hd : decode md.2.1 pc = .ok (.new 68, 3)) : zS md pc (pc + 3) (i_new 1 [.null, .null, .long 0]) := n_new (C := "OneDoor$Bath") (T := zT3) (n := 3) rfl (by rw [hc]; exact zmem 307 (by decide +kernel)) rfl (by decide) zT3y zT3p (by decide) hd
theorem iqD70 {md : zM} (hc : md.1.cls = "OneDoor") {pc : Nat} (hd : decode md.2.1 pc = .ok (.invokespecial 70, 3)) : zS md pc (pc + 3) (i_callI mB_init 2) := n_callI kB_init rfl rfl (by rw [hc]; exact zmem 309 (by decide +kernel)) (zmem 310 (by decide +kernel)) hd
theorem wqD71 {md : zM} (hc : md.1.cls = "OneDoor") {pc : Nat} (hd : decode md.2.1 pc = .ok (.new 71, 3)) : zS md pc (pc + 3) (i_new 7 [.null, .null, .long 0]) := n_new (C := "OneDoor$Piano") (T := zT3) (n := 3) rfl (by rw [hc]; exact zmem 317 (by decide +kernel)) rfl (by decide) zT3y zT3p (by decide) hd
theorem iqD73 {md : zM} (hc : md.1.cls = "OneDoor") {pc : Nat} (hd : decode md.2.1 pc = .ok (.invokespecial 73, 3)) : zS md pc (pc + 3) (i_callI mI_init 2) := n_callI kI_init rfl rfl (by rw [hc]; exact zmem 319 (by decide +kernel)) (zmem 320 (by decide +kernel)) hd
theorem wqD74 {md : zM} (hc : md.1.cls = "OneDoor") {pc : Nat} (hd : decode md.2.1 pc = .ok (.new 74, 3)) : zS md pc (pc + 3) (i_new 2 [.null, .null, .long 0]) := n_new (C := "OneDoor$Curtain") (T := zT3) (n := 3) rfl (by rw [hc]; exact zmem 327 (by decide +kernel)) rfl (by decide) zT3y zT3p (by decide) hd
theorem iqD76 {md : zM} (hc : md.1.cls = "OneDoor") {pc : Nat} (hd : decode md.2.1 pc = .ok (.invokespecial 76, 3)) : zS md pc (pc + 3) (i_callI mC_init 2) := n_callI kC_init rfl rfl (by rw [hc]; exact zmem 329 (by decide +kernel)) (zmem 330 (by decide +kernel)) hd
theorem wqD77 {md : zM} (hc : md.1.cls = "OneDoor") {pc : Nat} (hd : decode md.2.1 pc = .ok (.new 77, 3)) : zS md pc (pc + 3) (i_new 0 [.null, .null, .long 0]) := n_new (C := "OneDoor$Attic") (T := zT3) (n := 3) rfl (by rw [hc]; exact zmem 337 (by decide +kernel)) rfl (by decide) zT3y zT3p (by decide) hd
theorem iqD79 {md : zM} (hc : md.1.cls = "OneDoor") {pc : Nat} (hd : decode md.2.1 pc = .ok (.invokespecial 79, 3)) : zS md pc (pc + 3) (i_callI mA_init 2) := n_callI kA_init rfl rfl (by rw [hc]; exact zmem 339 (by decide +kernel)) (zmem 340 (by decide +kernel)) hd
theorem pqD80 {md : zM} (hc : md.1.cls = "OneDoor") (hi : md.1.name = "<init>") {pc : Nat} (hd : decode md.2.1 pc = .ok (.putfield 80, 3)) : zS md pc (pc + 3) (i_putf 11 11 3) := n_putf (C0 := "OneDoor") (T := zT11) (n := 12) (ref := "OneDoor") (dc := "OneDoor") (nm := "kinds") (ds := "[LOneDoor$Hall;") (fn := true) (ty := (.array (.object "OneDoor$Hall"))) rfl (by decide) rfl (by rw [hc]; exact zmem 358 (by decide +kernel)) (Or.inl rfl) (Or.inr ⟨hi, hc.symm⟩) (by decide +kernel) (Or.inr (Or.inr (Or.inr ⟨rfl, Or.inr ⟨_, rfl⟩⟩))) hd
theorem oqR3 {md : zM} (hc : md.1.cls = "OneDoor$Reader") {pc : Nat} (hd : decode md.2.1 pc = .ok (.invokespecial 3, 3)) : zS md pc (pc + 3) i_obj := n_obj (by rw [hc]; exact zmem 85 (by decide +kernel)) (zmem 78 (by decide +kernel)) (zmem 79 (by decide +kernel)) hd
theorem pqR9 {md : zM} (hc : md.1.cls = "OneDoor$Reader") (hi : md.1.name = "<init>") {pc : Nat} (hd : decode md.2.1 pc = .ok (.putfield 9, 3)) : zS md pc (pc + 3) (i_putf 9 0 3) := n_putf (C0 := "OneDoor$Reader") (T := zT9) (n := 8) (ref := "OneDoor$Reader") (dc := "OneDoor$Reader") (nm := "text") (ds := "[I") (fn := true) (ty := (.array .int)) rfl (by decide) rfl (by rw [hc]; exact zmem 86 (by decide +kernel)) (Or.inl rfl) (Or.inr ⟨hi, hc.symm⟩) (by decide +kernel) (Or.inr (Or.inr (Or.inr ⟨rfl, Or.inr ⟨_, rfl⟩⟩))) hd
theorem oqT3 {md : zM} (hc : md.1.cls = "OneDoor$Told") {pc : Nat} (hd : decode md.2.1 pc = .ok (.invokespecial 3, 3)) : zS md pc (pc + 3) i_obj := n_obj (by rw [hc]; exact zmem 119 (by decide +kernel)) (zmem 78 (by decide +kernel)) (zmem 79 (by decide +kernel)) hd
theorem pqT9 {md : zM} (hc : md.1.cls = "OneDoor$Told") (hi : md.1.name = "<init>") {pc : Nat} (hd : decode md.2.1 pc = .ok (.putfield 9, 3)) : zS md pc (pc + 3) (i_putf 10 0 3) := n_putf (C0 := "OneDoor$Told") (T := zT10) (n := 8) (ref := "OneDoor$Told") (dc := "OneDoor$Told") (nm := "hall") (ds := "[I") (fn := true) (ty := (.array .int)) rfl (by decide) rfl (by rw [hc]; exact zmem 120 (by decide +kernel)) (Or.inl rfl) (Or.inr ⟨hi, hc.symm⟩) (by decide +kernel) (Or.inr (Or.inr (Or.inr ⟨rfl, Or.inr ⟨_, rfl⟩⟩))) hd
theorem pqT15 {md : zM} (hc : md.1.cls = "OneDoor$Told") (hi : md.1.name = "<init>") {pc : Nat} (hd : decode md.2.1 pc = .ok (.putfield 15, 3)) : zS md pc (pc + 3) (i_putf 10 1 3) := n_putf (C0 := "OneDoor$Told") (T := zT10) (n := 8) (ref := "OneDoor$Told") (dc := "OneDoor$Told") (nm := "home") (ds := "[I") (fn := true) (ty := (.array .int)) rfl (by decide) rfl (by rw [hc]; exact zmem 125 (by decide +kernel)) (Or.inl rfl) (Or.inr ⟨hi, hc.symm⟩) (by decide +kernel) (Or.inr (Or.inr (Or.inr ⟨rfl, Or.inr ⟨_, rfl⟩⟩))) hd
theorem pqT18 {md : zM} (hc : md.1.cls = "OneDoor$Told") (hi : md.1.name = "<init>") {pc : Nat} (hd : decode md.2.1 pc = .ok (.putfield 18, 3)) : zS md pc (pc + 3) (i_putf 10 2 3) := n_putf (C0 := "OneDoor$Told") (T := zT10) (n := 8) (ref := "OneDoor$Told") (dc := "OneDoor$Told") (nm := "errands") (ds := "[I") (fn := true) (ty := (.array .int)) rfl (by decide) rfl (by rw [hc]; exact zmem 128 (by decide +kernel)) (Or.inl rfl) (Or.inr ⟨hi, hc.symm⟩) (by decide +kernel) (Or.inr (Or.inr (Or.inr ⟨rfl, Or.inr ⟨_, rfl⟩⟩))) hd
theorem pqT21 {md : zM} (hc : md.1.cls = "OneDoor$Told") (hi : md.1.name = "<init>") {pc : Nat} (hd : decode md.2.1 pc = .ok (.putfield 21, 3)) : zS md pc (pc + 3) (i_putf 10 3 3) := n_putf (C0 := "OneDoor$Told") (T := zT10) (n := 8) (ref := "OneDoor$Told") (dc := "OneDoor$Told") (nm := "patience") (ds := "[I") (fn := true) (ty := (.array .int)) rfl (by decide) rfl (by rw [hc]; exact zmem 132 (by decide +kernel)) (Or.inl rfl) (Or.inr ⟨hi, hc.symm⟩) (by decide +kernel) (Or.inr (Or.inr (Or.inr ⟨rfl, Or.inr ⟨_, rfl⟩⟩))) hd
theorem pqT24 {md : zM} (hc : md.1.cls = "OneDoor$Told") {pc : Nat} (hd : decode md.2.1 pc = .ok (.putfield 24, 3)) : zS md pc (pc + 3) (i_putf 10 6 0) := n_putf (C0 := "OneDoor$Told") (T := zT10) (n := 8) (ref := "OneDoor$Told") (dc := "OneDoor$Told") (nm := "tax") (ds := "I") (fn := false) (ty := .int) rfl (by decide) rfl (by rw [hc]; exact zmem 145 (by decide +kernel)) (Or.inl rfl) (Or.inl rfl) (by decide +kernel) (Or.inl ⟨rfl, rfl⟩) hd
theorem pqT28 {md : zM} (hc : md.1.cls = "OneDoor$Told") {pc : Nat} (hd : decode md.2.1 pc = .ok (.putfield 28, 3)) : zS md pc (pc + 3) (i_putf 10 7 0) := n_putf (C0 := "OneDoor$Told") (T := zT10) (n := 8) (ref := "OneDoor$Told") (dc := "OneDoor$Told") (nm := "warm") (ds := "I") (fn := false) (ty := .int) rfl (by decide) rfl (by rw [hc]; exact zmem 148 (by decide +kernel)) (Or.inl rfl) (Or.inl rfl) (by decide +kernel) (Or.inl ⟨rfl, rfl⟩) hd
theorem oqL3 {md : zM} (hc : md.1.cls = "OneDoor$Life") {pc : Nat} (hd : decode md.2.1 pc = .ok (.invokespecial 3, 3)) : zS md pc (pc + 3) i_obj := n_obj (by rw [hc]; exact zmem 173 (by decide +kernel)) (zmem 78 (by decide +kernel)) (zmem 79 (by decide +kernel)) hd
theorem wqL9 {md : zM} (hc : md.1.cls = "OneDoor$Life") {pc : Nat} (hd : decode md.2.1 pc = .ok (.new 9, 3)) : zS md pc (pc + 3) (i_new 6 [.null, .null, .null, .int 0, .int 0, .int 0, .int 0]) := n_new (C := "OneDoor$Now") (T := zT6) (n := 7) rfl (by rw [hc]; exact zmem 174 (by decide +kernel)) rfl (by decide) zT6y zT6p (by decide) hd
theorem iqL11 {md : zM} (hc : md.1.cls = "OneDoor$Life") {pc : Nat} (hd : decode md.2.1 pc = .ok (.invokespecial 11, 3)) : zS md pc (pc + 3) (i_callI mN_init 0) := n_callIN (host := "OneDoor") kN_init rfl rfl (fun U h => by rw [hc]; exact h.2.2.1) (zmem 177 (by decide +kernel)) hd
theorem pqL12 {md : zM} (hc : md.1.cls = "OneDoor$Life") (hi : md.1.name = "<init>") {pc : Nat} (hd : decode md.2.1 pc = .ok (.putfield 12, 3)) : zS md pc (pc + 3) (i_putf 5 0 3) := n_putf (C0 := "OneDoor$Life") (T := zT5) (n := 3) (ref := "OneDoor$Life") (dc := "OneDoor$Life") (nm := "state") (ds := "LOneDoor$Now;") (fn := true) (ty := (.object "OneDoor$Now")) rfl (by decide) rfl (by rw [hc]; exact zmem 217 (by decide +kernel)) (Or.inl rfl) (Or.inr ⟨hi, hc.symm⟩) (by decide +kernel) (Or.inr (Or.inr (Or.inr ⟨rfl, Or.inl ⟨_, rfl⟩⟩))) hd
theorem aqL9 {md : zM} (hc : md.1.cls = "OneDoor$Life") {pc : Nat} (hd : decode md.2.1 pc = .ok (.anewarray 9, 3)) : zS md pc (pc + 3) (i_anew 3) := n_anew (C := "OneDoor$Now") (by rw [hc]; exact zmem 174 (by decide +kernel)) (fun U h => h.2.2.2.1) (fun _ => rfl) hd
theorem pqL18 {md : zM} (hc : md.1.cls = "OneDoor$Life") (hi : md.1.name = "<init>") {pc : Nat} (hd : decode md.2.1 pc = .ok (.putfield 18, 3)) : zS md pc (pc + 3) (i_putf 5 1 3) := n_putf (C0 := "OneDoor$Life") (T := zT5) (n := 3) (ref := "OneDoor$Life") (dc := "OneDoor$Life") (nm := "before") (ds := "[LOneDoor$Now;") (fn := true) (ty := (.array (.object "OneDoor$Now"))) rfl (by decide) rfl (by rw [hc]; exact zmem 219 (by decide +kernel)) (Or.inl rfl) (Or.inr ⟨hi, hc.symm⟩) (by decide +kernel) (Or.inr (Or.inr (Or.inr ⟨rfl, Or.inr ⟨_, rfl⟩⟩))) hd
theorem gqL18 {md : zM} (hc : md.1.cls = "OneDoor$Life") {pc : Nat} (hd : decode md.2.1 pc = .ok (.getfield 18, 3)) : zS md pc (pc + 3) (i_getf 5 1) := n_getf (C0 := "OneDoor$Life") (T := zT5) (n := 3) (ref := "OneDoor$Life") (dc := "OneDoor$Life") (nm := "before") (ds := "[LOneDoor$Now;") (fn := true) rfl (by decide) rfl (by rw [hc]; exact zmem 219 (by decide +kernel)) (Or.inl rfl) hd
theorem oqN3 {md : zM} (hc : md.1.cls = "OneDoor$Now") {pc : Nat} (hd : decode md.2.1 pc = .ok (.invokespecial 3, 3)) : zS md pc (pc + 3) i_obj := n_obj (by rw [hc]; exact zmem 179 (by decide +kernel)) (zmem 78 (by decide +kernel)) (zmem 79 (by decide +kernel)) hd
theorem pqN9 {md : zM} (hc : md.1.cls = "OneDoor$Now") (hi : md.1.name = "<init>") {pc : Nat} (hd : decode md.2.1 pc = .ok (.putfield 9, 3)) : zS md pc (pc + 3) (i_putf 6 0 3) := n_putf (C0 := "OneDoor$Now") (T := zT6) (n := 7) (ref := "OneDoor$Now") (dc := "OneDoor$Now") (nm := "place") (ds := "[I") (fn := true) (ty := (.array .int)) rfl (by decide) rfl (by rw [hc]; exact zmem 180 (by decide +kernel)) (Or.inl rfl) (Or.inr ⟨hi, hc.symm⟩) (by decide +kernel) (Or.inr (Or.inr (Or.inr ⟨rfl, Or.inr ⟨_, rfl⟩⟩))) hd
theorem pqN15 {md : zM} (hc : md.1.cls = "OneDoor$Now") (hi : md.1.name = "<init>") {pc : Nat} (hd : decode md.2.1 pc = .ok (.putfield 15, 3)) : zS md pc (pc + 3) (i_putf 6 1 3) := n_putf (C0 := "OneDoor$Now") (T := zT6) (n := 7) (ref := "OneDoor$Now") (dc := "OneDoor$Now") (nm := "home") (ds := "[I") (fn := true) (ty := (.array .int)) rfl (by decide) rfl (by rw [hc]; exact zmem 182 (by decide +kernel)) (Or.inl rfl) (Or.inr ⟨hi, hc.symm⟩) (by decide +kernel) (Or.inr (Or.inr (Or.inr ⟨rfl, Or.inr ⟨_, rfl⟩⟩))) hd
theorem pqN18 {md : zM} (hc : md.1.cls = "OneDoor$Now") (hi : md.1.name = "<init>") {pc : Nat} (hd : decode md.2.1 pc = .ok (.putfield 18, 3)) : zS md pc (pc + 3) (i_putf 6 2 3) := n_putf (C0 := "OneDoor$Now") (T := zT6) (n := 7) (ref := "OneDoor$Now") (dc := "OneDoor$Now") (nm := "patience") (ds := "[I") (fn := true) (ty := (.array .int)) rfl (by decide) rfl (by rw [hc]; exact zmem 186 (by decide +kernel)) (Or.inl rfl) (Or.inr ⟨hi, hc.symm⟩) (by decide +kernel) (Or.inr (Or.inr (Or.inr ⟨rfl, Or.inr ⟨_, rfl⟩⟩))) hd
theorem pqN21 {md : zM} (hc : md.1.cls = "OneDoor$Now") {pc : Nat} (hd : decode md.2.1 pc = .ok (.putfield 21, 3)) : zS md pc (pc + 3) (i_putf 6 6 0) := n_putf (C0 := "OneDoor$Now") (T := zT6) (n := 7) (ref := "OneDoor$Now") (dc := "OneDoor$Now") (nm := "other") (ds := "I") (fn := false) (ty := .int) rfl (by decide) rfl (by rw [hc]; exact zmem 198 (by decide +kernel)) (Or.inl rfl) (Or.inl rfl) (by decide +kernel) (Or.inl ⟨rfl, rfl⟩) hd
theorem oqP3 {md : zM} (hc : md.1.cls = "OneDoor$Plan") {pc : Nat} (hd : decode md.2.1 pc = .ok (.invokespecial 3, 3)) : zS md pc (pc + 3) i_obj := n_obj (by rw [hc]; exact zmem 235 (by decide +kernel)) (zmem 78 (by decide +kernel)) (zmem 79 (by decide +kernel)) hd
theorem pqP9 {md : zM} (hc : md.1.cls = "OneDoor$Plan") (hi : md.1.name = "<init>") {pc : Nat} (hd : decode md.2.1 pc = .ok (.putfield 9, 3)) : zS md pc (pc + 3) (i_putf 8 2 3) := n_putf (C0 := "OneDoor$Plan") (T := zT8) (n := 7) (ref := "OneDoor$Plan") (dc := "OneDoor$Plan") (nm := "cost") (ds := "[I") (fn := true) (ty := (.array .int)) rfl (by decide) rfl (by rw [hc]; exact zmem 238 (by decide +kernel)) (Or.inl rfl) (Or.inr ⟨hi, hc.symm⟩) (by decide +kernel) (Or.inr (Or.inr (Or.inr ⟨rfl, Or.inr ⟨_, rfl⟩⟩))) hd
theorem pqP15 {md : zM} (hc : md.1.cls = "OneDoor$Plan") (hi : md.1.name = "<init>") {pc : Nat} (hd : decode md.2.1 pc = .ok (.putfield 15, 3)) : zS md pc (pc + 3) (i_putf 8 3 3) := n_putf (C0 := "OneDoor$Plan") (T := zT8) (n := 7) (ref := "OneDoor$Plan") (dc := "OneDoor$Plan") (nm := "left") (ds := "[I") (fn := true) (ty := (.array .int)) rfl (by decide) rfl (by rw [hc]; exact zmem 239 (by decide +kernel)) (Or.inl rfl) (Or.inr ⟨hi, hc.symm⟩) (by decide +kernel) (Or.inr (Or.inr (Or.inr ⟨rfl, Or.inr ⟨_, rfl⟩⟩))) hd
theorem pqP18 {md : zM} (hc : md.1.cls = "OneDoor$Plan") (hi : md.1.name = "<init>") {pc : Nat} (hd : decode md.2.1 pc = .ok (.putfield 18, 3)) : zS md pc (pc + 3) (i_putf 8 4 3) := n_putf (C0 := "OneDoor$Plan") (T := zT8) (n := 7) (ref := "OneDoor$Plan") (dc := "OneDoor$Plan") (nm := "given") (ds := "[I") (fn := true) (ty := (.array .int)) rfl (by decide) rfl (by rw [hc]; exact zmem 240 (by decide +kernel)) (Or.inl rfl) (Or.inr ⟨hi, hc.symm⟩) (by decide +kernel) (Or.inr (Or.inr (Or.inr ⟨rfl, Or.inr ⟨_, rfl⟩⟩))) hd
theorem pqP21 {md : zM} (hc : md.1.cls = "OneDoor$Plan") (hi : md.1.name = "<init>") {pc : Nat} (hd : decode md.2.1 pc = .ok (.putfield 21, 3)) : zS md pc (pc + 3) (i_putf 8 5 3) := n_putf (C0 := "OneDoor$Plan") (T := zT8) (n := 7) (ref := "OneDoor$Plan") (dc := "OneDoor$Plan") (nm := "best") (ds := "[I") (fn := true) (ty := (.array .int)) rfl (by decide) rfl (by rw [hc]; exact zmem 241 (by decide +kernel)) (Or.inl rfl) (Or.inr ⟨hi, hc.symm⟩) (by decide +kernel) (Or.inr (Or.inr (Or.inr ⟨rfl, Or.inr ⟨_, rfl⟩⟩))) hd
theorem pqP24 {md : zM} (hc : md.1.cls = "OneDoor$Plan") (hi : md.1.name = "<init>") {pc : Nat} (hd : decode md.2.1 pc = .ok (.putfield 24, 3)) : zS md pc (pc + 3) (i_putf 8 0 3) := n_putf (C0 := "OneDoor$Plan") (T := zT8) (n := 7) (ref := "OneDoor$Plan") (dc := "OneDoor$Plan") (nm := "told") (ds := "LOneDoor$Told;") (fn := true) (ty := (.object "OneDoor$Told")) rfl (by decide) rfl (by rw [hc]; exact zmem 236 (by decide +kernel)) (Or.inl rfl) (Or.inr ⟨hi, hc.symm⟩) (by decide +kernel) (Or.inr (Or.inr (Or.inr ⟨rfl, Or.inl ⟨_, rfl⟩⟩))) hd
theorem pqP28 {md : zM} (hc : md.1.cls = "OneDoor$Plan") (hi : md.1.name = "<init>") {pc : Nat} (hd : decode md.2.1 pc = .ok (.putfield 28, 3)) : zS md pc (pc + 3) (i_putf 8 1 3) := n_putf (C0 := "OneDoor$Plan") (T := zT8) (n := 7) (ref := "OneDoor$Plan") (dc := "OneDoor$Plan") (nm := "state") (ds := "LOneDoor$Now;") (fn := true) (ty := (.object "OneDoor$Now")) rfl (by decide) rfl (by rw [hc]; exact zmem 237 (by decide +kernel)) (Or.inl rfl) (Or.inr ⟨hi, hc.symm⟩) (by decide +kernel) (Or.inr (Or.inr (Or.inr ⟨rfl, Or.inl ⟨_, rfl⟩⟩))) hd
theorem oqH1 {md : zM} (hc : md.1.cls = "OneDoor$Hall") {pc : Nat} (hd : decode md.2.1 pc = .ok (.invokespecial 1, 3)) : zS md pc (pc + 3) i_obj := n_obj (by rw [hc]; exact zmem 267 (by decide +kernel)) (zmem 78 (by decide +kernel)) (zmem 79 (by decide +kernel)) hd
theorem pqH7 {md : zM} (hc : md.1.cls = "OneDoor$Hall") (hi : md.1.name = "<init>") {pc : Nat} (hd : decode md.2.1 pc = .ok (.putfield 7, 3)) : zS md pc (pc + 3) (i_putf 3 0 3) := n_putf (C0 := "OneDoor$Hall") (T := zT3) (n := 3) (ref := "OneDoor$Hall") (dc := "OneDoor$Hall") (nm := "told") (ds := "LOneDoor$Told;") (fn := true) (ty := (.object "OneDoor$Told")) rfl (by decide) rfl (by rw [hc]; exact zmem 268 (by decide +kernel)) (Or.inl rfl) (Or.inr ⟨hi, hc.symm⟩) (by decide +kernel) (Or.inr (Or.inr (Or.inr ⟨rfl, Or.inl ⟨_, rfl⟩⟩))) hd
theorem pqH13 {md : zM} (hc : md.1.cls = "OneDoor$Hall") (hi : md.1.name = "<init>") {pc : Nat} (hd : decode md.2.1 pc = .ok (.putfield 13, 3)) : zS md pc (pc + 3) (i_putf 3 1 3) := n_putf (C0 := "OneDoor$Hall") (T := zT3) (n := 3) (ref := "OneDoor$Hall") (dc := "OneDoor$Hall") (nm := "state") (ds := "LOneDoor$Now;") (fn := true) (ty := (.object "OneDoor$Now")) rfl (by decide) rfl (by rw [hc]; exact zmem 271 (by decide +kernel)) (Or.inl rfl) (Or.inr ⟨hi, hc.symm⟩) (by decide +kernel) (Or.inr (Or.inr (Or.inr ⟨rfl, Or.inl ⟨_, rfl⟩⟩))) hd
theorem iqK1 {md : zM} (hc : md.1.cls = "OneDoor$Kitchen") {pc : Nat} (hd : decode md.2.1 pc = .ok (.invokespecial 1, 3)) : zS md pc (pc + 3) (i_callI mH_init 2) := n_callI kH_init rfl rfl (by rw [hc]; exact zmem 302 (by decide +kernel)) (zmem 265 (by decide +kernel)) hd
theorem iqB1 {md : zM} (hc : md.1.cls = "OneDoor$Bath") {pc : Nat} (hd : decode md.2.1 pc = .ok (.invokespecial 1, 3)) : zS md pc (pc + 3) (i_callI mH_init 2) := n_callI kH_init rfl rfl (by rw [hc]; exact zmem 312 (by decide +kernel)) (zmem 265 (by decide +kernel)) hd
theorem iqI1 {md : zM} (hc : md.1.cls = "OneDoor$Piano") {pc : Nat} (hd : decode md.2.1 pc = .ok (.invokespecial 1, 3)) : zS md pc (pc + 3) (i_callI mK_init 2) := n_callI kK_init rfl rfl (by rw [hc]; exact zmem 322 (by decide +kernel)) (zmem 300 (by decide +kernel)) hd
theorem iqC1 {md : zM} (hc : md.1.cls = "OneDoor$Curtain") {pc : Nat} (hd : decode md.2.1 pc = .ok (.invokespecial 1, 3)) : zS md pc (pc + 3) (i_callI mB_init 2) := n_callI kB_init rfl rfl (by rw [hc]; exact zmem 332 (by decide +kernel)) (zmem 310 (by decide +kernel)) hd
theorem iqA1 {md : zM} (hc : md.1.cls = "OneDoor$Attic") {pc : Nat} (hd : decode md.2.1 pc = .ok (.invokespecial 1, 3)) : zS md pc (pc + 3) (i_callI mH_init 2) := n_callI kH_init rfl rfl (by rw [hc]; exact zmem 342 (by decide +kernel)) (zmem 265 (by decide +kernel)) hd
theorem gqD10 {md : zM} (hc : md.1.cls = "OneDoor") {pc : Nat} (hd : decode md.2.1 pc = .ok (.getfield 10, 3)) : zS md pc (pc + 3) (i_getf 11 0) := n_getf (C0 := "OneDoor") (T := zT11) (n := 12) (ref := "OneDoor") (dc := "OneDoor") (nm := "reader") (ds := "LOneDoor$Reader;") (fn := true) rfl (by decide) rfl (by rw [hc]; exact zmem 347 (by decide +kernel)) (Or.inl rfl) hd
theorem gqD84 {md : zM} (hc : md.1.cls = "OneDoor") {pc : Nat} (hd : decode md.2.1 pc = .ok (.getfield 84, 3)) : zS md pc (pc + 3) (i_getf 9 1) := n_getf (C0 := "OneDoor$Reader") (T := zT9) (n := 8) (ref := "OneDoor$Reader") (dc := "OneDoor$Reader") (nm := "size") (ds := "I") (fn := false) rfl (by decide) rfl (by rw [hc]; exact zmem 88 (by decide +kernel)) (Or.inl rfl) hd
theorem gqD88 {md : zM} (hc : md.1.cls = "OneDoor") {pc : Nat} (hd : decode md.2.1 pc = .ok (.getfield 88, 3)) : zS md pc (pc + 3) (i_getf 9 0) := n_getf (C0 := "OneDoor$Reader") (T := zT9) (n := 8) (ref := "OneDoor$Reader") (dc := "OneDoor$Reader") (nm := "text") (ds := "[I") (fn := true) rfl (by decide) rfl (by rw [hc]; exact zmem 87 (by decide +kernel)) (Or.inl rfl) hd
theorem pqD84 {md : zM} (hc : md.1.cls = "OneDoor") {pc : Nat} (hd : decode md.2.1 pc = .ok (.putfield 84, 3)) : zS md pc (pc + 3) (i_putf 9 1 0) := n_putf (C0 := "OneDoor$Reader") (T := zT9) (n := 8) (ref := "OneDoor$Reader") (dc := "OneDoor$Reader") (nm := "size") (ds := "I") (fn := false) (ty := .int) rfl (by decide) rfl (by rw [hc]; exact zmem 88 (by decide +kernel)) (Or.inl rfl) (Or.inl rfl) (by decide +kernel) (Or.inl ⟨rfl, rfl⟩) hd
theorem gqD19 {md : zM} (hc : md.1.cls = "OneDoor") {pc : Nat} (hd : decode md.2.1 pc = .ok (.getfield 19, 3)) : zS md pc (pc + 3) (i_getf 11 1) := n_getf (C0 := "OneDoor") (T := zT11) (n := 12) (ref := "OneDoor") (dc := "OneDoor") (nm := "draft") (ds := "LOneDoor$Told;") (fn := true) rfl (by decide) rfl (by rw [hc]; exact zmem 348 (by decide +kernel)) (Or.inl rfl) hd
theorem vqD91 {md : zM} (hc : md.1.cls = "OneDoor") {pc : Nat} (hd : decode md.2.1 pc = .ok (.invokevirtual 91, 3)) : zS md pc (pc + 3) (i_callV (ztab 9 mR_readAll) 1) := n_callV (x := mR_readAll.1) (idx := 91) (zV_own (C := "OneDoor$Reader") (T := zT9) (k := 8) kR_readAll rfl rfl (by rw [hc]; exact zmem 396 (by decide +kernel)) (zmem 397 (by decide +kernel)) (zmem 398 (by decide +kernel))) hd
theorem vqD95 {md : zM} (hc : md.1.cls = "OneDoor") {pc : Nat} (hd : decode md.2.1 pc = .ok (.invokevirtual 95, 3)) : zS md pc (pc + 3) (i_callV (ztab 10 mT_become) 1) := n_callV (x := mT_become.1) (idx := 95) (zV_own (C := "OneDoor$Told") (T := zT10) (k := 8) kT_become rfl rfl (by rw [hc]; exact zmem 453 (by decide +kernel)) (zmem 454 (by decide +kernel)) (zmem 455 (by decide +kernel))) hd
theorem vqD99 {md : zM} (hc : md.1.cls = "OneDoor") {pc : Nat} (hd : decode md.2.1 pc = .ok (.invokevirtual 99, 3)) : zS md pc (pc + 3) (i_callV (ztab 5 mL_begin) 1) := n_callV (x := mL_begin.1) (idx := 99) (zV_own (C := "OneDoor$Life") (T := zT5) (k := 3) kL_begin rfl rfl (by rw [hc]; exact zmem 460 (by decide +kernel)) (zmem 461 (by decide +kernel)) (zmem 462 (by decide +kernel))) hd
theorem pqD102 {md : zM} (hc : md.1.cls = "OneDoor") {pc : Nat} (hd : decode md.2.1 pc = .ok (.putfield 102, 3)) : zS md pc (pc + 3) (i_putf 11 10 0) := n_putf (C0 := "OneDoor") (T := zT11) (n := 12) (ref := "OneDoor") (dc := "OneDoor") (nm := "hatsSeen") (ds := "I") (fn := false) (ty := .int) rfl (by decide) rfl (by rw [hc]; exact zmem 357 (by decide +kernel)) (Or.inl rfl) (Or.inl rfl) (by decide +kernel) (Or.inl ⟨rfl, rfl⟩) hd
theorem gqD42 {md : zM} (hc : md.1.cls = "OneDoor") {pc : Nat} (hd : decode md.2.1 pc = .ok (.getfield 42, 3)) : zS md pc (pc + 3) (i_getf 11 6) := n_getf (C0 := "OneDoor") (T := zT11) (n := 12) (ref := "OneDoor") (dc := "OneDoor") (nm := "kept") (ds := "[Z") (fn := true) rfl (by decide) rfl (by rw [hc]; exact zmem 353 (by decide +kernel)) (Or.inl rfl) hd
theorem vqR15 {md : zM} (hc : md.1.cls = "OneDoor$Reader") {pc : Nat} (hd : decode md.2.1 pc = .ok (.invokevirtual 15, 3)) : zS md pc (pc + 3) (i_callV (ztab 10 mT_empty) 0) := n_callV (x := mT_empty.1) (idx := 15) (zV_own (C := "OneDoor$Told") (T := zT10) (k := 8) kT_empty rfl rfl (by rw [hc]; exact zmem 400 (by decide +kernel)) (zmem 401 (by decide +kernel)) (zmem 402 (by decide +kernel))) hd
theorem pqR20 {md : zM} (hc : md.1.cls = "OneDoor$Reader") {pc : Nat} (hd : decode md.2.1 pc = .ok (.putfield 20, 3)) : zS md pc (pc + 3) (i_putf 9 2 0) := n_putf (C0 := "OneDoor$Reader") (T := zT9) (n := 8) (ref := "OneDoor$Reader") (dc := "OneDoor$Reader") (nm := "at") (ds := "I") (fn := false) (ty := .int) rfl (by decide) rfl (by rw [hc]; exact zmem 90 (by decide +kernel)) (Or.inl rfl) (Or.inl rfl) (by decide +kernel) (Or.inl ⟨rfl, rfl⟩) hd
theorem pqR24 {md : zM} (hc : md.1.cls = "OneDoor$Reader") {pc : Nat} (hd : decode md.2.1 pc = .ok (.putfield 24, 3)) : zS md pc (pc + 3) (i_putf 9 6 1) := n_putf (C0 := "OneDoor$Reader") (T := zT9) (n := 8) (ref := "OneDoor$Reader") (dc := "OneDoor$Reader") (nm := "taxTold") (ds := "Z") (fn := false) (ty := .boolean) rfl (by decide) rfl (by rw [hc]; exact zmem 94 (by decide +kernel)) (Or.inl rfl) (Or.inl rfl) (by decide +kernel) (Or.inr (Or.inl ⟨rfl, rfl⟩)) hd
theorem pqR28 {md : zM} (hc : md.1.cls = "OneDoor$Reader") {pc : Nat} (hd : decode md.2.1 pc = .ok (.putfield 28, 3)) : zS md pc (pc + 3) (i_putf 9 7 1) := n_putf (C0 := "OneDoor$Reader") (T := zT9) (n := 8) (ref := "OneDoor$Reader") (dc := "OneDoor$Reader") (nm := "warmTold") (ds := "Z") (fn := false) (ty := .boolean) rfl (by decide) rfl (by rw [hc]; exact zmem 95 (by decide +kernel)) (Or.inl rfl) (Or.inl rfl) (by decide +kernel) (Or.inr (Or.inl ⟨rfl, rfl⟩)) hd
theorem vqR31 {md : zM} (hc : md.1.cls = "OneDoor$Reader") {pc : Nat} (hd : decode md.2.1 pc = .ok (.invokevirtual 31, 3)) : zS md pc (pc + 3) (i_callV (ztab 9 mR_readToken) 0) := n_callV (x := mR_readToken.1) (idx := 31) (zV_own (C := "OneDoor$Reader") (T := zT9) (k := 8) kR_readToken rfl rfl (by rw [hc]; exact zmem 404 (by decide +kernel)) (zmem 406 (by decide +kernel)) (zmem 0 (by decide +kernel))) hd
theorem gqR34 {md : zM} (hc : md.1.cls = "OneDoor$Reader") {pc : Nat} (hd : decode md.2.1 pc = .ok (.getfield 34, 3)) : zS md pc (pc + 3) (i_getf 9 4) := n_getf (C0 := "OneDoor$Reader") (T := zT9) (n := 8) (ref := "OneDoor$Reader") (dc := "OneDoor$Reader") (nm := "token") (ds := "I") (fn := false) rfl (by decide) rfl (by rw [hc]; exact zmem 92 (by decide +kernel)) (Or.inl rfl) hd
theorem vqR37 {md : zM} (hc : md.1.cls = "OneDoor$Reader") {pc : Nat} (hd : decode md.2.1 pc = .ok (.invokevirtual 37, 3)) : zS md pc (pc + 3) (i_callV (ztab 9 mR_readItem) 1) := n_callV (x := mR_readItem.1) (idx := 37) (zV_own (C := "OneDoor$Reader") (T := zT9) (k := 8) kR_readItem rfl rfl (by rw [hc]; exact zmem 425 (by decide +kernel)) (zmem 427 (by decide +kernel)) (zmem 3 (by decide +kernel))) hd
theorem gqR41 {md : zM} (hc : md.1.cls = "OneDoor$Reader") {pc : Nat} (hd : decode md.2.1 pc = .ok (.getfield 41, 3)) : zS md pc (pc + 3) (i_getf 9 3) := n_getf (C0 := "OneDoor$Reader") (T := zT9) (n := 8) (ref := "OneDoor$Reader") (dc := "OneDoor$Reader") (nm := "tokenAt") (ds := "I") (fn := false) rfl (by decide) rfl (by rw [hc]; exact zmem 91 (by decide +kernel)) (Or.inl rfl) hd
theorem gqR44 {md : zM} (hc : md.1.cls = "OneDoor$Reader") {pc : Nat} (hd : decode md.2.1 pc = .ok (.getfield 44, 3)) : zS md pc (pc + 3) (i_getf 9 1) := n_getf (C0 := "OneDoor$Reader") (T := zT9) (n := 8) (ref := "OneDoor$Reader") (dc := "OneDoor$Reader") (nm := "size") (ds := "I") (fn := false) rfl (by decide) rfl (by rw [hc]; exact zmem 89 (by decide +kernel)) (Or.inl rfl) hd
theorem pqT31 {md : zM} (hc : md.1.cls = "OneDoor$Told") {pc : Nat} (hd : decode md.2.1 pc = .ok (.putfield 31, 3)) : zS md pc (pc + 3) (i_putf 10 4 0) := n_putf (C0 := "OneDoor$Told") (T := zT10) (n := 8) (ref := "OneDoor$Told") (dc := "OneDoor$Told") (nm := "houses") (ds := "I") (fn := false) (ty := .int) rfl (by decide) rfl (by rw [hc]; exact zmem 136 (by decide +kernel)) (Or.inl rfl) (Or.inl rfl) (by decide +kernel) (Or.inl ⟨rfl, rfl⟩) hd
theorem pqT34 {md : zM} (hc : md.1.cls = "OneDoor$Told") {pc : Nat} (hd : decode md.2.1 pc = .ok (.putfield 34, 3)) : zS md pc (pc + 3) (i_putf 10 5 0) := n_putf (C0 := "OneDoor$Told") (T := zT10) (n := 8) (ref := "OneDoor$Told") (dc := "OneDoor$Told") (nm := "people") (ds := "I") (fn := false) (ty := .int) rfl (by decide) rfl (by rw [hc]; exact zmem 140 (by decide +kernel)) (Or.inl rfl) (Or.inl rfl) (by decide +kernel) (Or.inl ⟨rfl, rfl⟩) hd
theorem gqR20 {md : zM} (hc : md.1.cls = "OneDoor$Reader") {pc : Nat} (hd : decode md.2.1 pc = .ok (.getfield 20, 3)) : zS md pc (pc + 3) (i_getf 9 2) := n_getf (C0 := "OneDoor$Reader") (T := zT9) (n := 8) (ref := "OneDoor$Reader") (dc := "OneDoor$Reader") (nm := "at") (ds := "I") (fn := false) rfl (by decide) rfl (by rw [hc]; exact zmem 90 (by decide +kernel)) (Or.inl rfl) hd
theorem gqR9 {md : zM} (hc : md.1.cls = "OneDoor$Reader") {pc : Nat} (hd : decode md.2.1 pc = .ok (.getfield 9, 3)) : zS md pc (pc + 3) (i_getf 9 0) := n_getf (C0 := "OneDoor$Reader") (T := zT9) (n := 8) (ref := "OneDoor$Reader") (dc := "OneDoor$Reader") (nm := "text") (ds := "[I") (fn := true) rfl (by decide) rfl (by rw [hc]; exact zmem 86 (by decide +kernel)) (Or.inl rfl) hd
theorem pqR41 {md : zM} (hc : md.1.cls = "OneDoor$Reader") {pc : Nat} (hd : decode md.2.1 pc = .ok (.putfield 41, 3)) : zS md pc (pc + 3) (i_putf 9 3 0) := n_putf (C0 := "OneDoor$Reader") (T := zT9) (n := 8) (ref := "OneDoor$Reader") (dc := "OneDoor$Reader") (nm := "tokenAt") (ds := "I") (fn := false) (ty := .int) rfl (by decide) rfl (by rw [hc]; exact zmem 91 (by decide +kernel)) (Or.inl rfl) (Or.inl rfl) (by decide +kernel) (Or.inl ⟨rfl, rfl⟩) hd
theorem pqR34 {md : zM} (hc : md.1.cls = "OneDoor$Reader") {pc : Nat} (hd : decode md.2.1 pc = .ok (.putfield 34, 3)) : zS md pc (pc + 3) (i_putf 9 4 0) := n_putf (C0 := "OneDoor$Reader") (T := zT9) (n := 8) (ref := "OneDoor$Reader") (dc := "OneDoor$Reader") (nm := "token") (ds := "I") (fn := false) (ty := .int) rfl (by decide) rfl (by rw [hc]; exact zmem 92 (by decide +kernel)) (Or.inl rfl) (Or.inl rfl) (by decide +kernel) (Or.inl ⟨rfl, rfl⟩) hd
theorem sqR94 {md : zM} (hc : md.1.cls = "OneDoor$Reader") {pc : Nat} (hd : decode md.2.1 pc = .ok (.invokestatic 94, 3)) : zS md pc (pc + 3) (i_callS mR_isLetter 1) := n_callS kR_isLetter (by rw [hc]; exact zmem 408 (by decide +kernel)) (zmem 409 (by decide +kernel)) hd
theorem vqR98 {md : zM} (hc : md.1.cls = "OneDoor$Reader") {pc : Nat} (hd : decode md.2.1 pc = .ok (.invokevirtual 98, 3)) : zS md pc (pc + 3) (i_callV (ztab 9 mR_readLetters) 0) := n_callV (x := mR_readLetters.1) (idx := 98) (zV_own (C := "OneDoor$Reader") (T := zT9) (k := 8) kR_readLetters rfl rfl (by rw [hc]; exact zmem 411 (by decide +kernel)) (zmem 413 (by decide +kernel)) (zmem 1 (by decide +kernel))) hd
theorem sqR101 {md : zM} (hc : md.1.cls = "OneDoor$Reader") {pc : Nat} (hd : decode md.2.1 pc = .ok (.invokestatic 101, 3)) : zS md pc (pc + 3) (i_callS mR_isDigit 1) := n_callS kR_isDigit (by rw [hc]; exact zmem 415 (by decide +kernel)) (zmem 416 (by decide +kernel)) hd
theorem vqR104 {md : zM} (hc : md.1.cls = "OneDoor$Reader") {pc : Nat} (hd : decode md.2.1 pc = .ok (.invokevirtual 104, 3)) : zS md pc (pc + 3) (i_callV (ztab 9 mR_readDigits) 0) := n_callV (x := mR_readDigits.1) (idx := 104) (zV_own (C := "OneDoor$Reader") (T := zT9) (k := 8) kR_readDigits rfl rfl (by rw [hc]; exact zmem 418 (by decide +kernel)) (zmem 420 (by decide +kernel)) (zmem 2 (by decide +kernel))) hd
theorem pqR47 {md : zM} (hc : md.1.cls = "OneDoor$Reader") {pc : Nat} (hd : decode md.2.1 pc = .ok (.putfield 47, 3)) : zS md pc (pc + 3) (i_putf 9 5 0) := n_putf (C0 := "OneDoor$Reader") (T := zT9) (n := 8) (ref := "OneDoor$Reader") (dc := "OneDoor$Reader") (nm := "value") (ds := "I") (fn := false) (ty := .int) rfl (by decide) rfl (by rw [hc]; exact zmem 93 (by decide +kernel)) (Or.inl rfl) (Or.inl rfl) (by decide +kernel) (Or.inl ⟨rfl, rfl⟩) hd
theorem gqR47 {md : zM} (hc : md.1.cls = "OneDoor$Reader") {pc : Nat} (hd : decode md.2.1 pc = .ok (.getfield 47, 3)) : zS md pc (pc + 3) (i_getf 9 5) := n_getf (C0 := "OneDoor$Reader") (T := zT9) (n := 8) (ref := "OneDoor$Reader") (dc := "OneDoor$Reader") (nm := "value") (ds := "I") (fn := false) rfl (by decide) rfl (by rw [hc]; exact zmem 93 (by decide +kernel)) (Or.inl rfl) hd
theorem sqR107 {md : zM} (hc : md.1.cls = "OneDoor$Reader") {pc : Nat} (hd : decode md.2.1 pc = .ok (.invokestatic 107, 3)) : zS md pc (pc + 3) (i_mm (fun x y => if y < x then y else x)) := n_mmin (by rw [hc]; exact zmem 422 (by decide +kernel)) (zmem 423 (by decide +kernel)) (zmem 69 (by decide +kernel)) (zmem 424 (by decide +kernel)) hd
theorem vqR50 {md : zM} (hc : md.1.cls = "OneDoor$Reader") {pc : Nat} (hd : decode md.2.1 pc = .ok (.invokevirtual 50, 3)) : zS md pc (pc + 3) (i_callV (ztab 9 mR_readHouse) 1) := n_callV (x := mR_readHouse.1) (idx := 50) (zV_own (C := "OneDoor$Reader") (T := zT9) (k := 8) kR_readHouse rfl rfl (by rw [hc]; exact zmem 429 (by decide +kernel)) (zmem 431 (by decide +kernel)) (zmem 4 (by decide +kernel))) hd
theorem vqR53 {md : zM} (hc : md.1.cls = "OneDoor$Reader") {pc : Nat} (hd : decode md.2.1 pc = .ok (.invokevirtual 53, 3)) : zS md pc (pc + 3) (i_callV (ztab 9 mR_readPerson) 1) := n_callV (x := mR_readPerson.1) (idx := 53) (zV_own (C := "OneDoor$Reader") (T := zT9) (k := 8) kR_readPerson rfl rfl (by rw [hc]; exact zmem 441 (by decide +kernel)) (zmem 443 (by decide +kernel)) (zmem 7 (by decide +kernel))) hd
theorem vqR56 {md : zM} (hc : md.1.cls = "OneDoor$Reader") {pc : Nat} (hd : decode md.2.1 pc = .ok (.invokevirtual 56, 3)) : zS md pc (pc + 3) (i_callV (ztab 9 mR_readTax) 1) := n_callV (x := mR_readTax.1) (idx := 56) (zV_own (C := "OneDoor$Reader") (T := zT9) (k := 8) kR_readTax rfl rfl (by rw [hc]; exact zmem 445 (by decide +kernel)) (zmem 447 (by decide +kernel)) (zmem 8 (by decide +kernel))) hd
theorem vqR59 {md : zM} (hc : md.1.cls = "OneDoor$Reader") {pc : Nat} (hd : decode md.2.1 pc = .ok (.invokevirtual 59, 3)) : zS md pc (pc + 3) (i_callV (ztab 9 mR_readWarm) 1) := n_callV (x := mR_readWarm.1) (idx := 59) (zV_own (C := "OneDoor$Reader") (T := zT9) (k := 8) kR_readWarm rfl rfl (by rw [hc]; exact zmem 449 (by decide +kernel)) (zmem 451 (by decide +kernel)) (zmem 9 (by decide +kernel))) hd
theorem gqR62 {md : zM} (hc : md.1.cls = "OneDoor$Reader") {pc : Nat} (hd : decode md.2.1 pc = .ok (.getfield 62, 3)) : zS md pc (pc + 3) (i_getf 10 4) := n_getf (C0 := "OneDoor$Told") (T := zT10) (n := 8) (ref := "OneDoor$Told") (dc := "OneDoor$Told") (nm := "houses") (ds := "I") (fn := false) rfl (by decide) rfl (by rw [hc]; exact zmem 137 (by decide +kernel)) (Or.inl rfl) hd
theorem vqR65 {md : zM} (hc : md.1.cls = "OneDoor$Reader") {pc : Nat} (hd : decode md.2.1 pc = .ok (.invokevirtual 65, 3)) : zS md pc (pc + 3) (i_callV (ztab 9 mR_readNumber) 2) := n_callV (x := mR_readNumber.1) (idx := 65) (zV_own (C := "OneDoor$Reader") (T := zT9) (k := 8) kR_readNumber rfl rfl (by rw [hc]; exact zmem 433 (by decide +kernel)) (zmem 435 (by decide +kernel)) (zmem 5 (by decide +kernel))) hd
theorem gqR69 {md : zM} (hc : md.1.cls = "OneDoor$Reader") {pc : Nat} (hd : decode md.2.1 pc = .ok (.getfield 69, 3)) : zS md pc (pc + 3) (i_getf 10 0) := n_getf (C0 := "OneDoor$Told") (T := zT10) (n := 8) (ref := "OneDoor$Told") (dc := "OneDoor$Told") (nm := "hall") (ds := "[I") (fn := true) rfl (by decide) rfl (by rw [hc]; exact zmem 122 (by decide +kernel)) (Or.inl rfl) hd
theorem pqR62 {md : zM} (hc : md.1.cls = "OneDoor$Reader") {pc : Nat} (hd : decode md.2.1 pc = .ok (.putfield 62, 3)) : zS md pc (pc + 3) (i_putf 10 4 0) := n_putf (C0 := "OneDoor$Told") (T := zT10) (n := 8) (ref := "OneDoor$Told") (dc := "OneDoor$Told") (nm := "houses") (ds := "I") (fn := false) (ty := .int) rfl (by decide) rfl (by rw [hc]; exact zmem 137 (by decide +kernel)) (Or.inl rfl) (Or.inl rfl) (by decide +kernel) (Or.inl ⟨rfl, rfl⟩) hd
theorem vqR72 {md : zM} (hc : md.1.cls = "OneDoor$Reader") {pc : Nat} (hd : decode md.2.1 pc = .ok (.invokevirtual 72, 3)) : zS md pc (pc + 3) (i_callV (ztab 9 mR_readStop) 0) := n_callV (x := mR_readStop.1) (idx := 72) (zV_own (C := "OneDoor$Reader") (T := zT9) (k := 8) kR_readStop rfl rfl (by rw [hc]; exact zmem 437 (by decide +kernel)) (zmem 439 (by decide +kernel)) (zmem 6 (by decide +kernel))) hd
theorem gqR76 {md : zM} (hc : md.1.cls = "OneDoor$Reader") {pc : Nat} (hd : decode md.2.1 pc = .ok (.getfield 76, 3)) : zS md pc (pc + 3) (i_getf 10 5) := n_getf (C0 := "OneDoor$Told") (T := zT10) (n := 8) (ref := "OneDoor$Told") (dc := "OneDoor$Told") (nm := "people") (ds := "I") (fn := false) rfl (by decide) rfl (by rw [hc]; exact zmem 142 (by decide +kernel)) (Or.inl rfl) hd
theorem gqR79 {md : zM} (hc : md.1.cls = "OneDoor$Reader") {pc : Nat} (hd : decode md.2.1 pc = .ok (.getfield 79, 3)) : zS md pc (pc + 3) (i_getf 10 1) := n_getf (C0 := "OneDoor$Told") (T := zT10) (n := 8) (ref := "OneDoor$Told") (dc := "OneDoor$Told") (nm := "home") (ds := "[I") (fn := true) rfl (by decide) rfl (by rw [hc]; exact zmem 127 (by decide +kernel)) (Or.inl rfl) hd
theorem gqR82 {md : zM} (hc : md.1.cls = "OneDoor$Reader") {pc : Nat} (hd : decode md.2.1 pc = .ok (.getfield 82, 3)) : zS md pc (pc + 3) (i_getf 10 2) := n_getf (C0 := "OneDoor$Told") (T := zT10) (n := 8) (ref := "OneDoor$Told") (dc := "OneDoor$Told") (nm := "errands") (ds := "[I") (fn := true) rfl (by decide) rfl (by rw [hc]; exact zmem 129 (by decide +kernel)) (Or.inl rfl) hd
theorem gqR85 {md : zM} (hc : md.1.cls = "OneDoor$Reader") {pc : Nat} (hd : decode md.2.1 pc = .ok (.getfield 85, 3)) : zS md pc (pc + 3) (i_getf 10 3) := n_getf (C0 := "OneDoor$Told") (T := zT10) (n := 8) (ref := "OneDoor$Told") (dc := "OneDoor$Told") (nm := "patience") (ds := "[I") (fn := true) rfl (by decide) rfl (by rw [hc]; exact zmem 134 (by decide +kernel)) (Or.inl rfl) hd
theorem pqR76 {md : zM} (hc : md.1.cls = "OneDoor$Reader") {pc : Nat} (hd : decode md.2.1 pc = .ok (.putfield 76, 3)) : zS md pc (pc + 3) (i_putf 10 5 0) := n_putf (C0 := "OneDoor$Told") (T := zT10) (n := 8) (ref := "OneDoor$Told") (dc := "OneDoor$Told") (nm := "people") (ds := "I") (fn := false) (ty := .int) rfl (by decide) rfl (by rw [hc]; exact zmem 142 (by decide +kernel)) (Or.inl rfl) (Or.inl rfl) (by decide +kernel) (Or.inl ⟨rfl, rfl⟩) hd
theorem gqR24 {md : zM} (hc : md.1.cls = "OneDoor$Reader") {pc : Nat} (hd : decode md.2.1 pc = .ok (.getfield 24, 3)) : zS md pc (pc + 3) (i_getf 9 6) := n_getf (C0 := "OneDoor$Reader") (T := zT9) (n := 8) (ref := "OneDoor$Reader") (dc := "OneDoor$Reader") (nm := "taxTold") (ds := "Z") (fn := false) rfl (by decide) rfl (by rw [hc]; exact zmem 94 (by decide +kernel)) (Or.inl rfl) hd
theorem pqR88 {md : zM} (hc : md.1.cls = "OneDoor$Reader") {pc : Nat} (hd : decode md.2.1 pc = .ok (.putfield 88, 3)) : zS md pc (pc + 3) (i_putf 10 6 0) := n_putf (C0 := "OneDoor$Told") (T := zT10) (n := 8) (ref := "OneDoor$Told") (dc := "OneDoor$Told") (nm := "tax") (ds := "I") (fn := false) (ty := .int) rfl (by decide) rfl (by rw [hc]; exact zmem 146 (by decide +kernel)) (Or.inl rfl) (Or.inl rfl) (by decide +kernel) (Or.inl ⟨rfl, rfl⟩) hd
theorem gqR28 {md : zM} (hc : md.1.cls = "OneDoor$Reader") {pc : Nat} (hd : decode md.2.1 pc = .ok (.getfield 28, 3)) : zS md pc (pc + 3) (i_getf 9 7) := n_getf (C0 := "OneDoor$Reader") (T := zT9) (n := 8) (ref := "OneDoor$Reader") (dc := "OneDoor$Reader") (nm := "warmTold") (ds := "Z") (fn := false) rfl (by decide) rfl (by rw [hc]; exact zmem 95 (by decide +kernel)) (Or.inl rfl) hd
theorem pqR91 {md : zM} (hc : md.1.cls = "OneDoor$Reader") {pc : Nat} (hd : decode md.2.1 pc = .ok (.putfield 91, 3)) : zS md pc (pc + 3) (i_putf 10 7 0) := n_putf (C0 := "OneDoor$Told") (T := zT10) (n := 8) (ref := "OneDoor$Told") (dc := "OneDoor$Told") (nm := "warm") (ds := "I") (fn := false) (ty := .int) rfl (by decide) rfl (by rw [hc]; exact zmem 149 (by decide +kernel)) (Or.inl rfl) (Or.inl rfl) (by decide +kernel) (Or.inl ⟨rfl, rfl⟩) hd
theorem gqT9 {md : zM} (hc : md.1.cls = "OneDoor$Told") {pc : Nat} (hd : decode md.2.1 pc = .ok (.getfield 9, 3)) : zS md pc (pc + 3) (i_getf 10 0) := n_getf (C0 := "OneDoor$Told") (T := zT10) (n := 8) (ref := "OneDoor$Told") (dc := "OneDoor$Told") (nm := "hall") (ds := "[I") (fn := true) rfl (by decide) rfl (by rw [hc]; exact zmem 120 (by decide +kernel)) (Or.inl rfl) hd
theorem sqT37 {md : zM} (hc : md.1.cls = "OneDoor$Told") {pc : Nat} (hd : decode md.2.1 pc = .ok (.invokestatic 37, 3)) : zS md pc (pc + 3) i_acopy := n_acopy (by rw [hc]; exact zmem 457 (by decide +kernel)) (zmem 459 (by decide +kernel)) (zmem 458 (by decide +kernel)) (zmem 70 (by decide +kernel)) hd
theorem gqT15 {md : zM} (hc : md.1.cls = "OneDoor$Told") {pc : Nat} (hd : decode md.2.1 pc = .ok (.getfield 15, 3)) : zS md pc (pc + 3) (i_getf 10 1) := n_getf (C0 := "OneDoor$Told") (T := zT10) (n := 8) (ref := "OneDoor$Told") (dc := "OneDoor$Told") (nm := "home") (ds := "[I") (fn := true) rfl (by decide) rfl (by rw [hc]; exact zmem 125 (by decide +kernel)) (Or.inl rfl) hd
theorem gqT18 {md : zM} (hc : md.1.cls = "OneDoor$Told") {pc : Nat} (hd : decode md.2.1 pc = .ok (.getfield 18, 3)) : zS md pc (pc + 3) (i_getf 10 2) := n_getf (C0 := "OneDoor$Told") (T := zT10) (n := 8) (ref := "OneDoor$Told") (dc := "OneDoor$Told") (nm := "errands") (ds := "[I") (fn := true) rfl (by decide) rfl (by rw [hc]; exact zmem 128 (by decide +kernel)) (Or.inl rfl) hd
theorem gqT21 {md : zM} (hc : md.1.cls = "OneDoor$Told") {pc : Nat} (hd : decode md.2.1 pc = .ok (.getfield 21, 3)) : zS md pc (pc + 3) (i_getf 10 3) := n_getf (C0 := "OneDoor$Told") (T := zT10) (n := 8) (ref := "OneDoor$Told") (dc := "OneDoor$Told") (nm := "patience") (ds := "[I") (fn := true) rfl (by decide) rfl (by rw [hc]; exact zmem 132 (by decide +kernel)) (Or.inl rfl) hd
theorem gqT31 {md : zM} (hc : md.1.cls = "OneDoor$Told") {pc : Nat} (hd : decode md.2.1 pc = .ok (.getfield 31, 3)) : zS md pc (pc + 3) (i_getf 10 4) := n_getf (C0 := "OneDoor$Told") (T := zT10) (n := 8) (ref := "OneDoor$Told") (dc := "OneDoor$Told") (nm := "houses") (ds := "I") (fn := false) rfl (by decide) rfl (by rw [hc]; exact zmem 136 (by decide +kernel)) (Or.inl rfl) hd
theorem gqT34 {md : zM} (hc : md.1.cls = "OneDoor$Told") {pc : Nat} (hd : decode md.2.1 pc = .ok (.getfield 34, 3)) : zS md pc (pc + 3) (i_getf 10 5) := n_getf (C0 := "OneDoor$Told") (T := zT10) (n := 8) (ref := "OneDoor$Told") (dc := "OneDoor$Told") (nm := "people") (ds := "I") (fn := false) rfl (by decide) rfl (by rw [hc]; exact zmem 140 (by decide +kernel)) (Or.inl rfl) hd
theorem gqT24 {md : zM} (hc : md.1.cls = "OneDoor$Told") {pc : Nat} (hd : decode md.2.1 pc = .ok (.getfield 24, 3)) : zS md pc (pc + 3) (i_getf 10 6) := n_getf (C0 := "OneDoor$Told") (T := zT10) (n := 8) (ref := "OneDoor$Told") (dc := "OneDoor$Told") (nm := "tax") (ds := "I") (fn := false) rfl (by decide) rfl (by rw [hc]; exact zmem 145 (by decide +kernel)) (Or.inl rfl) hd
theorem gqT28 {md : zM} (hc : md.1.cls = "OneDoor$Told") {pc : Nat} (hd : decode md.2.1 pc = .ok (.getfield 28, 3)) : zS md pc (pc + 3) (i_getf 10 7) := n_getf (C0 := "OneDoor$Told") (T := zT10) (n := 8) (ref := "OneDoor$Told") (dc := "OneDoor$Told") (nm := "warm") (ds := "I") (fn := false) rfl (by decide) rfl (by rw [hc]; exact zmem 148 (by decide +kernel)) (Or.inl rfl) hd
theorem gqL12 {md : zM} (hc : md.1.cls = "OneDoor$Life") {pc : Nat} (hd : decode md.2.1 pc = .ok (.getfield 12, 3)) : zS md pc (pc + 3) (i_getf 5 0) := n_getf (C0 := "OneDoor$Life") (T := zT5) (n := 3) (ref := "OneDoor$Life") (dc := "OneDoor$Life") (nm := "state") (ds := "LOneDoor$Now;") (fn := true) rfl (by decide) rfl (by rw [hc]; exact zmem 217 (by decide +kernel)) (Or.inl rfl) hd
theorem vqL22 {md : zM} (hc : md.1.cls = "OneDoor$Life") {pc : Nat} (hd : decode md.2.1 pc = .ok (.invokevirtual 22, 3)) : zS md pc (pc + 3) (i_callV (ztab 6 mN_begin) 1) := n_callV (x := mN_begin.1) (idx := 22) (zV_own (C := "OneDoor$Now") (T := zT6) (k := 7) kN_begin rfl rfl (by rw [hc]; exact zmem 464 (by decide +kernel)) (zmem 465 (by decide +kernel)) (zmem 466 (by decide +kernel))) hd
theorem pqL26 {md : zM} (hc : md.1.cls = "OneDoor$Life") {pc : Nat} (hd : decode md.2.1 pc = .ok (.putfield 26, 3)) : zS md pc (pc + 3) (i_putf 5 2 0) := n_putf (C0 := "OneDoor$Life") (T := zT5) (n := 3) (ref := "OneDoor$Life") (dc := "OneDoor$Life") (nm := "known") (ds := "I") (fn := false) (ty := .int) rfl (by decide) rfl (by rw [hc]; exact zmem 220 (by decide +kernel)) (Or.inl rfl) (Or.inl rfl) (by decide +kernel) (Or.inl ⟨rfl, rfl⟩) hd
theorem gqN25 {md : zM} (hc : md.1.cls = "OneDoor$Now") {pc : Nat} (hd : decode md.2.1 pc = .ok (.getfield 25, 3)) : zS md pc (pc + 3) (i_getf 10 1) := n_getf (C0 := "OneDoor$Told") (T := zT10) (n := 8) (ref := "OneDoor$Told") (dc := "OneDoor$Told") (nm := "home") (ds := "[I") (fn := true) rfl (by decide) rfl (by rw [hc]; exact zmem 126 (by decide +kernel)) (Or.inl rfl) hd
theorem gqN9 {md : zM} (hc : md.1.cls = "OneDoor$Now") {pc : Nat} (hd : decode md.2.1 pc = .ok (.getfield 9, 3)) : zS md pc (pc + 3) (i_getf 6 0) := n_getf (C0 := "OneDoor$Now") (T := zT6) (n := 7) (ref := "OneDoor$Now") (dc := "OneDoor$Now") (nm := "place") (ds := "[I") (fn := true) rfl (by decide) rfl (by rw [hc]; exact zmem 180 (by decide +kernel)) (Or.inl rfl) hd
theorem sqN28 {md : zM} (hc : md.1.cls = "OneDoor$Now") {pc : Nat} (hd : decode md.2.1 pc = .ok (.invokestatic 28, 3)) : zS md pc (pc + 3) i_acopy := n_acopy (by rw [hc]; exact zmem 468 (by decide +kernel)) (zmem 459 (by decide +kernel)) (zmem 458 (by decide +kernel)) (zmem 70 (by decide +kernel)) hd
theorem gqN15 {md : zM} (hc : md.1.cls = "OneDoor$Now") {pc : Nat} (hd : decode md.2.1 pc = .ok (.getfield 15, 3)) : zS md pc (pc + 3) (i_getf 6 1) := n_getf (C0 := "OneDoor$Now") (T := zT6) (n := 7) (ref := "OneDoor$Now") (dc := "OneDoor$Now") (nm := "home") (ds := "[I") (fn := true) rfl (by decide) rfl (by rw [hc]; exact zmem 182 (by decide +kernel)) (Or.inl rfl) hd
theorem gqN34 {md : zM} (hc : md.1.cls = "OneDoor$Now") {pc : Nat} (hd : decode md.2.1 pc = .ok (.getfield 34, 3)) : zS md pc (pc + 3) (i_getf 10 3) := n_getf (C0 := "OneDoor$Told") (T := zT10) (n := 8) (ref := "OneDoor$Told") (dc := "OneDoor$Told") (nm := "patience") (ds := "[I") (fn := true) rfl (by decide) rfl (by rw [hc]; exact zmem 133 (by decide +kernel)) (Or.inl rfl) hd
theorem gqN18 {md : zM} (hc : md.1.cls = "OneDoor$Now") {pc : Nat} (hd : decode md.2.1 pc = .ok (.getfield 18, 3)) : zS md pc (pc + 3) (i_getf 6 2) := n_getf (C0 := "OneDoor$Now") (T := zT6) (n := 7) (ref := "OneDoor$Now") (dc := "OneDoor$Now") (nm := "patience") (ds := "[I") (fn := true) rfl (by decide) rfl (by rw [hc]; exact zmem 186 (by decide +kernel)) (Or.inl rfl) hd
theorem pqN35 {md : zM} (hc : md.1.cls = "OneDoor$Now") {pc : Nat} (hd : decode md.2.1 pc = .ok (.putfield 35, 3)) : zS md pc (pc + 3) (i_putf 6 3 0) := n_putf (C0 := "OneDoor$Now") (T := zT6) (n := 7) (ref := "OneDoor$Now") (dc := "OneDoor$Now") (nm := "minute") (ds := "I") (fn := false) (ty := .int) rfl (by decide) rfl (by rw [hc]; exact zmem 189 (by decide +kernel)) (Or.inl rfl) (Or.inl rfl) (by decide +kernel) (Or.inl ⟨rfl, rfl⟩) hd
theorem pqN38 {md : zM} (hc : md.1.cls = "OneDoor$Now") {pc : Nat} (hd : decode md.2.1 pc = .ok (.putfield 38, 3)) : zS md pc (pc + 3) (i_putf 6 4 0) := n_putf (C0 := "OneDoor$Now") (T := zT6) (n := 7) (ref := "OneDoor$Now") (dc := "OneDoor$Now") (nm := "offended") (ds := "I") (fn := false) (ty := .int) rfl (by decide) rfl (by rw [hc]; exact zmem 192 (by decide +kernel)) (Or.inl rfl) (Or.inl rfl) (by decide +kernel) (Or.inl ⟨rfl, rfl⟩) hd
theorem pqN41 {md : zM} (hc : md.1.cls = "OneDoor$Now") {pc : Nat} (hd : decode md.2.1 pc = .ok (.putfield 41, 3)) : zS md pc (pc + 3) (i_putf 6 5 0) := n_putf (C0 := "OneDoor$Now") (T := zT6) (n := 7) (ref := "OneDoor$Now") (dc := "OneDoor$Now") (nm := "shut") (ds := "I") (fn := false) (ty := .int) rfl (by decide) rfl (by rw [hc]; exact zmem 195 (by decide +kernel)) (Or.inl rfl) (Or.inl rfl) (by decide +kernel) (Or.inl ⟨rfl, rfl⟩) hd
theorem vqD105 {md : zM} (hc : md.1.cls = "OneDoor") {pc : Nat} (hd : decode md.2.1 pc = .ok (.invokevirtual 105, 3)) : zS md pc (pc + 3) (i_callV (ztab 11 mD_isHouse) 1) := n_callV (x := mD_isHouse.1) (idx := 105) (zV_own (C := "OneDoor") (T := zT11) (k := 12) kD_isHouse rfl rfl (by rw [hc]; exact zmem 473 (by decide +kernel)) (zmem 475 (by decide +kernel)) (zmem 10 (by decide +kernel))) hd
theorem gqD109 {md : zM} (hc : md.1.cls = "OneDoor") {pc : Nat} (hd : decode md.2.1 pc = .ok (.getfield 109, 3)) : zS md pc (pc + 3) (i_getf 10 0) := n_getf (C0 := "OneDoor$Told") (T := zT10) (n := 8) (ref := "OneDoor$Told") (dc := "OneDoor$Told") (nm := "hall") (ds := "[I") (fn := true) rfl (by decide) rfl (by rw [hc]; exact zmem 124 (by decide +kernel)) (Or.inl rfl) hd
theorem gqD112 {md : zM} (hc : md.1.cls = "OneDoor") {pc : Nat} (hd : decode md.2.1 pc = .ok (.getfield 112, 3)) : zS md pc (pc + 3) (i_getf 6 1) := n_getf (C0 := "OneDoor$Now") (T := zT6) (n := 7) (ref := "OneDoor$Now") (dc := "OneDoor$Now") (nm := "home") (ds := "[I") (fn := true) rfl (by decide) rfl (by rw [hc]; exact zmem 184 (by decide +kernel)) (Or.inl rfl) hd
theorem vqD117 {md : zM} (hc : md.1.cls = "OneDoor") {pc : Nat} (hd : decode md.2.1 pc = .ok (.invokevirtual 117, 3)) : zS md pc (pc + 3) (i_callV (ztab 11 mD_peopleAt) 2) := n_callV (x := mD_peopleAt.1) (idx := 117) (zV_own (C := "OneDoor") (T := zT11) (k := 12) kD_peopleAt rfl rfl (by rw [hc]; exact zmem 477 (by decide +kernel)) (zmem 479 (by decide +kernel)) (zmem 11 (by decide +kernel))) hd
theorem gqD121 {md : zM} (hc : md.1.cls = "OneDoor") {pc : Nat} (hd : decode md.2.1 pc = .ok (.getfield 121, 3)) : zS md pc (pc + 3) (i_getf 6 0) := n_getf (C0 := "OneDoor$Now") (T := zT6) (n := 7) (ref := "OneDoor$Now") (dc := "OneDoor$Now") (nm := "place") (ds := "[I") (fn := true) rfl (by decide) rfl (by rw [hc]; exact zmem 181 (by decide +kernel)) (Or.inl rfl) hd
theorem gqD124 {md : zM} (hc : md.1.cls = "OneDoor") {pc : Nat} (hd : decode md.2.1 pc = .ok (.getfield 124, 3)) : zS md pc (pc + 3) (i_getf 6 5) := n_getf (C0 := "OneDoor$Now") (T := zT6) (n := 7) (ref := "OneDoor$Now") (dc := "OneDoor$Now") (nm := "shut") (ds := "I") (fn := false) rfl (by decide) rfl (by rw [hc]; exact zmem 196 (by decide +kernel)) (Or.inl rfl) hd
theorem gqD51 {md : zM} (hc : md.1.cls = "OneDoor") {pc : Nat} (hd : decode md.2.1 pc = .ok (.getfield 51, 3)) : zS md pc (pc + 3) (i_getf 11 7) := n_getf (C0 := "OneDoor") (T := zT11) (n := 12) (ref := "OneDoor") (dc := "OneDoor") (nm := "plan") (ds := "LOneDoor$Plan;") (fn := true) rfl (by decide) rfl (by rw [hc]; exact zmem 354 (by decide +kernel)) (Or.inl rfl) hd
theorem vqD127 {md : zM} (hc : md.1.cls = "OneDoor") {pc : Nat} (hd : decode md.2.1 pc = .ok (.invokevirtual 127, 3)) : zS md pc (pc + 3) (i_callV (ztab 8 mP_minutesTo) 1) := n_callV (x := mP_minutesTo.1) (idx := 127) (zV_own (C := "OneDoor$Plan") (T := zT8) (k := 7) kP_minutesTo rfl rfl (by rw [hc]; exact zmem 481 (by decide +kernel)) (zmem 482 (by decide +kernel)) (zmem 483 (by decide +kernel))) hd
theorem gqD223 {md : zM} (hc : md.1.cls = "OneDoor") {pc : Nat} (hd : decode md.2.1 pc = .ok (.getfield 223, 3)) : zS md pc (pc + 3) (i_getf 10 4) := n_getf (C0 := "OneDoor$Told") (T := zT10) (n := 8) (ref := "OneDoor$Told") (dc := "OneDoor$Told") (nm := "houses") (ds := "I") (fn := false) rfl (by decide) rfl (by rw [hc]; exact zmem 139 (by decide +kernel)) (Or.inl rfl) hd
theorem gqD192 {md : zM} (hc : md.1.cls = "OneDoor") {pc : Nat} (hd : decode md.2.1 pc = .ok (.getfield 192, 3)) : zS md pc (pc + 3) (i_getf 10 5) := n_getf (C0 := "OneDoor$Told") (T := zT10) (n := 8) (ref := "OneDoor$Told") (dc := "OneDoor$Told") (nm := "people") (ds := "I") (fn := false) rfl (by decide) rfl (by rw [hc]; exact zmem 144 (by decide +kernel)) (Or.inl rfl) hd
theorem vqP60 {md : zM} (hc : md.1.cls = "OneDoor$Plan") {pc : Nat} (hd : decode md.2.1 pc = .ok (.invokevirtual 60, 3)) : zS md pc (pc + 3) (i_callV (ztab 8 mP_wayTo) 1) := n_callV (x := mP_wayTo.1) (idx := 60) (zV_own (C := "OneDoor$Plan") (T := zT8) (k := 7) kP_wayTo rfl rfl (by rw [hc]; exact zmem 485 (by decide +kernel)) (zmem 486 (by decide +kernel)) (zmem 487 (by decide +kernel))) hd
theorem vqP40 {md : zM} (hc : md.1.cls = "OneDoor$Plan") {pc : Nat} (hd : decode md.2.1 pc = .ok (.invokevirtual 40, 3)) : zS md pc (pc + 3) (i_callV (ztab 8 mP_minutesOf) 1) := n_callV (x := mP_minutesOf.1) (idx := 40) (zV_own (C := "OneDoor$Plan") (T := zT8) (k := 7) kP_minutesOf rfl rfl (by rw [hc]; exact zmem 499 (by decide +kernel)) (zmem 501 (by decide +kernel)) (zmem 13 (by decide +kernel))) hd
theorem gqP28 {md : zM} (hc : md.1.cls = "OneDoor$Plan") {pc : Nat} (hd : decode md.2.1 pc = .ok (.getfield 28, 3)) : zS md pc (pc + 3) (i_getf 8 1) := n_getf (C0 := "OneDoor$Plan") (T := zT8) (n := 7) (ref := "OneDoor$Plan") (dc := "OneDoor$Plan") (nm := "state") (ds := "LOneDoor$Now;") (fn := true) rfl (by decide) rfl (by rw [hc]; exact zmem 237 (by decide +kernel)) (Or.inl rfl) hd
theorem gqP52 {md : zM} (hc : md.1.cls = "OneDoor$Plan") {pc : Nat} (hd : decode md.2.1 pc = .ok (.getfield 52, 3)) : zS md pc (pc + 3) (i_getf 6 6) := n_getf (C0 := "OneDoor$Now") (T := zT6) (n := 7) (ref := "OneDoor$Now") (dc := "OneDoor$Now") (nm := "other") (ds := "I") (fn := false) rfl (by decide) rfl (by rw [hc]; exact zmem 199 (by decide +kernel)) (Or.inl rfl) hd
theorem vqP57 {md : zM} (hc : md.1.cls = "OneDoor$Plan") {pc : Nat} (hd : decode md.2.1 pc = .ok (.invokevirtual 57, 3)) : zS md pc (pc + 3) (i_callV (ztab 8 mP_theWay) 2) := n_callV (x := mP_theWay.1) (idx := 57) (zV_own (C := "OneDoor$Plan") (T := zT8) (k := 7) kP_theWay rfl rfl (by rw [hc]; exact zmem 489 (by decide +kernel)) (zmem 491 (by decide +kernel)) (zmem 12 (by decide +kernel))) hd
theorem sqP32 {md : zM} (hc : md.1.cls = "OneDoor$Plan") {pc : Nat} (hd : decode md.2.1 pc = .ok (.invokestatic 32, 3)) : zS md pc (pc + 3) (i_callS mP_wayByFirst 1) := n_callS kP_wayByFirst (by rw [hc]; exact zmem 493 (by decide +kernel)) (zmem 494 (by decide +kernel)) hd
theorem sqP36 {md : zM} (hc : md.1.cls = "OneDoor$Plan") {pc : Nat} (hd : decode md.2.1 pc = .ok (.invokestatic 36, 3)) : zS md pc (pc + 3) (i_callS mP_wayByOther 2) := n_callS kP_wayByOther (by rw [hc]; exact zmem 496 (by decide +kernel)) (zmem 497 (by decide +kernel)) hd
theorem gqP24 {md : zM} (hc : md.1.cls = "OneDoor$Plan") {pc : Nat} (hd : decode md.2.1 pc = .ok (.getfield 24, 3)) : zS md pc (pc + 3) (i_getf 8 0) := n_getf (C0 := "OneDoor$Plan") (T := zT8) (n := 7) (ref := "OneDoor$Plan") (dc := "OneDoor$Plan") (nm := "told") (ds := "LOneDoor$Told;") (fn := true) rfl (by decide) rfl (by rw [hc]; exact zmem 236 (by decide +kernel)) (Or.inl rfl) hd
theorem gqP43 {md : zM} (hc : md.1.cls = "OneDoor$Plan") {pc : Nat} (hd : decode md.2.1 pc = .ok (.getfield 43, 3)) : zS md pc (pc + 3) (i_getf 10 4) := n_getf (C0 := "OneDoor$Told") (T := zT10) (n := 8) (ref := "OneDoor$Told") (dc := "OneDoor$Told") (nm := "houses") (ds := "I") (fn := false) rfl (by decide) rfl (by rw [hc]; exact zmem 138 (by decide +kernel)) (Or.inl rfl) hd
theorem gqP49 {md : zM} (hc : md.1.cls = "OneDoor$Plan") {pc : Nat} (hd : decode md.2.1 pc = .ok (.getfield 49, 3)) : zS md pc (pc + 3) (i_getf 10 0) := n_getf (C0 := "OneDoor$Told") (T := zT10) (n := 8) (ref := "OneDoor$Told") (dc := "OneDoor$Told") (nm := "hall") (ds := "[I") (fn := true) rfl (by decide) rfl (by rw [hc]; exact zmem 123 (by decide +kernel)) (Or.inl rfl) hd
theorem vqD131 {md : zM} (hc : md.1.cls = "OneDoor") {pc : Nat} (hd : decode md.2.1 pc = .ok (.invokevirtual 131, 3)) : zS md pc (pc + 3) (i_callV (ztab 11 mD_isPerson) 1) := n_callV (x := mD_isPerson.1) (idx := 131) (zV_own (C := "OneDoor") (T := zT11) (k := 12) kD_isPerson rfl rfl (by rw [hc]; exact zmem 507 (by decide +kernel)) (zmem 509 (by decide +kernel)) (zmem 14 (by decide +kernel))) hd
theorem gqD134 {md : zM} (hc : md.1.cls = "OneDoor") {pc : Nat} (hd : decode md.2.1 pc = .ok (.getfield 134, 3)) : zS md pc (pc + 3) (i_getf 10 2) := n_getf (C0 := "OneDoor$Told") (T := zT10) (n := 8) (ref := "OneDoor$Told") (dc := "OneDoor$Told") (nm := "errands") (ds := "[I") (fn := true) rfl (by decide) rfl (by rw [hc]; exact zmem 130 (by decide +kernel)) (Or.inl rfl) hd
theorem gqD137 {md : zM} (hc : md.1.cls = "OneDoor") {pc : Nat} (hd : decode md.2.1 pc = .ok (.getfield 137, 3)) : zS md pc (pc + 3) (i_getf 6 2) := n_getf (C0 := "OneDoor$Now") (T := zT6) (n := 7) (ref := "OneDoor$Now") (dc := "OneDoor$Now") (nm := "patience") (ds := "[I") (fn := true) rfl (by decide) rfl (by rw [hc]; exact zmem 187 (by decide +kernel)) (Or.inl rfl) hd
theorem vqD140 {md : zM} (hc : md.1.cls = "OneDoor") {pc : Nat} (hd : decode md.2.1 pc = .ok (.invokevirtual 140, 3)) : zS md pc (pc + 3) (i_callV (ztab 8 mP_passedInADay) 1) := n_callV (x := mP_passedInADay.1) (idx := 140) (zV_own (C := "OneDoor$Plan") (T := zT8) (k := 7) kP_passedInADay rfl rfl (by rw [hc]; exact zmem 511 (by decide +kernel)) (zmem 512 (by decide +kernel)) (zmem 513 (by decide +kernel))) hd
theorem gqP72 {md : zM} (hc : md.1.cls = "OneDoor$Plan") {pc : Nat} (hd : decode md.2.1 pc = .ok (.getfield 72, 3)) : zS md pc (pc + 3) (i_getf 10 5) := n_getf (C0 := "OneDoor$Told") (T := zT10) (n := 8) (ref := "OneDoor$Told") (dc := "OneDoor$Told") (nm := "people") (ds := "I") (fn := false) rfl (by decide) rfl (by rw [hc]; exact zmem 143 (by decide +kernel)) (Or.inl rfl) hd
theorem gqP63 {md : zM} (hc : md.1.cls = "OneDoor$Plan") {pc : Nat} (hd : decode md.2.1 pc = .ok (.getfield 63, 3)) : zS md pc (pc + 3) (i_getf 10 2) := n_getf (C0 := "OneDoor$Told") (T := zT10) (n := 8) (ref := "OneDoor$Told") (dc := "OneDoor$Told") (nm := "errands") (ds := "[I") (fn := true) rfl (by decide) rfl (by rw [hc]; exact zmem 131 (by decide +kernel)) (Or.inl rfl) hd
theorem gqP66 {md : zM} (hc : md.1.cls = "OneDoor$Plan") {pc : Nat} (hd : decode md.2.1 pc = .ok (.getfield 66, 3)) : zS md pc (pc + 3) (i_getf 6 1) := n_getf (C0 := "OneDoor$Now") (T := zT6) (n := 7) (ref := "OneDoor$Now") (dc := "OneDoor$Now") (nm := "home") (ds := "[I") (fn := true) rfl (by decide) rfl (by rw [hc]; exact zmem 185 (by decide +kernel)) (Or.inl rfl) hd
theorem vqD143 {md : zM} (hc : md.1.cls = "OneDoor") {pc : Nat} (hd : decode md.2.1 pc = .ok (.invokevirtual 143, 3)) : zS md pc (pc + 3) (i_callV (ztab 11 mD_stepEnd) 2) := n_callV (x := mD_stepEnd.1) (idx := 143) (zV_own (C := "OneDoor") (T := zT11) (k := 12) kD_stepEnd rfl rfl (by rw [hc]; exact zmem 519 (by decide +kernel)) (zmem 521 (by decide +kernel)) (zmem 15 (by decide +kernel))) hd
theorem vqD147 {md : zM} (hc : md.1.cls = "OneDoor") {pc : Nat} (hd : decode md.2.1 pc = .ok (.invokevirtual 147, 3)) : zS md pc (pc + 3) (i_callV (ztab 11 mD_mayEnter) 2) := n_callV (x := mD_mayEnter.1) (idx := 147) (zV_own (C := "OneDoor") (T := zT11) (k := 12) kD_mayEnter rfl rfl (by rw [hc]; exact zmem 523 (by decide +kernel)) (zmem 525 (by decide +kernel)) (zmem 16 (by decide +kernel))) hd
theorem vqD151 {md : zM} (hc : md.1.cls = "OneDoor") {pc : Nat} (hd : decode md.2.1 pc = .ok (.invokevirtual 151, 3)) : zS md pc (pc + 3) (i_callV (ztab 5 mL_remember) 0) := n_callV (x := mL_remember.1) (idx := 151) (zV_own (C := "OneDoor$Life") (T := zT5) (k := 3) kL_remember rfl rfl (by rw [hc]; exact zmem 527 (by decide +kernel)) (zmem 528 (by decide +kernel)) (zmem 529 (by decide +kernel))) hd
theorem vqD154 {md : zM} (hc : md.1.cls = "OneDoor") {pc : Nat} (hd : decode md.2.1 pc = .ok (.invokevirtual 154, 3)) : zS md pc (pc + 3) (i_callV (ztab 11 mD_move) 2) := n_callV (x := mD_move.1) (idx := 154) (zV_own (C := "OneDoor") (T := zT11) (k := 12) kD_move rfl rfl (by rw [hc]; exact zmem 539 (by decide +kernel)) (zmem 541 (by decide +kernel)) (zmem 18 (by decide +kernel))) hd
theorem gqD163 {md : zM} (hc : md.1.cls = "OneDoor") {pc : Nat} (hd : decode md.2.1 pc = .ok (.getfield 163, 3)) : zS md pc (pc + 3) (i_getf 6 6) := n_getf (C0 := "OneDoor$Now") (T := zT6) (n := 7) (ref := "OneDoor$Now") (dc := "OneDoor$Now") (nm := "other") (ds := "I") (fn := false) rfl (by decide) rfl (by rw [hc]; exact zmem 200 (by decide +kernel)) (Or.inl rfl) hd
theorem gqL26 {md : zM} (hc : md.1.cls = "OneDoor$Life") {pc : Nat} (hd : decode md.2.1 pc = .ok (.getfield 26, 3)) : zS md pc (pc + 3) (i_getf 5 2) := n_getf (C0 := "OneDoor$Life") (T := zT5) (n := 3) (ref := "OneDoor$Life") (dc := "OneDoor$Life") (nm := "known") (ds := "I") (fn := false) rfl (by decide) rfl (by rw [hc]; exact zmem 220 (by decide +kernel)) (Or.inl rfl) hd
theorem vqL30 {md : zM} (hc : md.1.cls = "OneDoor$Life") {pc : Nat} (hd : decode md.2.1 pc = .ok (.invokevirtual 30, 3)) : zS md pc (pc + 3) (i_callV (ztab 5 mL_loseOldest) 0) := n_callV (x := mL_loseOldest.1) (idx := 30) (zV_own (C := "OneDoor$Life") (T := zT5) (k := 3) kL_loseOldest rfl rfl (by rw [hc]; exact zmem 531 (by decide +kernel)) (zmem 533 (by decide +kernel)) (zmem 17 (by decide +kernel))) hd
theorem vqL33 {md : zM} (hc : md.1.cls = "OneDoor$Life") {pc : Nat} (hd : decode md.2.1 pc = .ok (.invokevirtual 33, 3)) : zS md pc (pc + 3) (i_callV (ztab 6 mN_become) 1) := n_callV (x := mN_become.1) (idx := 33) (zV_own (C := "OneDoor$Now") (T := zT6) (k := 7) kN_become rfl rfl (by rw [hc]; exact zmem 535 (by decide +kernel)) (zmem 536 (by decide +kernel)) (zmem 537 (by decide +kernel))) hd
theorem gqN35 {md : zM} (hc : md.1.cls = "OneDoor$Now") {pc : Nat} (hd : decode md.2.1 pc = .ok (.getfield 35, 3)) : zS md pc (pc + 3) (i_getf 6 3) := n_getf (C0 := "OneDoor$Now") (T := zT6) (n := 7) (ref := "OneDoor$Now") (dc := "OneDoor$Now") (nm := "minute") (ds := "I") (fn := false) rfl (by decide) rfl (by rw [hc]; exact zmem 189 (by decide +kernel)) (Or.inl rfl) hd
theorem gqN38 {md : zM} (hc : md.1.cls = "OneDoor$Now") {pc : Nat} (hd : decode md.2.1 pc = .ok (.getfield 38, 3)) : zS md pc (pc + 3) (i_getf 6 4) := n_getf (C0 := "OneDoor$Now") (T := zT6) (n := 7) (ref := "OneDoor$Now") (dc := "OneDoor$Now") (nm := "offended") (ds := "I") (fn := false) rfl (by decide) rfl (by rw [hc]; exact zmem 192 (by decide +kernel)) (Or.inl rfl) hd
theorem gqN41 {md : zM} (hc : md.1.cls = "OneDoor$Now") {pc : Nat} (hd : decode md.2.1 pc = .ok (.getfield 41, 3)) : zS md pc (pc + 3) (i_getf 6 5) := n_getf (C0 := "OneDoor$Now") (T := zT6) (n := 7) (ref := "OneDoor$Now") (dc := "OneDoor$Now") (nm := "shut") (ds := "I") (fn := false) rfl (by decide) rfl (by rw [hc]; exact zmem 195 (by decide +kernel)) (Or.inl rfl) hd
theorem gqN21 {md : zM} (hc : md.1.cls = "OneDoor$Now") {pc : Nat} (hd : decode md.2.1 pc = .ok (.getfield 21, 3)) : zS md pc (pc + 3) (i_getf 6 6) := n_getf (C0 := "OneDoor$Now") (T := zT6) (n := 7) (ref := "OneDoor$Now") (dc := "OneDoor$Now") (nm := "other") (ds := "I") (fn := false) rfl (by decide) rfl (by rw [hc]; exact zmem 198 (by decide +kernel)) (Or.inl rfl) hd
theorem gqD173 {md : zM} (hc : md.1.cls = "OneDoor") {pc : Nat} (hd : decode md.2.1 pc = .ok (.getfield 173, 3)) : zS md pc (pc + 3) (i_getf 6 3) := n_getf (C0 := "OneDoor$Now") (T := zT6) (n := 7) (ref := "OneDoor$Now") (dc := "OneDoor$Now") (nm := "minute") (ds := "I") (fn := false) rfl (by decide) rfl (by rw [hc]; exact zmem 190 (by decide +kernel)) (Or.inl rfl) hd
theorem pqD173 {md : zM} (hc : md.1.cls = "OneDoor") {pc : Nat} (hd : decode md.2.1 pc = .ok (.putfield 173, 3)) : zS md pc (pc + 3) (i_putf 6 3 0) := n_putf (C0 := "OneDoor$Now") (T := zT6) (n := 7) (ref := "OneDoor$Now") (dc := "OneDoor$Now") (nm := "minute") (ds := "I") (fn := false) (ty := .int) rfl (by decide) rfl (by rw [hc]; exact zmem 190 (by decide +kernel)) (Or.inl rfl) (Or.inl rfl) (by decide +kernel) (Or.inl ⟨rfl, rfl⟩) hd
theorem vqD253 {md : zM} (hc : md.1.cls = "OneDoor") {pc : Nat} (hd : decode md.2.1 pc = .ok (.invokevirtual 253, 3)) : zS md pc (pc + 3) (i_callV (ztab 11 mD_disturb) 1) := n_callV (x := mD_disturb.1) (idx := 253) (zV_own (C := "OneDoor") (T := zT11) (k := 12) kD_disturb rfl rfl (by rw [hc]; exact zmem 543 (by decide +kernel)) (zmem 545 (by decide +kernel)) (zmem 19 (by decide +kernel))) hd
theorem sqD257 {md : zM} (hc : md.1.cls = "OneDoor") {pc : Nat} (hd : decode md.2.1 pc = .ok (.invokestatic 257, 3)) : zS md pc (pc + 3) (i_mm (fun x y => if x < y then y else x)) := n_mmax (by rw [hc]; exact zmem 547 (by decide +kernel)) (zmem 548 (by decide +kernel)) (zmem 69 (by decide +kernel)) (zmem 549 (by decide +kernel)) hd
theorem gqD176 {md : zM} (hc : md.1.cls = "OneDoor") {pc : Nat} (hd : decode md.2.1 pc = .ok (.getfield 176, 3)) : zS md pc (pc + 3) (i_getf 6 4) := n_getf (C0 := "OneDoor$Now") (T := zT6) (n := 7) (ref := "OneDoor$Now") (dc := "OneDoor$Now") (nm := "offended") (ds := "I") (fn := false) rfl (by decide) rfl (by rw [hc]; exact zmem 193 (by decide +kernel)) (Or.inl rfl) hd
theorem pqD176 {md : zM} (hc : md.1.cls = "OneDoor") {pc : Nat} (hd : decode md.2.1 pc = .ok (.putfield 176, 3)) : zS md pc (pc + 3) (i_putf 6 4 0) := n_putf (C0 := "OneDoor$Now") (T := zT6) (n := 7) (ref := "OneDoor$Now") (dc := "OneDoor$Now") (nm := "offended") (ds := "I") (fn := false) (ty := .int) rfl (by decide) rfl (by rw [hc]; exact zmem 193 (by decide +kernel)) (Or.inl rfl) (Or.inl rfl) (by decide +kernel) (Or.inl ⟨rfl, rfl⟩) hd
theorem pqD124 {md : zM} (hc : md.1.cls = "OneDoor") {pc : Nat} (hd : decode md.2.1 pc = .ok (.putfield 124, 3)) : zS md pc (pc + 3) (i_putf 6 5 0) := n_putf (C0 := "OneDoor$Now") (T := zT6) (n := 7) (ref := "OneDoor$Now") (dc := "OneDoor$Now") (nm := "shut") (ds := "I") (fn := false) (ty := .int) rfl (by decide) rfl (by rw [hc]; exact zmem 196 (by decide +kernel)) (Or.inl rfl) (Or.inl rfl) (by decide +kernel) (Or.inl ⟨rfl, rfl⟩) hd
theorem sqD158 {md : zM} (hc : md.1.cls = "OneDoor") {pc : Nat} (hd : decode md.2.1 pc = .ok (.invokestatic 158, 3)) : zS md pc (pc + 3) (i_callS mJ_bitCount 1) := n_callS kJ_bitCount (by rw [hc]; exact zmem 554 (by decide +kernel)) (zmem 555 (by decide +kernel)) hd
theorem cqJ265 {md : zM} (hc : md.1.cls = "java/lang/Integer") {pc : Nat} (hd : decode md.2.1 pc = .ok (.ldc_w 265, 3)) : zS md pc (pc + 3) (i_const (1431655765)) := n_ldcw (by rw [hc]; exact zmem 557 (by decide +kernel)) hd
theorem cqJ266 {md : zM} (hc : md.1.cls = "java/lang/Integer") {pc : Nat} (hd : decode md.2.1 pc = .ok (.ldc_w 266, 3)) : zS md pc (pc + 3) (i_const (858993459)) := n_ldcw (by rw [hc]; exact zmem 558 (by decide +kernel)) hd
theorem cqJ267 {md : zM} (hc : md.1.cls = "java/lang/Integer") {pc : Nat} (hd : decode md.2.1 pc = .ok (.ldc_w 267, 3)) : zS md pc (pc + 3) (i_const (252645135)) := n_ldcw (by rw [hc]; exact zmem 559 (by decide +kernel)) hd
theorem pqD163 {md : zM} (hc : md.1.cls = "OneDoor") {pc : Nat} (hd : decode md.2.1 pc = .ok (.putfield 163, 3)) : zS md pc (pc + 3) (i_putf 6 6 0) := n_putf (C0 := "OneDoor$Now") (T := zT6) (n := 7) (ref := "OneDoor$Now") (dc := "OneDoor$Now") (nm := "other") (ds := "I") (fn := false) (ty := .int) rfl (by decide) rfl (by rw [hc]; exact zmem 200 (by decide +kernel)) (Or.inl rfl) (Or.inl rfl) (by decide +kernel) (Or.inl ⟨rfl, rfl⟩) hd
theorem gqD166 {md : zM} (hc : md.1.cls = "OneDoor") {pc : Nat} (hd : decode md.2.1 pc = .ok (.getfield 166, 3)) : zS md pc (pc + 3) (i_getf 10 3) := n_getf (C0 := "OneDoor$Told") (T := zT10) (n := 8) (ref := "OneDoor$Told") (dc := "OneDoor$Told") (nm := "patience") (ds := "[I") (fn := true) rfl (by decide) rfl (by rw [hc]; exact zmem 135 (by decide +kernel)) (Or.inl rfl) hd
theorem gqD167 {md : zM} (hc : md.1.cls = "OneDoor") {pc : Nat} (hd : decode md.2.1 pc = .ok (.getfield 167, 3)) : zS md pc (pc + 3) (i_getf 5 2) := n_getf (C0 := "OneDoor$Life") (T := zT5) (n := 3) (ref := "OneDoor$Life") (dc := "OneDoor$Life") (nm := "known") (ds := "I") (fn := false) rfl (by decide) rfl (by rw [hc]; exact zmem 221 (by decide +kernel)) (Or.inl rfl) hd
theorem vqD170 {md : zM} (hc : md.1.cls = "OneDoor") {pc : Nat} (hd : decode md.2.1 pc = .ok (.invokevirtual 170, 3)) : zS md pc (pc + 3) (i_callV (ztab 5 mL_forgo) 0) := n_callV (x := mL_forgo.1) (idx := 170) (zV_own (C := "OneDoor$Life") (T := zT5) (k := 3) kL_forgo rfl rfl (by rw [hc]; exact zmem 576 (by decide +kernel)) (zmem 577 (by decide +kernel)) (zmem 578 (by decide +kernel))) hd
theorem vqD179 {md : zM} (hc : md.1.cls = "OneDoor") {pc : Nat} (hd : decode md.2.1 pc = .ok (.invokevirtual 179, 3)) : zS md pc (pc + 3) (i_callV (ztab 8 mP_passings) 1) := n_callV (x := mP_passings.1) (idx := 179) (zV_own (C := "OneDoor$Plan") (T := zT8) (k := 7) kP_passings rfl rfl (by rw [hc]; exact zmem 584 (by decide +kernel)) (zmem 585 (by decide +kernel)) (zmem 586 (by decide +kernel))) hd
theorem vqD182 {md : zM} (hc : md.1.cls = "OneDoor") {pc : Nat} (hd : decode md.2.1 pc = .ok (.invokevirtual 182, 3)) : zS md pc (pc + 3) (i_callV (ztab 8 mP_hurt) 0) := n_callV (x := mP_hurt.1) (idx := 182) (zV_own (C := "OneDoor$Plan") (T := zT8) (k := 7) kP_hurt rfl rfl (by rw [hc]; exact zmem 592 (by decide +kernel)) (zmem 593 (by decide +kernel)) (zmem 594 (by decide +kernel))) hd
theorem vqD186 {md : zM} (hc : md.1.cls = "OneDoor") {pc : Nat} (hd : decode md.2.1 pc = .ok (.invokevirtual 186, 3)) : zS md pc (pc + 3) (i_callV (ztab 8 mP_stopped) 1) := n_callV (x := mP_stopped.1) (idx := 186) (zV_own (C := "OneDoor$Plan") (T := zT8) (k := 7) kP_stopped rfl rfl (by rw [hc]; exact zmem 597 (by decide +kernel)) (zmem 598 (by decide +kernel)) (zmem 599 (by decide +kernel))) hd
theorem vqD189 {md : zM} (hc : md.1.cls = "OneDoor") {pc : Nat} (hd : decode md.2.1 pc = .ok (.invokevirtual 189, 3)) : zS md pc (pc + 3) (i_callV (ztab 8 mP_toOpen) 0) := n_callV (x := mP_toOpen.1) (idx := 189) (zV_own (C := "OneDoor$Plan") (T := zT8) (k := 7) kP_toOpen rfl rfl (by rw [hc]; exact zmem 605 (by decide +kernel)) (zmem 606 (by decide +kernel)) (zmem 607 (by decide +kernel))) hd
theorem vqP75 {md : zM} (hc : md.1.cls = "OneDoor$Plan") {pc : Nat} (hd : decode md.2.1 pc = .ok (.invokevirtual 75, 3)) : zS md pc (pc + 3) (i_callV (ztab 8 mP_dwellersOn) 1) := n_callV (x := mP_dwellersOn.1) (idx := 75) (zV_own (C := "OneDoor$Plan") (T := zT8) (k := 7) kP_dwellersOn rfl rfl (by rw [hc]; exact zmem 588 (by decide +kernel)) (zmem 590 (by decide +kernel)) (zmem 20 (by decide +kernel))) hd
theorem vqP78 {md : zM} (hc : md.1.cls = "OneDoor$Plan") {pc : Nat} (hd : decode md.2.1 pc = .ok (.invokevirtual 78, 3)) : zS md pc (pc + 3) (i_callV (ztab 8 mP_passedInADay) 1) := n_callV (x := mP_passedInADay.1) (idx := 78) (zV_own (C := "OneDoor$Plan") (T := zT8) (k := 7) kP_passedInADay rfl rfl (by rw [hc]; exact zmem 596 (by decide +kernel)) (zmem 512 (by decide +kernel)) (zmem 513 (by decide +kernel))) hd
theorem gqP81 {md : zM} (hc : md.1.cls = "OneDoor$Plan") {pc : Nat} (hd : decode md.2.1 pc = .ok (.getfield 81, 3)) : zS md pc (pc + 3) (i_getf 6 2) := n_getf (C0 := "OneDoor$Now") (T := zT6) (n := 7) (ref := "OneDoor$Now") (dc := "OneDoor$Now") (nm := "patience") (ds := "[I") (fn := true) rfl (by decide) rfl (by rw [hc]; exact zmem 188 (by decide +kernel)) (Or.inl rfl) hd
theorem vqP84 {md : zM} (hc : md.1.cls = "OneDoor$Plan") {pc : Nat} (hd : decode md.2.1 pc = .ok (.invokevirtual 84, 3)) : zS md pc (pc + 3) (i_callV (ztab 8 mP_eachWayMeets) 2) := n_callV (x := mP_eachWayMeets.1) (idx := 84) (zV_own (C := "OneDoor$Plan") (T := zT8) (k := 7) kP_eachWayMeets rfl rfl (by rw [hc]; exact zmem 601 (by decide +kernel)) (zmem 603 (by decide +kernel)) (zmem 21 (by decide +kernel))) hd
theorem gqP88 {md : zM} (hc : md.1.cls = "OneDoor$Plan") {pc : Nat} (hd : decode md.2.1 pc = .ok (.getfield 88, 3)) : zS md pc (pc + 3) (i_getf 6 5) := n_getf (C0 := "OneDoor$Now") (T := zT6) (n := 7) (ref := "OneDoor$Now") (dc := "OneDoor$Now") (nm := "shut") (ds := "I") (fn := false) rfl (by decide) rfl (by rw [hc]; exact zmem 197 (by decide +kernel)) (Or.inl rfl) hd
theorem sqP91 {md : zM} (hc : md.1.cls = "OneDoor$Plan") {pc : Nat} (hd : decode md.2.1 pc = .ok (.invokestatic 91, 3)) : zS md pc (pc + 3) (i_callS mP_isFewer 2) := n_callS kP_isFewer (by rw [hc]; exact zmem 609 (by decide +kernel)) (zmem 610 (by decide +kernel)) hd
theorem vqP94 {md : zM} (hc : md.1.cls = "OneDoor$Plan") {pc : Nat} (hd : decode md.2.1 pc = .ok (.invokevirtual 94, 3)) : zS md pc (pc + 3) (i_callV (ztab 8 mP_stopped) 1) := n_callV (x := mP_stopped.1) (idx := 94) (zV_own (C := "OneDoor$Plan") (T := zT8) (k := 7) kP_stopped rfl rfl (by rw [hc]; exact zmem 613 (by decide +kernel)) (zmem 598 (by decide +kernel)) (zmem 599 (by decide +kernel))) hd
theorem sqP97 {md : zM} (hc : md.1.cls = "OneDoor$Plan") {pc : Nat} (hd : decode md.2.1 pc = .ok (.invokestatic 97, 3)) : zS md pc (pc + 3) (i_callS mJ_bitCount 1) := n_callS kJ_bitCount (by rw [hc]; exact zmem 612 (by decide +kernel)) (zmem 555 (by decide +kernel)) hd
theorem vqD195 {md : zM} (hc : md.1.cls = "OneDoor") {pc : Nat} (hd : decode md.2.1 pc = .ok (.invokevirtual 195, 3)) : zS md pc (pc + 3) (i_callV (ztab 8 mP_giveHomes) 0) := n_callV (x := mP_giveHomes.1) (idx := 195) (zV_own (C := "OneDoor$Plan") (T := zT8) (k := 7) kP_giveHomes rfl rfl (by rw [hc]; exact zmem 618 (by decide +kernel)) (zmem 619 (by decide +kernel)) (zmem 620 (by decide +kernel))) hd
theorem gqD198 {md : zM} (hc : md.1.cls = "OneDoor") {pc : Nat} (hd : decode md.2.1 pc = .ok (.getfield 198, 3)) : zS md pc (pc + 3) (i_getf 8 6) := n_getf (C0 := "OneDoor$Plan") (T := zT8) (n := 7) (ref := "OneDoor$Plan") (dc := "OneDoor$Plan") (nm := "fewest") (ds := "I") (fn := false) rfl (by decide) rfl (by rw [hc]; exact zmem 243 (by decide +kernel)) (Or.inl rfl) hd
theorem gqD201 {md : zM} (hc : md.1.cls = "OneDoor") {pc : Nat} (hd : decode md.2.1 pc = .ok (.getfield 201, 3)) : zS md pc (pc + 3) (i_getf 8 5) := n_getf (C0 := "OneDoor$Plan") (T := zT8) (n := 7) (ref := "OneDoor$Plan") (dc := "OneDoor$Plan") (nm := "best") (ds := "[I") (fn := true) rfl (by decide) rfl (by rw [hc]; exact zmem 242 (by decide +kernel)) (Or.inl rfl) hd
theorem gqP9 {md : zM} (hc : md.1.cls = "OneDoor$Plan") {pc : Nat} (hd : decode md.2.1 pc = .ok (.getfield 9, 3)) : zS md pc (pc + 3) (i_getf 8 2) := n_getf (C0 := "OneDoor$Plan") (T := zT8) (n := 7) (ref := "OneDoor$Plan") (dc := "OneDoor$Plan") (nm := "cost") (ds := "[I") (fn := true) rfl (by decide) rfl (by rw [hc]; exact zmem 238 (by decide +kernel)) (Or.inl rfl) hd
theorem gqP15 {md : zM} (hc : md.1.cls = "OneDoor$Plan") {pc : Nat} (hd : decode md.2.1 pc = .ok (.getfield 15, 3)) : zS md pc (pc + 3) (i_getf 8 3) := n_getf (C0 := "OneDoor$Plan") (T := zT8) (n := 7) (ref := "OneDoor$Plan") (dc := "OneDoor$Plan") (nm := "left") (ds := "[I") (fn := true) rfl (by decide) rfl (by rw [hc]; exact zmem 239 (by decide +kernel)) (Or.inl rfl) hd
theorem cqP105 {md : zM} (hc : md.1.cls = "OneDoor$Plan") {pc : Nat} (hd : decode md.2.1 pc = .ok (.ldc 105, 2)) : zS md pc (pc + 2) (i_const (2147483647)) := n_ldc (by rw [hc]; exact zmem 622 (by decide +kernel)) hd
theorem pqP106 {md : zM} (hc : md.1.cls = "OneDoor$Plan") {pc : Nat} (hd : decode md.2.1 pc = .ok (.putfield 106, 3)) : zS md pc (pc + 3) (i_putf 8 6 0) := n_putf (C0 := "OneDoor$Plan") (T := zT8) (n := 7) (ref := "OneDoor$Plan") (dc := "OneDoor$Plan") (nm := "fewest") (ds := "I") (fn := false) (ty := .int) rfl (by decide) rfl (by rw [hc]; exact zmem 244 (by decide +kernel)) (Or.inl rfl) (Or.inl rfl) (by decide +kernel) (Or.inl ⟨rfl, rfl⟩) hd
theorem vqP109 {md : zM} (hc : md.1.cls = "OneDoor$Plan") {pc : Nat} (hd : decode md.2.1 pc = .ok (.invokevirtual 109, 3)) : zS md pc (pc + 3) (i_callV (ztab 8 mP_giveFrom) 2) := n_callV (x := mP_giveFrom.1) (idx := 109) (zV_own (C := "OneDoor$Plan") (T := zT8) (k := 7) kP_giveFrom rfl rfl (by rw [hc]; exact zmem 623 (by decide +kernel)) (zmem 625 (by decide +kernel)) (zmem 22 (by decide +kernel))) hd
theorem gqP106 {md : zM} (hc : md.1.cls = "OneDoor$Plan") {pc : Nat} (hd : decode md.2.1 pc = .ok (.getfield 106, 3)) : zS md pc (pc + 3) (i_getf 8 6) := n_getf (C0 := "OneDoor$Plan") (T := zT8) (n := 7) (ref := "OneDoor$Plan") (dc := "OneDoor$Plan") (nm := "fewest") (ds := "I") (fn := false) rfl (by decide) rfl (by rw [hc]; exact zmem 244 (by decide +kernel)) (Or.inl rfl) hd
theorem gqP18 {md : zM} (hc : md.1.cls = "OneDoor$Plan") {pc : Nat} (hd : decode md.2.1 pc = .ok (.getfield 18, 3)) : zS md pc (pc + 3) (i_getf 8 4) := n_getf (C0 := "OneDoor$Plan") (T := zT8) (n := 7) (ref := "OneDoor$Plan") (dc := "OneDoor$Plan") (nm := "given") (ds := "[I") (fn := true) rfl (by decide) rfl (by rw [hc]; exact zmem 240 (by decide +kernel)) (Or.inl rfl) hd
theorem gqP21 {md : zM} (hc : md.1.cls = "OneDoor$Plan") {pc : Nat} (hd : decode md.2.1 pc = .ok (.getfield 21, 3)) : zS md pc (pc + 3) (i_getf 8 5) := n_getf (C0 := "OneDoor$Plan") (T := zT8) (n := 7) (ref := "OneDoor$Plan") (dc := "OneDoor$Plan") (nm := "best") (ds := "[I") (fn := true) rfl (by decide) rfl (by rw [hc]; exact zmem 241 (by decide +kernel)) (Or.inl rfl) hd
theorem sqP113 {md : zM} (hc : md.1.cls = "OneDoor$Plan") {pc : Nat} (hd : decode md.2.1 pc = .ok (.invokestatic 113, 3)) : zS md pc (pc + 3) i_acopy := n_acopy (by rw [hc]; exact zmem 627 (by decide +kernel)) (zmem 459 (by decide +kernel)) (zmem 458 (by decide +kernel)) (zmem 70 (by decide +kernel)) hd
theorem vqD204 {md : zM} (hc : md.1.cls = "OneDoor") {pc : Nat} (hd : decode md.2.1 pc = .ok (.invokevirtual 204, 3)) : zS md pc (pc + 3) (i_callV (ztab 8 mP_bestDoor) 0) := n_callV (x := mP_bestDoor.1) (idx := 204) (zV_own (C := "OneDoor$Plan") (T := zT8) (k := 7) kP_bestDoor rfl rfl (by rw [hc]; exact zmem 632 (by decide +kernel)) (zmem 633 (by decide +kernel)) (zmem 634 (by decide +kernel))) hd
theorem vqP102 {md : zM} (hc : md.1.cls = "OneDoor$Plan") {pc : Nat} (hd : decode md.2.1 pc = .ok (.invokevirtual 102, 3)) : zS md pc (pc + 3) (i_callV (ztab 8 mP_passings) 1) := n_callV (x := mP_passings.1) (idx := 102) (zV_own (C := "OneDoor$Plan") (T := zT8) (k := 7) kP_passings rfl rfl (by rw [hc]; exact zmem 636 (by decide +kernel)) (zmem 585 (by decide +kernel)) (zmem 586 (by decide +kernel))) hd
theorem vqD207 {md : zM} (hc : md.1.cls = "OneDoor") {pc : Nat} (hd : decode md.2.1 pc = .ok (.invokevirtual 207, 3)) : zS md pc (pc + 3) (i_callV (ztab 8 mP_effort) 1) := n_callV (x := mP_effort.1) (idx := 207) (zV_own (C := "OneDoor$Plan") (T := zT8) (k := 7) kP_effort rfl rfl (by rw [hc]; exact zmem 641 (by decide +kernel)) (zmem 642 (by decide +kernel)) (zmem 643 (by decide +kernel))) hd
theorem gqD210 {md : zM} (hc : md.1.cls = "OneDoor") {pc : Nat} (hd : decode md.2.1 pc = .ok (.getfield 210, 3)) : zS md pc (pc + 3) (i_getf 10 6) := n_getf (C0 := "OneDoor$Told") (T := zT10) (n := 8) (ref := "OneDoor$Told") (dc := "OneDoor$Told") (nm := "tax") (ds := "I") (fn := false) rfl (by decide) rfl (by rw [hc]; exact zmem 147 (by decide +kernel)) (Or.inl rfl) hd
theorem sqD213 {md : zM} (hc : md.1.cls = "OneDoor") {pc : Nat} (hd : decode md.2.1 pc = .ok (.invokestatic 213, 3)) : zS md pc (pc + 3) (i_callS mD_inLeastTerms 3) := n_callS kD_inLeastTerms (by rw [hc]; exact zmem 646 (by decide +kernel)) (zmem 647 (by decide +kernel)) hd
theorem vqP69 {md : zM} (hc : md.1.cls = "OneDoor$Plan") {pc : Nat} (hd : decode md.2.1 pc = .ok (.invokevirtual 69, 3)) : zS md pc (pc + 3) (i_callV (ztab 8 mP_minutesTo) 1) := n_callV (x := mP_minutesTo.1) (idx := 69) (zV_own (C := "OneDoor$Plan") (T := zT8) (k := 7) kP_minutesTo rfl rfl (by rw [hc]; exact zmem 645 (by decide +kernel)) (zmem 482 (by decide +kernel)) (zmem 483 (by decide +kernel))) hd
theorem sqD278 {md : zM} (hc : md.1.cls = "OneDoor") {pc : Nat} (hd : decode md.2.1 pc = .ok (.invokestatic 278, 3)) : zS md pc (pc + 3) (i_callS mD_commonDivisor 2) := n_callS kD_commonDivisor (by rw [hc]; exact zmem 649 (by decide +kernel)) (zmem 650 (by decide +kernel)) hd
theorem vqD217 {md : zM} (hc : md.1.cls = "OneDoor") {pc : Nat} (hd : decode md.2.1 pc = .ok (.invokevirtual 217, 3)) : zS md pc (pc + 3) (i_callV (ztab 8 mP_blocked) 1) := n_callV (x := mP_blocked.1) (idx := 217) (zV_own (C := "OneDoor$Plan") (T := zT8) (k := 7) kP_blocked rfl rfl (by rw [hc]; exact zmem 656 (by decide +kernel)) (zmem 657 (by decide +kernel)) (zmem 658 (by decide +kernel))) hd
theorem gqD102 {md : zM} (hc : md.1.cls = "OneDoor") {pc : Nat} (hd : decode md.2.1 pc = .ok (.getfield 102, 3)) : zS md pc (pc + 3) (i_getf 11 10) := n_getf (C0 := "OneDoor") (T := zT11) (n := 12) (ref := "OneDoor") (dc := "OneDoor") (nm := "hatsSeen") (ds := "I") (fn := false) rfl (by decide) rfl (by rw [hc]; exact zmem 357 (by decide +kernel)) (Or.inl rfl) hd
theorem gqD55 {md : zM} (hc : md.1.cls = "OneDoor") {pc : Nat} (hd : decode md.2.1 pc = .ok (.getfield 55, 3)) : zS md pc (pc + 3) (i_getf 11 8) := n_getf (C0 := "OneDoor") (T := zT11) (n := 12) (ref := "OneDoor") (dc := "OneDoor") (nm := "hatHouse") (ds := "[I") (fn := true) rfl (by decide) rfl (by rw [hc]; exact zmem 355 (by decide +kernel)) (Or.inl rfl) hd
theorem gqD59 {md : zM} (hc : md.1.cls = "OneDoor") {pc : Nat} (hd : decode md.2.1 pc = .ok (.getfield 59, 3)) : zS md pc (pc + 3) (i_getf 11 9) := n_getf (C0 := "OneDoor") (T := zT11) (n := 12) (ref := "OneDoor") (dc := "OneDoor") (nm := "hatMinute") (ds := "[I") (fn := true) rfl (by decide) rfl (by rw [hc]; exact zmem 356 (by decide +kernel)) (Or.inl rfl) hd
theorem vqD220 {md : zM} (hc : md.1.cls = "OneDoor") {pc : Nat} (hd : decode md.2.1 pc = .ok (.invokevirtual 220, 3)) : zS md pc (pc + 3) (i_callV (ztab 11 mD_hatsFit) 1) := n_callV (x := mD_hatsFit.1) (idx := 220) (zV_own (C := "OneDoor") (T := zT11) (k := 12) kD_hatsFit rfl rfl (by rw [hc]; exact zmem 672 (by decide +kernel)) (zmem 674 (by decide +kernel)) (zmem 23 (by decide +kernel))) hd
theorem vqD262 {md : zM} (hc : md.1.cls = "OneDoor") {pc : Nat} (hd : decode md.2.1 pc = .ok (.invokevirtual 262, 3)) : zS md pc (pc + 3) (i_callV (ztab 8 mP_wayTo) 1) := n_callV (x := mP_wayTo.1) (idx := 262) (zV_own (C := "OneDoor$Plan") (T := zT8) (k := 7) kP_wayTo rfl rfl (by rw [hc]; exact zmem 676 (by decide +kernel)) (zmem 486 (by decide +kernel)) (zmem 487 (by decide +kernel))) hd
theorem vqD265 {md : zM} (hc : md.1.cls = "OneDoor") {pc : Nat} (hd : decode md.2.1 pc = .ok (.invokevirtual 265, 3)) : zS md pc (pc + 3) (i_callV (ztab 11 mD_hatsFitOut) 3) := n_callV (x := mD_hatsFitOut.1) (idx := 265) (zV_own (C := "OneDoor") (T := zT11) (k := 12) kD_hatsFitOut rfl rfl (by rw [hc]; exact zmem 677 (by decide +kernel)) (zmem 679 (by decide +kernel)) (zmem 24 (by decide +kernel))) hd
theorem vqD269 {md : zM} (hc : md.1.cls = "OneDoor") {pc : Nat} (hd : decode md.2.1 pc = .ok (.invokevirtual 269, 3)) : zS md pc (pc + 3) (i_callV (ztab 11 mD_hatsFitIn) 3) := n_callV (x := mD_hatsFitIn.1) (idx := 269) (zV_own (C := "OneDoor") (T := zT11) (k := 12) kD_hatsFitIn rfl rfl (by rw [hc]; exact zmem 688 (by decide +kernel)) (zmem 690 (by decide +kernel)) (zmem 25 (by decide +kernel))) hd
theorem vqD272 {md : zM} (hc : md.1.cls = "OneDoor") {pc : Nat} (hd : decode md.2.1 pc = .ok (.invokevirtual 272, 3)) : zS md pc (pc + 3) (i_callV (ztab 8 mP_placeOut) 3) := n_callV (x := mP_placeOut.1) (idx := 272) (zV_own (C := "OneDoor$Plan") (T := zT8) (k := 7) kP_placeOut rfl rfl (by rw [hc]; exact zmem 681 (by decide +kernel)) (zmem 682 (by decide +kernel)) (zmem 683 (by decide +kernel))) hd
theorem sqP119 {md : zM} (hc : md.1.cls = "OneDoor$Plan") {pc : Nat} (hd : decode md.2.1 pc = .ok (.invokestatic 119, 3)) : zS md pc (pc + 3) (i_callS mP_towardsDoor 2) := n_callS kP_towardsDoor (by rw [hc]; exact zmem 685 (by decide +kernel)) (zmem 686 (by decide +kernel)) hd
theorem vqD275 {md : zM} (hc : md.1.cls = "OneDoor") {pc : Nat} (hd : decode md.2.1 pc = .ok (.invokevirtual 275, 3)) : zS md pc (pc + 3) (i_callV (ztab 8 mP_placeIn) 3) := n_callV (x := mP_placeIn.1) (idx := 275) (zV_own (C := "OneDoor$Plan") (T := zT8) (k := 7) kP_placeIn rfl rfl (by rw [hc]; exact zmem 692 (by decide +kernel)) (zmem 693 (by decide +kernel)) (zmem 694 (by decide +kernel))) hd
theorem gqD226 {md : zM} (hc : md.1.cls = "OneDoor") {pc : Nat} (hd : decode md.2.1 pc = .ok (.getfield 226, 3)) : zS md pc (pc + 3) (i_getf 10 7) := n_getf (C0 := "OneDoor$Told") (T := zT10) (n := 8) (ref := "OneDoor$Told") (dc := "OneDoor$Told") (nm := "warm") (ds := "I") (fn := false) rfl (by decide) rfl (by rw [hc]; exact zmem 150 (by decide +kernel)) (Or.inl rfl) hd
theorem sqD229 {md : zM} (hc : md.1.cls = "OneDoor") {pc : Nat} (hd : decode md.2.1 pc = .ok (.invokestatic 229, 3)) : zS md pc (pc + 3) (i_callS mD_isStart 1) := n_callS kD_isStart (by rw [hc]; exact zmem 704 (by decide +kernel)) (zmem 705 (by decide +kernel)) hd
theorem vqD232 {md : zM} (hc : md.1.cls = "OneDoor") {pc : Nat} (hd : decode md.2.1 pc = .ok (.invokevirtual 232, 3)) : zS md pc (pc + 3) (i_callV (ztab 8 mP_meeting) 4) := n_callV (x := mP_meeting.1) (idx := 232) (zV_own (C := "OneDoor$Plan") (T := zT8) (k := 7) kP_meeting rfl rfl (by rw [hc]; exact zmem 707 (by decide +kernel)) (zmem 708 (by decide +kernel)) (zmem 709 (by decide +kernel))) hd
theorem vqP122 {md : zM} (hc : md.1.cls = "OneDoor$Plan") {pc : Nat} (hd : decode md.2.1 pc = .ok (.invokevirtual 122, 3)) : zS md pc (pc + 3) (i_callV (ztab 8 mP_placeOut) 3) := n_callV (x := mP_placeOut.1) (idx := 122) (zV_own (C := "OneDoor$Plan") (T := zT8) (k := 7) kP_placeOut rfl rfl (by rw [hc]; exact zmem 711 (by decide +kernel)) (zmem 682 (by decide +kernel)) (zmem 683 (by decide +kernel))) hd
theorem vqP126 {md : zM} (hc : md.1.cls = "OneDoor$Plan") {pc : Nat} (hd : decode md.2.1 pc = .ok (.invokevirtual 126, 3)) : zS md pc (pc + 3) (i_callV (ztab 8 mP_placeIn) 3) := n_callV (x := mP_placeIn.1) (idx := 126) (zV_own (C := "OneDoor$Plan") (T := zT8) (k := 7) kP_placeIn rfl rfl (by rw [hc]; exact zmem 712 (by decide +kernel)) (zmem 693 (by decide +kernel)) (zmem 694 (by decide +kernel))) hd
theorem vqD236 {md : zM} (hc : md.1.cls = "OneDoor") {pc : Nat} (hd : decode md.2.1 pc = .ok (.invokevirtual 236, 3)) : zS md pc (pc + 3) (i_callV (ztab 8 mP_goersThrough) 1) := n_callV (x := mP_goersThrough.1) (idx := 236) (zV_own (C := "OneDoor$Plan") (T := zT8) (k := 7) kP_goersThrough rfl rfl (by rw [hc]; exact zmem 717 (by decide +kernel)) (zmem 718 (by decide +kernel)) (zmem 719 (by decide +kernel))) hd
theorem gqD80 {md : zM} (hc : md.1.cls = "OneDoor") {pc : Nat} (hd : decode md.2.1 pc = .ok (.getfield 80, 3)) : zS md pc (pc + 3) (i_getf 11 11) := n_getf (C0 := "OneDoor") (T := zT11) (n := 12) (ref := "OneDoor") (dc := "OneDoor") (nm := "kinds") (ds := "[LOneDoor$Hall;") (fn := true) rfl (by decide) rfl (by rw [hc]; exact zmem 358 (by decide +kernel)) (Or.inl rfl) hd
theorem cqD239 {md : zM} (hc : md.1.cls = "OneDoor") {pc : Nat} (hd : decode md.2.1 pc = .ok (.ldc 239, 2)) : zS md pc (pc + 2) (i_const (-1000000)) := n_ldc (by rw [hc]; exact zmem 725 (by decide +kernel)) hd
def zkt : Nat → Option zM := fun ci => match ci with
  | 0 => some mA_worth
  | 1 => some mB_worth
  | 2 => some mC_worth
  | 3 => some mH_worth
  | 4 => some mK_worth
  | 7 => some mI_worth
  | _ => none
theorem vqD240 {md : zM} (hc : md.1.cls = "OneDoor") {pc : Nat} (hd : decode md.2.1 pc = .ok (.invokevirtual 240, 3)) : zS md pc (pc + 3) (i_callV zkt 1) := n_callV (x := mH_worth.1) (idx := 240) (fun ci y h => by
  match ci, y, h with
  | 0, y, h => cases h; exact ⟨kA_worth, _, _, _, rfl, Or.inr ⟨"OneDoor$Hall", mH_worth.2.1, mH_worth.2.2.1, mH_worth.2.2.2, kH_worth.2.1, ⟨by decide, by decide⟩, rfl, by rw [hc]; exact zmem 726 (by decide +kernel), zmem 729 (by decide +kernel), zmem 727 (by decide +kernel), zmem 730 (by decide +kernel), zmem 731 (by decide +kernel)⟩⟩
  | 1, y, h => cases h; exact ⟨kB_worth, _, _, _, rfl, Or.inr ⟨"OneDoor$Hall", mH_worth.2.1, mH_worth.2.2.1, mH_worth.2.2.2, kH_worth.2.1, ⟨by decide, by decide⟩, rfl, by rw [hc]; exact zmem 726 (by decide +kernel), zmem 729 (by decide +kernel), zmem 727 (by decide +kernel), zmem 735 (by decide +kernel), zmem 736 (by decide +kernel)⟩⟩
  | 2, y, h => cases h; exact ⟨kC_worth, _, _, _, rfl, Or.inr ⟨"OneDoor$Hall", mH_worth.2.1, mH_worth.2.2.1, mH_worth.2.2.2, kH_worth.2.1, ⟨by decide, by decide⟩, rfl, by rw [hc]; exact zmem 726 (by decide +kernel), zmem 729 (by decide +kernel), zmem 727 (by decide +kernel), zmem 740 (by decide +kernel), zmem 741 (by decide +kernel)⟩⟩
  | 3, y, h => cases h; exact ⟨kH_worth, _, _, _, rfl, Or.inl ⟨rfl, rfl, by rw [hc]; exact zmem 726 (by decide +kernel), zmem 727 (by decide +kernel), zmem 728 (by decide +kernel)⟩⟩
  | 4, y, h => cases h; exact ⟨kK_worth, _, _, _, rfl, Or.inr ⟨"OneDoor$Hall", mH_worth.2.1, mH_worth.2.2.1, mH_worth.2.2.2, kH_worth.2.1, ⟨by decide, by decide⟩, rfl, by rw [hc]; exact zmem 726 (by decide +kernel), zmem 729 (by decide +kernel), zmem 727 (by decide +kernel), zmem 745 (by decide +kernel), zmem 746 (by decide +kernel)⟩⟩
  | 7, y, h => cases h; exact ⟨kI_worth, _, _, _, rfl, Or.inr ⟨"OneDoor$Hall", mH_worth.2.1, mH_worth.2.2.1, mH_worth.2.2.2, kH_worth.2.1, ⟨by decide, by decide⟩, rfl, by rw [hc]; exact zmem 726 (by decide +kernel), zmem 729 (by decide +kernel), zmem 727 (by decide +kernel), zmem 750 (by decide +kernel), zmem 751 (by decide +kernel)⟩⟩
  | 5, y, h => cases h
  | 6, y, h => cases h
  | n + 8, y, h => cases h) hd
theorem gqA7 {md : zM} (hc : md.1.cls = "OneDoor$Attic") {pc : Nat} (hd : decode md.2.1 pc = .ok (.getfield 7, 3)) : zS md pc (pc + 3) (i_getf 3 2) := n_getf (C0 := "OneDoor$Hall") (T := zT3) (n := 3) (ref := "OneDoor$Attic") (dc := "OneDoor$Hall") (nm := "asked") (ds := "J") (fn := false) rfl (by decide) rfl (by rw [hc]; exact zmem 279 (by decide +kernel)) (Or.inr (zmem 280 (by decide +kernel))) hd
theorem lqA13 {md : zM} (hc : md.1.cls = "OneDoor$Attic") {pc : Nat} (hd : decode md.2.1 pc = .ok (.ldc2_w 13, 3)) : zS md pc (pc + 3) (i_lconst (100000)) := n_ldc2 (by rw [hc]; exact zmem 733 (by decide +kernel)) hd
theorem pqA7 {md : zM} (hc : md.1.cls = "OneDoor$Attic") {pc : Nat} (hd : decode md.2.1 pc = .ok (.putfield 7, 3)) : zS md pc (pc + 3) (i_putf 3 2 2) := n_putf (C0 := "OneDoor$Hall") (T := zT3) (n := 3) (ref := "OneDoor$Attic") (dc := "OneDoor$Hall") (nm := "asked") (ds := "J") (fn := false) (ty := .long) rfl (by decide) rfl (by rw [hc]; exact zmem 279 (by decide +kernel)) (Or.inr (zmem 280 (by decide +kernel))) (Or.inl rfl) (by decide +kernel) (Or.inr (Or.inr (Or.inl ⟨rfl, rfl⟩))) hd
theorem uqA15 {md : zM} (hc : md.1.cls = "OneDoor$Attic") {pc : Nat} (hd : decode md.2.1 pc = .ok (.invokespecial 15, 3)) : zS md pc (pc + 3) (i_callV (zsup [0] mH_worth) 1) := n_callU kH_worth (fun ci z h => by
  unfold zsup at h
  split at h
  · rename_i e
    cases h
    simp only [List.mem_cons, List.not_mem_nil, or_false] at e
    refine ⟨rfl, ?_⟩
    subst e
    exact ⟨_, rfl⟩
  · cases h) (by decide) (by rw [hc]; exact zmem 734 (by decide +kernel)) (zmem 729 (by decide +kernel)) (by rw [hc]; exact zmem 346 (by decide +kernel)) (zmem 727 (by decide +kernel)) hd
theorem gqA19 {md : zM} (hc : md.1.cls = "OneDoor$Attic") {pc : Nat} (hd : decode md.2.1 pc = .ok (.getfield 19, 3)) : zS md pc (pc + 3) (i_getf 3 1) := n_getf (C0 := "OneDoor$Hall") (T := zT3) (n := 3) (ref := "OneDoor$Attic") (dc := "OneDoor$Hall") (nm := "state") (ds := "LOneDoor$Now;") (fn := true) rfl (by decide) rfl (by rw [hc]; exact zmem 272 (by decide +kernel)) (Or.inr (zmem 273 (by decide +kernel))) hd
theorem gqA23 {md : zM} (hc : md.1.cls = "OneDoor$Attic") {pc : Nat} (hd : decode md.2.1 pc = .ok (.getfield 23, 3)) : zS md pc (pc + 3) (i_getf 6 4) := n_getf (C0 := "OneDoor$Now") (T := zT6) (n := 7) (ref := "OneDoor$Now") (dc := "OneDoor$Now") (nm := "offended") (ds := "I") (fn := false) rfl (by decide) rfl (by rw [hc]; exact zmem 191 (by decide +kernel)) (Or.inl rfl) hd
theorem gqB7 {md : zM} (hc : md.1.cls = "OneDoor$Bath") {pc : Nat} (hd : decode md.2.1 pc = .ok (.getfield 7, 3)) : zS md pc (pc + 3) (i_getf 3 2) := n_getf (C0 := "OneDoor$Hall") (T := zT3) (n := 3) (ref := "OneDoor$Bath") (dc := "OneDoor$Hall") (nm := "asked") (ds := "J") (fn := false) rfl (by decide) rfl (by rw [hc]; exact zmem 281 (by decide +kernel)) (Or.inr (zmem 282 (by decide +kernel))) hd
theorem lqB13 {md : zM} (hc : md.1.cls = "OneDoor$Bath") {pc : Nat} (hd : decode md.2.1 pc = .ok (.ldc2_w 13, 3)) : zS md pc (pc + 3) (i_lconst (100)) := n_ldc2 (by rw [hc]; exact zmem 738 (by decide +kernel)) hd
theorem pqB7 {md : zM} (hc : md.1.cls = "OneDoor$Bath") {pc : Nat} (hd : decode md.2.1 pc = .ok (.putfield 7, 3)) : zS md pc (pc + 3) (i_putf 3 2 2) := n_putf (C0 := "OneDoor$Hall") (T := zT3) (n := 3) (ref := "OneDoor$Bath") (dc := "OneDoor$Hall") (nm := "asked") (ds := "J") (fn := false) (ty := .long) rfl (by decide) rfl (by rw [hc]; exact zmem 281 (by decide +kernel)) (Or.inr (zmem 282 (by decide +kernel))) (Or.inl rfl) (by decide +kernel) (Or.inr (Or.inr (Or.inl ⟨rfl, rfl⟩))) hd
theorem uqB15 {md : zM} (hc : md.1.cls = "OneDoor$Bath") {pc : Nat} (hd : decode md.2.1 pc = .ok (.invokespecial 15, 3)) : zS md pc (pc + 3) (i_callV (zsup [1, 2] mH_worth) 1) := n_callU kH_worth (fun ci z h => by
  unfold zsup at h
  split at h
  · rename_i e
    cases h
    simp only [List.mem_cons, List.not_mem_nil, or_false] at e
    refine ⟨rfl, ?_⟩
    rcases e with rfl | rfl
    · exact ⟨_, rfl⟩
    · exact ⟨_, rfl⟩
  · cases h) (by decide) (by rw [hc]; exact zmem 739 (by decide +kernel)) (zmem 729 (by decide +kernel)) (by rw [hc]; exact zmem 316 (by decide +kernel)) (zmem 727 (by decide +kernel)) hd
theorem gqC7 {md : zM} (hc : md.1.cls = "OneDoor$Curtain") {pc : Nat} (hd : decode md.2.1 pc = .ok (.getfield 7, 3)) : zS md pc (pc + 3) (i_getf 3 2) := n_getf (C0 := "OneDoor$Hall") (T := zT3) (n := 3) (ref := "OneDoor$Curtain") (dc := "OneDoor$Hall") (nm := "asked") (ds := "J") (fn := false) rfl (by decide) rfl (by rw [hc]; exact zmem 283 (by decide +kernel)) (Or.inr (zmem 284 (by decide +kernel))) hd
theorem lqC13 {md : zM} (hc : md.1.cls = "OneDoor$Curtain") {pc : Nat} (hd : decode md.2.1 pc = .ok (.ldc2_w 13, 3)) : zS md pc (pc + 3) (i_lconst (10000)) := n_ldc2 (by rw [hc]; exact zmem 743 (by decide +kernel)) hd
theorem pqC7 {md : zM} (hc : md.1.cls = "OneDoor$Curtain") {pc : Nat} (hd : decode md.2.1 pc = .ok (.putfield 7, 3)) : zS md pc (pc + 3) (i_putf 3 2 2) := n_putf (C0 := "OneDoor$Hall") (T := zT3) (n := 3) (ref := "OneDoor$Curtain") (dc := "OneDoor$Hall") (nm := "asked") (ds := "J") (fn := false) (ty := .long) rfl (by decide) rfl (by rw [hc]; exact zmem 283 (by decide +kernel)) (Or.inr (zmem 284 (by decide +kernel))) (Or.inl rfl) (by decide +kernel) (Or.inr (Or.inr (Or.inl ⟨rfl, rfl⟩))) hd
theorem uqC15 {md : zM} (hc : md.1.cls = "OneDoor$Curtain") {pc : Nat} (hd : decode md.2.1 pc = .ok (.invokespecial 15, 3)) : zS md pc (pc + 3) (i_callV (zsup [2] mB_worth) 1) := n_callU kB_worth (fun ci z h => by
  unfold zsup at h
  split at h
  · rename_i e
    cases h
    simp only [List.mem_cons, List.not_mem_nil, or_false] at e
    refine ⟨rfl, ?_⟩
    subst e
    exact ⟨_, rfl⟩
  · cases h) (by decide) (by rw [hc]; exact zmem 744 (by decide +kernel)) (zmem 1098 (by decide +kernel)) (by rw [hc]; exact zmem 336 (by decide +kernel)) (zmem 736 (by decide +kernel)) hd
theorem gqC19 {md : zM} (hc : md.1.cls = "OneDoor$Curtain") {pc : Nat} (hd : decode md.2.1 pc = .ok (.getfield 19, 3)) : zS md pc (pc + 3) (i_getf 3 1) := n_getf (C0 := "OneDoor$Hall") (T := zT3) (n := 3) (ref := "OneDoor$Curtain") (dc := "OneDoor$Hall") (nm := "state") (ds := "LOneDoor$Now;") (fn := true) rfl (by decide) rfl (by rw [hc]; exact zmem 274 (by decide +kernel)) (Or.inr (zmem 275 (by decide +kernel))) hd
theorem gqC23 {md : zM} (hc : md.1.cls = "OneDoor$Curtain") {pc : Nat} (hd : decode md.2.1 pc = .ok (.getfield 23, 3)) : zS md pc (pc + 3) (i_getf 6 5) := n_getf (C0 := "OneDoor$Now") (T := zT6) (n := 7) (ref := "OneDoor$Now") (dc := "OneDoor$Now") (nm := "shut") (ds := "I") (fn := false) rfl (by decide) rfl (by rw [hc]; exact zmem 194 (by decide +kernel)) (Or.inl rfl) hd
theorem gqK7 {md : zM} (hc : md.1.cls = "OneDoor$Kitchen") {pc : Nat} (hd : decode md.2.1 pc = .ok (.getfield 7, 3)) : zS md pc (pc + 3) (i_getf 3 2) := n_getf (C0 := "OneDoor$Hall") (T := zT3) (n := 3) (ref := "OneDoor$Kitchen") (dc := "OneDoor$Hall") (nm := "asked") (ds := "J") (fn := false) rfl (by decide) rfl (by rw [hc]; exact zmem 285 (by decide +kernel)) (Or.inr (zmem 286 (by decide +kernel))) hd
theorem lqK13 {md : zM} (hc : md.1.cls = "OneDoor$Kitchen") {pc : Nat} (hd : decode md.2.1 pc = .ok (.ldc2_w 13, 3)) : zS md pc (pc + 3) (i_lconst (10)) := n_ldc2 (by rw [hc]; exact zmem 748 (by decide +kernel)) hd
theorem pqK7 {md : zM} (hc : md.1.cls = "OneDoor$Kitchen") {pc : Nat} (hd : decode md.2.1 pc = .ok (.putfield 7, 3)) : zS md pc (pc + 3) (i_putf 3 2 2) := n_putf (C0 := "OneDoor$Hall") (T := zT3) (n := 3) (ref := "OneDoor$Kitchen") (dc := "OneDoor$Hall") (nm := "asked") (ds := "J") (fn := false) (ty := .long) rfl (by decide) rfl (by rw [hc]; exact zmem 285 (by decide +kernel)) (Or.inr (zmem 286 (by decide +kernel))) (Or.inl rfl) (by decide +kernel) (Or.inr (Or.inr (Or.inl ⟨rfl, rfl⟩))) hd
theorem uqK15 {md : zM} (hc : md.1.cls = "OneDoor$Kitchen") {pc : Nat} (hd : decode md.2.1 pc = .ok (.invokespecial 15, 3)) : zS md pc (pc + 3) (i_callV (zsup [4, 7] mH_worth) 1) := n_callU kH_worth (fun ci z h => by
  unfold zsup at h
  split at h
  · rename_i e
    cases h
    simp only [List.mem_cons, List.not_mem_nil, or_false] at e
    refine ⟨rfl, ?_⟩
    rcases e with rfl | rfl
    · exact ⟨_, rfl⟩
    · exact ⟨_, rfl⟩
  · cases h) (by decide) (by rw [hc]; exact zmem 749 (by decide +kernel)) (zmem 729 (by decide +kernel)) (by rw [hc]; exact zmem 306 (by decide +kernel)) (zmem 727 (by decide +kernel)) hd
theorem gqK19 {md : zM} (hc : md.1.cls = "OneDoor$Kitchen") {pc : Nat} (hd : decode md.2.1 pc = .ok (.getfield 19, 3)) : zS md pc (pc + 3) (i_getf 3 0) := n_getf (C0 := "OneDoor$Hall") (T := zT3) (n := 3) (ref := "OneDoor$Kitchen") (dc := "OneDoor$Hall") (nm := "told") (ds := "LOneDoor$Told;") (fn := true) rfl (by decide) rfl (by rw [hc]; exact zmem 269 (by decide +kernel)) (Or.inr (zmem 270 (by decide +kernel))) hd
theorem gqK23 {md : zM} (hc : md.1.cls = "OneDoor$Kitchen") {pc : Nat} (hd : decode md.2.1 pc = .ok (.getfield 23, 3)) : zS md pc (pc + 3) (i_getf 10 5) := n_getf (C0 := "OneDoor$Told") (T := zT10) (n := 8) (ref := "OneDoor$Told") (dc := "OneDoor$Told") (nm := "people") (ds := "I") (fn := false) rfl (by decide) rfl (by rw [hc]; exact zmem 141 (by decide +kernel)) (Or.inl rfl) hd
theorem gqK29 {md : zM} (hc : md.1.cls = "OneDoor$Kitchen") {pc : Nat} (hd : decode md.2.1 pc = .ok (.getfield 29, 3)) : zS md pc (pc + 3) (i_getf 3 1) := n_getf (C0 := "OneDoor$Hall") (T := zT3) (n := 3) (ref := "OneDoor$Kitchen") (dc := "OneDoor$Hall") (nm := "state") (ds := "LOneDoor$Now;") (fn := true) rfl (by decide) rfl (by rw [hc]; exact zmem 276 (by decide +kernel)) (Or.inr (zmem 277 (by decide +kernel))) hd
theorem gqK33 {md : zM} (hc : md.1.cls = "OneDoor$Kitchen") {pc : Nat} (hd : decode md.2.1 pc = .ok (.getfield 33, 3)) : zS md pc (pc + 3) (i_getf 6 1) := n_getf (C0 := "OneDoor$Now") (T := zT6) (n := 7) (ref := "OneDoor$Now") (dc := "OneDoor$Now") (nm := "home") (ds := "[I") (fn := true) rfl (by decide) rfl (by rw [hc]; exact zmem 183 (by decide +kernel)) (Or.inl rfl) hd
theorem gqI7 {md : zM} (hc : md.1.cls = "OneDoor$Piano") {pc : Nat} (hd : decode md.2.1 pc = .ok (.getfield 7, 3)) : zS md pc (pc + 3) (i_getf 3 2) := n_getf (C0 := "OneDoor$Hall") (T := zT3) (n := 3) (ref := "OneDoor$Piano") (dc := "OneDoor$Hall") (nm := "asked") (ds := "J") (fn := false) rfl (by decide) rfl (by rw [hc]; exact zmem 287 (by decide +kernel)) (Or.inr (zmem 288 (by decide +kernel))) hd
theorem lqI13 {md : zM} (hc : md.1.cls = "OneDoor$Piano") {pc : Nat} (hd : decode md.2.1 pc = .ok (.ldc2_w 13, 3)) : zS md pc (pc + 3) (i_lconst (1000)) := n_ldc2 (by rw [hc]; exact zmem 753 (by decide +kernel)) hd
theorem pqI7 {md : zM} (hc : md.1.cls = "OneDoor$Piano") {pc : Nat} (hd : decode md.2.1 pc = .ok (.putfield 7, 3)) : zS md pc (pc + 3) (i_putf 3 2 2) := n_putf (C0 := "OneDoor$Hall") (T := zT3) (n := 3) (ref := "OneDoor$Piano") (dc := "OneDoor$Hall") (nm := "asked") (ds := "J") (fn := false) (ty := .long) rfl (by decide) rfl (by rw [hc]; exact zmem 287 (by decide +kernel)) (Or.inr (zmem 288 (by decide +kernel))) (Or.inl rfl) (by decide +kernel) (Or.inr (Or.inr (Or.inl ⟨rfl, rfl⟩))) hd
theorem uqI15 {md : zM} (hc : md.1.cls = "OneDoor$Piano") {pc : Nat} (hd : decode md.2.1 pc = .ok (.invokespecial 15, 3)) : zS md pc (pc + 3) (i_callV (zsup [7] mK_worth) 1) := n_callU kK_worth (fun ci z h => by
  unfold zsup at h
  split at h
  · rename_i e
    cases h
    simp only [List.mem_cons, List.not_mem_nil, or_false] at e
    refine ⟨rfl, ?_⟩
    subst e
    exact ⟨_, rfl⟩
  · cases h) (by decide) (by rw [hc]; exact zmem 754 (by decide +kernel)) (zmem 1099 (by decide +kernel)) (by rw [hc]; exact zmem 326 (by decide +kernel)) (zmem 746 (by decide +kernel)) hd
theorem gqH17 {md : zM} (hc : md.1.cls = "OneDoor$Hall") {pc : Nat} (hd : decode md.2.1 pc = .ok (.getfield 17, 3)) : zS md pc (pc + 3) (i_getf 3 2) := n_getf (C0 := "OneDoor$Hall") (T := zT3) (n := 3) (ref := "OneDoor$Hall") (dc := "OneDoor$Hall") (nm := "asked") (ds := "J") (fn := false) rfl (by decide) rfl (by rw [hc]; exact zmem 278 (by decide +kernel)) (Or.inl rfl) hd
theorem pqH17 {md : zM} (hc : md.1.cls = "OneDoor$Hall") {pc : Nat} (hd : decode md.2.1 pc = .ok (.putfield 17, 3)) : zS md pc (pc + 3) (i_putf 3 2 2) := n_putf (C0 := "OneDoor$Hall") (T := zT3) (n := 3) (ref := "OneDoor$Hall") (dc := "OneDoor$Hall") (nm := "asked") (ds := "J") (fn := false) (ty := .long) rfl (by decide) rfl (by rw [hc]; exact zmem 278 (by decide +kernel)) (Or.inl rfl) (Or.inl rfl) (by decide +kernel) (Or.inr (Or.inr (Or.inl ⟨rfl, rfl⟩))) hd
theorem gqH7 {md : zM} (hc : md.1.cls = "OneDoor$Hall") {pc : Nat} (hd : decode md.2.1 pc = .ok (.getfield 7, 3)) : zS md pc (pc + 3) (i_getf 3 0) := n_getf (C0 := "OneDoor$Hall") (T := zT3) (n := 3) (ref := "OneDoor$Hall") (dc := "OneDoor$Hall") (nm := "told") (ds := "LOneDoor$Told;") (fn := true) rfl (by decide) rfl (by rw [hc]; exact zmem 268 (by decide +kernel)) (Or.inl rfl) hd
theorem gqH21 {md : zM} (hc : md.1.cls = "OneDoor$Hall") {pc : Nat} (hd : decode md.2.1 pc = .ok (.getfield 21, 3)) : zS md pc (pc + 3) (i_getf 10 0) := n_getf (C0 := "OneDoor$Told") (T := zT10) (n := 8) (ref := "OneDoor$Told") (dc := "OneDoor$Told") (nm := "hall") (ds := "[I") (fn := true) rfl (by decide) rfl (by rw [hc]; exact zmem 121 (by decide +kernel)) (Or.inl rfl) hd
theorem sqD243 {md : zM} (hc : md.1.cls = "OneDoor") {pc : Nat} (hd : decode md.2.1 pc = .ok (.invokestatic 243, 3)) : zS md pc (pc + 3) (i_callS mD_isImage 1) := n_callS kD_isImage (by rw [hc]; exact zmem 760 (by decide +kernel)) (zmem 761 (by decide +kernel)) hd
theorem vqD246 {md : zM} (hc : md.1.cls = "OneDoor") {pc : Nat} (hd : decode md.2.1 pc = .ok (.invokevirtual 246, 3)) : zS md pc (pc + 3) (i_callV (ztab 5 mL_become) 1) := n_callV (x := mL_become.1) (idx := 246) (zV_own (C := "OneDoor$Life") (T := zT5) (k := 3) kL_become rfl rfl (by rw [hc]; exact zmem 763 (by decide +kernel)) (zmem 764 (by decide +kernel)) (zmem 765 (by decide +kernel))) hd
theorem gqD249 {md : zM} (hc : md.1.cls = "OneDoor") {pc : Nat} (hd : decode md.2.1 pc = .ok (.getfield 249, 3)) : zS md pc (pc + 3) (i_getf 3 2) := n_getf (C0 := "OneDoor$Hall") (T := zT3) (n := 3) (ref := "OneDoor$Hall") (dc := "OneDoor$Hall") (nm := "asked") (ds := "J") (fn := false) rfl (by decide) rfl (by rw [hc]; exact zmem 289 (by decide +kernel)) (Or.inl rfl) hd
theorem oqM1 {md : zM} (hc : md.1.cls = "OneDoorModel") {pc : Nat} (hd : decode md.2.1 pc = .ok (.invokespecial 1, 3)) : zS md pc (pc + 3) i_obj := n_obj (by rw [hc]; exact zmem 784 (by decide +kernel)) (zmem 78 (by decide +kernel)) (zmem 79 (by decide +kernel)) hd
theorem pqM7 {md : zM} (hc : md.1.cls = "OneDoorModel") (hi : md.1.name = "<init>") {pc : Nat} (hd : decode md.2.1 pc = .ok (.putfield 7, 3)) : zS md pc (pc + 3) (i_putf 12 1 3) := n_putf (C0 := "OneDoorModel") (T := zT12) (n := 23) (ref := "OneDoorModel") (dc := "OneDoorModel") (nm := "text") (ds := "[B") (fn := true) (ty := (.array .byte)) rfl (by decide) rfl (by rw [hc]; exact zmem 794 (by decide +kernel)) (Or.inl rfl) (Or.inr ⟨hi, hc.symm⟩) (by decide +kernel) (Or.inr (Or.inr (Or.inr ⟨rfl, Or.inr ⟨_, rfl⟩⟩))) hd
theorem pqM13 {md : zM} (hc : md.1.cls = "OneDoorModel") (hi : md.1.name = "<init>") {pc : Nat} (hd : decode md.2.1 pc = .ok (.putfield 13, 3)) : zS md pc (pc + 3) (i_putf 12 3 3) := n_putf (C0 := "OneDoorModel") (T := zT12) (n := 23) (ref := "OneDoorModel") (dc := "OneDoorModel") (nm := "houses") (ds := "[I") (fn := true) (ty := (.array .int)) rfl (by decide) rfl (by rw [hc]; exact zmem 796 (by decide +kernel)) (Or.inl rfl) (Or.inr ⟨hi, hc.symm⟩) (by decide +kernel) (Or.inr (Or.inr (Or.inr ⟨rfl, Or.inr ⟨_, rfl⟩⟩))) hd
theorem pqM17 {md : zM} (hc : md.1.cls = "OneDoorModel") (hi : md.1.name = "<init>") {pc : Nat} (hd : decode md.2.1 pc = .ok (.putfield 17, 3)) : zS md pc (pc + 3) (i_putf 12 4 3) := n_putf (C0 := "OneDoorModel") (T := zT12) (n := 23) (ref := "OneDoorModel") (dc := "OneDoorModel") (nm := "hall") (ds := "[I") (fn := true) (ty := (.array .int)) rfl (by decide) rfl (by rw [hc]; exact zmem 797 (by decide +kernel)) (Or.inl rfl) (Or.inr ⟨hi, hc.symm⟩) (by decide +kernel) (Or.inr (Or.inr (Or.inr ⟨rfl, Or.inr ⟨_, rfl⟩⟩))) hd
theorem pqM20 {md : zM} (hc : md.1.cls = "OneDoorModel") (hi : md.1.name = "<init>") {pc : Nat} (hd : decode md.2.1 pc = .ok (.putfield 20, 3)) : zS md pc (pc + 3) (i_putf 12 5 3) := n_putf (C0 := "OneDoorModel") (T := zT12) (n := 23) (ref := "OneDoorModel") (dc := "OneDoorModel") (nm := "people") (ds := "[I") (fn := true) (ty := (.array .int)) rfl (by decide) rfl (by rw [hc]; exact zmem 798 (by decide +kernel)) (Or.inl rfl) (Or.inr ⟨hi, hc.symm⟩) (by decide +kernel) (Or.inr (Or.inr (Or.inr ⟨rfl, Or.inr ⟨_, rfl⟩⟩))) hd
theorem pqM23 {md : zM} (hc : md.1.cls = "OneDoorModel") (hi : md.1.name = "<init>") {pc : Nat} (hd : decode md.2.1 pc = .ok (.putfield 23, 3)) : zS md pc (pc + 3) (i_putf 12 6 3) := n_putf (C0 := "OneDoorModel") (T := zT12) (n := 23) (ref := "OneDoorModel") (dc := "OneDoorModel") (nm := "draftHome") (ds := "[I") (fn := true) (ty := (.array .int)) rfl (by decide) rfl (by rw [hc]; exact zmem 799 (by decide +kernel)) (Or.inl rfl) (Or.inr ⟨hi, hc.symm⟩) (by decide +kernel) (Or.inr (Or.inr (Or.inr ⟨rfl, Or.inr ⟨_, rfl⟩⟩))) hd
theorem pqM26 {md : zM} (hc : md.1.cls = "OneDoorModel") (hi : md.1.name = "<init>") {pc : Nat} (hd : decode md.2.1 pc = .ok (.putfield 26, 3)) : zS md pc (pc + 3) (i_putf 12 7 3) := n_putf (C0 := "OneDoorModel") (T := zT12) (n := 23) (ref := "OneDoorModel") (dc := "OneDoorModel") (nm := "errands") (ds := "[I") (fn := true) (ty := (.array .int)) rfl (by decide) rfl (by rw [hc]; exact zmem 800 (by decide +kernel)) (Or.inl rfl) (Or.inr ⟨hi, hc.symm⟩) (by decide +kernel) (Or.inr (Or.inr (Or.inr ⟨rfl, Or.inr ⟨_, rfl⟩⟩))) hd
theorem pqM29 {md : zM} (hc : md.1.cls = "OneDoorModel") (hi : md.1.name = "<init>") {pc : Nat} (hd : decode md.2.1 pc = .ok (.putfield 29, 3)) : zS md pc (pc + 3) (i_putf 12 8 3) := n_putf (C0 := "OneDoorModel") (T := zT12) (n := 23) (ref := "OneDoorModel") (dc := "OneDoorModel") (nm := "patience") (ds := "[I") (fn := true) (ty := (.array .int)) rfl (by decide) rfl (by rw [hc]; exact zmem 801 (by decide +kernel)) (Or.inl rfl) (Or.inr ⟨hi, hc.symm⟩) (by decide +kernel) (Or.inr (Or.inr (Or.inr ⟨rfl, Or.inr ⟨_, rfl⟩⟩))) hd
theorem pqM32 {md : zM} (hc : md.1.cls = "OneDoorModel") (hi : md.1.name = "<init>") {pc : Nat} (hd : decode md.2.1 pc = .ok (.putfield 32, 3)) : zS md pc (pc + 3) (i_putf 12 9 3) := n_putf (C0 := "OneDoorModel") (T := zT12) (n := 23) (ref := "OneDoorModel") (dc := "OneDoorModel") (nm := "law") (ds := "[I") (fn := true) (ty := (.array .int)) rfl (by decide) rfl (by rw [hc]; exact zmem 802 (by decide +kernel)) (Or.inl rfl) (Or.inr ⟨hi, hc.symm⟩) (by decide +kernel) (Or.inr (Or.inr (Or.inr ⟨rfl, Or.inr ⟨_, rfl⟩⟩))) hd
theorem pqM35 {md : zM} (hc : md.1.cls = "OneDoorModel") (hi : md.1.name = "<init>") {pc : Nat} (hd : decode md.2.1 pc = .ok (.putfield 35, 3)) : zS md pc (pc + 3) (i_putf 12 16 3) := n_putf (C0 := "OneDoorModel") (T := zT12) (n := 23) (ref := "OneDoorModel") (dc := "OneDoorModel") (nm := "now") (ds := "[I") (fn := true) (ty := (.array .int)) rfl (by decide) rfl (by rw [hc]; exact zmem 809 (by decide +kernel)) (Or.inl rfl) (Or.inr ⟨hi, hc.symm⟩) (by decide +kernel) (Or.inr (Or.inr (Or.inr ⟨rfl, Or.inr ⟨_, rfl⟩⟩))) hd
theorem pqM38 {md : zM} (hc : md.1.cls = "OneDoorModel") (hi : md.1.name = "<init>") {pc : Nat} (hd : decode md.2.1 pc = .ok (.putfield 38, 3)) : zS md pc (pc + 3) (i_putf 12 17 3) := n_putf (C0 := "OneDoorModel") (T := zT12) (n := 23) (ref := "OneDoorModel") (dc := "OneDoorModel") (nm := "isKept") (ds := "[Z") (fn := true) (ty := (.array .boolean)) rfl (by decide) rfl (by rw [hc]; exact zmem 810 (by decide +kernel)) (Or.inl rfl) (Or.inr ⟨hi, hc.symm⟩) (by decide +kernel) (Or.inr (Or.inr (Or.inr ⟨rfl, Or.inr ⟨_, rfl⟩⟩))) hd
theorem pqM42 {md : zM} (hc : md.1.cls = "OneDoorModel") (hi : md.1.name = "<init>") {pc : Nat} (hd : decode md.2.1 pc = .ok (.putfield 42, 3)) : zS md pc (pc + 3) (i_putf 12 18 3) := n_putf (C0 := "OneDoorModel") (T := zT12) (n := 23) (ref := "OneDoorModel") (dc := "OneDoorModel") (nm := "tried") (ds := "[I") (fn := true) (ty := (.array .int)) rfl (by decide) rfl (by rw [hc]; exact zmem 811 (by decide +kernel)) (Or.inl rfl) (Or.inr ⟨hi, hc.symm⟩) (by decide +kernel) (Or.inr (Or.inr (Or.inr ⟨rfl, Or.inr ⟨_, rfl⟩⟩))) hd
theorem pqM45 {md : zM} (hc : md.1.cls = "OneDoorModel") (hi : md.1.name = "<init>") {pc : Nat} (hd : decode md.2.1 pc = .ok (.putfield 45, 3)) : zS md pc (pc + 3) (i_putf 12 19 3) := n_putf (C0 := "OneDoorModel") (T := zT12) (n := 23) (ref := "OneDoorModel") (dc := "OneDoorModel") (nm := "best") (ds := "[I") (fn := true) (ty := (.array .int)) rfl (by decide) rfl (by rw [hc]; exact zmem 812 (by decide +kernel)) (Or.inl rfl) (Or.inr ⟨hi, hc.symm⟩) (by decide +kernel) (Or.inr (Or.inr (Or.inr ⟨rfl, Or.inr ⟨_, rfl⟩⟩))) hd
theorem pqM48 {md : zM} (hc : md.1.cls = "OneDoorModel") (hi : md.1.name = "<init>") {pc : Nat} (hd : decode md.2.1 pc = .ok (.putfield 48, 3)) : zS md pc (pc + 3) (i_putf 12 20 3) := n_putf (C0 := "OneDoorModel") (T := zT12) (n := 23) (ref := "OneDoorModel") (dc := "OneDoorModel") (nm := "hatHouse") (ds := "[I") (fn := true) (ty := (.array .int)) rfl (by decide) rfl (by rw [hc]; exact zmem 813 (by decide +kernel)) (Or.inl rfl) (Or.inr ⟨hi, hc.symm⟩) (by decide +kernel) (Or.inr (Or.inr (Or.inr ⟨rfl, Or.inr ⟨_, rfl⟩⟩))) hd
theorem pqM51 {md : zM} (hc : md.1.cls = "OneDoorModel") (hi : md.1.name = "<init>") {pc : Nat} (hd : decode md.2.1 pc = .ok (.putfield 51, 3)) : zS md pc (pc + 3) (i_putf 12 21 3) := n_putf (C0 := "OneDoorModel") (T := zT12) (n := 23) (ref := "OneDoorModel") (dc := "OneDoorModel") (nm := "hatMinute") (ds := "[I") (fn := true) (ty := (.array .int)) rfl (by decide) rfl (by rw [hc]; exact zmem 814 (by decide +kernel)) (Or.inl rfl) (Or.inr ⟨hi, hc.symm⟩) (by decide +kernel) (Or.inr (Or.inr (Or.inr ⟨rfl, Or.inr ⟨_, rfl⟩⟩))) hd
theorem vqM54 {md : zM} (hc : md.1.cls = "OneDoorModel") {pc : Nat} (hd : decode md.2.1 pc = .ok (.invokevirtual 54, 3)) : zS md pc (pc + 3) (i_callV (ztab 12 mM_plain) 0) := n_callV (x := mM_plain.1) (idx := 54) (zV_own (C := "OneDoorModel") (T := zT12) (k := 23) kM_plain rfl rfl (by rw [hc]; exact zmem 785 (by decide +kernel)) (zmem 787 (by decide +kernel)) (zmem 26 (by decide +kernel))) hd
theorem vqM57 {md : zM} (hc : md.1.cls = "OneDoorModel") {pc : Nat} (hd : decode md.2.1 pc = .ok (.invokevirtual 57, 3)) : zS md pc (pc + 3) (i_callV (ztab 12 mM_takeDraft) 0) := n_callV (x := mM_takeDraft.1) (idx := 57) (zV_own (C := "OneDoorModel") (T := zT12) (k := 23) kM_takeDraft rfl rfl (by rw [hc]; exact zmem 789 (by decide +kernel)) (zmem 791 (by decide +kernel)) (zmem 27 (by decide +kernel))) hd
theorem gqM13 {md : zM} (hc : md.1.cls = "OneDoorModel") {pc : Nat} (hd : decode md.2.1 pc = .ok (.getfield 13, 3)) : zS md pc (pc + 3) (i_getf 12 3) := n_getf (C0 := "OneDoorModel") (T := zT12) (n := 23) (ref := "OneDoorModel") (dc := "OneDoorModel") (nm := "houses") (ds := "[I") (fn := true) rfl (by decide) rfl (by rw [hc]; exact zmem 796 (by decide +kernel)) (Or.inl rfl) hd
theorem gqM20 {md : zM} (hc : md.1.cls = "OneDoorModel") {pc : Nat} (hd : decode md.2.1 pc = .ok (.getfield 20, 3)) : zS md pc (pc + 3) (i_getf 12 5) := n_getf (C0 := "OneDoorModel") (T := zT12) (n := 23) (ref := "OneDoorModel") (dc := "OneDoorModel") (nm := "people") (ds := "[I") (fn := true) rfl (by decide) rfl (by rw [hc]; exact zmem 798 (by decide +kernel)) (Or.inl rfl) hd
theorem gqM32 {md : zM} (hc : md.1.cls = "OneDoorModel") {pc : Nat} (hd : decode md.2.1 pc = .ok (.getfield 32, 3)) : zS md pc (pc + 3) (i_getf 12 9) := n_getf (C0 := "OneDoorModel") (T := zT12) (n := 23) (ref := "OneDoorModel") (dc := "OneDoorModel") (nm := "law") (ds := "[I") (fn := true) rfl (by decide) rfl (by rw [hc]; exact zmem 802 (by decide +kernel)) (Or.inl rfl) hd
theorem pqM94 {md : zM} (hc : md.1.cls = "OneDoorModel") {pc : Nat} (hd : decode md.2.1 pc = .ok (.putfield 94, 3)) : zS md pc (pc + 3) (i_putf 12 10 0) := n_putf (C0 := "OneDoorModel") (T := zT12) (n := 23) (ref := "OneDoorModel") (dc := "OneDoorModel") (nm := "lawsTold") (ds := "I") (fn := false) (ty := .int) rfl (by decide) rfl (by rw [hc]; exact zmem 803 (by decide +kernel)) (Or.inl rfl) (Or.inl rfl) (by decide +kernel) (Or.inl ⟨rfl, rfl⟩) hd
theorem gqM17 {md : zM} (hc : md.1.cls = "OneDoorModel") {pc : Nat} (hd : decode md.2.1 pc = .ok (.getfield 17, 3)) : zS md pc (pc + 3) (i_getf 12 4) := n_getf (C0 := "OneDoorModel") (T := zT12) (n := 23) (ref := "OneDoorModel") (dc := "OneDoorModel") (nm := "hall") (ds := "[I") (fn := true) rfl (by decide) rfl (by rw [hc]; exact zmem 797 (by decide +kernel)) (Or.inl rfl) hd
theorem gqM35 {md : zM} (hc : md.1.cls = "OneDoorModel") {pc : Nat} (hd : decode md.2.1 pc = .ok (.getfield 35, 3)) : zS md pc (pc + 3) (i_getf 12 16) := n_getf (C0 := "OneDoorModel") (T := zT12) (n := 23) (ref := "OneDoorModel") (dc := "OneDoorModel") (nm := "now") (ds := "[I") (fn := true) rfl (by decide) rfl (by rw [hc]; exact zmem 809 (by decide +kernel)) (Or.inl rfl) hd
theorem gqM26 {md : zM} (hc : md.1.cls = "OneDoorModel") {pc : Nat} (hd : decode md.2.1 pc = .ok (.getfield 26, 3)) : zS md pc (pc + 3) (i_getf 12 7) := n_getf (C0 := "OneDoorModel") (T := zT12) (n := 23) (ref := "OneDoorModel") (dc := "OneDoorModel") (nm := "errands") (ds := "[I") (fn := true) rfl (by decide) rfl (by rw [hc]; exact zmem 800 (by decide +kernel)) (Or.inl rfl) hd
theorem gqM29 {md : zM} (hc : md.1.cls = "OneDoorModel") {pc : Nat} (hd : decode md.2.1 pc = .ok (.getfield 29, 3)) : zS md pc (pc + 3) (i_getf 12 8) := n_getf (C0 := "OneDoorModel") (T := zT12) (n := 23) (ref := "OneDoorModel") (dc := "OneDoorModel") (nm := "patience") (ds := "[I") (fn := true) rfl (by decide) rfl (by rw [hc]; exact zmem 801 (by decide +kernel)) (Or.inl rfl) hd
theorem gqM23 {md : zM} (hc : md.1.cls = "OneDoorModel") {pc : Nat} (hd : decode md.2.1 pc = .ok (.getfield 23, 3)) : zS md pc (pc + 3) (i_getf 12 6) := n_getf (C0 := "OneDoorModel") (T := zT12) (n := 23) (ref := "OneDoorModel") (dc := "OneDoorModel") (nm := "draftHome") (ds := "[I") (fn := true) rfl (by decide) rfl (by rw [hc]; exact zmem 799 (by decide +kernel)) (Or.inl rfl) hd
theorem pqM101 {md : zM} (hc : md.1.cls = "OneDoorModel") {pc : Nat} (hd : decode md.2.1 pc = .ok (.putfield 101, 3)) : zS md pc (pc + 3) (i_putf 12 22 0) := n_putf (C0 := "OneDoorModel") (T := zT12) (n := 23) (ref := "OneDoorModel") (dc := "OneDoorModel") (nm := "hats") (ds := "I") (fn := false) (ty := .int) rfl (by decide) rfl (by rw [hc]; exact zmem 815 (by decide +kernel)) (Or.inl rfl) (Or.inl rfl) (by decide +kernel) (Or.inl ⟨rfl, rfl⟩) hd
theorem gqM38 {md : zM} (hc : md.1.cls = "OneDoorModel") {pc : Nat} (hd : decode md.2.1 pc = .ok (.getfield 38, 3)) : zS md pc (pc + 3) (i_getf 12 17) := n_getf (C0 := "OneDoorModel") (T := zT12) (n := 23) (ref := "OneDoorModel") (dc := "OneDoorModel") (nm := "isKept") (ds := "[Z") (fn := true) rfl (by decide) rfl (by rw [hc]; exact zmem 810 (by decide +kernel)) (Or.inl rfl) hd
theorem sqM60 {md : zM} (hc : md.1.cls = "OneDoorModel") {pc : Nat} (hd : decode md.2.1 pc = .ok (.invokestatic 60, 3)) : zS md pc (pc + 3) (i_callS mM_in 3) := n_callS kM_in (by rw [hc]; exact zmem 868 (by decide +kernel)) (zmem 869 (by decide +kernel)) hd
theorem gqM64 {md : zM} (hc : md.1.cls = "OneDoorModel") {pc : Nat} (hd : decode md.2.1 pc = .ok (.getfield 64, 3)) : zS md pc (pc + 3) (i_getf 12 2) := n_getf (C0 := "OneDoorModel") (T := zT12) (n := 23) (ref := "OneDoorModel") (dc := "OneDoorModel") (nm := "typed") (ds := "I") (fn := false) rfl (by decide) rfl (by rw [hc]; exact zmem 795 (by decide +kernel)) (Or.inl rfl) hd
theorem gqM7 {md : zM} (hc : md.1.cls = "OneDoorModel") {pc : Nat} (hd : decode md.2.1 pc = .ok (.getfield 7, 3)) : zS md pc (pc + 3) (i_getf 12 1) := n_getf (C0 := "OneDoorModel") (T := zT12) (n := 23) (ref := "OneDoorModel") (dc := "OneDoorModel") (nm := "text") (ds := "[B") (fn := true) rfl (by decide) rfl (by rw [hc]; exact zmem 794 (by decide +kernel)) (Or.inl rfl) hd
theorem pqM64 {md : zM} (hc : md.1.cls = "OneDoorModel") {pc : Nat} (hd : decode md.2.1 pc = .ok (.putfield 64, 3)) : zS md pc (pc + 3) (i_putf 12 2 0) := n_putf (C0 := "OneDoorModel") (T := zT12) (n := 23) (ref := "OneDoorModel") (dc := "OneDoorModel") (nm := "typed") (ds := "I") (fn := false) (ty := .int) rfl (by decide) rfl (by rw [hc]; exact zmem 795 (by decide +kernel)) (Or.inl rfl) (Or.inl rfl) (by decide +kernel) (Or.inl ⟨rfl, rfl⟩) hd
theorem pqM68 {md : zM} (hc : md.1.cls = "OneDoorModel") {pc : Nat} (hd : decode md.2.1 pc = .ok (.putfield 68, 3)) : zS md pc (pc + 3) (i_putf 12 11 0) := n_putf (C0 := "OneDoorModel") (T := zT12) (n := 23) (ref := "OneDoorModel") (dc := "OneDoorModel") (nm := "at") (ds := "I") (fn := false) (ty := .int) rfl (by decide) rfl (by rw [hc]; exact zmem 804 (by decide +kernel)) (Or.inl rfl) (Or.inl rfl) (by decide +kernel) (Or.inl ⟨rfl, rfl⟩) hd
theorem pqM84 {md : zM} (hc : md.1.cls = "OneDoorModel") {pc : Nat} (hd : decode md.2.1 pc = .ok (.putfield 84, 3)) : zS md pc (pc + 3) (i_putf 12 15 0) := n_putf (C0 := "OneDoorModel") (T := zT12) (n := 23) (ref := "OneDoorModel") (dc := "OneDoorModel") (nm := "fault") (ds := "I") (fn := false) (ty := .int) rfl (by decide) rfl (by rw [hc]; exact zmem 808 (by decide +kernel)) (Or.inl rfl) (Or.inl rfl) (by decide +kernel) (Or.inl ⟨rfl, rfl⟩) hd
theorem vqM87 {md : zM} (hc : md.1.cls = "OneDoorModel") {pc : Nat} (hd : decode md.2.1 pc = .ok (.invokevirtual 87, 3)) : zS md pc (pc + 3) (i_callV (ztab 12 mM_step) 0) := n_callV (x := mM_step.1) (idx := 87) (zV_own (C := "OneDoorModel") (T := zT12) (k := 23) kM_step rfl rfl (by rw [hc]; exact zmem 879 (by decide +kernel)) (zmem 881 (by decide +kernel)) (zmem 28 (by decide +kernel))) hd
theorem gqM84 {md : zM} (hc : md.1.cls = "OneDoorModel") {pc : Nat} (hd : decode md.2.1 pc = .ok (.getfield 84, 3)) : zS md pc (pc + 3) (i_getf 12 15) := n_getf (C0 := "OneDoorModel") (T := zT12) (n := 23) (ref := "OneDoorModel") (dc := "OneDoorModel") (nm := "fault") (ds := "I") (fn := false) rfl (by decide) rfl (by rw [hc]; exact zmem 808 (by decide +kernel)) (Or.inl rfl) hd
theorem gqM81 {md : zM} (hc : md.1.cls = "OneDoorModel") {pc : Nat} (hd : decode md.2.1 pc = .ok (.getfield 81, 3)) : zS md pc (pc + 3) (i_getf 12 13) := n_getf (C0 := "OneDoorModel") (T := zT12) (n := 23) (ref := "OneDoorModel") (dc := "OneDoorModel") (nm := "sort") (ds := "I") (fn := false) rfl (by decide) rfl (by rw [hc]; exact zmem 806 (by decide +kernel)) (Or.inl rfl) hd
theorem vqM104 {md : zM} (hc : md.1.cls = "OneDoorModel") {pc : Nat} (hd : decode md.2.1 pc = .ok (.invokevirtual 104, 3)) : zS md pc (pc + 3) (i_callV (ztab 12 mM_mayBe) 1) := n_callV (x := mM_mayBe.1) (idx := 104) (zV_own (C := "OneDoorModel") (T := zT12) (k := 23) kM_mayBe rfl rfl (by rw [hc]; exact zmem 887 (by decide +kernel)) (zmem 889 (by decide +kernel)) (zmem 30 (by decide +kernel))) hd
theorem vqM90 {md : zM} (hc : md.1.cls = "OneDoorModel") {pc : Nat} (hd : decode md.2.1 pc = .ok (.invokevirtual 90, 3)) : zS md pc (pc + 3) (i_callV (ztab 12 mM_due) 1) := n_callV (x := mM_due.1) (idx := 90) (zV_own (C := "OneDoorModel") (T := zT12) (k := 23) kM_due rfl rfl (by rw [hc]; exact zmem 891 (by decide +kernel)) (zmem 893 (by decide +kernel)) (zmem 31 (by decide +kernel))) hd
theorem vqM108 {md : zM} (hc : md.1.cls = "OneDoorModel") {pc : Nat} (hd : decode md.2.1 pc = .ok (.invokevirtual 108, 3)) : zS md pc (pc + 3) (i_callV (ztab 12 mM_readRow) 1) := n_callV (x := mM_readRow.1) (idx := 108) (zV_own (C := "OneDoorModel") (T := zT12) (k := 23) kM_readRow rfl rfl (by rw [hc]; exact zmem 895 (by decide +kernel)) (zmem 897 (by decide +kernel)) (zmem 32 (by decide +kernel))) hd
theorem vqM71 {md : zM} (hc : md.1.cls = "OneDoorModel") {pc : Nat} (hd : decode md.2.1 pc = .ok (.invokevirtual 71, 3)) : zS md pc (pc + 3) (i_callV (ztab 12 mM_here) 0) := n_callV (x := mM_here.1) (idx := 71) (zV_own (C := "OneDoorModel") (T := zT12) (k := 23) kM_here rfl rfl (by rw [hc]; exact zmem 883 (by decide +kernel)) (zmem 885 (by decide +kernel)) (zmem 29 (by decide +kernel))) hd
theorem gqM68 {md : zM} (hc : md.1.cls = "OneDoorModel") {pc : Nat} (hd : decode md.2.1 pc = .ok (.getfield 68, 3)) : zS md pc (pc + 3) (i_getf 12 11) := n_getf (C0 := "OneDoorModel") (T := zT12) (n := 23) (ref := "OneDoorModel") (dc := "OneDoorModel") (nm := "at") (ds := "I") (fn := false) rfl (by decide) rfl (by rw [hc]; exact zmem 804 (by decide +kernel)) (Or.inl rfl) hd
theorem pqM75 {md : zM} (hc : md.1.cls = "OneDoorModel") {pc : Nat} (hd : decode md.2.1 pc = .ok (.putfield 75, 3)) : zS md pc (pc + 3) (i_putf 12 12 0) := n_putf (C0 := "OneDoorModel") (T := zT12) (n := 23) (ref := "OneDoorModel") (dc := "OneDoorModel") (nm := "start") (ds := "I") (fn := false) (ty := .int) rfl (by decide) rfl (by rw [hc]; exact zmem 805 (by decide +kernel)) (Or.inl rfl) (Or.inl rfl) (by decide +kernel) (Or.inl ⟨rfl, rfl⟩) hd
theorem pqM78 {md : zM} (hc : md.1.cls = "OneDoorModel") {pc : Nat} (hd : decode md.2.1 pc = .ok (.putfield 78, 3)) : zS md pc (pc + 3) (i_putf 12 14 0) := n_putf (C0 := "OneDoorModel") (T := zT12) (n := 23) (ref := "OneDoorModel") (dc := "OneDoorModel") (nm := "value") (ds := "I") (fn := false) (ty := .int) rfl (by decide) rfl (by rw [hc]; exact zmem 807 (by decide +kernel)) (Or.inl rfl) (Or.inl rfl) (by decide +kernel) (Or.inl ⟨rfl, rfl⟩) hd
theorem pqM81 {md : zM} (hc : md.1.cls = "OneDoorModel") {pc : Nat} (hd : decode md.2.1 pc = .ok (.putfield 81, 3)) : zS md pc (pc + 3) (i_putf 12 13 0) := n_putf (C0 := "OneDoorModel") (T := zT12) (n := 23) (ref := "OneDoorModel") (dc := "OneDoorModel") (nm := "sort") (ds := "I") (fn := false) (ty := .int) rfl (by decide) rfl (by rw [hc]; exact zmem 806 (by decide +kernel)) (Or.inl rfl) (Or.inl rfl) (by decide +kernel) (Or.inl ⟨rfl, rfl⟩) hd
theorem gqM75 {md : zM} (hc : md.1.cls = "OneDoorModel") {pc : Nat} (hd : decode md.2.1 pc = .ok (.getfield 75, 3)) : zS md pc (pc + 3) (i_getf 12 12) := n_getf (C0 := "OneDoorModel") (T := zT12) (n := 23) (ref := "OneDoorModel") (dc := "OneDoorModel") (nm := "start") (ds := "I") (fn := false) rfl (by decide) rfl (by rw [hc]; exact zmem 805 (by decide +kernel)) (Or.inl rfl) hd
theorem gqM78 {md : zM} (hc : md.1.cls = "OneDoorModel") {pc : Nat} (hd : decode md.2.1 pc = .ok (.getfield 78, 3)) : zS md pc (pc + 3) (i_getf 12 14) := n_getf (C0 := "OneDoorModel") (T := zT12) (n := 23) (ref := "OneDoorModel") (dc := "OneDoorModel") (nm := "value") (ds := "I") (fn := false) rfl (by decide) rfl (by rw [hc]; exact zmem 807 (by decide +kernel)) (Or.inl rfl) hd
theorem gqM94 {md : zM} (hc : md.1.cls = "OneDoorModel") {pc : Nat} (hd : decode md.2.1 pc = .ok (.getfield 94, 3)) : zS md pc (pc + 3) (i_getf 12 10) := n_getf (C0 := "OneDoorModel") (T := zT12) (n := 23) (ref := "OneDoorModel") (dc := "OneDoorModel") (nm := "lawsTold") (ds := "I") (fn := false) rfl (by decide) rfl (by rw [hc]; exact zmem 803 (by decide +kernel)) (Or.inl rfl) hd
theorem vqM97 {md : zM} (hc : md.1.cls = "OneDoorModel") {pc : Nat} (hd : decode md.2.1 pc = .ok (.invokevirtual 97, 3)) : zS md pc (pc + 3) (i_callV (ztab 12 mM_number) 2) := n_callV (x := mM_number.1) (idx := 97) (zV_own (C := "OneDoorModel") (T := zT12) (k := 23) kM_number rfl rfl (by rw [hc]; exact zmem 899 (by decide +kernel)) (zmem 901 (by decide +kernel)) (zmem 33 (by decide +kernel))) hd
theorem vqM125 {md : zM} (hc : md.1.cls = "OneDoorModel") {pc : Nat} (hd : decode md.2.1 pc = .ok (.invokevirtual 125, 3)) : zS md pc (pc + 3) (i_callV (ztab 12 mM_isHouse) 1) := n_callV (x := mM_isHouse.1) (idx := 125) (zV_own (C := "OneDoorModel") (T := zT12) (k := 23) kM_isHouse rfl rfl (by rw [hc]; exact zmem 907 (by decide +kernel)) (zmem 909 (by decide +kernel)) (zmem 34 (by decide +kernel))) hd
theorem vqM128 {md : zM} (hc : md.1.cls = "OneDoorModel") {pc : Nat} (hd : decode md.2.1 pc = .ok (.invokevirtual 128, 3)) : zS md pc (pc + 3) (i_callV (ztab 12 mM_living) 1) := n_callV (x := mM_living.1) (idx := 128) (zV_own (C := "OneDoorModel") (T := zT12) (k := 23) kM_living rfl rfl (by rw [hc]; exact zmem 911 (by decide +kernel)) (zmem 913 (by decide +kernel)) (zmem 35 (by decide +kernel))) hd
theorem vqM131 {md : zM} (hc : md.1.cls = "OneDoorModel") {pc : Nat} (hd : decode md.2.1 pc = .ok (.invokevirtual 131, 3)) : zS md pc (pc + 3) (i_callV (ztab 12 mM_being) 1) := n_callV (x := mM_being.1) (idx := 131) (zV_own (C := "OneDoorModel") (T := zT12) (k := 23) kM_being rfl rfl (by rw [hc]; exact zmem 915 (by decide +kernel)) (zmem 917 (by decide +kernel)) (zmem 36 (by decide +kernel))) hd
theorem vqM134 {md : zM} (hc : md.1.cls = "OneDoorModel") {pc : Nat} (hd : decode md.2.1 pc = .ok (.invokevirtual 134, 3)) : zS md pc (pc + 3) (i_callV (ztab 12 mM_minutesTo) 1) := n_callV (x := mM_minutesTo.1) (idx := 134) (zV_own (C := "OneDoorModel") (T := zT12) (k := 23) kM_minutesTo rfl rfl (by rw [hc]; exact zmem 919 (by decide +kernel)) (zmem 921 (by decide +kernel)) (zmem 37 (by decide +kernel))) hd
theorem vqM122 {md : zM} (hc : md.1.cls = "OneDoorModel") {pc : Nat} (hd : decode md.2.1 pc = .ok (.invokevirtual 122, 3)) : zS md pc (pc + 3) (i_callV (ztab 12 mM_wayTo) 2) := n_callV (x := mM_wayTo.1) (idx := 122) (zV_own (C := "OneDoorModel") (T := zT12) (k := 23) kM_wayTo rfl rfl (by rw [hc]; exact zmem 923 (by decide +kernel)) (zmem 925 (by decide +kernel)) (zmem 38 (by decide +kernel))) hd
theorem vqM115 {md : zM} (hc : md.1.cls = "OneDoorModel") {pc : Nat} (hd : decode md.2.1 pc = .ok (.invokevirtual 115, 3)) : zS md pc (pc + 3) (i_callV (ztab 12 mM_minutesOf) 1) := n_callV (x := mM_minutesOf.1) (idx := 115) (zV_own (C := "OneDoorModel") (T := zT12) (k := 23) kM_minutesOf rfl rfl (by rw [hc]; exact zmem 934 (by decide +kernel)) (zmem 936 (by decide +kernel)) (zmem 40 (by decide +kernel))) hd
theorem vqM119 {md : zM} (hc : md.1.cls = "OneDoorModel") {pc : Nat} (hd : decode md.2.1 pc = .ok (.invokevirtual 119, 3)) : zS md pc (pc + 3) (i_callV (ztab 12 mM_doorTo) 2) := n_callV (x := mM_doorTo.1) (idx := 119) (zV_own (C := "OneDoorModel") (T := zT12) (k := 23) kM_doorTo rfl rfl (by rw [hc]; exact zmem 927 (by decide +kernel)) (zmem 929 (by decide +kernel)) (zmem 39 (by decide +kernel))) hd
theorem sqM112 {md : zM} (hc : md.1.cls = "OneDoorModel") {pc : Nat} (hd : decode md.2.1 pc = .ok (.invokestatic 112, 3)) : zS md pc (pc + 3) (i_callS mM_through 2) := n_callS kM_through (by rw [hc]; exact zmem 931 (by decide +kernel)) (zmem 932 (by decide +kernel)) hd
theorem vqM140 {md : zM} (hc : md.1.cls = "OneDoorModel") {pc : Nat} (hd : decode md.2.1 pc = .ok (.invokevirtual 140, 3)) : zS md pc (pc + 3) (i_callV (ztab 12 mM_isPerson) 1) := n_callV (x := mM_isPerson.1) (idx := 140) (zV_own (C := "OneDoorModel") (T := zT12) (k := 23) kM_isPerson rfl rfl (by rw [hc]; exact zmem 942 (by decide +kernel)) (zmem 944 (by decide +kernel)) (zmem 41 (by decide +kernel))) hd
theorem vqM143 {md : zM} (hc : md.1.cls = "OneDoorModel") {pc : Nat} (hd : decode md.2.1 pc = .ok (.invokevirtual 143, 3)) : zS md pc (pc + 3) (i_callV (ztab 12 mM_takeHomes) 0) := n_callV (x := mM_takeHomes.1) (idx := 143) (zV_own (C := "OneDoorModel") (T := zT12) (k := 23) kM_takeHomes rfl rfl (by rw [hc]; exact zmem 946 (by decide +kernel)) (zmem 948 (by decide +kernel)) (zmem 42 (by decide +kernel))) hd
theorem vqM137 {md : zM} (hc : md.1.cls = "OneDoorModel") {pc : Nat} (hd : decode md.2.1 pc = .ok (.invokevirtual 137, 3)) : zS md pc (pc + 3) (i_callV (ztab 12 mM_passed) 2) := n_callV (x := mM_passed.1) (idx := 137) (zV_own (C := "OneDoorModel") (T := zT12) (k := 23) kM_passed rfl rfl (by rw [hc]; exact zmem 950 (by decide +kernel)) (zmem 952 (by decide +kernel)) (zmem 43 (by decide +kernel))) hd
theorem gqM42 {md : zM} (hc : md.1.cls = "OneDoorModel") {pc : Nat} (hd : decode md.2.1 pc = .ok (.getfield 42, 3)) : zS md pc (pc + 3) (i_getf 12 18) := n_getf (C0 := "OneDoorModel") (T := zT12) (n := 23) (ref := "OneDoorModel") (dc := "OneDoorModel") (nm := "tried") (ds := "[I") (fn := true) rfl (by decide) rfl (by rw [hc]; exact zmem 811 (by decide +kernel)) (Or.inl rfl) hd
theorem vqM146 {md : zM} (hc : md.1.cls = "OneDoorModel") {pc : Nat} (hd : decode md.2.1 pc = .ok (.invokevirtual 146, 3)) : zS md pc (pc + 3) (i_callV (ztab 12 mM_stepTo) 2) := n_callV (x := mM_stepTo.1) (idx := 146) (zV_own (C := "OneDoorModel") (T := zT12) (k := 23) kM_stepTo rfl rfl (by rw [hc]; exact zmem 958 (by decide +kernel)) (zmem 960 (by decide +kernel)) (zmem 44 (by decide +kernel))) hd
theorem vqM149 {md : zM} (hc : md.1.cls = "OneDoorModel") {pc : Nat} (hd : decode md.2.1 pc = .ok (.invokevirtual 149, 3)) : zS md pc (pc + 3) (i_callV (ztab 12 mM_know) 0) := n_callV (x := mM_know.1) (idx := 149) (zV_own (C := "OneDoorModel") (T := zT12) (k := 23) kM_know rfl rfl (by rw [hc]; exact zmem 962 (by decide +kernel)) (zmem 964 (by decide +kernel)) (zmem 45 (by decide +kernel))) hd
theorem sqM152 {md : zM} (hc : md.1.cls = "OneDoorModel") {pc : Nat} (hd : decode md.2.1 pc = .ok (.invokestatic 152, 3)) : zS md pc (pc + 3) (i_callS mM_manyOf 1) := n_callS kM_manyOf (by rw [hc]; exact zmem 970 (by decide +kernel)) (zmem 971 (by decide +kernel)) hd
theorem vqM161 {md : zM} (hc : md.1.cls = "OneDoorModel") {pc : Nat} (hd : decode md.2.1 pc = .ok (.invokevirtual 161, 3)) : zS md pc (pc + 3) (i_callV (ztab 12 mM_passings) 1) := n_callV (x := mM_passings.1) (idx := 161) (zV_own (C := "OneDoorModel") (T := zT12) (k := 23) kM_passings rfl rfl (by rw [hc]; exact zmem 993 (by decide +kernel)) (zmem 995 (by decide +kernel)) (zmem 46 (by decide +kernel))) hd
theorem vqM164 {md : zM} (hc : md.1.cls = "OneDoorModel") {pc : Nat} (hd : decode md.2.1 pc = .ok (.invokevirtual 164, 3)) : zS md pc (pc + 3) (i_callV (ztab 12 mM_hurt) 0) := n_callV (x := mM_hurt.1) (idx := 164) (zV_own (C := "OneDoorModel") (T := zT12) (k := 23) kM_hurt rfl rfl (by rw [hc]; exact zmem 997 (by decide +kernel)) (zmem 999 (by decide +kernel)) (zmem 47 (by decide +kernel))) hd
theorem vqM158 {md : zM} (hc : md.1.cls = "OneDoorModel") {pc : Nat} (hd : decode md.2.1 pc = .ok (.invokevirtual 158, 3)) : zS md pc (pc + 3) (i_callV (ztab 12 mM_stopped) 1) := n_callV (x := mM_stopped.1) (idx := 158) (zV_own (C := "OneDoorModel") (T := zT12) (k := 23) kM_stopped rfl rfl (by rw [hc]; exact zmem 1001 (by decide +kernel)) (zmem 1003 (by decide +kernel)) (zmem 48 (by decide +kernel))) hd
theorem vqM167 {md : zM} (hc : md.1.cls = "OneDoorModel") {pc : Nat} (hd : decode md.2.1 pc = .ok (.invokevirtual 167, 3)) : zS md pc (pc + 3) (i_callV (ztab 12 mM_toOpen) 0) := n_callV (x := mM_toOpen.1) (idx := 167) (zV_own (C := "OneDoorModel") (T := zT12) (k := 23) kM_toOpen rfl rfl (by rw [hc]; exact zmem 1009 (by decide +kernel)) (zmem 1011 (by decide +kernel)) (zmem 50 (by decide +kernel))) hd
theorem vqM155 {md : zM} (hc : md.1.cls = "OneDoorModel") {pc : Nat} (hd : decode md.2.1 pc = .ok (.invokevirtual 155, 3)) : zS md pc (pc + 3) (i_callV (ztab 12 mM_isBarred) 3) := n_callV (x := mM_isBarred.1) (idx := 155) (zV_own (C := "OneDoorModel") (T := zT12) (k := 23) kM_isBarred rfl rfl (by rw [hc]; exact zmem 1005 (by decide +kernel)) (zmem 1007 (by decide +kernel)) (zmem 49 (by decide +kernel))) hd
theorem vqM170 {md : zM} (hc : md.1.cls = "OneDoorModel") {pc : Nat} (hd : decode md.2.1 pc = .ok (.invokevirtual 170, 3)) : zS md pc (pc + 3) (i_callV (ztab 12 mM_isAhead) 0) := n_callV (x := mM_isAhead.1) (idx := 170) (zV_own (C := "OneDoorModel") (T := zT12) (k := 23) kM_isAhead rfl rfl (by rw [hc]; exact zmem 1017 (by decide +kernel)) (zmem 1019 (by decide +kernel)) (zmem 51 (by decide +kernel))) hd
theorem gqM45 {md : zM} (hc : md.1.cls = "OneDoorModel") {pc : Nat} (hd : decode md.2.1 pc = .ok (.getfield 45, 3)) : zS md pc (pc + 3) (i_getf 12 19) := n_getf (C0 := "OneDoorModel") (T := zT12) (n := 23) (ref := "OneDoorModel") (dc := "OneDoorModel") (nm := "best") (ds := "[I") (fn := true) rfl (by decide) rfl (by rw [hc]; exact zmem 812 (by decide +kernel)) (Or.inl rfl) hd
theorem sqM174 {md : zM} (hc : md.1.cls = "OneDoorModel") {pc : Nat} (hd : decode md.2.1 pc = .ok (.invokestatic 174, 3)) : zS md pc (pc + 3) (i_callS mM_part 3) := n_callS kM_part (by rw [hc]; exact zmem 1029 (by decide +kernel)) (zmem 1030 (by decide +kernel)) hd
theorem gqM101 {md : zM} (hc : md.1.cls = "OneDoorModel") {pc : Nat} (hd : decode md.2.1 pc = .ok (.getfield 101, 3)) : zS md pc (pc + 3) (i_getf 12 22) := n_getf (C0 := "OneDoorModel") (T := zT12) (n := 23) (ref := "OneDoorModel") (dc := "OneDoorModel") (nm := "hats") (ds := "I") (fn := false) rfl (by decide) rfl (by rw [hc]; exact zmem 815 (by decide +kernel)) (Or.inl rfl) hd
theorem gqM48 {md : zM} (hc : md.1.cls = "OneDoorModel") {pc : Nat} (hd : decode md.2.1 pc = .ok (.getfield 48, 3)) : zS md pc (pc + 3) (i_getf 12 20) := n_getf (C0 := "OneDoorModel") (T := zT12) (n := 23) (ref := "OneDoorModel") (dc := "OneDoorModel") (nm := "hatHouse") (ds := "[I") (fn := true) rfl (by decide) rfl (by rw [hc]; exact zmem 813 (by decide +kernel)) (Or.inl rfl) hd
theorem gqM51 {md : zM} (hc : md.1.cls = "OneDoorModel") {pc : Nat} (hd : decode md.2.1 pc = .ok (.getfield 51, 3)) : zS md pc (pc + 3) (i_getf 12 21) := n_getf (C0 := "OneDoorModel") (T := zT12) (n := 23) (ref := "OneDoorModel") (dc := "OneDoorModel") (nm := "hatMinute") (ds := "[I") (fn := true) rfl (by decide) rfl (by rw [hc]; exact zmem 814 (by decide +kernel)) (Or.inl rfl) hd
theorem vqM184 {md : zM} (hc : md.1.cls = "OneDoorModel") {pc : Nat} (hd : decode md.2.1 pc = .ok (.invokevirtual 184, 3)) : zS md pc (pc + 3) (i_callV (ztab 12 mM_isSo) 3) := n_callV (x := mM_isSo.1) (idx := 184) (zV_own (C := "OneDoorModel") (T := zT12) (k := 23) kM_isSo rfl rfl (by rw [hc]; exact zmem 1048 (by decide +kernel)) (zmem 1050 (by decide +kernel)) (zmem 52 (by decide +kernel))) hd
theorem vqM178 {md : zM} (hc : md.1.cls = "OneDoorModel") {pc : Nat} (hd : decode md.2.1 pc = .ok (.invokevirtual 178, 3)) : zS md pc (pc + 3) (i_callV (ztab 12 mM_outAt) 3) := n_callV (x := mM_outAt.1) (idx := 178) (zV_own (C := "OneDoorModel") (T := zT12) (k := 23) kM_outAt rfl rfl (by rw [hc]; exact zmem 1052 (by decide +kernel)) (zmem 1054 (by decide +kernel)) (zmem 53 (by decide +kernel))) hd
theorem vqM181 {md : zM} (hc : md.1.cls = "OneDoorModel") {pc : Nat} (hd : decode md.2.1 pc = .ok (.invokevirtual 181, 3)) : zS md pc (pc + 3) (i_callV (ztab 12 mM_inAt) 3) := n_callV (x := mM_inAt.1) (idx := 181) (zV_own (C := "OneDoorModel") (T := zT12) (k := 23) kM_inAt rfl rfl (by rw [hc]; exact zmem 1056 (by decide +kernel)) (zmem 1058 (by decide +kernel)) (zmem 54 (by decide +kernel))) hd
theorem cqM188 {md : zM} (hc : md.1.cls = "OneDoorModel") {pc : Nat} (hd : decode md.2.1 pc = .ok (.ldc 188, 2)) : zS md pc (pc + 2) (i_const (-1000000)) := n_ldc (by rw [hc]; exact zmem 1076 (by decide +kernel)) hd
theorem gqM189 {md : zM} (hc : md.1.cls = "OneDoorModel") {pc : Nat} (hd : decode md.2.1 pc = .ok (.getfield 189, 3)) : zS md pc (pc + 3) (i_getf 12 0) := n_getf (C0 := "OneDoorModel") (T := zT12) (n := 23) (ref := "OneDoorModel") (dc := "OneDoorModel") (nm := "trace") (ds := "J") (fn := false) rfl (by decide) rfl (by rw [hc]; exact zmem 793 (by decide +kernel)) (Or.inl rfl) hd
theorem pqM189 {md : zM} (hc : md.1.cls = "OneDoorModel") {pc : Nat} (hd : decode md.2.1 pc = .ok (.putfield 189, 3)) : zS md pc (pc + 3) (i_putf 12 0 2) := n_putf (C0 := "OneDoorModel") (T := zT12) (n := 23) (ref := "OneDoorModel") (dc := "OneDoorModel") (nm := "trace") (ds := "J") (fn := false) (ty := .long) rfl (by decide) rfl (by rw [hc]; exact zmem 793 (by decide +kernel)) (Or.inl rfl) (Or.inl rfl) (by decide +kernel) (Or.inr (Or.inr (Or.inl ⟨rfl, rfl⟩))) hd
theorem lqM193 {md : zM} (hc : md.1.cls = "OneDoorModel") {pc : Nat} (hd : decode md.2.1 pc = .ok (.ldc2_w 193, 3)) : zS md pc (pc + 3) (i_lconst (11)) := n_ldc2 (by rw [hc]; exact zmem 1077 (by decide +kernel)) hd
theorem lqM195 {md : zM} (hc : md.1.cls = "OneDoorModel") {pc : Nat} (hd : decode md.2.1 pc = .ok (.ldc2_w 195, 3)) : zS md pc (pc + 3) (i_lconst (101)) := n_ldc2 (by rw [hc]; exact zmem 1078 (by decide +kernel)) hd
theorem lqM197 {md : zM} (hc : md.1.cls = "OneDoorModel") {pc : Nat} (hd : decode md.2.1 pc = .ok (.ldc2_w 197, 3)) : zS md pc (pc + 3) (i_lconst (1011)) := n_ldc2 (by rw [hc]; exact zmem 1079 (by decide +kernel)) hd
theorem lqM199 {md : zM} (hc : md.1.cls = "OneDoorModel") {pc : Nat} (hd : decode md.2.1 pc = .ok (.ldc2_w 199, 3)) : zS md pc (pc + 3) (i_lconst (10101)) := n_ldc2 (by rw [hc]; exact zmem 1080 (by decide +kernel)) hd
theorem lqM201 {md : zM} (hc : md.1.cls = "OneDoorModel") {pc : Nat} (hd : decode md.2.1 pc = .ok (.ldc2_w 201, 3)) : zS md pc (pc + 3) (i_lconst (100001)) := n_ldc2 (by rw [hc]; exact zmem 1081 (by decide +kernel)) hd
theorem wqW7 {md : zM} (hc : md.1.cls = "OneDoorLaw") {pc : Nat} (hd : decode md.2.1 pc = .ok (.new 7, 3)) : zS md pc (pc + 3) (i_new 11 [.null, .null, .null, .null, .null, .null, .null, .null, .null, .null, .int 0, .null]) := n_new (C := "OneDoor") (T := zT11) (n := 12) rfl (by rw [hc]; exact zmem 72 (by decide +kernel)) rfl (by decide) zT11y zT11p (by decide) hd
theorem iqW9 {md : zM} (hc : md.1.cls = "OneDoorLaw") {pc : Nat} (hd : decode md.2.1 pc = .ok (.invokespecial 9, 3)) : zS md pc (pc + 3) (i_callI mD_init 0) := n_callI kD_init rfl rfl (by rw [hc]; exact zmem 74 (by decide +kernel)) (zmem 75 (by decide +kernel)) hd
theorem wqW10 {md : zM} (hc : md.1.cls = "OneDoorLaw") {pc : Nat} (hd : decode md.2.1 pc = .ok (.new 10, 3)) : zS md pc (pc + 3) (i_new 12 [.long 0, .null, .int 0, .null, .null, .null, .null, .null, .null, .null, .int 0, .int 0, .int 0, .int 0, .int 0, .int 0, .null, .null, .null, .null, .null, .null, .int 0]) := n_new (C := "OneDoorModel") (T := zT12) (n := 23) rfl (by rw [hc]; exact zmem 779 (by decide +kernel)) rfl (by decide) zT12y zT12p (by decide) hd
theorem iqW12 {md : zM} (hc : md.1.cls = "OneDoorLaw") {pc : Nat} (hd : decode md.2.1 pc = .ok (.invokespecial 12, 3)) : zS md pc (pc + 3) (i_callI mM_init 0) := n_callI kM_init rfl rfl (by rw [hc]; exact zmem 781 (by decide +kernel)) (zmem 782 (by decide +kernel)) hd
theorem vqW13 {md : zM} (hc : md.1.cls = "OneDoorLaw") {pc : Nat} (hd : decode md.2.1 pc = .ok (.invokevirtual 13, 3)) : zS md pc (pc + 3) (i_callV (ztab 11 mD_type) 1) := n_callV (x := mD_type.1) (idx := 13) (zV_own (C := "OneDoor") (T := zT11) (k := 12) kD_type rfl rfl (by rw [hc]; exact zmem 384 (by decide +kernel)) (zmem 385 (by decide +kernel)) (zmem 386 (by decide +kernel))) hd
theorem vqW17 {md : zM} (hc : md.1.cls = "OneDoorLaw") {pc : Nat} (hd : decode md.2.1 pc = .ok (.invokevirtual 17, 3)) : zS md pc (pc + 3) (i_callV (ztab 12 mM_type) 1) := n_callV (x := mM_type.1) (idx := 17) (zV_own (C := "OneDoorModel") (T := zT12) (k := 23) kM_type rfl rfl (by rw [hc]; exact zmem 864 (by decide +kernel)) (zmem 865 (by decide +kernel)) (zmem 866 (by decide +kernel))) hd
theorem vqW18 {md : zM} (hc : md.1.cls = "OneDoorLaw") {pc : Nat} (hd : decode md.2.1 pc = .ok (.invokevirtual 18, 3)) : zS md pc (pc + 3) (i_callV (ztab 11 mD_clear) 0) := n_callV (x := mD_clear.1) (idx := 18) (zV_own (C := "OneDoor") (T := zT11) (k := 12) kD_clear rfl rfl (by rw [hc]; exact zmem 388 (by decide +kernel)) (zmem 389 (by decide +kernel)) (zmem 390 (by decide +kernel))) hd
theorem vqW22 {md : zM} (hc : md.1.cls = "OneDoorLaw") {pc : Nat} (hd : decode md.2.1 pc = .ok (.invokevirtual 22, 3)) : zS md pc (pc + 3) (i_callV (ztab 12 mM_clear) 0) := n_callV (x := mM_clear.1) (idx := 22) (zV_own (C := "OneDoorModel") (T := zT12) (k := 23) kM_clear rfl rfl (by rw [hc]; exact zmem 871 (by decide +kernel)) (zmem 872 (by decide +kernel)) (zmem 873 (by decide +kernel))) hd
theorem vqW23 {md : zM} (hc : md.1.cls = "OneDoorLaw") {pc : Nat} (hd : decode md.2.1 pc = .ok (.invokevirtual 23, 3)) : zS md pc (pc + 3) (i_callV (ztab 11 mD_street) 0) := n_callV (x := mD_street.1) (idx := 23) (zV_own (C := "OneDoor") (T := zT11) (k := 12) kD_street rfl rfl (by rw [hc]; exact zmem 392 (by decide +kernel)) (zmem 393 (by decide +kernel)) (zmem 394 (by decide +kernel))) hd
theorem vqW26 {md : zM} (hc : md.1.cls = "OneDoorLaw") {pc : Nat} (hd : decode md.2.1 pc = .ok (.invokevirtual 26, 3)) : zS md pc (pc + 3) (i_callV (ztab 12 mM_street) 0) := n_callV (x := mM_street.1) (idx := 26) (zV_own (C := "OneDoorModel") (T := zT12) (k := 23) kM_street rfl rfl (by rw [hc]; exact zmem 875 (by decide +kernel)) (zmem 876 (by decide +kernel)) (zmem 877 (by decide +kernel))) hd
theorem vqW27 {md : zM} (hc : md.1.cls = "OneDoorLaw") {pc : Nat} (hd : decode md.2.1 pc = .ok (.invokevirtual 27, 3)) : zS md pc (pc + 3) (i_callV (ztab 11 mD_house) 2) := n_callV (x := mD_house.1) (idx := 27) (zV_own (C := "OneDoor") (T := zT11) (k := 12) kD_house rfl rfl (by rw [hc]; exact zmem 469 (by decide +kernel)) (zmem 470 (by decide +kernel)) (zmem 471 (by decide +kernel))) hd
theorem vqW31 {md : zM} (hc : md.1.cls = "OneDoorLaw") {pc : Nat} (hd : decode md.2.1 pc = .ok (.invokevirtual 31, 3)) : zS md pc (pc + 3) (i_callV (ztab 12 mM_house) 2) := n_callV (x := mM_house.1) (idx := 31) (zV_own (C := "OneDoorModel") (T := zT12) (k := 23) kM_house rfl rfl (by rw [hc]; exact zmem 903 (by decide +kernel)) (zmem 904 (by decide +kernel)) (zmem 905 (by decide +kernel))) hd
theorem vqW32 {md : zM} (hc : md.1.cls = "OneDoorLaw") {pc : Nat} (hd : decode md.2.1 pc = .ok (.invokevirtual 32, 3)) : zS md pc (pc + 3) (i_callV (ztab 11 mD_person) 2) := n_callV (x := mD_person.1) (idx := 32) (zV_own (C := "OneDoor") (T := zT11) (k := 12) kD_person rfl rfl (by rw [hc]; exact zmem 503 (by decide +kernel)) (zmem 504 (by decide +kernel)) (zmem 505 (by decide +kernel))) hd
theorem vqW35 {md : zM} (hc : md.1.cls = "OneDoorLaw") {pc : Nat} (hd : decode md.2.1 pc = .ok (.invokevirtual 35, 3)) : zS md pc (pc + 3) (i_callV (ztab 12 mM_person) 2) := n_callV (x := mM_person.1) (idx := 35) (zV_own (C := "OneDoorModel") (T := zT12) (k := 23) kM_person rfl rfl (by rw [hc]; exact zmem 938 (by decide +kernel)) (zmem 939 (by decide +kernel)) (zmem 940 (by decide +kernel))) hd
theorem vqW36 {md : zM} (hc : md.1.cls = "OneDoorLaw") {pc : Nat} (hd : decode md.2.1 pc = .ok (.invokevirtual 36, 3)) : zS md pc (pc + 3) (i_callV (ztab 11 mD_steps) 2) := n_callV (x := mD_steps.1) (idx := 36) (zV_own (C := "OneDoor") (T := zT11) (k := 12) kD_steps rfl rfl (by rw [hc]; exact zmem 515 (by decide +kernel)) (zmem 516 (by decide +kernel)) (zmem 517 (by decide +kernel))) hd
theorem vqW39 {md : zM} (hc : md.1.cls = "OneDoorLaw") {pc : Nat} (hd : decode md.2.1 pc = .ok (.invokevirtual 39, 3)) : zS md pc (pc + 3) (i_callV (ztab 12 mM_steps) 2) := n_callV (x := mM_steps.1) (idx := 39) (zV_own (C := "OneDoorModel") (T := zT12) (k := 23) kM_steps rfl rfl (by rw [hc]; exact zmem 954 (by decide +kernel)) (zmem 955 (by decide +kernel)) (zmem 956 (by decide +kernel))) hd
theorem vqW40 {md : zM} (hc : md.1.cls = "OneDoorLaw") {pc : Nat} (hd : decode md.2.1 pc = .ok (.invokevirtual 40, 3)) : zS md pc (pc + 3) (i_callV (ztab 11 mD_shuts) 2) := n_callV (x := mD_shuts.1) (idx := 40) (zV_own (C := "OneDoor") (T := zT11) (k := 12) kD_shuts rfl rfl (by rw [hc]; exact zmem 550 (by decide +kernel)) (zmem 551 (by decide +kernel)) (zmem 552 (by decide +kernel))) hd
theorem vqW43 {md : zM} (hc : md.1.cls = "OneDoorLaw") {pc : Nat} (hd : decode md.2.1 pc = .ok (.invokevirtual 43, 3)) : zS md pc (pc + 3) (i_callV (ztab 12 mM_shuts) 2) := n_callV (x := mM_shuts.1) (idx := 43) (zV_own (C := "OneDoorModel") (T := zT12) (k := 23) kM_shuts rfl rfl (by rw [hc]; exact zmem 966 (by decide +kernel)) (zmem 967 (by decide +kernel)) (zmem 968 (by decide +kernel))) hd
theorem vqW44 {md : zM} (hc : md.1.cls = "OneDoorLaw") {pc : Nat} (hd : decode md.2.1 pc = .ok (.invokevirtual 44, 3)) : zS md pc (pc + 3) (i_callV (ztab 11 mD_exchanges) 2) := n_callV (x := mD_exchanges.1) (idx := 44) (zV_own (C := "OneDoor") (T := zT11) (k := 12) kD_exchanges rfl rfl (by rw [hc]; exact zmem 560 (by decide +kernel)) (zmem 561 (by decide +kernel)) (zmem 562 (by decide +kernel))) hd
theorem vqW47 {md : zM} (hc : md.1.cls = "OneDoorLaw") {pc : Nat} (hd : decode md.2.1 pc = .ok (.invokevirtual 47, 3)) : zS md pc (pc + 3) (i_callV (ztab 12 mM_exchanges) 2) := n_callV (x := mM_exchanges.1) (idx := 47) (zV_own (C := "OneDoorModel") (T := zT12) (k := 23) kM_exchanges rfl rfl (by rw [hc]; exact zmem 973 (by decide +kernel)) (zmem 974 (by decide +kernel)) (zmem 975 (by decide +kernel))) hd
theorem vqW48 {md : zM} (hc : md.1.cls = "OneDoorLaw") {pc : Nat} (hd : decode md.2.1 pc = .ok (.invokevirtual 48, 3)) : zS md pc (pc + 3) (i_callV (ztab 11 mD_door) 1) := n_callV (x := mD_door.1) (idx := 48) (zV_own (C := "OneDoor") (T := zT11) (k := 12) kD_door rfl rfl (by rw [hc]; exact zmem 564 (by decide +kernel)) (zmem 565 (by decide +kernel)) (zmem 566 (by decide +kernel))) hd
theorem vqW51 {md : zM} (hc : md.1.cls = "OneDoorLaw") {pc : Nat} (hd : decode md.2.1 pc = .ok (.invokevirtual 51, 3)) : zS md pc (pc + 3) (i_callV (ztab 12 mM_door) 1) := n_callV (x := mM_door.1) (idx := 51) (zV_own (C := "OneDoorModel") (T := zT12) (k := 23) kM_door rfl rfl (by rw [hc]; exact zmem 977 (by decide +kernel)) (zmem 978 (by decide +kernel)) (zmem 979 (by decide +kernel))) hd
theorem vqW52 {md : zM} (hc : md.1.cls = "OneDoorLaw") {pc : Nat} (hd : decode md.2.1 pc = .ok (.invokevirtual 52, 3)) : zS md pc (pc + 3) (i_callV (ztab 11 mD_calms) 1) := n_callV (x := mD_calms.1) (idx := 52) (zV_own (C := "OneDoor") (T := zT11) (k := 12) kD_calms rfl rfl (by rw [hc]; exact zmem 568 (by decide +kernel)) (zmem 569 (by decide +kernel)) (zmem 570 (by decide +kernel))) hd
theorem vqW55 {md : zM} (hc : md.1.cls = "OneDoorLaw") {pc : Nat} (hd : decode md.2.1 pc = .ok (.invokevirtual 55, 3)) : zS md pc (pc + 3) (i_callV (ztab 12 mM_calms) 1) := n_callV (x := mM_calms.1) (idx := 55) (zV_own (C := "OneDoorModel") (T := zT12) (k := 23) kM_calms rfl rfl (by rw [hc]; exact zmem 981 (by decide +kernel)) (zmem 982 (by decide +kernel)) (zmem 983 (by decide +kernel))) hd
theorem vqW56 {md : zM} (hc : md.1.cls = "OneDoorLaw") {pc : Nat} (hd : decode md.2.1 pc = .ok (.invokevirtual 56, 3)) : zS md pc (pc + 3) (i_callV (ztab 11 mD_undo) 0) := n_callV (x := mD_undo.1) (idx := 56) (zV_own (C := "OneDoor") (T := zT11) (k := 12) kD_undo rfl rfl (by rw [hc]; exact zmem 572 (by decide +kernel)) (zmem 573 (by decide +kernel)) (zmem 574 (by decide +kernel))) hd
theorem vqW59 {md : zM} (hc : md.1.cls = "OneDoorLaw") {pc : Nat} (hd : decode md.2.1 pc = .ok (.invokevirtual 59, 3)) : zS md pc (pc + 3) (i_callV (ztab 12 mM_undo) 0) := n_callV (x := mM_undo.1) (idx := 59) (zV_own (C := "OneDoorModel") (T := zT12) (k := 23) kM_undo rfl rfl (by rw [hc]; exact zmem 985 (by decide +kernel)) (zmem 986 (by decide +kernel)) (zmem 987 (by decide +kernel))) hd
theorem vqW60 {md : zM} (hc : md.1.cls = "OneDoorLaw") {pc : Nat} (hd : decode md.2.1 pc = .ok (.invokevirtual 60, 3)) : zS md pc (pc + 3) (i_callV (ztab 11 mD_now) 1) := n_callV (x := mD_now.1) (idx := 60) (zV_own (C := "OneDoor") (T := zT11) (k := 12) kD_now rfl rfl (by rw [hc]; exact zmem 580 (by decide +kernel)) (zmem 581 (by decide +kernel)) (zmem 582 (by decide +kernel))) hd
theorem vqW63 {md : zM} (hc : md.1.cls = "OneDoorLaw") {pc : Nat} (hd : decode md.2.1 pc = .ok (.invokevirtual 63, 3)) : zS md pc (pc + 3) (i_callV (ztab 12 mM_now) 1) := n_callV (x := mM_now.1) (idx := 63) (zV_own (C := "OneDoorModel") (T := zT12) (k := 23) kM_now rfl rfl (by rw [hc]; exact zmem 989 (by decide +kernel)) (zmem 990 (by decide +kernel)) (zmem 991 (by decide +kernel))) hd
theorem vqW64 {md : zM} (hc : md.1.cls = "OneDoorLaw") {pc : Nat} (hd : decode md.2.1 pc = .ok (.invokevirtual 64, 3)) : zS md pc (pc + 3) (i_callV (ztab 11 mD_homes) 1) := n_callV (x := mD_homes.1) (idx := 64) (zV_own (C := "OneDoor") (T := zT11) (k := 12) kD_homes rfl rfl (by rw [hc]; exact zmem 614 (by decide +kernel)) (zmem 615 (by decide +kernel)) (zmem 616 (by decide +kernel))) hd
theorem vqW67 {md : zM} (hc : md.1.cls = "OneDoorLaw") {pc : Nat} (hd : decode md.2.1 pc = .ok (.invokevirtual 67, 3)) : zS md pc (pc + 3) (i_callV (ztab 12 mM_homes) 1) := n_callV (x := mM_homes.1) (idx := 67) (zV_own (C := "OneDoorModel") (T := zT12) (k := 23) kM_homes rfl rfl (by rw [hc]; exact zmem 1013 (by decide +kernel)) (zmem 1014 (by decide +kernel)) (zmem 1015 (by decide +kernel))) hd
theorem vqW68 {md : zM} (hc : md.1.cls = "OneDoorLaw") {pc : Nat} (hd : decode md.2.1 pc = .ok (.invokevirtual 68, 3)) : zS md pc (pc + 3) (i_callV (ztab 11 mD_doorAt) 1) := n_callV (x := mD_doorAt.1) (idx := 68) (zV_own (C := "OneDoor") (T := zT11) (k := 12) kD_doorAt rfl rfl (by rw [hc]; exact zmem 628 (by decide +kernel)) (zmem 629 (by decide +kernel)) (zmem 630 (by decide +kernel))) hd
theorem vqW71 {md : zM} (hc : md.1.cls = "OneDoorLaw") {pc : Nat} (hd : decode md.2.1 pc = .ok (.invokevirtual 71, 3)) : zS md pc (pc + 3) (i_callV (ztab 12 mM_doorAt) 1) := n_callV (x := mM_doorAt.1) (idx := 71) (zV_own (C := "OneDoorModel") (T := zT12) (k := 23) kM_doorAt rfl rfl (by rw [hc]; exact zmem 1021 (by decide +kernel)) (zmem 1022 (by decide +kernel)) (zmem 1023 (by decide +kernel))) hd
theorem vqW72 {md : zM} (hc : md.1.cls = "OneDoorLaw") {pc : Nat} (hd : decode md.2.1 pc = .ok (.invokevirtual 72, 3)) : zS md pc (pc + 3) (i_callV (ztab 11 mD_fair) 2) := n_callV (x := mD_fair.1) (idx := 72) (zV_own (C := "OneDoor") (T := zT11) (k := 12) kD_fair rfl rfl (by rw [hc]; exact zmem 637 (by decide +kernel)) (zmem 638 (by decide +kernel)) (zmem 639 (by decide +kernel))) hd
theorem vqW75 {md : zM} (hc : md.1.cls = "OneDoorLaw") {pc : Nat} (hd : decode md.2.1 pc = .ok (.invokevirtual 75, 3)) : zS md pc (pc + 3) (i_callV (ztab 12 mM_fair) 2) := n_callV (x := mM_fair.1) (idx := 75) (zV_own (C := "OneDoorModel") (T := zT12) (k := 23) kM_fair rfl rfl (by rw [hc]; exact zmem 1025 (by decide +kernel)) (zmem 1026 (by decide +kernel)) (zmem 1027 (by decide +kernel))) hd
theorem vqW76 {md : zM} (hc : md.1.cls = "OneDoorLaw") {pc : Nat} (hd : decode md.2.1 pc = .ok (.invokevirtual 76, 3)) : zS md pc (pc + 3) (i_callV (ztab 11 mD_coffin) 1) := n_callV (x := mD_coffin.1) (idx := 76) (zV_own (C := "OneDoor") (T := zT11) (k := 12) kD_coffin rfl rfl (by rw [hc]; exact zmem 652 (by decide +kernel)) (zmem 653 (by decide +kernel)) (zmem 654 (by decide +kernel))) hd
theorem vqW79 {md : zM} (hc : md.1.cls = "OneDoorLaw") {pc : Nat} (hd : decode md.2.1 pc = .ok (.invokevirtual 79, 3)) : zS md pc (pc + 3) (i_callV (ztab 12 mM_coffin) 1) := n_callV (x := mM_coffin.1) (idx := 79) (zV_own (C := "OneDoorModel") (T := zT12) (k := 23) kM_coffin rfl rfl (by rw [hc]; exact zmem 1032 (by decide +kernel)) (zmem 1033 (by decide +kernel)) (zmem 1034 (by decide +kernel))) hd
theorem vqW80 {md : zM} (hc : md.1.cls = "OneDoorLaw") {pc : Nat} (hd : decode md.2.1 pc = .ok (.invokevirtual 80, 3)) : zS md pc (pc + 3) (i_callV (ztab 11 mD_hats) 2) := n_callV (x := mD_hats.1) (idx := 80) (zV_own (C := "OneDoor") (T := zT11) (k := 12) kD_hats rfl rfl (by rw [hc]; exact zmem 660 (by decide +kernel)) (zmem 661 (by decide +kernel)) (zmem 662 (by decide +kernel))) hd
theorem vqW83 {md : zM} (hc : md.1.cls = "OneDoorLaw") {pc : Nat} (hd : decode md.2.1 pc = .ok (.invokevirtual 83, 3)) : zS md pc (pc + 3) (i_callV (ztab 12 mM_hats) 2) := n_callV (x := mM_hats.1) (idx := 83) (zV_own (C := "OneDoorModel") (T := zT12) (k := 23) kM_hats rfl rfl (by rw [hc]; exact zmem 1036 (by decide +kernel)) (zmem 1037 (by decide +kernel)) (zmem 1038 (by decide +kernel))) hd
theorem vqW84 {md : zM} (hc : md.1.cls = "OneDoorLaw") {pc : Nat} (hd : decode md.2.1 pc = .ok (.invokevirtual 84, 3)) : zS md pc (pc + 3) (i_callV (ztab 11 mD_forget) 0) := n_callV (x := mD_forget.1) (idx := 84) (zV_own (C := "OneDoor") (T := zT11) (k := 12) kD_forget rfl rfl (by rw [hc]; exact zmem 664 (by decide +kernel)) (zmem 665 (by decide +kernel)) (zmem 666 (by decide +kernel))) hd
theorem vqW87 {md : zM} (hc : md.1.cls = "OneDoorLaw") {pc : Nat} (hd : decode md.2.1 pc = .ok (.invokevirtual 87, 3)) : zS md pc (pc + 3) (i_callV (ztab 12 mM_forget) 0) := n_callV (x := mM_forget.1) (idx := 87) (zV_own (C := "OneDoorModel") (T := zT12) (k := 23) kM_forget rfl rfl (by rw [hc]; exact zmem 1040 (by decide +kernel)) (zmem 1041 (by decide +kernel)) (zmem 1042 (by decide +kernel))) hd
theorem vqW88 {md : zM} (hc : md.1.cls = "OneDoorLaw") {pc : Nat} (hd : decode md.2.1 pc = .ok (.invokevirtual 88, 3)) : zS md pc (pc + 3) (i_callV (ztab 11 mD_who) 0) := n_callV (x := mD_who.1) (idx := 88) (zV_own (C := "OneDoor") (T := zT11) (k := 12) kD_who rfl rfl (by rw [hc]; exact zmem 668 (by decide +kernel)) (zmem 669 (by decide +kernel)) (zmem 670 (by decide +kernel))) hd
theorem vqW91 {md : zM} (hc : md.1.cls = "OneDoorLaw") {pc : Nat} (hd : decode md.2.1 pc = .ok (.invokevirtual 91, 3)) : zS md pc (pc + 3) (i_callV (ztab 12 mM_who) 0) := n_callV (x := mM_who.1) (idx := 91) (zV_own (C := "OneDoorModel") (T := zT12) (k := 23) kM_who rfl rfl (by rw [hc]; exact zmem 1044 (by decide +kernel)) (zmem 1045 (by decide +kernel)) (zmem 1046 (by decide +kernel))) hd
theorem vqW92 {md : zM} (hc : md.1.cls = "OneDoorLaw") {pc : Nat} (hd : decode md.2.1 pc = .ok (.invokevirtual 92, 3)) : zS md pc (pc + 3) (i_callV (ztab 11 mD_bread) 0) := n_callV (x := mD_bread.1) (idx := 92) (zV_own (C := "OneDoor") (T := zT11) (k := 12) kD_bread rfl rfl (by rw [hc]; exact zmem 696 (by decide +kernel)) (zmem 697 (by decide +kernel)) (zmem 698 (by decide +kernel))) hd
theorem vqW95 {md : zM} (hc : md.1.cls = "OneDoorLaw") {pc : Nat} (hd : decode md.2.1 pc = .ok (.invokevirtual 95, 3)) : zS md pc (pc + 3) (i_callV (ztab 12 mM_bread) 0) := n_callV (x := mM_bread.1) (idx := 95) (zV_own (C := "OneDoorModel") (T := zT12) (k := 23) kM_bread rfl rfl (by rw [hc]; exact zmem 1060 (by decide +kernel)) (zmem 1061 (by decide +kernel)) (zmem 1062 (by decide +kernel))) hd
theorem vqW96 {md : zM} (hc : md.1.cls = "OneDoorLaw") {pc : Nat} (hd : decode md.2.1 pc = .ok (.invokevirtual 96, 3)) : zS md pc (pc + 3) (i_callV (ztab 11 mD_meet) 4) := n_callV (x := mD_meet.1) (idx := 96) (zV_own (C := "OneDoor") (T := zT11) (k := 12) kD_meet rfl rfl (by rw [hc]; exact zmem 700 (by decide +kernel)) (zmem 701 (by decide +kernel)) (zmem 702 (by decide +kernel))) hd
theorem vqW100 {md : zM} (hc : md.1.cls = "OneDoorLaw") {pc : Nat} (hd : decode md.2.1 pc = .ok (.invokevirtual 100, 3)) : zS md pc (pc + 3) (i_callV (ztab 12 mM_meet) 4) := n_callV (x := mM_meet.1) (idx := 100) (zV_own (C := "OneDoorModel") (T := zT12) (k := 23) kM_meet rfl rfl (by rw [hc]; exact zmem 1064 (by decide +kernel)) (zmem 1065 (by decide +kernel)) (zmem 1066 (by decide +kernel))) hd
theorem vqW101 {md : zM} (hc : md.1.cls = "OneDoorLaw") {pc : Nat} (hd : decode md.2.1 pc = .ok (.invokevirtual 101, 3)) : zS md pc (pc + 3) (i_callV (ztab 11 mD_odds) 3) := n_callV (x := mD_odds.1) (idx := 101) (zV_own (C := "OneDoor") (T := zT11) (k := 12) kD_odds rfl rfl (by rw [hc]; exact zmem 713 (by decide +kernel)) (zmem 714 (by decide +kernel)) (zmem 715 (by decide +kernel))) hd
theorem vqW105 {md : zM} (hc : md.1.cls = "OneDoorLaw") {pc : Nat} (hd : decode md.2.1 pc = .ok (.invokevirtual 105, 3)) : zS md pc (pc + 3) (i_callV (ztab 12 mM_odds) 3) := n_callV (x := mM_odds.1) (idx := 105) (zV_own (C := "OneDoorModel") (T := zT12) (k := 23) kM_odds rfl rfl (by rw [hc]; exact zmem 1068 (by decide +kernel)) (zmem 1069 (by decide +kernel)) (zmem 1070 (by decide +kernel))) hd
theorem vqW106 {md : zM} (hc : md.1.cls = "OneDoorLaw") {pc : Nat} (hd : decode md.2.1 pc = .ok (.invokevirtual 106, 3)) : zS md pc (pc + 3) (i_callV (ztab 11 mD_mark) 2) := n_callV (x := mD_mark.1) (idx := 106) (zV_own (C := "OneDoor") (T := zT11) (k := 12) kD_mark rfl rfl (by rw [hc]; exact zmem 721 (by decide +kernel)) (zmem 722 (by decide +kernel)) (zmem 723 (by decide +kernel))) hd
theorem vqW109 {md : zM} (hc : md.1.cls = "OneDoorLaw") {pc : Nat} (hd : decode md.2.1 pc = .ok (.invokevirtual 109, 3)) : zS md pc (pc + 3) (i_callV (ztab 12 mM_mark) 2) := n_callV (x := mM_mark.1) (idx := 109) (zV_own (C := "OneDoorModel") (T := zT12) (k := 23) kM_mark rfl rfl (by rw [hc]; exact zmem 1072 (by decide +kernel)) (zmem 1073 (by decide +kernel)) (zmem 1074 (by decide +kernel))) hd
theorem vqW110 {md : zM} (hc : md.1.cls = "OneDoorLaw") {pc : Nat} (hd : decode md.2.1 pc = .ok (.invokevirtual 110, 3)) : zS md pc (pc + 3) (i_callV (ztab 11 mD_keep) 1) := n_callV (x := mD_keep.1) (idx := 110) (zV_own (C := "OneDoor") (T := zT11) (k := 12) kD_keep rfl rfl (by rw [hc]; exact zmem 756 (by decide +kernel)) (zmem 757 (by decide +kernel)) (zmem 758 (by decide +kernel))) hd
theorem vqW113 {md : zM} (hc : md.1.cls = "OneDoorLaw") {pc : Nat} (hd : decode md.2.1 pc = .ok (.invokevirtual 113, 3)) : zS md pc (pc + 3) (i_callV (ztab 12 mM_keep) 1) := n_callV (x := mM_keep.1) (idx := 113) (zV_own (C := "OneDoorModel") (T := zT12) (k := 23) kM_keep rfl rfl (by rw [hc]; exact zmem 1082 (by decide +kernel)) (zmem 1083 (by decide +kernel)) (zmem 1084 (by decide +kernel))) hd
theorem vqW114 {md : zM} (hc : md.1.cls = "OneDoorLaw") {pc : Nat} (hd : decode md.2.1 pc = .ok (.invokevirtual 114, 3)) : zS md pc (pc + 3) (i_callV (ztab 11 mD_back) 1) := n_callV (x := mD_back.1) (idx := 114) (zV_own (C := "OneDoor") (T := zT11) (k := 12) kD_back rfl rfl (by rw [hc]; exact zmem 767 (by decide +kernel)) (zmem 768 (by decide +kernel)) (zmem 769 (by decide +kernel))) hd
theorem vqW117 {md : zM} (hc : md.1.cls = "OneDoorLaw") {pc : Nat} (hd : decode md.2.1 pc = .ok (.invokevirtual 117, 3)) : zS md pc (pc + 3) (i_callV (ztab 12 mM_back) 1) := n_callV (x := mM_back.1) (idx := 117) (zV_own (C := "OneDoorModel") (T := zT12) (k := 23) kM_back rfl rfl (by rw [hc]; exact zmem 1086 (by decide +kernel)) (zmem 1087 (by decide +kernel)) (zmem 1088 (by decide +kernel))) hd
theorem vqW118 {md : zM} (hc : md.1.cls = "OneDoorLaw") {pc : Nat} (hd : decode md.2.1 pc = .ok (.invokevirtual 118, 3)) : zS md pc (pc + 3) (i_callV (ztab 11 mD_count) 1) := n_callV (x := mD_count.1) (idx := 118) (zV_own (C := "OneDoor") (T := zT11) (k := 12) kD_count rfl rfl (by rw [hc]; exact zmem 771 (by decide +kernel)) (zmem 772 (by decide +kernel)) (zmem 773 (by decide +kernel))) hd
theorem vqW121 {md : zM} (hc : md.1.cls = "OneDoorLaw") {pc : Nat} (hd : decode md.2.1 pc = .ok (.invokevirtual 121, 3)) : zS md pc (pc + 3) (i_callV (ztab 12 mM_count) 1) := n_callV (x := mM_count.1) (idx := 121) (zV_own (C := "OneDoorModel") (T := zT12) (k := 23) kM_count rfl rfl (by rw [hc]; exact zmem 1090 (by decide +kernel)) (zmem 1091 (by decide +kernel)) (zmem 1092 (by decide +kernel))) hd
theorem vqW122 {md : zM} (hc : md.1.cls = "OneDoorLaw") {pc : Nat} (hd : decode md.2.1 pc = .ok (.invokevirtual 122, 3)) : zS md pc (pc + 3) (i_callV (ztab 11 mD_trace) 0) := n_callV (x := mD_trace.1) (idx := 122) (zV_own (C := "OneDoor") (T := zT11) (k := 12) kD_trace rfl rfl (by rw [hc]; exact zmem 775 (by decide +kernel)) (zmem 776 (by decide +kernel)) (zmem 777 (by decide +kernel))) hd
theorem vqW126 {md : zM} (hc : md.1.cls = "OneDoorLaw") {pc : Nat} (hd : decode md.2.1 pc = .ok (.invokevirtual 126, 3)) : zS md pc (pc + 3) (i_callV (ztab 12 mM_trace) 0) := n_callV (x := mM_trace.1) (idx := 126) (zV_own (C := "OneDoorModel") (T := zT12) (k := 23) kM_trace rfl rfl (by rw [hc]; exact zmem 1094 (by decide +kernel)) (zmem 1095 (by decide +kernel)) (zmem 1096 (by decide +kernel))) hd
end
