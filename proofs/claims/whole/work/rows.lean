section
-- ===== PART A: goes FIRST, ahead of the names: the tables' words, and 'selects' of the private methods out of them =====
/-- a private method of a class that the tables say can be made, by its rows of tables_1 -/
def lw_okq (q : MethodName × Nat) : Prop := (q.1.cls ≠ "java/lang/invoke/MethodHandle" ∧ q.1.cls ≠ "java/lang/invoke/VarHandle") ∧ Cond.instantiable q.1.cls q.2 ∈ tables_1 ∧ Cond.privateMethod q.1 ∈ tables_1 ∧ Cond.instanceMethod q.1 ∈ tables_1
theorem lw_p0 : lw_okq (⟨"StillHouse$Kind", "overriddenOf", "(I)J"⟩, 12) := ⟨⟨by decide +kernel, by decide +kernel⟩, List.mem_of_getElem? (i := 130) (by decide +kernel), List.mem_of_getElem? (i := 372) (by decide +kernel), List.mem_of_getElem? (i := 373) (by decide +kernel)⟩
theorem lw_p1 : lw_okq (⟨"StillHouse$Kind", "maySee", "(LStillHouse$Body;)Z"⟩, 12) := ⟨⟨by decide +kernel, by decide +kernel⟩, List.mem_of_getElem? (i := 130) (by decide +kernel), List.mem_of_getElem? (i := 377) (by decide +kernel), List.mem_of_getElem? (i := 378) (by decide +kernel)⟩
theorem lw_p2 : lw_okq (⟨"StillHouse$Registry", "append", "(LStillHouse$Kind;)V"⟩, 5) := ⟨⟨by decide +kernel, by decide +kernel⟩, List.mem_of_getElem? (i := 33) (by decide +kernel), List.mem_of_getElem? (i := 385) (by decide +kernel), List.mem_of_getElem? (i := 386) (by decide +kernel)⟩
theorem lw_p3 : lw_okq (⟨"StillHouse", "tell", "(I)I"⟩, 10) := ⟨⟨by decide +kernel, by decide +kernel⟩, List.mem_of_getElem? (i := 25) (by decide +kernel), List.mem_of_getElem? (i := 426) (by decide +kernel), List.mem_of_getElem? (i := 427) (by decide +kernel)⟩
theorem lw_p4 : lw_okq (⟨"StillHouse$Reader", "take", "(I)J"⟩, 2) := ⟨⟨by decide +kernel, by decide +kernel⟩, List.mem_of_getElem? (i := 434) (by decide +kernel), List.mem_of_getElem? (i := 564) (by decide +kernel), List.mem_of_getElem? (i := 565) (by decide +kernel)⟩
theorem lw_p5 : lw_okq (⟨"StillHouse$Reader", "sees", "(I)Z"⟩, 2) := ⟨⟨by decide +kernel, by decide +kernel⟩, List.mem_of_getElem? (i := 434) (by decide +kernel), List.mem_of_getElem? (i := 568) (by decide +kernel), List.mem_of_getElem? (i := 569) (by decide +kernel)⟩
theorem lw_p6 : lw_okq (⟨"StillHouse$Reader", "readKind", "()LStillHouse$Kind;"⟩, 2) := ⟨⟨by decide +kernel, by decide +kernel⟩, List.mem_of_getElem? (i := 434) (by decide +kernel), List.mem_of_getElem? (i := 572) (by decide +kernel), List.mem_of_getElem? (i := 573) (by decide +kernel)⟩
theorem lw_p7 : lw_okq (⟨"StillHouse$Reader", "beginsBody", "()Z"⟩, 2) := ⟨⟨by decide +kernel, by decide +kernel⟩, List.mem_of_getElem? (i := 434) (by decide +kernel), List.mem_of_getElem? (i := 578) (by decide +kernel), List.mem_of_getElem? (i := 579) (by decide +kernel)⟩
theorem lw_p8 : lw_okq (⟨"StillHouse$Reader", "seesFrom", "(II)Z"⟩, 2) := ⟨⟨by decide +kernel, by decide +kernel⟩, List.mem_of_getElem? (i := 434) (by decide +kernel), List.mem_of_getElem? (i := 582) (by decide +kernel), List.mem_of_getElem? (i := 583) (by decide +kernel)⟩
theorem lw_p9 : lw_okq (⟨"StillHouse$Reader", "readBody", "(LStillHouse$Kind;)V"⟩, 2) := ⟨⟨by decide +kernel, by decide +kernel⟩, List.mem_of_getElem? (i := 434) (by decide +kernel), List.mem_of_getElem? (i := 586) (by decide +kernel), List.mem_of_getElem? (i := 587) (by decide +kernel)⟩
theorem lw_p10 : lw_okq (⟨"StillHouse$Reader", "takeHook", "()I"⟩, 2) := ⟨⟨by decide +kernel, by decide +kernel⟩, List.mem_of_getElem? (i := 434) (by decide +kernel), List.mem_of_getElem? (i := 591) (by decide +kernel), List.mem_of_getElem? (i := 592) (by decide +kernel)⟩
theorem lw_p11 : lw_okq (⟨"StillHouse$Reader", "spoil", "()V"⟩, 2) := ⟨⟨by decide +kernel, by decide +kernel⟩, List.mem_of_getElem? (i := 434) (by decide +kernel), List.mem_of_getElem? (i := 595) (by decide +kernel), List.mem_of_getElem? (i := 596) (by decide +kernel)⟩
theorem lw_p12 : lw_okq (⟨"StillHouse$Reader", "readBlock", "(LStillHouse$Body;I)LStillHouse$Action;"⟩, 2) := ⟨⟨by decide +kernel, by decide +kernel⟩, List.mem_of_getElem? (i := 434) (by decide +kernel), List.mem_of_getElem? (i := 600) (by decide +kernel), List.mem_of_getElem? (i := 601) (by decide +kernel)⟩
theorem lw_p13 : lw_okq (⟨"StillHouse$Reader", "beginsAction", "()Z"⟩, 2) := ⟨⟨by decide +kernel, by decide +kernel⟩, List.mem_of_getElem? (i := 434) (by decide +kernel), List.mem_of_getElem? (i := 604) (by decide +kernel), List.mem_of_getElem? (i := 605) (by decide +kernel)⟩
theorem lw_p14 : lw_okq (⟨"StillHouse$Reader", "readAction", "(LStillHouse$Body;I)LStillHouse$Action;"⟩, 2) := ⟨⟨by decide +kernel, by decide +kernel⟩, List.mem_of_getElem? (i := 434) (by decide +kernel), List.mem_of_getElem? (i := 608) (by decide +kernel), List.mem_of_getElem? (i := 609) (by decide +kernel)⟩
theorem lw_p15 : lw_okq (⟨"StillHouse$Reader", "takeNumber", "()I"⟩, 2) := ⟨⟨by decide +kernel, by decide +kernel⟩, List.mem_of_getElem? (i := 434) (by decide +kernel), List.mem_of_getElem? (i := 614) (by decide +kernel), List.mem_of_getElem? (i := 615) (by decide +kernel)⟩
def lw_privs_1 : List (MethodName × Nat) := [(⟨"StillHouse$Kind", "overriddenOf", "(I)J"⟩, 12), (⟨"StillHouse$Kind", "maySee", "(LStillHouse$Body;)Z"⟩, 12), (⟨"StillHouse$Registry", "append", "(LStillHouse$Kind;)V"⟩, 5), (⟨"StillHouse", "tell", "(I)I"⟩, 10), (⟨"StillHouse$Reader", "take", "(I)J"⟩, 2), (⟨"StillHouse$Reader", "sees", "(I)Z"⟩, 2), (⟨"StillHouse$Reader", "readKind", "()LStillHouse$Kind;"⟩, 2), (⟨"StillHouse$Reader", "beginsBody", "()Z"⟩, 2), (⟨"StillHouse$Reader", "seesFrom", "(II)Z"⟩, 2), (⟨"StillHouse$Reader", "readBody", "(LStillHouse$Kind;)V"⟩, 2), (⟨"StillHouse$Reader", "takeHook", "()I"⟩, 2), (⟨"StillHouse$Reader", "spoil", "()V"⟩, 2), (⟨"StillHouse$Reader", "readBlock", "(LStillHouse$Body;I)LStillHouse$Action;"⟩, 2), (⟨"StillHouse$Reader", "beginsAction", "()Z"⟩, 2), (⟨"StillHouse$Reader", "readAction", "(LStillHouse$Body;I)LStillHouse$Action;"⟩, 2), (⟨"StillHouse$Reader", "takeNumber", "()I"⟩, 2)]
theorem lw_r1 : ∀ q ∈ lw_privs_1, lw_okq q := List.forall_mem_cons.mpr ⟨lw_p0, List.forall_mem_cons.mpr ⟨lw_p1, List.forall_mem_cons.mpr ⟨lw_p2, List.forall_mem_cons.mpr ⟨lw_p3, List.forall_mem_cons.mpr ⟨lw_p4, List.forall_mem_cons.mpr ⟨lw_p5, List.forall_mem_cons.mpr ⟨lw_p6, List.forall_mem_cons.mpr ⟨lw_p7, List.forall_mem_cons.mpr ⟨lw_p8, List.forall_mem_cons.mpr ⟨lw_p9, List.forall_mem_cons.mpr ⟨lw_p10, List.forall_mem_cons.mpr ⟨lw_p11, List.forall_mem_cons.mpr ⟨lw_p12, List.forall_mem_cons.mpr ⟨lw_p13, List.forall_mem_cons.mpr ⟨lw_p14, List.forall_mem_cons.mpr ⟨lw_p15, fun _ h => absurd h List.not_mem_nil⟩⟩⟩⟩⟩⟩⟩⟩⟩⟩⟩⟩⟩⟩⟩⟩
theorem lw_p16 : lw_okq (⟨"StillHouse$Checker", "blame", "(II)V"⟩, 4) := ⟨⟨by decide +kernel, by decide +kernel⟩, List.mem_of_getElem? (i := 623) (by decide +kernel), List.mem_of_getElem? (i := 657) (by decide +kernel), List.mem_of_getElem? (i := 658) (by decide +kernel)⟩
theorem lw_p17 : lw_okq (⟨"StillHouse$Checker", "checkKind", "(LStillHouse$Kind;I)V"⟩, 4) := ⟨⟨by decide +kernel, by decide +kernel⟩, List.mem_of_getElem? (i := 623) (by decide +kernel), List.mem_of_getElem? (i := 661) (by decide +kernel), List.mem_of_getElem? (i := 662) (by decide +kernel)⟩
theorem lw_p18 : lw_okq (⟨"StillHouse$Checker", "kindNamed", "(JI)LStillHouse$Kind;"⟩, 4) := ⟨⟨by decide +kernel, by decide +kernel⟩, List.mem_of_getElem? (i := 623) (by decide +kernel), List.mem_of_getElem? (i := 665) (by decide +kernel), List.mem_of_getElem? (i := 666) (by decide +kernel)⟩
theorem lw_p19 : lw_okq (⟨"StillHouse$Checker", "checkBody", "(LStillHouse$Body;)V"⟩, 4) := ⟨⟨by decide +kernel, by decide +kernel⟩, List.mem_of_getElem? (i := 623) (by decide +kernel), List.mem_of_getElem? (i := 674) (by decide +kernel), List.mem_of_getElem? (i := 675) (by decide +kernel)⟩
theorem lw_p20 : lw_okq (⟨"StillHouse$Checker", "checkActions", "(LStillHouse$Body;LStillHouse$Action;I)V"⟩, 4) := ⟨⟨by decide +kernel, by decide +kernel⟩, List.mem_of_getElem? (i := 623) (by decide +kernel), List.mem_of_getElem? (i := 684) (by decide +kernel), List.mem_of_getElem? (i := 685) (by decide +kernel)⟩
theorem lw_p21 : lw_okq (⟨"StillHouse$Checker", "checkAction", "(LStillHouse$Body;LStillHouse$Action;)V"⟩, 4) := ⟨⟨by decide +kernel, by decide +kernel⟩, List.mem_of_getElem? (i := 623) (by decide +kernel), List.mem_of_getElem? (i := 688) (by decide +kernel), List.mem_of_getElem? (i := 689) (by decide +kernel)⟩
theorem lw_p22 : lw_okq (⟨"StillHouse", "vesselAt", "(I)LStillHouse$Vessel;"⟩, 10) := ⟨⟨by decide +kernel, by decide +kernel⟩, List.mem_of_getElem? (i := 25) (by decide +kernel), List.mem_of_getElem? (i := 799) (by decide +kernel), List.mem_of_getElem? (i := 800) (by decide +kernel)⟩
theorem lw_p23 : lw_okq (⟨"StillHouse", "enter", "(LStillHouse$Entry;)V"⟩, 10) := ⟨⟨by decide +kernel, by decide +kernel⟩, List.mem_of_getElem? (i := 25) (by decide +kernel), List.mem_of_getElem? (i := 839) (by decide +kernel), List.mem_of_getElem? (i := 840) (by decide +kernel)⟩
theorem lw_p24 : lw_okq (⟨"StillHouse$Run", "begin", "(LStillHouse$Vessel;I)V"⟩, 14) := ⟨⟨by decide +kernel, by decide +kernel⟩, List.mem_of_getElem? (i := 67) (by decide +kernel), List.mem_of_getElem? (i := 859) (by decide +kernel), List.mem_of_getElem? (i := 860) (by decide +kernel)⟩
theorem lw_p25 : lw_okq (⟨"StillHouse$Run", "runChosen", "(LStillHouse$Body;I)I"⟩, 14) := ⟨⟨by decide +kernel, by decide +kernel⟩, List.mem_of_getElem? (i := 67) (by decide +kernel), List.mem_of_getElem? (i := 864) (by decide +kernel), List.mem_of_getElem? (i := 865) (by decide +kernel)⟩
theorem lw_p26 : lw_okq (⟨"StillHouse$Run", "runBody", "(LStillHouse$Body;I)I"⟩, 14) := ⟨⟨by decide +kernel, by decide +kernel⟩, List.mem_of_getElem? (i := 67) (by decide +kernel), List.mem_of_getElem? (i := 869) (by decide +kernel), List.mem_of_getElem? (i := 870) (by decide +kernel)⟩
theorem lw_p27 : lw_okq (⟨"StillHouse$Run", "runActions", "(LStillHouse$Body;LStillHouse$Action;II)I"⟩, 14) := ⟨⟨by decide +kernel, by decide +kernel⟩, List.mem_of_getElem? (i := 67) (by decide +kernel), List.mem_of_getElem? (i := 873) (by decide +kernel), List.mem_of_getElem? (i := 874) (by decide +kernel)⟩
theorem lw_p28 : lw_okq (⟨"StillHouse$Run", "runAction", "(LStillHouse$Body;LStillHouse$Action;II)I"⟩, 14) := ⟨⟨by decide +kernel, by decide +kernel⟩, List.mem_of_getElem? (i := 67) (by decide +kernel), List.mem_of_getElem? (i := 877) (by decide +kernel), List.mem_of_getElem? (i := 878) (by decide +kernel)⟩
theorem lw_p29 : lw_okq (⟨"StillHouse$Run", "sayNumber", "(I)I"⟩, 14) := ⟨⟨by decide +kernel, by decide +kernel⟩, List.mem_of_getElem? (i := 67) (by decide +kernel), List.mem_of_getElem? (i := 882) (by decide +kernel), List.mem_of_getElem? (i := 883) (by decide +kernel)⟩
theorem lw_p30 : lw_okq (⟨"StillHouse$Run", "addWater", "(I)I"⟩, 14) := ⟨⟨by decide +kernel, by decide +kernel⟩, List.mem_of_getElem? (i := 67) (by decide +kernel), List.mem_of_getElem? (i := 886) (by decide +kernel), List.mem_of_getElem? (i := 887) (by decide +kernel)⟩
theorem lw_p31 : lw_okq (⟨"StillHouse$Run", "failWith", "(I)I"⟩, 14) := ⟨⟨by decide +kernel, by decide +kernel⟩, List.mem_of_getElem? (i := 67) (by decide +kernel), List.mem_of_getElem? (i := 891) (by decide +kernel), List.mem_of_getElem? (i := 892) (by decide +kernel)⟩
def lw_privs_2 : List (MethodName × Nat) := [(⟨"StillHouse$Checker", "blame", "(II)V"⟩, 4), (⟨"StillHouse$Checker", "checkKind", "(LStillHouse$Kind;I)V"⟩, 4), (⟨"StillHouse$Checker", "kindNamed", "(JI)LStillHouse$Kind;"⟩, 4), (⟨"StillHouse$Checker", "checkBody", "(LStillHouse$Body;)V"⟩, 4), (⟨"StillHouse$Checker", "checkActions", "(LStillHouse$Body;LStillHouse$Action;I)V"⟩, 4), (⟨"StillHouse$Checker", "checkAction", "(LStillHouse$Body;LStillHouse$Action;)V"⟩, 4), (⟨"StillHouse", "vesselAt", "(I)LStillHouse$Vessel;"⟩, 10), (⟨"StillHouse", "enter", "(LStillHouse$Entry;)V"⟩, 10), (⟨"StillHouse$Run", "begin", "(LStillHouse$Vessel;I)V"⟩, 14), (⟨"StillHouse$Run", "runChosen", "(LStillHouse$Body;I)I"⟩, 14), (⟨"StillHouse$Run", "runBody", "(LStillHouse$Body;I)I"⟩, 14), (⟨"StillHouse$Run", "runActions", "(LStillHouse$Body;LStillHouse$Action;II)I"⟩, 14), (⟨"StillHouse$Run", "runAction", "(LStillHouse$Body;LStillHouse$Action;II)I"⟩, 14), (⟨"StillHouse$Run", "sayNumber", "(I)I"⟩, 14), (⟨"StillHouse$Run", "addWater", "(I)I"⟩, 14), (⟨"StillHouse$Run", "failWith", "(I)I"⟩, 14)]
theorem lw_r2 : ∀ q ∈ lw_privs_2, lw_okq q := List.forall_mem_cons.mpr ⟨lw_p16, List.forall_mem_cons.mpr ⟨lw_p17, List.forall_mem_cons.mpr ⟨lw_p18, List.forall_mem_cons.mpr ⟨lw_p19, List.forall_mem_cons.mpr ⟨lw_p20, List.forall_mem_cons.mpr ⟨lw_p21, List.forall_mem_cons.mpr ⟨lw_p22, List.forall_mem_cons.mpr ⟨lw_p23, List.forall_mem_cons.mpr ⟨lw_p24, List.forall_mem_cons.mpr ⟨lw_p25, List.forall_mem_cons.mpr ⟨lw_p26, List.forall_mem_cons.mpr ⟨lw_p27, List.forall_mem_cons.mpr ⟨lw_p28, List.forall_mem_cons.mpr ⟨lw_p29, List.forall_mem_cons.mpr ⟨lw_p30, List.forall_mem_cons.mpr ⟨lw_p31, fun _ h => absurd h List.not_mem_nil⟩⟩⟩⟩⟩⟩⟩⟩⟩⟩⟩⟩⟩⟩⟩⟩
theorem lw_p32 : lw_okq (⟨"StillHouse$Run", "takeWater", "(I)I"⟩, 14) := ⟨⟨by decide +kernel, by decide +kernel⟩, List.mem_of_getElem? (i := 67) (by decide +kernel), List.mem_of_getElem? (i := 895) (by decide +kernel), List.mem_of_getElem? (i := 896) (by decide +kernel)⟩
theorem lw_p33 : lw_okq (⟨"StillHouse$Run", "addHeat", "(I)I"⟩, 14) := ⟨⟨by decide +kernel, by decide +kernel⟩, List.mem_of_getElem? (i := 67) (by decide +kernel), List.mem_of_getElem? (i := 899) (by decide +kernel), List.mem_of_getElem? (i := 900) (by decide +kernel)⟩
theorem lw_p34 : lw_okq (⟨"StillHouse$Run", "refuseWith", "(I)I"⟩, 14) := ⟨⟨by decide +kernel, by decide +kernel⟩, List.mem_of_getElem? (i := 67) (by decide +kernel), List.mem_of_getElem? (i := 903) (by decide +kernel), List.mem_of_getElem? (i := 904) (by decide +kernel)⟩
theorem lw_p35 : lw_okq (⟨"StillHouse", "sumOfVessels", "(Z)J"⟩, 10) := ⟨⟨by decide +kernel, by decide +kernel⟩, List.mem_of_getElem? (i := 25) (by decide +kernel), List.mem_of_getElem? (i := 927) (by decide +kernel), List.mem_of_getElem? (i := 928) (by decide +kernel)⟩
theorem lw_p36 : lw_okq (⟨"StillHouse", "sumOfEntries", "(II)J"⟩, 10) := ⟨⟨by decide +kernel, by decide +kernel⟩, List.mem_of_getElem? (i := 25) (by decide +kernel), List.mem_of_getElem? (i := 931) (by decide +kernel), List.mem_of_getElem? (i := 932) (by decide +kernel)⟩
theorem lw_p37 : lw_okq (⟨"StillHouseModel", "begin", "(Ljava/lang/String;I)V"⟩, 74) := ⟨⟨by decide +kernel, by decide +kernel⟩, List.mem_of_getElem? (i := 955) (by decide +kernel), List.mem_of_getElem? (i := 964) (by decide +kernel), List.mem_of_getElem? (i := 965) (by decide +kernel)⟩
theorem lw_p38 : lw_okq (⟨"StillHouseModel", "say", "(I)I"⟩, 74) := ⟨⟨by decide +kernel, by decide +kernel⟩, List.mem_of_getElem? (i := 955) (by decide +kernel), List.mem_of_getElem? (i := 968) (by decide +kernel), List.mem_of_getElem? (i := 969) (by decide +kernel)⟩
theorem lw_p39 : lw_okq (⟨"StillHouseModel", "action", "(II)I"⟩, 74) := ⟨⟨by decide +kernel, by decide +kernel⟩, List.mem_of_getElem? (i := 955) (by decide +kernel), List.mem_of_getElem? (i := 972) (by decide +kernel), List.mem_of_getElem? (i := 973) (by decide +kernel)⟩
theorem lw_p40 : lw_okq (⟨"StillHouseModel", "body", "(IIIZII)V"⟩, 74) := ⟨⟨by decide +kernel, by decide +kernel⟩, List.mem_of_getElem? (i := 955) (by decide +kernel), List.mem_of_getElem? (i := 976) (by decide +kernel), List.mem_of_getElem? (i := 977) (by decide +kernel)⟩
theorem lw_p41 : lw_okq (⟨"StillHouseModel", "two", "(II)I"⟩, 74) := ⟨⟨by decide +kernel, by decide +kernel⟩, List.mem_of_getElem? (i := 955) (by decide +kernel), List.mem_of_getElem? (i := 981) (by decide +kernel), List.mem_of_getElem? (i := 982) (by decide +kernel)⟩
theorem lw_p42 : lw_okq (⟨"StillHouseModel", "answer", "(I)I"⟩, 74) := ⟨⟨by decide +kernel, by decide +kernel⟩, List.mem_of_getElem? (i := 955) (by decide +kernel), List.mem_of_getElem? (i := 1215) (by decide +kernel), List.mem_of_getElem? (i := 1216) (by decide +kernel)⟩
theorem lw_p43 : lw_okq (⟨"StillHouseModel", "readPack", "()Z"⟩, 74) := ⟨⟨by decide +kernel, by decide +kernel⟩, List.mem_of_getElem? (i := 955) (by decide +kernel), List.mem_of_getElem? (i := 1223) (by decide +kernel), List.mem_of_getElem? (i := 1224) (by decide +kernel)⟩
theorem lw_p44 : lw_okq (⟨"StillHouseModel", "fails", "(I)Z"⟩, 74) := ⟨⟨by decide +kernel, by decide +kernel⟩, List.mem_of_getElem? (i := 955) (by decide +kernel), List.mem_of_getElem? (i := 1227) (by decide +kernel), List.mem_of_getElem? (i := 1228) (by decide +kernel)⟩
theorem lw_p45 : lw_okq (⟨"StillHouseModel", "word", "()V"⟩, 74) := ⟨⟨by decide +kernel, by decide +kernel⟩, List.mem_of_getElem? (i := 955) (by decide +kernel), List.mem_of_getElem? (i := 1231) (by decide +kernel), List.mem_of_getElem? (i := 1232) (by decide +kernel)⟩
theorem lw_p46 : lw_okq (⟨"StillHouseModel", "byteAt", "(I)I"⟩, 74) := ⟨⟨by decide +kernel, by decide +kernel⟩, List.mem_of_getElem? (i := 955) (by decide +kernel), List.mem_of_getElem? (i := 1235) (by decide +kernel), List.mem_of_getElem? (i := 1236) (by decide +kernel)⟩
theorem lw_p47 : lw_okq (⟨"StillHouseModel", "take", "(Ljava/lang/String;)Z"⟩, 74) := ⟨⟨by decide +kernel, by decide +kernel⟩, List.mem_of_getElem? (i := 955) (by decide +kernel), List.mem_of_getElem? (i := 1246) (by decide +kernel), List.mem_of_getElem? (i := 1247) (by decide +kernel)⟩
def lw_privs_3 : List (MethodName × Nat) := [(⟨"StillHouse$Run", "takeWater", "(I)I"⟩, 14), (⟨"StillHouse$Run", "addHeat", "(I)I"⟩, 14), (⟨"StillHouse$Run", "refuseWith", "(I)I"⟩, 14), (⟨"StillHouse", "sumOfVessels", "(Z)J"⟩, 10), (⟨"StillHouse", "sumOfEntries", "(II)J"⟩, 10), (⟨"StillHouseModel", "begin", "(Ljava/lang/String;I)V"⟩, 74), (⟨"StillHouseModel", "say", "(I)I"⟩, 74), (⟨"StillHouseModel", "action", "(II)I"⟩, 74), (⟨"StillHouseModel", "body", "(IIIZII)V"⟩, 74), (⟨"StillHouseModel", "two", "(II)I"⟩, 74), (⟨"StillHouseModel", "answer", "(I)I"⟩, 74), (⟨"StillHouseModel", "readPack", "()Z"⟩, 74), (⟨"StillHouseModel", "fails", "(I)Z"⟩, 74), (⟨"StillHouseModel", "word", "()V"⟩, 74), (⟨"StillHouseModel", "byteAt", "(I)I"⟩, 74), (⟨"StillHouseModel", "take", "(Ljava/lang/String;)Z"⟩, 74)]
theorem lw_r3 : ∀ q ∈ lw_privs_3, lw_okq q := List.forall_mem_cons.mpr ⟨lw_p32, List.forall_mem_cons.mpr ⟨lw_p33, List.forall_mem_cons.mpr ⟨lw_p34, List.forall_mem_cons.mpr ⟨lw_p35, List.forall_mem_cons.mpr ⟨lw_p36, List.forall_mem_cons.mpr ⟨lw_p37, List.forall_mem_cons.mpr ⟨lw_p38, List.forall_mem_cons.mpr ⟨lw_p39, List.forall_mem_cons.mpr ⟨lw_p40, List.forall_mem_cons.mpr ⟨lw_p41, List.forall_mem_cons.mpr ⟨lw_p42, List.forall_mem_cons.mpr ⟨lw_p43, List.forall_mem_cons.mpr ⟨lw_p44, List.forall_mem_cons.mpr ⟨lw_p45, List.forall_mem_cons.mpr ⟨lw_p46, List.forall_mem_cons.mpr ⟨lw_p47, fun _ h => absurd h List.not_mem_nil⟩⟩⟩⟩⟩⟩⟩⟩⟩⟩⟩⟩⟩⟩⟩⟩
theorem lw_p48 : lw_okq (⟨"StillHouseModel", "is", "(Ljava/lang/String;)Z"⟩, 74) := ⟨⟨by decide +kernel, by decide +kernel⟩, List.mem_of_getElem? (i := 955) (by decide +kernel), List.mem_of_getElem? (i := 1250) (by decide +kernel), List.mem_of_getElem? (i := 1251) (by decide +kernel)⟩
theorem lw_p49 : lw_okq (⟨"StillHouseModel", "isName", "()Z"⟩, 74) := ⟨⟨by decide +kernel, by decide +kernel⟩, List.mem_of_getElem? (i := 955) (by decide +kernel), List.mem_of_getElem? (i := 1256) (by decide +kernel), List.mem_of_getElem? (i := 1257) (by decide +kernel)⟩
theorem lw_p50 : lw_okq (⟨"StillHouseModel", "told", "()Ljava/lang/String;"⟩, 74) := ⟨⟨by decide +kernel, by decide +kernel⟩, List.mem_of_getElem? (i := 955) (by decide +kernel), List.mem_of_getElem? (i := 1389) (by decide +kernel), List.mem_of_getElem? (i := 1390) (by decide +kernel)⟩
theorem lw_p51 : lw_okq (⟨"StillHouseModel", "with", "(Ljava/lang/String;)V"⟩, 74) := ⟨⟨by decide +kernel, by decide +kernel⟩, List.mem_of_getElem? (i := 955) (by decide +kernel), List.mem_of_getElem? (i := 1486) (by decide +kernel), List.mem_of_getElem? (i := 1487) (by decide +kernel)⟩
theorem lw_p52 : lw_okq (⟨"StillHouseModel", "faulty", "(II)V"⟩, 74) := ⟨⟨by decide +kernel, by decide +kernel⟩, List.mem_of_getElem? (i := 955) (by decide +kernel), List.mem_of_getElem? (i := 1499) (by decide +kernel), List.mem_of_getElem? (i := 1500) (by decide +kernel)⟩
theorem lw_p53 : lw_okq (⟨"StillHouseModel", "readKind", "()Z"⟩, 74) := ⟨⟨by decide +kernel, by decide +kernel⟩, List.mem_of_getElem? (i := 955) (by decide +kernel), List.mem_of_getElem? (i := 1507) (by decide +kernel), List.mem_of_getElem? (i := 1508) (by decide +kernel)⟩
theorem lw_p54 : lw_okq (⟨"StillHouseModel", "kindOf", "(Ljava/lang/String;I)I"⟩, 74) := ⟨⟨by decide +kernel, by decide +kernel⟩, List.mem_of_getElem? (i := 955) (by decide +kernel), List.mem_of_getElem? (i := 1512) (by decide +kernel), List.mem_of_getElem? (i := 1513) (by decide +kernel)⟩
theorem lw_p55 : lw_okq (⟨"StillHouseModel", "readBody", "(I)Z"⟩, 74) := ⟨⟨by decide +kernel, by decide +kernel⟩, List.mem_of_getElem? (i := 955) (by decide +kernel), List.mem_of_getElem? (i := 1518) (by decide +kernel), List.mem_of_getElem? (i := 1519) (by decide +kernel)⟩
theorem lw_p56 : lw_okq (⟨"StillHouseModel", "hook", "()I"⟩, 74) := ⟨⟨by decide +kernel, by decide +kernel⟩, List.mem_of_getElem? (i := 955) (by decide +kernel), List.mem_of_getElem? (i := 1525) (by decide +kernel), List.mem_of_getElem? (i := 1526) (by decide +kernel)⟩
theorem lw_p57 : lw_okq (⟨"StillHouseModel", "hasBody", "(II)Z"⟩, 74) := ⟨⟨by decide +kernel, by decide +kernel⟩, List.mem_of_getElem? (i := 955) (by decide +kernel), List.mem_of_getElem? (i := 1535) (by decide +kernel), List.mem_of_getElem? (i := 1536) (by decide +kernel)⟩
theorem lw_p58 : lw_okq (⟨"StillHouseModel", "readActions", "(III)I"⟩, 74) := ⟨⟨by decide +kernel, by decide +kernel⟩, List.mem_of_getElem? (i := 955) (by decide +kernel), List.mem_of_getElem? (i := 1539) (by decide +kernel), List.mem_of_getElem? (i := 1540) (by decide +kernel)⟩
theorem lw_p59 : lw_okq (⟨"StillHouseModel", "readAction", "(III)I"⟩, 74) := ⟨⟨by decide +kernel, by decide +kernel⟩, List.mem_of_getElem? (i := 955) (by decide +kernel), List.mem_of_getElem? (i := 1543) (by decide +kernel), List.mem_of_getElem? (i := 1544) (by decide +kernel)⟩
theorem lw_p60 : lw_okq (⟨"StillHouseModel", "op", "()I"⟩, 74) := ⟨⟨by decide +kernel, by decide +kernel⟩, List.mem_of_getElem? (i := 955) (by decide +kernel), List.mem_of_getElem? (i := 1547) (by decide +kernel), List.mem_of_getElem? (i := 1548) (by decide +kernel)⟩
theorem lw_p61 : lw_okq (⟨"StillHouseModel", "use", "(IIII)V"⟩, 74) := ⟨⟨by decide +kernel, by decide +kernel⟩, List.mem_of_getElem? (i := 955) (by decide +kernel), List.mem_of_getElem? (i := 1561) (by decide +kernel), List.mem_of_getElem? (i := 1562) (by decide +kernel)⟩
theorem lw_p62 : lw_okq (⟨"StillHouseModel", "readNumber", "(I)Z"⟩, 74) := ⟨⟨by decide +kernel, by decide +kernel⟩, List.mem_of_getElem? (i := 955) (by decide +kernel), List.mem_of_getElem? (i := 1565) (by decide +kernel), List.mem_of_getElem? (i := 1566) (by decide +kernel)⟩
theorem lw_p63 : lw_okq (⟨"StillHouseModel", "readParts", "(IIII)Z"⟩, 74) := ⟨⟨by decide +kernel, by decide +kernel⟩, List.mem_of_getElem? (i := 955) (by decide +kernel), List.mem_of_getElem? (i := 1570) (by decide +kernel), List.mem_of_getElem? (i := 1571) (by decide +kernel)⟩
def lw_privs_4 : List (MethodName × Nat) := [(⟨"StillHouseModel", "is", "(Ljava/lang/String;)Z"⟩, 74), (⟨"StillHouseModel", "isName", "()Z"⟩, 74), (⟨"StillHouseModel", "told", "()Ljava/lang/String;"⟩, 74), (⟨"StillHouseModel", "with", "(Ljava/lang/String;)V"⟩, 74), (⟨"StillHouseModel", "faulty", "(II)V"⟩, 74), (⟨"StillHouseModel", "readKind", "()Z"⟩, 74), (⟨"StillHouseModel", "kindOf", "(Ljava/lang/String;I)I"⟩, 74), (⟨"StillHouseModel", "readBody", "(I)Z"⟩, 74), (⟨"StillHouseModel", "hook", "()I"⟩, 74), (⟨"StillHouseModel", "hasBody", "(II)Z"⟩, 74), (⟨"StillHouseModel", "readActions", "(III)I"⟩, 74), (⟨"StillHouseModel", "readAction", "(III)I"⟩, 74), (⟨"StillHouseModel", "op", "()I"⟩, 74), (⟨"StillHouseModel", "use", "(IIII)V"⟩, 74), (⟨"StillHouseModel", "readNumber", "(I)Z"⟩, 74), (⟨"StillHouseModel", "readParts", "(IIII)Z"⟩, 74)]
theorem lw_r4 : ∀ q ∈ lw_privs_4, lw_okq q := List.forall_mem_cons.mpr ⟨lw_p48, List.forall_mem_cons.mpr ⟨lw_p49, List.forall_mem_cons.mpr ⟨lw_p50, List.forall_mem_cons.mpr ⟨lw_p51, List.forall_mem_cons.mpr ⟨lw_p52, List.forall_mem_cons.mpr ⟨lw_p53, List.forall_mem_cons.mpr ⟨lw_p54, List.forall_mem_cons.mpr ⟨lw_p55, List.forall_mem_cons.mpr ⟨lw_p56, List.forall_mem_cons.mpr ⟨lw_p57, List.forall_mem_cons.mpr ⟨lw_p58, List.forall_mem_cons.mpr ⟨lw_p59, List.forall_mem_cons.mpr ⟨lw_p60, List.forall_mem_cons.mpr ⟨lw_p61, List.forall_mem_cons.mpr ⟨lw_p62, List.forall_mem_cons.mpr ⟨lw_p63, fun _ h => absurd h List.not_mem_nil⟩⟩⟩⟩⟩⟩⟩⟩⟩⟩⟩⟩⟩⟩⟩⟩
theorem lw_p64 : lw_okq (⟨"StillHouseModel", "judge", "()V"⟩, 74) := ⟨⟨by decide +kernel, by decide +kernel⟩, List.mem_of_getElem? (i := 955) (by decide +kernel), List.mem_of_getElem? (i := 1577) (by decide +kernel), List.mem_of_getElem? (i := 1578) (by decide +kernel)⟩
theorem lw_p65 : lw_okq (⟨"StillHouseModel", "judgeBody", "(III)V"⟩, 74) := ⟨⟨by decide +kernel, by decide +kernel⟩, List.mem_of_getElem? (i := 955) (by decide +kernel), List.mem_of_getElem? (i := 1581) (by decide +kernel), List.mem_of_getElem? (i := 1582) (by decide +kernel)⟩
theorem lw_p66 : lw_okq (⟨"StillHouseModel", "isOver", "(III)Z"⟩, 74) := ⟨⟨by decide +kernel, by decide +kernel⟩, List.mem_of_getElem? (i := 955) (by decide +kernel), List.mem_of_getElem? (i := 1585) (by decide +kernel), List.mem_of_getElem? (i := 1586) (by decide +kernel)⟩
theorem lw_p67 : lw_okq (⟨"StillHouseModel", "isUnder", "(II)Z"⟩, 74) := ⟨⟨by decide +kernel, by decide +kernel⟩, List.mem_of_getElem? (i := 955) (by decide +kernel), List.mem_of_getElem? (i := 1589) (by decide +kernel), List.mem_of_getElem? (i := 1590) (by decide +kernel)⟩
theorem lw_p68 : lw_okq (⟨"StillHouseModel", "maySee", "(III)Z"⟩, 74) := ⟨⟨by decide +kernel, by decide +kernel⟩, List.mem_of_getElem? (i := 955) (by decide +kernel), List.mem_of_getElem? (i := 1593) (by decide +kernel), List.mem_of_getElem? (i := 1594) (by decide +kernel)⟩
theorem lw_p69 : lw_okq (⟨"StillHouseModel", "find", "(III)I"⟩, 74) := ⟨⟨by decide +kernel, by decide +kernel⟩, List.mem_of_getElem? (i := 955) (by decide +kernel), List.mem_of_getElem? (i := 1597) (by decide +kernel), List.mem_of_getElem? (i := 1598) (by decide +kernel)⟩
theorem lw_p70 : lw_okq (⟨"StillHouseModel", "isKind", "(I)Z"⟩, 74) := ⟨⟨by decide +kernel, by decide +kernel⟩, List.mem_of_getElem? (i := 955) (by decide +kernel), List.mem_of_getElem? (i := 1613) (by decide +kernel), List.mem_of_getElem? (i := 1614) (by decide +kernel)⟩
theorem lw_p71 : lw_okq (⟨"StillHouseModel", "choose", "(III)I"⟩, 74) := ⟨⟨by decide +kernel, by decide +kernel⟩, List.mem_of_getElem? (i := 955) (by decide +kernel), List.mem_of_getElem? (i := 1632) (by decide +kernel), List.mem_of_getElem? (i := 1633) (by decide +kernel)⟩
theorem lw_p72 : lw_okq (⟨"StillHouseModel", "isApp", "(I)Z"⟩, 74) := ⟨⟨by decide +kernel, by decide +kernel⟩, List.mem_of_getElem? (i := 955) (by decide +kernel), List.mem_of_getElem? (i := 1652) (by decide +kernel), List.mem_of_getElem? (i := 1653) (by decide +kernel)⟩
theorem lw_p73 : lw_okq (⟨"StillHouseModel", "isRoom", "(IJJ)Z"⟩, 74) := ⟨⟨by decide +kernel, by decide +kernel⟩, List.mem_of_getElem? (i := 955) (by decide +kernel), List.mem_of_getElem? (i := 1657) (by decide +kernel), List.mem_of_getElem? (i := 1658) (by decide +kernel)⟩
theorem lw_p74 : lw_okq (⟨"StillHouseModel", "remember", "(IIII)V"⟩, 74) := ⟨⟨by decide +kernel, by decide +kernel⟩, List.mem_of_getElem? (i := 955) (by decide +kernel), List.mem_of_getElem? (i := 1662) (by decide +kernel), List.mem_of_getElem? (i := 1663) (by decide +kernel)⟩
theorem lw_p75 : lw_okq (⟨"StillHouseModel", "runHook", "(I)I"⟩, 74) := ⟨⟨by decide +kernel, by decide +kernel⟩, List.mem_of_getElem? (i := 955) (by decide +kernel), List.mem_of_getElem? (i := 1674) (by decide +kernel), List.mem_of_getElem? (i := 1675) (by decide +kernel)⟩
theorem lw_p76 : lw_okq (⟨"StillHouseModel", "runBody", "(II)I"⟩, 74) := ⟨⟨by decide +kernel, by decide +kernel⟩, List.mem_of_getElem? (i := 955) (by decide +kernel), List.mem_of_getElem? (i := 1678) (by decide +kernel), List.mem_of_getElem? (i := 1679) (by decide +kernel)⟩
theorem lw_p77 : lw_okq (⟨"StillHouseModel", "runAll", "(III)I"⟩, 74) := ⟨⟨by decide +kernel, by decide +kernel⟩, List.mem_of_getElem? (i := 955) (by decide +kernel), List.mem_of_getElem? (i := 1682) (by decide +kernel), List.mem_of_getElem? (i := 1683) (by decide +kernel)⟩
theorem lw_p78 : lw_okq (⟨"StillHouseModel", "run", "(III)I"⟩, 74) := ⟨⟨by decide +kernel, by decide +kernel⟩, List.mem_of_getElem? (i := 955) (by decide +kernel), List.mem_of_getElem? (i := 1686) (by decide +kernel), List.mem_of_getElem? (i := 1687) (by decide +kernel)⟩
theorem lw_p79 : lw_okq (⟨"StillHouseModel", "runMatter", "(II)I"⟩, 74) := ⟨⟨by decide +kernel, by decide +kernel⟩, List.mem_of_getElem? (i := 955) (by decide +kernel), List.mem_of_getElem? (i := 1690) (by decide +kernel), List.mem_of_getElem? (i := 1691) (by decide +kernel)⟩
def lw_privs_5 : List (MethodName × Nat) := [(⟨"StillHouseModel", "judge", "()V"⟩, 74), (⟨"StillHouseModel", "judgeBody", "(III)V"⟩, 74), (⟨"StillHouseModel", "isOver", "(III)Z"⟩, 74), (⟨"StillHouseModel", "isUnder", "(II)Z"⟩, 74), (⟨"StillHouseModel", "maySee", "(III)Z"⟩, 74), (⟨"StillHouseModel", "find", "(III)I"⟩, 74), (⟨"StillHouseModel", "isKind", "(I)Z"⟩, 74), (⟨"StillHouseModel", "choose", "(III)I"⟩, 74), (⟨"StillHouseModel", "isApp", "(I)Z"⟩, 74), (⟨"StillHouseModel", "isRoom", "(IJJ)Z"⟩, 74), (⟨"StillHouseModel", "remember", "(IIII)V"⟩, 74), (⟨"StillHouseModel", "runHook", "(I)I"⟩, 74), (⟨"StillHouseModel", "runBody", "(II)I"⟩, 74), (⟨"StillHouseModel", "runAll", "(III)I"⟩, 74), (⟨"StillHouseModel", "run", "(III)I"⟩, 74), (⟨"StillHouseModel", "runMatter", "(II)I"⟩, 74)]
theorem lw_r5 : ∀ q ∈ lw_privs_5, lw_okq q := List.forall_mem_cons.mpr ⟨lw_p64, List.forall_mem_cons.mpr ⟨lw_p65, List.forall_mem_cons.mpr ⟨lw_p66, List.forall_mem_cons.mpr ⟨lw_p67, List.forall_mem_cons.mpr ⟨lw_p68, List.forall_mem_cons.mpr ⟨lw_p69, List.forall_mem_cons.mpr ⟨lw_p70, List.forall_mem_cons.mpr ⟨lw_p71, List.forall_mem_cons.mpr ⟨lw_p72, List.forall_mem_cons.mpr ⟨lw_p73, List.forall_mem_cons.mpr ⟨lw_p74, List.forall_mem_cons.mpr ⟨lw_p75, List.forall_mem_cons.mpr ⟨lw_p76, List.forall_mem_cons.mpr ⟨lw_p77, List.forall_mem_cons.mpr ⟨lw_p78, List.forall_mem_cons.mpr ⟨lw_p79, fun _ h => absurd h List.not_mem_nil⟩⟩⟩⟩⟩⟩⟩⟩⟩⟩⟩⟩⟩⟩⟩⟩
theorem lw_p80 : lw_okq (⟨"StillHouseModel", "fails", "(II)I"⟩, 74) := ⟨⟨by decide +kernel, by decide +kernel⟩, List.mem_of_getElem? (i := 955) (by decide +kernel), List.mem_of_getElem? (i := 1694) (by decide +kernel), List.mem_of_getElem? (i := 1695) (by decide +kernel)⟩
theorem lw_p81 : lw_okq (⟨"StillHouseModel", "restore", "()V"⟩, 74) := ⟨⟨by decide +kernel, by decide +kernel⟩, List.mem_of_getElem? (i := 955) (by decide +kernel), List.mem_of_getElem? (i := 1698) (by decide +kernel), List.mem_of_getElem? (i := 1699) (by decide +kernel)⟩
def lw_privs_6 : List (MethodName × Nat) := [(⟨"StillHouseModel", "fails", "(II)I"⟩, 74), (⟨"StillHouseModel", "restore", "()V"⟩, 74)]
theorem lw_r6 : ∀ q ∈ lw_privs_6, lw_okq q := List.forall_mem_cons.mpr ⟨lw_p80, List.forall_mem_cons.mpr ⟨lw_p81, fun _ h => absurd h List.not_mem_nil⟩⟩
def lw_privs : List (MethodName × Nat) := lw_privs_1 ++ (lw_privs_2 ++ (lw_privs_3 ++ (lw_privs_4 ++ (lw_privs_5 ++ (lw_privs_6)))))
def lw_tbl : List Cond := k2_sels lw_privs ++ tables_1
theorem lw_privs_ok : ∀ q ∈ lw_privs, lw_okq q := by
  show ∀ q ∈ lw_privs_1 ++ (lw_privs_2 ++ (lw_privs_3 ++ (lw_privs_4 ++ (lw_privs_5 ++ (lw_privs_6))))), lw_okq q
  exact List.forall_mem_append.mpr ⟨lw_r1, List.forall_mem_append.mpr ⟨lw_r2, List.forall_mem_append.mpr ⟨lw_r3, List.forall_mem_append.mpr ⟨lw_r4, List.forall_mem_append.mpr ⟨lw_r5, lw_r6⟩⟩⟩⟩⟩
end
section
def RX0 : String := "StillHouse$Action"
def TX0 : u_T := fun k => match k with
  | 0 => ("StillHouse$Action", "what", "I", true)
  | 1 => ("StillHouse$Action", "place", "I", false)
  | 2 => ("StillHouse$Action", "number", "I", false)
  | 3 => ("StillHouse$Action", "inner", "LStillHouse$Action;", false)
  | 4 => ("StillHouse$Action", "other", "LStillHouse$Action;", false)
  | _ => ("StillHouse$Action", "next", "LStillHouse$Action;", false)
def tyX0 : Nat → FieldType := fun k => match k with
  | 0 => .int
  | 1 => .int
  | 2 => .int
  | 3 => .object "StillHouse$Action"
  | 4 => .object "StillHouse$Action"
  | _ => .object "StillHouse$Action"
abbrev wsX00 : List Cond := u_ws RX0 TX0 6
theorem nmX0 : ∀ a, a < 6 → ∀ b, b < 6 → a ≠ b → (TX0 a).2.1 ≠ (TX0 b).2.1 := by decide +kernel
theorem tyX0_ok : ∀ k, k < 6 → parseFieldDescriptor (TX0 k).2.2.1 = some (tyX0 k) := by decide +kernel
abbrev cX0_init : ByteArray := prog_2_method_1_code
def yX0_init : MethodName := ⟨RX0, "<init>", "(II)V"⟩
def RX1 : String := "StillHouse$Body"
def TX1 : u_T := fun k => match k with
  | 0 => ("StillHouse$Body", "kind", "LStillHouse$Kind;", true)
  | 1 => ("StillHouse$Body", "hook", "I", true)
  | 2 => ("StillHouse$Body", "right", "I", true)
  | 3 => ("StillHouse$Body", "last", "Z", true)
  | 4 => ("StillHouse$Body", "place", "I", true)
  | 5 => ("StillHouse$Body", "first", "LStillHouse$Action;", false)
  | 6 => ("StillHouse$Body", "actionCount", "I", false)
  | 7 => ("StillHouse$Body", "overridden", "J", false)
  | _ => ("StillHouse$Body", "next", "LStillHouse$Body;", false)
def tyX1 : Nat → FieldType := fun k => match k with
  | 0 => .object "StillHouse$Kind"
  | 1 => .int
  | 2 => .int
  | 3 => .boolean
  | 4 => .int
  | 5 => .object "StillHouse$Action"
  | 6 => .int
  | 7 => .long
  | _ => .object "StillHouse$Body"
abbrev wsX10 : List Cond := u_ws RX1 TX1 9
theorem nmX1 : ∀ a, a < 9 → ∀ b, b < 9 → a ≠ b → (TX1 a).2.1 ≠ (TX1 b).2.1 := by decide +kernel
theorem tyX1_ok : ∀ k, k < 9 → parseFieldDescriptor (TX1 k).2.2.1 = some (tyX1 k) := by decide +kernel
abbrev cX1_init : ByteArray := prog_3_method_1_code
def yX1_init : MethodName := ⟨RX1, "<init>", "(LStillHouse$Kind;IIZI)V"⟩
abbrev cX1_standsFor : ByteArray := prog_3_method_2_code
def yX1_standsFor : MethodName := ⟨RX1, "standsFor", "(LStillHouse$Kind;)Z"⟩
def RX2 : String := "StillHouse$Checker"
def TX2 : u_T := fun k => match k with
  | 0 => ("StillHouse$Checker", "fault", "I", false)
  | 1 => ("StillHouse$Checker", "place", "I", false)
  | 2 => ("StillHouse$Checker", "registry", "LStillHouse$Registry;", true)
  | _ => ("StillHouse$Checker", "pack", "LStillHouse$Pack;", true)
def tyX2 : Nat → FieldType := fun k => match k with
  | 0 => .int
  | 1 => .int
  | 2 => .object "StillHouse$Registry"
  | _ => .object "StillHouse$Pack"
abbrev wsX20 : List Cond := u_ws RX2 TX2 4
theorem nmX2 : ∀ a, a < 4 → ∀ b, b < 4 → a ≠ b → (TX2 a).2.1 ≠ (TX2 b).2.1 := by decide +kernel
theorem tyX2_ok : ∀ k, k < 4 → parseFieldDescriptor (TX2 k).2.2.1 = some (tyX2 k) := by decide +kernel
abbrev cX2_init : ByteArray := prog_4_method_1_code
def yX2_init : MethodName := ⟨RX2, "<init>", "(LStillHouse$Registry;LStillHouse$Pack;)V"⟩
abbrev cX2_checkPack : ByteArray := prog_4_method_2_code
def yX2_checkPack : MethodName := ⟨RX2, "checkPack", "()V"⟩
abbrev cX2_checkKind : ByteArray := prog_4_method_3_code
def yX2_checkKind : MethodName := ⟨RX2, "checkKind", "(LStillHouse$Kind;I)V"⟩
abbrev cX2_kindNamed : ByteArray := prog_4_method_4_code
def yX2_kindNamed : MethodName := ⟨RX2, "kindNamed", "(JI)LStillHouse$Kind;"⟩
abbrev cX2_checkBody : ByteArray := prog_4_method_5_code
def yX2_checkBody : MethodName := ⟨RX2, "checkBody", "(LStillHouse$Body;)V"⟩
abbrev cX2_checkActions : ByteArray := prog_4_method_6_code
def yX2_checkActions : MethodName := ⟨RX2, "checkActions", "(LStillHouse$Body;LStillHouse$Action;I)V"⟩
abbrev cX2_checkAction : ByteArray := prog_4_method_7_code
def yX2_checkAction : MethodName := ⟨RX2, "checkAction", "(LStillHouse$Body;LStillHouse$Action;)V"⟩
abbrev cX2_blame : ByteArray := prog_4_method_8_code
def yX2_blame : MethodName := ⟨RX2, "blame", "(II)V"⟩
def RX3 : String := "StillHouse$Entry"
def TX3 : u_T := fun k => match k with
  | 0 => ("StillHouse$Entry", "what", "I", true)
  | 1 => ("StillHouse$Entry", "vessel", "LStillHouse$Vessel;", true)
  | 2 => ("StillHouse$Entry", "taker", "LStillHouse$Vessel;", true)
  | 3 => ("StillHouse$Entry", "n", "I", true)
  | 4 => ("StillHouse$Entry", "waterIn", "I", true)
  | 5 => ("StillHouse$Entry", "waterOut", "I", true)
  | _ => ("StillHouse$Entry", "heatIn", "I", true)
def tyX3 : Nat → FieldType := fun k => match k with
  | 0 => .int
  | 1 => .object "StillHouse$Vessel"
  | 2 => .object "StillHouse$Vessel"
  | 3 => .int
  | 4 => .int
  | 5 => .int
  | _ => .int
abbrev wsX30 : List Cond := u_ws RX3 TX3 7
theorem nmX3 : ∀ a, a < 7 → ∀ b, b < 7 → a ≠ b → (TX3 a).2.1 ≠ (TX3 b).2.1 := by decide +kernel
theorem tyX3_ok : ∀ k, k < 7 → parseFieldDescriptor (TX3 k).2.2.1 = some (tyX3 k) := by decide +kernel
abbrev cX3_init : ByteArray := prog_5_method_1_code
def yX3_init : MethodName := ⟨RX3, "<init>", "(ILStillHouse$Vessel;LStillHouse$Vessel;IIII)V"⟩
abbrev cX3_partOf : ByteArray := prog_5_method_2_code
def yX3_partOf : MethodName := ⟨RX3, "partOf", "(I)I"⟩
abbrev cX3_takeBack : ByteArray := prog_5_method_3_code
def yX3_takeBack : MethodName := ⟨RX3, "takeBack", "()V"⟩
def RX4 : String := "StillHouse$Kind"
def TX4 : u_T := fun k => match k with
  | 0 => ("StillHouse$Kind", "name", "J", true)
  | 1 => ("StillHouse$Kind", "namePlace", "I", true)
  | 2 => ("StillHouse$Kind", "underName", "J", false)
  | 3 => ("StillHouse$Kind", "underPlace", "I", false)
  | 4 => ("StillHouse$Kind", "number", "I", false)
  | 5 => ("StillHouse$Kind", "above", "LStillHouse$Kind;", false)
  | 6 => ("StillHouse$Kind", "home", "I", false)
  | 7 => ("StillHouse$Kind", "pack", "I", false)
  | 8 => ("StillHouse$Kind", "depth", "I", false)
  | 9 => ("StillHouse$Kind", "firstRead", "LStillHouse$Body;", false)
  | 10 => ("StillHouse$Kind", "latestRead", "LStillHouse$Body;", false)
  | _ => ("StillHouse$Kind", "bodies", "[LStillHouse$Body;", true)
def tyX4 : Nat → FieldType := fun k => match k with
  | 0 => .long
  | 1 => .int
  | 2 => .long
  | 3 => .int
  | 4 => .int
  | 5 => .object "StillHouse$Kind"
  | 6 => .int
  | 7 => .int
  | 8 => .int
  | 9 => .object "StillHouse$Body"
  | 10 => .object "StillHouse$Body"
  | _ => .array (.object "StillHouse$Body")
abbrev wsX40 : List Cond := u_ws RX4 TX4 12
theorem nmX4 : ∀ a, a < 12 → ∀ b, b < 12 → a ≠ b → (TX4 a).2.1 ≠ (TX4 b).2.1 := by decide +kernel
theorem tyX4_ok : ∀ k, k < 12 → parseFieldDescriptor (TX4 k).2.2.1 = some (tyX4 k) := by decide +kernel
abbrev cX4_init : ByteArray := prog_6_method_1_code
def yX4_init : MethodName := ⟨RX4, "<init>", "(JI)V"⟩
abbrev cX4_give : ByteArray := prog_6_method_2_code
def yX4_give : MethodName := ⟨RX4, "give", "(LStillHouse$Body;)V"⟩
abbrev cX4_bodyOf : ByteArray := prog_6_method_3_code
def yX4_bodyOf : MethodName := ⟨RX4, "bodyOf", "(I)LStillHouse$Body;"⟩
abbrev cX4_hookBits : ByteArray := prog_6_method_4_code
def yX4_hookBits : MethodName := ⟨RX4, "hookBits", "()I"⟩
abbrev cX4_settle : ByteArray := prog_6_method_5_code
def yX4_settle : MethodName := ⟨RX4, "settle", "(ILStillHouse$Kind;II)V"⟩
abbrev cX4_overriddenOf : ByteArray := prog_6_method_6_code
def yX4_overriddenOf : MethodName := ⟨RX4, "overriddenOf", "(I)J"⟩
abbrev cX4_bit : ByteArray := prog_6_method_7_code
def yX4_bit : MethodName := ⟨RX4, "bit", "()J"⟩
abbrev cX4_maySee : ByteArray := prog_6_method_8_code
def yX4_maySee : MethodName := ⟨RX4, "maySee", "(LStillHouse$Body;)Z"⟩
abbrev cX4_resolve : ByteArray := prog_6_method_9_code
def yX4_resolve : MethodName := ⟨RX4, "resolve", "(ILStillHouse$Kind;)LStillHouse$Body;"⟩
abbrev cX4_choose : ByteArray := prog_6_method_10_code
def yX4_choose : MethodName := ⟨RX4, "choose", "(LStillHouse$Body;)LStillHouse$Body;"⟩
def RX5 : String := "StillHouse$Pack"
def TX5 : u_T := fun k => match k with
  | 0 => ("StillHouse$Pack", "name", "J", false)
  | 1 => ("StillHouse$Pack", "joins", "Z", false)
  | 2 => ("StillHouse$Pack", "withName", "J", false)
  | 3 => ("StillHouse$Pack", "withPlace", "I", false)
  | 4 => ("StillHouse$Pack", "home", "I", false)
  | 5 => ("StillHouse$Pack", "retired", "Z", false)
  | 6 => ("StillHouse$Pack", "kinds", "[LStillHouse$Kind;", true)
  | _ => ("StillHouse$Pack", "kindCount", "I", false)
def tyX5 : Nat → FieldType := fun k => match k with
  | 0 => .long
  | 1 => .boolean
  | 2 => .long
  | 3 => .int
  | 4 => .int
  | 5 => .boolean
  | 6 => .array (.object "StillHouse$Kind")
  | _ => .int
abbrev wsX50 : List Cond := u_ws RX5 TX5 8
theorem nmX5 : ∀ a, a < 8 → ∀ b, b < 8 → a ≠ b → (TX5 a).2.1 ≠ (TX5 b).2.1 := by decide +kernel
theorem tyX5_ok : ∀ k, k < 8 → parseFieldDescriptor (TX5 k).2.2.1 = some (tyX5 k) := by decide +kernel
abbrev cX5_init : ByteArray := prog_7_method_1_code
def yX5_init : MethodName := ⟨RX5, "<init>", "()V"⟩
abbrev cX5_add : ByteArray := prog_7_method_2_code
def yX5_add : MethodName := ⟨RX5, "add", "(LStillHouse$Kind;)V"⟩
def RX6 : String := "StillHouse$Reader"
def TX6 : u_T := fun k => match k with
  | 0 => ("StillHouse$Reader", "fault", "I", false)
  | _ => ("StillHouse$Reader", "now", "LStillHouse$Word;", false)
def tyX6 : Nat → FieldType := fun k => match k with
  | 0 => .int
  | _ => .object "StillHouse$Word"
abbrev wsX60 : List Cond := u_ws RX6 TX6 2
theorem nmX6 : ∀ a, a < 2 → ∀ b, b < 2 → a ≠ b → (TX6 a).2.1 ≠ (TX6 b).2.1 := by decide +kernel
theorem tyX6_ok : ∀ k, k < 2 → parseFieldDescriptor (TX6 k).2.2.1 = some (tyX6 k) := by decide +kernel
abbrev cX6_init : ByteArray := prog_8_method_1_code
def yX6_init : MethodName := ⟨RX6, "<init>", "()V"⟩
abbrev cX6_readPack : ByteArray := prog_8_method_2_code
def yX6_readPack : MethodName := ⟨RX6, "readPack", "([BI)LStillHouse$Pack;"⟩
abbrev cX6_readKind : ByteArray := prog_8_method_3_code
def yX6_readKind : MethodName := ⟨RX6, "readKind", "()LStillHouse$Kind;"⟩
abbrev cX6_readBody : ByteArray := prog_8_method_4_code
def yX6_readBody : MethodName := ⟨RX6, "readBody", "(LStillHouse$Kind;)V"⟩
abbrev cX6_readBlock : ByteArray := prog_8_method_5_code
def yX6_readBlock : MethodName := ⟨RX6, "readBlock", "(LStillHouse$Body;I)LStillHouse$Action;"⟩
abbrev cX6_readAction : ByteArray := prog_8_method_6_code
def yX6_readAction : MethodName := ⟨RX6, "readAction", "(LStillHouse$Body;I)LStillHouse$Action;"⟩
abbrev cX6_takeNumber : ByteArray := prog_8_method_7_code
def yX6_takeNumber : MethodName := ⟨RX6, "takeNumber", "()I"⟩
abbrev cX6_takeHook : ByteArray := prog_8_method_8_code
def yX6_takeHook : MethodName := ⟨RX6, "takeHook", "()I"⟩
abbrev cX6_beginsBody : ByteArray := prog_8_method_9_code
def yX6_beginsBody : MethodName := ⟨RX6, "beginsBody", "()Z"⟩
abbrev cX6_beginsAction : ByteArray := prog_8_method_10_code
def yX6_beginsAction : MethodName := ⟨RX6, "beginsAction", "()Z"⟩
abbrev cX6_sees : ByteArray := prog_8_method_11_code
def yX6_sees : MethodName := ⟨RX6, "sees", "(I)Z"⟩
abbrev cX6_seesFrom : ByteArray := prog_8_method_12_code
def yX6_seesFrom : MethodName := ⟨RX6, "seesFrom", "(II)Z"⟩
abbrev cX6_take : ByteArray := prog_8_method_13_code
def yX6_take : MethodName := ⟨RX6, "take", "(I)J"⟩
abbrev cX6_spoil : ByteArray := prog_8_method_14_code
def yX6_spoil : MethodName := ⟨RX6, "spoil", "()V"⟩
def RX7 : String := "StillHouse$Registry"
def TX7 : u_T := fun k => match k with
  | 0 => ("StillHouse$Registry", "kinds", "[LStillHouse$Kind;", true)
  | 1 => ("StillHouse$Registry", "kindCount", "I", false)
  | 2 => ("StillHouse$Registry", "packs", "[LStillHouse$Pack;", true)
  | 3 => ("StillHouse$Registry", "packCount", "I", false)
  | _ => ("StillHouse$Registry", "packages", "I", false)
def tyX7 : Nat → FieldType := fun k => match k with
  | 0 => .array (.object "StillHouse$Kind")
  | 1 => .int
  | 2 => .array (.object "StillHouse$Pack")
  | 3 => .int
  | _ => .int
abbrev wsX70 : List Cond := u_ws RX7 TX7 5
theorem nmX7 : ∀ a, a < 5 → ∀ b, b < 5 → a ≠ b → (TX7 a).2.1 ≠ (TX7 b).2.1 := by decide +kernel
theorem tyX7_ok : ∀ k, k < 5 → parseFieldDescriptor (TX7 k).2.2.1 = some (tyX7 k) := by decide +kernel
abbrev cX7_init : ByteArray := prog_9_method_1_code
def yX7_init : MethodName := ⟨RX7, "<init>", "()V"⟩
abbrev cX7_kindAt : ByteArray := prog_9_method_2_code
def yX7_kindAt : MethodName := ⟨RX7, "kindAt", "(I)LStillHouse$Kind;"⟩
abbrev cX7_packAt : ByteArray := prog_9_method_3_code
def yX7_packAt : MethodName := ⟨RX7, "packAt", "(I)LStillHouse$Pack;"⟩
abbrev cX7_kindNamed : ByteArray := prog_9_method_4_code
def yX7_kindNamed : MethodName := ⟨RX7, "kindNamed", "(J)LStillHouse$Kind;"⟩
abbrev cX7_homeNamed : ByteArray := prog_9_method_5_code
def yX7_homeNamed : MethodName := ⟨RX7, "homeNamed", "(J)I"⟩
abbrev cX7_hasRoomFor : ByteArray := prog_9_method_6_code
def yX7_hasRoomFor : MethodName := ⟨RX7, "hasRoomFor", "(LStillHouse$Pack;)Z"⟩
abbrev cX7_add : ByteArray := prog_9_method_7_code
def yX7_add : MethodName := ⟨RX7, "add", "(LStillHouse$Pack;)V"⟩
abbrev cX7_settle : ByteArray := prog_9_method_8_code
def yX7_settle : MethodName := ⟨RX7, "settle", "(LStillHouse$Kind;LStillHouse$Kind;II)V"⟩
abbrev cX7_append : ByteArray := prog_9_method_9_code
def yX7_append : MethodName := ⟨RX7, "append", "(LStillHouse$Kind;)V"⟩
def RX8 : String := "StillHouse$Run"
def TX8 : u_T := fun k => match k with
  | 0 => ("StillHouse$Run", "number", "I", false)
  | 1 => ("StillHouse$Run", "bodyCount", "I", false)
  | 2 => ("StillHouse$Run", "toldCount", "I", false)
  | 3 => ("StillHouse$Run", "ticks", "I", false)
  | 4 => ("StillHouse$Run", "added", "I", false)
  | 5 => ("StillHouse$Run", "taken", "I", false)
  | 6 => ("StillHouse$Run", "warmed", "I", false)
  | 7 => ("StillHouse$Run", "ranKind", "[I", true)
  | 8 => ("StillHouse$Run", "ranHook", "[I", true)
  | 9 => ("StillHouse$Run", "ranUnderWay", "[I", true)
  | 10 => ("StillHouse$Run", "told", "[I", true)
  | 11 => ("StillHouse$Run", "vessel", "LStillHouse$Vessel;", false)
  | 12 => ("StillHouse$Run", "a", "I", false)
  | _ => ("StillHouse$Run", "checking", "Z", false)
def tyX8 : Nat → FieldType := fun k => match k with
  | 0 => .int
  | 1 => .int
  | 2 => .int
  | 3 => .int
  | 4 => .int
  | 5 => .int
  | 6 => .int
  | 7 => .array .int
  | 8 => .array .int
  | 9 => .array .int
  | 10 => .array .int
  | 11 => .object "StillHouse$Vessel"
  | 12 => .int
  | _ => .boolean
abbrev wsX80 : List Cond := u_ws RX8 TX8 14
theorem nmX8 : ∀ a, a < 14 → ∀ b, b < 14 → a ≠ b → (TX8 a).2.1 ≠ (TX8 b).2.1 := by decide +kernel
theorem tyX8_ok : ∀ k, k < 14 → parseFieldDescriptor (TX8 k).2.2.1 = some (tyX8 k) := by decide +kernel
abbrev cX8_init : ByteArray := prog_10_method_1_code
def yX8_init : MethodName := ⟨RX8, "<init>", "()V"⟩
abbrev cX8_follow : ByteArray := prog_10_method_2_code
def yX8_follow : MethodName := ⟨RX8, "follow", "(LStillHouse$Kind;LStillHouse$Vessel;I)I"⟩
abbrev cX8_begin : ByteArray := prog_10_method_3_code
def yX8_begin : MethodName := ⟨RX8, "begin", "(LStillHouse$Vessel;I)V"⟩
abbrev cX8_runChosen : ByteArray := prog_10_method_4_code
def yX8_runChosen : MethodName := ⟨RX8, "runChosen", "(LStillHouse$Body;I)I"⟩
abbrev cX8_runBody : ByteArray := prog_10_method_5_code
def yX8_runBody : MethodName := ⟨RX8, "runBody", "(LStillHouse$Body;I)I"⟩
abbrev cX8_runActions : ByteArray := prog_10_method_6_code
def yX8_runActions : MethodName := ⟨RX8, "runActions", "(LStillHouse$Body;LStillHouse$Action;II)I"⟩
abbrev cX8_runAction : ByteArray := prog_10_method_7_code
def yX8_runAction : MethodName := ⟨RX8, "runAction", "(LStillHouse$Body;LStillHouse$Action;II)I"⟩
abbrev cX8_sayNumber : ByteArray := prog_10_method_8_code
def yX8_sayNumber : MethodName := ⟨RX8, "sayNumber", "(I)I"⟩
abbrev cX8_addWater : ByteArray := prog_10_method_9_code
def yX8_addWater : MethodName := ⟨RX8, "addWater", "(I)I"⟩
abbrev cX8_takeWater : ByteArray := prog_10_method_10_code
def yX8_takeWater : MethodName := ⟨RX8, "takeWater", "(I)I"⟩
abbrev cX8_addHeat : ByteArray := prog_10_method_11_code
def yX8_addHeat : MethodName := ⟨RX8, "addHeat", "(I)I"⟩
abbrev cX8_failWith : ByteArray := prog_10_method_12_code
def yX8_failWith : MethodName := ⟨RX8, "failWith", "(I)I"⟩
abbrev cX8_refuseWith : ByteArray := prog_10_method_13_code
def yX8_refuseWith : MethodName := ⟨RX8, "refuseWith", "(I)I"⟩
def RX9 : String := "StillHouse$Vessel"
def TX9 : u_T := fun k => match k with
  | 0 => ("StillHouse$Vessel", "number", "I", true)
  | 1 => ("StillHouse$Vessel", "kind", "LStillHouse$Kind;", true)
  | 2 => ("StillHouse$Vessel", "size", "I", true)
  | 3 => ("StillHouse$Vessel", "water", "I", false)
  | _ => ("StillHouse$Vessel", "heat", "I", false)
def tyX9 : Nat → FieldType := fun k => match k with
  | 0 => .int
  | 1 => .object "StillHouse$Kind"
  | 2 => .int
  | 3 => .int
  | _ => .int
abbrev wsX90 : List Cond := u_ws RX9 TX9 5
theorem nmX9 : ∀ a, a < 5 → ∀ b, b < 5 → a ≠ b → (TX9 a).2.1 ≠ (TX9 b).2.1 := by decide +kernel
theorem tyX9_ok : ∀ k, k < 5 → parseFieldDescriptor (TX9 k).2.2.1 = some (tyX9 k) := by decide +kernel
abbrev cX9_init : ByteArray := prog_11_method_1_code
def yX9_init : MethodName := ⟨RX9, "<init>", "(ILStillHouse$Kind;I)V"⟩
abbrev cX9_hasRoomFor : ByteArray := prog_11_method_2_code
def yX9_hasRoomFor : MethodName := ⟨RX9, "hasRoomFor", "(II)Z"⟩
abbrev cX9_heatOf : ByteArray := prog_11_method_3_code
def yX9_heatOf : MethodName := ⟨RX9, "heatOf", "(I)I"⟩
def RX10 : String := "StillHouse$Word"
def TX10 : u_T := fun k => match k with
  | 0 => ("StillHouse$Word", "what", "I", true)
  | 1 => ("StillHouse$Word", "place", "I", true)
  | 2 => ("StillHouse$Word", "size", "I", true)
  | 3 => ("StillHouse$Word", "value", "J", true)
  | _ => ("StillHouse$Word", "next", "LStillHouse$Word;", false)
def tyX10 : Nat → FieldType := fun k => match k with
  | 0 => .int
  | 1 => .int
  | 2 => .int
  | 3 => .long
  | _ => .object "StillHouse$Word"
abbrev wsX100 : List Cond := u_ws RX10 TX10 5
theorem nmX10 : ∀ a, a < 5 → ∀ b, b < 5 → a ≠ b → (TX10 a).2.1 ≠ (TX10 b).2.1 := by decide +kernel
theorem tyX10_ok : ∀ k, k < 5 → parseFieldDescriptor (TX10 k).2.2.1 = some (tyX10 k) := by decide +kernel
abbrev cX10_init : ByteArray := prog_12_method_1_code
def yX10_init : MethodName := ⟨RX10, "<init>", "(IIIJ)V"⟩
abbrev cX10_chainOf : ByteArray := prog_12_method_2_code
def yX10_chainOf : MethodName := ⟨RX10, "chainOf", "([BI)LStillHouse$Word;"⟩
abbrev cX10_behindBlanks : ByteArray := prog_12_method_3_code
def yX10_behindBlanks : MethodName := ⟨RX10, "behindBlanks", "([BII)I"⟩
abbrev cX10_wordAt : ByteArray := prog_12_method_4_code
def yX10_wordAt : MethodName := ⟨RX10, "wordAt", "([BII)LStillHouse$Word;"⟩
abbrev cX10_lettersAt : ByteArray := prog_12_method_5_code
def yX10_lettersAt : MethodName := ⟨RX10, "lettersAt", "([BII)LStillHouse$Word;"⟩
abbrev cX10_figuresAt : ByteArray := prog_12_method_6_code
def yX10_figuresAt : MethodName := ⟨RX10, "figuresAt", "([BII)LStillHouse$Word;"⟩
abbrev cX10_lettersAre : ByteArray := prog_12_method_7_code
def yX10_lettersAre : MethodName := ⟨RX10, "lettersAre", "([BII)I"⟩
abbrev cX10_rowOf : ByteArray := prog_12_method_8_code
def yX10_rowOf : MethodName := ⟨RX10, "rowOf", "(Ljava/lang/String;[BII)I"⟩
abbrev cX10_isRow : ByteArray := prog_12_method_9_code
def yX10_isRow : MethodName := ⟨RX10, "isRow", "(Ljava/lang/String;I[BII)Z"⟩
abbrev cX10_isLetter : ByteArray := prog_12_method_10_code
def yX10_isLetter : MethodName := ⟨RX10, "isLetter", "(I)Z"⟩
abbrev cX10_isFigure : ByteArray := prog_12_method_11_code
def yX10_isFigure : MethodName := ⟨RX10, "isFigure", "(I)Z"⟩
def RX11 : String := "StillHouse"
def TX11 : u_T := fun k => match k with
  | 0 => ("StillHouse", "tape", "[B", true)
  | 1 => ("StillHouse", "tapeLength", "I", false)
  | 2 => ("StillHouse", "faultPlace", "I", false)
  | 3 => ("StillHouse", "registry", "LStillHouse$Registry;", true)
  | 4 => ("StillHouse", "vessels", "[LStillHouse$Vessel;", true)
  | 5 => ("StillHouse", "vesselCount", "I", false)
  | 6 => ("StillHouse", "run", "LStillHouse$Run;", true)
  | 7 => ("StillHouse", "entries", "[LStillHouse$Entry;", true)
  | 8 => ("StillHouse", "entryCount", "I", false)
  | _ => ("StillHouse", "findings", "[I", true)
def tyX11 : Nat → FieldType := fun k => match k with
  | 0 => .array .byte
  | 1 => .int
  | 2 => .int
  | 3 => .object "StillHouse$Registry"
  | 4 => .array (.object "StillHouse$Vessel")
  | 5 => .int
  | 6 => .object "StillHouse$Run"
  | 7 => .array (.object "StillHouse$Entry")
  | 8 => .int
  | _ => .array .int
abbrev wsX110 : List Cond := u_ws RX11 TX11 10
theorem nmX11 : ∀ a, a < 10 → ∀ b, b < 10 → a ≠ b → (TX11 a).2.1 ≠ (TX11 b).2.1 := by decide +kernel
theorem tyX11_ok : ∀ k, k < 10 → parseFieldDescriptor (TX11 k).2.2.1 = some (tyX11 k) := by decide +kernel
abbrev cX11_init : ByteArray := prog_1_method_1_code
def yX11_init : MethodName := ⟨RX11, "<init>", "()V"⟩
abbrev cX11_feed : ByteArray := prog_1_method_2_code
def yX11_feed : MethodName := ⟨RX11, "feed", "(JI)I"⟩
abbrev cX11_pack : ByteArray := prog_1_method_3_code
def yX11_pack : MethodName := ⟨RX11, "pack", "()I"⟩
abbrev cX11_place : ByteArray := prog_1_method_4_code
def yX11_place : MethodName := ⟨RX11, "place", "()I"⟩
abbrev cX11_retire : ByteArray := prog_1_method_5_code
def yX11_retire : MethodName := ⟨RX11, "retire", "(I)I"⟩
abbrev cX11_kind : ByteArray := prog_1_method_6_code
def yX11_kind : MethodName := ⟨RX11, "kind", "(II)I"⟩
abbrev cX11_body : ByteArray := prog_1_method_7_code
def yX11_body : MethodName := ⟨RX11, "body", "(III)I"⟩
abbrev cX11_overrides : ByteArray := prog_1_method_8_code
def yX11_overrides : MethodName := ⟨RX11, "overrides", "(III)I"⟩
abbrev cX11_chosen : ByteArray := prog_1_method_9_code
def yX11_chosen : MethodName := ⟨RX11, "chosen", "(III)I"⟩
abbrev cX11_resolved : ByteArray := prog_1_method_10_code
def yX11_resolved : MethodName := ⟨RX11, "resolved", "(IIZ)I"⟩
abbrev cX11_count : ByteArray := prog_1_method_11_code
def yX11_count : MethodName := ⟨RX11, "count", "(I)I"⟩
abbrev cX11_make : ByteArray := prog_1_method_12_code
def yX11_make : MethodName := ⟨RX11, "make", "(II)I"⟩
abbrev cX11_charge : ByteArray := prog_1_method_13_code
def yX11_charge : MethodName := ⟨RX11, "charge", "(III)I"⟩
abbrev cX11_pour : ByteArray := prog_1_method_14_code
def yX11_pour : MethodName := ⟨RX11, "pour", "(III)I"⟩
abbrev cX11_act : ByteArray := prog_1_method_15_code
def yX11_act : MethodName := ⟨RX11, "act", "(II)I"⟩
abbrev cX11_outcome : ByteArray := prog_1_method_16_code
def yX11_outcome : MethodName := ⟨RX11, "outcome", "(I)I"⟩
abbrev cX11_ran : ByteArray := prog_1_method_17_code
def yX11_ran : MethodName := ⟨RX11, "ran", "(II)I"⟩
abbrev cX11_said : ByteArray := prog_1_method_18_code
def yX11_said : MethodName := ⟨RX11, "said", "(I)I"⟩
abbrev cX11_apparatus : ByteArray := prog_1_method_19_code
def yX11_apparatus : MethodName := ⟨RX11, "apparatus", "(II)I"⟩
abbrev cX11_all : ByteArray := prog_1_method_20_code
def yX11_all : MethodName := ⟨RX11, "all", "(I)J"⟩
abbrev cX11_record : ByteArray := prog_1_method_21_code
def yX11_record : MethodName := ⟨RX11, "record", "(II)I"⟩
abbrev cX11_undo : ByteArray := prog_1_method_22_code
def yX11_undo : MethodName := ⟨RX11, "undo", "()I"⟩
abbrev cX11_found : ByteArray := prog_1_method_23_code
def yX11_found : MethodName := ⟨RX11, "found", "(I)I"⟩
abbrev cX11_tell : ByteArray := prog_1_method_24_code
def yX11_tell : MethodName := ⟨RX11, "tell", "(I)I"⟩
abbrev cX11_enter : ByteArray := prog_1_method_25_code
def yX11_enter : MethodName := ⟨RX11, "enter", "(LStillHouse$Entry;)V"⟩
abbrev cX11_vesselAt : ByteArray := prog_1_method_26_code
def yX11_vesselAt : MethodName := ⟨RX11, "vesselAt", "(I)LStillHouse$Vessel;"⟩
abbrev cX11_sumOfVessels : ByteArray := prog_1_method_27_code
def yX11_sumOfVessels : MethodName := ⟨RX11, "sumOfVessels", "(Z)J"⟩
abbrev cX11_sumOfEntries : ByteArray := prog_1_method_28_code
def yX11_sumOfEntries : MethodName := ⟨RX11, "sumOfEntries", "(II)J"⟩
abbrev cX11_isHook : ByteArray := prog_1_method_29_code
def yX11_isHook : MethodName := ⟨RX11, "isHook", "(I)Z"⟩
abbrev cX11_rightOfHouse : ByteArray := prog_1_method_30_code
def yX11_rightOfHouse : MethodName := ⟨RX11, "rightOfHouse", "(I)I"⟩
abbrev cX11_addHouseAction : ByteArray := prog_1_method_31_code
def yX11_addHouseAction : MethodName := ⟨RX11, "addHouseAction", "(LStillHouse$Body;II)V"⟩
abbrev cX11_spell : ByteArray := prog_1_method_32_code
def yX11_spell : MethodName := ⟨RX11, "spell", "(Ljava/lang/String;)J"⟩
abbrev cX11_spelledOn : ByteArray := prog_1_method_33_code
def yX11_spelledOn : MethodName := ⟨RX11, "spelledOn", "(JI)J"⟩
def RX12 : String := "StillHouseModel"
def TX12 : u_T := fun k => match k with
  | 0 => ("StillHouseModel", "tape", "[B", true)
  | 1 => ("StillHouseModel", "taped", "I", false)
  | 2 => ("StillHouseModel", "founds", "[I", true)
  | 3 => ("StillHouseModel", "kinds", "I", false)
  | 4 => ("StillHouseModel", "name", "[Ljava/lang/String;", true)
  | 5 => ("StillHouseModel", "packageOf", "[I", true)
  | 6 => ("StillHouseModel", "above", "[I", true)
  | 7 => ("StillHouseModel", "packOf", "[I", true)
  | 8 => ("StillHouseModel", "has", "[Z", true)
  | 9 => ("StillHouseModel", "right", "[I", true)
  | 10 => ("StillHouseModel", "last", "[Z", true)
  | 11 => ("StillHouseModel", "first", "[I", true)
  | 12 => ("StillHouseModel", "many", "[I", true)
  | 13 => ("StillHouseModel", "actions", "I", false)
  | 14 => ("StillHouseModel", "what", "[I", true)
  | 15 => ("StillHouseModel", "number", "[I", true)
  | 16 => ("StillHouseModel", "then", "[I", true)
  | 17 => ("StillHouseModel", "other", "[I", true)
  | 18 => ("StillHouseModel", "next", "[I", true)
  | 19 => ("StillHouseModel", "packs", "I", false)
  | 20 => ("StillHouseModel", "packName", "[Ljava/lang/String;", true)
  | 21 => ("StillHouseModel", "packPackage", "[I", true)
  | 22 => ("StillHouseModel", "isRetired", "[Z", true)
  | 23 => ("StillHouseModel", "packages", "I", false)
  | 24 => ("StillHouseModel", "place", "I", false)
  | 25 => ("StillHouseModel", "isReached", "[Z", true)
  | 26 => ("StillHouseModel", "at", "I", false)
  | 27 => ("StillHouseModel", "wFrom", "I", false)
  | 28 => ("StillHouseModel", "wTo", "I", false)
  | 29 => ("StillHouseModel", "wKind", "I", false)
  | 30 => ("StillHouseModel", "isText", "Z", false)
  | 31 => ("StillHouseModel", "fault", "I", false)
  | 32 => ("StillHouseModel", "faultPlace", "I", false)
  | 33 => ("StillHouseModel", "itsName", "Ljava/lang/String;", false)
  | 34 => ("StillHouseModel", "itsPackage", "I", false)
  | 35 => ("StillHouseModel", "newKinds", "I", false)
  | 36 => ("StillHouseModel", "newAbove", "[I", true)
  | 37 => ("StillHouseModel", "bodies", "I", false)
  | 38 => ("StillHouseModel", "bKind", "[I", true)
  | 39 => ("StillHouseModel", "bHook", "[I", true)
  | 40 => ("StillHouseModel", "bPlace", "[I", true)
  | 41 => ("StillHouseModel", "uses", "I", false)
  | 42 => ("StillHouseModel", "uKind", "[I", true)
  | 43 => ("StillHouseModel", "uHook", "[I", true)
  | 44 => ("StillHouseModel", "uWhat", "[I", true)
  | 45 => ("StillHouseModel", "uCalled", "[I", true)
  | 46 => ("StillHouseModel", "uPlace", "[I", true)
  | 47 => ("StillHouseModel", "inBody", "I", false)
  | 48 => ("StillHouseModel", "apps", "I", false)
  | 49 => ("StillHouseModel", "appKind", "[I", true)
  | 50 => ("StillHouseModel", "appSize", "[I", true)
  | 51 => ("StillHouseModel", "water", "[I", true)
  | 52 => ("StillHouseModel", "heat", "[I", true)
  | 53 => ("StillHouseModel", "sums", "[J", true)
  | 54 => ("StillHouseModel", "records", "I", false)
  | 55 => ("StillHouseModel", "rWhat", "[I", true)
  | 56 => ("StillHouseModel", "rApp", "[I", true)
  | 57 => ("StillHouseModel", "rNumber", "[I", true)
  | 58 => ("StillHouseModel", "rOther", "[I", true)
  | 59 => ("StillHouseModel", "rWas", "[I", true)
  | 60 => ("StillHouseModel", "rSums", "[J", true)
  | 61 => ("StillHouseModel", "itsApp", "I", false)
  | 62 => ("StillHouseModel", "itsA", "I", false)
  | 63 => ("StillHouseModel", "isChecking", "Z", false)
  | 64 => ("StillHouseModel", "told", "I", false)
  | 65 => ("StillHouseModel", "underWay", "I", false)
  | 66 => ("StillHouseModel", "outcome", "I", false)
  | 67 => ("StillHouseModel", "ticks", "I", false)
  | 68 => ("StillHouseModel", "ran", "I", false)
  | 69 => ("StillHouseModel", "ranKind", "[I", true)
  | 70 => ("StillHouseModel", "ranHook", "[I", true)
  | 71 => ("StillHouseModel", "ranDeep", "[I", true)
  | 72 => ("StillHouseModel", "said", "I", false)
  | _ => ("StillHouseModel", "saidWhat", "[I", true)
def tyX12 : Nat → FieldType := fun k => match k with
  | 0 => .array .byte
  | 1 => .int
  | 2 => .array .int
  | 3 => .int
  | 4 => .array (.object "java/lang/String")
  | 5 => .array .int
  | 6 => .array .int
  | 7 => .array .int
  | 8 => .array .boolean
  | 9 => .array .int
  | 10 => .array .boolean
  | 11 => .array .int
  | 12 => .array .int
  | 13 => .int
  | 14 => .array .int
  | 15 => .array .int
  | 16 => .array .int
  | 17 => .array .int
  | 18 => .array .int
  | 19 => .int
  | 20 => .array (.object "java/lang/String")
  | 21 => .array .int
  | 22 => .array .boolean
  | 23 => .int
  | 24 => .int
  | 25 => .array .boolean
  | 26 => .int
  | 27 => .int
  | 28 => .int
  | 29 => .int
  | 30 => .boolean
  | 31 => .int
  | 32 => .int
  | 33 => .object "java/lang/String"
  | 34 => .int
  | 35 => .int
  | 36 => .array .int
  | 37 => .int
  | 38 => .array .int
  | 39 => .array .int
  | 40 => .array .int
  | 41 => .int
  | 42 => .array .int
  | 43 => .array .int
  | 44 => .array .int
  | 45 => .array .int
  | 46 => .array .int
  | 47 => .int
  | 48 => .int
  | 49 => .array .int
  | 50 => .array .int
  | 51 => .array .int
  | 52 => .array .int
  | 53 => .array .long
  | 54 => .int
  | 55 => .array .int
  | 56 => .array .int
  | 57 => .array .int
  | 58 => .array .int
  | 59 => .array .int
  | 60 => .array .long
  | 61 => .int
  | 62 => .int
  | 63 => .boolean
  | 64 => .int
  | 65 => .int
  | 66 => .int
  | 67 => .int
  | 68 => .int
  | 69 => .array .int
  | 70 => .array .int
  | 71 => .array .int
  | 72 => .int
  | _ => .array .int
abbrev wsX120 : List Cond := u_ws RX12 TX12 74
theorem nmX12 : ∀ a, a < 74 → ∀ b, b < 74 → a ≠ b → (TX12 a).2.1 ≠ (TX12 b).2.1 := by decide +kernel
theorem tyX12_ok : ∀ k, k < 74 → parseFieldDescriptor (TX12 k).2.2.1 = some (tyX12 k) := by decide +kernel
abbrev cX12_init : ByteArray := prog_14_method_1_code
def yX12_init : MethodName := ⟨RX12, "<init>", "()V"⟩
abbrev cX12_begin : ByteArray := prog_14_method_2_code
def yX12_begin : MethodName := ⟨RX12, "begin", "(Ljava/lang/String;I)V"⟩
abbrev cX12_body : ByteArray := prog_14_method_3_code
def yX12_body : MethodName := ⟨RX12, "body", "(IIIZII)V"⟩
abbrev cX12_action : ByteArray := prog_14_method_4_code
def yX12_action : MethodName := ⟨RX12, "action", "(II)I"⟩
abbrev cX12_say : ByteArray := prog_14_method_5_code
def yX12_say : MethodName := ⟨RX12, "say", "(I)I"⟩
abbrev cX12_two : ByteArray := prog_14_method_6_code
def yX12_two : MethodName := ⟨RX12, "two", "(II)I"⟩
abbrev cX12_answer : ByteArray := prog_14_method_7_code
def yX12_answer : MethodName := ⟨RX12, "answer", "(I)I"⟩
abbrev cX12_feed : ByteArray := prog_14_method_8_code
def yX12_feed : MethodName := ⟨RX12, "feed", "(JI)I"⟩
abbrev cX12_hasBody : ByteArray := prog_14_method_9_code
def yX12_hasBody : MethodName := ⟨RX12, "hasBody", "(II)Z"⟩
abbrev cX12_isUnder : ByteArray := prog_14_method_10_code
def yX12_isUnder : MethodName := ⟨RX12, "isUnder", "(II)Z"⟩
abbrev cX12_maySee : ByteArray := prog_14_method_11_code
def yX12_maySee : MethodName := ⟨RX12, "maySee", "(III)Z"⟩
abbrev cX12_isOver : ByteArray := prog_14_method_12_code
def yX12_isOver : MethodName := ⟨RX12, "isOver", "(III)Z"⟩
abbrev cX12_choose : ByteArray := prog_14_method_13_code
def yX12_choose : MethodName := ⟨RX12, "choose", "(III)I"⟩
abbrev cX12_find : ByteArray := prog_14_method_14_code
def yX12_find : MethodName := ⟨RX12, "find", "(III)I"⟩
abbrev cX12_byteAt : ByteArray := prog_14_method_15_code
def yX12_byteAt : MethodName := ⟨RX12, "byteAt", "(I)I"⟩
abbrev cX12_isLetter : ByteArray := prog_14_method_16_code
def yX12_isLetter : MethodName := ⟨RX12, "isLetter", "(I)Z"⟩
abbrev cX12_isFigure : ByteArray := prog_14_method_17_code
def yX12_isFigure : MethodName := ⟨RX12, "isFigure", "(I)Z"⟩
abbrev cX12_word : ByteArray := prog_14_method_18_code
def yX12_word : MethodName := ⟨RX12, "word", "()V"⟩
abbrev cX12_told : ByteArray := prog_14_method_19_code
def yX12_told : MethodName := ⟨RX12, "told", "()Ljava/lang/String;"⟩
abbrev cX12_is : ByteArray := prog_14_method_20_code
def yX12_is : MethodName := ⟨RX12, "is", "(Ljava/lang/String;)Z"⟩
abbrev cX12_isName : ByteArray := prog_14_method_21_code
def yX12_isName : MethodName := ⟨RX12, "isName", "()Z"⟩
abbrev cX12_hook : ByteArray := prog_14_method_22_code
def yX12_hook : MethodName := ⟨RX12, "hook", "()I"⟩
abbrev cX12_fails : ByteArray := prog_14_method_23_code
def yX12_fails : MethodName := ⟨RX12, "fails", "(I)Z"⟩
abbrev cX12_take : ByteArray := prog_14_method_24_code
def yX12_take : MethodName := ⟨RX12, "take", "(Ljava/lang/String;)Z"⟩
abbrev cX12_rank : ByteArray := prog_14_method_25_code
def yX12_rank : MethodName := ⟨RX12, "rank", "(I)I"⟩
abbrev cX12_faulty : ByteArray := prog_14_method_26_code
def yX12_faulty : MethodName := ⟨RX12, "faulty", "(II)V"⟩
abbrev cX12_kindOf : ByteArray := prog_14_method_27_code
def yX12_kindOf : MethodName := ⟨RX12, "kindOf", "(Ljava/lang/String;I)I"⟩
abbrev cX12_readPack : ByteArray := prog_14_method_28_code
def yX12_readPack : MethodName := ⟨RX12, "readPack", "()Z"⟩
abbrev cX12_with : ByteArray := prog_14_method_29_code
def yX12_with : MethodName := ⟨RX12, "with", "(Ljava/lang/String;)V"⟩
abbrev cX12_readKind : ByteArray := prog_14_method_30_code
def yX12_readKind : MethodName := ⟨RX12, "readKind", "()Z"⟩
abbrev cX12_readBody : ByteArray := prog_14_method_31_code
def yX12_readBody : MethodName := ⟨RX12, "readBody", "(I)Z"⟩
abbrev cX12_readActions : ByteArray := prog_14_method_32_code
def yX12_readActions : MethodName := ⟨RX12, "readActions", "(III)I"⟩
abbrev cX12_op : ByteArray := prog_14_method_33_code
def yX12_op : MethodName := ⟨RX12, "op", "()I"⟩
abbrev cX12_use : ByteArray := prog_14_method_34_code
def yX12_use : MethodName := ⟨RX12, "use", "(IIII)V"⟩
abbrev cX12_readAction : ByteArray := prog_14_method_35_code
def yX12_readAction : MethodName := ⟨RX12, "readAction", "(III)I"⟩
abbrev cX12_readNumber : ByteArray := prog_14_method_36_code
def yX12_readNumber : MethodName := ⟨RX12, "readNumber", "(I)Z"⟩
abbrev cX12_readParts : ByteArray := prog_14_method_37_code
def yX12_readParts : MethodName := ⟨RX12, "readParts", "(IIII)Z"⟩
abbrev cX12_judge : ByteArray := prog_14_method_38_code
def yX12_judge : MethodName := ⟨RX12, "judge", "()V"⟩
abbrev cX12_judgeBody : ByteArray := prog_14_method_39_code
def yX12_judgeBody : MethodName := ⟨RX12, "judgeBody", "(III)V"⟩
abbrev cX12_pack : ByteArray := prog_14_method_40_code
def yX12_pack : MethodName := ⟨RX12, "pack", "()I"⟩
abbrev cX12_place : ByteArray := prog_14_method_41_code
def yX12_place : MethodName := ⟨RX12, "place", "()I"⟩
abbrev cX12_retire : ByteArray := prog_14_method_42_code
def yX12_retire : MethodName := ⟨RX12, "retire", "(I)I"⟩
abbrev cX12_isKind : ByteArray := prog_14_method_43_code
def yX12_isKind : MethodName := ⟨RX12, "isKind", "(I)Z"⟩
abbrev cX12_isHook : ByteArray := prog_14_method_44_code
def yX12_isHook : MethodName := ⟨RX12, "isHook", "(I)Z"⟩
abbrev cX12_kind : ByteArray := prog_14_method_45_code
def yX12_kind : MethodName := ⟨RX12, "kind", "(II)I"⟩
abbrev cX12_body_ : ByteArray := prog_14_method_46_code
def yX12_body_ : MethodName := ⟨RX12, "body", "(III)I"⟩
abbrev cX12_overrides : ByteArray := prog_14_method_47_code
def yX12_overrides : MethodName := ⟨RX12, "overrides", "(III)I"⟩
abbrev cX12_chosen : ByteArray := prog_14_method_48_code
def yX12_chosen : MethodName := ⟨RX12, "chosen", "(III)I"⟩
abbrev cX12_resolved : ByteArray := prog_14_method_49_code
def yX12_resolved : MethodName := ⟨RX12, "resolved", "(IIZ)I"⟩
abbrev cX12_count : ByteArray := prog_14_method_50_code
def yX12_count : MethodName := ⟨RX12, "count", "(I)I"⟩
abbrev cX12_isApp : ByteArray := prog_14_method_51_code
def yX12_isApp : MethodName := ⟨RX12, "isApp", "(I)Z"⟩
abbrev cX12_make : ByteArray := prog_14_method_52_code
def yX12_make : MethodName := ⟨RX12, "make", "(II)I"⟩
abbrev cX12_remember : ByteArray := prog_14_method_53_code
def yX12_remember : MethodName := ⟨RX12, "remember", "(IIII)V"⟩
abbrev cX12_restore : ByteArray := prog_14_method_54_code
def yX12_restore : MethodName := ⟨RX12, "restore", "()V"⟩
abbrev cX12_isRoom : ByteArray := prog_14_method_55_code
def yX12_isRoom : MethodName := ⟨RX12, "isRoom", "(IJJ)Z"⟩
abbrev cX12_charge : ByteArray := prog_14_method_56_code
def yX12_charge : MethodName := ⟨RX12, "charge", "(III)I"⟩
abbrev cX12_pour : ByteArray := prog_14_method_57_code
def yX12_pour : MethodName := ⟨RX12, "pour", "(III)I"⟩
abbrev cX12_fails_ : ByteArray := prog_14_method_58_code
def yX12_fails_ : MethodName := ⟨RX12, "fails", "(II)I"⟩
abbrev cX12_runBody : ByteArray := prog_14_method_59_code
def yX12_runBody : MethodName := ⟨RX12, "runBody", "(II)I"⟩
abbrev cX12_runAll : ByteArray := prog_14_method_60_code
def yX12_runAll : MethodName := ⟨RX12, "runAll", "(III)I"⟩
abbrev cX12_run : ByteArray := prog_14_method_61_code
def yX12_run : MethodName := ⟨RX12, "run", "(III)I"⟩
abbrev cX12_runMatter : ByteArray := prog_14_method_62_code
def yX12_runMatter : MethodName := ⟨RX12, "runMatter", "(II)I"⟩
abbrev cX12_runHook : ByteArray := prog_14_method_63_code
def yX12_runHook : MethodName := ⟨RX12, "runHook", "(I)I"⟩
abbrev cX12_act : ByteArray := prog_14_method_64_code
def yX12_act : MethodName := ⟨RX12, "act", "(II)I"⟩
abbrev cX12_outcome : ByteArray := prog_14_method_65_code
def yX12_outcome : MethodName := ⟨RX12, "outcome", "(I)I"⟩
abbrev cX12_ran : ByteArray := prog_14_method_66_code
def yX12_ran : MethodName := ⟨RX12, "ran", "(II)I"⟩
abbrev cX12_said : ByteArray := prog_14_method_67_code
def yX12_said : MethodName := ⟨RX12, "said", "(I)I"⟩
abbrev cX12_apparatus : ByteArray := prog_14_method_68_code
def yX12_apparatus : MethodName := ⟨RX12, "apparatus", "(II)I"⟩
abbrev cX12_all : ByteArray := prog_14_method_69_code
def yX12_all : MethodName := ⟨RX12, "all", "(I)J"⟩
abbrev cX12_record : ByteArray := prog_14_method_70_code
def yX12_record : MethodName := ⟨RX12, "record", "(II)I"⟩
abbrev cX12_undo : ByteArray := prog_14_method_71_code
def yX12_undo : MethodName := ⟨RX12, "undo", "()I"⟩
abbrev cX12_found : ByteArray := prog_14_method_72_code
def yX12_found : MethodName := ⟨RX12, "found", "(I)I"⟩
def RJ5 : String := "java/lang/AbstractStringBuilder"
def TJ5 : u_T := fun k => match k with
  | _ => ("", "", "", false)
def tyJ5 : Nat → FieldType := fun k => match k with
  | _ => .int
abbrev wsJ50 : List Cond := u_ws RJ5 TJ5 0
theorem nmJ5 : ∀ a, a < 0 → ∀ b, b < 0 → a ≠ b → (TJ5 a).2.1 ≠ (TJ5 b).2.1 := by decide +kernel
theorem tyJ5_ok : ∀ k, k < 0 → parseFieldDescriptor (TJ5 k).2.2.1 = some (tyJ5 k) := by decide +kernel
abbrev cJ5_init_d00df : ByteArray := prog_15_method_2_code
def yJ5_init_d00df : MethodName := ⟨RJ5, "<init>", "(I)V"⟩
abbrev cJ5_length_8abf5 : ByteArray := prog_15_method_6_code
def yJ5_length_8abf5 : MethodName := ⟨RJ5, "length", "()I"⟩
abbrev cJ5_ensureCapacityInternal_d00df : ByteArray := prog_15_method_9_code
def yJ5_ensureCapacityInternal_d00df : MethodName := ⟨RJ5, "ensureCapacityInternal", "(I)V"⟩
abbrev cJ5_newCapacity_0f7a4 : ByteArray := prog_15_method_10_code
def yJ5_newCapacity_0f7a4 : MethodName := ⟨RJ5, "newCapacity", "(I)I"⟩
abbrev cJ5_inflate_da8c8 : ByteArray := prog_15_method_11_code
def yJ5_inflate_da8c8 : MethodName := ⟨RJ5, "inflate", "()V"⟩
abbrev cJ5_append_cf1ce : ByteArray := prog_15_method_22_code
def yJ5_append_cf1ce : MethodName := ⟨RJ5, "append", "(Ljava/lang/String;)Ljava/lang/AbstractStringBuilder;"⟩
abbrev cJ5_appendNull_278bc : ByteArray := prog_15_method_26_code
def yJ5_appendNull_278bc : MethodName := ⟨RJ5, "appendNull", "()Ljava/lang/AbstractStringBuilder;"⟩
abbrev cJ5_append_3fe6f : ByteArray := prog_15_method_31_code
def yJ5_append_3fe6f : MethodName := ⟨RJ5, "append", "(C)Ljava/lang/AbstractStringBuilder;"⟩
abbrev cJ5_getValue_6d5f1 : ByteArray := prog_15_method_64_code
def yJ5_getValue_6d5f1 : MethodName := ⟨RJ5, "getValue", "()[B"⟩
abbrev cJ5_isLatin1_aae02 : ByteArray := prog_15_method_68_code
def yJ5_isLatin1_aae02 : MethodName := ⟨RJ5, "isLatin1", "()Z"⟩
abbrev cJ5_inflateIfNeededFor_a7421 : ByteArray := prog_15_method_71_code
def yJ5_inflateIfNeededFor_a7421 : MethodName := ⟨RJ5, "inflateIfNeededFor", "(Ljava/lang/String;)V"⟩
abbrev cJ5_putStringAt_47b60 : ByteArray := prog_15_method_73_code
def yJ5_putStringAt_47b60 : MethodName := ⟨RJ5, "putStringAt", "(ILjava/lang/String;)V"⟩
def RJx8e188 : String := "java/lang/Cloneable"
def TJx8e188 : u_T := fun k => match k with
  | _ => ("", "", "", false)
def tyJx8e188 : Nat → FieldType := fun k => match k with
  | _ => .int
abbrev wsJx8e1880 : List Cond := u_ws RJx8e188 TJx8e188 0
theorem nmJx8e188 : ∀ a, a < 0 → ∀ b, b < 0 → a ≠ b → (TJx8e188 a).2.1 ≠ (TJx8e188 b).2.1 := by decide +kernel
theorem tyJx8e188_ok : ∀ k, k < 0 → parseFieldDescriptor (TJx8e188 k).2.2.1 = some (tyJx8e188 k) := by decide +kernel
def RJ9 : String := "java/lang/Math"
def TJ9 : u_T := fun k => match k with
  | _ => ("", "", "", false)
def tyJ9 : Nat → FieldType := fun k => match k with
  | _ => .int
abbrev wsJ90 : List Cond := u_ws RJ9 TJ9 0
theorem nmJ9 : ∀ a, a < 0 → ∀ b, b < 0 → a ≠ b → (TJ9 a).2.1 ≠ (TJ9 b).2.1 := by decide +kernel
theorem tyJ9_ok : ∀ k, k < 0 → parseFieldDescriptor (TJ9 k).2.2.1 = some (tyJ9 k) := by decide +kernel
abbrev cJ9_max_7cf53 : ByteArray := prog_17_method_65_code
def yJ9_max_7cf53 : MethodName := ⟨RJ9, "max", "(II)I"⟩
abbrev cJ9_min_7cf53 : ByteArray := prog_17_method_69_code
def yJ9_min_7cf53 : MethodName := ⟨RJ9, "min", "(II)I"⟩
def RJ0 : String := "java/lang/String"
def TJ0 : u_T := fun k => match k with
  | 0 => ("java/lang/String", "value", "[B", true)
  | 1 => ("java/lang/String", "coder", "B", true)
  | 2 => ("java/lang/String", "hash", "I", false)
  | _ => ("java/lang/String", "hashIsZero", "Z", false)
def tyJ0 : Nat → FieldType := fun k => match k with
  | 0 => .array .byte
  | 1 => .byte
  | 2 => .int
  | _ => .boolean
abbrev wsJ00 : List Cond := u_ws RJ0 TJ0 4
theorem nmJ0 : ∀ a, a < 4 → ∀ b, b < 4 → a ≠ b → (TJ0 a).2.1 ≠ (TJ0 b).2.1 := by decide +kernel
theorem tyJ0_ok : ∀ k, k < 4 → parseFieldDescriptor (TJ0 k).2.2.1 = some (tyJ0 k) := by decide +kernel
abbrev cJ0_init_81219 : ByteArray := prog_18_method_53_code
def yJ0_init_81219 : MethodName := ⟨RJ0, "<init>", "(Ljava/lang/StringBuilder;)V"⟩
abbrev cJ0_length_8abf5 : ByteArray := prog_18_method_54_code
def yJ0_length_8abf5 : MethodName := ⟨RJ0, "length", "()I"⟩
abbrev cJ0_charAt_5068e : ByteArray := prog_18_method_56_code
def yJ0_charAt_5068e : MethodName := ⟨RJ0, "charAt", "(I)C"⟩
abbrev cJ0_equals_9ea2d : ByteArray := prog_18_method_66_code
def yJ0_equals_9ea2d : MethodName := ⟨RJ0, "equals", "(Ljava/lang/Object;)Z"⟩
abbrev cJ0_indexOf_2f485 : ByteArray := prog_18_method_84_code
def yJ0_indexOf_2f485 : MethodName := ⟨RJ0, "indexOf", "(Ljava/lang/String;)I"⟩
abbrev cJ0_getBytes_840e7 : ByteArray := prog_18_method_147_code
def yJ0_getBytes_840e7 : MethodName := ⟨RJ0, "getBytes", "([BIB)V"⟩
abbrev cJ0_init_db425 : ByteArray := prog_18_method_150_code
def yJ0_init_db425 : MethodName := ⟨RJ0, "<init>", "(Ljava/lang/AbstractStringBuilder;Ljava/lang/Void;)V"⟩
abbrev cJ0_coder_7d493 : ByteArray := prog_18_method_152_code
def yJ0_coder_7d493 : MethodName := ⟨RJ0, "coder", "()B"⟩
abbrev cJ0_isLatin1_aae02 : ByteArray := prog_18_method_154_code
def yJ0_isLatin1_aae02 : MethodName := ⟨RJ0, "isLatin1", "()Z"⟩
abbrev cJ0_checkIndex_df160 : ByteArray := prog_18_method_155_code
def yJ0_checkIndex_df160 : MethodName := ⟨RJ0, "checkIndex", "(II)V"⟩
abbrev cJ0_checkBoundsOffCount_cabcc : ByteArray := prog_18_method_157_code
def yJ0_checkBoundsOffCount_cabcc : MethodName := ⟨RJ0, "checkBoundsOffCount", "(III)I"⟩
abbrev cJ0_checkBoundsBeginEnd_23922 : ByteArray := prog_18_method_158_code
def yJ0_checkBoundsBeginEnd_23922 : MethodName := ⟨RJ0, "checkBoundsBeginEnd", "(III)V"⟩
def RJ4 : String := "java/lang/StringBuilder"
def TJ4 : u_T := fun k => match k with
  | 0 => ("java/lang/AbstractStringBuilder", "value", "[B", false)
  | 1 => ("java/lang/AbstractStringBuilder", "coder", "B", false)
  | 2 => ("java/lang/AbstractStringBuilder", "maybeLatin1", "Z", false)
  | _ => ("java/lang/AbstractStringBuilder", "count", "I", false)
def tyJ4 : Nat → FieldType := fun k => match k with
  | 0 => .array .byte
  | 1 => .byte
  | 2 => .boolean
  | _ => .int
abbrev wsJ40 : List Cond := u_ws RJ4 TJ4 4
theorem nmJ4 : ∀ a, a < 4 → ∀ b, b < 4 → a ≠ b → (TJ4 a).2.1 ≠ (TJ4 b).2.1 := by decide +kernel
theorem tyJ4_ok : ∀ k, k < 4 → parseFieldDescriptor (TJ4 k).2.2.1 = some (tyJ4 k) := by decide +kernel
abbrev cJ4_init_da8c8 : ByteArray := prog_19_method_1_code
def yJ4_init_da8c8 : MethodName := ⟨RJ4, "<init>", "()V"⟩
abbrev cJ4_append_15ec4 : ByteArray := prog_19_method_7_code
def yJ4_append_15ec4 : MethodName := ⟨RJ4, "append", "(Ljava/lang/String;)Ljava/lang/StringBuilder;"⟩
abbrev cJ4_append_cf468 : ByteArray := prog_19_method_14_code
def yJ4_append_cf468 : MethodName := ⟨RJ4, "append", "(C)Ljava/lang/StringBuilder;"⟩
abbrev cJ4_toString_0e30d : ByteArray := prog_19_method_42_code
def yJ4_toString_0e30d : MethodName := ⟨RJ4, "toString", "()Ljava/lang/String;"⟩
abbrev cJ4_length_8abf5 : ByteArray := prog_19_method_93_code
def yJ4_length_8abf5 : MethodName := ⟨RJ4, "length", "()I"⟩
def RJ1 : String := "java/lang/StringLatin1"
def TJ1 : u_T := fun k => match k with
  | _ => ("", "", "", false)
def tyJ1 : Nat → FieldType := fun k => match k with
  | _ => .int
abbrev wsJ10 : List Cond := u_ws RJ1 TJ1 0
theorem nmJ1 : ∀ a, a < 0 → ∀ b, b < 0 → a ≠ b → (TJ1 a).2.1 ≠ (TJ1 b).2.1 := by decide +kernel
theorem tyJ1_ok : ∀ k, k < 0 → parseFieldDescriptor (TJ1 k).2.2.1 = some (tyJ1 k) := by decide +kernel
abbrev cJ1_charAt_3b067 : ByteArray := prog_20_method_2_code
def yJ1_charAt_3b067 : MethodName := ⟨RJ1, "charAt", "([BI)C"⟩
abbrev cJ1_canEncode_fc78d : ByteArray := prog_20_method_3_code
def yJ1_canEncode_fc78d : MethodName := ⟨RJ1, "canEncode", "(C)Z"⟩
abbrev cJ1_equals_b5fdf : ByteArray := prog_20_method_13_code
def yJ1_equals_b5fdf : MethodName := ⟨RJ1, "equals", "([B[B)Z"⟩
abbrev cJ1_indexOf_b82b6 : ByteArray := prog_20_method_24_code
def yJ1_indexOf_b82b6 : MethodName := ⟨RJ1, "indexOf", "([B[B)I"⟩
abbrev cJ1_indexOf_5af95 : ByteArray := prog_20_method_25_code
def yJ1_indexOf_5af95 : MethodName := ⟨RJ1, "indexOf", "([BI[BII)I"⟩
abbrev cJ1_inflate_0e8fd : ByteArray := prog_20_method_50_code
def yJ1_inflate_0e8fd : MethodName := ⟨RJ1, "inflate", "([BI[BII)V"⟩
def RJ2 : String := "java/lang/StringUTF16"
def TJ2 : u_T := fun k => match k with
  | _ => ("", "", "", false)
def tyJ2 : Nat → FieldType := fun k => match k with
  | _ => .int
abbrev wsJ20 : List Cond := u_ws RJ2 TJ2 0
theorem nmJ2 : ∀ a, a < 0 → ∀ b, b < 0 → a ≠ b → (TJ2 a).2.1 ≠ (TJ2 b).2.1 := by decide +kernel
theorem tyJ2_ok : ∀ k, k < 0 → parseFieldDescriptor (TJ2 k).2.2.1 = some (tyJ2 k) := by decide +kernel
abbrev cJ2_newBytesFor_77867 : ByteArray := prog_21_method_2_code
def yJ2_newBytesFor_77867 : MethodName := ⟨RJ2, "newBytesFor", "(I)[B"⟩
abbrev cJ2_newBytesLength_0f7a4 : ByteArray := prog_21_method_3_code
def yJ2_newBytesLength_0f7a4 : MethodName := ⟨RJ2, "newBytesLength", "(I)I"⟩
abbrev cJ2_putChar_b72d1 : ByteArray := prog_21_method_4_code
def yJ2_putChar_b72d1 : MethodName := ⟨RJ2, "putChar", "([BII)V"⟩
abbrev cJ2_getChar_3b067 : ByteArray := prog_21_method_5_code
def yJ2_getChar_3b067 : MethodName := ⟨RJ2, "getChar", "([BI)C"⟩
abbrev cJ2_length_9d52b : ByteArray := prog_21_method_6_code
def yJ2_length_9d52b : MethodName := ⟨RJ2, "length", "([B)I"⟩
abbrev cJ2_coderFromArrayLen_85cad : ByteArray := prog_21_method_15_code
def yJ2_coderFromArrayLen_85cad : MethodName := ⟨RJ2, "coderFromArrayLen", "([BI)B"⟩
abbrev cJ2_compress_39247 : ByteArray := prog_21_method_17_code
def yJ2_compress_39247 : MethodName := ⟨RJ2, "compress", "([BII)[B"⟩
abbrev cJ2_compress_5af95 : ByteArray := prog_21_method_22_code
def yJ2_compress_5af95 : MethodName := ⟨RJ2, "compress", "([BI[BII)I"⟩
abbrev cJ2_indexOf_b82b6 : ByteArray := prog_21_method_41_code
def yJ2_indexOf_b82b6 : MethodName := ⟨RJ2, "indexOf", "([B[B)I"⟩
abbrev cJ2_indexOfUnsafe_5af95 : ByteArray := prog_21_method_43_code
def yJ2_indexOfUnsafe_5af95 : MethodName := ⟨RJ2, "indexOfUnsafe", "([BI[BII)I"⟩
abbrev cJ2_indexOfLatin1_b82b6 : ByteArray := prog_21_method_44_code
def yJ2_indexOfLatin1_b82b6 : MethodName := ⟨RJ2, "indexOfLatin1", "([B[B)I"⟩
abbrev cJ2_indexOfLatin1Unsafe_5af95 : ByteArray := prog_21_method_46_code
def yJ2_indexOfLatin1Unsafe_5af95 : MethodName := ⟨RJ2, "indexOfLatin1Unsafe", "([BI[BII)I"⟩
abbrev cJ2_putCharSB_b72d1 : ByteArray := prog_21_method_71_code
def yJ2_putCharSB_b72d1 : MethodName := ⟨RJ2, "putCharSB", "([BII)V"⟩
abbrev cJ2_putCharsAt_cd4e5 : ByteArray := prog_21_method_81_code
def yJ2_putCharsAt_cd4e5 : MethodName := ⟨RJ2, "putCharsAt", "([BICCCC)I"⟩
abbrev cJ2_charAt_3b067 : ByteArray := prog_21_method_83_code
def yJ2_charAt_3b067 : MethodName := ⟨RJ2, "charAt", "([BI)C"⟩
abbrev cJ2_inflate_0e8fd : ByteArray := prog_21_method_86_code
def yJ2_inflate_0e8fd : MethodName := ⟨RJ2, "inflate", "([BI[BII)V"⟩
abbrev cJ2_checkIndex_2214a : ByteArray := prog_21_method_91_code
def yJ2_checkIndex_2214a : MethodName := ⟨RJ2, "checkIndex", "(I[B)V"⟩
abbrev cJ2_checkBoundsBeginEnd_d044e : ByteArray := prog_21_method_93_code
def yJ2_checkBoundsBeginEnd_d044e : MethodName := ⟨RJ2, "checkBoundsBeginEnd", "(II[B)V"⟩
abbrev cJ2_checkBoundsOffCount_d044e : ByteArray := prog_21_method_94_code
def yJ2_checkBoundsOffCount_d044e : MethodName := ⟨RJ2, "checkBoundsOffCount", "(II[B)V"⟩
def RJ10 : String := "java/lang/System"
def TJ10 : u_T := fun k => match k with
  | _ => ("", "", "", false)
def tyJ10 : Nat → FieldType := fun k => match k with
  | _ => .int
abbrev wsJ100 : List Cond := u_ws RJ10 TJ10 0
theorem nmJ10 : ∀ a, a < 0 → ∀ b, b < 0 → a ≠ b → (TJ10 a).2.1 ≠ (TJ10 b).2.1 := by decide +kernel
theorem tyJ10_ok : ∀ k, k < 0 → parseFieldDescriptor (TJ10 k).2.2.1 = some (tyJ10 k) := by decide +kernel
def RJ7 : String := "java/util/Arrays"
def TJ7 : u_T := fun k => match k with
  | _ => ("", "", "", false)
def tyJ7 : Nat → FieldType := fun k => match k with
  | _ => .int
abbrev wsJ70 : List Cond := u_ws RJ7 TJ7 0
theorem nmJ7 : ∀ a, a < 0 → ∀ b, b < 0 → a ≠ b → (TJ7 a).2.1 ≠ (TJ7 b).2.1 := by decide +kernel
theorem tyJ7_ok : ∀ k, k < 0 → parseFieldDescriptor (TJ7 k).2.2.1 = some (tyJ7 k) := by decide +kernel
abbrev cJ7_copyOf_9075b : ByteArray := prog_23_method_121_code
def yJ7_copyOf_9075b : MethodName := ⟨RJ7, "copyOf", "([BI)[B"⟩
abbrev cJ7_checkLength_df160 : ByteArray := prog_23_method_131_code
def yJ7_checkLength_df160 : MethodName := ⟨RJ7, "checkLength", "(II)V"⟩
abbrev cJ7_copyOfRange_39247 : ByteArray := prog_23_method_132_code
def yJ7_copyOfRange_39247 : MethodName := ⟨RJ7, "copyOfRange", "([BII)[B"⟩
abbrev cJ7_copyOfRangeByte_39247 : ByteArray := prog_23_method_133_code
def yJ7_copyOfRangeByte_39247 : MethodName := ⟨RJ7, "copyOfRangeByte", "([BII)[B"⟩
def RJ8 : String := "jdk/internal/util/ArraysSupport"
def TJ8 : u_T := fun k => match k with
  | _ => ("", "", "", false)
def tyJ8 : Nat → FieldType := fun k => match k with
  | _ => .int
abbrev wsJ80 : List Cond := u_ws RJ8 TJ8 0
theorem nmJ8 : ∀ a, a < 0 → ∀ b, b < 0 → a ≠ b → (TJ8 a).2.1 ≠ (TJ8 b).2.1 := by decide +kernel
theorem tyJ8_ok : ∀ k, k < 0 → parseFieldDescriptor (TJ8 k).2.2.1 = some (tyJ8 k) := by decide +kernel
abbrev cJ8_newLength_cabcc : ByteArray := prog_24_method_27_code
def yJ8_newLength_cabcc : MethodName := ⟨RJ8, "newLength", "(III)I"⟩
abbrev cJ8_hugeLength_7cf53 : ByteArray := prog_24_method_28_code
def yJ8_hugeLength_7cf53 : MethodName := ⟨RJ8, "hugeLength", "(II)I"⟩
def RJ3 : String := "jdk/internal/util/Preconditions"
def TJ3 : u_T := fun k => match k with
  | _ => ("", "", "", false)
def tyJ3 : Nat → FieldType := fun k => match k with
  | _ => .int
abbrev wsJ30 : List Cond := u_ws RJ3 TJ3 0
theorem nmJ3 : ∀ a, a < 0 → ∀ b, b < 0 → a ≠ b → (TJ3 a).2.1 ≠ (TJ3 b).2.1 := by decide +kernel
theorem tyJ3_ok : ∀ k, k < 0 → parseFieldDescriptor (TJ3 k).2.2.1 = some (tyJ3 k) := by decide +kernel
abbrev cJ3_checkIndex_8e157 : ByteArray := prog_25_method_11_code
def yJ3_checkIndex_8e157 : MethodName := ⟨RJ3, "checkIndex", "(IILjava/util/function/BiFunction;)I"⟩
abbrev cJ3_checkFromToIndex_8c36e : ByteArray := prog_25_method_12_code
def yJ3_checkFromToIndex_8c36e : MethodName := ⟨RJ3, "checkFromToIndex", "(IIILjava/util/function/BiFunction;)I"⟩
abbrev cJ3_checkFromIndexSize_8c36e : ByteArray := prog_25_method_13_code
def yJ3_checkFromIndexSize_8c36e : MethodName := ⟨RJ3, "checkFromIndexSize", "(IIILjava/util/function/BiFunction;)I"⟩
def RL : String := "StillHouseLaw"
abbrev cL_law : ByteArray := code
def yL_law : MethodName := ⟨RL, "law", "([I)Z"⟩
end
section
def mm_tbl : List Cond := lw_tbl.filter goodWord
def mm_cls : List vw_C := [(RX0, TX0, 6), (RX1, TX1, 9), (RX2, TX2, 4), (RX3, TX3, 7), (RX4, TX4, 12), (RX5, TX5, 8), (RX6, TX6, 2), (RX7, TX7, 5), (RX8, TX8, 14), (RX9, TX9, 5), (RX10, TX10, 5), (RX11, TX11, 10), (RX12, TX12, 74), (RJ0, TJ0, 4), (RJ4, TJ4, 4)]
def mm_arr : List FieldType := [.int, .byte, .boolean, .long, .object "StillHouse$Kind", .object "StillHouse$Pack", .object "StillHouse$Body", .object "StillHouse$Vessel", .object "StillHouse$Entry", .object "java/lang/String"]
def mm_lit : List (String × Nat × String) := [("StillHouse", 58, "still"), ("StillHouse", 92, "pot"), ("StillHouse", 94, "column"), ("StillHouse$Word", 62, "check   before  step    after   note    close   "), ("StillHouse$Word", 68, "up      call    say     add     take    warm    fail    refuse  less    try     "), ("StillHouse$Word", 70, "pack    with    kind    under   open    guarded last    else    rescue  a       "), ("StillHouse$Registry", 37, "house"), ("StillHouseModel", 155, "still"), ("StillHouseModel", 169, "pot"), ("StillHouseModel", 178, "column"), ("StillHouseModel", 300, "pack"), ("StillHouseModel", 247, " pack with kind under open guarded last check before step after note close up call say add take warm fail refuse less else try rescue a "), ("StillHouseModel", 249, " "), ("StillHouseModel", 316, "with"), ("StillHouseModel", 328, "house"), ("StillHouseModel", 321, "{"), ("StillHouseModel", 337, "kind"), ("StillHouseModel", 346, "under"), ("StillHouseModel", 326, "}"), ("StillHouseModel", 351, "open"), ("StillHouseModel", 353, "guarded"), ("StillHouseModel", 355, "last"), ("StillHouseModel", 261, "check"), ("StillHouseModel", 267, "before"), ("StillHouseModel", 269, "step"), ("StillHouseModel", 271, "after"), ("StillHouseModel", 273, "note"), ("StillHouseModel", 275, "close"), ("StillHouseModel", 372, "up"), ("StillHouseModel", 374, "call"), ("StillHouseModel", 376, "say"), ("StillHouseModel", 377, "add"), ("StillHouseModel", 379, "take"), ("StillHouseModel", 380, "warm"), ("StillHouseModel", 382, "fail"), ("StillHouseModel", 384, "refuse"), ("StillHouseModel", 386, "less"), ("StillHouseModel", 388, "try"), ("StillHouseModel", 409, "a"), ("StillHouseModel", 411, "else"), ("StillHouseModel", 413, "rescue"), ("StillHouseModel", 407, ";")]
def mm_nest : List (String × Nat × MethodName × String) := [("StillHouse", 22, ⟨"StillHouse$Registry", "<init>", "()V"⟩, "StillHouse"), ("StillHouse", 38, ⟨"StillHouse$Run", "<init>", "()V"⟩, "StillHouse"), ("StillHouse$Kind", 60, ⟨"StillHouse", "isHook", "(I)Z"⟩, "StillHouse"), ("StillHouse", 101, ⟨"StillHouse$Reader", "<init>", "()V"⟩, "StillHouse"), ("StillHouse$Reader", 26, ⟨"StillHouse$Pack", "<init>", "()V"⟩, "StillHouse"), ("StillHouse$Word", 53, ⟨"StillHouse", "spelledOn", "(JI)J"⟩, "StillHouse"), ("StillHouse$Registry", 39, ⟨"StillHouse", "spell", "(Ljava/lang/String;)J"⟩, "StillHouse")]
def mm_over : List String := ["StillHouse$Kind", "StillHouse$Pack", "StillHouse$Vessel", "StillHouse$Entry", "StillHouse$Body", "java/lang/String"]
def mm_stat : List (String × String × String × Option Value) := [("java/lang/String", "COMPACT_STRINGS", "Z", some (.int 1)), ("jdk/internal/util/Preconditions", "SIOOBE_FORMATTER", "Ljava/util/function/BiFunction;", none)]
theorem mm_iX0 : ∀ w ∈ u_ws RX0 TX0 6, w ∈ mm_tbl := by decide +kernel
theorem mm_iX1 : ∀ w ∈ u_ws RX1 TX1 9, w ∈ mm_tbl := by decide +kernel
theorem mm_iX2 : ∀ w ∈ u_ws RX2 TX2 4, w ∈ mm_tbl := by decide +kernel
theorem mm_iX3 : ∀ w ∈ u_ws RX3 TX3 7, w ∈ mm_tbl := by decide +kernel
theorem mm_iX4 : ∀ w ∈ u_ws RX4 TX4 12, w ∈ mm_tbl := by decide +kernel
theorem mm_iX5 : ∀ w ∈ u_ws RX5 TX5 8, w ∈ mm_tbl := by decide +kernel
theorem mm_iX6 : ∀ w ∈ u_ws RX6 TX6 2, w ∈ mm_tbl := by decide +kernel
theorem mm_iX7 : ∀ w ∈ u_ws RX7 TX7 5, w ∈ mm_tbl := by decide +kernel
theorem mm_iX8 : ∀ w ∈ u_ws RX8 TX8 14, w ∈ mm_tbl := by decide +kernel
theorem mm_iX9 : ∀ w ∈ u_ws RX9 TX9 5, w ∈ mm_tbl := by decide +kernel
theorem mm_iX10 : ∀ w ∈ u_ws RX10 TX10 5, w ∈ mm_tbl := by decide +kernel
theorem mm_iX11 : ∀ w ∈ u_ws RX11 TX11 10, w ∈ mm_tbl := by decide +kernel
theorem mm_iX12 : ∀ w ∈ u_ws RX12 TX12 74, w ∈ mm_tbl := by decide +kernel
theorem mm_iJ0 : ∀ w ∈ u_ws RJ0 TJ0 4, w ∈ mm_tbl := by decide +kernel
theorem mm_iJ4 : ∀ w ∈ u_ws RJ4 TJ4 4, w ∈ mm_tbl := by decide +kernel
/-- a method: name, code, locals, what it answers -/
abbrev mm_M : Type := MethodName × ByteArray × Nat × Option FieldType
def mm_fl (own : String) (idx c j : Nat) : Prop := Nat.blt c 100 = true ∧ ∃ (C : String) (T : u_T) (N : Nat), mm_cls[c]? = some (C, T, N) ∧ j < N ∧ (∀ w ∈ u_ws C T N, w ∈ mm_tbl) ∧ Cond.fieldLink own idx (T j).1 (T j).2.1 (T j).2.2.1 ∈ mm_tbl
def mm_pl (own nm : String) (idx c j : Nat) (ty : FieldType) : Prop := Nat.blt c 100 = true ∧ ∃ (C : String) (T : u_T) (N : Nat) (ty0 : Nat → FieldType), mm_cls[c]? = some (C, T, N) ∧ j < N ∧ (∀ w ∈ u_ws C T N, w ∈ mm_tbl) ∧ Cond.fieldLink own idx (T j).1 (T j).2.1 (T j).2.2.1 ∈ mm_tbl ∧
  (∀ k, k < N → parseFieldDescriptor (T k).2.2.1 = some (ty0 k)) ∧ (∀ a, a < N → ∀ b, b < N → a ≠ b → (T a).2.1 ≠ (T b).2.1) ∧ ty0 j = ty ∧ ((T j).2.2.2 = false ∨ ((T j).2.2.2 = true ∧ nm = "<init>" ∧ (T j).1 = own))
def mm_nl (own : String) (idx c : Nat) (fs : List Value) : Prop := Nat.blt c 100 = true ∧ ∃ (C : String) (T : u_T) (N : Nat) (ty0 : Nat → FieldType), mm_cls[c]? = some (C, T, N) ∧ (∀ w ∈ u_ws C T N, w ∈ mm_tbl) ∧ (∀ k, k < N → parseFieldDescriptor (T k).2.2.1 = some (ty0 k)) ∧ fs = (List.range N).map (fun k => defaultValue (ty0 k)) ∧
  Cond.classLink own idx C ∈ mm_tbl ∧ Cond.instantiable C N ∈ mm_tbl ∧ Cond.initialized C ∈ mm_tbl
def mm_cd (y : mm_M) (n : Nat) : Prop := Cond.code y.1 y.2.1 y.2.2.1 y.2.2.2 ∈ mm_tbl ∧ Cond.initialized y.1.cls ∈ mm_tbl ∧ (y.1.cls ≠ "java/lang/invoke/MethodHandle" ∧ y.1.cls ≠ "java/lang/invoke/VarHandle") ∧ (parseMethodDescriptor y.1.desc).map (fun d => d.parameters.length) = some n ∧ Nat.ble y.2.2.1 40 = true ∧ plainName y.1.cls = true
def mm_vl (own : String) (idx c : Nat) (y : mm_M) (n : Nat) : Prop := mm_cd y n ∧ Cond.methodLink own idx y.1 ∈ mm_tbl ∧ Cond.instanceMethod y.1 ∈ mm_tbl ∧ Cond.selects y.1.cls y.1 y.1 ∈ mm_tbl ∧ Nat.blt c 100 = true ∧ ∃ (T : u_T) (N : Nat), mm_cls[c]? = some (y.1.cls, T, N)
def mm_sl (own : String) (idx : Nat) (y : mm_M) (n : Nat) : Prop := mm_cd y n ∧ Cond.methodLink own idx y.1 ∈ mm_tbl ∧ Cond.static y.1 ∈ mm_tbl
def mm_il (own : String) (idx : Nat) (y : mm_M) (n : Nat) : Prop := mm_cd y n ∧ Cond.methodLink own idx y.1 ∈ mm_tbl ∧ y.1.name = "<init>" ∧ Cond.instanceMethod y.1 ∈ mm_tbl ∧ y.2.2.2 = none
def mm_snl (own : String) (idx i : Nat) (y : mm_M) (n : Nat) : Prop := mm_cd y n ∧ (∃ host : String, mm_nest[i]? = some (own, idx, y.1, host)) ∧ Cond.static y.1 ∈ mm_tbl
def mm_inl (own : String) (idx i : Nat) (y : mm_M) (n : Nat) : Prop := mm_cd y n ∧ (∃ host : String, mm_nest[i]? = some (own, idx, y.1, host)) ∧ y.1.name = "<init>" ∧ Cond.instanceMethod y.1 ∈ mm_tbl ∧ y.2.2.2 = none
end
section
/-! THE SMALL MACHINE: one judgement over pictures of the heap, and a row an instruction.
A picture h: which cell (number of its kind, contents) stands at an address; the next free address; the slots in use. -/
abbrev mm_C : Type := Nat × List Value
abbrev mm_H : Type := (Nat → Option mm_C) × (Nat × Nat)
/-- launch, class of a kind, slot of a field, array class, address of a text, the lowest address that may be written, the library's formatter -/
abbrev mm_G : Type := Launch × (Nat → ClassId) × (Nat → Nat → Nat) × (Nat → ClassId) × (Nat → Nat) × Nat × Option Nat
def mm_wr (k : Nat) : Bool := Nat.blt k 200
def mm_lk : List (Nat × Value) → Nat → Option Value
  | [], _ => none
  | q :: l, i => bif Nat.beq q.1 i then some q.2 else mm_lk l i
def mm_n2 (lv : List (Nat × Value)) : Nat → Bool
  | 0 => true
  | i + 1 => match mm_lk lv i with
    | some v => Nat.beq v.category 1
    | none => true
def mm_sub : List (Nat × Value) → List (Nat × Value) → Prop
  | [], _ => True
  | q :: l, lv => mm_lk lv q.1 = some q.2 ∧ mm_sub l lv
def mm_set (h : mm_H) (a : Nat) (c : mm_C) : mm_H := (fun b => if b = a then some c else h.1 b, h.2)
def mm_push (h : mm_H) (c : mm_C) : mm_H := (fun b => if b = h.2.1 then some c else h.1 b, h.2.1 + 1, h.2.2 + c.2.length)
def mm_isr : Value → Prop
  | .null => True
  | .ref _ => True
  | _ => False
def mm_tot (H : Heap) : Nat := (H.toList.map (fun c : Cell => c.slots.size)).sum
def mm_ws (y : mm_M) : List Cond := .code y.1 y.2.1 y.2.2.1 y.2.2.2 :: mm_tbl
theorem mm_tblG : ∀ w ∈ mm_tbl, (w.onTables && w.keeps) = true ∨ ∃ ty, w = .arrayClass ty := fun w hw => good_of_word (List.mem_filter.mp hw).2
/-- what the tables say, of a state -/
def mm_K (G : mm_G) (U : State) : Prop :=
  (∀ (c : Nat) (q : vw_C), mm_cls[c]? = some q → u_Kn U q.1 q.2.1 q.2.2 (G.2.1 c) (G.2.2.1 c)) ∧
  (∀ (t : Nat) (ty : FieldType), mm_arr[t]? = some ty → ArrOfT U (G.2.2.2.1 t) ty ∧ va_RA U (G.2.2.2.1 t) ty) ∧
  (∀ (i : Nat) (r : String × Nat × String), mm_lit[i]? = some r → vk_R r.1 r.2.1 r.2.2 (G.2.2.2.2.1 i) U) ∧
  (∀ (i : Nat) (r : String × Nat × MethodName × String), mm_nest[i]? = some r → va_Nw (.methodLinkNest r.1 r.2.1 r.2.2.1 r.2.2.2) U) ∧
  ∀ (i : Nat) (C : String), mm_over[i]? = some C → va_AO C U
theorem mm_K.warm {G : mm_G} {s U : State} (hW : s.WarmedH U.vm) (h : mm_K G s) : mm_K G U :=
  ⟨fun c q hq => u_Kn_moved hW.alike (h.1 c q hq), fun t ty ht => ⟨arrOfT_moved hW.alike (h.2.1 t ty ht).1, (h.2.1 t ty ht).2.moved hW.alike⟩, fun i r hr => vk_R.warm hW (h.2.2.1 i r hr), fun i r hr => va_Nw.warmM hW (h.2.2.2.1 i r hr), fun i C hC => va_AO.moved hW.alike (h.2.2.2.2 i C hC)⟩
/-- statics of the library, as they were at the start -/
def mm_Z (G : mm_G) (U : State) (H : Heap) : Prop := ∀ (i : Nat) (r : String × String × String × Option Value), mm_stat[i]? = some r → va_Z r.1 r.2.1 r.2.2.1 (r.2.2.2.getD (va_rf G.2.2.2.2.2.2)) (fun q => G.2.2.2.2.2.1 ≤ q) U H
/-- a cell of the heap is as its picture -/
def mm_body (G : mm_G) (c : mm_C) (cell : Cell) : Prop :=
  if Nat.blt (c.1 % 200) 100 then cell.cls = G.2.1 (c.1 % 200) ∧ ∃ q : vw_C, mm_cls[c.1 % 200]? = some q ∧ c.2.length = q.2.2 ∧ ∀ (j : Nat) (v : Value), c.2[j]? = some v → cell.slots[G.2.2.1 (c.1 % 200) j]? = some v
  else cell.cls = G.2.2.2.1 (c.1 % 200 - 100) ∧ cell.slots.toList = c.2 ∧ c.1 % 200 - 100 < mm_arr.length
def mm_at (G : mm_G) (a : Nat) (c : mm_C) (H : Heap) : Prop :=
  ∃ cell : Cell, H[a]? = some cell ∧ cell.vm ≠ .unknown ∧ cell.vm.isStatics = false ∧ (mm_wr c.1 = true → cell.vm = .none) ∧ mm_body G c cell
def mm_hp (G : mm_G) (h : mm_H) (H : Heap) : Prop := H.size = h.2.1 ∧ mm_tot H = h.2.2 ∧ ∀ (a : Nat) (c : mm_C), h.1 a = some c → mm_at G a c H
def mm_in (G : mm_G) (A : Nat → Prop) (h : mm_H) : Prop := (∀ (q : Nat) (c : mm_C), h.1 q = some c → mm_wr c.1 = true → A q) ∧ (∀ q : Nat, h.2.1 ≤ q → A q) ∧ ∀ q : Nat, A q → G.2.2.2.2.2.1 ≤ q
def mm_fit (L : Nat × Nat) (h : mm_H) : Prop := h.2.1 ≤ L.1 ∧ h.2.2 ≤ L.2
def mm_ls (ls : Array Slot) (nL : Nat) (lv : List (Nat × Value)) : Prop := ls.size = nL ∧ lv_wf ls ∧ ∀ (i : Nat) (v : Value), mm_lk lv i = some v → ls[i]? = some (.val v)
def mm_Fix (G : mm_G) (y : mm_M) (p : Program) (s : State) (m : MethodId) (args : Array Value) (meth : Method) (c : Code) : Prop :=
  p.tables.exec = Jvm.exec ∧ c.code = y.2.1 ∧ meth.sig.returnType = y.2.2.2 ∧ c.maxLocals = y.2.2.1 ∧ s.vm.findClass y.1.cls = some m.cls ∧ meth.locks = false ∧ meth.name = y.1.name ∧ (∀ w ∈ mm_tbl, w.before args s = true) ∧ mm_K G s
def mm_Rm (L : Nat × Nat) (d : Nat) (R : Room) (s : State) : Prop := d ≤ R.frames ∧ 64 * d ≤ R.locals ∧ L.1 ≤ s.heap.size + R.cells ∧ L.2 ≤ mm_tot s.heap + R.slots
def mm_ok (G : mm_G) (A : Nat → Prop) (L : Nat × Nat) (h : mm_H) (s : State) (H : Heap) (locs : List Loc) : Prop :=
  mm_hp G h H ∧ mm_in G A h ∧ mm_fit L h ∧ va_S A s.heap H locs ∧ mm_Z G s H ∧ mm_tot s.heap ≤ mm_tot H
def mm_Qc (G : mm_G) (L : Nat × Nat) (A : Nat → Prop) (Q : Option Value → mm_H → Prop) : Array Value → State → Outcome → State → Prop := fun _ st o t =>
  (∃ (r : Option Value) (h : mm_H), o = .returned r ∧ Q r h ∧ mm_hp G h t.heap ∧ mm_in G A h ∧ mm_fit L h) ∧ va_F A st t
/-- from pc on, with locals lv, stack st and a heap like h, the method comes to its end with Q -/
def mm_Run (G : mm_G) (y : mm_M) (A : Nat → Prop) (L : Nat × Nat) (d pc : Nat) (lv : List (Nat × Value)) (st : List Value) (h : mm_H) (Q : Option Value → mm_H → Prop) : Prop :=
  ∀ (p : Program) (e : Env) (R : Room) (s : State) (m : MethodId) (args : Array Value) (below : List Frame) (meth : Method) (c : Code) (H : Heap) (locs : List Loc) (ls : Array Slot),
    mm_Fix G y p s m args meth c → mm_Rm L d R s → mm_ok G A L h s H locs → mm_ls ls y.2.2.1 lv →
    W p G.1 e R s m args below meth c H locs (H.size - s.heap.size) (mm_tot H - mm_tot s.heap) (MQ below (mm_Qc G L A Q) args s R.cells R.slots A) (F0 m pc ls st)
def mm_room (L : Nat × Nat) (d : Nat) (h : mm_H) : Room := { frames := d, cells := L.1 - h.2.1, slots := L.2 - h.2.2, locals := 64 * d }
def mm_Pc (G : mm_G) (av : List Value) (h : mm_H) : Array Value → State → Prop := va_Pc av (fun U => mm_hp G h U.heap ∧ mm_K G U ∧ mm_Z G U U.heap)
/-- a method's contract -/
def mm_Ok (G : mm_G) (y : mm_M) (L : Nat × Nat) (d : Nat) (av : List Value) (h : mm_H) (Q : Option Value → mm_H → Prop) : Prop :=
  ∀ A : Nat → Prop, mm_in G A h → mm_fit L h → Met G.1 y.1 (mm_ws y) (mm_room L d h) (mm_Pc G av h) (mm_Qc G L A Q) (L.1 - h.2.1) (L.2 - h.2.2) A
theorem mm_lk_mem {l : List (Nat × Value)} {i : Nat} {v : Value} (h : mm_lk l i = some v) : (i, v) ∈ l := by
  induction l with
  | nil => cases h
  | cons q l ih =>
    unfold mm_lk at h
    cases hb : Nat.beq q.1 i with
    | true =>
      rw [hb] at h
      have e1 : q.1 = i := Nat.eq_of_beq_eq_true hb
      have e2 : q.2 = v := Option.some.inj h
      rw [← e1, ← e2]
      exact List.mem_cons_self
    | false =>
      rw [hb] at h
      exact List.mem_cons_of_mem _ (ih h)
def mm_li (lv : List (Nat × Value)) : List (Nat × Value) := (lv.map (fun q => q.1)).filterMap (fun i => (mm_lk lv i).map (fun v => (i, v)))
theorem mm_li_mem {lv : List (Nat × Value)} {i : Nat} {v : Value} (h : mm_lk lv i = some v) : (i, v) ∈ mm_li lv :=
  List.mem_filterMap.mpr ⟨i, List.mem_map.mpr ⟨(i, v), mm_lk_mem h, rfl⟩, by rw [h]; rfl⟩
theorem mm_li_lk {lv : List (Nat × Value)} {q : Nat × Value} (h : q ∈ mm_li lv) : mm_lk lv q.1 = some q.2 := by
  obtain ⟨i, -, hi⟩ := List.mem_filterMap.mp h
  cases hk : mm_lk lv i with
  | none => rw [hk] at hi; cases hi
  | some v => rw [hk] at hi; cases hi; exact hk
theorem mm_ls.has {ls : Array Slot} {nL : Nat} {lv : List (Nat × Value)} (h : mm_ls ls nL lv) : lv_has ls nL (mm_li lv) := ⟨h.1, h.2.1, fun q hq => h.2.2 q.1 q.2 (mm_li_lk hq)⟩
theorem mm_ls.of {ls : Array Slot} {nL : Nat} {lv : List (Nat × Value)} (h : lv_has ls nL lv) : mm_ls ls nL lv := ⟨h.1, h.2.1, fun i v hk => h.2.2 (i, v) (mm_lk_mem hk)⟩
theorem mm_ls.sub {ls : Array Slot} {nL : Nat} {lv lv' : List (Nat × Value)} (h : mm_ls ls nL lv') (hs : mm_sub lv lv') : mm_ls ls nL lv := by
  refine ⟨h.1, h.2.1, ?_⟩
  induction lv with
  | nil => intro i v hk; cases hk
  | cons q l ih =>
    intro i v hk
    unfold mm_lk at hk
    cases hb : Nat.beq q.1 i with
    | true =>
      rw [hb] at hk
      have e1 : q.1 = i := Nat.eq_of_beq_eq_true hb
      have e2 : q.2 = v := Option.some.inj hk
      rw [← e1, ← e2]
      exact h.2.2 _ _ hs.1
    | false =>
      rw [hb] at hk
      exact ih hs.2 i v hk
theorem mm_ls.put1 {ls ls' : Array Slot} {nL i : Nat} {v : Value} {lv : List (Nat × Value)} (hn : mm_n2 lv i = true) (h : lv_has ls' nL ((i, v) :: (mm_li lv).filter (fun q => !(q.1 == i) && !(q.1 + 1 == i && q.2.category == 2)))) : mm_ls ls' nL ((i, v) :: lv) := by
  refine ⟨h.1, h.2.1, fun j w hk => ?_⟩
  unfold mm_lk at hk
  cases hb : Nat.beq i j with
  | true =>
    rw [hb] at hk
    have e1 : i = j := Nat.eq_of_beq_eq_true hb
    have e2 : v = w := Option.some.inj hk
    rw [← e1, ← e2]
    exact h.2.2 (i, v) List.mem_cons_self
  | false =>
    rw [hb] at hk
    have hk2 : mm_lk lv j = some w := hk
    have hne : ¬ j = i := fun e => Nat.ne_of_beq_eq_false hb e.symm
    refine h.2.2 (j, w) (List.mem_cons_of_mem _ (List.mem_filter.mpr ⟨mm_li_mem hk2, ?_⟩))
    have h2 : ¬ (j + 1 = i ∧ w.category = 2) := by
      rintro ⟨e, hc⟩
      subst e
      have hn2 : (match mm_lk lv j with
        | some v => Nat.beq v.category 1
        | none => true) = true := hn
      rw [hk2] at hn2
      have := Nat.eq_of_beq_eq_true hn2
      omega
    simp only [Bool.and_eq_true, Bool.not_eq_true', beq_eq_false_iff_ne, ne_eq, Bool.and_eq_false_iff]
    refine ⟨hne, ?_⟩
    by_cases e : j + 1 = i
    · exact Or.inr (fun hc => h2 ⟨e, hc⟩)
    · exact Or.inl e
theorem mm_ls.put2 {ls ls' : Array Slot} {nL i : Nat} {v : Value} {lv : List (Nat × Value)} (hn : mm_n2 lv i = true) (hu : mm_lk lv (i + 1) = none) (h : lv_has ls' nL ((i, v) :: (mm_li lv).filter (fun q => !(q.1 == i) && (!(q.1 == i + 1) && !(q.1 + 1 == i && q.2.category == 2))))) : mm_ls ls' nL ((i, v) :: lv) := by
  refine ⟨h.1, h.2.1, fun j w hk => ?_⟩
  unfold mm_lk at hk
  cases hb : Nat.beq i j with
  | true =>
    rw [hb] at hk
    have e1 : i = j := Nat.eq_of_beq_eq_true hb
    have e2 : v = w := Option.some.inj hk
    rw [← e1, ← e2]
    exact h.2.2 (i, v) List.mem_cons_self
  | false =>
    rw [hb] at hk
    have hk2 : mm_lk lv j = some w := hk
    have hne : ¬ j = i := fun e => Nat.ne_of_beq_eq_false hb e.symm
    have hne1 : ¬ j = i + 1 := fun e => by rw [e, hu] at hk2; cases hk2
    refine h.2.2 (j, w) (List.mem_cons_of_mem _ (List.mem_filter.mpr ⟨mm_li_mem hk2, ?_⟩))
    have h2 : ¬ (j + 1 = i ∧ w.category = 2) := by
      rintro ⟨e, hc⟩
      subst e
      have hn2 : (match mm_lk lv j with
        | some v => Nat.beq v.category 1
        | none => true) = true := hn
      rw [hk2] at hn2
      have := Nat.eq_of_beq_eq_true hn2
      omega
    simp only [Bool.and_eq_true, Bool.not_eq_true', beq_eq_false_iff_ne, ne_eq, Bool.and_eq_false_iff]
    refine ⟨hne, hne1, ?_⟩
    by_cases e : j + 1 = i
    · exact Or.inr (fun hc => h2 ⟨e, hc⟩)
    · exact Or.inl e
theorem mm_foldl (l : List Cell) (n : Nat) : l.foldl (fun (n : Nat) (c : Cell) => n + c.slots.size) n = n + (l.map (fun c : Cell => c.slots.size)).sum := by
  induction l generalizing n with
  | nil => simp
  | cons c l ih => simp only [List.foldl_cons, List.map_cons, List.sum_cons]; rw [ih]; omega
theorem mm_slotsTrue {s : State} (h : s.slotsTrue = true) : s.slotsUsed = mm_tot s.heap := by
  unfold State.slotsTrue at h
  have h1 := beq_iff_eq.mp h
  rw [h1, ← Array.foldl_toList, mm_foldl]
  unfold mm_tot
  omega
theorem mm_tot_congr {H H' : Heap} (h : ∀ q : Nat, (H'[q]?).map (fun c : Cell => c.slots.size) = (H[q]?).map (fun c : Cell => c.slots.size)) : mm_tot H' = mm_tot H := by
  unfold mm_tot
  congr 1
  refine List.ext_getElem? (fun i => ?_)
  rw [List.getElem?_map, List.getElem?_map, Array.getElem?_toList, Array.getElem?_toList]
  exact h i
theorem mm_heap_push {H H' : Heap} {cell : Cell} (z : H'.size = H.size + 1) (e : H'[H.size]? = some cell) (o : ∀ q : Nat, q < H.size → H'[q]? = H[q]?) : H' = H.push cell := by
  refine Array.ext_getElem? (fun i => ?_)
  rw [Array.getElem?_push]
  by_cases h1 : i = H.size
  · rw [if_pos h1, h1, e]
  · rw [if_neg h1]
    by_cases h2 : i < H.size
    · exact o i h2
    · rw [Array.getElem?_eq_none (by omega), Array.getElem?_eq_none (by omega)]
theorem mm_tot_push (H : Heap) (cell : Cell) : mm_tot (H.push cell) = mm_tot H + cell.slots.size := by
  unfold mm_tot
  rw [Array.toList_push, List.map_append, List.sum_append]
  simp
section MMT
variable {p : Program} {l : Launch} {e : Env} {R : Room} {s : State} {m : MethodId} {args : Array Value} {below : List Frame} {meth : Method} {c : Code} {H : Heap} {locs : List Loc} {cells slots : Nat} {Qs : State → Prop}
theorem mm_tightX {T : State} (hT : T.heap = H) (X : Stand p l e R s m args below meth c T locs cells slots) : Stand p l e R s m args below meth c T locs (H.size - s.heap.size) (mm_tot H - mm_tot s.heap) ∧ mm_tot s.heap ≤ mm_tot H := by
  obtain ⟨a1, b1, c1, d1, e1, f1⟩ := X.same
  have hb : T.slotsUsed = mm_tot T.heap := mm_slotsTrue X.book
  have hs : s.slotsUsed = mm_tot s.heap := mm_slotsTrue (by
    have h := X.room
    simp only [State.hasRoom, Bool.and_eq_true] at h
    exact h.2)
  have d2 : T.slotsUsed = s.slotsUsed + ((T.heap.toList.drop s.heap.size).map (fun c : Cell => c.slots.size)).sum := d1
  have b2 : s.heap.size ≤ T.heap.size := b1
  subst hT
  refine ⟨{ X with same := ⟨a1, b1, ?_, d1, ?_, f1⟩ }, by omega⟩
  · show T.heap.size ≤ s.heap.size + (T.heap.size - s.heap.size)
    omega
  · show ((T.heap.toList.drop s.heap.size).map (fun c : Cell => c.slots.size)).sum ≤ mm_tot T.heap - mm_tot s.heap
    omega
theorem mm_tight {g : JFrame} (k : mm_tot s.heap ≤ mm_tot H → W p l e R s m args below meth c H locs (H.size - s.heap.size) (mm_tot H - mm_tot s.heap) Qs g) : W p l e R s m args below meth c H locs cells slots Qs g := fun T hT X => k (mm_tightX hT X).2 T hT (mm_tightX hT X).1
end MMT
theorem mm_at.kept {G : mm_G} {a : Nat} {c : mm_C} {H H' : Heap} (h : mm_at G a c H) (e : H'[a]? = H[a]?) : mm_at G a c H' := by
  obtain ⟨cell, h1, h2⟩ := h
  exact ⟨cell, by rw [e]; exact h1, h2⟩
theorem mm_at.lt {G : mm_G} {a : Nat} {c : mm_C} {H : Heap} (h : mm_at G a c H) : a < H.size := by
  obtain ⟨cell, h1, h2⟩ := h
  exact (Array.getElem?_eq_some_iff.mp h1).1
theorem mm_Z.kept {G : mm_G} {U : State} {H H' : Heap} (h : mm_Z G U H) (e : ∀ q : Nat, q < H.size → ¬ G.2.2.2.2.2.1 ≤ q → H'[q]? = H[q]?) : mm_Z G U H' := fun i r hr => (h i r hr).kept e
theorem mm_ok.upd {G : mm_G} {A : Nat → Prop} {L : Nat × Nat} {h : mm_H} {s : State} {H H' : Heap} {locs : List Loc} {a k : Nat} {c0 c1 : mm_C} {cell cell' : Cell} (Ok : mm_ok G A L h s H locs) (hc : h.1 a = some c0) (hw : mm_wr c0.1 = true) (e0 : H[a]? = some cell) (e1 : H'[a]? = some cell') (z : H'.size = H.size) (oq : ∀ q : Nat, q ≠ a → H'[q]? = H[q]?) (hsz : cell'.slots.size = cell.slots.size) (hat : mm_at G a c1 H') : mm_ok G A L (mm_set h a c1) s H' (locs ++ [⟨a, k⟩]) := by
  obtain ⟨⟨o1, o2, o3⟩, ⟨i1, i2, i3⟩, f, S, Z, t⟩ := Ok
  have ht : mm_tot H' = mm_tot H := mm_tot_congr (fun q => by
    by_cases e : q = a
    · subst e; rw [e0, e1]; simp [hsz]
    · rw [oq q e])
  have hA : A a := i1 a c0 hc hw
  refine ⟨⟨by rw [z]; exact o1, by rw [ht]; exact o2, fun b c hb => ?_⟩, ⟨fun q c hq hwq => ?_, i2, i3⟩, f, S.put z oq hA, Z.kept (fun q _ hq => oq q (fun e => hq (by rw [e]; exact i3 a hA))), by rw [ht]; exact t⟩
  · have hb : (if b = a then some c1 else h.1 b) = some c := hb
    by_cases e : b = a
    · rw [if_pos e] at hb
      cases hb
      rw [e]
      exact hat
    · rw [if_neg e] at hb
      exact (o3 b c hb).kept (oq b e)
  · have hq : (if q = a then some c1 else h.1 q) = some c := hq
    by_cases e : q = a
    · rw [e]; exact hA
    · rw [if_neg e] at hq
      exact i1 q c hq hwq
theorem mm_ok.new {G : mm_G} {A : Nat → Prop} {L : Nat × Nat} {h : mm_H} {s : State} {H H' : Heap} {locs : List Loc} {c1 : mm_C} {cell : Cell} (Ok : mm_ok G A L h s H locs) (e1 : H'[H.size]? = some cell) (z : H'.size = H.size + 1) (o : ∀ q : Nat, q < H.size → H'[q]? = H[q]?) (hat : mm_at G H.size c1 H') (hsl : cell.slots.size = c1.2.length) (hL1 : h.2.1 + 1 ≤ L.1) (hL2 : h.2.2 + c1.2.length ≤ L.2) : mm_ok G A L (mm_push h c1) s H' locs := by
  obtain ⟨⟨o1, o2, o3⟩, ⟨i1, i2, i3⟩, f, S, Z, t⟩ := Ok
  have ht : mm_tot H' = mm_tot H + c1.2.length := by rw [mm_heap_push z e1 o, mm_tot_push, hsl]
  refine ⟨⟨by rw [z, o1]; rfl, by rw [ht, o2]; rfl, fun b c hb => ?_⟩, ⟨fun q c hq hwq => ?_, fun q hq => i2 q (Nat.le_of_succ_le hq), i3⟩, ⟨hL1, hL2⟩, ⟨Nat.le_trans S.1 (by omega), fun x h1 h2 => (o x (Nat.lt_of_lt_of_le h1 S.1)).trans (S.2.1 x h1 h2), S.2.2⟩, Z.kept (fun q hq _ => o q hq), by omega⟩
  · have hb : (if b = h.2.1 then some c1 else h.1 b) = some c := hb
    by_cases e : b = h.2.1
    · rw [if_pos e] at hb
      cases hb
      rw [e, ← o1]
      exact hat
    · rw [if_neg e] at hb
      exact (o3 b c hb).kept (o b (o3 b c hb).lt)
  · have hq : (if q = h.2.1 then some c1 else h.1 q) = some c := hq
    by_cases e : q = h.2.1
    · exact i2 q (by omega)
    · rw [if_neg e] at hq
      exact i1 q c hq hwq
end
section
section MMR
variable {G : mm_G} {y : mm_M} {A : Nat → Prop} {L : Nat × Nat} {d pc : Nat} {lv : List (Nat × Value)} {st : List Value} {h : mm_H} {Q : Option Value → mm_H → Prop}
theorem mm_iconst {n : Int} {v : Int32} (hd : decode y.2.1 pc = .ok (.iconst n, 1)) (hv : Int32.ofInt n = v)
    (k : mm_Run G y A L d (pc + 1) lv (.int v :: st) h Q) : mm_Run G y A L d (pc) lv st h Q := by
  intro p e R s m args below meth c H locs ls F Rm Ok hl
  exact lv_iconst F.1 F.2.1 hd hv (k p e R s m args below meth c H locs ls F Rm Ok hl)
theorem mm_bipush {n : Int} {v : Int32} (hd : decode y.2.1 pc = .ok (.bipush n, 2)) (hv : (Int8.ofInt n).toInt32 = v)
    (k : mm_Run G y A L d (pc + 2) lv (.int v :: st) h Q) : mm_Run G y A L d (pc) lv st h Q := by
  intro p e R s m args below meth c H locs ls F Rm Ok hl
  exact lv_bipush F.1 F.2.1 hd hv (k p e R s m args below meth c H locs ls F Rm Ok hl)
theorem mm_sipush {n : Int} {v : Int32} (hd : decode y.2.1 pc = .ok (.sipush n, 3)) (hv : (Int16.ofInt n).toInt32 = v)
    (k : mm_Run G y A L d (pc + 3) lv (.int v :: st) h Q) : mm_Run G y A L d (pc) lv st h Q := by
  intro p e R s m args below meth c H locs ls F Rm Ok hl
  exact lv_sipush F.1 F.2.1 hd hv (k p e R s m args below meth c H locs ls F Rm Ok hl)
theorem mm_lconst {n : Fin 2} {v : Int64} (hd : decode y.2.1 pc = .ok (.lconst n, 1)) (hv : Int64.ofNat (n : Nat) = v)
    (k : mm_Run G y A L d (pc + 1) lv (.long v :: st) h Q) : mm_Run G y A L d (pc) lv st h Q := by
  intro p e R s m args below meth c H locs ls F Rm Ok hl
  exact lv_lconst F.1 F.2.1 hd hv (k p e R s m args below meth c H locs ls F Rm Ok hl)
theorem mm_null  (hd : decode y.2.1 pc = .ok (.aconst_null, 1)) 
    (k : mm_Run G y A L d (pc + 1) lv (.null :: st) h Q) : mm_Run G y A L d (pc) lv st h Q := by
  intro p e R s m args below meth c H locs ls F Rm Ok hl
  exact lv_null F.1 F.2.1 hd (k p e R s m args below meth c H locs ls F Rm Ok hl)
theorem mm_ldc {n : Nat} {v : Int32} (hd : decode y.2.1 pc = .ok (.ldc n, 2)) (hc : Cond.constant y.1.cls n v ∈ mm_tbl)
    (k : mm_Run G y A L d (pc + 2) lv (.int v :: st) h Q) : mm_Run G y A L d (pc) lv st h Q := by
  intro p e R s m args below meth c H locs ls F Rm Ok hl
  exact lv_ldc F.1 F.2.1 F.2.2.2.2.1 (F.2.2.2.2.2.2.2.1 _ hc) hd (k p e R s m args below meth c H locs ls F Rm Ok hl)
theorem mm_ldc_w {n : Nat} {v : Int32} (hd : decode y.2.1 pc = .ok (.ldc_w n, 3)) (hc : Cond.constant y.1.cls n v ∈ mm_tbl)
    (k : mm_Run G y A L d (pc + 3) lv (.int v :: st) h Q) : mm_Run G y A L d (pc) lv st h Q := by
  intro p e R s m args below meth c H locs ls F Rm Ok hl
  exact lv_ldcw F.1 F.2.1 F.2.2.2.2.1 (F.2.2.2.2.2.2.2.1 _ hc) hd (k p e R s m args below meth c H locs ls F Rm Ok hl)
theorem mm_ldc2 {n : Nat} {v : Int64} (hd : decode y.2.1 pc = .ok (.ldc2_w n, 3)) (hc : Cond.constantLong y.1.cls n v ∈ mm_tbl)
    (k : mm_Run G y A L d (pc + 3) lv (.long v :: st) h Q) : mm_Run G y A L d (pc) lv st h Q := by
  intro p e R s m args below meth c H locs ls F Rm Ok hl
  exact lv_ldc2 F.1 F.2.1 F.2.2.2.2.1 (F.2.2.2.2.2.2.2.1 _ hc) hd (k p e R s m args below meth c H locs ls F Rm Ok hl)
theorem mm_iload_n {n : Fin 4} {x : Int32} (hd : decode y.2.1 pc = .ok (.iload_n n, 1)) (hk : mm_lk lv (n : Nat) = some (.int x))
    (k : mm_Run G y A L d (pc + 1) lv (.int x :: st) h Q) : mm_Run G y A L d (pc) lv st h Q := by
  intro p e R s m args below meth c H locs ls F Rm Ok hl
  exact lv_iload_n F.1 F.2.1 hd rfl (hl.2.2 _ _ hk) (k p e R s m args below meth c H locs ls F Rm Ok hl)
theorem mm_iload {n : Nat} {x : Int32} (hd : decode y.2.1 pc = .ok (.iload n, 2)) (hk : mm_lk lv n = some (.int x))
    (k : mm_Run G y A L d (pc + 2) lv (.int x :: st) h Q) : mm_Run G y A L d (pc) lv st h Q := by
  intro p e R s m args below meth c H locs ls F Rm Ok hl
  exact lv_iload F.1 F.2.1 hd (hl.2.2 _ _ hk) (k p e R s m args below meth c H locs ls F Rm Ok hl)
theorem mm_lload_n {n : Fin 4} {x : Int64} (hd : decode y.2.1 pc = .ok (.lload_n n, 1)) (hk : mm_lk lv (n : Nat) = some (.long x))
    (k : mm_Run G y A L d (pc + 1) lv (.long x :: st) h Q) : mm_Run G y A L d (pc) lv st h Q := by
  intro p e R s m args below meth c H locs ls F Rm Ok hl
  exact lv_lload_n F.1 F.2.1 hd rfl (hl.2.2 _ _ hk) (k p e R s m args below meth c H locs ls F Rm Ok hl)
theorem mm_lload {n : Nat} {x : Int64} (hd : decode y.2.1 pc = .ok (.lload n, 2)) (hk : mm_lk lv n = some (.long x))
    (k : mm_Run G y A L d (pc + 2) lv (.long x :: st) h Q) : mm_Run G y A L d (pc) lv st h Q := by
  intro p e R s m args below meth c H locs ls F Rm Ok hl
  exact lv_lload F.1 F.2.1 hd (hl.2.2 _ _ hk) (k p e R s m args below meth c H locs ls F Rm Ok hl)
theorem mm_aload_n {n : Fin 4} {v : Value} (hd : decode y.2.1 pc = .ok (.aload_n n, 1)) (hk : mm_lk lv (n : Nat) = some v) (hv : mm_isr v)
    (k : mm_Run G y A L d (pc + 1) lv (v :: st) h Q) : mm_Run G y A L d (pc) lv st h Q := by
  intro p e R s m args below meth c H locs ls F Rm Ok hl
  cases v with
  | null => exact lv_aload_nN F.1 F.2.1 hd rfl (hl.2.2 _ _ hk) (k p e R s m args below meth c H locs ls F Rm Ok hl)
  | ref a => exact lv_aload_n F.1 F.2.1 hd rfl (hl.2.2 _ _ hk) (k p e R s m args below meth c H locs ls F Rm Ok hl)
  | _ => exact absurd hv id
theorem mm_aload {n : Nat} {v : Value} (hd : decode y.2.1 pc = .ok (.aload n, 2)) (hk : mm_lk lv n = some v) (hv : mm_isr v)
    (k : mm_Run G y A L d (pc + 2) lv (v :: st) h Q) : mm_Run G y A L d (pc) lv st h Q := by
  intro p e R s m args below meth c H locs ls F Rm Ok hl
  cases v with
  | null => exact lv_aloadN F.1 F.2.1 hd (hl.2.2 _ _ hk) (k p e R s m args below meth c H locs ls F Rm Ok hl)
  | ref a => exact lv_aload F.1 F.2.1 hd (hl.2.2 _ _ hk) (k p e R s m args below meth c H locs ls F Rm Ok hl)
  | _ => exact absurd hv id
theorem mm_istore_n {n : Fin 4} {x : Int32} (hd : decode y.2.1 pc = .ok (.istore_n n, 1)) (hn : mm_n2 lv (n : Nat) = true) (hlt : (n : Nat) < y.2.2.1)
    (k : mm_Run G y A L d (pc + 1) (((n : Nat), .int x) :: lv) st h Q) : mm_Run G y A L d (pc) lv (.int x :: st) h Q := by
  intro p e R s m args below meth c H locs ls F Rm Ok hl
  exact lv_istore_n F.1 F.2.1 hd rfl hl.has hlt rfl (fun ls2 hl2 => k p e R s m args below meth c H locs ls2 F Rm Ok (mm_ls.put1 (ls := ls) hn hl2))
theorem mm_lstore_n {n : Fin 4} {x : Int64} (hd : decode y.2.1 pc = .ok (.lstore_n n, 1)) (hn : mm_n2 lv (n : Nat) = true) (hu : mm_lk lv ((n : Nat) + 1) = none) (hlt : (n : Nat) + 1 < y.2.2.1)
    (k : mm_Run G y A L d (pc + 1) (((n : Nat), .long x) :: lv) st h Q) : mm_Run G y A L d (pc) lv (.long x :: st) h Q := by
  intro p e R s m args below meth c H locs ls F Rm Ok hl
  exact lv_lstore_n F.1 F.2.1 hd rfl hl.has hlt rfl (fun ls2 hl2 => k p e R s m args below meth c H locs ls2 F Rm Ok (mm_ls.put2 (ls := ls) hn hu hl2))
theorem mm_astore_n {n : Fin 4} {v : Value} (hd : decode y.2.1 pc = .ok (.astore_n n, 1)) (hv : mm_isr v) (hn : mm_n2 lv (n : Nat) = true) (hlt : (n : Nat) < y.2.2.1)
    (k : mm_Run G y A L d (pc + 1) (((n : Nat), v) :: lv) st h Q) : mm_Run G y A L d (pc) lv (v :: st) h Q := by
  intro p e R s m args below meth c H locs ls F Rm Ok hl
  cases v with
  | null => exact lv_astore_nN F.1 F.2.1 hd rfl hl.has hlt rfl (fun ls2 hl2 => k p e R s m args below meth c H locs ls2 F Rm Ok (mm_ls.put1 (ls := ls) hn hl2))
  | ref a => exact lv_astore_n F.1 F.2.1 hd rfl hl.has hlt rfl (fun ls2 hl2 => k p e R s m args below meth c H locs ls2 F Rm Ok (mm_ls.put1 (ls := ls) hn hl2))
  | _ => exact absurd hv id
theorem mm_istore {n : Nat} {x : Int32} (hd : decode y.2.1 pc = .ok (.istore n, 2)) (hn : mm_n2 lv n = true) (hlt : n < y.2.2.1)
    (k : mm_Run G y A L d (pc + 2) ((n, .int x) :: lv) st h Q) : mm_Run G y A L d (pc) lv (.int x :: st) h Q := by
  intro p e R s m args below meth c H locs ls F Rm Ok hl
  exact lv_istore F.1 F.2.1 hd hl.has hlt rfl (fun ls2 hl2 => k p e R s m args below meth c H locs ls2 F Rm Ok (mm_ls.put1 (ls := ls) hn hl2))
theorem mm_lstore {n : Nat} {x : Int64} (hd : decode y.2.1 pc = .ok (.lstore n, 2)) (hn : mm_n2 lv n = true) (hu : mm_lk lv (n + 1) = none) (hlt : n + 1 < y.2.2.1)
    (k : mm_Run G y A L d (pc + 2) ((n, .long x) :: lv) st h Q) : mm_Run G y A L d (pc) lv (.long x :: st) h Q := by
  intro p e R s m args below meth c H locs ls F Rm Ok hl
  exact lv_lstore F.1 F.2.1 hd hl.has hlt rfl (fun ls2 hl2 => k p e R s m args below meth c H locs ls2 F Rm Ok (mm_ls.put2 (ls := ls) hn hu hl2))
theorem mm_astore {n : Nat} {v : Value} (hd : decode y.2.1 pc = .ok (.astore n, 2)) (hv : mm_isr v) (hn : mm_n2 lv n = true) (hlt : n < y.2.2.1)
    (k : mm_Run G y A L d (pc + 2) ((n, v) :: lv) st h Q) : mm_Run G y A L d (pc) lv (v :: st) h Q := by
  intro p e R s m args below meth c H locs ls F Rm Ok hl
  cases v with
  | null => exact lv_astoreN F.1 F.2.1 hd hl.has hlt rfl (fun ls2 hl2 => k p e R s m args below meth c H locs ls2 F Rm Ok (mm_ls.put1 (ls := ls) hn hl2))
  | ref a => exact lv_astore F.1 F.2.1 hd hl.has hlt rfl (fun ls2 hl2 => k p e R s m args below meth c H locs ls2 F Rm Ok (mm_ls.put1 (ls := ls) hn hl2))
  | _ => exact absurd hv id
theorem mm_iinc {i : Nat} {n : Int} {x v : Int32} (hd : decode y.2.1 pc = .ok (.iinc i n, 3)) (hk : mm_lk lv i = some (.int x)) (hv : x + Int32.ofInt n = v) (hn : mm_n2 lv i = true) (hlt : i < y.2.2.1)
    (k : mm_Run G y A L d (pc + 3) ((i, .int v) :: lv) st h Q) : mm_Run G y A L d (pc) lv st h Q := by
  intro p e R s m args below meth c H locs ls F Rm Ok hl
  obtain ⟨j, hj⟩ := List.getElem?_of_mem (mm_li_mem hk)
  exact lv_iinc F.1 F.2.1 hd hl.has hj hv hlt rfl (fun ls2 hl2 => k p e R s m args below meth c H locs ls2 F Rm Ok (mm_ls.put1 (ls := ls) hn hl2))
theorem mm_iadd {x y1 : Int32} (hd : decode y.2.1 pc = .ok (.iadd, 1)) 
    (k : mm_Run G y A L d (pc + 1) lv (.int (x + y1) :: st) h Q) : mm_Run G y A L d (pc) lv (.int y1 :: .int x :: st) h Q := by
  intro p e R s m args below meth c H locs ls F Rm Ok hl
  exact lv_iadd F.1 F.2.1 hd (k p e R s m args below meth c H locs ls F Rm Ok hl)
theorem mm_isub {x y1 : Int32} (hd : decode y.2.1 pc = .ok (.isub, 1)) 
    (k : mm_Run G y A L d (pc + 1) lv (.int (x - y1) :: st) h Q) : mm_Run G y A L d (pc) lv (.int y1 :: .int x :: st) h Q := by
  intro p e R s m args below meth c H locs ls F Rm Ok hl
  exact lv_isub F.1 F.2.1 hd (k p e R s m args below meth c H locs ls F Rm Ok hl)
theorem mm_imul {x y1 : Int32} (hd : decode y.2.1 pc = .ok (.imul, 1)) 
    (k : mm_Run G y A L d (pc + 1) lv (.int (x * y1) :: st) h Q) : mm_Run G y A L d (pc) lv (.int y1 :: .int x :: st) h Q := by
  intro p e R s m args below meth c H locs ls F Rm Ok hl
  exact lv_imul F.1 F.2.1 hd (k p e R s m args below meth c H locs ls F Rm Ok hl)
theorem mm_iand {x y1 : Int32} (hd : decode y.2.1 pc = .ok (.iand, 1)) 
    (k : mm_Run G y A L d (pc + 1) lv (.int (x &&& y1) :: st) h Q) : mm_Run G y A L d (pc) lv (.int y1 :: .int x :: st) h Q := by
  intro p e R s m args below meth c H locs ls F Rm Ok hl
  exact lv_iand F.1 F.2.1 hd (k p e R s m args below meth c H locs ls F Rm Ok hl)
theorem mm_ior {x y1 : Int32} (hd : decode y.2.1 pc = .ok (.ior, 1)) 
    (k : mm_Run G y A L d (pc + 1) lv (.int (x ||| y1) :: st) h Q) : mm_Run G y A L d (pc) lv (.int y1 :: .int x :: st) h Q := by
  intro p e R s m args below meth c H locs ls F Rm Ok hl
  exact lv_ior F.1 F.2.1 hd (k p e R s m args below meth c H locs ls F Rm Ok hl)
theorem mm_ishl {x y1 : Int32} (hd : decode y.2.1 pc = .ok (.ishl, 1)) 
    (k : mm_Run G y A L d (pc + 1) lv (.int (x <<< (y1 &&& 31)) :: st) h Q) : mm_Run G y A L d (pc) lv (.int y1 :: .int x :: st) h Q := by
  intro p e R s m args below meth c H locs ls F Rm Ok hl
  exact lv_ishl F.1 F.2.1 hd (k p e R s m args below meth c H locs ls F Rm Ok hl)
theorem mm_ishr {x y1 : Int32} (hd : decode y.2.1 pc = .ok (.ishr, 1)) 
    (k : mm_Run G y A L d (pc + 1) lv (.int (x >>> (y1 &&& 31)) :: st) h Q) : mm_Run G y A L d (pc) lv (.int y1 :: .int x :: st) h Q := by
  intro p e R s m args below meth c H locs ls F Rm Ok hl
  exact lv_ishr F.1 F.2.1 hd (k p e R s m args below meth c H locs ls F Rm Ok hl)
theorem mm_idiv {x y1 : Int32} (hd : decode y.2.1 pc = .ok (.idiv, 1)) (hne : ¬ y1 = 0)
    (k : mm_Run G y A L d (pc + 1) lv (.int (x / y1) :: st) h Q) : mm_Run G y A L d (pc) lv (.int y1 :: .int x :: st) h Q := by
  intro p e R s m args below meth c H locs ls F Rm Ok hl
  exact lv_idiv F.1 F.2.1 hd hne (k p e R s m args below meth c H locs ls F Rm Ok hl)
theorem mm_ineg {x : Int32} (hd : decode y.2.1 pc = .ok (.ineg, 1)) 
    (k : mm_Run G y A L d (pc + 1) lv (.int (-x) :: st) h Q) : mm_Run G y A L d (pc) lv (.int x :: st) h Q := by
  intro p e R s m args below meth c H locs ls F Rm Ok hl
  exact lv_ineg F.1 F.2.1 hd (k p e R s m args below meth c H locs ls F Rm Ok hl)
theorem mm_ladd {x y1 : Int64} (hd : decode y.2.1 pc = .ok (.ladd, 1)) 
    (k : mm_Run G y A L d (pc + 1) lv (.long (x + y1) :: st) h Q) : mm_Run G y A L d (pc) lv (.long y1 :: .long x :: st) h Q := by
  intro p e R s m args below meth c H locs ls F Rm Ok hl
  exact lv_ladd F.1 F.2.1 hd (k p e R s m args below meth c H locs ls F Rm Ok hl)
theorem mm_lsub {x y1 : Int64} (hd : decode y.2.1 pc = .ok (.lsub, 1)) 
    (k : mm_Run G y A L d (pc + 1) lv (.long (x - y1) :: st) h Q) : mm_Run G y A L d (pc) lv (.long y1 :: .long x :: st) h Q := by
  intro p e R s m args below meth c H locs ls F Rm Ok hl
  exact lv_lsub F.1 F.2.1 hd (k p e R s m args below meth c H locs ls F Rm Ok hl)
theorem mm_lmul {x y1 : Int64} (hd : decode y.2.1 pc = .ok (.lmul, 1)) 
    (k : mm_Run G y A L d (pc + 1) lv (.long (x * y1) :: st) h Q) : mm_Run G y A L d (pc) lv (.long y1 :: .long x :: st) h Q := by
  intro p e R s m args below meth c H locs ls F Rm Ok hl
  exact lv_lmul F.1 F.2.1 hd (k p e R s m args below meth c H locs ls F Rm Ok hl)
theorem mm_land {x y1 : Int64} (hd : decode y.2.1 pc = .ok (.land, 1)) 
    (k : mm_Run G y A L d (pc + 1) lv (.long (x &&& y1) :: st) h Q) : mm_Run G y A L d (pc) lv (.long y1 :: .long x :: st) h Q := by
  intro p e R s m args below meth c H locs ls F Rm Ok hl
  exact lv_land F.1 F.2.1 hd (k p e R s m args below meth c H locs ls F Rm Ok hl)
theorem mm_lor {x y1 : Int64} (hd : decode y.2.1 pc = .ok (.lor, 1)) 
    (k : mm_Run G y A L d (pc + 1) lv (.long (x ||| y1) :: st) h Q) : mm_Run G y A L d (pc) lv (.long y1 :: .long x :: st) h Q := by
  intro p e R s m args below meth c H locs ls F Rm Ok hl
  exact lv_lor F.1 F.2.1 hd (k p e R s m args below meth c H locs ls F Rm Ok hl)
theorem mm_ldiv {x y1 : Int64} (hd : decode y.2.1 pc = .ok (.ldiv, 1)) (hne : ¬ y1 = 0)
    (k : mm_Run G y A L d (pc + 1) lv (.long (x / y1) :: st) h Q) : mm_Run G y A L d (pc) lv (.long y1 :: .long x :: st) h Q := by
  intro p e R s m args below meth c H locs ls F Rm Ok hl
  exact lv_ldiv F.1 F.2.1 hd hne (k p e R s m args below meth c H locs ls F Rm Ok hl)
theorem mm_lshl {x : Int64} {y1 : Int32} (hd : decode y.2.1 pc = .ok (.lshl, 1)) 
    (k : mm_Run G y A L d (pc + 1) lv (.long (x <<< (y1.toInt64 &&& 63)) :: st) h Q) : mm_Run G y A L d (pc) lv (.int y1 :: .long x :: st) h Q := by
  intro p e R s m args below meth c H locs ls F Rm Ok hl
  exact lv_lshl F.1 F.2.1 hd rfl (k p e R s m args below meth c H locs ls F Rm Ok hl)
theorem mm_lshr {x : Int64} {y1 : Int32} (hd : decode y.2.1 pc = .ok (.lshr, 1)) 
    (k : mm_Run G y A L d (pc + 1) lv (.long (x >>> (y1.toInt64 &&& 63)) :: st) h Q) : mm_Run G y A L d (pc) lv (.int y1 :: .long x :: st) h Q := by
  intro p e R s m args below meth c H locs ls F Rm Ok hl
  exact lv_lshr F.1 F.2.1 hd rfl (k p e R s m args below meth c H locs ls F Rm Ok hl)
theorem mm_lushr {x : Int64} {y1 : Int32} (hd : decode y.2.1 pc = .ok (.lushr, 1)) 
    (k : mm_Run G y A L d (pc + 1) lv (.long ((x.toUInt64 >>> (y1.toInt64.toUInt64 &&& Int64.toUInt64 63)).toInt64) :: st) h Q) : mm_Run G y A L d (pc) lv (.int y1 :: .long x :: st) h Q := by
  intro p e R s m args below meth c H locs ls F Rm Ok hl
  exact lv_lushr F.1 F.2.1 hd rfl (k p e R s m args below meth c H locs ls F Rm Ok hl)
theorem mm_iushr {x y1 : Int32} (hd : decode y.2.1 pc = .ok (.iushr, 1)) 
    (k : mm_Run G y A L d (pc + 1) lv (.int ((x.toUInt32 >>> (y1.toUInt32 &&& Int32.toUInt32 31)).toInt32) :: st) h Q) : mm_Run G y A L d (pc) lv (.int y1 :: .int x :: st) h Q := by
  intro p e R s m args below meth c H locs ls F Rm Ok hl
  exact lv_iushr F.1 F.2.1 hd rfl (k p e R s m args below meth c H locs ls F Rm Ok hl)
theorem mm_i2l {x : Int32} (hd : decode y.2.1 pc = .ok (.i2l, 1)) 
    (k : mm_Run G y A L d (pc + 1) lv (.long x.toInt64 :: st) h Q) : mm_Run G y A L d (pc) lv (.int x :: st) h Q := by
  intro p e R s m args below meth c H locs ls F Rm Ok hl
  exact lv_i2l F.1 F.2.1 hd rfl (k p e R s m args below meth c H locs ls F Rm Ok hl)
theorem mm_l2i {x : Int64} (hd : decode y.2.1 pc = .ok (.l2i, 1)) 
    (k : mm_Run G y A L d (pc + 1) lv (.int x.toInt32 :: st) h Q) : mm_Run G y A L d (pc) lv (.long x :: st) h Q := by
  intro p e R s m args below meth c H locs ls F Rm Ok hl
  exact lv_l2i F.1 F.2.1 hd rfl (k p e R s m args below meth c H locs ls F Rm Ok hl)
theorem mm_i2b {x : Int32} (hd : decode y.2.1 pc = .ok (.i2b, 1)) 
    (k : mm_Run G y A L d (pc + 1) lv (.int x.toInt8.toInt32 :: st) h Q) : mm_Run G y A L d (pc) lv (.int x :: st) h Q := by
  intro p e R s m args below meth c H locs ls F Rm Ok hl
  exact lv_i2b F.1 F.2.1 hd rfl (k p e R s m args below meth c H locs ls F Rm Ok hl)
theorem mm_i2c {x : Int32} (hd : decode y.2.1 pc = .ok (.i2c, 1)) 
    (k : mm_Run G y A L d (pc + 1) lv (.int (x.toUInt32 % 65536).toInt32 :: st) h Q) : mm_Run G y A L d (pc) lv (.int x :: st) h Q := by
  intro p e R s m args below meth c H locs ls F Rm Ok hl
  exact lv_i2c F.1 F.2.1 hd rfl (k p e R s m args below meth c H locs ls F Rm Ok hl)
theorem mm_lcmp {x y1 : Int64} (hd : decode y.2.1 pc = .ok (.lcmp, 1)) 
    (k : mm_Run G y A L d (pc + 1) lv (.int (lg_cmp x y1) :: st) h Q) : mm_Run G y A L d (pc) lv (.long y1 :: .long x :: st) h Q := by
  intro p e R s m args below meth c H locs ls F Rm Ok hl
  exact W.lcmp F.1 F.2.1 hd (k p e R s m args below meth c H locs ls F Rm Ok hl)
theorem mm_dup {v : Value} (hd : decode y.2.1 pc = .ok (.dup, 1)) (hv : v.category = 1)
    (k : mm_Run G y A L d (pc + 1) lv (v :: v :: st) h Q) : mm_Run G y A L d (pc) lv (v :: st) h Q := by
  intro p e R s m args below meth c H locs ls F Rm Ok hl
  exact lv_dup F.1 F.2.1 hd hv (k p e R s m args below meth c H locs ls F Rm Ok hl)
theorem mm_pop {v : Value} (hd : decode y.2.1 pc = .ok (.pop, 1)) (hv : v.category = 1)
    (k : mm_Run G y A L d (pc + 1) lv st h Q) : mm_Run G y A L d (pc) lv (v :: st) h Q := by
  intro p e R s m args below meth c H locs ls F Rm Ok hl
  exact lv_pop F.1 F.2.1 hd hv (k p e R s m args below meth c H locs ls F Rm Ok hl)
theorem mm_dup_x1 {v w : Value} (hd : decode y.2.1 pc = .ok (.dup_x1, 1)) (hv : v.category = 1) (hw : w.category = 1)
    (k : mm_Run G y A L d (pc + 1) lv (v :: w :: v :: st) h Q) : mm_Run G y A L d (pc) lv (v :: w :: st) h Q := by
  intro p e R s m args below meth c H locs ls F Rm Ok hl
  exact lv_dup_x1 F.1 F.2.1 hd hv hw (k p e R s m args below meth c H locs ls F Rm Ok hl)
theorem mm_dup2 {v w : Value} (hd : decode y.2.1 pc = .ok (.dup2, 1)) (hv : v.category = 1) (hw : w.category = 1)
    (k : mm_Run G y A L d (pc + 1) lv (v :: w :: v :: w :: st) h Q) : mm_Run G y A L d (pc) lv (v :: w :: st) h Q := by
  intro p e R s m args below meth c H locs ls F Rm Ok hl
  exact lv_dup2_11 F.1 F.2.1 hd hv hw (k p e R s m args below meth c H locs ls F Rm Ok hl)
theorem mm_pop2 {v : Value} (hd : decode y.2.1 pc = .ok (.pop2, 1)) (hv : v.category = 2)
    (k : mm_Run G y A L d (pc + 1) lv st h Q) : mm_Run G y A L d (pc) lv (v :: st) h Q := by
  intro p e R s m args below meth c H locs ls F Rm Ok hl
  exact lv_pop2_2 F.1 F.2.1 hd hv (k p e R s m args below meth c H locs ls F Rm Ok hl)
theorem mm_if_eq {x : Int32} {off : Int} {tgt : Nat} (hd : decode y.2.1 pc = .ok (.ifCond .eq off, 3)) (ht : (pc : Int) + off = (tgt : Int))
    (kt : x = 0 → mm_Run G y A L d (tgt) lv st h Q) (kf : ¬ (x = 0) → mm_Run G y A L d (pc + 3) lv st h Q) : mm_Run G y A L d (pc) lv (.int x :: st) h Q := by
  intro p e R s m args below meth c H locs ls F Rm Ok hl
  exact lv_if_eq F.1 F.2.1 hd ht (fun q => kt q p e R s m args below meth c H locs ls F Rm Ok hl) (fun q => kf q p e R s m args below meth c H locs ls F Rm Ok hl)
theorem mm_icmp_eq {x y1 : Int32} {off : Int} {tgt : Nat} (hd : decode y.2.1 pc = .ok (.if_icmp .eq off, 3)) (ht : (pc : Int) + off = (tgt : Int))
    (kt : x = y1 → mm_Run G y A L d (tgt) lv st h Q) (kf : ¬ (x = y1) → mm_Run G y A L d (pc + 3) lv st h Q) : mm_Run G y A L d (pc) lv (.int y1 :: .int x :: st) h Q := by
  intro p e R s m args below meth c H locs ls F Rm Ok hl
  exact lv_icmp_eq F.1 F.2.1 hd ht (fun q => kt q p e R s m args below meth c H locs ls F Rm Ok hl) (fun q => kf q p e R s m args below meth c H locs ls F Rm Ok hl)
theorem mm_if_ne {x : Int32} {off : Int} {tgt : Nat} (hd : decode y.2.1 pc = .ok (.ifCond .ne off, 3)) (ht : (pc : Int) + off = (tgt : Int))
    (kt : ¬ x = 0 → mm_Run G y A L d (tgt) lv st h Q) (kf : x = 0 → mm_Run G y A L d (pc + 3) lv st h Q) : mm_Run G y A L d (pc) lv (.int x :: st) h Q := by
  intro p e R s m args below meth c H locs ls F Rm Ok hl
  exact lv_if_ne F.1 F.2.1 hd ht (fun q => kt q p e R s m args below meth c H locs ls F Rm Ok hl) (fun q => kf q p e R s m args below meth c H locs ls F Rm Ok hl)
theorem mm_icmp_ne {x y1 : Int32} {off : Int} {tgt : Nat} (hd : decode y.2.1 pc = .ok (.if_icmp .ne off, 3)) (ht : (pc : Int) + off = (tgt : Int))
    (kt : ¬ x = y1 → mm_Run G y A L d (tgt) lv st h Q) (kf : x = y1 → mm_Run G y A L d (pc + 3) lv st h Q) : mm_Run G y A L d (pc) lv (.int y1 :: .int x :: st) h Q := by
  intro p e R s m args below meth c H locs ls F Rm Ok hl
  exact lv_icmp_ne F.1 F.2.1 hd ht (fun q => kt q p e R s m args below meth c H locs ls F Rm Ok hl) (fun q => kf q p e R s m args below meth c H locs ls F Rm Ok hl)
theorem mm_if_lt {x : Int32} {off : Int} {tgt : Nat} (hd : decode y.2.1 pc = .ok (.ifCond .lt off, 3)) (ht : (pc : Int) + off = (tgt : Int))
    (kt : x < 0 → mm_Run G y A L d (tgt) lv st h Q) (kf : ¬ (x < 0) → mm_Run G y A L d (pc + 3) lv st h Q) : mm_Run G y A L d (pc) lv (.int x :: st) h Q := by
  intro p e R s m args below meth c H locs ls F Rm Ok hl
  exact lv_if_lt F.1 F.2.1 hd ht (fun q => kt q p e R s m args below meth c H locs ls F Rm Ok hl) (fun q => kf q p e R s m args below meth c H locs ls F Rm Ok hl)
theorem mm_icmp_lt {x y1 : Int32} {off : Int} {tgt : Nat} (hd : decode y.2.1 pc = .ok (.if_icmp .lt off, 3)) (ht : (pc : Int) + off = (tgt : Int))
    (kt : x < y1 → mm_Run G y A L d (tgt) lv st h Q) (kf : ¬ (x < y1) → mm_Run G y A L d (pc + 3) lv st h Q) : mm_Run G y A L d (pc) lv (.int y1 :: .int x :: st) h Q := by
  intro p e R s m args below meth c H locs ls F Rm Ok hl
  exact lv_icmp_lt F.1 F.2.1 hd ht (fun q => kt q p e R s m args below meth c H locs ls F Rm Ok hl) (fun q => kf q p e R s m args below meth c H locs ls F Rm Ok hl)
theorem mm_if_ge {x : Int32} {off : Int} {tgt : Nat} (hd : decode y.2.1 pc = .ok (.ifCond .ge off, 3)) (ht : (pc : Int) + off = (tgt : Int))
    (kt : 0 ≤ x → mm_Run G y A L d (tgt) lv st h Q) (kf : ¬ (0 ≤ x) → mm_Run G y A L d (pc + 3) lv st h Q) : mm_Run G y A L d (pc) lv (.int x :: st) h Q := by
  intro p e R s m args below meth c H locs ls F Rm Ok hl
  exact lv_if_ge F.1 F.2.1 hd ht (fun q => kt q p e R s m args below meth c H locs ls F Rm Ok hl) (fun q => kf q p e R s m args below meth c H locs ls F Rm Ok hl)
theorem mm_icmp_ge {x y1 : Int32} {off : Int} {tgt : Nat} (hd : decode y.2.1 pc = .ok (.if_icmp .ge off, 3)) (ht : (pc : Int) + off = (tgt : Int))
    (kt : y1 ≤ x → mm_Run G y A L d (tgt) lv st h Q) (kf : ¬ (y1 ≤ x) → mm_Run G y A L d (pc + 3) lv st h Q) : mm_Run G y A L d (pc) lv (.int y1 :: .int x :: st) h Q := by
  intro p e R s m args below meth c H locs ls F Rm Ok hl
  exact lv_icmp_ge F.1 F.2.1 hd ht (fun q => kt q p e R s m args below meth c H locs ls F Rm Ok hl) (fun q => kf q p e R s m args below meth c H locs ls F Rm Ok hl)
theorem mm_if_gt {x : Int32} {off : Int} {tgt : Nat} (hd : decode y.2.1 pc = .ok (.ifCond .gt off, 3)) (ht : (pc : Int) + off = (tgt : Int))
    (kt : 0 < x → mm_Run G y A L d (tgt) lv st h Q) (kf : ¬ (0 < x) → mm_Run G y A L d (pc + 3) lv st h Q) : mm_Run G y A L d (pc) lv (.int x :: st) h Q := by
  intro p e R s m args below meth c H locs ls F Rm Ok hl
  exact lv_if_gt F.1 F.2.1 hd ht (fun q => kt q p e R s m args below meth c H locs ls F Rm Ok hl) (fun q => kf q p e R s m args below meth c H locs ls F Rm Ok hl)
theorem mm_icmp_gt {x y1 : Int32} {off : Int} {tgt : Nat} (hd : decode y.2.1 pc = .ok (.if_icmp .gt off, 3)) (ht : (pc : Int) + off = (tgt : Int))
    (kt : y1 < x → mm_Run G y A L d (tgt) lv st h Q) (kf : ¬ (y1 < x) → mm_Run G y A L d (pc + 3) lv st h Q) : mm_Run G y A L d (pc) lv (.int y1 :: .int x :: st) h Q := by
  intro p e R s m args below meth c H locs ls F Rm Ok hl
  exact lv_icmp_gt F.1 F.2.1 hd ht (fun q => kt q p e R s m args below meth c H locs ls F Rm Ok hl) (fun q => kf q p e R s m args below meth c H locs ls F Rm Ok hl)
theorem mm_if_le {x : Int32} {off : Int} {tgt : Nat} (hd : decode y.2.1 pc = .ok (.ifCond .le off, 3)) (ht : (pc : Int) + off = (tgt : Int))
    (kt : x ≤ 0 → mm_Run G y A L d (tgt) lv st h Q) (kf : ¬ (x ≤ 0) → mm_Run G y A L d (pc + 3) lv st h Q) : mm_Run G y A L d (pc) lv (.int x :: st) h Q := by
  intro p e R s m args below meth c H locs ls F Rm Ok hl
  exact lv_if_le F.1 F.2.1 hd ht (fun q => kt q p e R s m args below meth c H locs ls F Rm Ok hl) (fun q => kf q p e R s m args below meth c H locs ls F Rm Ok hl)
theorem mm_icmp_le {x y1 : Int32} {off : Int} {tgt : Nat} (hd : decode y.2.1 pc = .ok (.if_icmp .le off, 3)) (ht : (pc : Int) + off = (tgt : Int))
    (kt : x ≤ y1 → mm_Run G y A L d (tgt) lv st h Q) (kf : ¬ (x ≤ y1) → mm_Run G y A L d (pc + 3) lv st h Q) : mm_Run G y A L d (pc) lv (.int y1 :: .int x :: st) h Q := by
  intro p e R s m args below meth c H locs ls F Rm Ok hl
  exact lv_icmp_le F.1 F.2.1 hd ht (fun q => kt q p e R s m args below meth c H locs ls F Rm Ok hl) (fun q => kf q p e R s m args below meth c H locs ls F Rm Ok hl)
theorem mm_goto {off : Int} {tgt : Nat} (hd : decode y.2.1 pc = .ok (.goto off, 3)) (ht : (pc : Int) + off = (tgt : Int)) (k : mm_Run G y A L d (tgt) lv st h Q) : mm_Run G y A L d (pc) lv st h Q := by
  intro p e R s m args below meth c H locs ls F Rm Ok hl
  exact lv_goto F.1 F.2.1 hd ht (k p e R s m args below meth c H locs ls F Rm Ok hl)
theorem mm_ifnull {v : Value} {off : Int} {tgt : Nat} (hd : decode y.2.1 pc = .ok (.ifnull off, 3)) (ht : (pc : Int) + off = (tgt : Int)) (hv : mm_isr v)
    (kt : v = .null → mm_Run G y A L d (tgt) lv st h Q) (kf : ∀ a, v = .ref a → mm_Run G y A L d (pc + 3) lv st h Q) : mm_Run G y A L d (pc) lv (v :: st) h Q := by
  intro p e R s m args below meth c H locs ls F Rm Ok hl
  cases v with
  | null => exact lv_ifnullN F.1 F.2.1 hd ht (kt rfl p e R s m args below meth c H locs ls F Rm Ok hl)
  | ref a => exact lv_ifnull F.1 F.2.1 hd (kf a rfl p e R s m args below meth c H locs ls F Rm Ok hl)
  | _ => exact absurd hv id
theorem mm_ifnonnull {v : Value} {off : Int} {tgt : Nat} (hd : decode y.2.1 pc = .ok (.ifnonnull off, 3)) (ht : (pc : Int) + off = (tgt : Int)) (hv : mm_isr v)
    (kt : ∀ a, v = .ref a → mm_Run G y A L d (tgt) lv st h Q) (kf : v = .null → mm_Run G y A L d (pc + 3) lv st h Q) : mm_Run G y A L d (pc) lv (v :: st) h Q := by
  intro p e R s m args below meth c H locs ls F Rm Ok hl
  cases v with
  | null => exact lv_ifnonnullN F.1 F.2.1 hd (kf rfl p e R s m args below meth c H locs ls F Rm Ok hl)
  | ref a => exact lv_ifnonnull F.1 F.2.1 hd ht (kt a rfl p e R s m args below meth c H locs ls F Rm Ok hl)
  | _ => exact absurd hv id
theorem mm_acmp_eq {v w : Value} {off : Int} {tgt : Nat} (hd : decode y.2.1 pc = .ok (.if_acmp .eq off, 3)) (ht : (pc : Int) + off = (tgt : Int)) (hv : mm_isr v) (hw : mm_isr w)
    (kt : w = v → mm_Run G y A L d (tgt) lv st h Q) (kf : ¬ (w = v) → mm_Run G y A L d (pc + 3) lv st h Q) : mm_Run G y A L d (pc) lv (v :: w :: st) h Q := by
  intro p e R s m args below meth c H locs ls F Rm Ok hl
  obtain ⟨rv, rfl⟩ : ∃ r, v = va_rf r := by
    cases v with
    | null => exact ⟨none, rfl⟩
    | ref a => exact ⟨some a, rfl⟩
    | _ => exact absurd hv id
  obtain ⟨rw1, rfl⟩ : ∃ r, w = va_rf r := by
    cases w with
    | null => exact ⟨none, rfl⟩
    | ref a => exact ⟨some a, rfl⟩
    | _ => exact absurd hw id
  have hi : va_rf rw1 = va_rf rv ↔ rw1 = rv := by
    cases rw1 <;> cases rv <;> simp [va_rf]
  exact lv_acmp_eq F.1 F.2.1 hd ht (fun q => kt (by first | exact hi.mpr q | exact fun z => q (hi.mp z)) p e R s m args below meth c H locs ls F Rm Ok hl) (fun q => kf (by first | exact hi.mpr q | exact fun z => q (hi.mp z)) p e R s m args below meth c H locs ls F Rm Ok hl)
theorem mm_acmp_ne {v w : Value} {off : Int} {tgt : Nat} (hd : decode y.2.1 pc = .ok (.if_acmp .ne off, 3)) (ht : (pc : Int) + off = (tgt : Int)) (hv : mm_isr v) (hw : mm_isr w)
    (kt : ¬ w = v → mm_Run G y A L d (tgt) lv st h Q) (kf : w = v → mm_Run G y A L d (pc + 3) lv st h Q) : mm_Run G y A L d (pc) lv (v :: w :: st) h Q := by
  intro p e R s m args below meth c H locs ls F Rm Ok hl
  obtain ⟨rv, rfl⟩ : ∃ r, v = va_rf r := by
    cases v with
    | null => exact ⟨none, rfl⟩
    | ref a => exact ⟨some a, rfl⟩
    | _ => exact absurd hv id
  obtain ⟨rw1, rfl⟩ : ∃ r, w = va_rf r := by
    cases w with
    | null => exact ⟨none, rfl⟩
    | ref a => exact ⟨some a, rfl⟩
    | _ => exact absurd hw id
  have hi : va_rf rw1 = va_rf rv ↔ rw1 = rv := by
    cases rw1 <;> cases rv <;> simp [va_rf]
  exact lv_acmp_ne F.1 F.2.1 hd ht (fun q => kt (by first | exact hi.mpr q | exact fun z => q (hi.mp z)) p e R s m args below meth c H locs ls F Rm Ok hl) (fun q => kf (by first | exact hi.mpr q | exact fun z => q (hi.mp z)) p e R s m args below meth c H locs ls F Rm Ok hl)
theorem mm_tsw_out {dflt lo hi : Int} {offs : Array Int} {len : Nat} {x : Int32} {tgt : Nat} (hd : decode y.2.1 pc = .ok (.tableswitch dflt lo hi offs, len)) (hx : x.toInt < lo ∨ hi < x.toInt) (ht : (pc : Int) + dflt = (tgt : Int))
    (k : mm_Run G y A L d (tgt) lv st h Q) : mm_Run G y A L d (pc) lv (.int x :: st) h Q := by
  intro p e R s m args below meth c H locs ls F Rm Ok hl
  exact lv_tableOut F.1 F.2.1 hd hx ht (k p e R s m args below meth c H locs ls F Rm Ok hl)
theorem mm_tsw_in {dflt lo hi : Int} {offs : Array Int} {len : Nat} {x : Int32} {off : Int} {tgt : Nat} (hd : decode y.2.1 pc = .ok (.tableswitch dflt lo hi offs, len)) (h1 : ¬ x.toInt < lo) (h2 : ¬ hi < x.toInt) (ho : offs[(x.toInt - lo).toNat]? = some off) (ht : (pc : Int) + off = (tgt : Int))
    (k : mm_Run G y A L d (tgt) lv st h Q) : mm_Run G y A L d (pc) lv (.int x :: st) h Q := by
  intro p e R s m args below meth c H locs ls F Rm Ok hl
  exact lv_tableIn F.1 F.2.1 hd h1 h2 ho ht (k p e R s m args below meth c H locs ls F Rm Ok hl)
theorem mm_lsw {dflt : Int} {ps : Array (Int × Int)} {len : Nat} {x : Int32} {off : Int} {tgt : Nat} (hd : decode y.2.1 pc = .ok (.lookupswitch dflt ps, len)) (hp : (ps.toList.zip (ps.toList.drop 1)).all (fun (a, next) => a.1 < next.1) = true) (ho : Op.lookupswitch.offset ps.toList dflt x.toInt = off) (ht : (pc : Int) + off = (tgt : Int))
    (k : mm_Run G y A L d (tgt) lv st h Q) : mm_Run G y A L d (pc) lv (.int x :: st) h Q := by
  intro p e R s m args below meth c H locs ls F Rm Ok hl
  exact lv_lookup F.1 F.2.1 hd hp ho ht (k p e R s m args below meth c H locs ls F Rm Ok hl)
theorem mm_weak {lv' : List (Nat × Value)} (hs : mm_sub lv lv') (k : mm_Run G y A L d (pc) lv st h Q) : mm_Run G y A L d pc lv' st h Q := by
  intro p e R s m args below meth c H locs ls F Rm Ok hl
  exact k p e R s m args below meth c H locs ls F Rm Ok (hl.sub hs)
theorem mm_post {Q' : Option Value → mm_H → Prop} (hq : ∀ r h1, Q r h1 → Q' r h1) (k : mm_Run G y A L d (pc) lv st h Q) : mm_Run G y A L d pc lv st h Q' := by
  intro p e R s m args below meth c H locs ls F Rm Ok hl T hT X
  obtain ⟨t, a, o, b1, b2, ⟨⟨r, h1, c1, c2, c3⟩, c4⟩, b4⟩ := k p e R s m args below meth c H locs ls F Rm Ok hl T hT X
  exact ⟨t, a, o, b1, b2, ⟨⟨r, h1, c1, hq r h1 c2, c3⟩, c4⟩, b4⟩
theorem mm_iret {v : Int32} (hd : decode y.2.1 pc = .ok (.ireturn, 1)) (hr : y.2.2.2 = some .int) (hq : Q (some (.int v)) h) : mm_Run G y A L d pc lv [.int v] h Q := by
  intro p e R s m args below meth c H locs ls F Rm Ok hl
  have hz := Ok.1.1
  have hz2 := Ok.1.2.1
  have hz3 := Ok.2.2.1
  unfold mm_fit at hz3
  unfold mm_Rm at Rm
  refine W.widen (k := R.cells) (n := R.slots) (by omega) (by omega) ?_
  exact W.iret F.1 F.2.1 (F.2.2.1.trans hr) (fun t ht hW => ⟨⟨_, h, rfl, hq, by rw [ht]; exact Ok.1, Ok.2.1, Ok.2.2.1⟩, Ok.2.2.2.1.F ht⟩) Ok.2.2.2.1.2.2 hd F.2.2.2.2.2.1
theorem mm_zret {v : Int32} {ty : FieldType} (hd : decode y.2.1 pc = .ok (.ireturn, 1)) (hr : y.2.2.2 = some ty) (hn : narrow ty (.int v) = .int v) (hq : Q (some (.int v)) h) : mm_Run G y A L d pc lv [.int v] h Q := by
  intro p e R s m args below meth c H locs ls F Rm Ok hl
  have hz := Ok.1.1
  have hz2 := Ok.1.2.1
  have hz3 := Ok.2.2.1
  unfold mm_fit at hz3
  unfold mm_Rm at Rm
  refine W.widen (k := R.cells) (n := R.slots) (by omega) (by omega) ?_
  exact W.zret F.1 F.2.1 (F.2.2.1.trans hr) hn (fun t ht hW => ⟨⟨_, h, rfl, hq, by rw [ht]; exact Ok.1, Ok.2.1, Ok.2.2.1⟩, Ok.2.2.2.1.F ht⟩) Ok.2.2.2.1.2.2 hd F.2.2.2.2.2.1
theorem mm_lret {v : Int64} (hd : decode y.2.1 pc = .ok (.lreturn, 1)) (hr : y.2.2.2 = some .long) (hq : Q (some (.long v)) h) : mm_Run G y A L d pc lv [.long v] h Q := by
  intro p e R s m args below meth c H locs ls F Rm Ok hl
  have hz := Ok.1.1
  have hz2 := Ok.1.2.1
  have hz3 := Ok.2.2.1
  unfold mm_fit at hz3
  unfold mm_Rm at Rm
  refine W.widen (k := R.cells) (n := R.slots) (by omega) (by omega) ?_
  exact W.lret F.1 F.2.1 (F.2.2.1.trans hr) (fun t ht hW => ⟨⟨_, h, rfl, hq, by rw [ht]; exact Ok.1, Ok.2.1, Ok.2.2.1⟩, Ok.2.2.2.1.F ht⟩) Ok.2.2.2.1.2.2 hd F.2.2.2.2.2.1
theorem mm_vret  (hd : decode y.2.1 pc = .ok (.return_, 1)) (hr : y.2.2.2 = none) (hq : Q none h) : mm_Run G y A L d pc lv [] h Q := by
  intro p e R s m args below meth c H locs ls F Rm Ok hl
  have hz := Ok.1.1
  have hz2 := Ok.1.2.1
  have hz3 := Ok.2.2.1
  unfold mm_fit at hz3
  unfold mm_Rm at Rm
  refine W.widen (k := R.cells) (n := R.slots) (by omega) (by omega) ?_
  exact W.vret F.1 F.2.1 (F.2.2.1.trans hr) (fun t ht hW => ⟨⟨_, h, rfl, hq, by rw [ht]; exact Ok.1, Ok.2.1, Ok.2.2.1⟩, Ok.2.2.2.1.F ht⟩) Ok.2.2.2.1.2.2 hd F.2.2.2.2.2.1
theorem mm_aret {v : Value} {rt : FieldType} (hd : decode y.2.1 pc = .ok (.areturn, 1)) (hr : y.2.2.2 = some rt) (hrt : (∃ n, rt = .object n) ∨ ∃ t, rt = .array t) (hv : mm_isr v) (hq : Q (some v) h) : mm_Run G y A L d pc lv [v] h Q := by
  intro p e R s m args below meth c H locs ls F Rm Ok hl
  have hz := Ok.1.1
  have hz2 := Ok.1.2.1
  have hz3 := Ok.2.2.1
  unfold mm_fit at hz3
  unfold mm_Rm at Rm
  refine W.widen (k := R.cells) (n := R.slots) (by omega) (by omega) ?_
  exact W.aret F.1 F.2.1 (F.2.2.1.trans hr) hrt (by
    cases v with
    | null => exact Or.inl rfl
    | ref a => exact Or.inr ⟨a, rfl⟩
    | _ => exact absurd hv id) (fun t ht hW => ⟨⟨_, h, rfl, hq, by rw [ht]; exact Ok.1, Ok.2.1, Ok.2.2.1⟩, Ok.2.2.2.1.F ht⟩) Ok.2.2.2.1.2.2 hd F.2.2.2.2.2.1
end MMR
end
section
/-! fields -/
section MMH
variable {G : mm_G} {y : mm_M} {A : Nat → Prop} {L : Nat × Nat} {d pc : Nat} {lv : List (Nat × Value)} {st : List Value} {h : mm_H} {Q : Option Value → mm_H → Prop}
theorem mm_mod_of {c k : Nat} (hk : k % 200 = c) (hc : Nat.blt c 100 = true) : Nat.blt (k % 200) 100 = true := by rw [hk]; exact hc
theorem mm_get {a kd idx c j : Nat} {fs : List Value} {v : Value} (hd : decode y.2.1 pc = .ok (.getfield idx, 3)) (hl0 : mm_fl y.1.cls idx c j) (hc : h.1 a = some (kd, fs)) (hk : kd % 200 = c) (hv : fs[j]? = some v)
    (k : mm_Run G y A L d (pc + 3) lv (v :: st) h Q) : mm_Run G y A L d pc lv (.ref a :: st) h Q := by
  intro p e R s m args below meth c0 H locs ls F Rm Ok hl
  obtain ⟨hc1, C, T, N, hcl, hj, hin, hlink⟩ := hl0
  obtain ⟨cell, q1, q2, q3, q4, q5⟩ := Ok.1.2.2 a _ hc
  unfold mm_body at q5
  rw [if_pos (mm_mod_of hk hc1)] at q5
  obtain ⟨q6, q, q7, q8, q9⟩ := q5
  rw [show (kd, fs).1 % 200 = c from hk] at q6 q7 q9
  have hK := F.2.2.2.2.2.2.2.2
  have hts := F.2.2.2.2.2.2.2.1
  obtain ⟨hS, hfc, kC, hkC, hkind⟩ := hK.1 c _ hcl
  obtain ⟨cf, kf, fi, f, hi, hsl⟩ := hS j hj
  refine W.getf F.1 F.2.1 F.2.2.2.2.1 (hts _ hlink) hi (u_facts hfc hkC (u_lays hts hin hj) hi).1 q1 q2 (v := v) ?_ rfl rfl hd (k p e R s m args below meth c0 H locs ls F Rm Ok hl)
  rw [hsl]
  exact q9 j v hv
theorem mm_put {a kd idx c j : Nat} {fs : List Value} {v : Value} {ty : FieldType} (hd : decode y.2.1 pc = .ok (.putfield idx, 3)) (hl0 : mm_pl y.1.cls y.1.name idx c j ty) (hc : h.1 a = some (kd, fs)) (hk : kd = c) (hn : narrow ty v = v) (hf : fits ty v = true)
    (k : mm_Run G y A L d (pc + 3) lv st (mm_set h a (kd, fs.set j v)) Q) : mm_Run G y A L d pc lv (v :: .ref a :: st) h Q := by
  intro p e R s m args below meth c0 H locs ls F Rm Ok hl
  subst hk
  obtain ⟨hc1, C, T, N, ty0, hcl, hj, hin, hlink, hty, hnm, hd0, hfin⟩ := hl0
  have hlt : kd < 100 := Nat.le_of_ble_eq_true hc1
  have hm : kd % 200 = kd := Nat.mod_eq_of_lt (by omega)
  have hw : mm_wr kd = true := Nat.ble_eq_true_of_le (by omega)
  have hcell0 := Ok.1.2.2 a _ hc
  obtain ⟨cell, q1, q2, q3, q4, q5⟩ := hcell0
  unfold mm_body at q5
  rw [if_pos (mm_mod_of hm hc1)] at q5
  obtain ⟨q6, q, q7, q8, q9⟩ := q5
  rw [show (kd, fs).1 % 200 = kd from hm] at q6 q7 q9
  have hqe : q = (C, T, N) := Option.some.inj (q7.symm.trans hcl)
  subst hqe
  have q8 : fs.length = N := q8
  have q4 : cell.vm = .none := q4 hw
  have hK := F.2.2.2.2.2.2.2.2
  have hts := F.2.2.2.2.2.2.2.1
  obtain ⟨hS, hfc, kC, hkC, hkind⟩ := hK.1 kd _ hcl
  obtain ⟨cf, kf, fi, f, hi, hsl⟩ := hS j hj
  have hst := (u_facts hfc hkC (u_lays hts hin hj) hi).1
  have hd1 : parseFieldDescriptor (T j).2.2.1 = some ty := by rw [hty j hj, hd0]
  have hap : ∀ x z, x < N → z < N → x ≠ z → (G.2.2.1 kd) x ≠ (G.2.2.1 kd) z := by
    intro x z hx hz hne
    obtain ⟨_, _, _, fa, hia, ea⟩ := hS x hx
    obtain ⟨_, _, _, fb, hib, eb⟩ := hS z hz
    rw [← ea, ← eb]
    refine u_apart (u_lays hts hin hx) (u_lays hts hin hz) hia hib ?_
    rw [(State.fieldFound?_type hia (hty x hx)).1, (State.fieldFound?_type hib (hty z hz)).1]
    exact hnm x hx z hz hne
  have hslot : ∃ w, cell.slots[(G.2.2.1 kd) j]? = some w := by
    have : j < fs.length := by omega
    exact ⟨fs[j], q9 j fs[j] (List.getElem?_eq_getElem this)⟩
  obtain ⟨w0, hw0⟩ := hslot
  have fin : ∀ H' : Heap, H'[a]? = some (cell.setSlot f.slot v) → H'.size = H.size → (∀ q, q ≠ a → H'[q]? = H[q]?) → W p G.1 e R s m args below meth c0 H' (locs ++ [⟨a, f.slot⟩]) (H.size - s.heap.size) (mm_tot H - mm_tot s.heap) (MQ below (mm_Qc G L A Q) args s R.cells R.slots A) (F0 m (pc + 3) ls st) := by
    intro H' e1 e2 e3
    refine mm_tight (fun _ => k p e R s m args below meth c0 H' _ ls F Rm (Ok.upd (k := f.slot) hc hw q1 e1 e2 e3 (k2_slotsz cell f.slot v) ?_) hl)
    refine ⟨_, e1, by show cell.vm ≠ _; exact q2, q3, fun _ => q4, ?_⟩
    unfold mm_body
    rw [if_pos (mm_mod_of hm hc1)]
    rw [show (kd, fs.set j v).1 % 200 = kd from hm]
    refine ⟨q6, (C, T, N), hcl, by show (fs.set j v).length = N; rw [List.length_set]; exact q8, fun i u hu => ?_⟩
    have hu : (fs.set j v)[i]? = some u := hu
    show (cell.slots.setIfInBounds f.slot v)[(G.2.2.1 kd) i]? = some u
    have hil : i < fs.length := by
      have := (List.getElem?_eq_some_iff.mp hu).1
      rw [List.length_set] at this
      exact this
    by_cases hij : i = j
    · subst hij
      rw [List.getElem?_set_self hil] at hu
      cases hu
      rw [hsl]
      have := k2_hasslot hw0
      simp [Array.getElem?_setIfInBounds, this]
    · rw [List.getElem?_set_ne (fun e => hij e.symm)] at hu
      rw [hsl, Array.getElem?_setIfInBounds_ne (fun e => hap j i hj (by omega) (fun e => hij e.symm) e)]
      exact q9 i u hu
  have hlay := hts _ (hin _ (u_in_lay hj))
  unfold u_lay at hlay
  rcases hfin with hfin | ⟨hfin, hini, hdecl⟩
  · rw [if_neg (by rw [hfin]; decide)] at hlay
    have h6 := u_store hfc hkC hkind hlay hi hd1 hn hf
    exact W.putK F.1 F.2.1 (f := f) ⟨F.2.2.2.2.1, hts _ hlink, ⟨_, _, _, hi⟩, hst⟩ (by rw [q6]; exact h6) q1 q4 (by rw [hsl]; exact k2_hasslot hw0) rfl rfl hd fin
  · rw [if_pos hfin] at hlay
    have hcf : m.cls = cf := by
      obtain ⟨_, _, c', _, _, _, -, -, hf', -, -, -, hown2, -⟩ := Cond.laysFinal_spec hlay
      have e1 : c' = cf := by have := hi.symm.trans hf'; simp at this; exact this.1.symm
      rw [hdecl] at hown2
      rw [← e1]; exact Option.some.inj (F.2.2.2.2.1.symm.trans hown2)
    have h6 := u_fits hfc hkC hkind (Or.inr hlay) hi hd1 hn hf
    exact W.putFinK F.1 F.2.1 F.2.2.2.2.1 (hts _ hlink) hi hst hcf (F.2.2.2.2.2.2.1.trans hini) (by rw [q6]; exact h6) q1 q4 (by rw [hsl]; exact k2_hasslot hw0) rfl rfl hd fin
theorem mm_new {idx c : Nat} {fs : List Value} (hd : decode y.2.1 pc = .ok (.new idx, 3)) (hl0 : mm_nl y.1.cls idx c fs) (hL1 : h.2.1 + 1 ≤ L.1) (hL2 : h.2.2 + fs.length ≤ L.2)
    (k : mm_Run G y A L d (pc + 3) lv (.ref h.2.1 :: st) (mm_push h (c, fs)) Q) : mm_Run G y A L d pc lv st h Q := by
  intro p e R s m args below meth c0 H locs ls F Rm Ok hl
  obtain ⟨hc1, C, T, N, ty0, hcl, hin, hty, hfs, hclink, hinst, hini⟩ := hl0
  have hlt : c < 100 := Nat.le_of_ble_eq_true hc1
  have hm : c % 200 = c := Nat.mod_eq_of_lt (by omega)
  have hK := F.2.2.2.2.2.2.2.2
  have hts := F.2.2.2.2.2.2.2.1
  have hKn := hK.1 c _ hcl
  have hz := Ok.1.1
  have hz2 := Ok.1.2.1
  have hz5 := Ok.2.2.2.2.2
  have hsz := Ok.2.2.2.1.1
  have hfl : fs.length = N := by rw [hfs, List.length_map, List.length_range]
  unfold mm_Rm at Rm
  refine W.newcK F.1 F.2.1 F.2.2.2.2.1 (hts _ hclink) (hts _ hinst) (hts _ hini) (g := F0 m pc ls st) rfl hd (by omega) (by omega) hKn.2.1 rfl fun H1 kC hkC e1 z1 o1 => ?_
  have hOB := u_born ty0 hts hin hKn hkC e1 hty
  have hn : kC.instanceTypes.size = N := by
    obtain ⟨cC, kC2, g1, g2, g3, -, -, g4⟩ := Cond.instantiable_spec (hts _ hinst)
    have e2 : cC = G.2.1 c := Option.some.inj (g1.symm.trans hKn.2.1)
    subst e2
    have e3 : kC2 = kC := Option.some.inj (g2.symm.trans hkC)
    rw [← e3]
    exact g4
  refine mm_tight (fun _ => ?_)
  have key := k p e R s m args below meth c0 H1 locs ls F Rm (Ok.new (c1 := (c, fs)) e1 z1 o1 ?_ ?_ hL1 hL2) hl
  · rw [hz]
    exact key
  · obtain ⟨cell, g1, g2, g3, g4⟩ := hOB
    refine ⟨cell, g1, (by rw [g3]; exact fun z => by cases z), (by rw [g3]; rfl), fun _ => g3, ?_⟩
    unfold mm_body
    rw [if_pos (mm_mod_of hm hc1)]
    rw [show (c, fs).1 % 200 = c from hm]
    refine ⟨g2, (C, T, N), hcl, hfl, fun j v hv => ?_⟩
    have hv : fs[j]? = some v := hv
    have hjl : j < N := by rw [← hfl]; exact (List.getElem?_eq_some_iff.mp hv).1
    rw [g4 j hjl]
    rw [hfs, List.getElem?_map, List.getElem?_range hjl] at hv
    exact hv
  · show (blank _ kC).slots.size = fs.length
    rw [hfl, ← hn]
    simp [blank]
/-! arrays -/
theorem mm_arrat {a kd : Nat} {vs : List Value} {ty : FieldType} {t : Nat} {s : State} {H : Heap} (hK : mm_K G s) (hat : mm_at G a (kd, vs) H) (hk : kd % 200 = 100 + t) (ht : mm_arr[t]? = some ty) : ∃ cell : Cell, H[a]? = some cell ∧ cell.vm ≠ .unknown ∧ (mm_wr kd = true → cell.vm = .none) ∧ cell.vm.isStatics = false ∧ cell.cls = G.2.2.2.1 t ∧ s.isArrayOf cell ty ∧ cell.slots.toList = vs := by
  obtain ⟨cell, q1, q2, q3, q4, q5⟩ := hat
  unfold mm_body at q5
  rw [if_neg (by rw [show (kd, vs).1 % 200 = 100 + t from hk]; intro z; have := Nat.le_of_ble_eq_true z; omega)] at q5
  rw [show (kd, vs).1 % 200 = 100 + t from hk, show 100 + t - 100 = t by omega] at q5
  obtain ⟨q6, q7, q8⟩ := q5
  refine ⟨cell, q1, q2, q4, q3, q6, ⟨fun z hz => ?_, ?_⟩, q7⟩
  · rw [hz] at q3
    cases q3
  · have hAr := (hK.2.1 t ty ht).1 0 (fun _ => .null)
    rw [q6]
    exact hAr.2
theorem mm_alen {a kd t : Nat} {vs : List Value} (hd : decode y.2.1 pc = .ok (.arraylength, 1)) (hc : h.1 a = some (kd, vs)) (hk : kd % 200 = 100 + t) (ht : t < mm_arr.length)
    (k : mm_Run G y A L d (pc + 1) lv (.int (nI vs.length) :: st) h Q) : mm_Run G y A L d pc lv (.ref a :: st) h Q := by
  intro p e R s m args below meth c0 H locs ls F Rm Ok hl
  obtain ⟨cell, q1, q2, q4, q3, q6, q5, q7⟩ := mm_arrat F.2.2.2.2.2.2.2.2 (Ok.1.2.2 a _ hc) hk (List.getElem?_eq_getElem ht)
  refine W.alen F.1 F.2.1 q1 q5 (n := nI vs.length) ?_ rfl rfl hd (k p e R s m args below meth c0 H locs ls F Rm Ok hl)
  rw [← q7, Array.length_toList]
  rfl
theorem mm_vin {j : Int32} {cell : Cell} {vs : List Value} {v : Value} (h0 : ¬ j < 0) (e : cell.slots.toList = vs) (hv : vs[j.toNatClampNeg]? = some v) : ¬ (j < 0 ∨ cell.slots.size ≤ j.toNatClampNeg) ∧ cell.slots[j.toNatClampNeg]? = some v := by
  have hl := (List.getElem?_eq_some_iff.mp hv).1
  rw [← e, Array.length_toList] at hl
  refine ⟨fun z => z.elim h0 (fun z => by omega), ?_⟩
  rw [← Array.getElem?_toList, e]
  exact hv
theorem mm_iald {a kd : Nat} {vs : List Value} {j : Int32} {v : Value} (hd : decode y.2.1 pc = .ok (.iaload, 1)) (hc : h.1 a = some (kd, vs)) (hk : kd % 200 = 100 + 0) (h0 : ¬ j < 0) (hv : vs[j.toNatClampNeg]? = some v)
    (k : mm_Run G y A L d (pc + 1) lv (v :: st) h Q) : mm_Run G y A L d pc lv (.int j :: .ref a :: st) h Q := by
  intro p e R s m args below meth c0 H locs ls F Rm Ok hl
  obtain ⟨cell, q1, q2, q4, q3, q6, q5, q7⟩ := mm_arrat (ty := .int) F.2.2.2.2.2.2.2.2 (Ok.1.2.2 a _ hc) hk rfl
  exact W.iald F.1 F.2.1 q1 q5 q2 (mm_vin h0 q7 hv).1 (mm_vin h0 q7 hv).2 rfl rfl hd (k p e R s m args below meth c0 H locs ls F Rm Ok hl)
theorem mm_bald {a kd : Nat} {vs : List Value} {j : Int32} {v : Value} (hd : decode y.2.1 pc = .ok (.baload, 1)) (hc : h.1 a = some (kd, vs)) (hk : kd % 200 = 100 + 1) (h0 : ¬ j < 0) (hv : vs[j.toNatClampNeg]? = some v)
    (k : mm_Run G y A L d (pc + 1) lv (v :: st) h Q) : mm_Run G y A L d pc lv (.int j :: .ref a :: st) h Q := by
  intro p e R s m args below meth c0 H locs ls F Rm Ok hl
  obtain ⟨cell, q1, q2, q4, q3, q6, q5, q7⟩ := mm_arrat (ty := .byte) F.2.2.2.2.2.2.2.2 (Ok.1.2.2 a _ hc) hk rfl
  exact W.bald F.1 F.2.1 q1 q5 q2 (mm_vin h0 q7 hv).1 (mm_vin h0 q7 hv).2 rfl rfl hd (k p e R s m args below meth c0 H locs ls F Rm Ok hl)
theorem mm_zald {a kd : Nat} {vs : List Value} {j : Int32} {v : Value} (hd : decode y.2.1 pc = .ok (.baload, 1)) (hc : h.1 a = some (kd, vs)) (hk : kd % 200 = 100 + 2) (h0 : ¬ j < 0) (hv : vs[j.toNatClampNeg]? = some v)
    (k : mm_Run G y A L d (pc + 1) lv (v :: st) h Q) : mm_Run G y A L d pc lv (.int j :: .ref a :: st) h Q := by
  intro p e R s m args below meth c0 H locs ls F Rm Ok hl
  obtain ⟨cell, q1, q2, q4, q3, q6, q5, q7⟩ := mm_arrat (ty := .boolean) F.2.2.2.2.2.2.2.2 (Ok.1.2.2 a _ hc) hk rfl
  exact W.zald F.1 F.2.1 q1 q5 q2 (mm_vin h0 q7 hv).1 (mm_vin h0 q7 hv).2 rfl rfl hd (k p e R s m args below meth c0 H locs ls F Rm Ok hl)
theorem mm_lald {a kd : Nat} {vs : List Value} {j : Int32} {v : Value} (hd : decode y.2.1 pc = .ok (.laload, 1)) (hc : h.1 a = some (kd, vs)) (hk : kd % 200 = 100 + 3) (h0 : ¬ j < 0) (hv : vs[j.toNatClampNeg]? = some v)
    (k : mm_Run G y A L d (pc + 1) lv (v :: st) h Q) : mm_Run G y A L d pc lv (.int j :: .ref a :: st) h Q := by
  intro p e R s m args below meth c0 H locs ls F Rm Ok hl
  obtain ⟨cell, q1, q2, q4, q3, q6, q5, q7⟩ := mm_arrat (ty := .long) F.2.2.2.2.2.2.2.2 (Ok.1.2.2 a _ hc) hk rfl
  exact W.lald F.1 F.2.1 q1 q5 q2 (mm_vin h0 q7 hv).1 (mm_vin h0 q7 hv).2 rfl rfl hd (k p e R s m args below meth c0 H locs ls F Rm Ok hl)
theorem mm_aald {a kd t : Nat} {vs : List Value} {j : Int32} {v : Value} {ty : FieldType} (hd : decode y.2.1 pc = .ok (.aaload, 1)) (hc : h.1 a = some (kd, vs)) (hk : kd % 200 = 100 + t) (ht : mm_arr[t]? = some ty) (hty : ty.isReference = true) (h0 : ¬ j < 0) (hv : vs[j.toNatClampNeg]? = some v)
    (k : mm_Run G y A L d (pc + 1) lv (v :: st) h Q) : mm_Run G y A L d pc lv (.int j :: .ref a :: st) h Q := by
  intro p e R s m args below meth c0 H locs ls F Rm Ok hl
  obtain ⟨cell, q1, q2, q4, q3, q6, q5, q7⟩ := mm_arrat (ty := ty) F.2.2.2.2.2.2.2.2 (Ok.1.2.2 a _ hc) hk ht
  exact W.aald F.1 F.2.1 q1 q5 hty q2 (mm_vin h0 q7 hv).1 (mm_vin h0 q7 hv).2 rfl rfl hd (k p e R s m args below meth c0 H locs ls F Rm Ok hl)
theorem mm_updA {A : Nat → Prop} {L : Nat × Nat} {s : State} {H H' : Heap} {locs : List Loc} {a kd i : Nat} {vs : List Value} {v : Value} {cell : Cell} {t : Nat} (Ok : mm_ok G A L h s H locs) (hc : h.1 a = some (kd, vs)) (hw : mm_wr kd = true) (hk : kd % 200 = 100 + t) (ht : t < mm_arr.length) (q1 : H[a]? = some cell) (q3 : cell.vm = .none) (q6 : cell.cls = G.2.2.2.1 t) (q7 : cell.slots.toList = vs) (e1 : H'[a]? = some (cell.setSlot i v)) (z : H'.size = H.size) (oq : ∀ q : Nat, q ≠ a → H'[q]? = H[q]?) : mm_ok G A L (mm_set h a (kd, vs.set i v)) s H' (locs ++ [⟨a, i⟩]) := by
  refine Ok.upd hc hw q1 e1 z oq (k2_slotsz cell i v) ⟨_, e1, ?_, ?_, fun _ => q3, ?_⟩
  · show cell.vm ≠ _
    rw [q3]
    exact fun z => by cases z
  · show cell.vm.isStatics = false
    rw [q3]
    rfl
  · unfold mm_body
    rw [if_neg (by rw [show (kd, vs.set i v).1 % 200 = 100 + t from hk]; intro z; have := Nat.le_of_ble_eq_true z; omega)]
    rw [show (kd, vs.set i v).1 % 200 = 100 + t from hk, show 100 + t - 100 = t by omega]
    refine ⟨q6, ?_, ht⟩
    show (cell.slots.setIfInBounds i v).toList = vs.set i v
    rw [Array.toList_setIfInBounds, q7]
theorem mm_iast {a kd : Nat} {vs : List Value} {j : Int32} {x : Int32} (hd : decode y.2.1 pc = .ok (.iastore, 1)) (hc : h.1 a = some (kd, vs)) (hk : kd = 100 + 0) (h0 : ¬ j < 0) (hj : j.toNatClampNeg < vs.length)
    (k : mm_Run G y A L d (pc + 1) lv st (mm_set h a (kd, vs.set j.toNatClampNeg (.int x))) Q) : mm_Run G y A L d pc lv (.int x :: .int j :: .ref a :: st) h Q := by
  intro p e R s m args below meth c0 H locs ls F Rm Ok hl
  subst hk
  obtain ⟨cell, q1, q2, q4, q3, q6, q5, q7⟩ := mm_arrat (ty := .int) (t := 0) F.2.2.2.2.2.2.2.2 (Ok.1.2.2 a _ hc) rfl rfl
  exact W.iast F.1 F.2.1 q1 q5 q2 (mm_vin h0 q7 (List.getElem?_eq_getElem hj)).1 rfl rfl hd (fun H' e1 z oq => mm_tight (fun _ => k p e R s m args below meth c0 H' _ ls F Rm (mm_updA (t := 0) Ok hc rfl rfl (by decide) q1 (q4 rfl) q6 q7 e1 z oq) hl))
theorem mm_bast {a kd : Nat} {vs : List Value} {j : Int32} {x : Int32} (hd : decode y.2.1 pc = .ok (.bastore, 1)) (hc : h.1 a = some (kd, vs)) (hk : kd = 100 + 1) (h0 : ¬ j < 0) (hj : j.toNatClampNeg < vs.length)
    (k : mm_Run G y A L d (pc + 1) lv st (mm_set h a (kd, vs.set j.toNatClampNeg (narrow .byte (.int x)))) Q) : mm_Run G y A L d pc lv (.int x :: .int j :: .ref a :: st) h Q := by
  intro p e R s m args below meth c0 H locs ls F Rm Ok hl
  subst hk
  obtain ⟨cell, q1, q2, q4, q3, q6, q5, q7⟩ := mm_arrat (ty := .byte) (t := 1) F.2.2.2.2.2.2.2.2 (Ok.1.2.2 a _ hc) rfl rfl
  exact W.bast F.1 F.2.1 q1 q5 q2 (mm_vin h0 q7 (List.getElem?_eq_getElem hj)).1 rfl rfl hd (fun H' e1 z oq => mm_tight (fun _ => k p e R s m args below meth c0 H' _ ls F Rm (mm_updA (t := 1) Ok hc rfl rfl (by decide) q1 (q4 rfl) q6 q7 e1 z oq) hl))
theorem mm_zast {a kd : Nat} {vs : List Value} {j : Int32} {x : Int32} (hd : decode y.2.1 pc = .ok (.bastore, 1)) (hc : h.1 a = some (kd, vs)) (hk : kd = 100 + 2) (h0 : ¬ j < 0) (hj : j.toNatClampNeg < vs.length)
    (k : mm_Run G y A L d (pc + 1) lv st (mm_set h a (kd, vs.set j.toNatClampNeg (narrow .boolean (.int x)))) Q) : mm_Run G y A L d pc lv (.int x :: .int j :: .ref a :: st) h Q := by
  intro p e R s m args below meth c0 H locs ls F Rm Ok hl
  subst hk
  obtain ⟨cell, q1, q2, q4, q3, q6, q5, q7⟩ := mm_arrat (ty := .boolean) (t := 2) F.2.2.2.2.2.2.2.2 (Ok.1.2.2 a _ hc) rfl rfl
  exact W.zast F.1 F.2.1 q1 q5 q2 (mm_vin h0 q7 (List.getElem?_eq_getElem hj)).1 rfl rfl hd (fun H' e1 z oq => mm_tight (fun _ => k p e R s m args below meth c0 H' _ ls F Rm (mm_updA (t := 2) Ok hc rfl rfl (by decide) q1 (q4 rfl) q6 q7 e1 z oq) hl))
theorem mm_last {a kd : Nat} {vs : List Value} {j : Int32} {x : Int64} (hd : decode y.2.1 pc = .ok (.lastore, 1)) (hc : h.1 a = some (kd, vs)) (hk : kd = 100 + 3) (h0 : ¬ j < 0) (hj : j.toNatClampNeg < vs.length)
    (k : mm_Run G y A L d (pc + 1) lv st (mm_set h a (kd, vs.set j.toNatClampNeg (.long x))) Q) : mm_Run G y A L d pc lv (.long x :: .int j :: .ref a :: st) h Q := by
  intro p e R s m args below meth c0 H locs ls F Rm Ok hl
  subst hk
  obtain ⟨cell, q1, q2, q4, q3, q6, q5, q7⟩ := mm_arrat (ty := .long) (t := 3) F.2.2.2.2.2.2.2.2 (Ok.1.2.2 a _ hc) rfl rfl
  exact W.last F.1 F.2.1 q1 q5 q2 (mm_vin h0 q7 (List.getElem?_eq_getElem hj)).1 rfl rfl hd (fun H' e1 z oq => mm_tight (fun _ => k p e R s m args below meth c0 H' _ ls F Rm (mm_updA (t := 3) Ok hc rfl rfl (by decide) q1 (q4 rfl) q6 q7 e1 z oq) hl))
theorem mm_aastN {a kd t : Nat} {vs : List Value} {j : Int32} {C : String} (hd : decode y.2.1 pc = .ok (.aastore, 1)) (hc : h.1 a = some (kd, vs)) (hk : kd = 100 + t) (ht : mm_arr[t]? = some (.object C)) (h0 : ¬ j < 0) (hj : j.toNatClampNeg < vs.length)
    (k : mm_Run G y A L d (pc + 1) lv st (mm_set h a (kd, vs.set j.toNatClampNeg .null)) Q) : mm_Run G y A L d pc lv (.null :: .int j :: .ref a :: st) h Q := by
  intro p e R s m args below meth c0 H locs ls F Rm Ok hl
  have hlt : t < mm_arr.length := (List.getElem?_eq_some_iff.mp ht).1
  have hlt2 : t < 100 := Nat.lt_of_lt_of_le hlt (by decide)
  have hm : kd % 200 = 100 + t := by rw [hk]; exact Nat.mod_eq_of_lt (by omega)
  have hw : mm_wr kd = true := Nat.ble_eq_true_of_le (by omega)
  obtain ⟨cell, q1, q2, q4, q3, q6, q5, q7⟩ := mm_arrat (ty := .object C) F.2.2.2.2.2.2.2.2 (Ok.1.2.2 a _ hc) hm ht
  exact va_WaastN (C := C) F.1 F.2.1 q1 q5 q2 (mm_vin h0 q7 (List.getElem?_eq_getElem hj)).1 rfl rfl hd (fun H' e1 z oq => mm_tight (fun _ => k p e R s m args below meth c0 H' _ ls F Rm (mm_updA (t := t) Ok hc hw hm hlt q1 (q4 hw) q6 q7 e1 z oq) hl))
theorem mm_aast {a kd t b kb cb : Nat} {vs fs : List Value} {j : Int32} {C : String} {T : u_T} {N : Nat} (hd : decode y.2.1 pc = .ok (.aastore, 1)) (hc : h.1 a = some (kd, vs)) (hk : kd = 100 + t) (ht : mm_arr[t]? = some (.object C)) (hb : h.1 b = some (kb, fs)) (hkb : kb % 200 = cb) (hcb : Nat.blt cb 100 = true) (hcl : mm_cls[cb]? = some (C, T, N)) (h0 : ¬ j < 0) (hj : j.toNatClampNeg < vs.length)
    (k : mm_Run G y A L d (pc + 1) lv st (mm_set h a (kd, vs.set j.toNatClampNeg (.ref b))) Q) : mm_Run G y A L d pc lv (.ref b :: .int j :: .ref a :: st) h Q := by
  intro p e R s m args below meth c0 H locs ls F Rm Ok hl
  have hlt : t < mm_arr.length := (List.getElem?_eq_some_iff.mp ht).1
  have hlt2 : t < 100 := Nat.lt_of_lt_of_le hlt (by decide)
  have hm : kd % 200 = 100 + t := by rw [hk]; exact Nat.mod_eq_of_lt (by omega)
  have hw : mm_wr kd = true := Nat.ble_eq_true_of_le (by omega)
  have hK := F.2.2.2.2.2.2.2.2
  obtain ⟨cell, q1, q2, q4, q3, q6, q5, q7⟩ := mm_arrat (ty := .object C) hK (Ok.1.2.2 a _ hc) hm ht
  obtain ⟨cellV, g1, g2, g3, g4, g5⟩ := Ok.1.2.2 b _ hb
  unfold mm_body at g5
  rw [if_pos (mm_mod_of hkb hcb)] at g5
  obtain ⟨g6, -⟩ := g5
  rw [show (kb, fs).1 % 200 = cb from hkb] at g6
  have hcls := (hK.1 cb _ hcl).2
  obtain ⟨kA, comp, k1, k2, k3, -⟩ := (hK.2.1 t _ ht).2
  have hcomp : comp = G.2.1 cb := Option.some.inj (k3.symm.trans hcls.1)
  subst hcomp
  obtain ⟨kC, hkC, -⟩ := hcls.2
  have hv := mm_vin h0 q7 (List.getElem?_eq_getElem hj)
  exact W.aast F.1 F.2.1 q1 (fun q hq => by rw [hq] at q3; cases q3) q2 (by rw [q6]; exact k1) k2 rfl hkC ⟨h0, Nat.not_le.mp fun q => hv.1 (Or.inr q)⟩ g1 (fun q hq => by rw [hq] at g3; cases g3) (by rw [g6]; exact hkC) (by rw [g6]; exact va_assign hcls) rfl rfl hd (fun H' e1 z oq => mm_tight (fun _ => k p e R s m args below meth c0 H' _ ls F Rm (mm_updA (t := t) Ok hc hw hm hlt q1 (q4 hw) q6 q7 e1 z oq) hl))
theorem mm_bornA {A : Nat → Prop} {L : Nat × Nat} {s : State} {H H' : Heap} {locs : List Loc} {t N : Nat} {cA : ClassId} {v : Value} (Ok : mm_ok G A L h s H locs) (hA : cA = G.2.2.2.1 t) (ht : t < mm_arr.length) (e1 : H'[H.size]? = some (arrV cA N (fun _ => v))) (z : H'.size = H.size + 1) (o : ∀ q : Nat, q < H.size → H'[q]? = H[q]?) (hL1 : h.2.1 + 1 ≤ L.1) (hL2 : h.2.2 + N ≤ L.2) : mm_ok G A L (mm_push h (100 + t, List.replicate N v)) s H' locs := by
  have hlt2 : t < 100 := Nat.lt_of_lt_of_le ht (by decide)
  have hm : (100 + t) % 200 = 100 + t := Nat.mod_eq_of_lt (by omega)
  rw [← arrV_new] at e1
  refine Ok.new e1 z o ⟨_, e1, (fun z => by cases z), rfl, fun _ => rfl, ?_⟩ (by simp) hL1 (by simpa using hL2)
  unfold mm_body
  rw [if_neg (by rw [show ((100 + t, List.replicate N v) : mm_C).1 % 200 = 100 + t from hm]; intro z; have := Nat.le_of_ble_eq_true z; omega)]
  rw [show ((100 + t, List.replicate N v) : mm_C).1 % 200 = 100 + t from hm, show 100 + t - 100 = t by omega]
  exact ⟨hA, by simp, ht⟩
theorem mm_newa_int {n : Int32} {N : Nat} (hd : decode y.2.1 pc = .ok (.newarray .int, 2)) (hw : Cond.arrayClass .int ∈ mm_tbl) (hn : ¬ n < 0) (hN : n.toNatClampNeg = N) (hbt : N ≤ 60000000) (hL1 : h.2.1 + 1 ≤ L.1) (hL2 : h.2.2 + N ≤ L.2)
    (k : mm_Run G y A L d (pc + 2) lv (.ref h.2.1 :: st) (mm_push h (100, List.replicate N (.int 0))) Q) : mm_Run G y A L d pc lv (.int n :: st) h Q := by
  intro p e R s m args below meth c0 H locs ls F Rm Ok hl
  have hK := F.2.2.2.2.2.2.2.2
  have hts := F.2.2.2.2.2.2.2.1
  have hz := Ok.1.1
  have hz2 := Ok.1.2.1
  have hz5 := Ok.2.2.2.2.2
  have hsz := Ok.2.2.2.1.1
  unfold mm_Rm at Rm
  refine va_newaK F.1 F.2.1 (atype := .int) (hts _ hw) (g := F0 m pc ls (.int n :: st)) rfl hd rfl hn hN (Nat.le_trans (Nat.mul_le_mul_left N (show componentBytes .int ≤ 8 by decide)) (by omega)) (by omega) (by omega) hz fun H1 cA e1 z1 o1 hAr hNm => ?_
  have hA : cA = G.2.2.2.1 0 := Option.some.inj (hNm.symm.trans (hK.2.1 0 .int rfl).2)
  refine mm_tight (fun _ => ?_)
  exact k p e R s m args below meth c0 H1 locs ls F Rm (mm_bornA (t := 0) Ok hA (by decide) (by rw [hz]; exact e1) (by rw [hz]; exact z1) (fun q hq => o1 q (by omega)) hL1 hL2) hl
theorem mm_newa_byte {n : Int32} {N : Nat} (hd : decode y.2.1 pc = .ok (.newarray .byte, 2)) (hw : Cond.arrayClass .byte ∈ mm_tbl) (hn : ¬ n < 0) (hN : n.toNatClampNeg = N) (hbt : N ≤ 60000000) (hL1 : h.2.1 + 1 ≤ L.1) (hL2 : h.2.2 + N ≤ L.2)
    (k : mm_Run G y A L d (pc + 2) lv (.ref h.2.1 :: st) (mm_push h (101, List.replicate N (.int 0))) Q) : mm_Run G y A L d pc lv (.int n :: st) h Q := by
  intro p e R s m args below meth c0 H locs ls F Rm Ok hl
  have hK := F.2.2.2.2.2.2.2.2
  have hts := F.2.2.2.2.2.2.2.1
  have hz := Ok.1.1
  have hz2 := Ok.1.2.1
  have hz5 := Ok.2.2.2.2.2
  have hsz := Ok.2.2.2.1.1
  unfold mm_Rm at Rm
  refine va_newaK F.1 F.2.1 (atype := .byte) (hts _ hw) (g := F0 m pc ls (.int n :: st)) rfl hd rfl hn hN (Nat.le_trans (Nat.mul_le_mul_left N (show componentBytes .byte ≤ 8 by decide)) (by omega)) (by omega) (by omega) hz fun H1 cA e1 z1 o1 hAr hNm => ?_
  have hA : cA = G.2.2.2.1 1 := Option.some.inj (hNm.symm.trans (hK.2.1 1 .byte rfl).2)
  refine mm_tight (fun _ => ?_)
  exact k p e R s m args below meth c0 H1 locs ls F Rm (mm_bornA (t := 1) Ok hA (by decide) (by rw [hz]; exact e1) (by rw [hz]; exact z1) (fun q hq => o1 q (by omega)) hL1 hL2) hl
theorem mm_newa_boolean {n : Int32} {N : Nat} (hd : decode y.2.1 pc = .ok (.newarray .boolean, 2)) (hw : Cond.arrayClass .boolean ∈ mm_tbl) (hn : ¬ n < 0) (hN : n.toNatClampNeg = N) (hbt : N ≤ 60000000) (hL1 : h.2.1 + 1 ≤ L.1) (hL2 : h.2.2 + N ≤ L.2)
    (k : mm_Run G y A L d (pc + 2) lv (.ref h.2.1 :: st) (mm_push h (102, List.replicate N (.int 0))) Q) : mm_Run G y A L d pc lv (.int n :: st) h Q := by
  intro p e R s m args below meth c0 H locs ls F Rm Ok hl
  have hK := F.2.2.2.2.2.2.2.2
  have hts := F.2.2.2.2.2.2.2.1
  have hz := Ok.1.1
  have hz2 := Ok.1.2.1
  have hz5 := Ok.2.2.2.2.2
  have hsz := Ok.2.2.2.1.1
  unfold mm_Rm at Rm
  refine va_newaK F.1 F.2.1 (atype := .boolean) (hts _ hw) (g := F0 m pc ls (.int n :: st)) rfl hd rfl hn hN (Nat.le_trans (Nat.mul_le_mul_left N (show componentBytes .boolean ≤ 8 by decide)) (by omega)) (by omega) (by omega) hz fun H1 cA e1 z1 o1 hAr hNm => ?_
  have hA : cA = G.2.2.2.1 2 := Option.some.inj (hNm.symm.trans (hK.2.1 2 .boolean rfl).2)
  refine mm_tight (fun _ => ?_)
  exact k p e R s m args below meth c0 H1 locs ls F Rm (mm_bornA (t := 2) Ok hA (by decide) (by rw [hz]; exact e1) (by rw [hz]; exact z1) (fun q hq => o1 q (by omega)) hL1 hL2) hl
theorem mm_newa_long {n : Int32} {N : Nat} (hd : decode y.2.1 pc = .ok (.newarray .long, 2)) (hw : Cond.arrayClass .long ∈ mm_tbl) (hn : ¬ n < 0) (hN : n.toNatClampNeg = N) (hbt : N ≤ 60000000) (hL1 : h.2.1 + 1 ≤ L.1) (hL2 : h.2.2 + N ≤ L.2)
    (k : mm_Run G y A L d (pc + 2) lv (.ref h.2.1 :: st) (mm_push h (103, List.replicate N (.long 0))) Q) : mm_Run G y A L d pc lv (.int n :: st) h Q := by
  intro p e R s m args below meth c0 H locs ls F Rm Ok hl
  have hK := F.2.2.2.2.2.2.2.2
  have hts := F.2.2.2.2.2.2.2.1
  have hz := Ok.1.1
  have hz2 := Ok.1.2.1
  have hz5 := Ok.2.2.2.2.2
  have hsz := Ok.2.2.2.1.1
  unfold mm_Rm at Rm
  refine va_newaK F.1 F.2.1 (atype := .long) (hts _ hw) (g := F0 m pc ls (.int n :: st)) rfl hd rfl hn hN (Nat.le_trans (Nat.mul_le_mul_left N (show componentBytes .long ≤ 8 by decide)) (by omega)) (by omega) (by omega) hz fun H1 cA e1 z1 o1 hAr hNm => ?_
  have hA : cA = G.2.2.2.1 3 := Option.some.inj (hNm.symm.trans (hK.2.1 3 .long rfl).2)
  refine mm_tight (fun _ => ?_)
  exact k p e R s m args below meth c0 H1 locs ls F Rm (mm_bornA (t := 3) Ok hA (by decide) (by rw [hz]; exact e1) (by rw [hz]; exact z1) (fun q hq => o1 q (by omega)) hL1 hL2) hl
theorem mm_anew {n : Int32} {N t idx i : Nat} {C : String} (hd : decode y.2.1 pc = .ok (.anewarray idx, 3)) (hcl : Cond.classLink y.1.cls idx C ∈ mm_tbl) (hov : mm_over[i]? = some C) (ht : mm_arr[t]? = some (.object C)) (hn : ¬ n < 0) (hN : n.toNatClampNeg = N) (hbt : N ≤ 60000000) (hL1 : h.2.1 + 1 ≤ L.1) (hL2 : h.2.2 + N ≤ L.2)
    (k : mm_Run G y A L d (pc + 3) lv (.ref h.2.1 :: st) (mm_push h (100 + t, List.replicate N .null)) Q) : mm_Run G y A L d pc lv (.int n :: st) h Q := by
  intro p e R s m args below meth c0 H locs ls F Rm Ok hl
  have hK := F.2.2.2.2.2.2.2.2
  have hts := F.2.2.2.2.2.2.2.1
  have hlt : t < mm_arr.length := (List.getElem?_eq_some_iff.mp ht).1
  have hz := Ok.1.1
  have hz2 := Ok.1.2.1
  have hz5 := Ok.2.2.2.2.2
  have hsz := Ok.2.2.2.1.1
  unfold mm_Rm at Rm
  subst hN
  refine W.anew F.1 F.2.1 F.2.2.2.2.1 (hts _ hcl) (va_AO.use (hK.2.2.2.2 i C hov)) (g := F0 m pc ls (.int n :: st)) rfl hd rfl hn (by omega) (by omega) (by omega) fun cA kA comp f1 f2 f3 f4 => ?_
  generalize hH1 : H.push ({ cls := cA, slots := Array.replicate n.toNatClampNeg .null, vm := .none } : Cell) = H1
  have z1 : H1.size = H.size + 1 := by rw [← hH1, Array.size_push]
  have e1 : H1[H.size]? = some (arrV cA n.toNatClampNeg (fun _ => .null)) := by rw [← hH1, Array.getElem?_push_size, ← arrV_new]
  have o1 : ∀ q : Nat, q < H.size → H1[q]? = H[q]? := fun q hq => by rw [← hH1, Array.getElem?_push, if_neg (Nat.ne_of_lt hq)]
  obtain ⟨kA2, comp2, -, -, -, g4⟩ := (hK.2.1 t _ ht).2
  have hA : cA = G.2.2.2.1 t := Option.some.inj (f1.symm.trans g4)
  refine mm_tight (fun _ => ?_)
  rw [hz]
  exact k p e R s m args below meth c0 H1 locs ls F Rm (mm_bornA (t := t) Ok hA hlt e1 z1 o1 hL1 hL2) hl
end MMH
end
section
/-! calls -/
theorem mm_wsG {args : Array Value} {s : State} {y : mm_M} (hts : ∀ w ∈ mm_tbl, w.before args s = true) (hc : Cond.code y.1 y.2.1 y.2.2.1 y.2.2.2 ∈ mm_tbl) : ∀ w ∈ mm_ws y, ∀ (a' : Array Value) (U : State), s.WarmedH U.vm → w.before a' U = true :=
  pay_in hts (fun w hw => by
    rcases List.mem_cons.mp hw with e | e
    · rw [e]; exact ⟨hc, mm_tblG _ hc⟩
    · exact ⟨e, mm_tblG _ e⟩)
theorem mm_len {desc : String} {n : Nat} (h : (parseMethodDescriptor desc).map (fun d => d.parameters.length) = some n) : ∀ sig, parseMethodDescriptor desc = some sig → n = sig.parameters.length := by
  intro sig hs
  rw [hs] at h
  exact (Option.some.inj h).symm
theorem mm_Pc_blind {G : mm_G} {av : List Value} {h : mm_H} : FrameBlind (mm_Pc G av h) := by
  intro a U g mk hq
  obtain ⟨q0, q1, q2, q3⟩ := hq
  refine ⟨q0, q1, mm_K.warm (s := U) (U := U.calling g mk a) (State.WarmedH.refl U) q2, fun i r hr => va_Z.moved (u := U) (U := U.calling g mk a) (Vm.Alike.refl U.vm) (q3 i r hr)⟩
theorem mm_Pc_of {G : mm_G} {y : mm_M} {A : Nat → Prop} {L : Nat × Nat} {h : mm_H} {av : List Value} {p : Program} {s : State} {m : MethodId} {args : Array Value} {meth : Method} {c : Code} {H : Heap} {locs : List Loc} (F : mm_Fix G y p s m args meth c) (Ok : mm_ok G A L h s H locs) : ∀ U : State, U.heap = H → s.WarmedH U.vm → mm_Pc G av h av.toArray U := by
  intro U hU hW
  refine ⟨rfl, by rw [hU]; exact Ok.1, mm_K.warm hW F.2.2.2.2.2.2.2.2, fun i r hr => ?_⟩
  rw [hU]
  exact va_Z.moved hW.alike (Ok.2.2.2.2.1 i r hr)
section MMA
variable {p : Program} {G : mm_G} {e : Env} {R : Room} {s : State} {m : MethodId} {args : Array Value} {below : List Frame} {meth : Method} {c : Code} {H : Heap} {locs : List Loc} {cells slots mc ms : Nat} {Qs : State → Prop}
/-- behind a call -/
theorem mm_after {A : Nat → Prop} {L : Nat × Nat} {h : mm_H} {Q1 : Option Value → mm_H → Prop} {av : Array Value} {pc : Nat} {ls : Array Slot} {st0 rest : List Value} (hr : va_Run p G.1 e R s m args below meth c H locs cells slots mc ms (F0 m pc ls st0) rest (mm_Qc G L A Q1 av) A) (Ok : mm_ok G A L h s H locs)
    (kk : ∀ (r : Option Value) (h1 : mm_H) (H1 : Heap) (locs1 : List Loc), Q1 r h1 → mm_ok G A L h1 s H1 locs1 → W p G.1 e R s m args below meth c H1 locs1 (H1.size - s.heap.size) (mm_tot H1 - mm_tot s.heap) Qs (F0 m (pc + 3) ls (r.toList ++ rest))) : W p G.1 e R s m args below meth c H locs cells slots Qs (F0 m pc ls st0) := by
  intro T hT X
  obtain ⟨v, st₀, t, T', L', h0, X', hL, e1, e2, ⟨⟨r, h1, hv, hq, hp1, hin1, hfit1⟩, hF⟩, st⟩ := hr T hT X
  cases hv
  obtain ⟨X2, ht2⟩ := mm_tightX rfl X'
  obtain ⟨⟨o1, o2, o3⟩, ⟨i1, i2, i3⟩, f, S, Z, t0⟩ := Ok
  have hz : H.size ≤ T'.heap.size := by rw [e1, ← h0]; exact hF.1
  have hk : ∀ q : Nat, q < H.size → ¬ A q → T'.heap[q]? = H[q]? := fun q g1 g2 => by rw [e1, ← h0]; exact hF.2 q (by rw [h0]; exact g1) g2
  obtain ⟨t2, a1, b1⟩ := kk v h1 T'.heap (locs ++ L') hq ⟨by rw [e1]; exact hp1, hin1, hfit1, ⟨Nat.le_trans S.1 hz, fun q g1 g2 => by rw [hk q (Nat.lt_of_lt_of_le g1 S.1) g2]; exact S.2.1 q g1 g2, fun q hq' => by
    rcases List.mem_append.mp hq' with g | g
    · exact S.2.2 q g
    · exact hL q g⟩, Z.kept (fun q g1 g2 => hk q g1 (fun z => g2 (i3 q z))), ht2⟩ T' rfl X2
  exact ⟨t2, st t2 a1, b1⟩
end MMA
section MMC
variable {G : mm_G} {y : mm_M} {A : Nat → Prop} {L : Nat × Nat} {d pc : Nat} {lv : List (Nat × Value)} {st : List Value} {h : mm_H} {Q : Option Value → mm_H → Prop}
/-- a contract out of a walk -/
theorem mm_Ok.of {av : List Value} (lv0 : List (Nat × Value)) (hlv : lv_args 0 av = lv0) (hy : plainName y.1.cls = true) (hn : Nat.ble (lg_sl av).length y.2.2.1 = true) (k : ∀ A, mm_Run G y A L d 0 lv0 [] h Q) : mm_Ok G y L d av h Q := by
  intro A hin hfit
  subst hlv
  refine Met.ofW (cc := y.2.1) (maxL := y.2.2.1) (ret := y.2.2.2) (ws' := mm_tbl) hy rfl ?_
  intro p e s m args below meth c s₁ B hml hv
  obtain ⟨rfl, hhp, hK, hZ⟩ := hv
  have hts := atoms_spec (ws := mm_ws y) B.pre
  rw [lg_entry_eq]
  have hl := lv_entry av (n := y.2.2.1) (Nat.le_of_ble_eq_true hn)
  have hz := hhp.1
  have hz2 := hhp.2.1
  have hfit2 := hfit
  unfold mm_fit at hfit2
  have key := k A p e (headSpec (mm_ws y) (mm_room L d h)).room s m av.toArray below meth c s.heap [] _ ⟨B.exec, B.bytes, B.returns, hml, findClass_of_methodNamed B.named, B.notSynchronized, (name_of_methodNamed B.named B.method).1, fun w hw => hts w (List.mem_cons_of_mem _ hw), hK⟩ ⟨Nat.le_refl _, Nat.le_refl _, (by show L.1 ≤ s.heap.size + (L.1 - h.2.1); omega), (by show L.2 ≤ mm_tot s.heap + (L.2 - h.2.2); omega)⟩ ⟨hhp, hin, hfit, va_S.rf, hZ, Nat.le_refl _⟩ (mm_ls.of hl)
  rw [Nat.sub_self, Nat.sub_self] at key
  exact key
theorem mm_rooms {R : Room} {s : State} {H : Heap} {locs : List Loc} {y' : mm_M} (Rm : mm_Rm L (d + 1) R s) (Ok : mm_ok G A L h s H locs) (hm : Nat.ble y'.2.2.1 40 = true) : ((mm_room L d h).frames + 1 ≤ R.frames ∧ 8 + (y'.2.2.1 + 11) + (mm_room L d h).locals ≤ R.locals) ∧ ((H.size - s.heap.size) + (L.1 - h.2.1) ≤ R.cells ∧ (mm_tot H - mm_tot s.heap) + (L.2 - h.2.2) ≤ R.slots) := by
  have h1 := Ok.1.1
  have h2 := Ok.1.2.1
  have h3 := Ok.2.2.1
  have h4 := Ok.2.2.2.1.1
  have h5 := Ok.2.2.2.2.2
  have h6 := Nat.le_of_ble_eq_true hm
  unfold mm_fit at h3
  unfold mm_Rm at Rm
  refine ⟨⟨?_, ?_⟩, ?_, ?_⟩
  · show d + 1 ≤ R.frames
    omega
  · show 8 + (y'.2.2.1 + 11) + 64 * d ≤ R.locals
    omega
  · omega
  · omega
theorem mm_CallB {R : Room} {s : State} {H : Heap} {locs : List Loc} {y' : mm_M} {args : Array Value} {p : Program} {m : MethodId} {meth : Method} {c : Code} {idx n : Nat} (F : mm_Fix G y p s m args meth c) (Rm : mm_Rm L (d + 1) R s) (Ok : mm_ok G A L h s H locs) (hcd : mm_cd y' n) (hl : Cond.methodLink y.1.cls idx y'.1 ∈ mm_tbl) : CallB R s args y.1.cls idx y'.1 y'.2.1 y'.2.2.1 y'.2.2.2 (mm_ws y') (mm_room L d h) (L.1 - h.2.1) (L.2 - h.2.2) n := by
  obtain ⟨c1, c2, c3, c4, c5, c6⟩ := hcd
  have hts := F.2.2.2.2.2.2.2.1
  have hr := (mm_rooms (y' := y') Rm Ok c5).1
  exact ⟨rfl, rfl, hr.1, hr.2, mm_wsG hts c1, List.mem_cons_self, hts _ c1, hts _ c2, c3, mm_len c4, hts _ hl⟩
theorem mm_CallN {R : Room} {s : State} {H : Heap} {locs : List Loc} {y' : mm_M} {args : Array Value} {p : Program} {m : MethodId} {meth : Method} {c : Code} {idx n i : Nat} {host : String} (F : mm_Fix G y p s m args meth c) (Rm : mm_Rm L (d + 1) R s) (Ok : mm_ok G A L h s H locs) (hcd : mm_cd y' n) (hl : mm_nest[i]? = some (y.1.cls, idx, y'.1, host)) : va_CN R s args y.1.cls idx y'.1 host y'.2.1 y'.2.2.1 y'.2.2.2 (mm_ws y') (mm_room L d h) (L.1 - h.2.1) (L.2 - h.2.2) n := by
  obtain ⟨c1, c2, c3, c4, c5, c6⟩ := hcd
  have hts := F.2.2.2.2.2.2.2.1
  have hr := (mm_rooms (y' := y') Rm Ok c5).1
  exact ⟨⟨rfl, rfl, hr.1, hr.2, mm_wsG hts c1, List.mem_cons_self⟩, hts _ c1, hts _ c2, c3, mm_len c4, va_Nw.use rfl (F.2.2.2.2.2.2.2.2.2.2.2.1 i _ hl)⟩
theorem mm_fixC {p : Program} {s : State} {m : MethodId} {args : Array Value} {meth : Method} {c : Code} (F : mm_Fix G y p s m args meth c) : CallFix p m c y.2.1 y.2.2.1 s args mm_tbl y.1.cls := ⟨F.1, F.2.1, F.2.2.2.1, F.2.2.2.2.1, F.2.2.2.2.2.2.2.1⟩
theorem mm_callV {y' : mm_M} {idx n c b kd : Nat} {As rest fs : List Value} {Q1 : Option Value → mm_H → Prop} (hd : decode y.2.1 pc = .ok (.invokevirtual idx, 3)) (hl0 : mm_vl y.1.cls idx c y' n) (hok : mm_Ok G y' L d (.ref b :: As) h Q1) (hc : h.1 b = some (kd, fs)) (hk : kd % 200 = c) (hst : st = As.reverse ++ .ref b :: rest) (hn : As.length = n) (hrm : (rest.map fun v => v.category).sum ≤ 8)
    (k : ∀ (r : Option Value) (h1 : mm_H), Q1 r h1 → mm_Run G y A L (d + 1) (pc + 3) lv (r.toList ++ rest) h1 Q) : mm_Run G y A L (d + 1) pc lv st h Q := by
  intro p e R s m args below meth c0 H locs ls F Rm Ok hl
  obtain ⟨hcd, hlink, hinst, hsel, hc1, T, N, hcl⟩ := hl0
  have hts := F.2.2.2.2.2.2.2.1
  obtain ⟨cell, q1, q2, q3, q4, q5⟩ := Ok.1.2.2 b _ hc
  unfold mm_body at q5
  rw [if_pos (mm_mod_of hk hc1)] at q5
  obtain ⟨q6, -⟩ := q5
  rw [show (kd, fs).1 % 200 = c from hk] at q6
  have hfc := (F.2.2.2.2.2.2.2.2.1 c _ hcl).2.1
  refine mm_after (va_runV (As := As) (rest := rest) (C := y'.1.cls) (g := F0 m pc ls st) (mm_fixC F) (hok A Ok.2.1 Ok.2.2.1) ⟨mm_CallB F Rm Ok hcd hlink, hts _ hinst, hts _ hsel⟩ ⟨mm_Pc_blind, ⟨cell, q1, q3, by rw [q6]; exact hfc⟩, mm_Pc_of F Ok⟩ rfl hn hl.1 hst (lv_room hrm) hd (mm_rooms (y' := y') Rm Ok hcd.2.2.2.2.1).2) Ok ?_
  intro r h1 H1 locs1 hq Ok1
  exact k r h1 hq p e R s m args below meth c0 H1 locs1 ls F Rm Ok1 hl
theorem mm_callS {y' : mm_M} {idx n : Nat} {As rest : List Value} {Q1 : Option Value → mm_H → Prop} (hd : decode y.2.1 pc = .ok (.invokestatic idx, 3)) (hl0 : mm_sl y.1.cls idx y' n) (hok : mm_Ok G y' L d As h Q1) (hst : st = As.reverse ++ rest) (hn : As.length = n) (hrm : (rest.map fun v => v.category).sum ≤ 8)
    (k : ∀ (r : Option Value) (h1 : mm_H), Q1 r h1 → mm_Run G y A L (d + 1) (pc + 3) lv (r.toList ++ rest) h1 Q) : mm_Run G y A L (d + 1) pc lv st h Q := by
  intro p e R s m args below meth c0 H locs ls F Rm Ok hl
  obtain ⟨hcd, hlink, hstt⟩ := hl0
  have hts := F.2.2.2.2.2.2.2.1
  refine mm_after (va_runS (As := As) (rest := rest) (g := F0 m pc ls st) (mm_fixC F) (hok A Ok.2.1 Ok.2.2.1) ⟨mm_CallB F Rm Ok hcd hlink, hts _ hstt⟩ ⟨mm_Pc_blind, mm_Pc_of F Ok⟩ rfl hn hl.1 hst (lv_room hrm) hd (mm_rooms (y' := y') Rm Ok hcd.2.2.2.2.1).2) Ok ?_
  intro r h1 H1 locs1 hq Ok1
  exact k r h1 hq p e R s m args below meth c0 H1 locs1 ls F Rm Ok1 hl
theorem mm_callI {y' : mm_M} {idx n b : Nat} {As rest : List Value} {Q1 : Option Value → mm_H → Prop} (hd : decode y.2.1 pc = .ok (.invokespecial idx, 3)) (hl0 : mm_il y.1.cls idx y' n) (hok : mm_Ok G y' L d (.ref b :: As) h Q1) (hst : st = As.reverse ++ .ref b :: rest) (hn : As.length = n) (hrm : (rest.map fun v => v.category).sum ≤ 8)
    (k : ∀ (r : Option Value) (h1 : mm_H), Q1 r h1 → mm_Run G y A L (d + 1) (pc + 3) lv (r.toList ++ rest) h1 Q) : mm_Run G y A L (d + 1) pc lv st h Q := by
  intro p e R s m args below meth c0 H locs ls F Rm Ok hl
  obtain ⟨hcd, hlink, hnm, hinst, hret⟩ := hl0
  have hts := F.2.2.2.2.2.2.2.1
  have hB := mm_CallB (d := d) F Rm Ok hcd hlink
  rw [hret] at hB
  refine mm_after (va_runI (As := As) (rest := rest) (g := F0 m pc ls st) (mm_fixC F) (hok A Ok.2.1 Ok.2.2.1) ⟨hB, hnm, hts _ hinst⟩ ⟨mm_Pc_blind, mm_Pc_of F Ok⟩ rfl hn hl.1 hst (lv_room hrm) hd (mm_rooms (y' := y') Rm Ok hcd.2.2.2.2.1).2) Ok ?_
  intro r h1 H1 locs1 hq Ok1
  exact k r h1 hq p e R s m args below meth c0 H1 locs1 ls F Rm Ok1 hl
theorem mm_callSN {y' : mm_M} {idx n i : Nat} {As rest : List Value} {Q1 : Option Value → mm_H → Prop} (hd : decode y.2.1 pc = .ok (.invokestatic idx, 3)) (hl0 : mm_snl y.1.cls idx i y' n) (hok : mm_Ok G y' L d As h Q1) (hst : st = As.reverse ++ rest) (hn : As.length = n) (hrm : (rest.map fun v => v.category).sum ≤ 8)
    (k : ∀ (r : Option Value) (h1 : mm_H), Q1 r h1 → mm_Run G y A L (d + 1) (pc + 3) lv (r.toList ++ rest) h1 Q) : mm_Run G y A L (d + 1) pc lv st h Q := by
  intro p e R s m args below meth c0 H locs ls F Rm Ok hl
  obtain ⟨hcd, ⟨host, hnst⟩, hstt⟩ := hl0
  have hts := F.2.2.2.2.2.2.2.1
  refine mm_after (va_runSN (As := As) (rest := rest) (g := F0 m pc ls st) (mm_fixC F) (hok A Ok.2.1 Ok.2.2.1) ⟨mm_CallN F Rm Ok hcd hnst, hts _ hstt, trivial⟩ ⟨mm_Pc_blind, mm_Pc_of F Ok⟩ rfl hn hl.1 hst (lv_room hrm) hd (mm_rooms (y' := y') Rm Ok hcd.2.2.2.2.1).2) Ok ?_
  intro r h1 H1 locs1 hq Ok1
  exact k r h1 hq p e R s m args below meth c0 H1 locs1 ls F Rm Ok1 hl
theorem mm_callIN {y' : mm_M} {idx n b i : Nat} {As rest : List Value} {Q1 : Option Value → mm_H → Prop} (hd : decode y.2.1 pc = .ok (.invokespecial idx, 3)) (hl0 : mm_inl y.1.cls idx i y' n) (hok : mm_Ok G y' L d (.ref b :: As) h Q1) (hst : st = As.reverse ++ .ref b :: rest) (hn : As.length = n) (hrm : (rest.map fun v => v.category).sum ≤ 8)
    (k : ∀ (r : Option Value) (h1 : mm_H), Q1 r h1 → mm_Run G y A L (d + 1) (pc + 3) lv (r.toList ++ rest) h1 Q) : mm_Run G y A L (d + 1) pc lv st h Q := by
  intro p e R s m args below meth c0 H locs ls F Rm Ok hl
  obtain ⟨hcd, ⟨host, hnst⟩, hnm, hinst, hret⟩ := hl0
  have hts := F.2.2.2.2.2.2.2.1
  have hB := mm_CallN (d := d) F Rm Ok hcd hnst
  rw [hret] at hB
  refine mm_after (va_runIN (As := As) (rest := rest) (g := F0 m pc ls st) (mm_fixC F) (hok A Ok.2.1 Ok.2.2.1) ⟨hB, hnm, hts _ hinst⟩ ⟨mm_Pc_blind, mm_Pc_of F Ok⟩ rfl hn hl.1 hst (lv_room hrm) hd (mm_rooms (y' := y') Rm Ok hcd.2.2.2.2.1).2) Ok ?_
  intro r h1 H1 locs1 hq Ok1
  exact k r h1 hq p e R s m args below meth c0 H1 locs1 ls F Rm Ok1 hl
/-- Object's own constructor -/
theorem mm_objInit {idx b : Nat} {rest : List Value} (hd : decode y.2.1 pc = .ok (.invokespecial idx, 3)) (hlink : Cond.methodLink y.1.cls idx objectInit ∈ mm_tbl) (hinst : Cond.instanceMethod objectInit ∈ mm_tbl) (hcode : Cond.code objectInit ⟨#[0xb1]⟩ 1 none ∈ mm_tbl) (hrm : (rest.map fun v => v.category).sum ≤ 8)
    (k : mm_Run G y A L (d + 1) (pc + 3) lv rest h Q) : mm_Run G y A L (d + 1) pc lv (.ref b :: rest) h Q := by
  intro p e R s m args below meth c0 H locs ls F Rm Ok hl
  have hts := F.2.2.2.2.2.2.2.1
  have Rm2 := Rm
  unfold mm_Rm at Rm2
  have hr := lv_room (m := m) (pc := pc) (ls := ls) (rest := .ref b :: rest) hrm
  exact W.objInit F.1 F.2.1 F.2.2.2.2.1 (hts _ hlink) (hts _ hinst) (hts _ hcode) (g := F0 m pc ls (.ref b :: rest)) rfl (by rw [F.2.2.2.1]; exact hl.1) rfl hd (by omega) (by omega) (k p e R s m args below meth c0 H locs ls F Rm Ok hl)
/-- a text -/
theorem mm_ldcS {idx i : Nat} {tx : String} (hd : decode y.2.1 pc = .ok (.ldc idx, 2)) (hi : mm_lit[i]? = some (y.1.cls, idx, tx))
    (k : mm_Run G y A L d (pc + 2) lv (.ref (G.2.2.2.2.1 i) :: st) h Q) : mm_Run G y A L d pc lv st h Q := by
  intro p e R s m args below meth c0 H locs ls F Rm Ok hl
  exact va_ldcS F.1 F.2.1 F.2.2.2.2.1 (F.2.2.2.2.2.2.2.2.2.2.1 i _ hi) hd (k p e R s m args below meth c0 H locs ls F Rm Ok hl)
end MMC
end
section
theorem mm_set_eq {h : mm_H} {a : Nat} {c : mm_C} : (mm_set h a c).1 a = some c := if_pos rfl
theorem mm_set_ne {h : mm_H} {a b : Nat} {c : mm_C} {r : Option mm_C} (hne : ¬ b = a) (hb : h.1 b = r) : (mm_set h a c).1 b = r := (if_neg hne).trans hb
theorem mm_push_eq {h : mm_H} {c : mm_C} : (mm_push h c).1 h.2.1 = some c := if_pos rfl
theorem mm_push_ne {h : mm_H} {b : Nat} {c : mm_C} {r : Option mm_C} (hne : ¬ b = h.2.1) (hb : h.1 b = r) : (mm_push h c).1 b = r := (if_neg hne).trans hb
theorem mm_set_set {h : mm_H} {a : Nat} {c c' : mm_C} : mm_set (mm_set h a c) a c' = mm_set h a c' := by
  unfold mm_set
  refine Prod.ext (funext fun b => ?_) rfl
  show (if b = a then some c' else (if b = a then some c else h.1 b)) = (if b = a then some c' else h.1 b)
  by_cases e : b = a
  · rw [if_pos e, if_pos e]
  · rw [if_neg e, if_neg e, if_neg e]
theorem mm_set_push {h : mm_H} {c c' : mm_C} (hl : c'.2.length = c.2.length) : mm_set (mm_push h c) h.2.1 c' = mm_push h c' := by
  unfold mm_set mm_push
  refine Prod.ext (funext fun b => ?_) ?_
  · show (if b = h.2.1 then some c' else (if b = h.2.1 then some c else h.1 b)) = (if b = h.2.1 then some c' else h.1 b)
    by_cases e : b = h.2.1
    · rw [if_pos e, if_pos e]
    · rw [if_neg e, if_neg e, if_neg e]
  · show (h.2.1 + 1, h.2.2 + c.2.length) = (h.2.1 + 1, h.2.2 + c'.2.length)
    rw [hl]
theorem mm_ne_kind {h : mm_H} {a b k1 k2 : Nat} {f1 f2 : List Value} (ha : h.1 a = some (k1, f1)) (hb : h.1 b = some (k2, f2)) (hk : Nat.beq k1 k2 = false) : ¬ a = b := by
  intro e
  subst e
  rw [ha] at hb
  have := congrArg Prod.fst (Option.some.inj hb)
  exact Nat.ne_of_beq_eq_false hk this
theorem mm_set_same {h : mm_H} {a : Nat} {c : mm_C} (hc : h.1 a = some c) : mm_set h a c = h := by
  unfold mm_set
  refine Prod.ext (funext fun b => ?_) rfl
  show (if b = a then some c else h.1 b) = h.1 b
  by_cases e : b = a
  · rw [if_pos e, e, hc]
  · rw [if_neg e]
section MMX
variable {G : mm_G} {y : mm_M} {A : Nat → Prop} {L : Nat × Nat} {d pc : Nat} {lv : List (Nat × Value)} {st : List Value} {h : mm_H} {Q : Option Value → mm_H → Prop}
theorem mm_put_s {a kd idx c j : Nat} {fs : List Value} {v : Value} {ty : FieldType} (hd : decode y.2.1 pc = .ok (.putfield idx, 3)) (hl0 : mm_pl y.1.cls y.1.name idx c j ty) (hk : kd = c) (hn : narrow ty v = v) (hf : fits ty v = true)
    (k : mm_Run G y A L d (pc + 3) lv st (mm_set h a (kd, fs.set j v)) Q) : mm_Run G y A L d pc lv (v :: .ref a :: st) (mm_set h a (kd, fs)) Q :=
  mm_put hd hl0 mm_set_eq hk hn hf (by rw [mm_set_set]; exact k)
theorem mm_put_p {kd idx c j : Nat} {fs : List Value} {v : Value} {ty : FieldType} (hd : decode y.2.1 pc = .ok (.putfield idx, 3)) (hl0 : mm_pl y.1.cls y.1.name idx c j ty) (hk : kd = c) (hn : narrow ty v = v) (hf : fits ty v = true)
    (k : mm_Run G y A L d (pc + 3) lv st (mm_push h (kd, fs.set j v)) Q) : mm_Run G y A L d pc lv (v :: .ref h.2.1 :: st) (mm_push h (kd, fs)) Q :=
  mm_put hd hl0 mm_push_eq hk hn hf (by rw [mm_set_push (by show (fs.set j v).length = fs.length; exact List.length_set)]; exact k)
/-- every cell of the picture lies below the next free address -/
theorem mm_wfR (k : (∀ (a : Nat) (c : mm_C), h.1 a = some c → a < h.2.1) → mm_Run G y A L d pc lv st h Q) : mm_Run G y A L d pc lv st h Q := by
  intro p e R s m args below meth c0 H locs ls F Rm Ok hl
  exact k (fun a c hc => by have := (Ok.1.2.2 a c hc).lt; have := Ok.1.1; omega) p e R s m args below meth c0 H locs ls F Rm Ok hl
theorem mm_fitR (k : h.2.1 ≤ L.1 ∧ h.2.2 ≤ L.2 → mm_Run G y A L d pc lv st h Q) : mm_Run G y A L d pc lv st h Q := by
  intro p e R s m args below meth c0 H locs ls F Rm Ok hl
  exact k Ok.2.2.1 p e R s m args below meth c0 H locs ls F Rm Ok hl
theorem mm_heap {h' : mm_H} (e : h = h') (k : mm_Run G y A L d pc lv st h' Q) : mm_Run G y A L d pc lv st h Q := by
  subst e
  exact k
theorem mm_stack {st' : List Value} (e : st = st') (k : mm_Run G y A L d pc lv st' h Q) : mm_Run G y A L d pc lv st h Q := by
  subst e
  exact k
theorem mm_Ok.post {av : List Value} {Q' : Option Value → mm_H → Prop} (hok : mm_Ok G y L d av h Q) (hq : ∀ r h1, Q r h1 → Q' r h1) : mm_Ok G y L d av h Q' := by
  intro A hin hfit p e ha hc hk s m args below hf hap hP hx
  obtain ⟨t, o, a1, b1, b2, ⟨⟨⟨r, h1, c1, c2, c3⟩, c4⟩, b4⟩⟩ := hok A hin hfit p e ha hc hk s m args below hf hap hP hx
  exact ⟨t, o, a1, b1, b2, ⟨⟨⟨r, h1, c1, hq r h1 c2, c3⟩, c4⟩, b4⟩⟩
end MMX
theorem mm_isr_rf (r : Option Nat) : mm_isr (va_rf r) := by cases r <;> trivial
theorem mm_cat_rf (r : Option Nat) : (va_rf r).category = 1 := by cases r <;> rfl
end
