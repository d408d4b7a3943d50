-- ===== PART A: goes FIRST, ahead of the names: the tables' words, and 'selects' of the private methods out of them =====
/-- a private method of a class that the tables say can be made, by its rows of tables_1 -/
def lw_okq (q : MethodName × Nat) : Prop := (q.1.cls ≠ "java/lang/invoke/MethodHandle" ∧ q.1.cls ≠ "java/lang/invoke/VarHandle") ∧ Cond.instantiable q.1.cls q.2 ∈ tables_1 ∧ Cond.privateMethod q.1 ∈ tables_1 ∧ Cond.instanceMethod q.1 ∈ tables_1
theorem lw_p0 : lw_okq (⟨"SorryWalk", "deny", "(I)Z"⟩, 18) := ⟨⟨by decide +kernel, by decide +kernel⟩, List.mem_of_getElem? (i := 23) (by decide +kernel), List.mem_of_getElem? (i := 527) (by decide +kernel), List.mem_of_getElem? (i := 528) (by decide +kernel)⟩
theorem lw_p1 : lw_okq (⟨"SorryWalk", "grant", "()Z"⟩, 18) := ⟨⟨by decide +kernel, by decide +kernel⟩, List.mem_of_getElem? (i := 23) (by decide +kernel), List.mem_of_getElem? (i := 538) (by decide +kernel), List.mem_of_getElem? (i := 539) (by decide +kernel)⟩
theorem lw_p2 : lw_okq (⟨"SorryWalk", "troubleAt", "(II)I"⟩, 18) := ⟨⟨by decide +kernel, by decide +kernel⟩, List.mem_of_getElem? (i := 23) (by decide +kernel), List.mem_of_getElem? (i := 546) (by decide +kernel), List.mem_of_getElem? (i := 547) (by decide +kernel)⟩
theorem lw_p3 : lw_okq (⟨"SorryWalk", "refuse", "(I)I"⟩, 18) := ⟨⟨by decide +kernel, by decide +kernel⟩, List.mem_of_getElem? (i := 23) (by decide +kernel), List.mem_of_getElem? (i := 562) (by decide +kernel), List.mem_of_getElem? (i := 563) (by decide +kernel)⟩
theorem lw_p4 : lw_okq (⟨"SorryWalk$Tape", "scanWord", "()V"⟩, 12) := ⟨⟨by decide +kernel, by decide +kernel⟩, List.mem_of_getElem? (i := 33) (by decide +kernel), List.mem_of_getElem? (i := 623) (by decide +kernel), List.mem_of_getElem? (i := 624) (by decide +kernel)⟩
theorem lw_p5 : lw_okq (⟨"SorryWalk$Tape", "scanNumber", "()V"⟩, 12) := ⟨⟨by decide +kernel, by decide +kernel⟩, List.mem_of_getElem? (i := 33) (by decide +kernel), List.mem_of_getElem? (i := 630) (by decide +kernel), List.mem_of_getElem? (i := 631) (by decide +kernel)⟩
theorem lw_p6 : lw_okq (⟨"SorryWalk$LandReader", "readPart", "()Z"⟩, 2) := ⟨⟨by decide +kernel, by decide +kernel⟩, List.mem_of_getElem? (i := 321) (by decide +kernel), List.mem_of_getElem? (i := 641) (by decide +kernel), List.mem_of_getElem? (i := 642) (by decide +kernel)⟩
theorem lw_p7 : lw_okq (⟨"SorryWalk$LandReader", "readHouse", "()Z"⟩, 2) := ⟨⟨by decide +kernel, by decide +kernel⟩, List.mem_of_getElem? (i := 321) (by decide +kernel), List.mem_of_getElem? (i := 649) (by decide +kernel), List.mem_of_getElem? (i := 650) (by decide +kernel)⟩
theorem lw_p8 : lw_okq (⟨"SorryWalk$LandReader", "isNewName", "()Z"⟩, 2) := ⟨⟨by decide +kernel, by decide +kernel⟩, List.mem_of_getElem? (i := 321) (by decide +kernel), List.mem_of_getElem? (i := 658) (by decide +kernel), List.mem_of_getElem? (i := 659) (by decide +kernel)⟩
theorem lw_p9 : lw_okq (⟨"SorryWalk$LandReader", "takeIf", "(I)Z"⟩, 2) := ⟨⟨by decide +kernel, by decide +kernel⟩, List.mem_of_getElem? (i := 321) (by decide +kernel), List.mem_of_getElem? (i := 674) (by decide +kernel), List.mem_of_getElem? (i := 675) (by decide +kernel)⟩
theorem lw_p10 : lw_okq (⟨"SorryWalk$LandReader", "readDoor", "()Z"⟩, 2) := ⟨⟨by decide +kernel, by decide +kernel⟩, List.mem_of_getElem? (i := 321) (by decide +kernel), List.mem_of_getElem? (i := 683) (by decide +kernel), List.mem_of_getElem? (i := 684) (by decide +kernel)⟩
theorem lw_p11 : lw_okq (⟨"SorryWalk$LandReader", "readPerson", "()Z"⟩, 2) := ⟨⟨by decide +kernel, by decide +kernel⟩, List.mem_of_getElem? (i := 321) (by decide +kernel), List.mem_of_getElem? (i := 702) (by decide +kernel), List.mem_of_getElem? (i := 703) (by decide +kernel)⟩
theorem lw_p12 : lw_okq (⟨"SorryWalk$LandReader", "readOwes", "()Z"⟩, 2) := ⟨⟨by decide +kernel, by decide +kernel⟩, List.mem_of_getElem? (i := 321) (by decide +kernel), List.mem_of_getElem? (i := 711) (by decide +kernel), List.mem_of_getElem? (i := 712) (by decide +kernel)⟩
theorem lw_p13 : lw_okq (⟨"SorryWalk$LandReader", "otherPerson", "(I)I"⟩, 2) := ⟨⟨by decide +kernel, by decide +kernel⟩, List.mem_of_getElem? (i := 321) (by decide +kernel), List.mem_of_getElem? (i := 724) (by decide +kernel), List.mem_of_getElem? (i := 725) (by decide +kernel)⟩
theorem lw_p14 : lw_okq (⟨"SorryWalk$LandReader", "readHeir", "()Z"⟩, 2) := ⟨⟨by decide +kernel, by decide +kernel⟩, List.mem_of_getElem? (i := 321) (by decide +kernel), List.mem_of_getElem? (i := 737) (by decide +kernel), List.mem_of_getElem? (i := 738) (by decide +kernel)⟩
theorem lw_p15 : lw_okq (⟨"SorryWalk$Roads", "measureFrom", "(I)V"⟩, 6) := ⟨⟨by decide +kernel, by decide +kernel⟩, List.mem_of_getElem? (i := 142) (by decide +kernel), List.mem_of_getElem? (i := 745) (by decide +kernel), List.mem_of_getElem? (i := 746) (by decide +kernel)⟩
def lw_privs_1 : List (MethodName × Nat) := [(⟨"SorryWalk", "deny", "(I)Z"⟩, 18), (⟨"SorryWalk", "grant", "()Z"⟩, 18), (⟨"SorryWalk", "troubleAt", "(II)I"⟩, 18), (⟨"SorryWalk", "refuse", "(I)I"⟩, 18), (⟨"SorryWalk$Tape", "scanWord", "()V"⟩, 12), (⟨"SorryWalk$Tape", "scanNumber", "()V"⟩, 12), (⟨"SorryWalk$LandReader", "readPart", "()Z"⟩, 2), (⟨"SorryWalk$LandReader", "readHouse", "()Z"⟩, 2), (⟨"SorryWalk$LandReader", "isNewName", "()Z"⟩, 2), (⟨"SorryWalk$LandReader", "takeIf", "(I)Z"⟩, 2), (⟨"SorryWalk$LandReader", "readDoor", "()Z"⟩, 2), (⟨"SorryWalk$LandReader", "readPerson", "()Z"⟩, 2), (⟨"SorryWalk$LandReader", "readOwes", "()Z"⟩, 2), (⟨"SorryWalk$LandReader", "otherPerson", "(I)I"⟩, 2), (⟨"SorryWalk$LandReader", "readHeir", "()Z"⟩, 2), (⟨"SorryWalk$Roads", "measureFrom", "(I)V"⟩, 6)]
theorem lw_r1 : ∀ q ∈ lw_privs_1, lw_okq q := List.forall_mem_cons.mpr ⟨lw_p0, List.forall_mem_cons.mpr ⟨lw_p1, List.forall_mem_cons.mpr ⟨lw_p2, List.forall_mem_cons.mpr ⟨lw_p3, List.forall_mem_cons.mpr ⟨lw_p4, List.forall_mem_cons.mpr ⟨lw_p5, List.forall_mem_cons.mpr ⟨lw_p6, List.forall_mem_cons.mpr ⟨lw_p7, List.forall_mem_cons.mpr ⟨lw_p8, List.forall_mem_cons.mpr ⟨lw_p9, List.forall_mem_cons.mpr ⟨lw_p10, List.forall_mem_cons.mpr ⟨lw_p11, List.forall_mem_cons.mpr ⟨lw_p12, List.forall_mem_cons.mpr ⟨lw_p13, List.forall_mem_cons.mpr ⟨lw_p14, List.forall_mem_cons.mpr ⟨lw_p15, fun _ h => absurd h List.not_mem_nil⟩⟩⟩⟩⟩⟩⟩⟩⟩⟩⟩⟩⟩⟩⟩⟩
theorem lw_p16 : lw_okq (⟨"SorryWalk$Roads", "leastNext", "(II)I"⟩, 6) := ⟨⟨by decide +kernel, by decide +kernel⟩, List.mem_of_getElem? (i := 142) (by decide +kernel), List.mem_of_getElem? (i := 756) (by decide +kernel), List.mem_of_getElem? (i := 757) (by decide +kernel)⟩
theorem lw_p17 : lw_okq (⟨"SorryWalk", "answer", "(I)I"⟩, 18) := ⟨⟨by decide +kernel, by decide +kernel⟩, List.mem_of_getElem? (i := 23) (by decide +kernel), List.mem_of_getElem? (i := 783) (by decide +kernel), List.mem_of_getElem? (i := 784) (by decide +kernel)⟩
theorem lw_p18 : lw_okq (⟨"SorryWalk$TalesReader", "readEnd", "()Z"⟩, 5) := ⟨⟨by decide +kernel, by decide +kernel⟩, List.mem_of_getElem? (i := 334) (by decide +kernel), List.mem_of_getElem? (i := 799) (by decide +kernel), List.mem_of_getElem? (i := 800) (by decide +kernel)⟩
theorem lw_p19 : lw_okq (⟨"SorryWalk$TalesReader", "readStep", "()Z"⟩, 5) := ⟨⟨by decide +kernel, by decide +kernel⟩, List.mem_of_getElem? (i := 334) (by decide +kernel), List.mem_of_getElem? (i := 810) (by decide +kernel), List.mem_of_getElem? (i := 811) (by decide +kernel)⟩
theorem lw_p20 : lw_okq (⟨"SorryWalk$TalesReader", "readTest", "()Z"⟩, 5) := ⟨⟨by decide +kernel, by decide +kernel⟩, List.mem_of_getElem? (i := 334) (by decide +kernel), List.mem_of_getElem? (i := 817) (by decide +kernel), List.mem_of_getElem? (i := 818) (by decide +kernel)⟩
theorem lw_p21 : lw_okq (⟨"SorryWalk$TalesReader", "readLabourTest", "()Z"⟩, 5) := ⟨⟨by decide +kernel, by decide +kernel⟩, List.mem_of_getElem? (i := 334) (by decide +kernel), List.mem_of_getElem? (i := 821) (by decide +kernel), List.mem_of_getElem? (i := 822) (by decide +kernel)⟩
theorem lw_p22 : lw_okq (⟨"SorryWalk$TalesReader", "readPersonStep", "(I)Z"⟩, 5) := ⟨⟨by decide +kernel, by decide +kernel⟩, List.mem_of_getElem? (i := 334) (by decide +kernel), List.mem_of_getElem? (i := 831) (by decide +kernel), List.mem_of_getElem? (i := 832) (by decide +kernel)⟩
theorem lw_p23 : lw_okq (⟨"SorryWalk$TalesReader", "readAtTest", "()Z"⟩, 5) := ⟨⟨by decide +kernel, by decide +kernel⟩, List.mem_of_getElem? (i := 334) (by decide +kernel), List.mem_of_getElem? (i := 836) (by decide +kernel), List.mem_of_getElem? (i := 837) (by decide +kernel)⟩
theorem lw_p24 : lw_okq (⟨"SorryWalk$TalesReader", "readRest", "(I)Z"⟩, 5) := ⟨⟨by decide +kernel, by decide +kernel⟩, List.mem_of_getElem? (i := 334) (by decide +kernel), List.mem_of_getElem? (i := 841) (by decide +kernel), List.mem_of_getElem? (i := 842) (by decide +kernel)⟩
theorem lw_p25 : lw_okq (⟨"SorryWalk$TalesReader", "readCount", "(II)Z"⟩, 5) := ⟨⟨by decide +kernel, by decide +kernel⟩, List.mem_of_getElem? (i := 334) (by decide +kernel), List.mem_of_getElem? (i := 845) (by decide +kernel), List.mem_of_getElem? (i := 846) (by decide +kernel)⟩
theorem lw_p26 : lw_okq (⟨"SorryWalk$TalesReader", "readHouseStep", "(I)Z"⟩, 5) := ⟨⟨by decide +kernel, by decide +kernel⟩, List.mem_of_getElem? (i := 334) (by decide +kernel), List.mem_of_getElem? (i := 849) (by decide +kernel), List.mem_of_getElem? (i := 850) (by decide +kernel)⟩
theorem lw_p27 : lw_okq (⟨"SorryWalk$TalesReader", "readForgive", "()Z"⟩, 5) := ⟨⟨by decide +kernel, by decide +kernel⟩, List.mem_of_getElem? (i := 334) (by decide +kernel), List.mem_of_getElem? (i := 853) (by decide +kernel), List.mem_of_getElem? (i := 854) (by decide +kernel)⟩
theorem lw_p28 : lw_okq (⟨"SorryWalk$TalesReader", "readForge", "()Z"⟩, 5) := ⟨⟨by decide +kernel, by decide +kernel⟩, List.mem_of_getElem? (i := 334) (by decide +kernel), List.mem_of_getElem? (i := 857) (by decide +kernel), List.mem_of_getElem? (i := 858) (by decide +kernel)⟩
theorem lw_p29 : lw_okq (⟨"SorryWalk", "isPerson", "(I)Z"⟩, 18) := ⟨⟨by decide +kernel, by decide +kernel⟩, List.mem_of_getElem? (i := 23) (by decide +kernel), List.mem_of_getElem? (i := 901) (by decide +kernel), List.mem_of_getElem? (i := 902) (by decide +kernel)⟩
theorem lw_p30 : lw_okq (⟨"SorryWalk", "areTwoPersons", "(II)Z"⟩, 18) := ⟨⟨by decide +kernel, by decide +kernel⟩, List.mem_of_getElem? (i := 23) (by decide +kernel), List.mem_of_getElem? (i := 920) (by decide +kernel), List.mem_of_getElem? (i := 921) (by decide +kernel)⟩
theorem lw_p31 : lw_okq (⟨"SorryWalk", "areTwoHouses", "(II)Z"⟩, 18) := ⟨⟨by decide +kernel, by decide +kernel⟩, List.mem_of_getElem? (i := 23) (by decide +kernel), List.mem_of_getElem? (i := 933) (by decide +kernel), List.mem_of_getElem? (i := 934) (by decide +kernel)⟩
def lw_privs_2 : List (MethodName × Nat) := [(⟨"SorryWalk$Roads", "leastNext", "(II)I"⟩, 6), (⟨"SorryWalk", "answer", "(I)I"⟩, 18), (⟨"SorryWalk$TalesReader", "readEnd", "()Z"⟩, 5), (⟨"SorryWalk$TalesReader", "readStep", "()Z"⟩, 5), (⟨"SorryWalk$TalesReader", "readTest", "()Z"⟩, 5), (⟨"SorryWalk$TalesReader", "readLabourTest", "()Z"⟩, 5), (⟨"SorryWalk$TalesReader", "readPersonStep", "(I)Z"⟩, 5), (⟨"SorryWalk$TalesReader", "readAtTest", "()Z"⟩, 5), (⟨"SorryWalk$TalesReader", "readRest", "(I)Z"⟩, 5), (⟨"SorryWalk$TalesReader", "readCount", "(II)Z"⟩, 5), (⟨"SorryWalk$TalesReader", "readHouseStep", "(I)Z"⟩, 5), (⟨"SorryWalk$TalesReader", "readForgive", "()Z"⟩, 5), (⟨"SorryWalk$TalesReader", "readForge", "()Z"⟩, 5), (⟨"SorryWalk", "isPerson", "(I)Z"⟩, 18), (⟨"SorryWalk", "areTwoPersons", "(II)Z"⟩, 18), (⟨"SorryWalk", "areTwoHouses", "(II)Z"⟩, 18)]
theorem lw_r2 : ∀ q ∈ lw_privs_2, lw_okq q := List.forall_mem_cons.mpr ⟨lw_p16, List.forall_mem_cons.mpr ⟨lw_p17, List.forall_mem_cons.mpr ⟨lw_p18, List.forall_mem_cons.mpr ⟨lw_p19, List.forall_mem_cons.mpr ⟨lw_p20, List.forall_mem_cons.mpr ⟨lw_p21, List.forall_mem_cons.mpr ⟨lw_p22, List.forall_mem_cons.mpr ⟨lw_p23, List.forall_mem_cons.mpr ⟨lw_p24, List.forall_mem_cons.mpr ⟨lw_p25, List.forall_mem_cons.mpr ⟨lw_p26, List.forall_mem_cons.mpr ⟨lw_p27, List.forall_mem_cons.mpr ⟨lw_p28, List.forall_mem_cons.mpr ⟨lw_p29, List.forall_mem_cons.mpr ⟨lw_p30, List.forall_mem_cons.mpr ⟨lw_p31, fun _ h => absurd h List.not_mem_nil⟩⟩⟩⟩⟩⟩⟩⟩⟩⟩⟩⟩⟩⟩⟩⟩
theorem lw_p32 : lw_okq (⟨"SorryWalk", "isHouse", "(I)Z"⟩, 18) := ⟨⟨by decide +kernel, by decide +kernel⟩, List.mem_of_getElem? (i := 23) (by decide +kernel), List.mem_of_getElem? (i := 937) (by decide +kernel), List.mem_of_getElem? (i := 938) (by decide +kernel)⟩
theorem lw_p33 : lw_okq (⟨"SorryWalk$Land", "haunt", "(I)V"⟩, 15) := ⟨⟨by decide +kernel, by decide +kernel⟩, List.mem_of_getElem? (i := 136) (by decide +kernel), List.mem_of_getElem? (i := 961) (by decide +kernel), List.mem_of_getElem? (i := 962) (by decide +kernel)⟩
theorem lw_p34 : lw_okq (⟨"SorryWalk$Land", "saySorry", "(II)V"⟩, 15) := ⟨⟨by decide +kernel, by decide +kernel⟩, List.mem_of_getElem? (i := 136) (by decide +kernel), List.mem_of_getElem? (i := 971) (by decide +kernel), List.mem_of_getElem? (i := 972) (by decide +kernel)⟩
theorem lw_p35 : lw_okq (⟨"SorryWalk$Land", "passOn", "(II)V"⟩, 15) := ⟨⟨by decide +kernel, by decide +kernel⟩, List.mem_of_getElem? (i := 136) (by decide +kernel), List.mem_of_getElem? (i := 988) (by decide +kernel), List.mem_of_getElem? (i := 989) (by decide +kernel)⟩
theorem lw_p36 : lw_okq (⟨"SorryWalk", "answerOrNone", "(I)I"⟩, 18) := ⟨⟨by decide +kernel, by decide +kernel⟩, List.mem_of_getElem? (i := 23) (by decide +kernel), List.mem_of_getElem? (i := 1056) (by decide +kernel), List.mem_of_getElem? (i := 1057) (by decide +kernel)⟩
theorem lw_p37 : lw_okq (⟨"SorryWalk$Seer", "countVisits", "()V"⟩, 2) := ⟨⟨by decide +kernel, by decide +kernel⟩, List.mem_of_getElem? (i := 356) (by decide +kernel), List.mem_of_getElem? (i := 1179) (by decide +kernel), List.mem_of_getElem? (i := 1180) (by decide +kernel)⟩
theorem lw_p38 : lw_okq (⟨"SorryWalk$Roads", "waysInto", "(III)I"⟩, 6) := ⟨⟨by decide +kernel, by decide +kernel⟩, List.mem_of_getElem? (i := 142) (by decide +kernel), List.mem_of_getElem? (i := 1204) (by decide +kernel), List.mem_of_getElem? (i := 1205) (by decide +kernel)⟩
theorem lw_p39 : lw_okq (⟨"SorryWalk$Planner", "labourWithKeeper", "(LSorryWalk$Land;I)I"⟩, 3) := ⟨⟨by decide +kernel, by decide +kernel⟩, List.mem_of_getElem? (i := 371) (by decide +kernel), List.mem_of_getElem? (i := 1243) (by decide +kernel), List.mem_of_getElem? (i := 1244) (by decide +kernel)⟩
theorem lw_p40 : lw_okq (⟨"SorryWalk", "answerSize", "(I)I"⟩, 18) := ⟨⟨by decide +kernel, by decide +kernel⟩, List.mem_of_getElem? (i := 23) (by decide +kernel), List.mem_of_getElem? (i := 1271) (by decide +kernel), List.mem_of_getElem? (i := 1272) (by decide +kernel)⟩
theorem lw_p41 : lw_okq (⟨"SorryWalk$Planner", "isQuietBy", "(LSorryWalk$Land;III)Z"⟩, 3) := ⟨⟨by decide +kernel, by decide +kernel⟩, List.mem_of_getElem? (i := 371) (by decide +kernel), List.mem_of_getElem? (i := 1291) (by decide +kernel), List.mem_of_getElem? (i := 1292) (by decide +kernel)⟩
theorem lw_p42 : lw_okq (⟨"SorryWalk", "tellFraction", "(II)V"⟩, 18) := ⟨⟨by decide +kernel, by decide +kernel⟩, List.mem_of_getElem? (i := 23) (by decide +kernel), List.mem_of_getElem? (i := 1333) (by decide +kernel), List.mem_of_getElem? (i := 1334) (by decide +kernel)⟩
theorem lw_p43 : lw_okq (⟨"SorryWalk$Planner", "lastsOf", "(I)I"⟩, 3) := ⟨⟨by decide +kernel, by decide +kernel⟩, List.mem_of_getElem? (i := 371) (by decide +kernel), List.mem_of_getElem? (i := 1354) (by decide +kernel), List.mem_of_getElem? (i := 1355) (by decide +kernel)⟩
theorem lw_p44 : lw_okq (⟨"SorryWalk$Planner", "ghostsKeptOff", "(LSorryWalk$Land;I)I"⟩, 3) := ⟨⟨by decide +kernel, by decide +kernel⟩, List.mem_of_getElem? (i := 371) (by decide +kernel), List.mem_of_getElem? (i := 1377) (by decide +kernel), List.mem_of_getElem? (i := 1378) (by decide +kernel)⟩
theorem lw_p45 : lw_okq (⟨"SorryWalk$Planner", "reachesSome", "(LSorryWalk$Land;II)Z"⟩, 3) := ⟨⟨by decide +kernel, by decide +kernel⟩, List.mem_of_getElem? (i := 371) (by decide +kernel), List.mem_of_getElem? (i := 1382) (by decide +kernel), List.mem_of_getElem? (i := 1383) (by decide +kernel)⟩
theorem lw_p46 : lw_okq (⟨"SorryWalk$Life", "begin", "(LSorryWalk$Land;I)V"⟩, 9) := ⟨⟨by decide +kernel, by decide +kernel⟩, List.mem_of_getElem? (i := 389) (by decide +kernel), List.mem_of_getElem? (i := 1394) (by decide +kernel), List.mem_of_getElem? (i := 1395) (by decide +kernel)⟩
theorem lw_p47 : lw_okq (⟨"SorryWalk$Life", "placeBehind", "(LSorryWalk$Tales;LSorryWalk$Land;I)I"⟩, 9) := ⟨⟨by decide +kernel, by decide +kernel⟩, List.mem_of_getElem? (i := 389) (by decide +kernel), List.mem_of_getElem? (i := 1400) (by decide +kernel), List.mem_of_getElem? (i := 1401) (by decide +kernel)⟩
def lw_privs_3 : List (MethodName × Nat) := [(⟨"SorryWalk", "isHouse", "(I)Z"⟩, 18), (⟨"SorryWalk$Land", "haunt", "(I)V"⟩, 15), (⟨"SorryWalk$Land", "saySorry", "(II)V"⟩, 15), (⟨"SorryWalk$Land", "passOn", "(II)V"⟩, 15), (⟨"SorryWalk", "answerOrNone", "(I)I"⟩, 18), (⟨"SorryWalk$Seer", "countVisits", "()V"⟩, 2), (⟨"SorryWalk$Roads", "waysInto", "(III)I"⟩, 6), (⟨"SorryWalk$Planner", "labourWithKeeper", "(LSorryWalk$Land;I)I"⟩, 3), (⟨"SorryWalk", "answerSize", "(I)I"⟩, 18), (⟨"SorryWalk$Planner", "isQuietBy", "(LSorryWalk$Land;III)Z"⟩, 3), (⟨"SorryWalk", "tellFraction", "(II)V"⟩, 18), (⟨"SorryWalk$Planner", "lastsOf", "(I)I"⟩, 3), (⟨"SorryWalk$Planner", "ghostsKeptOff", "(LSorryWalk$Land;I)I"⟩, 3), (⟨"SorryWalk$Planner", "reachesSome", "(LSorryWalk$Land;II)Z"⟩, 3), (⟨"SorryWalk$Life", "begin", "(LSorryWalk$Land;I)V"⟩, 9), (⟨"SorryWalk$Life", "placeBehind", "(LSorryWalk$Tales;LSorryWalk$Land;I)I"⟩, 9)]
theorem lw_r3 : ∀ q ∈ lw_privs_3, lw_okq q := List.forall_mem_cons.mpr ⟨lw_p32, List.forall_mem_cons.mpr ⟨lw_p33, List.forall_mem_cons.mpr ⟨lw_p34, List.forall_mem_cons.mpr ⟨lw_p35, List.forall_mem_cons.mpr ⟨lw_p36, List.forall_mem_cons.mpr ⟨lw_p37, List.forall_mem_cons.mpr ⟨lw_p38, List.forall_mem_cons.mpr ⟨lw_p39, List.forall_mem_cons.mpr ⟨lw_p40, List.forall_mem_cons.mpr ⟨lw_p41, List.forall_mem_cons.mpr ⟨lw_p42, List.forall_mem_cons.mpr ⟨lw_p43, List.forall_mem_cons.mpr ⟨lw_p44, List.forall_mem_cons.mpr ⟨lw_p45, List.forall_mem_cons.mpr ⟨lw_p46, List.forall_mem_cons.mpr ⟨lw_p47, fun _ h => absurd h List.not_mem_nil⟩⟩⟩⟩⟩⟩⟩⟩⟩⟩⟩⟩⟩⟩⟩⟩
theorem lw_p48 : lw_okq (⟨"SorryWalk$Life", "isDone", "(LSorryWalk$Tales;LSorryWalk$Land;I)Z"⟩, 9) := ⟨⟨by decide +kernel, by decide +kernel⟩, List.mem_of_getElem? (i := 389) (by decide +kernel), List.mem_of_getElem? (i := 1411) (by decide +kernel), List.mem_of_getElem? (i := 1412) (by decide +kernel)⟩
theorem lw_p49 : lw_okq (⟨"SorryWalk$Life", "drawLiving", "(LSorryWalk$Land;)I"⟩, 9) := ⟨⟨by decide +kernel, by decide +kernel⟩, List.mem_of_getElem? (i := 389) (by decide +kernel), List.mem_of_getElem? (i := 1420) (by decide +kernel), List.mem_of_getElem? (i := 1421) (by decide +kernel)⟩
theorem lw_p50 : lw_okq (⟨"SorryWalkModel", "plain", "(I)V"⟩, 34) := ⟨⟨by decide +kernel, by decide +kernel⟩, List.mem_of_getElem? (i := 1442) (by decide +kernel), List.mem_of_getElem? (i := 1448) (by decide +kernel), List.mem_of_getElem? (i := 1449) (by decide +kernel)⟩
theorem lw_p51 : lw_okq (⟨"SorryWalkModel", "is", "(I)Z"⟩, 34) := ⟨⟨by decide +kernel, by decide +kernel⟩, List.mem_of_getElem? (i := 1442) (by decide +kernel), List.mem_of_getElem? (i := 1574) (by decide +kernel), List.mem_of_getElem? (i := 1575) (by decide +kernel)⟩
theorem lw_p52 : lw_okq (⟨"SorryWalkModel", "wrongPlace", "(II)I"⟩, 34) := ⟨⟨by decide +kernel, by decide +kernel⟩, List.mem_of_getElem? (i := 1442) (by decide +kernel), List.mem_of_getElem? (i := 1582) (by decide +kernel), List.mem_of_getElem? (i := 1583) (by decide +kernel)⟩
theorem lw_p53 : lw_okq (⟨"SorryWalkModel", "four", "(I)V"⟩, 34) := ⟨⟨by decide +kernel, by decide +kernel⟩, List.mem_of_getElem? (i := 1442) (by decide +kernel), List.mem_of_getElem? (i := 1602) (by decide +kernel), List.mem_of_getElem? (i := 1603) (by decide +kernel)⟩
theorem lw_p54 : lw_okq (⟨"SorryWalkModel", "begins", "(II)Z"⟩, 34) := ⟨⟨by decide +kernel, by decide +kernel⟩, List.mem_of_getElem? (i := 1442) (by decide +kernel), List.mem_of_getElem? (i := 1614) (by decide +kernel), List.mem_of_getElem? (i := 1615) (by decide +kernel)⟩
theorem lw_p55 : lw_okq (⟨"SorryWalkModel", "ahead", "()V"⟩, 34) := ⟨⟨by decide +kernel, by decide +kernel⟩, List.mem_of_getElem? (i := 1442) (by decide +kernel), List.mem_of_getElem? (i := 1618) (by decide +kernel), List.mem_of_getElem? (i := 1619) (by decide +kernel)⟩
theorem lw_p56 : lw_okq (⟨"SorryWalkModel", "byteAt", "(I)I"⟩, 34) := ⟨⟨by decide +kernel, by decide +kernel⟩, List.mem_of_getElem? (i := 1442) (by decide +kernel), List.mem_of_getElem? (i := 1622) (by decide +kernel), List.mem_of_getElem? (i := 1623) (by decide +kernel)⟩
theorem lw_p57 : lw_okq (⟨"SorryWalkModel", "refuse", "(I)I"⟩, 34) := ⟨⟨by decide +kernel, by decide +kernel⟩, List.mem_of_getElem? (i := 1442) (by decide +kernel), List.mem_of_getElem? (i := 1634) (by decide +kernel), List.mem_of_getElem? (i := 1635) (by decide +kernel)⟩
theorem lw_p58 : lw_okq (⟨"SorryWalkModel", "landPart", "()Z"⟩, 34) := ⟨⟨by decide +kernel, by decide +kernel⟩, List.mem_of_getElem? (i := 1442) (by decide +kernel), List.mem_of_getElem? (i := 1638) (by decide +kernel), List.mem_of_getElem? (i := 1639) (by decide +kernel)⟩
theorem lw_p59 : lw_okq (⟨"SorryWalkModel", "inWords", "(Ljava/lang/String;)I"⟩, 34) := ⟨⟨by decide +kernel, by decide +kernel⟩, List.mem_of_getElem? (i := 1442) (by decide +kernel), List.mem_of_getElem? (i := 1643) (by decide +kernel), List.mem_of_getElem? (i := 1644) (by decide +kernel)⟩
theorem lw_p60 : lw_okq (⟨"SorryWalkModel", "aHouse", "()Z"⟩, 34) := ⟨⟨by decide +kernel, by decide +kernel⟩, List.mem_of_getElem? (i := 1442) (by decide +kernel), List.mem_of_getElem? (i := 1649) (by decide +kernel), List.mem_of_getElem? (i := 1650) (by decide +kernel)⟩
theorem lw_p61 : lw_okq (⟨"SorryWalkModel", "newOne", "(III)Z"⟩, 34) := ⟨⟨by decide +kernel, by decide +kernel⟩, List.mem_of_getElem? (i := 1442) (by decide +kernel), List.mem_of_getElem? (i := 1653) (by decide +kernel), List.mem_of_getElem? (i := 1654) (by decide +kernel)⟩
theorem lw_p62 : lw_okq (⟨"SorryWalkModel", "fails", "(I)Z"⟩, 34) := ⟨⟨by decide +kernel, by decide +kernel⟩, List.mem_of_getElem? (i := 1442) (by decide +kernel), List.mem_of_getElem? (i := 1657) (by decide +kernel), List.mem_of_getElem? (i := 1658) (by decide +kernel)⟩
theorem lw_p63 : lw_okq (⟨"SorryWalkModel", "isName", "(Ljava/lang/String;)Z"⟩, 34) := ⟨⟨by decide +kernel, by decide +kernel⟩, List.mem_of_getElem? (i := 1442) (by decide +kernel), List.mem_of_getElem? (i := 1661) (by decide +kernel), List.mem_of_getElem? (i := 1662) (by decide +kernel)⟩
def lw_privs_4 : List (MethodName × Nat) := [(⟨"SorryWalk$Life", "isDone", "(LSorryWalk$Tales;LSorryWalk$Land;I)Z"⟩, 9), (⟨"SorryWalk$Life", "drawLiving", "(LSorryWalk$Land;)I"⟩, 9), (⟨"SorryWalkModel", "plain", "(I)V"⟩, 34), (⟨"SorryWalkModel", "is", "(I)Z"⟩, 34), (⟨"SorryWalkModel", "wrongPlace", "(II)I"⟩, 34), (⟨"SorryWalkModel", "four", "(I)V"⟩, 34), (⟨"SorryWalkModel", "begins", "(II)Z"⟩, 34), (⟨"SorryWalkModel", "ahead", "()V"⟩, 34), (⟨"SorryWalkModel", "byteAt", "(I)I"⟩, 34), (⟨"SorryWalkModel", "refuse", "(I)I"⟩, 34), (⟨"SorryWalkModel", "landPart", "()Z"⟩, 34), (⟨"SorryWalkModel", "inWords", "(Ljava/lang/String;)I"⟩, 34), (⟨"SorryWalkModel", "aHouse", "()Z"⟩, 34), (⟨"SorryWalkModel", "newOne", "(III)Z"⟩, 34), (⟨"SorryWalkModel", "fails", "(I)Z"⟩, 34), (⟨"SorryWalkModel", "isName", "(Ljava/lang/String;)Z"⟩, 34)]
theorem lw_r4 : ∀ q ∈ lw_privs_4, lw_okq q := List.forall_mem_cons.mpr ⟨lw_p48, List.forall_mem_cons.mpr ⟨lw_p49, List.forall_mem_cons.mpr ⟨lw_p50, List.forall_mem_cons.mpr ⟨lw_p51, List.forall_mem_cons.mpr ⟨lw_p52, List.forall_mem_cons.mpr ⟨lw_p53, List.forall_mem_cons.mpr ⟨lw_p54, List.forall_mem_cons.mpr ⟨lw_p55, List.forall_mem_cons.mpr ⟨lw_p56, List.forall_mem_cons.mpr ⟨lw_p57, List.forall_mem_cons.mpr ⟨lw_p58, List.forall_mem_cons.mpr ⟨lw_p59, List.forall_mem_cons.mpr ⟨lw_p60, List.forall_mem_cons.mpr ⟨lw_p61, List.forall_mem_cons.mpr ⟨lw_p62, List.forall_mem_cons.mpr ⟨lw_p63, fun _ h => absurd h List.not_mem_nil⟩⟩⟩⟩⟩⟩⟩⟩⟩⟩⟩⟩⟩⟩⟩⟩
theorem lw_p64 : lw_okq (⟨"SorryWalkModel", "findHere", "(II)I"⟩, 34) := ⟨⟨by decide +kernel, by decide +kernel⟩, List.mem_of_getElem? (i := 1442) (by decide +kernel), List.mem_of_getElem? (i := 1665) (by decide +kernel), List.mem_of_getElem? (i := 1666) (by decide +kernel)⟩
theorem lw_p65 : lw_okq (⟨"SorryWalkModel", "nameHere", "()J"⟩, 34) := ⟨⟨by decide +kernel, by decide +kernel⟩, List.mem_of_getElem? (i := 1442) (by decide +kernel), List.mem_of_getElem? (i := 1669) (by decide +kernel), List.mem_of_getElem? (i := 1670) (by decide +kernel)⟩
theorem lw_p66 : lw_okq (⟨"SorryWalkModel", "isThere", "(I)Z"⟩, 34) := ⟨⟨by decide +kernel, by decide +kernel⟩, List.mem_of_getElem? (i := 1442) (by decide +kernel), List.mem_of_getElem? (i := 1673) (by decide +kernel), List.mem_of_getElem? (i := 1674) (by decide +kernel)⟩
theorem lw_p67 : lw_okq (⟨"SorryWalkModel", "aDoor", "()Z"⟩, 34) := ⟨⟨by decide +kernel, by decide +kernel⟩, List.mem_of_getElem? (i := 1442) (by decide +kernel), List.mem_of_getElem? (i := 1677) (by decide +kernel), List.mem_of_getElem? (i := 1678) (by decide +kernel)⟩
theorem lw_p68 : lw_okq (⟨"SorryWalkModel", "twoTo", "(III)Z"⟩, 34) := ⟨⟨by decide +kernel, by decide +kernel⟩, List.mem_of_getElem? (i := 1442) (by decide +kernel), List.mem_of_getElem? (i := 1681) (by decide +kernel), List.mem_of_getElem? (i := 1682) (by decide +kernel)⟩
theorem lw_p69 : lw_okq (⟨"SorryWalkModel", "oldOne", "(III)Z"⟩, 34) := ⟨⟨by decide +kernel, by decide +kernel⟩, List.mem_of_getElem? (i := 1442) (by decide +kernel), List.mem_of_getElem? (i := 1685) (by decide +kernel), List.mem_of_getElem? (i := 1686) (by decide +kernel)⟩
theorem lw_p70 : lw_okq (⟨"SorryWalkModel", "aPerson", "()Z"⟩, 34) := ⟨⟨by decide +kernel, by decide +kernel⟩, List.mem_of_getElem? (i := 1442) (by decide +kernel), List.mem_of_getElem? (i := 1689) (by decide +kernel), List.mem_of_getElem? (i := 1690) (by decide +kernel)⟩
theorem lw_p71 : lw_okq (⟨"SorryWalkModel", "wantWord", "(Ljava/lang/String;I)Z"⟩, 34) := ⟨⟨by decide +kernel, by decide +kernel⟩, List.mem_of_getElem? (i := 1442) (by decide +kernel), List.mem_of_getElem? (i := 1693) (by decide +kernel), List.mem_of_getElem? (i := 1694) (by decide +kernel)⟩
theorem lw_p72 : lw_okq (⟨"SorryWalkModel", "aDebt", "()Z"⟩, 34) := ⟨⟨by decide +kernel, by decide +kernel⟩, List.mem_of_getElem? (i := 1442) (by decide +kernel), List.mem_of_getElem? (i := 1697) (by decide +kernel), List.mem_of_getElem? (i := 1698) (by decide +kernel)⟩
theorem lw_p73 : lw_okq (⟨"SorryWalkModel", "number", "(III)Z"⟩, 34) := ⟨⟨by decide +kernel, by decide +kernel⟩, List.mem_of_getElem? (i := 1442) (by decide +kernel), List.mem_of_getElem? (i := 1701) (by decide +kernel), List.mem_of_getElem? (i := 1702) (by decide +kernel)⟩
theorem lw_p74 : lw_okq (⟨"SorryWalkModel", "anHeir", "()Z"⟩, 34) := ⟨⟨by decide +kernel, by decide +kernel⟩, List.mem_of_getElem? (i := 1442) (by decide +kernel), List.mem_of_getElem? (i := 1705) (by decide +kernel), List.mem_of_getElem? (i := 1706) (by decide +kernel)⟩
theorem lw_p75 : lw_okq (⟨"SorryWalkModel", "wantSign", "(I)Z"⟩, 34) := ⟨⟨by decide +kernel, by decide +kernel⟩, List.mem_of_getElem? (i := 1442) (by decide +kernel), List.mem_of_getElem? (i := 1709) (by decide +kernel), List.mem_of_getElem? (i := 1710) (by decide +kernel)⟩
theorem lw_p76 : lw_okq (⟨"SorryWalkModel", "isSign", "(I)Z"⟩, 34) := ⟨⟨by decide +kernel, by decide +kernel⟩, List.mem_of_getElem? (i := 1442) (by decide +kernel), List.mem_of_getElem? (i := 1713) (by decide +kernel), List.mem_of_getElem? (i := 1714) (by decide +kernel)⟩
theorem lw_p77 : lw_okq (⟨"SorryWalkModel", "taken", "(I)I"⟩, 34) := ⟨⟨by decide +kernel, by decide +kernel⟩, List.mem_of_getElem? (i := 1442) (by decide +kernel), List.mem_of_getElem? (i := 1717) (by decide +kernel), List.mem_of_getElem? (i := 1718) (by decide +kernel)⟩
theorem lw_p78 : lw_okq (⟨"SorryWalkModel", "gives", "(I)I"⟩, 34) := ⟨⟨by decide +kernel, by decide +kernel⟩, List.mem_of_getElem? (i := 1442) (by decide +kernel), List.mem_of_getElem? (i := 1721) (by decide +kernel), List.mem_of_getElem? (i := 1722) (by decide +kernel)⟩
theorem lw_p79 : lw_okq (⟨"SorryWalkModel", "taleStep", "()Z"⟩, 34) := ⟨⟨by decide +kernel, by decide +kernel⟩, List.mem_of_getElem? (i := 1442) (by decide +kernel), List.mem_of_getElem? (i := 1729) (by decide +kernel), List.mem_of_getElem? (i := 1730) (by decide +kernel)⟩
def lw_privs_5 : List (MethodName × Nat) := [(⟨"SorryWalkModel", "findHere", "(II)I"⟩, 34), (⟨"SorryWalkModel", "nameHere", "()J"⟩, 34), (⟨"SorryWalkModel", "isThere", "(I)Z"⟩, 34), (⟨"SorryWalkModel", "aDoor", "()Z"⟩, 34), (⟨"SorryWalkModel", "twoTo", "(III)Z"⟩, 34), (⟨"SorryWalkModel", "oldOne", "(III)Z"⟩, 34), (⟨"SorryWalkModel", "aPerson", "()Z"⟩, 34), (⟨"SorryWalkModel", "wantWord", "(Ljava/lang/String;I)Z"⟩, 34), (⟨"SorryWalkModel", "aDebt", "()Z"⟩, 34), (⟨"SorryWalkModel", "number", "(III)Z"⟩, 34), (⟨"SorryWalkModel", "anHeir", "()Z"⟩, 34), (⟨"SorryWalkModel", "wantSign", "(I)Z"⟩, 34), (⟨"SorryWalkModel", "isSign", "(I)Z"⟩, 34), (⟨"SorryWalkModel", "taken", "(I)I"⟩, 34), (⟨"SorryWalkModel", "gives", "(I)I"⟩, 34), (⟨"SorryWalkModel", "taleStep", "()Z"⟩, 34)]
theorem lw_r5 : ∀ q ∈ lw_privs_5, lw_okq q := List.forall_mem_cons.mpr ⟨lw_p64, List.forall_mem_cons.mpr ⟨lw_p65, List.forall_mem_cons.mpr ⟨lw_p66, List.forall_mem_cons.mpr ⟨lw_p67, List.forall_mem_cons.mpr ⟨lw_p68, List.forall_mem_cons.mpr ⟨lw_p69, List.forall_mem_cons.mpr ⟨lw_p70, List.forall_mem_cons.mpr ⟨lw_p71, List.forall_mem_cons.mpr ⟨lw_p72, List.forall_mem_cons.mpr ⟨lw_p73, List.forall_mem_cons.mpr ⟨lw_p74, List.forall_mem_cons.mpr ⟨lw_p75, List.forall_mem_cons.mpr ⟨lw_p76, List.forall_mem_cons.mpr ⟨lw_p77, List.forall_mem_cons.mpr ⟨lw_p78, List.forall_mem_cons.mpr ⟨lw_p79, fun _ h => absurd h List.not_mem_nil⟩⟩⟩⟩⟩⟩⟩⟩⟩⟩⟩⟩⟩⟩⟩⟩
theorem lw_p80 : lw_okq (⟨"SorryWalkModel", "taleOrder", "(II)Z"⟩, 34) := ⟨⟨by decide +kernel, by decide +kernel⟩, List.mem_of_getElem? (i := 1442) (by decide +kernel), List.mem_of_getElem? (i := 1733) (by decide +kernel), List.mem_of_getElem? (i := 1734) (by decide +kernel)⟩
theorem lw_p81 : lw_okq (⟨"SorryWalkModel", "personTo", "(I)Z"⟩, 34) := ⟨⟨by decide +kernel, by decide +kernel⟩, List.mem_of_getElem? (i := 1442) (by decide +kernel), List.mem_of_getElem? (i := 1737) (by decide +kernel), List.mem_of_getElem? (i := 1738) (by decide +kernel)⟩
theorem lw_p82 : lw_okq (⟨"SorryWalkModel", "houseTo", "(I)Z"⟩, 34) := ⟨⟨by decide +kernel, by decide +kernel⟩, List.mem_of_getElem? (i := 1442) (by decide +kernel), List.mem_of_getElem? (i := 1741) (by decide +kernel), List.mem_of_getElem? (i := 1742) (by decide +kernel)⟩
theorem lw_p83 : lw_okq (⟨"SorryWalkModel", "test", "(I)Z"⟩, 34) := ⟨⟨by decide +kernel, by decide +kernel⟩, List.mem_of_getElem? (i := 1442) (by decide +kernel), List.mem_of_getElem? (i := 1745) (by decide +kernel), List.mem_of_getElem? (i := 1746) (by decide +kernel)⟩
theorem lw_p84 : lw_okq (⟨"SorryWalkModel", "sorrow", "()I"⟩, 34) := ⟨⟨by decide +kernel, by decide +kernel⟩, List.mem_of_getElem? (i := 1442) (by decide +kernel), List.mem_of_getElem? (i := 1759) (by decide +kernel), List.mem_of_getElem? (i := 1760) (by decide +kernel)⟩
theorem lw_p85 : lw_okq (⟨"SorryWalkModel", "owesAll", "(I)I"⟩, 34) := ⟨⟨by decide +kernel, by decide +kernel⟩, List.mem_of_getElem? (i := 1442) (by decide +kernel), List.mem_of_getElem? (i := 1763) (by decide +kernel), List.mem_of_getElem? (i := 1764) (by decide +kernel)⟩
theorem lw_p86 : lw_okq (⟨"SorryWalkModel", "owes", "(II)I"⟩, 34) := ⟨⟨by decide +kernel, by decide +kernel⟩, List.mem_of_getElem? (i := 1442) (by decide +kernel), List.mem_of_getElem? (i := 1767) (by decide +kernel), List.mem_of_getElem? (i := 1768) (by decide +kernel)⟩
theorem lw_p87 : lw_okq (⟨"SorryWalkModel", "isSalt", "(I)Z"⟩, 34) := ⟨⟨by decide +kernel, by decide +kernel⟩, List.mem_of_getElem? (i := 1442) (by decide +kernel), List.mem_of_getElem? (i := 1771) (by decide +kernel), List.mem_of_getElem? (i := 1772) (by decide +kernel)⟩
theorem lw_p88 : lw_okq (⟨"SorryWalkModel", "setOf", "(I)I"⟩, 34) := ⟨⟨by decide +kernel, by decide +kernel⟩, List.mem_of_getElem? (i := 1442) (by decide +kernel), List.mem_of_getElem? (i := 1775) (by decide +kernel), List.mem_of_getElem? (i := 1776) (by decide +kernel)⟩
theorem lw_p89 : lw_okq (⟨"SorryWalkModel", "isDead", "(I)Z"⟩, 34) := ⟨⟨by decide +kernel, by decide +kernel⟩, List.mem_of_getElem? (i := 1442) (by decide +kernel), List.mem_of_getElem? (i := 1779) (by decide +kernel), List.mem_of_getElem? (i := 1780) (by decide +kernel)⟩
theorem lw_p90 : lw_okq (⟨"SorryWalkModel", "isGhost", "(I)Z"⟩, 34) := ⟨⟨by decide +kernel, by decide +kernel⟩, List.mem_of_getElem? (i := 1442) (by decide +kernel), List.mem_of_getElem? (i := 1786) (by decide +kernel), List.mem_of_getElem? (i := 1787) (by decide +kernel)⟩
theorem lw_p91 : lw_okq (⟨"SorryWalkModel", "isPerson", "(I)Z"⟩, 34) := ⟨⟨by decide +kernel, by decide +kernel⟩, List.mem_of_getElem? (i := 1442) (by decide +kernel), List.mem_of_getElem? (i := 1794) (by decide +kernel), List.mem_of_getElem? (i := 1795) (by decide +kernel)⟩
theorem lw_p92 : lw_okq (⟨"SorryWalkModel", "owedAll", "(I)I"⟩, 34) := ⟨⟨by decide +kernel, by decide +kernel⟩, List.mem_of_getElem? (i := 1442) (by decide +kernel), List.mem_of_getElem? (i := 1798) (by decide +kernel), List.mem_of_getElem? (i := 1799) (by decide +kernel)⟩
theorem lw_p93 : lw_okq (⟨"SorryWalkModel", "areTwo", "(II)Z"⟩, 34) := ⟨⟨by decide +kernel, by decide +kernel⟩, List.mem_of_getElem? (i := 1442) (by decide +kernel), List.mem_of_getElem? (i := 1806) (by decide +kernel), List.mem_of_getElem? (i := 1807) (by decide +kernel)⟩
theorem lw_p94 : lw_okq (⟨"SorryWalkModel", "isHouse", "(I)Z"⟩, 34) := ⟨⟨by decide +kernel, by decide +kernel⟩, List.mem_of_getElem? (i := 1442) (by decide +kernel), List.mem_of_getElem? (i := 1818) (by decide +kernel), List.mem_of_getElem? (i := 1819) (by decide +kernel)⟩
theorem lw_p95 : lw_okq (⟨"SorryWalkModel", "isDoor", "(II)Z"⟩, 34) := ⟨⟨by decide +kernel, by decide +kernel⟩, List.mem_of_getElem? (i := 1442) (by decide +kernel), List.mem_of_getElem? (i := 1822) (by decide +kernel), List.mem_of_getElem? (i := 1823) (by decide +kernel)⟩
def lw_privs_6 : List (MethodName × Nat) := [(⟨"SorryWalkModel", "taleOrder", "(II)Z"⟩, 34), (⟨"SorryWalkModel", "personTo", "(I)Z"⟩, 34), (⟨"SorryWalkModel", "houseTo", "(I)Z"⟩, 34), (⟨"SorryWalkModel", "test", "(I)Z"⟩, 34), (⟨"SorryWalkModel", "sorrow", "()I"⟩, 34), (⟨"SorryWalkModel", "owesAll", "(I)I"⟩, 34), (⟨"SorryWalkModel", "owes", "(II)I"⟩, 34), (⟨"SorryWalkModel", "isSalt", "(I)Z"⟩, 34), (⟨"SorryWalkModel", "setOf", "(I)I"⟩, 34), (⟨"SorryWalkModel", "isDead", "(I)Z"⟩, 34), (⟨"SorryWalkModel", "isGhost", "(I)Z"⟩, 34), (⟨"SorryWalkModel", "isPerson", "(I)Z"⟩, 34), (⟨"SorryWalkModel", "owedAll", "(I)I"⟩, 34), (⟨"SorryWalkModel", "areTwo", "(II)Z"⟩, 34), (⟨"SorryWalkModel", "isHouse", "(I)Z"⟩, 34), (⟨"SorryWalkModel", "isDoor", "(II)Z"⟩, 34)]
theorem lw_r6 : ∀ q ∈ lw_privs_6, lw_okq q := List.forall_mem_cons.mpr ⟨lw_p80, List.forall_mem_cons.mpr ⟨lw_p81, List.forall_mem_cons.mpr ⟨lw_p82, List.forall_mem_cons.mpr ⟨lw_p83, List.forall_mem_cons.mpr ⟨lw_p84, List.forall_mem_cons.mpr ⟨lw_p85, List.forall_mem_cons.mpr ⟨lw_p86, List.forall_mem_cons.mpr ⟨lw_p87, List.forall_mem_cons.mpr ⟨lw_p88, List.forall_mem_cons.mpr ⟨lw_p89, List.forall_mem_cons.mpr ⟨lw_p90, List.forall_mem_cons.mpr ⟨lw_p91, List.forall_mem_cons.mpr ⟨lw_p92, List.forall_mem_cons.mpr ⟨lw_p93, List.forall_mem_cons.mpr ⟨lw_p94, List.forall_mem_cons.mpr ⟨lw_p95, fun _ h => absurd h List.not_mem_nil⟩⟩⟩⟩⟩⟩⟩⟩⟩⟩⟩⟩⟩⟩⟩⟩
theorem lw_p96 : lw_okq (⟨"SorryWalkModel", "isIn", "(II)Z"⟩, 34) := ⟨⟨by decide +kernel, by decide +kernel⟩, List.mem_of_getElem? (i := 1442) (by decide +kernel), List.mem_of_getElem? (i := 1826) (by decide +kernel), List.mem_of_getElem? (i := 1827) (by decide +kernel)⟩
theorem lw_p97 : lw_okq (⟨"SorryWalkModel", "inHouse", "(I)I"⟩, 34) := ⟨⟨by decide +kernel, by decide +kernel⟩, List.mem_of_getElem? (i := 1442) (by decide +kernel), List.mem_of_getElem? (i := 1838) (by decide +kernel), List.mem_of_getElem? (i := 1839) (by decide +kernel)⟩
theorem lw_p98 : lw_okq (⟨"SorryWalkModel", "whereOf", "(I)I"⟩, 34) := ⟨⟨by decide +kernel, by decide +kernel⟩, List.mem_of_getElem? (i := 1442) (by decide +kernel), List.mem_of_getElem? (i := 1842) (by decide +kernel), List.mem_of_getElem? (i := 1843) (by decide +kernel)⟩
theorem lw_p99 : lw_okq (⟨"SorryWalkModel", "night0", "()V"⟩, 34) := ⟨⟨by decide +kernel, by decide +kernel⟩, List.mem_of_getElem? (i := 1442) (by decide +kernel), List.mem_of_getElem? (i := 1854) (by decide +kernel), List.mem_of_getElem? (i := 1855) (by decide +kernel)⟩
theorem lw_p100 : lw_okq (⟨"SorryWalkModel", "aimOf", "(I)I"⟩, 34) := ⟨⟨by decide +kernel, by decide +kernel⟩, List.mem_of_getElem? (i := 1442) (by decide +kernel), List.mem_of_getElem? (i := 1858) (by decide +kernel), List.mem_of_getElem? (i := 1859) (by decide +kernel)⟩
theorem lw_p101 : lw_okq (⟨"SorryWalkModel", "laysWays", "(II)V"⟩, 34) := ⟨⟨by decide +kernel, by decide +kernel⟩, List.mem_of_getElem? (i := 1442) (by decide +kernel), List.mem_of_getElem? (i := 1862) (by decide +kernel), List.mem_of_getElem? (i := 1863) (by decide +kernel)⟩
theorem lw_p102 : lw_okq (⟨"SorryWalkModel", "sorries", "(II)V"⟩, 34) := ⟨⟨by decide +kernel, by decide +kernel⟩, List.mem_of_getElem? (i := 1442) (by decide +kernel), List.mem_of_getElem? (i := 1867) (by decide +kernel), List.mem_of_getElem? (i := 1868) (by decide +kernel)⟩
theorem lw_p103 : lw_okq (⟨"SorryWalkModel", "owesNow", "(III)V"⟩, 34) := ⟨⟨by decide +kernel, by decide +kernel⟩, List.mem_of_getElem? (i := 1442) (by decide +kernel), List.mem_of_getElem? (i := 1871) (by decide +kernel), List.mem_of_getElem? (i := 1872) (by decide +kernel)⟩
theorem lw_p104 : lw_okq (⟨"SorryWalkModel", "nextOn", "(II)I"⟩, 34) := ⟨⟨by decide +kernel, by decide +kernel⟩, List.mem_of_getElem? (i := 1442) (by decide +kernel), List.mem_of_getElem? (i := 1875) (by decide +kernel), List.mem_of_getElem? (i := 1876) (by decide +kernel)⟩
theorem lw_p105 : lw_okq (⟨"SorryWalkModel", "dies", "(I)Z"⟩, 34) := ⟨⟨by decide +kernel, by decide +kernel⟩, List.mem_of_getElem? (i := 1442) (by decide +kernel), List.mem_of_getElem? (i := 1883) (by decide +kernel), List.mem_of_getElem? (i := 1884) (by decide +kernel)⟩
theorem lw_p106 : lw_okq (⟨"SorryWalkModel", "isHeirOf", "(II)Z"⟩, 34) := ⟨⟨by decide +kernel, by decide +kernel⟩, List.mem_of_getElem? (i := 1442) (by decide +kernel), List.mem_of_getElem? (i := 1887) (by decide +kernel), List.mem_of_getElem? (i := 1888) (by decide +kernel)⟩
theorem lw_p107 : lw_okq (⟨"SorryWalkModel", "partOf", "(III)I"⟩, 34) := ⟨⟨by decide +kernel, by decide +kernel⟩, List.mem_of_getElem? (i := 1442) (by decide +kernel), List.mem_of_getElem? (i := 1891) (by decide +kernel), List.mem_of_getElem? (i := 1892) (by decide +kernel)⟩
theorem lw_p108 : lw_okq (⟨"SorryWalkModel", "heirsBut", "(II)I"⟩, 34) := ⟨⟨by decide +kernel, by decide +kernel⟩, List.mem_of_getElem? (i := 1442) (by decide +kernel), List.mem_of_getElem? (i := 1895) (by decide +kernel), List.mem_of_getElem? (i := 1896) (by decide +kernel)⟩
theorem lw_p109 : lw_okq (⟨"SorryWalkModel", "forgives", "(II)I"⟩, 34) := ⟨⟨by decide +kernel, by decide +kernel⟩, List.mem_of_getElem? (i := 1442) (by decide +kernel), List.mem_of_getElem? (i := 1903) (by decide +kernel), List.mem_of_getElem? (i := 1904) (by decide +kernel)⟩
theorem lw_p110 : lw_okq (⟨"SorryWalkModel", "forges", "(III)Z"⟩, 34) := ⟨⟨by decide +kernel, by decide +kernel⟩, List.mem_of_getElem? (i := 1442) (by decide +kernel), List.mem_of_getElem? (i := 1911) (by decide +kernel), List.mem_of_getElem? (i := 1912) (by decide +kernel)⟩
theorem lw_p111 : lw_okq (⟨"SorryWalkModel", "turns", "(IZ)Z"⟩, 34) := ⟨⟨by decide +kernel, by decide +kernel⟩, List.mem_of_getElem? (i := 1442) (by decide +kernel), List.mem_of_getElem? (i := 1919) (by decide +kernel), List.mem_of_getElem? (i := 1920) (by decide +kernel)⟩
def lw_privs_7 : List (MethodName × Nat) := [(⟨"SorryWalkModel", "isIn", "(II)Z"⟩, 34), (⟨"SorryWalkModel", "inHouse", "(I)I"⟩, 34), (⟨"SorryWalkModel", "whereOf", "(I)I"⟩, 34), (⟨"SorryWalkModel", "night0", "()V"⟩, 34), (⟨"SorryWalkModel", "aimOf", "(I)I"⟩, 34), (⟨"SorryWalkModel", "laysWays", "(II)V"⟩, 34), (⟨"SorryWalkModel", "sorries", "(II)V"⟩, 34), (⟨"SorryWalkModel", "owesNow", "(III)V"⟩, 34), (⟨"SorryWalkModel", "nextOn", "(II)I"⟩, 34), (⟨"SorryWalkModel", "dies", "(I)Z"⟩, 34), (⟨"SorryWalkModel", "isHeirOf", "(II)Z"⟩, 34), (⟨"SorryWalkModel", "partOf", "(III)I"⟩, 34), (⟨"SorryWalkModel", "heirsBut", "(II)I"⟩, 34), (⟨"SorryWalkModel", "forgives", "(II)I"⟩, 34), (⟨"SorryWalkModel", "forges", "(III)Z"⟩, 34), (⟨"SorryWalkModel", "turns", "(IZ)Z"⟩, 34)]
theorem lw_r7 : ∀ q ∈ lw_privs_7, lw_okq q := List.forall_mem_cons.mpr ⟨lw_p96, List.forall_mem_cons.mpr ⟨lw_p97, List.forall_mem_cons.mpr ⟨lw_p98, List.forall_mem_cons.mpr ⟨lw_p99, List.forall_mem_cons.mpr ⟨lw_p100, List.forall_mem_cons.mpr ⟨lw_p101, List.forall_mem_cons.mpr ⟨lw_p102, List.forall_mem_cons.mpr ⟨lw_p103, List.forall_mem_cons.mpr ⟨lw_p104, List.forall_mem_cons.mpr ⟨lw_p105, List.forall_mem_cons.mpr ⟨lw_p106, List.forall_mem_cons.mpr ⟨lw_p107, List.forall_mem_cons.mpr ⟨lw_p108, List.forall_mem_cons.mpr ⟨lw_p109, List.forall_mem_cons.mpr ⟨lw_p110, List.forall_mem_cons.mpr ⟨lw_p111, fun _ h => absurd h List.not_mem_nil⟩⟩⟩⟩⟩⟩⟩⟩⟩⟩⟩⟩⟩⟩⟩⟩
theorem lw_p112 : lw_okq (⟨"SorryWalkModel", "orNone", "(I)I"⟩, 34) := ⟨⟨by decide +kernel, by decide +kernel⟩, List.mem_of_getElem? (i := 1442) (by decide +kernel), List.mem_of_getElem? (i := 1943) (by decide +kernel), List.mem_of_getElem? (i := 1944) (by decide +kernel)⟩
theorem lw_p113 : lw_okq (⟨"SorryWalkModel", "stepOf", "(I)I"⟩, 34) := ⟨⟨by decide +kernel, by decide +kernel⟩, List.mem_of_getElem? (i := 1442) (by decide +kernel), List.mem_of_getElem? (i := 1951) (by decide +kernel), List.mem_of_getElem? (i := 1952) (by decide +kernel)⟩
theorem lw_p114 : lw_okq (⟨"SorryWalkModel", "isLater", "(I)Z"⟩, 34) := ⟨⟨by decide +kernel, by decide +kernel⟩, List.mem_of_getElem? (i := 1442) (by decide +kernel), List.mem_of_getElem? (i := 1959) (by decide +kernel), List.mem_of_getElem? (i := 1960) (by decide +kernel)⟩
theorem lw_p115 : lw_okq (⟨"SorryWalkModel", "keeps", "(I)V"⟩, 34) := ⟨⟨by decide +kernel, by decide +kernel⟩, List.mem_of_getElem? (i := 1442) (by decide +kernel), List.mem_of_getElem? (i := 1964) (by decide +kernel), List.mem_of_getElem? (i := 1965) (by decide +kernel)⟩
theorem lw_p116 : lw_okq (⟨"SorryWalkModel", "nights", "(I)V"⟩, 34) := ⟨⟨by decide +kernel, by decide +kernel⟩, List.mem_of_getElem? (i := 1442) (by decide +kernel), List.mem_of_getElem? (i := 1968) (by decide +kernel), List.mem_of_getElem? (i := 1969) (by decide +kernel)⟩
theorem lw_p117 : lw_okq (⟨"SorryWalkModel", "restores", "(I)V"⟩, 34) := ⟨⟨by decide +kernel, by decide +kernel⟩, List.mem_of_getElem? (i := 1442) (by decide +kernel), List.mem_of_getElem? (i := 1972) (by decide +kernel), List.mem_of_getElem? (i := 1973) (by decide +kernel)⟩
theorem lw_p118 : lw_okq (⟨"SorryWalkModel", "nightsTill", "(IIII)I"⟩, 34) := ⟨⟨by decide +kernel, by decide +kernel⟩, List.mem_of_getElem? (i := 1442) (by decide +kernel), List.mem_of_getElem? (i := 1984) (by decide +kernel), List.mem_of_getElem? (i := 1985) (by decide +kernel)⟩
theorem lw_p119 : lw_okq (⟨"SorryWalkModel", "isSo", "(III)Z"⟩, 34) := ⟨⟨by decide +kernel, by decide +kernel⟩, List.mem_of_getElem? (i := 1442) (by decide +kernel), List.mem_of_getElem? (i := 1988) (by decide +kernel), List.mem_of_getElem? (i := 1989) (by decide +kernel)⟩
theorem lw_p120 : lw_okq (⟨"SorryWalkModel", "clears", "()V"⟩, 34) := ⟨⟨by decide +kernel, by decide +kernel⟩, List.mem_of_getElem? (i := 1442) (by decide +kernel), List.mem_of_getElem? (i := 2029) (by decide +kernel), List.mem_of_getElem? (i := 2030) (by decide +kernel)⟩
theorem lw_p121 : lw_okq (⟨"SorryWalkModel", "counts", "()V"⟩, 34) := ⟨⟨by decide +kernel, by decide +kernel⟩, List.mem_of_getElem? (i := 1442) (by decide +kernel), List.mem_of_getElem? (i := 2033) (by decide +kernel), List.mem_of_getElem? (i := 2034) (by decide +kernel)⟩
theorem lw_p122 : lw_okq (⟨"SorryWalkModel", "mostOf", "([I)I"⟩, 34) := ⟨⟨by decide +kernel, by decide +kernel⟩, List.mem_of_getElem? (i := 1442) (by decide +kernel), List.mem_of_getElem? (i := 2037) (by decide +kernel), List.mem_of_getElem? (i := 2038) (by decide +kernel)⟩
theorem lw_p123 : lw_okq (⟨"SorryWalkModel", "sorrowBehind", "(I)I"⟩, 34) := ⟨⟨by decide +kernel, by decide +kernel⟩, List.mem_of_getElem? (i := 1442) (by decide +kernel), List.mem_of_getElem? (i := 2065) (by decide +kernel), List.mem_of_getElem? (i := 2066) (by decide +kernel)⟩
theorem lw_p124 : lw_okq (⟨"SorryWalkModel", "labourBy", "(I)I"⟩, 34) := ⟨⟨by decide +kernel, by decide +kernel⟩, List.mem_of_getElem? (i := 1442) (by decide +kernel), List.mem_of_getElem? (i := 2077) (by decide +kernel), List.mem_of_getElem? (i := 2078) (by decide +kernel)⟩
theorem lw_p125 : lw_okq (⟨"SorryWalkModel", "weddingOf", "(I)I"⟩, 34) := ⟨⟨by decide +kernel, by decide +kernel⟩, List.mem_of_getElem? (i := 1442) (by decide +kernel), List.mem_of_getElem? (i := 2097) (by decide +kernel), List.mem_of_getElem? (i := 2098) (by decide +kernel)⟩
theorem lw_p126 : lw_okq (⟨"SorryWalkModel", "isHaunted", "(I)Z"⟩, 34) := ⟨⟨by decide +kernel, by decide +kernel⟩, List.mem_of_getElem? (i := 1442) (by decide +kernel), List.mem_of_getElem? (i := 2101) (by decide +kernel), List.mem_of_getElem? (i := 2102) (by decide +kernel)⟩
theorem lw_p127 : lw_okq (⟨"SorryWalkModel", "isPardon", "(II)Z"⟩, 34) := ⟨⟨by decide +kernel, by decide +kernel⟩, List.mem_of_getElem? (i := 1442) (by decide +kernel), List.mem_of_getElem? (i := 2113) (by decide +kernel), List.mem_of_getElem? (i := 2114) (by decide +kernel)⟩
def lw_privs_8 : List (MethodName × Nat) := [(⟨"SorryWalkModel", "orNone", "(I)I"⟩, 34), (⟨"SorryWalkModel", "stepOf", "(I)I"⟩, 34), (⟨"SorryWalkModel", "isLater", "(I)Z"⟩, 34), (⟨"SorryWalkModel", "keeps", "(I)V"⟩, 34), (⟨"SorryWalkModel", "nights", "(I)V"⟩, 34), (⟨"SorryWalkModel", "restores", "(I)V"⟩, 34), (⟨"SorryWalkModel", "nightsTill", "(IIII)I"⟩, 34), (⟨"SorryWalkModel", "isSo", "(III)Z"⟩, 34), (⟨"SorryWalkModel", "clears", "()V"⟩, 34), (⟨"SorryWalkModel", "counts", "()V"⟩, 34), (⟨"SorryWalkModel", "mostOf", "([I)I"⟩, 34), (⟨"SorryWalkModel", "sorrowBehind", "(I)I"⟩, 34), (⟨"SorryWalkModel", "labourBy", "(I)I"⟩, 34), (⟨"SorryWalkModel", "weddingOf", "(I)I"⟩, 34), (⟨"SorryWalkModel", "isHaunted", "(I)Z"⟩, 34), (⟨"SorryWalkModel", "isPardon", "(II)Z"⟩, 34)]
theorem lw_r8 : ∀ q ∈ lw_privs_8, lw_okq q := List.forall_mem_cons.mpr ⟨lw_p112, List.forall_mem_cons.mpr ⟨lw_p113, List.forall_mem_cons.mpr ⟨lw_p114, List.forall_mem_cons.mpr ⟨lw_p115, List.forall_mem_cons.mpr ⟨lw_p116, List.forall_mem_cons.mpr ⟨lw_p117, List.forall_mem_cons.mpr ⟨lw_p118, List.forall_mem_cons.mpr ⟨lw_p119, List.forall_mem_cons.mpr ⟨lw_p120, List.forall_mem_cons.mpr ⟨lw_p121, List.forall_mem_cons.mpr ⟨lw_p122, List.forall_mem_cons.mpr ⟨lw_p123, List.forall_mem_cons.mpr ⟨lw_p124, List.forall_mem_cons.mpr ⟨lw_p125, List.forall_mem_cons.mpr ⟨lw_p126, List.forall_mem_cons.mpr ⟨lw_p127, fun _ h => absurd h List.not_mem_nil⟩⟩⟩⟩⟩⟩⟩⟩⟩⟩⟩⟩⟩⟩⟩⟩
theorem lw_p128 : lw_okq (⟨"SorryWalkModel", "pardonOf", "(II)I"⟩, 34) := ⟨⟨by decide +kernel, by decide +kernel⟩, List.mem_of_getElem? (i := 1442) (by decide +kernel), List.mem_of_getElem? (i := 2118) (by decide +kernel), List.mem_of_getElem? (i := 2119) (by decide +kernel)⟩
theorem lw_p129 : lw_okq (⟨"SorryWalkModel", "areMutual", "(II)Z"⟩, 34) := ⟨⟨by decide +kernel, by decide +kernel⟩, List.mem_of_getElem? (i := 1442) (by decide +kernel), List.mem_of_getElem? (i := 2130) (by decide +kernel), List.mem_of_getElem? (i := 2131) (by decide +kernel)⟩
theorem lw_p130 : lw_okq (⟨"SorryWalkModel", "tellsBy", "(JJ)Z"⟩, 34) := ⟨⟨by decide +kernel, by decide +kernel⟩, List.mem_of_getElem? (i := 1442) (by decide +kernel), List.mem_of_getElem? (i := 2150) (by decide +kernel), List.mem_of_getElem? (i := 2151) (by decide +kernel)⟩
theorem lw_p131 : lw_okq (⟨"SorryWalkModel", "lives", "(I)V"⟩, 34) := ⟨⟨by decide +kernel, by decide +kernel⟩, List.mem_of_getElem? (i := 1442) (by decide +kernel), List.mem_of_getElem? (i := 2177) (by decide +kernel), List.mem_of_getElem? (i := 2178) (by decide +kernel)⟩
theorem lw_p132 : lw_okq (⟨"SorryWalkModel", "does", "(I)Z"⟩, 34) := ⟨⟨by decide +kernel, by decide +kernel⟩, List.mem_of_getElem? (i := 1442) (by decide +kernel), List.mem_of_getElem? (i := 2181) (by decide +kernel), List.mem_of_getElem? (i := 2182) (by decide +kernel)⟩
theorem lw_p133 : lw_okq (⟨"SorryWalkModel", "nightsBy", "(I)Z"⟩, 34) := ⟨⟨by decide +kernel, by decide +kernel⟩, List.mem_of_getElem? (i := 1442) (by decide +kernel), List.mem_of_getElem? (i := 2185) (by decide +kernel), List.mem_of_getElem? (i := 2186) (by decide +kernel)⟩
theorem lw_p134 : lw_okq (⟨"SorryWalkModel", "diesBy", "(I)Z"⟩, 34) := ⟨⟨by decide +kernel, by decide +kernel⟩, List.mem_of_getElem? (i := 1442) (by decide +kernel), List.mem_of_getElem? (i := 2189) (by decide +kernel), List.mem_of_getElem? (i := 2190) (by decide +kernel)⟩
theorem lw_p135 : lw_okq (⟨"SorryWalkModel", "diesAny", "()Z"⟩, 34) := ⟨⟨by decide +kernel, by decide +kernel⟩, List.mem_of_getElem? (i := 1442) (by decide +kernel), List.mem_of_getElem? (i := 2193) (by decide +kernel), List.mem_of_getElem? (i := 2194) (by decide +kernel)⟩
theorem lw_p136 : lw_okq (⟨"SorryWalkModel", "draw", "(I)I"⟩, 34) := ⟨⟨by decide +kernel, by decide +kernel⟩, List.mem_of_getElem? (i := 1442) (by decide +kernel), List.mem_of_getElem? (i := 2197) (by decide +kernel), List.mem_of_getElem? (i := 2198) (by decide +kernel)⟩
theorem lw_p137 : lw_okq (⟨"SorryWalkModel", "holds", "(I)Z"⟩, 34) := ⟨⟨by decide +kernel, by decide +kernel⟩, List.mem_of_getElem? (i := 1442) (by decide +kernel), List.mem_of_getElem? (i := 2202) (by decide +kernel), List.mem_of_getElem? (i := 2203) (by decide +kernel)⟩
theorem lw_p138 : lw_okq (⟨"SorryWalkModel", "behindEnds", "(I)I"⟩, 34) := ⟨⟨by decide +kernel, by decide +kernel⟩, List.mem_of_getElem? (i := 1442) (by decide +kernel), List.mem_of_getElem? (i := 2206) (by decide +kernel), List.mem_of_getElem? (i := 2207) (by decide +kernel)⟩
theorem lw_p139 : lw_okq (⟨"SorryWalkModel", "copies", "(II)V"⟩, 34) := ⟨⟨by decide +kernel, by decide +kernel⟩, List.mem_of_getElem? (i := 1442) (by decide +kernel), List.mem_of_getElem? (i := 2222) (by decide +kernel), List.mem_of_getElem? (i := 2223) (by decide +kernel)⟩
def lw_privs_9 : List (MethodName × Nat) := [(⟨"SorryWalkModel", "pardonOf", "(II)I"⟩, 34), (⟨"SorryWalkModel", "areMutual", "(II)Z"⟩, 34), (⟨"SorryWalkModel", "tellsBy", "(JJ)Z"⟩, 34), (⟨"SorryWalkModel", "lives", "(I)V"⟩, 34), (⟨"SorryWalkModel", "does", "(I)Z"⟩, 34), (⟨"SorryWalkModel", "nightsBy", "(I)Z"⟩, 34), (⟨"SorryWalkModel", "diesBy", "(I)Z"⟩, 34), (⟨"SorryWalkModel", "diesAny", "()Z"⟩, 34), (⟨"SorryWalkModel", "draw", "(I)I"⟩, 34), (⟨"SorryWalkModel", "holds", "(I)Z"⟩, 34), (⟨"SorryWalkModel", "behindEnds", "(I)I"⟩, 34), (⟨"SorryWalkModel", "copies", "(II)V"⟩, 34)]
theorem lw_r9 : ∀ q ∈ lw_privs_9, lw_okq q := List.forall_mem_cons.mpr ⟨lw_p128, List.forall_mem_cons.mpr ⟨lw_p129, List.forall_mem_cons.mpr ⟨lw_p130, List.forall_mem_cons.mpr ⟨lw_p131, List.forall_mem_cons.mpr ⟨lw_p132, List.forall_mem_cons.mpr ⟨lw_p133, List.forall_mem_cons.mpr ⟨lw_p134, List.forall_mem_cons.mpr ⟨lw_p135, List.forall_mem_cons.mpr ⟨lw_p136, List.forall_mem_cons.mpr ⟨lw_p137, List.forall_mem_cons.mpr ⟨lw_p138, List.forall_mem_cons.mpr ⟨lw_p139, fun _ h => absurd h List.not_mem_nil⟩⟩⟩⟩⟩⟩⟩⟩⟩⟩⟩⟩
def lw_privs : List (MethodName × Nat) := lw_privs_1 ++ (lw_privs_2 ++ (lw_privs_3 ++ (lw_privs_4 ++ (lw_privs_5 ++ (lw_privs_6 ++ (lw_privs_7 ++ (lw_privs_8 ++ (lw_privs_9))))))))
def lw_tbl : List Cond := k2_sels lw_privs ++ tables_1
theorem lw_privs_ok : ∀ q ∈ lw_privs, lw_okq q := by
  show ∀ q ∈ lw_privs_1 ++ (lw_privs_2 ++ (lw_privs_3 ++ (lw_privs_4 ++ (lw_privs_5 ++ (lw_privs_6 ++ (lw_privs_7 ++ (lw_privs_8 ++ (lw_privs_9)))))))), lw_okq q
  exact List.forall_mem_append.mpr ⟨lw_r1, List.forall_mem_append.mpr ⟨lw_r2, List.forall_mem_append.mpr ⟨lw_r3, List.forall_mem_append.mpr ⟨lw_r4, List.forall_mem_append.mpr ⟨lw_r5, List.forall_mem_append.mpr ⟨lw_r6, List.forall_mem_append.mpr ⟨lw_r7, List.forall_mem_append.mpr ⟨lw_r8, lw_r9⟩⟩⟩⟩⟩⟩⟩⟩

def RX0 : String := "SorryWalk$Debts"
def TX0 : u_T := fun k => match k with
  | 0 => ("SorryWalk$Debts", "owes", "[I", true)
  | _ => ("SorryWalk$Debts", "total", "[I", true)
def tyX0 : Nat → FieldType := fun k => match k with
  | 0 => .array .int
  | _ => .array .int
abbrev wsX00 : List Cond := u_ws RX0 TX0 2
theorem nmX0 : ∀ a, a < 2 → ∀ b, b < 2 → a ≠ b → (TX0 a).2.1 ≠ (TX0 b).2.1 := by decide +kernel
theorem tyX0_ok : ∀ k, k < 2 → parseFieldDescriptor (TX0 k).2.2.1 = some (tyX0 k) := by decide +kernel
abbrev cX0_init : ByteArray := prog_2_method_1_code
def yX0_init : MethodName := ⟨RX0, "<init>", "()V"⟩
abbrev cX0_clear : ByteArray := prog_2_method_2_code
def yX0_clear : MethodName := ⟨RX0, "clear", "()V"⟩
abbrev cX0_copyFrom : ByteArray := prog_2_method_3_code
def yX0_copyFrom : MethodName := ⟨RX0, "copyFrom", "(LSorryWalk$Debts;)V"⟩
abbrev cX0_of : ByteArray := prog_2_method_4_code
def yX0_of : MethodName := ⟨RX0, "of", "(II)I"⟩
abbrev cX0_put : ByteArray := prog_2_method_5_code
def yX0_put : MethodName := ⟨RX0, "put", "(III)V"⟩
abbrev cX0_add : ByteArray := prog_2_method_6_code
def yX0_add : MethodName := ⟨RX0, "add", "(III)V"⟩
abbrev cX0_claimOf : ByteArray := prog_2_method_7_code
def yX0_claimOf : MethodName := ⟨RX0, "claimOf", "(I)I"⟩
abbrev cX0_sorrow : ByteArray := prog_2_method_8_code
def yX0_sorrow : MethodName := ⟨RX0, "sorrow", "()I"⟩
abbrev cX0_isMutual : ByteArray := prog_2_method_9_code
def yX0_isMutual : MethodName := ⟨RX0, "isMutual", "(II)Z"⟩
abbrev cX0_creditors : ByteArray := prog_2_method_10_code
def yX0_creditors : MethodName := ⟨RX0, "creditors", "(I)I"⟩
abbrev cX0_debtorsOf : ByteArray := prog_2_method_11_code
def yX0_debtorsOf : MethodName := ⟨RX0, "debtorsOf", "(I)I"⟩
abbrev cX0_creditorsOfAll : ByteArray := prog_2_method_12_code
def yX0_creditorsOfAll : MethodName := ⟨RX0, "creditorsOfAll", "(I)I"⟩
def RX1 : String := "SorryWalk$Land"
def TX1 : u_T := fun k => match k with
  | 0 => ("SorryWalk$Land", "roads", "LSorryWalk$Roads;", true)
  | 1 => ("SorryWalk$Land", "debts", "LSorryWalk$Debts;", true)
  | 2 => ("SorryWalk$Land", "houseNames", "[J", true)
  | 3 => ("SorryWalk$Land", "personNames", "[J", true)
  | 4 => ("SorryWalk$Land", "persons", "I", false)
  | 5 => ("SorryWalk$Land", "at", "[I", true)
  | 6 => ("SorryWalk$Land", "home", "[I", true)
  | 7 => ("SorryWalk$Land", "dead", "I", false)
  | 8 => ("SorryWalk$Land", "deaf", "I", false)
  | 9 => ("SorryWalk$Land", "keeps", "I", false)
  | 10 => ("SorryWalk$Land", "heirs", "[I", true)
  | 11 => ("SorryWalk$Land", "heirCounts", "[I", true)
  | 12 => ("SorryWalk$Land", "night", "I", false)
  | 13 => ("SorryWalk$Land", "said", "I", false)
  | _ => ("SorryWalk$Land", "labour", "[I", true)
def tyX1 : Nat → FieldType := fun k => match k with
  | 0 => .object "SorryWalk$Roads"
  | 1 => .object "SorryWalk$Debts"
  | 2 => .array .long
  | 3 => .array .long
  | 4 => .int
  | 5 => .array .int
  | 6 => .array .int
  | 7 => .int
  | 8 => .int
  | 9 => .int
  | 10 => .array .int
  | 11 => .array .int
  | 12 => .int
  | 13 => .int
  | _ => .array .int
abbrev wsX10 : List Cond := u_ws RX1 TX1 15
theorem nmX1 : ∀ a, a < 15 → ∀ b, b < 15 → a ≠ b → (TX1 a).2.1 ≠ (TX1 b).2.1 := by decide +kernel
theorem tyX1_ok : ∀ k, k < 15 → parseFieldDescriptor (TX1 k).2.2.1 = some (tyX1 k) := by decide +kernel
abbrev cX1_init : ByteArray := prog_3_method_1_code
def yX1_init : MethodName := ⟨RX1, "<init>", "()V"⟩
abbrev cX1_clear : ByteArray := prog_3_method_2_code
def yX1_clear : MethodName := ⟨RX1, "clear", "()V"⟩
abbrev cX1_copyFrom : ByteArray := prog_3_method_3_code
def yX1_copyFrom : MethodName := ⟨RX1, "copyFrom", "(LSorryWalk$Land;)V"⟩
abbrev cX1_houseNamed : ByteArray := prog_3_method_4_code
def yX1_houseNamed : MethodName := ⟨RX1, "houseNamed", "(J)I"⟩
abbrev cX1_personNamed : ByteArray := prog_3_method_5_code
def yX1_personNamed : MethodName := ⟨RX1, "personNamed", "(J)I"⟩
abbrev cX1_isDead : ByteArray := prog_3_method_6_code
def yX1_isDead : MethodName := ⟨RX1, "isDead", "(I)Z"⟩
abbrev cX1_isGhost : ByteArray := prog_3_method_7_code
def yX1_isGhost : MethodName := ⟨RX1, "isGhost", "(I)Z"⟩
abbrev cX1_ghosts : ByteArray := prog_3_method_8_code
def yX1_ghosts : MethodName := ⟨RX1, "ghosts", "()I"⟩
abbrev cX1_ghostHouses : ByteArray := prog_3_method_9_code
def yX1_ghostHouses : MethodName := ⟨RX1, "ghostHouses", "()I"⟩
abbrev cX1_inHouse : ByteArray := prog_3_method_10_code
def yX1_inHouse : MethodName := ⟨RX1, "inHouse", "(I)I"⟩
abbrev cX1_aimOf : ByteArray := prog_3_method_11_code
def yX1_aimOf : MethodName := ⟨RX1, "aimOf", "(I)I"⟩
abbrev cX1_nextStop : ByteArray := prog_3_method_12_code
def yX1_nextStop : MethodName := ⟨RX1, "nextStop", "(I)I"⟩
abbrev cX1_passNights : ByteArray := prog_3_method_13_code
def yX1_passNights : MethodName := ⟨RX1, "passNights", "(I)V"⟩
abbrev cX1_haunt : ByteArray := prog_3_method_14_code
def yX1_haunt : MethodName := ⟨RX1, "haunt", "(I)V"⟩
abbrev cX1_saySorry : ByteArray := prog_3_method_15_code
def yX1_saySorry : MethodName := ⟨RX1, "saySorry", "(II)V"⟩
abbrev cX1_heirSet : ByteArray := prog_3_method_16_code
def yX1_heirSet : MethodName := ⟨RX1, "heirSet", "(II)I"⟩
abbrev cX1_shareOf : ByteArray := prog_3_method_17_code
def yX1_shareOf : MethodName := ⟨RX1, "shareOf", "(IIII)I"⟩
abbrev cX1_bury : ByteArray := prog_3_method_18_code
def yX1_bury : MethodName := ⟨RX1, "bury", "(I)Z"⟩
abbrev cX1_passOn : ByteArray := prog_3_method_19_code
def yX1_passOn : MethodName := ⟨RX1, "passOn", "(II)V"⟩
abbrev cX1_remit : ByteArray := prog_3_method_20_code
def yX1_remit : MethodName := ⟨RX1, "remit", "(II)Z"⟩
abbrev cX1_remitAll : ByteArray := prog_3_method_21_code
def yX1_remitAll : MethodName := ⟨RX1, "remitAll", "(I)V"⟩
abbrev cX1_slander : ByteArray := prog_3_method_22_code
def yX1_slander : MethodName := ⟨RX1, "slander", "(III)Z"⟩
def RX2 : String := "SorryWalk$LandReader"
def TX2 : u_T := fun k => match k with
  | 0 => ("SorryWalk$LandReader", "tape", "LSorryWalk$Tape;", true)
  | _ => ("SorryWalk$LandReader", "land", "LSorryWalk$Land;", true)
def tyX2 : Nat → FieldType := fun k => match k with
  | 0 => .object "SorryWalk$Tape"
  | _ => .object "SorryWalk$Land"
abbrev wsX20 : List Cond := u_ws RX2 TX2 2
theorem nmX2 : ∀ a, a < 2 → ∀ b, b < 2 → a ≠ b → (TX2 a).2.1 ≠ (TX2 b).2.1 := by decide +kernel
theorem tyX2_ok : ∀ k, k < 2 → parseFieldDescriptor (TX2 k).2.2.1 = some (tyX2 k) := by decide +kernel
abbrev cX2_init : ByteArray := prog_4_method_1_code
def yX2_init : MethodName := ⟨RX2, "<init>", "(LSorryWalk$Tape;LSorryWalk$Land;)V"⟩
abbrev cX2_readAll : ByteArray := prog_4_method_2_code
def yX2_readAll : MethodName := ⟨RX2, "readAll", "(I)V"⟩
abbrev cX2_readPart : ByteArray := prog_4_method_3_code
def yX2_readPart : MethodName := ⟨RX2, "readPart", "()Z"⟩
abbrev cX2_isNewName : ByteArray := prog_4_method_4_code
def yX2_isNewName : MethodName := ⟨RX2, "isNewName", "()Z"⟩
abbrev cX2_takeIf : ByteArray := prog_4_method_5_code
def yX2_takeIf : MethodName := ⟨RX2, "takeIf", "(I)Z"⟩
abbrev cX2_readHouse : ByteArray := prog_4_method_6_code
def yX2_readHouse : MethodName := ⟨RX2, "readHouse", "()Z"⟩
abbrev cX2_readDoor : ByteArray := prog_4_method_7_code
def yX2_readDoor : MethodName := ⟨RX2, "readDoor", "()Z"⟩
abbrev cX2_readPerson : ByteArray := prog_4_method_8_code
def yX2_readPerson : MethodName := ⟨RX2, "readPerson", "()Z"⟩
abbrev cX2_readOwes : ByteArray := prog_4_method_9_code
def yX2_readOwes : MethodName := ⟨RX2, "readOwes", "()Z"⟩
abbrev cX2_readHeir : ByteArray := prog_4_method_10_code
def yX2_readHeir : MethodName := ⟨RX2, "readHeir", "()Z"⟩
abbrev cX2_otherPerson : ByteArray := prog_4_method_11_code
def yX2_otherPerson : MethodName := ⟨RX2, "otherPerson", "(I)I"⟩
def RX3 : String := "SorryWalk$Life"
def TX3 : u_T := fun k => match k with
  | 0 => ("SorryWalk$Life", "there", "Z", false)
  | 1 => ("SorryWalk$Life", "done", "I", false)
  | 2 => ("SorryWalk$Life", "missed", "I", false)
  | 3 => ("SorryWalk$Life", "nights", "I", false)
  | 4 => ("SorryWalk$Life", "said", "I", false)
  | 5 => ("SorryWalk$Life", "deaths", "I", false)
  | 6 => ("SorryWalk$Life", "left", "I", false)
  | 7 => ("SorryWalk$Life", "draws", "I", false)
  | _ => ("SorryWalk$Life", "turns", "[I", true)
def tyX3 : Nat → FieldType := fun k => match k with
  | 0 => .boolean
  | 1 => .int
  | 2 => .int
  | 3 => .int
  | 4 => .int
  | 5 => .int
  | 6 => .int
  | 7 => .int
  | _ => .array .int
abbrev wsX30 : List Cond := u_ws RX3 TX3 9
theorem nmX3 : ∀ a, a < 9 → ∀ b, b < 9 → a ≠ b → (TX3 a).2.1 ≠ (TX3 b).2.1 := by decide +kernel
theorem tyX3_ok : ∀ k, k < 9 → parseFieldDescriptor (TX3 k).2.2.1 = some (tyX3 k) := by decide +kernel
abbrev cX3_init : ByteArray := prog_5_method_1_code
def yX3_init : MethodName := ⟨RX3, "<init>", "()V"⟩
abbrev cX3_run : ByteArray := prog_5_method_2_code
def yX3_run : MethodName := ⟨RX3, "run", "(LSorryWalk$Tales;LSorryWalk$Land;I)V"⟩
abbrev cX3_begin : ByteArray := prog_5_method_3_code
def yX3_begin : MethodName := ⟨RX3, "begin", "(LSorryWalk$Land;I)V"⟩
abbrev cX3_placeBehind : ByteArray := prog_5_method_4_code
def yX3_placeBehind : MethodName := ⟨RX3, "placeBehind", "(LSorryWalk$Tales;LSorryWalk$Land;I)I"⟩
abbrev cX3_holds : ByteArray := prog_5_method_5_code
def yX3_holds : MethodName := ⟨RX3, "holds", "(LSorryWalk$Tales;LSorryWalk$Land;I)Z"⟩
abbrev cX3_compares : ByteArray := prog_5_method_6_code
def yX3_compares : MethodName := ⟨RX3, "compares", "(III)Z"⟩
abbrev cX3_isDone : ByteArray := prog_5_method_7_code
def yX3_isDone : MethodName := ⟨RX3, "isDone", "(LSorryWalk$Tales;LSorryWalk$Land;I)Z"⟩
abbrev cX3_drawLiving : ByteArray := prog_5_method_8_code
def yX3_drawLiving : MethodName := ⟨RX3, "drawLiving", "(LSorryWalk$Land;)I"⟩
def RX4 : String := "SorryWalk$Planner"
def TX4 : u_T := fun k => match k with
  | 0 => ("SorryWalk$Planner", "dream", "LSorryWalk$Land;", true)
  | 1 => ("SorryWalk$Planner", "lasts", "[I", true)
  | _ => ("SorryWalk$Planner", "debtors", "[I", true)
def tyX4 : Nat → FieldType := fun k => match k with
  | 0 => .object "SorryWalk$Land"
  | 1 => .array .int
  | _ => .array .int
abbrev wsX40 : List Cond := u_ws RX4 TX4 3
theorem nmX4 : ∀ a, a < 3 → ∀ b, b < 3 → a ≠ b → (TX4 a).2.1 ≠ (TX4 b).2.1 := by decide +kernel
theorem tyX4_ok : ∀ k, k < 3 → parseFieldDescriptor (TX4 k).2.2.1 = some (tyX4 k) := by decide +kernel
abbrev cX4_init : ByteArray := prog_6_method_1_code
def yX4_init : MethodName := ⟨RX4, "<init>", "()V"⟩
abbrev cX4_sorrowWithout : ByteArray := prog_6_method_2_code
def yX4_sorrowWithout : MethodName := ⟨RX4, "sorrowWithout", "(LSorryWalk$Land;I)I"⟩
abbrev cX4_bestDeath : ByteArray := prog_6_method_3_code
def yX4_bestDeath : MethodName := ⟨RX4, "bestDeath", "(LSorryWalk$Land;)I"⟩
abbrev cX4_bestKeeper : ByteArray := prog_6_method_4_code
def yX4_bestKeeper : MethodName := ⟨RX4, "bestKeeper", "(LSorryWalk$Land;)I"⟩
abbrev cX4_labourWithKeeper : ByteArray := prog_6_method_5_code
def yX4_labourWithKeeper : MethodName := ⟨RX4, "labourWithKeeper", "(LSorryWalk$Land;I)I"⟩
abbrev cX4_leastSalt : ByteArray := prog_6_method_6_code
def yX4_leastSalt : MethodName := ⟨RX4, "leastSalt", "(LSorryWalk$Land;I)I"⟩
abbrev cX4_leastPardon : ByteArray := prog_6_method_7_code
def yX4_leastPardon : MethodName := ⟨RX4, "leastPardon", "(LSorryWalk$Land;II)I"⟩
abbrev cX4_isQuietBy : ByteArray := prog_6_method_8_code
def yX4_isQuietBy : MethodName := ⟨RX4, "isQuietBy", "(LSorryWalk$Land;III)Z"⟩
abbrev cX4_deadCouple : ByteArray := prog_6_method_9_code
def yX4_deadCouple : MethodName := ⟨RX4, "deadCouple", "(LSorryWalk$Land;)I"⟩
abbrev cX4_longestRow : ByteArray := prog_6_method_10_code
def yX4_longestRow : MethodName := ⟨RX4, "longestRow", "(LSorryWalk$Land;)I"⟩
abbrev cX4_lastsOf : ByteArray := prog_6_method_11_code
def yX4_lastsOf : MethodName := ⟨RX4, "lastsOf", "(I)I"⟩
abbrev cX4_bestThreshold : ByteArray := prog_6_method_12_code
def yX4_bestThreshold : MethodName := ⟨RX4, "bestThreshold", "(LSorryWalk$Land;)I"⟩
abbrev cX4_ghostsKeptOff : ByteArray := prog_6_method_13_code
def yX4_ghostsKeptOff : MethodName := ⟨RX4, "ghostsKeptOff", "(LSorryWalk$Land;I)I"⟩
abbrev cX4_reachesSome : ByteArray := prog_6_method_14_code
def yX4_reachesSome : MethodName := ⟨RX4, "reachesSome", "(LSorryWalk$Land;II)Z"⟩
def RX5 : String := "SorryWalk$Roads"
def TX5 : u_T := fun k => match k with
  | 0 => ("SorryWalk$Roads", "houses", "I", false)
  | 1 => ("SorryWalk$Roads", "salt", "I", false)
  | 2 => ("SorryWalk$Roads", "doors", "[I", true)
  | 3 => ("SorryWalk$Roads", "lengths", "[I", true)
  | 4 => ("SorryWalk$Roads", "nexts", "[I", true)
  | _ => ("SorryWalk$Roads", "counts", "[I", true)
def tyX5 : Nat → FieldType := fun k => match k with
  | 0 => .int
  | 1 => .int
  | 2 => .array .int
  | 3 => .array .int
  | 4 => .array .int
  | _ => .array .int
abbrev wsX50 : List Cond := u_ws RX5 TX5 6
theorem nmX5 : ∀ a, a < 6 → ∀ b, b < 6 → a ≠ b → (TX5 a).2.1 ≠ (TX5 b).2.1 := by decide +kernel
theorem tyX5_ok : ∀ k, k < 6 → parseFieldDescriptor (TX5 k).2.2.1 = some (tyX5 k) := by decide +kernel
abbrev cX5_init : ByteArray := prog_7_method_1_code
def yX5_init : MethodName := ⟨RX5, "<init>", "()V"⟩
abbrev cX5_clear : ByteArray := prog_7_method_2_code
def yX5_clear : MethodName := ⟨RX5, "clear", "()V"⟩
abbrev cX5_copyFrom : ByteArray := prog_7_method_3_code
def yX5_copyFrom : MethodName := ⟨RX5, "copyFrom", "(LSorryWalk$Roads;)V"⟩
abbrev cX5_hang : ByteArray := prog_7_method_4_code
def yX5_hang : MethodName := ⟨RX5, "hang", "(IIZ)V"⟩
abbrev cX5_strew : ByteArray := prog_7_method_5_code
def yX5_strew : MethodName := ⟨RX5, "strew", "(IZ)Z"⟩
abbrev cX5_couples : ByteArray := prog_7_method_6_code
def yX5_couples : MethodName := ⟨RX5, "couples", "()I"⟩
abbrev cX5_around : ByteArray := prog_7_method_7_code
def yX5_around : MethodName := ⟨RX5, "around", "(I)I"⟩
abbrev cX5_spread : ByteArray := prog_7_method_8_code
def yX5_spread : MethodName := ⟨RX5, "spread", "(II)I"⟩
abbrev cX5_survey : ByteArray := prog_7_method_9_code
def yX5_survey : MethodName := ⟨RX5, "survey", "()V"⟩
abbrev cX5_measureFrom : ByteArray := prog_7_method_10_code
def yX5_measureFrom : MethodName := ⟨RX5, "measureFrom", "(I)V"⟩
abbrev cX5_leastNext : ByteArray := prog_7_method_11_code
def yX5_leastNext : MethodName := ⟨RX5, "leastNext", "(II)I"⟩
abbrev cX5_distance : ByteArray := prog_7_method_12_code
def yX5_distance : MethodName := ⟨RX5, "distance", "(II)I"⟩
abbrev cX5_nextHouse : ByteArray := prog_7_method_13_code
def yX5_nextHouse : MethodName := ⟨RX5, "nextHouse", "(II)I"⟩
abbrev cX5_straits : ByteArray := prog_7_method_14_code
def yX5_straits : MethodName := ⟨RX5, "straits", "(II)I"⟩
abbrev cX5_shortestWays : ByteArray := prog_7_method_15_code
def yX5_shortestWays : MethodName := ⟨RX5, "shortestWays", "(II)I"⟩
abbrev cX5_waysInto : ByteArray := prog_7_method_16_code
def yX5_waysInto : MethodName := ⟨RX5, "waysInto", "(III)I"⟩
def RX6 : String := "SorryWalk$Seer"
def TX6 : u_T := fun k => match k with
  | 0 => ("SorryWalk$Seer", "dream", "LSorryWalk$Land;", true)
  | _ => ("SorryWalk$Seer", "visits", "[I", true)
def tyX6 : Nat → FieldType := fun k => match k with
  | 0 => .object "SorryWalk$Land"
  | _ => .array .int
abbrev wsX60 : List Cond := u_ws RX6 TX6 2
theorem nmX6 : ∀ a, a < 2 → ∀ b, b < 2 → a ≠ b → (TX6 a).2.1 ≠ (TX6 b).2.1 := by decide +kernel
theorem tyX6_ok : ∀ k, k < 2 → parseFieldDescriptor (TX6 k).2.2.1 = some (tyX6 k) := by decide +kernel
abbrev cX6_init : ByteArray := prog_8_method_1_code
def yX6_init : MethodName := ⟨RX6, "<init>", "()V"⟩
abbrev cX6_after : ByteArray := prog_8_method_2_code
def yX6_after : MethodName := ⟨RX6, "after", "(LSorryWalk$Land;I)LSorryWalk$Land;"⟩
abbrev cX6_nightsToRest : ByteArray := prog_8_method_3_code
def yX6_nightsToRest : MethodName := ⟨RX6, "nightsToRest", "(LSorryWalk$Land;I)I"⟩
abbrev cX6_nightsToQuiet : ByteArray := prog_8_method_4_code
def yX6_nightsToQuiet : MethodName := ⟨RX6, "nightsToQuiet", "(LSorryWalk$Land;I)I"⟩
abbrev cX6_nightsToLabour : ByteArray := prog_8_method_5_code
def yX6_nightsToLabour : MethodName := ⟨RX6, "nightsToLabour", "(LSorryWalk$Land;II)I"⟩
abbrev cX6_nightsToMeeting : ByteArray := prog_8_method_6_code
def yX6_nightsToMeeting : MethodName := ⟨RX6, "nightsToMeeting", "(LSorryWalk$Land;II)I"⟩
abbrev cX6_ghostsSeen : ByteArray := prog_8_method_7_code
def yX6_ghostsSeen : MethodName := ⟨RX6, "ghostsSeen", "(LSorryWalk$Land;II)I"⟩
abbrev cX6_nightsSpent : ByteArray := prog_8_method_8_code
def yX6_nightsSpent : MethodName := ⟨RX6, "nightsSpent", "(LSorryWalk$Land;III)I"⟩
abbrev cX6_housesSeen : ByteArray := prog_8_method_9_code
def yX6_housesSeen : MethodName := ⟨RX6, "housesSeen", "(LSorryWalk$Land;II)I"⟩
abbrev cX6_fullestHouse : ByteArray := prog_8_method_10_code
def yX6_fullestHouse : MethodName := ⟨RX6, "fullestHouse", "(LSorryWalk$Land;I)I"⟩
abbrev cX6_countVisits : ByteArray := prog_8_method_11_code
def yX6_countVisits : MethodName := ⟨RX6, "countVisits", "()V"⟩
def RX7 : String := "SorryWalk$Tales"
def TX7 : u_T := fun k => match k with
  | 0 => ("SorryWalk$Tales", "there", "Z", false)
  | 1 => ("SorryWalk$Tales", "steps", "I", false)
  | 2 => ("SorryWalk$Tales", "size", "I", false)
  | 3 => ("SorryWalk$Tales", "kinds", "[I", true)
  | 4 => ("SorryWalk$Tales", "firsts", "[I", true)
  | 5 => ("SorryWalk$Tales", "seconds", "[I", true)
  | 6 => ("SorryWalk$Tales", "numbers", "[I", true)
  | _ => ("SorryWalk$Tales", "partners", "[I", true)
def tyX7 : Nat → FieldType := fun k => match k with
  | 0 => .boolean
  | 1 => .int
  | 2 => .int
  | 3 => .array .int
  | 4 => .array .int
  | 5 => .array .int
  | 6 => .array .int
  | _ => .array .int
abbrev wsX70 : List Cond := u_ws RX7 TX7 8
theorem nmX7 : ∀ a, a < 8 → ∀ b, b < 8 → a ≠ b → (TX7 a).2.1 ≠ (TX7 b).2.1 := by decide +kernel
theorem tyX7_ok : ∀ k, k < 8 → parseFieldDescriptor (TX7 k).2.2.1 = some (tyX7 k) := by decide +kernel
abbrev cX7_init : ByteArray := prog_9_method_1_code
def yX7_init : MethodName := ⟨RX7, "<init>", "()V"⟩
abbrev cX7_clear : ByteArray := prog_9_method_2_code
def yX7_clear : MethodName := ⟨RX7, "clear", "()V"⟩
abbrev cX7_copyFrom : ByteArray := prog_9_method_3_code
def yX7_copyFrom : MethodName := ⟨RX7, "copyFrom", "(LSorryWalk$Tales;)V"⟩
abbrev cX7_add : ByteArray := prog_9_method_4_code
def yX7_add : MethodName := ⟨RX7, "add", "(IIII)V"⟩
def RX8 : String := "SorryWalk$TalesReader"
def TX8 : u_T := fun k => match k with
  | 0 => ("SorryWalk$TalesReader", "tape", "LSorryWalk$Tape;", true)
  | 1 => ("SorryWalk$TalesReader", "land", "LSorryWalk$Land;", true)
  | 2 => ("SorryWalk$TalesReader", "tales", "LSorryWalk$Tales;", true)
  | 3 => ("SorryWalk$TalesReader", "open", "[I", true)
  | _ => ("SorryWalk$TalesReader", "depth", "I", false)
def tyX8 : Nat → FieldType := fun k => match k with
  | 0 => .object "SorryWalk$Tape"
  | 1 => .object "SorryWalk$Land"
  | 2 => .object "SorryWalk$Tales"
  | 3 => .array .int
  | _ => .int
abbrev wsX80 : List Cond := u_ws RX8 TX8 5
theorem nmX8 : ∀ a, a < 5 → ∀ b, b < 5 → a ≠ b → (TX8 a).2.1 ≠ (TX8 b).2.1 := by decide +kernel
theorem tyX8_ok : ∀ k, k < 5 → parseFieldDescriptor (TX8 k).2.2.1 = some (tyX8 k) := by decide +kernel
abbrev cX8_init : ByteArray := prog_10_method_1_code
def yX8_init : MethodName := ⟨RX8, "<init>", "(LSorryWalk$Tape;LSorryWalk$Land;LSorryWalk$Tales;)V"⟩
abbrev cX8_readAll : ByteArray := prog_10_method_2_code
def yX8_readAll : MethodName := ⟨RX8, "readAll", "(I)V"⟩
abbrev cX8_readEnd : ByteArray := prog_10_method_3_code
def yX8_readEnd : MethodName := ⟨RX8, "readEnd", "()Z"⟩
abbrev cX8_readStep : ByteArray := prog_10_method_4_code
def yX8_readStep : MethodName := ⟨RX8, "readStep", "()Z"⟩
abbrev cX8_isStep : ByteArray := prog_10_method_5_code
def yX8_isStep : MethodName := ⟨RX8, "isStep", "(I)Z"⟩
abbrev cX8_readRest : ByteArray := prog_10_method_6_code
def yX8_readRest : MethodName := ⟨RX8, "readRest", "(I)Z"⟩
abbrev cX8_readCount : ByteArray := prog_10_method_7_code
def yX8_readCount : MethodName := ⟨RX8, "readCount", "(II)Z"⟩
abbrev cX8_readPersonStep : ByteArray := prog_10_method_8_code
def yX8_readPersonStep : MethodName := ⟨RX8, "readPersonStep", "(I)Z"⟩
abbrev cX8_readHouseStep : ByteArray := prog_10_method_9_code
def yX8_readHouseStep : MethodName := ⟨RX8, "readHouseStep", "(I)Z"⟩
abbrev cX8_readForgive : ByteArray := prog_10_method_10_code
def yX8_readForgive : MethodName := ⟨RX8, "readForgive", "()Z"⟩
abbrev cX8_readForge : ByteArray := prog_10_method_11_code
def yX8_readForge : MethodName := ⟨RX8, "readForge", "()Z"⟩
abbrev cX8_readTest : ByteArray := prog_10_method_12_code
def yX8_readTest : MethodName := ⟨RX8, "readTest", "()Z"⟩
abbrev cX8_readLabourTest : ByteArray := prog_10_method_13_code
def yX8_readLabourTest : MethodName := ⟨RX8, "readLabourTest", "()Z"⟩
abbrev cX8_readAtTest : ByteArray := prog_10_method_14_code
def yX8_readAtTest : MethodName := ⟨RX8, "readAtTest", "()Z"⟩
def RX9 : String := "SorryWalk$Tape"
def TX9 : u_T := fun k => match k with
  | 0 => ("SorryWalk$Tape", "bytes", "[I", true)
  | 1 => ("SorryWalk$Tape", "length", "I", false)
  | 2 => ("SorryWalk$Tape", "keywords", "[J", true)
  | 3 => ("SorryWalk$Tape", "textEnd", "I", false)
  | 4 => ("SorryWalk$Tape", "next", "I", false)
  | 5 => ("SorryWalk$Tape", "kind", "I", false)
  | 6 => ("SorryWalk$Tape", "start", "I", false)
  | 7 => ("SorryWalk$Tape", "name", "J", false)
  | 8 => ("SorryWalk$Tape", "keyword", "I", false)
  | 9 => ("SorryWalk$Tape", "value", "I", false)
  | 10 => ("SorryWalk$Tape", "faultKind", "I", false)
  | _ => ("SorryWalk$Tape", "faultPlace", "I", false)
def tyX9 : Nat → FieldType := fun k => match k with
  | 0 => .array .int
  | 1 => .int
  | 2 => .array .long
  | 3 => .int
  | 4 => .int
  | 5 => .int
  | 6 => .int
  | 7 => .long
  | 8 => .int
  | 9 => .int
  | 10 => .int
  | _ => .int
abbrev wsX90 : List Cond := u_ws RX9 TX9 12
theorem nmX9 : ∀ a, a < 12 → ∀ b, b < 12 → a ≠ b → (TX9 a).2.1 ≠ (TX9 b).2.1 := by decide +kernel
theorem tyX9_ok : ∀ k, k < 12 → parseFieldDescriptor (TX9 k).2.2.1 = some (tyX9 k) := by decide +kernel
abbrev cX9_init : ByteArray := prog_11_method_1_code
def yX9_init : MethodName := ⟨RX9, "<init>", "()V"⟩
abbrev cX9_put : ByteArray := prog_11_method_2_code
def yX9_put : MethodName := ⟨RX9, "put", "(I)V"⟩
abbrev cX9_begin : ByteArray := prog_11_method_3_code
def yX9_begin : MethodName := ⟨RX9, "begin", "(I)V"⟩
abbrev cX9_advance : ByteArray := prog_11_method_4_code
def yX9_advance : MethodName := ⟨RX9, "advance", "()V"⟩
abbrev cX9_scanWord : ByteArray := prog_11_method_5_code
def yX9_scanWord : MethodName := ⟨RX9, "scanWord", "()V"⟩
abbrev cX9_scanNumber : ByteArray := prog_11_method_6_code
def yX9_scanNumber : MethodName := ⟨RX9, "scanNumber", "()V"⟩
abbrev cX9_isBlank : ByteArray := prog_11_method_7_code
def yX9_isBlank : MethodName := ⟨RX9, "isBlank", "(I)Z"⟩
abbrev cX9_isLetter : ByteArray := prog_11_method_8_code
def yX9_isLetter : MethodName := ⟨RX9, "isLetter", "(I)Z"⟩
abbrev cX9_isDigit : ByteArray := prog_11_method_9_code
def yX9_isDigit : MethodName := ⟨RX9, "isDigit", "(I)Z"⟩
abbrev cX9_isSign : ByteArray := prog_11_method_10_code
def yX9_isSign : MethodName := ⟨RX9, "isSign", "(I)Z"⟩
abbrev cX9_goesOn : ByteArray := prog_11_method_11_code
def yX9_goesOn : MethodName := ⟨RX9, "goesOn", "()Z"⟩
abbrev cX9_fail : ByteArray := prog_11_method_12_code
def yX9_fail : MethodName := ⟨RX9, "fail", "(I)Z"⟩
abbrev cX9_isWord : ByteArray := prog_11_method_13_code
def yX9_isWord : MethodName := ⟨RX9, "isWord", "(I)Z"⟩
abbrev cX9_isName : ByteArray := prog_11_method_14_code
def yX9_isName : MethodName := ⟨RX9, "isName", "()Z"⟩
abbrev cX9_takeWord : ByteArray := prog_11_method_15_code
def yX9_takeWord : MethodName := ⟨RX9, "takeWord", "(I)Z"⟩
abbrev cX9_takeSemicolon : ByteArray := prog_11_method_16_code
def yX9_takeSemicolon : MethodName := ⟨RX9, "takeSemicolon", "()Z"⟩
abbrev cX9_takeCompare : ByteArray := prog_11_method_17_code
def yX9_takeCompare : MethodName := ⟨RX9, "takeCompare", "()I"⟩
abbrev cX9_takeNumber : ByteArray := prog_11_method_18_code
def yX9_takeNumber : MethodName := ⟨RX9, "takeNumber", "(II)I"⟩
abbrev cX9_houseHere : ByteArray := prog_11_method_19_code
def yX9_houseHere : MethodName := ⟨RX9, "houseHere", "(LSorryWalk$Land;)I"⟩
abbrev cX9_personHere : ByteArray := prog_11_method_20_code
def yX9_personHere : MethodName := ⟨RX9, "personHere", "(LSorryWalk$Land;)I"⟩
abbrev cX9_takeHouse : ByteArray := prog_11_method_21_code
def yX9_takeHouse : MethodName := ⟨RX9, "takeHouse", "(LSorryWalk$Land;)I"⟩
abbrev cX9_takePerson : ByteArray := prog_11_method_22_code
def yX9_takePerson : MethodName := ⟨RX9, "takePerson", "(LSorryWalk$Land;)I"⟩
def RX10 : String := "SorryWalk$Tray"
def TX10 : u_T := fun k => match k with
  | 0 => ("SorryWalk$Tray", "there", "Z", false)
  | 1 => ("SorryWalk$Tray", "sort", "I", false)
  | 2 => ("SorryWalk$Tray", "size", "I", false)
  | _ => ("SorryWalk$Tray", "cells", "[J", true)
def tyX10 : Nat → FieldType := fun k => match k with
  | 0 => .boolean
  | 1 => .int
  | 2 => .int
  | _ => .array .long
abbrev wsX100 : List Cond := u_ws RX10 TX10 4
theorem nmX10 : ∀ a, a < 4 → ∀ b, b < 4 → a ≠ b → (TX10 a).2.1 ≠ (TX10 b).2.1 := by decide +kernel
theorem tyX10_ok : ∀ k, k < 4 → parseFieldDescriptor (TX10 k).2.2.1 = some (tyX10 k) := by decide +kernel
abbrev cX10_init : ByteArray := prog_12_method_1_code
def yX10_init : MethodName := ⟨RX10, "<init>", "()V"⟩
abbrev cX10_lay : ByteArray := prog_12_method_2_code
def yX10_lay : MethodName := ⟨RX10, "lay", "(II)V"⟩
abbrev cX10_holds : ByteArray := prog_12_method_3_code
def yX10_holds : MethodName := ⟨RX10, "holds", "(II)Z"⟩
abbrev cX10_put : ByteArray := prog_12_method_4_code
def yX10_put : MethodName := ⟨RX10, "put", "(IJ)V"⟩
def RX11 : String := "SorryWalk"
def TX11 : u_T := fun k => match k with
  | 0 => ("SorryWalk", "status", "I", false)
  | 1 => ("SorryWalk", "top", "J", false)
  | 2 => ("SorryWalk", "bottom", "J", false)
  | 3 => ("SorryWalk", "trays", "[LSorryWalk$Tray;", true)
  | 4 => ("SorryWalk", "tape", "LSorryWalk$Tape;", true)
  | 5 => ("SorryWalk", "now", "LSorryWalk$Land;", true)
  | 6 => ("SorryWalk", "tales", "LSorryWalk$Tales;", true)
  | 7 => ("SorryWalk", "draft", "LSorryWalk$Land;", true)
  | 8 => ("SorryWalk", "draftTales", "LSorryWalk$Tales;", true)
  | 9 => ("SorryWalk", "landReader", "LSorryWalk$LandReader;", true)
  | 10 => ("SorryWalk", "talesReader", "LSorryWalk$TalesReader;", true)
  | 11 => ("SorryWalk", "seer", "LSorryWalk$Seer;", true)
  | 12 => ("SorryWalk", "planner", "LSorryWalk$Planner;", true)
  | 13 => ("SorryWalk", "life", "LSorryWalk$Life;", true)
  | 14 => ("SorryWalk", "trial", "LSorryWalk$Life;", true)
  | 15 => ("SorryWalk", "markedLands", "[LSorryWalk$Land;", true)
  | 16 => ("SorryWalk", "markedTales", "[LSorryWalk$Tales;", true)
  | _ => ("SorryWalk", "marks", "I", false)
def tyX11 : Nat → FieldType := fun k => match k with
  | 0 => .int
  | 1 => .long
  | 2 => .long
  | 3 => .array (.object "SorryWalk$Tray")
  | 4 => .object "SorryWalk$Tape"
  | 5 => .object "SorryWalk$Land"
  | 6 => .object "SorryWalk$Tales"
  | 7 => .object "SorryWalk$Land"
  | 8 => .object "SorryWalk$Tales"
  | 9 => .object "SorryWalk$LandReader"
  | 10 => .object "SorryWalk$TalesReader"
  | 11 => .object "SorryWalk$Seer"
  | 12 => .object "SorryWalk$Planner"
  | 13 => .object "SorryWalk$Life"
  | 14 => .object "SorryWalk$Life"
  | 15 => .array (.object "SorryWalk$Land")
  | 16 => .array (.object "SorryWalk$Tales")
  | _ => .int
abbrev wsX110 : List Cond := u_ws RX11 TX11 18
theorem nmX11 : ∀ a, a < 18 → ∀ b, b < 18 → a ≠ b → (TX11 a).2.1 ≠ (TX11 b).2.1 := by decide +kernel
theorem tyX11_ok : ∀ k, k < 18 → parseFieldDescriptor (TX11 k).2.2.1 = some (tyX11 k) := by decide +kernel
abbrev cX11_init : ByteArray := prog_1_method_1_code
def yX11_init : MethodName := ⟨RX11, "<init>", "()V"⟩
abbrev cX11_status : ByteArray := prog_1_method_2_code
def yX11_status : MethodName := ⟨RX11, "status", "()I"⟩
abbrev cX11_top : ByteArray := prog_1_method_3_code
def yX11_top : MethodName := ⟨RX11, "top", "()J"⟩
abbrev cX11_bottom : ByteArray := prog_1_method_4_code
def yX11_bottom : MethodName := ⟨RX11, "bottom", "()J"⟩
abbrev cX11_tray : ByteArray := prog_1_method_5_code
def yX11_tray : MethodName := ⟨RX11, "tray", "(III)Z"⟩
abbrev cX11_write : ByteArray := prog_1_method_6_code
def yX11_write : MethodName := ⟨RX11, "write", "(IIJ)Z"⟩
abbrev cX11_read : ByteArray := prog_1_method_7_code
def yX11_read : MethodName := ⟨RX11, "read", "(II)J"⟩
abbrev cX11_pour : ByteArray := prog_1_method_8_code
def yX11_pour : MethodName := ⟨RX11, "pour", "(IIIII)Z"⟩
abbrev cX11_feed : ByteArray := prog_1_method_9_code
def yX11_feed : MethodName := ⟨RX11, "feed", "(IIIII)I"⟩
abbrev cX11_land : ByteArray := prog_1_method_10_code
def yX11_land : MethodName := ⟨RX11, "land", "(I)I"⟩
abbrev cX11_tales : ByteArray := prog_1_method_11_code
def yX11_tales : MethodName := ⟨RX11, "tales", "(I)I"⟩
abbrev cX11_fault : ByteArray := prog_1_method_12_code
def yX11_fault : MethodName := ⟨RX11, "fault", "(I)I"⟩
abbrev cX11_told : ByteArray := prog_1_method_13_code
def yX11_told : MethodName := ⟨RX11, "told", "(I)I"⟩
abbrev cX11_person : ByteArray := prog_1_method_14_code
def yX11_person : MethodName := ⟨RX11, "person", "(II)I"⟩
abbrev cX11_owed : ByteArray := prog_1_method_15_code
def yX11_owed : MethodName := ⟨RX11, "owed", "(II)I"⟩
abbrev cX11_heir : ByteArray := prog_1_method_16_code
def yX11_heir : MethodName := ⟨RX11, "heir", "(II)I"⟩
abbrev cX11_door : ByteArray := prog_1_method_17_code
def yX11_door : MethodName := ⟨RX11, "door", "(II)I"⟩
abbrev cX11_labour : ByteArray := prog_1_method_18_code
def yX11_labour : MethodName := ⟨RX11, "labour", "(I)I"⟩
abbrev cX11_within : ByteArray := prog_1_method_19_code
def yX11_within : MethodName := ⟨RX11, "within", "(II)I"⟩
abbrev cX11_night : ByteArray := prog_1_method_20_code
def yX11_night : MethodName := ⟨RX11, "night", "(I)I"⟩
abbrev cX11_die : ByteArray := prog_1_method_21_code
def yX11_die : MethodName := ⟨RX11, "die", "(I)I"⟩
abbrev cX11_forgive : ByteArray := prog_1_method_22_code
def yX11_forgive : MethodName := ⟨RX11, "forgive", "(II)I"⟩
abbrev cX11_forge : ByteArray := prog_1_method_23_code
def yX11_forge : MethodName := ⟨RX11, "forge", "(III)I"⟩
abbrev cX11_salt : ByteArray := prog_1_method_24_code
def yX11_salt : MethodName := ⟨RX11, "salt", "(IZ)Z"⟩
abbrev cX11_keep : ByteArray := prog_1_method_25_code
def yX11_keep : MethodName := ⟨RX11, "keep", "(IZ)Z"⟩
abbrev cX11_wall : ByteArray := prog_1_method_26_code
def yX11_wall : MethodName := ⟨RX11, "wall", "(IIZ)Z"⟩
abbrev cX11_move : ByteArray := prog_1_method_27_code
def yX11_move : MethodName := ⟨RX11, "move", "(II)Z"⟩
abbrev cX11_way : ByteArray := prog_1_method_28_code
def yX11_way : MethodName := ⟨RX11, "way", "(II)I"⟩
abbrev cX11_aim : ByteArray := prog_1_method_29_code
def yX11_aim : MethodName := ⟨RX11, "aim", "(I)I"⟩
abbrev cX11_step : ByteArray := prog_1_method_30_code
def yX11_step : MethodName := ⟨RX11, "step", "(I)I"⟩
abbrev cX11_walks : ByteArray := prog_1_method_31_code
def yX11_walks : MethodName := ⟨RX11, "walks", "(II)I"⟩
abbrev cX11_later : ByteArray := prog_1_method_32_code
def yX11_later : MethodName := ⟨RX11, "later", "(II)I"⟩
abbrev cX11_rest : ByteArray := prog_1_method_33_code
def yX11_rest : MethodName := ⟨RX11, "rest", "(I)I"⟩
abbrev cX11_quiet : ByteArray := prog_1_method_34_code
def yX11_quiet : MethodName := ⟨RX11, "quiet", "(I)I"⟩
abbrev cX11_harvest : ByteArray := prog_1_method_35_code
def yX11_harvest : MethodName := ⟨RX11, "harvest", "(II)I"⟩
abbrev cX11_visitors : ByteArray := prog_1_method_36_code
def yX11_visitors : MethodName := ⟨RX11, "visitors", "(II)I"⟩
abbrev cX11_stays : ByteArray := prog_1_method_37_code
def yX11_stays : MethodName := ⟨RX11, "stays", "(III)I"⟩
abbrev cX11_must : ByteArray := prog_1_method_38_code
def yX11_must : MethodName := ⟨RX11, "must", "(II)I"⟩
abbrev cX11_reach : ByteArray := prog_1_method_39_code
def yX11_reach : MethodName := ⟨RX11, "reach", "(I)I"⟩
abbrev cX11_tours : ByteArray := prog_1_method_40_code
def yX11_tours : MethodName := ⟨RX11, "tours", "(II)I"⟩
abbrev cX11_meets : ByteArray := prog_1_method_41_code
def yX11_meets : MethodName := ⟨RX11, "meets", "(II)I"⟩
abbrev cX11_crowd : ByteArray := prog_1_method_42_code
def yX11_crowd : MethodName := ⟨RX11, "crowd", "()I"⟩
abbrev cX11_busiest : ByteArray := prog_1_method_43_code
def yX11_busiest : MethodName := ⟨RX11, "busiest", "(I)I"⟩
abbrev cX11_exposed : ByteArray := prog_1_method_44_code
def yX11_exposed : MethodName := ⟨RX11, "exposed", "()I"⟩
abbrev cX11_wells : ByteArray := prog_1_method_45_code
def yX11_wells : MethodName := ⟨RX11, "wells", "(II)I"⟩
abbrev cX11_ways : ByteArray := prog_1_method_46_code
def yX11_ways : MethodName := ⟨RX11, "ways", "(II)I"⟩
abbrev cX11_heirs : ByteArray := prog_1_method_47_code
def yX11_heirs : MethodName := ⟨RX11, "heirs", "(II)I"⟩
abbrev cX11_loss : ByteArray := prog_1_method_48_code
def yX11_loss : MethodName := ⟨RX11, "loss", "(I)I"⟩
abbrev cX11_saint : ByteArray := prog_1_method_49_code
def yX11_saint : MethodName := ⟨RX11, "saint", "()I"⟩
abbrev cX11_keeper : ByteArray := prog_1_method_50_code
def yX11_keeper : MethodName := ⟨RX11, "keeper", "()I"⟩
abbrev cX11_lonely : ByteArray := prog_1_method_51_code
def yX11_lonely : MethodName := ⟨RX11, "lonely", "()I"⟩
abbrev cX11_due : ByteArray := prog_1_method_52_code
def yX11_due : MethodName := ⟨RX11, "due", "(I)I"⟩
abbrev cX11_net : ByteArray := prog_1_method_53_code
def yX11_net : MethodName := ⟨RX11, "net", "(I)I"⟩
abbrev cX11_wedding : ByteArray := prog_1_method_54_code
def yX11_wedding : MethodName := ⟨RX11, "wedding", "(I)I"⟩
abbrev cX11_weddingSet : ByteArray := prog_1_method_55_code
def yX11_weddingSet : MethodName := ⟨RX11, "weddingSet", "(I)I"⟩
abbrev cX11_pardon : ByteArray := prog_1_method_56_code
def yX11_pardon : MethodName := ⟨RX11, "pardon", "(II)I"⟩
abbrev cX11_pardonSet : ByteArray := prog_1_method_57_code
def yX11_pardonSet : MethodName := ⟨RX11, "pardonSet", "(II)I"⟩
abbrev cX11_pair : ByteArray := prog_1_method_58_code
def yX11_pair : MethodName := ⟨RX11, "pair", "(I)I"⟩
abbrev cX11_share : ByteArray := prog_1_method_59_code
def yX11_share : MethodName := ⟨RX11, "share", "(III)I"⟩
abbrev cX11_gracious : ByteArray := prog_1_method_60_code
def yX11_gracious : MethodName := ⟨RX11, "gracious", "()I"⟩
abbrev cX11_deepest : ByteArray := prog_1_method_61_code
def yX11_deepest : MethodName := ⟨RX11, "deepest", "()I"⟩
abbrev cX11_weight : ByteArray := prog_1_method_62_code
def yX11_weight : MethodName := ⟨RX11, "weight", "()Z"⟩
abbrev cX11_mutual : ByteArray := prog_1_method_63_code
def yX11_mutual : MethodName := ⟨RX11, "mutual", "()I"⟩
abbrev cX11_chain : ByteArray := prog_1_method_64_code
def yX11_chain : MethodName := ⟨RX11, "chain", "()I"⟩
abbrev cX11_circle : ByteArray := prog_1_method_65_code
def yX11_circle : MethodName := ⟨RX11, "circle", "(I)I"⟩
abbrev cX11_bestSalt : ByteArray := prog_1_method_66_code
def yX11_bestSalt : MethodName := ⟨RX11, "bestSalt", "()I"⟩
abbrev cX11_live : ByteArray := prog_1_method_67_code
def yX11_live : MethodName := ⟨RX11, "live", "(I)I"⟩
abbrev cX11_lived : ByteArray := prog_1_method_68_code
def yX11_lived : MethodName := ⟨RX11, "lived", "(I)I"⟩
abbrev cX11_mean : ByteArray := prog_1_method_69_code
def yX11_mean : MethodName := ⟨RX11, "mean", "(II)Z"⟩
abbrev cX11_mark : ByteArray := prog_1_method_70_code
def yX11_mark : MethodName := ⟨RX11, "mark", "()I"⟩
abbrev cX11_undo : ByteArray := prog_1_method_71_code
def yX11_undo : MethodName := ⟨RX11, "undo", "()I"⟩
abbrev cX11_answer : ByteArray := prog_1_method_72_code
def yX11_answer : MethodName := ⟨RX11, "answer", "(I)I"⟩
abbrev cX11_answerOrNone : ByteArray := prog_1_method_73_code
def yX11_answerOrNone : MethodName := ⟨RX11, "answerOrNone", "(I)I"⟩
abbrev cX11_answerSize : ByteArray := prog_1_method_74_code
def yX11_answerSize : MethodName := ⟨RX11, "answerSize", "(I)I"⟩
abbrev cX11_refuse : ByteArray := prog_1_method_75_code
def yX11_refuse : MethodName := ⟨RX11, "refuse", "(I)I"⟩
abbrev cX11_grant : ByteArray := prog_1_method_76_code
def yX11_grant : MethodName := ⟨RX11, "grant", "()Z"⟩
abbrev cX11_deny : ByteArray := prog_1_method_77_code
def yX11_deny : MethodName := ⟨RX11, "deny", "(I)Z"⟩
abbrev cX11_isHouse : ByteArray := prog_1_method_78_code
def yX11_isHouse : MethodName := ⟨RX11, "isHouse", "(I)Z"⟩
abbrev cX11_isPerson : ByteArray := prog_1_method_79_code
def yX11_isPerson : MethodName := ⟨RX11, "isPerson", "(I)Z"⟩
abbrev cX11_areTwoHouses : ByteArray := prog_1_method_80_code
def yX11_areTwoHouses : MethodName := ⟨RX11, "areTwoHouses", "(II)Z"⟩
abbrev cX11_areTwoPersons : ByteArray := prog_1_method_81_code
def yX11_areTwoPersons : MethodName := ⟨RX11, "areTwoPersons", "(II)Z"⟩
abbrev cX11_isWithin : ByteArray := prog_1_method_82_code
def yX11_isWithin : MethodName := ⟨RX11, "isWithin", "(II)Z"⟩
abbrev cX11_has : ByteArray := prog_1_method_83_code
def yX11_has : MethodName := ⟨RX11, "has", "(II)Z"⟩
abbrev cX11_bit : ByteArray := prog_1_method_84_code
def yX11_bit : MethodName := ⟨RX11, "bit", "(II)I"⟩
abbrev cX11_troubleAt : ByteArray := prog_1_method_85_code
def yX11_troubleAt : MethodName := ⟨RX11, "troubleAt", "(II)I"⟩
abbrev cX11_tellFraction : ByteArray := prog_1_method_86_code
def yX11_tellFraction : MethodName := ⟨RX11, "tellFraction", "(II)V"⟩
def RX12 : String := "SorryWalkModel"
def TX12 : u_T := fun k => match k with
  | 0 => ("SorryWalkModel", "at", "[I", true)
  | 1 => ("SorryWalkModel", "names", "[J", true)
  | 2 => ("SorryWalkModel", "status", "I", false)
  | 3 => ("SorryWalkModel", "top", "J", false)
  | 4 => ("SorryWalkModel", "bottom", "J", false)
  | 5 => ("SorryWalkModel", "sort", "[I", true)
  | 6 => ("SorryWalkModel", "trayMany", "[I", true)
  | 7 => ("SorryWalkModel", "trays", "[J", true)
  | 8 => ("SorryWalkModel", "tape", "[B", true)
  | 9 => ("SorryWalkModel", "text", "[B", true)
  | 10 => ("SorryWalkModel", "taped", "I", false)
  | 11 => ("SorryWalkModel", "size", "I", false)
  | 12 => ("SorryWalkModel", "token", "I", false)
  | 13 => ("SorryWalkModel", "from", "I", false)
  | 14 => ("SorryWalkModel", "end", "I", false)
  | 15 => ("SorryWalkModel", "value", "I", false)
  | 16 => ("SorryWalkModel", "faultKind", "I", false)
  | 17 => ("SorryWalkModel", "faultPlace", "I", false)
  | 18 => ("SorryWalkModel", "faults", "I", false)
  | 19 => ("SorryWalkModel", "seen", "I", false)
  | 20 => ("SorryWalkModel", "opened", "[I", true)
  | 21 => ("SorryWalkModel", "depth", "I", false)
  | 22 => ("SorryWalkModel", "counted", "I", false)
  | 23 => ("SorryWalkModel", "by", "[I", true)
  | 24 => ("SorryWalkModel", "ghostsIn", "[I", true)
  | 25 => ("SorryWalkModel", "shortest", "[I", true)
  | 26 => ("SorryWalkModel", "endsBy", "[I", true)
  | 27 => ("SorryWalkModel", "drawn", "I", false)
  | 28 => ("SorryWalkModel", "ranSteps", "I", false)
  | 29 => ("SorryWalkModel", "loops", "[I", true)
  | 30 => ("SorryWalkModel", "ran", "[I", true)
  | 31 => ("SorryWalkModel", "told1", "[I", true)
  | 32 => ("SorryWalkModel", "isTold", "Z", false)
  | _ => ("SorryWalkModel", "marks", "I", false)
def tyX12 : Nat → FieldType := fun k => match k with
  | 0 => .array .int
  | 1 => .array .long
  | 2 => .int
  | 3 => .long
  | 4 => .long
  | 5 => .array .int
  | 6 => .array .int
  | 7 => .array .long
  | 8 => .array .byte
  | 9 => .array .byte
  | 10 => .int
  | 11 => .int
  | 12 => .int
  | 13 => .int
  | 14 => .int
  | 15 => .int
  | 16 => .int
  | 17 => .int
  | 18 => .int
  | 19 => .int
  | 20 => .array .int
  | 21 => .int
  | 22 => .int
  | 23 => .array .int
  | 24 => .array .int
  | 25 => .array .int
  | 26 => .array .int
  | 27 => .int
  | 28 => .int
  | 29 => .array .int
  | 30 => .array .int
  | 31 => .array .int
  | 32 => .boolean
  | _ => .int
abbrev wsX120 : List Cond := u_ws RX12 TX12 34
theorem nmX12 : ∀ a, a < 34 → ∀ b, b < 34 → a ≠ b → (TX12 a).2.1 ≠ (TX12 b).2.1 := by decide +kernel
theorem tyX12_ok : ∀ k, k < 34 → parseFieldDescriptor (TX12 k).2.2.1 = some (tyX12 k) := by decide +kernel
abbrev cX12_init : ByteArray := prog_14_method_1_code
def yX12_init : MethodName := ⟨RX12, "<init>", "()V"⟩
abbrev cX12_plain : ByteArray := prog_14_method_2_code
def yX12_plain : MethodName := ⟨RX12, "plain", "(I)V"⟩
abbrev cX12_status : ByteArray := prog_14_method_3_code
def yX12_status : MethodName := ⟨RX12, "status", "()I"⟩
abbrev cX12_top : ByteArray := prog_14_method_4_code
def yX12_top : MethodName := ⟨RX12, "top", "()J"⟩
abbrev cX12_bottom : ByteArray := prog_14_method_5_code
def yX12_bottom : MethodName := ⟨RX12, "bottom", "()J"⟩
abbrev cX12_is : ByteArray := prog_14_method_6_code
def yX12_is : MethodName := ⟨RX12, "is", "(I)Z"⟩
abbrev cX12_refuse : ByteArray := prog_14_method_7_code
def yX12_refuse : MethodName := ⟨RX12, "refuse", "(I)I"⟩
abbrev cX12_gives : ByteArray := prog_14_method_8_code
def yX12_gives : MethodName := ⟨RX12, "gives", "(I)I"⟩
abbrev cX12_orNone : ByteArray := prog_14_method_9_code
def yX12_orNone : MethodName := ⟨RX12, "orNone", "(I)I"⟩
abbrev cX12_tellsBy : ByteArray := prog_14_method_10_code
def yX12_tellsBy : MethodName := ⟨RX12, "tellsBy", "(JJ)Z"⟩
abbrev cX12_isTray : ByteArray := prog_14_method_11_code
def yX12_isTray : MethodName := ⟨RX12, "isTray", "(I)Z"⟩
abbrev cX12_cut : ByteArray := prog_14_method_12_code
def yX12_cut : MethodName := ⟨RX12, "cut", "(JI)J"⟩
abbrev cX12_tray : ByteArray := prog_14_method_13_code
def yX12_tray : MethodName := ⟨RX12, "tray", "(III)Z"⟩
abbrev cX12_wrongPlace : ByteArray := prog_14_method_14_code
def yX12_wrongPlace : MethodName := ⟨RX12, "wrongPlace", "(II)I"⟩
abbrev cX12_write : ByteArray := prog_14_method_15_code
def yX12_write : MethodName := ⟨RX12, "write", "(IIJ)Z"⟩
abbrev cX12_read : ByteArray := prog_14_method_16_code
def yX12_read : MethodName := ⟨RX12, "read", "(II)J"⟩
abbrev cX12_pour : ByteArray := prog_14_method_17_code
def yX12_pour : MethodName := ⟨RX12, "pour", "(IIIII)Z"⟩
abbrev cX12_isFrom : ByteArray := prog_14_method_18_code
def yX12_isFrom : MethodName := ⟨RX12, "isFrom", "(JJJ)Z"⟩
abbrev cX12_feed : ByteArray := prog_14_method_19_code
def yX12_feed : MethodName := ⟨RX12, "feed", "(IIIII)I"⟩
abbrev cX12_four : ByteArray := prog_14_method_20_code
def yX12_four : MethodName := ⟨RX12, "four", "(I)V"⟩
abbrev cX12_byteAt : ByteArray := prog_14_method_21_code
def yX12_byteAt : MethodName := ⟨RX12, "byteAt", "(I)I"⟩
abbrev cX12_isSmall : ByteArray := prog_14_method_22_code
def yX12_isSmall : MethodName := ⟨RX12, "isSmall", "(I)Z"⟩
abbrev cX12_isDigit : ByteArray := prog_14_method_23_code
def yX12_isDigit : MethodName := ⟨RX12, "isDigit", "(I)Z"⟩
abbrev cX12_ahead : ByteArray := prog_14_method_24_code
def yX12_ahead : MethodName := ⟨RX12, "ahead", "()V"⟩
abbrev cX12_isSign : ByteArray := prog_14_method_25_code
def yX12_isSign : MethodName := ⟨RX12, "isSign", "(I)Z"⟩
abbrev cX12_inWords : ByteArray := prog_14_method_26_code
def yX12_inWords : MethodName := ⟨RX12, "inWords", "(Ljava/lang/String;)I"⟩
abbrev cX12_fails : ByteArray := prog_14_method_27_code
def yX12_fails : MethodName := ⟨RX12, "fails", "(I)Z"⟩
abbrev cX12_begins : ByteArray := prog_14_method_28_code
def yX12_begins : MethodName := ⟨RX12, "begins", "(II)Z"⟩
abbrev cX12_wantSign : ByteArray := prog_14_method_29_code
def yX12_wantSign : MethodName := ⟨RX12, "wantSign", "(I)Z"⟩
abbrev cX12_wantWord : ByteArray := prog_14_method_30_code
def yX12_wantWord : MethodName := ⟨RX12, "wantWord", "(Ljava/lang/String;I)Z"⟩
abbrev cX12_number : ByteArray := prog_14_method_31_code
def yX12_number : MethodName := ⟨RX12, "number", "(III)Z"⟩
abbrev cX12_isName : ByteArray := prog_14_method_32_code
def yX12_isName : MethodName := ⟨RX12, "isName", "(Ljava/lang/String;)Z"⟩
abbrev cX12_nameHere : ByteArray := prog_14_method_33_code
def yX12_nameHere : MethodName := ⟨RX12, "nameHere", "()J"⟩
abbrev cX12_findHere : ByteArray := prog_14_method_34_code
def yX12_findHere : MethodName := ⟨RX12, "findHere", "(II)I"⟩
abbrev cX12_fault : ByteArray := prog_14_method_35_code
def yX12_fault : MethodName := ⟨RX12, "fault", "(I)I"⟩
abbrev cX12_taken : ByteArray := prog_14_method_36_code
def yX12_taken : MethodName := ⟨RX12, "taken", "(I)I"⟩
abbrev cX12_isThere : ByteArray := prog_14_method_37_code
def yX12_isThere : MethodName := ⟨RX12, "isThere", "(I)Z"⟩
abbrev cX12_newOne : ByteArray := prog_14_method_38_code
def yX12_newOne : MethodName := ⟨RX12, "newOne", "(III)Z"⟩
abbrev cX12_oldOne : ByteArray := prog_14_method_39_code
def yX12_oldOne : MethodName := ⟨RX12, "oldOne", "(III)Z"⟩
abbrev cX12_aHouse : ByteArray := prog_14_method_40_code
def yX12_aHouse : MethodName := ⟨RX12, "aHouse", "()Z"⟩
abbrev cX12_twoTo : ByteArray := prog_14_method_41_code
def yX12_twoTo : MethodName := ⟨RX12, "twoTo", "(III)Z"⟩
abbrev cX12_aDoor : ByteArray := prog_14_method_42_code
def yX12_aDoor : MethodName := ⟨RX12, "aDoor", "()Z"⟩
abbrev cX12_aPerson : ByteArray := prog_14_method_43_code
def yX12_aPerson : MethodName := ⟨RX12, "aPerson", "()Z"⟩
abbrev cX12_aDebt : ByteArray := prog_14_method_44_code
def yX12_aDebt : MethodName := ⟨RX12, "aDebt", "()Z"⟩
abbrev cX12_anHeir : ByteArray := prog_14_method_45_code
def yX12_anHeir : MethodName := ⟨RX12, "anHeir", "()Z"⟩
abbrev cX12_landPart : ByteArray := prog_14_method_46_code
def yX12_landPart : MethodName := ⟨RX12, "landPart", "()Z"⟩
abbrev cX12_land : ByteArray := prog_14_method_47_code
def yX12_land : MethodName := ⟨RX12, "land", "(I)I"⟩
abbrev cX12_houseTo : ByteArray := prog_14_method_48_code
def yX12_houseTo : MethodName := ⟨RX12, "houseTo", "(I)Z"⟩
abbrev cX12_personTo : ByteArray := prog_14_method_49_code
def yX12_personTo : MethodName := ⟨RX12, "personTo", "(I)Z"⟩
abbrev cX12_test : ByteArray := prog_14_method_50_code
def yX12_test : MethodName := ⟨RX12, "test", "(I)Z"⟩
abbrev cX12_taleOrder : ByteArray := prog_14_method_51_code
def yX12_taleOrder : MethodName := ⟨RX12, "taleOrder", "(II)Z"⟩
abbrev cX12_taleStep : ByteArray := prog_14_method_52_code
def yX12_taleStep : MethodName := ⟨RX12, "taleStep", "()Z"⟩
abbrev cX12_tales : ByteArray := prog_14_method_53_code
def yX12_tales : MethodName := ⟨RX12, "tales", "(I)I"⟩
abbrev cX12_houseRow : ByteArray := prog_14_method_54_code
def yX12_houseRow : MethodName := ⟨RX12, "houseRow", "(I)I"⟩
abbrev cX12_personRow : ByteArray := prog_14_method_55_code
def yX12_personRow : MethodName := ⟨RX12, "personRow", "(I)I"⟩
abbrev cX12_isHouse : ByteArray := prog_14_method_56_code
def yX12_isHouse : MethodName := ⟨RX12, "isHouse", "(I)Z"⟩
abbrev cX12_isPerson : ByteArray := prog_14_method_57_code
def yX12_isPerson : MethodName := ⟨RX12, "isPerson", "(I)Z"⟩
abbrev cX12_areTwo : ByteArray := prog_14_method_58_code
def yX12_areTwo : MethodName := ⟨RX12, "areTwo", "(II)Z"⟩
abbrev cX12_isIn : ByteArray := prog_14_method_59_code
def yX12_isIn : MethodName := ⟨RX12, "isIn", "(II)Z"⟩
abbrev cX12_bits : ByteArray := prog_14_method_60_code
def yX12_bits : MethodName := ⟨RX12, "bits", "(I)I"⟩
abbrev cX12_isSalt : ByteArray := prog_14_method_61_code
def yX12_isSalt : MethodName := ⟨RX12, "isSalt", "(I)Z"⟩
abbrev cX12_isDead : ByteArray := prog_14_method_62_code
def yX12_isDead : MethodName := ⟨RX12, "isDead", "(I)Z"⟩
abbrev cX12_whereOf : ByteArray := prog_14_method_63_code
def yX12_whereOf : MethodName := ⟨RX12, "whereOf", "(I)I"⟩
abbrev cX12_owes : ByteArray := prog_14_method_64_code
def yX12_owes : MethodName := ⟨RX12, "owes", "(II)I"⟩
abbrev cX12_owesNow : ByteArray := prog_14_method_65_code
def yX12_owesNow : MethodName := ⟨RX12, "owesNow", "(III)V"⟩
abbrev cX12_owesAll : ByteArray := prog_14_method_66_code
def yX12_owesAll : MethodName := ⟨RX12, "owesAll", "(I)I"⟩
abbrev cX12_owedAll : ByteArray := prog_14_method_67_code
def yX12_owedAll : MethodName := ⟨RX12, "owedAll", "(I)I"⟩
abbrev cX12_sorrow : ByteArray := prog_14_method_68_code
def yX12_sorrow : MethodName := ⟨RX12, "sorrow", "()I"⟩
abbrev cX12_isGhost : ByteArray := prog_14_method_69_code
def yX12_isGhost : MethodName := ⟨RX12, "isGhost", "(I)Z"⟩
abbrev cX12_setOf : ByteArray := prog_14_method_70_code
def yX12_setOf : MethodName := ⟨RX12, "setOf", "(I)I"⟩
abbrev cX12_told : ByteArray := prog_14_method_71_code
def yX12_told : MethodName := ⟨RX12, "told", "(I)I"⟩
abbrev cX12_person : ByteArray := prog_14_method_72_code
def yX12_person : MethodName := ⟨RX12, "person", "(II)I"⟩
abbrev cX12_owed : ByteArray := prog_14_method_73_code
def yX12_owed : MethodName := ⟨RX12, "owed", "(II)I"⟩
abbrev cX12_heir : ByteArray := prog_14_method_74_code
def yX12_heir : MethodName := ⟨RX12, "heir", "(II)I"⟩
abbrev cX12_isDoor : ByteArray := prog_14_method_75_code
def yX12_isDoor : MethodName := ⟨RX12, "isDoor", "(II)Z"⟩
abbrev cX12_door : ByteArray := prog_14_method_76_code
def yX12_door : MethodName := ⟨RX12, "door", "(II)I"⟩
abbrev cX12_labour : ByteArray := prog_14_method_77_code
def yX12_labour : MethodName := ⟨RX12, "labour", "(I)I"⟩
abbrev cX12_inHouse : ByteArray := prog_14_method_78_code
def yX12_inHouse : MethodName := ⟨RX12, "inHouse", "(I)I"⟩
abbrev cX12_within : ByteArray := prog_14_method_79_code
def yX12_within : MethodName := ⟨RX12, "within", "(II)I"⟩
abbrev cX12_laysWays : ByteArray := prog_14_method_80_code
def yX12_laysWays : MethodName := ⟨RX12, "laysWays", "(II)V"⟩
abbrev cX12_aimOf : ByteArray := prog_14_method_81_code
def yX12_aimOf : MethodName := ⟨RX12, "aimOf", "(I)I"⟩
abbrev cX12_nextOn : ByteArray := prog_14_method_82_code
def yX12_nextOn : MethodName := ⟨RX12, "nextOn", "(II)I"⟩
abbrev cX12_stepOf : ByteArray := prog_14_method_83_code
def yX12_stepOf : MethodName := ⟨RX12, "stepOf", "(I)I"⟩
abbrev cX12_sorries : ByteArray := prog_14_method_84_code
def yX12_sorries : MethodName := ⟨RX12, "sorries", "(II)V"⟩
abbrev cX12_night0 : ByteArray := prog_14_method_85_code
def yX12_night0 : MethodName := ⟨RX12, "night0", "()V"⟩
abbrev cX12_night : ByteArray := prog_14_method_86_code
def yX12_night : MethodName := ⟨RX12, "night", "(I)I"⟩
abbrev cX12_heirsBut : ByteArray := prog_14_method_87_code
def yX12_heirsBut : MethodName := ⟨RX12, "heirsBut", "(II)I"⟩
abbrev cX12_isHeirOf : ByteArray := prog_14_method_88_code
def yX12_isHeirOf : MethodName := ⟨RX12, "isHeirOf", "(II)Z"⟩
abbrev cX12_partOf : ByteArray := prog_14_method_89_code
def yX12_partOf : MethodName := ⟨RX12, "partOf", "(III)I"⟩
abbrev cX12_dies : ByteArray := prog_14_method_90_code
def yX12_dies : MethodName := ⟨RX12, "dies", "(I)Z"⟩
abbrev cX12_die : ByteArray := prog_14_method_91_code
def yX12_die : MethodName := ⟨RX12, "die", "(I)I"⟩
abbrev cX12_forgives : ByteArray := prog_14_method_92_code
def yX12_forgives : MethodName := ⟨RX12, "forgives", "(II)I"⟩
abbrev cX12_forgive : ByteArray := prog_14_method_93_code
def yX12_forgive : MethodName := ⟨RX12, "forgive", "(II)I"⟩
abbrev cX12_forges : ByteArray := prog_14_method_94_code
def yX12_forges : MethodName := ⟨RX12, "forges", "(III)Z"⟩
abbrev cX12_forge : ByteArray := prog_14_method_95_code
def yX12_forge : MethodName := ⟨RX12, "forge", "(III)I"⟩
abbrev cX12_turns : ByteArray := prog_14_method_96_code
def yX12_turns : MethodName := ⟨RX12, "turns", "(IZ)Z"⟩
abbrev cX12_salt : ByteArray := prog_14_method_97_code
def yX12_salt : MethodName := ⟨RX12, "salt", "(IZ)Z"⟩
abbrev cX12_keep : ByteArray := prog_14_method_98_code
def yX12_keep : MethodName := ⟨RX12, "keep", "(IZ)Z"⟩
abbrev cX12_wall : ByteArray := prog_14_method_99_code
def yX12_wall : MethodName := ⟨RX12, "wall", "(IIZ)Z"⟩
abbrev cX12_move : ByteArray := prog_14_method_100_code
def yX12_move : MethodName := ⟨RX12, "move", "(II)Z"⟩
abbrev cX12_way : ByteArray := prog_14_method_101_code
def yX12_way : MethodName := ⟨RX12, "way", "(II)I"⟩
abbrev cX12_aim : ByteArray := prog_14_method_102_code
def yX12_aim : MethodName := ⟨RX12, "aim", "(I)I"⟩
abbrev cX12_step : ByteArray := prog_14_method_103_code
def yX12_step : MethodName := ⟨RX12, "step", "(I)I"⟩
abbrev cX12_keeps : ByteArray := prog_14_method_104_code
def yX12_keeps : MethodName := ⟨RX12, "keeps", "(I)V"⟩
abbrev cX12_restores : ByteArray := prog_14_method_105_code
def yX12_restores : MethodName := ⟨RX12, "restores", "(I)V"⟩
abbrev cX12_nights : ByteArray := prog_14_method_106_code
def yX12_nights : MethodName := ⟨RX12, "nights", "(I)V"⟩
abbrev cX12_isLater : ByteArray := prog_14_method_107_code
def yX12_isLater : MethodName := ⟨RX12, "isLater", "(I)Z"⟩
abbrev cX12_walks : ByteArray := prog_14_method_108_code
def yX12_walks : MethodName := ⟨RX12, "walks", "(II)I"⟩
abbrev cX12_later : ByteArray := prog_14_method_109_code
def yX12_later : MethodName := ⟨RX12, "later", "(II)I"⟩
abbrev cX12_isSo : ByteArray := prog_14_method_110_code
def yX12_isSo : MethodName := ⟨RX12, "isSo", "(III)Z"⟩
abbrev cX12_nightsTill : ByteArray := prog_14_method_111_code
def yX12_nightsTill : MethodName := ⟨RX12, "nightsTill", "(IIII)I"⟩
abbrev cX12_rest : ByteArray := prog_14_method_112_code
def yX12_rest : MethodName := ⟨RX12, "rest", "(I)I"⟩
abbrev cX12_quiet : ByteArray := prog_14_method_113_code
def yX12_quiet : MethodName := ⟨RX12, "quiet", "(I)I"⟩
abbrev cX12_harvest : ByteArray := prog_14_method_114_code
def yX12_harvest : MethodName := ⟨RX12, "harvest", "(II)I"⟩
abbrev cX12_visitors : ByteArray := prog_14_method_115_code
def yX12_visitors : MethodName := ⟨RX12, "visitors", "(II)I"⟩
abbrev cX12_stays : ByteArray := prog_14_method_116_code
def yX12_stays : MethodName := ⟨RX12, "stays", "(III)I"⟩
abbrev cX12_must : ByteArray := prog_14_method_117_code
def yX12_must : MethodName := ⟨RX12, "must", "(II)I"⟩
abbrev cX12_reach : ByteArray := prog_14_method_118_code
def yX12_reach : MethodName := ⟨RX12, "reach", "(I)I"⟩
abbrev cX12_tours : ByteArray := prog_14_method_119_code
def yX12_tours : MethodName := ⟨RX12, "tours", "(II)I"⟩
abbrev cX12_meets : ByteArray := prog_14_method_120_code
def yX12_meets : MethodName := ⟨RX12, "meets", "(II)I"⟩
abbrev cX12_mostOf : ByteArray := prog_14_method_121_code
def yX12_mostOf : MethodName := ⟨RX12, "mostOf", "([I)I"⟩
abbrev cX12_counts : ByteArray := prog_14_method_122_code
def yX12_counts : MethodName := ⟨RX12, "counts", "()V"⟩
abbrev cX12_clears : ByteArray := prog_14_method_123_code
def yX12_clears : MethodName := ⟨RX12, "clears", "()V"⟩
abbrev cX12_crowd : ByteArray := prog_14_method_124_code
def yX12_crowd : MethodName := ⟨RX12, "crowd", "()I"⟩
abbrev cX12_busiest : ByteArray := prog_14_method_125_code
def yX12_busiest : MethodName := ⟨RX12, "busiest", "(I)I"⟩
abbrev cX12_exposed : ByteArray := prog_14_method_126_code
def yX12_exposed : MethodName := ⟨RX12, "exposed", "()I"⟩
abbrev cX12_wells : ByteArray := prog_14_method_127_code
def yX12_wells : MethodName := ⟨RX12, "wells", "(II)I"⟩
abbrev cX12_ways : ByteArray := prog_14_method_128_code
def yX12_ways : MethodName := ⟨RX12, "ways", "(II)I"⟩
abbrev cX12_heirs : ByteArray := prog_14_method_129_code
def yX12_heirs : MethodName := ⟨RX12, "heirs", "(II)I"⟩
abbrev cX12_sorrowBehind : ByteArray := prog_14_method_130_code
def yX12_sorrowBehind : MethodName := ⟨RX12, "sorrowBehind", "(I)I"⟩
abbrev cX12_loss : ByteArray := prog_14_method_131_code
def yX12_loss : MethodName := ⟨RX12, "loss", "(I)I"⟩
abbrev cX12_saint : ByteArray := prog_14_method_132_code
def yX12_saint : MethodName := ⟨RX12, "saint", "()I"⟩
abbrev cX12_labourBy : ByteArray := prog_14_method_133_code
def yX12_labourBy : MethodName := ⟨RX12, "labourBy", "(I)I"⟩
abbrev cX12_keeper : ByteArray := prog_14_method_134_code
def yX12_keeper : MethodName := ⟨RX12, "keeper", "()I"⟩
abbrev cX12_lonely : ByteArray := prog_14_method_135_code
def yX12_lonely : MethodName := ⟨RX12, "lonely", "()I"⟩
abbrev cX12_due : ByteArray := prog_14_method_136_code
def yX12_due : MethodName := ⟨RX12, "due", "(I)I"⟩
abbrev cX12_net : ByteArray := prog_14_method_137_code
def yX12_net : MethodName := ⟨RX12, "net", "(I)I"⟩
abbrev cX12_isHaunted : ByteArray := prog_14_method_138_code
def yX12_isHaunted : MethodName := ⟨RX12, "isHaunted", "(I)Z"⟩
abbrev cX12_weddingOf : ByteArray := prog_14_method_139_code
def yX12_weddingOf : MethodName := ⟨RX12, "weddingOf", "(I)I"⟩
abbrev cX12_wedding : ByteArray := prog_14_method_140_code
def yX12_wedding : MethodName := ⟨RX12, "wedding", "(I)I"⟩
abbrev cX12_weddingSet : ByteArray := prog_14_method_141_code
def yX12_weddingSet : MethodName := ⟨RX12, "weddingSet", "(I)I"⟩
abbrev cX12_pardonOf : ByteArray := prog_14_method_142_code
def yX12_pardonOf : MethodName := ⟨RX12, "pardonOf", "(II)I"⟩
abbrev cX12_isPardon : ByteArray := prog_14_method_143_code
def yX12_isPardon : MethodName := ⟨RX12, "isPardon", "(II)Z"⟩
abbrev cX12_pardon : ByteArray := prog_14_method_144_code
def yX12_pardon : MethodName := ⟨RX12, "pardon", "(II)I"⟩
abbrev cX12_pardonSet : ByteArray := prog_14_method_145_code
def yX12_pardonSet : MethodName := ⟨RX12, "pardonSet", "(II)I"⟩
abbrev cX12_areMutual : ByteArray := prog_14_method_146_code
def yX12_areMutual : MethodName := ⟨RX12, "areMutual", "(II)Z"⟩
abbrev cX12_pair : ByteArray := prog_14_method_147_code
def yX12_pair : MethodName := ⟨RX12, "pair", "(I)I"⟩
abbrev cX12_share : ByteArray := prog_14_method_148_code
def yX12_share : MethodName := ⟨RX12, "share", "(III)I"⟩
abbrev cX12_gracious : ByteArray := prog_14_method_149_code
def yX12_gracious : MethodName := ⟨RX12, "gracious", "()I"⟩
abbrev cX12_deepest : ByteArray := prog_14_method_150_code
def yX12_deepest : MethodName := ⟨RX12, "deepest", "()I"⟩
abbrev cX12_weight : ByteArray := prog_14_method_151_code
def yX12_weight : MethodName := ⟨RX12, "weight", "()Z"⟩
abbrev cX12_mutual : ByteArray := prog_14_method_152_code
def yX12_mutual : MethodName := ⟨RX12, "mutual", "()I"⟩
abbrev cX12_chain : ByteArray := prog_14_method_153_code
def yX12_chain : MethodName := ⟨RX12, "chain", "()I"⟩
abbrev cX12_circle : ByteArray := prog_14_method_154_code
def yX12_circle : MethodName := ⟨RX12, "circle", "(I)I"⟩
abbrev cX12_bestSalt : ByteArray := prog_14_method_155_code
def yX12_bestSalt : MethodName := ⟨RX12, "bestSalt", "()I"⟩
abbrev cX12_draw : ByteArray := prog_14_method_156_code
def yX12_draw : MethodName := ⟨RX12, "draw", "(I)I"⟩
abbrev cX12_diesBy : ByteArray := prog_14_method_157_code
def yX12_diesBy : MethodName := ⟨RX12, "diesBy", "(I)Z"⟩
abbrev cX12_diesAny : ByteArray := prog_14_method_158_code
def yX12_diesAny : MethodName := ⟨RX12, "diesAny", "()Z"⟩
abbrev cX12_nightsBy : ByteArray := prog_14_method_159_code
def yX12_nightsBy : MethodName := ⟨RX12, "nightsBy", "(I)Z"⟩
abbrev cX12_does : ByteArray := prog_14_method_160_code
def yX12_does : MethodName := ⟨RX12, "does", "(I)Z"⟩
abbrev cX12_holds : ByteArray := prog_14_method_161_code
def yX12_holds : MethodName := ⟨RX12, "holds", "(I)Z"⟩
abbrev cX12_behindEnds : ByteArray := prog_14_method_162_code
def yX12_behindEnds : MethodName := ⟨RX12, "behindEnds", "(I)I"⟩
abbrev cX12_lives : ByteArray := prog_14_method_163_code
def yX12_lives : MethodName := ⟨RX12, "lives", "(I)V"⟩
abbrev cX12_live : ByteArray := prog_14_method_164_code
def yX12_live : MethodName := ⟨RX12, "live", "(I)I"⟩
abbrev cX12_lived : ByteArray := prog_14_method_165_code
def yX12_lived : MethodName := ⟨RX12, "lived", "(I)I"⟩
abbrev cX12_mean : ByteArray := prog_14_method_166_code
def yX12_mean : MethodName := ⟨RX12, "mean", "(II)Z"⟩
abbrev cX12_copies : ByteArray := prog_14_method_167_code
def yX12_copies : MethodName := ⟨RX12, "copies", "(II)V"⟩
abbrev cX12_mark : ByteArray := prog_14_method_168_code
def yX12_mark : MethodName := ⟨RX12, "mark", "()I"⟩
abbrev cX12_undo : ByteArray := prog_14_method_169_code
def yX12_undo : MethodName := ⟨RX12, "undo", "()I"⟩
def RJ6 : String := "java/lang/Integer"
abbrev cJ6_bitCount_0f7a4 : ByteArray := prog_15_method_49_code
def yJ6_bitCount_0f7a4 : MethodName := ⟨RJ6, "bitCount", "(I)I"⟩
def RJ9 : String := "java/lang/Math"
abbrev cJ9_max_7cf53 : ByteArray := prog_16_method_65_code
def yJ9_max_7cf53 : MethodName := ⟨RJ9, "max", "(II)I"⟩
abbrev cJ9_min_7cf53 : ByteArray := prog_16_method_69_code
def yJ9_min_7cf53 : MethodName := ⟨RJ9, "min", "(II)I"⟩
def RJ0 : String := "java/lang/String"
abbrev cJ0_length_8abf5 : ByteArray := prog_17_method_54_code
def yJ0_length_8abf5 : MethodName := ⟨RJ0, "length", "()I"⟩
abbrev cJ0_charAt_5068e : ByteArray := prog_17_method_56_code
def yJ0_charAt_5068e : MethodName := ⟨RJ0, "charAt", "(I)C"⟩
abbrev cJ0_coder_7d493 : ByteArray := prog_17_method_152_code
def yJ0_coder_7d493 : MethodName := ⟨RJ0, "coder", "()B"⟩
abbrev cJ0_isLatin1_aae02 : ByteArray := prog_17_method_154_code
def yJ0_isLatin1_aae02 : MethodName := ⟨RJ0, "isLatin1", "()Z"⟩
abbrev cJ0_checkIndex_df160 : ByteArray := prog_17_method_155_code
def yJ0_checkIndex_df160 : MethodName := ⟨RJ0, "checkIndex", "(II)V"⟩
def RJ1 : String := "java/lang/StringLatin1"
abbrev cJ1_charAt_3b067 : ByteArray := prog_18_method_2_code
def yJ1_charAt_3b067 : MethodName := ⟨RJ1, "charAt", "([BI)C"⟩
def RJ2 : String := "java/lang/StringUTF16"
abbrev cJ2_getChar_3b067 : ByteArray := prog_19_method_5_code
def yJ2_getChar_3b067 : MethodName := ⟨RJ2, "getChar", "([BI)C"⟩
abbrev cJ2_length_9d52b : ByteArray := prog_19_method_6_code
def yJ2_length_9d52b : MethodName := ⟨RJ2, "length", "([B)I"⟩
abbrev cJ2_charAt_3b067 : ByteArray := prog_19_method_83_code
def yJ2_charAt_3b067 : MethodName := ⟨RJ2, "charAt", "([BI)C"⟩
abbrev cJ2_checkIndex_2214a : ByteArray := prog_19_method_91_code
def yJ2_checkIndex_2214a : MethodName := ⟨RJ2, "checkIndex", "(I[B)V"⟩
def RJ10 : String := "java/lang/System"
def RJ7 : String := "java/util/Arrays"
abbrev cJ7_fill_d0a16 : ByteArray := prog_21_method_101_code
def yJ7_fill_d0a16 : MethodName := ⟨RJ7, "fill", "([JJ)V"⟩
abbrev cJ7_fill_53178 : ByteArray := prog_21_method_103_code
def yJ7_fill_53178 : MethodName := ⟨RJ7, "fill", "([II)V"⟩
def RJ3 : String := "jdk/internal/util/Preconditions"
abbrev cJ3_checkIndex_8e157 : ByteArray := prog_22_method_11_code
def yJ3_checkIndex_8e157 : MethodName := ⟨RJ3, "checkIndex", "(IILjava/util/function/BiFunction;)I"⟩
def RL : String := "SorryWalkLaw"
abbrev cL_law : ByteArray := code
def yL_law : MethodName := ⟨RL, "law", "([I)Z"⟩
abbrev vwCl : List vw_C := [(RX0, TX0, 2), (RX1, TX1, 15), (RX2, TX2, 2), (RX3, TX3, 9), (RX4, TX4, 3), (RX5, TX5, 6), (RX6, TX6, 2), (RX7, TX7, 8), (RX8, TX8, 5), (RX9, TX9, 12), (RX10, TX10, 4), (RX11, TX11, 18), (RX12, TX12, 34)]
